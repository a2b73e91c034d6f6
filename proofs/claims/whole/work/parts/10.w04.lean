/-! WirelessCell.check()I -/
def rmX11_check : Room := { frames := 2, cells := 0, slots := 0, locals := 46 }
def F_X11_check  (S : Mm) : Option (Int32 × Mm) :=
  gf S 105 0 fun x1 =>
  if (x1 + 4) ≤ 300 then (
  gf S 105 0 fun x2 =>
  cl (F_X2_writeFcs 55 0 x2 S) fun r3 S4 =>
  gf S4 105 0 fun x6 =>
  pf S4 105 0 (x6 + 4) fun S7 =>
  gf S7 105 0 fun x8 =>
  some (x8, S7))
  else (
  some ((-1), S))
set_option maxRecDepth 100000 in
set_option maxHeartbeats 4000000 in
theorem w_X11_check_0 {p : Program} {l : Launch} {e : Env} {s : State} {m : MethodId} {args : Array Value} {below : List Frame} {meth : Method} {c : Code} {G : xG} {sz : Nat} {o : Int32 × Mm} (X : xC G false sz p s m args c cX11_check 1 wsX11_check RX11 meth (some .int))  {S : Mm} {H : Heap} {locs : List Loc} {ls : Array Slot} (hW : xW G false sz s H locs S) (hl : lv_has ls 1 [(0, .ref (G.2.2 10 0))]) (h : F_X11_check  S = some o) : wX p l e rmX11_check s m args below meth c H locs (xQi G false sz o) (XA G false sz) 0 ls [] := by
  unfold F_X11_check at h
  refine lv_aload_n X.1 X.2.1 dX11_check_0 rfl (lv_at hl 0 rfl) ?_
  refine x_getI X hW fd_Cell_tapeLength (fun w h => List.mem_cons_of_mem _ (gin_X11 w h)) (List.mem_cons_of_mem _ gw260) z_1 dX11_check_1 h (fun x1 h => ?_)
  refine lv_iconst (v := 4) X.1 X.2.1 dX11_check_4 rfl ?_
  refine lv_iadd X.1 X.2.1 dX11_check_5 ?_
  refine lv_sipush (v := 300) X.1 X.2.1 dX11_check_6 rfl ?_
  refine x_icmp_le X (tgt := 14) dX11_check_9 (by decide) h (fun h => ?_) (fun h => ?_)
  · refine lv_aload_n X.1 X.2.1 dX11_check_14 rfl (lv_at hl 0 rfl) ?_
    refine x_getR X hW fd_Cell_tape (fun w h => List.mem_cons_of_mem _ (gin_X11 w h)) (List.mem_cons_of_mem _ gw39) z_1 dX11_check_15 ?_
    refine lv_aload_n X.1 X.2.1 dX11_check_18 rfl (lv_at hl 0 rfl) ?_
    refine x_getI X hW fd_Cell_tapeLength (fun w h => List.mem_cons_of_mem _ (gin_X11 w h)) (List.mem_cons_of_mem _ gw260) z_1 dX11_check_19 h (fun x2 h => ?_)
    obtain ⟨r3, S4, h5, h⟩ := cl_some h
    refine x_aftV X hW (x_runS (As := [.ref (G.2.2 55 0), .int x2]) (rest := []) X hW (c_X2_writeFcs l G X.2.2.2.2.2.2.2.2.2.1 _ S 55 0 x2 _ h5) (va_cwS 2 X.2.2.2.2.1 (gS gw303 gw304 gw267 gw305) rfl rfl rfl hd_X2_writeFcs ⟨Nat.le_of_ble_eq_true rfl, Nat.le_of_ble_eq_true rfl⟩) rfl hl.1 rfl (Nat.le_of_ble_eq_true rfl) dX11_check_22 ⟨Nat.zero_le _, Nat.zero_le _⟩) (fun H locs hW => ?_)
    refine lv_aload_n X.1 X.2.1 dX11_check_25 rfl (lv_at hl 0 rfl) ?_
    refine lv_dup X.1 X.2.1 dX11_check_26 rfl ?_
    refine x_getI X hW fd_Cell_tapeLength (fun w h => List.mem_cons_of_mem _ (gin_X11 w h)) (List.mem_cons_of_mem _ gw260) z_1 dX11_check_27 h (fun x6 h => ?_)
    refine lv_iconst (v := 4) X.1 X.2.1 dX11_check_30 rfl ?_
    refine lv_iadd X.1 X.2.1 dX11_check_31 ?_
    refine x_putI X hW fd_Cell_tapeLength (fun w h => List.mem_cons_of_mem _ (gin_X11 w h)) (List.mem_cons_of_mem _ gw260) z_1 dX11_check_32 tyX11 tyX11_ok nmX11 rfl rfl rfl h (fun S7 H locs h hW => ?_)
    refine lv_aload_n X.1 X.2.1 dX11_check_35 rfl (lv_at hl 0 rfl) ?_
    refine x_getI X hW fd_Cell_tapeLength (fun w h => List.mem_cons_of_mem _ (gin_X11 w h)) (List.mem_cons_of_mem _ gw260) z_1 dX11_check_36 h (fun x8 h => ?_)
    exact x_iret X hW h dX11_check_39
  · refine lv_iconst (v := (-1)) X.1 X.2.1 dX11_check_12 rfl ?_
    exact x_iret X hW h dX11_check_13
theorem c_X11_check (l : Launch) (G : xG) (hD : xD G false) (sz : Nat) (S : Mm)  (o : Int32 × Mm) (h : F_X11_check  S = some o) : Met l yX11_check wsX11_check rmX11_check (xPre G false S sz [.ref (G.2.2 10 0)]) (xQi G false sz o) 0 0 (XA G false sz) :=
  x_start hD (by decide) rfl (Nat.le_of_ble_eq_true rfl) (fun p e s m below meth c X hW ls hl => w_X11_check_0 X  hW hl h)

/-! WirelessCell.copy(I)I -/
def rmX11_copy : Room := { frames := 2, cells := 0, slots := 0, locals := 43 }
def F_X11_copy (v1 : Int32) (S : Mm) : Option (Int32 × Mm) :=
  cl (F_X5_rowOf v1 S) fun r1 S2 =>
  if r1 = (-1) then (
  some ((-1), S2))
  else (
  ldA S2 28 0 40 1 r1 fun x4 =>
  pf S2 105 0 x4 fun S5 =>
  ldR S5 26 0 40 1 r1 40 fun i6 =>
  gf S5 105 0 fun x7 =>
  cpP false S5 27 i6 0 55 0 0 x7 fun S8 =>
  gf S8 105 0 fun x9 =>
  some (x9, S8))
set_option maxRecDepth 100000 in
set_option maxHeartbeats 4000000 in
theorem w_X11_copy_0 {p : Program} {l : Launch} {e : Env} {s : State} {m : MethodId} {args : Array Value} {below : List Frame} {meth : Method} {c : Code} {G : xG} {sz : Nat} {o : Int32 × Mm} (X : xC G false sz p s m args c cX11_copy 3 wsX11_copy RX11 meth (some .int)) (v1 : Int32) {S : Mm} {H : Heap} {locs : List Loc} {ls : Array Slot} (hW : xW G false sz s H locs S) (hl : lv_has ls 3 [(0, .ref (G.2.2 10 0)), (1, .int v1)]) (h : F_X11_copy v1 S = some o) : wX p l e rmX11_copy s m args below meth c H locs (xQi G false sz o) (XA G false sz) 0 ls [] := by
  unfold F_X11_copy at h
  refine lv_aload_n X.1 X.2.1 dX11_copy_0 rfl (lv_at hl 0 rfl) ?_
  refine x_getR X hW fd_Cell_medium (fun w h => List.mem_cons_of_mem _ (gin_X11 w h)) (List.mem_cons_of_mem _ gw21) z_1 dX11_copy_1 ?_
  refine lv_iload_n X.1 X.2.1 dX11_copy_4 rfl (lv_at hl 1 rfl) ?_
  obtain ⟨r1, S2, h3, h⟩ := cl_some h
  refine x_aftI X hW (x_runV (C := RX5) (a := G.2.2 4 0) (As := [.int v1]) (rest := []) X hW (c_X5_rowOf l G X.2.2.2.2.2.2.2.2.2.1 _ S v1 _ h3) (cwV 1 X.2.2.2.2.1 (gV gw328 gw329 gw330 gw20 gw331) rfl rfl rfl ⟨rfl, hd_X5_rowOf⟩ ⟨Nat.le_of_ble_eq_true rfl, Nat.le_of_ble_eq_true rfl⟩) (x_recv X hW ob_Medium z_1) rfl hl.1 rfl (Nat.le_of_ble_eq_true rfl) dX11_copy_5 ⟨Nat.zero_le _, Nat.zero_le _⟩) (fun H locs hW => ?_)
  refine lv_istore_n (lv' := [(2, .int r1), (0, .ref (G.2.2 10 0)), (1, .int v1)]) X.1 X.2.1 dX11_copy_8 rfl hl (by decide) rfl (fun ls hl => ?_)
  refine lv_iload_n X.1 X.2.1 dX11_copy_9 rfl (lv_at hl 0 rfl) ?_
  refine lv_iconst (v := (-1)) X.1 X.2.1 dX11_copy_10 rfl ?_
  refine x_icmp_ne X (tgt := 16) dX11_copy_11 (by decide) h (fun h => ?_) (fun h => ?_)
  · refine lv_aload_n X.1 X.2.1 dX11_copy_16 rfl (lv_at hl 1 rfl) ?_
    refine lv_aload_n X.1 X.2.1 dX11_copy_17 rfl (lv_at hl 1 rfl) ?_
    refine x_getR X hW fd_Cell_medium (fun w h => List.mem_cons_of_mem _ (gin_X11 w h)) (List.mem_cons_of_mem _ gw21) z_1 dX11_copy_18 ?_
    refine x_getR X hW fd_Medium_lengths (fun w h => List.mem_cons_of_mem _ (gin_X5 w h)) (List.mem_cons_of_mem _ gw322) z_1 dX11_copy_21 ?_
    refine lv_iload_n X.1 X.2.1 dX11_copy_24 rfl (lv_at hl 0 rfl) ?_
    refine x_iald X hW ar_28 dX11_copy_25 h (fun x4 h => ?_)
    refine x_putI X hW fd_Cell_tapeLength (fun w h => List.mem_cons_of_mem _ (gin_X11 w h)) (List.mem_cons_of_mem _ gw260) z_1 dX11_copy_26 tyX11 tyX11_ok nmX11 rfl rfl rfl h (fun S5 H locs h hW => ?_)
    refine lv_aload_n X.1 X.2.1 dX11_copy_29 rfl (lv_at hl 1 rfl) ?_
    refine x_getR X hW fd_Cell_medium (fun w h => List.mem_cons_of_mem _ (gin_X11 w h)) (List.mem_cons_of_mem _ gw21) z_1 dX11_copy_30 ?_
    refine x_getR X hW fd_Medium_rows (fun w h => List.mem_cons_of_mem _ (gin_X5 w h)) (List.mem_cons_of_mem _ gw323) z_1 dX11_copy_33 ?_
    refine lv_iload_n X.1 X.2.1 dX11_copy_36 rfl (lv_at hl 0 rfl) ?_
    refine x_aald X hW ar_26 (ct := 27) rfl (at_26 G) rfl dX11_copy_37 h (fun i6 qi6 h => ?_)
    refine lv_iconst (v := 0) X.1 X.2.1 dX11_copy_38 rfl ?_
    refine lv_aload_n X.1 X.2.1 dX11_copy_39 rfl (lv_at hl 1 rfl) ?_
    refine x_getR X hW fd_Cell_tape (fun w h => List.mem_cons_of_mem _ (gin_X11 w h)) (List.mem_cons_of_mem _ gw39) z_1 dX11_copy_40 ?_
    refine lv_iconst (v := 0) X.1 X.2.1 dX11_copy_43 rfl ?_
    refine lv_aload_n X.1 X.2.1 dX11_copy_44 rfl (lv_at hl 1 rfl) ?_
    refine x_getI X hW fd_Cell_tapeLength (fun w h => List.mem_cons_of_mem _ (gin_X11 w h)) (List.mem_cons_of_mem _ gw260) z_1 dX11_copy_45 h (fun x7 h => ?_)
    refine x_acopy X hW hl.1 (List.mem_cons_of_mem _ gw324) (List.mem_cons_of_mem _ gw325) (List.mem_cons_of_mem _ gw326) (List.mem_cons_of_mem _ gw327) (Nat.le_of_ble_eq_true rfl) (Nat.le_of_ble_eq_true rfl) dX11_copy_48 h (fun S8 H locs h hW => ?_)
    refine lv_aload_n X.1 X.2.1 dX11_copy_51 rfl (lv_at hl 1 rfl) ?_
    refine x_getI X hW fd_Cell_tapeLength (fun w h => List.mem_cons_of_mem _ (gin_X11 w h)) (List.mem_cons_of_mem _ gw260) z_1 dX11_copy_52 h (fun x9 h => ?_)
    exact x_iret X hW h dX11_copy_55
  · refine lv_iconst (v := (-1)) X.1 X.2.1 dX11_copy_14 rfl ?_
    exact x_iret X hW h dX11_copy_15
theorem c_X11_copy (l : Launch) (G : xG) (hD : xD G false) (sz : Nat) (S : Mm) (v1 : Int32) (o : Int32 × Mm) (h : F_X11_copy v1 S = some o) : Met l yX11_copy wsX11_copy rmX11_copy (xPre G false S sz [.ref (G.2.2 10 0), .int v1]) (xQi G false sz o) 0 0 (XA G false sz) :=
  x_start hD (by decide) rfl (Nat.le_of_ble_eq_true rfl) (fun p e s m below meth c X hW ls hl => w_X11_copy_0 X v1 hW hl h)

/-! WirelessCell.tape(I)I -/
def rmX11_tape : Room := { frames := 0, cells := 0, slots := 0, locals := 0 }
def L_X11_tape_21   (S : Mm) : Option (Int32 × Mm) :=
  some ((-1), S)
def F_X11_tape (v1 : Int32) (S : Mm) : Option (Int32 × Mm) :=
  if v1 < 0 then (
  L_X11_tape_21  S)
  else (
  gf S 105 0 fun x1 =>
  if x1 ≤ v1 then (
  L_X11_tape_21  S)
  else (
  ldA S 55 0 300 1 v1 fun x2 =>
  some (x2, S)))
set_option maxRecDepth 100000 in
set_option maxHeartbeats 4000000 in
theorem w_X11_tape_21 {p : Program} {l : Launch} {e : Env} {s : State} {m : MethodId} {args : Array Value} {below : List Frame} {meth : Method} {c : Code} {G : xG} {sz : Nat} {o : Int32 × Mm} (X : xC G false sz p s m args c cX11_tape 2 wsX11_tape RX11 meth (some .int))    {S : Mm} {H : Heap} {locs : List Loc} {ls : Array Slot} (hW : xW G false sz s H locs S) (hl : lv_has ls 2 []) (h : L_X11_tape_21   S = some o) : wX p l e rmX11_tape s m args below meth c H locs (xQi G false sz o) (XA G false sz) 21 ls [] := by
  unfold L_X11_tape_21 at h
  refine lv_iconst (v := (-1)) X.1 X.2.1 dX11_tape_21 rfl ?_
  exact x_iret X hW h dX11_tape_22
set_option maxRecDepth 100000 in
set_option maxHeartbeats 4000000 in
theorem w_X11_tape_0 {p : Program} {l : Launch} {e : Env} {s : State} {m : MethodId} {args : Array Value} {below : List Frame} {meth : Method} {c : Code} {G : xG} {sz : Nat} {o : Int32 × Mm} (X : xC G false sz p s m args c cX11_tape 2 wsX11_tape RX11 meth (some .int)) (v1 : Int32) {S : Mm} {H : Heap} {locs : List Loc} {ls : Array Slot} (hW : xW G false sz s H locs S) (hl : lv_has ls 2 [(0, .ref (G.2.2 10 0)), (1, .int v1)]) (h : F_X11_tape v1 S = some o) : wX p l e rmX11_tape s m args below meth c H locs (xQi G false sz o) (XA G false sz) 0 ls [] := by
  unfold F_X11_tape at h
  refine lv_iload_n X.1 X.2.1 dX11_tape_0 rfl (lv_at hl 1 rfl) ?_
  refine x_if_lt X (tgt := 21) dX11_tape_1 (by decide) h (fun h => ?_) (fun h => ?_)
  · exact w_X11_tape_21 X    hW (lv_sub hl [] rfl) h
  · refine lv_iload_n X.1 X.2.1 dX11_tape_4 rfl (lv_at hl 1 rfl) ?_
    refine lv_aload_n X.1 X.2.1 dX11_tape_5 rfl (lv_at hl 0 rfl) ?_
    refine x_getI X hW fd_Cell_tapeLength (fun w h => List.mem_cons_of_mem _ (gin_X11 w h)) (List.mem_cons_of_mem _ gw260) z_1 dX11_tape_6 h (fun x1 h => ?_)
    refine x_icmp_ge X (tgt := 21) dX11_tape_9 (by decide) h (fun h => ?_) (fun h => ?_)
    · exact w_X11_tape_21 X    hW (lv_sub hl [] rfl) h
    · refine lv_aload_n X.1 X.2.1 dX11_tape_12 rfl (lv_at hl 0 rfl) ?_
      refine x_getR X hW fd_Cell_tape (fun w h => List.mem_cons_of_mem _ (gin_X11 w h)) (List.mem_cons_of_mem _ gw39) z_1 dX11_tape_13 ?_
      refine lv_iload_n X.1 X.2.1 dX11_tape_16 rfl (lv_at hl 1 rfl) ?_
      refine x_iald X hW ar_55 dX11_tape_17 h (fun x2 h => ?_)
      refine lv_goto (tgt := 22) X.1 X.2.1 dX11_tape_18 (by decide) ?_
      exact x_iret X hW h dX11_tape_22
theorem c_X11_tape (l : Launch) (G : xG) (hD : xD G false) (sz : Nat) (S : Mm) (v1 : Int32) (o : Int32 × Mm) (h : F_X11_tape v1 S = some o) : Met l yX11_tape wsX11_tape rmX11_tape (xPre G false S sz [.ref (G.2.2 10 0), .int v1]) (xQi G false sz o) 0 0 (XA G false sz) :=
  x_start hD (by decide) rfl (Nat.le_of_ble_eq_true rfl) (fun p e s m below meth c X hW ls hl => w_X11_tape_0 X v1 hW hl h)

/-! WirelessCell.isStation(I)Z -/
def rmX11_isStation : Room := { frames := 0, cells := 0, slots := 0, locals := 0 }
def L_X11_isStation_14   (S : Mm) : Option (Int32 × Mm) :=
  some (0, S)
def F_X11_isStation (v0 : Int32) (S : Mm) : Option (Int32 × Mm) :=
  if v0 ≤ 0 then (
  L_X11_isStation_14  S)
  else (
  if 9 ≤ v0 then (
  L_X11_isStation_14  S)
  else (
  some (1, S)))
set_option maxRecDepth 100000 in
set_option maxHeartbeats 4000000 in
theorem w_X11_isStation_14 {p : Program} {l : Launch} {e : Env} {s : State} {m : MethodId} {args : Array Value} {below : List Frame} {meth : Method} {c : Code} {G : xG} {sz : Nat} {o : Int32 × Mm} (X : xC G false sz p s m args c cX11_isStation 1 wsX11_isStation RX11 meth (some .boolean))    {S : Mm} {H : Heap} {locs : List Loc} {ls : Array Slot} (hW : xW G false sz s H locs S) (hl : lv_has ls 1 []) (h : L_X11_isStation_14   S = some o) : wX p l e rmX11_isStation s m args below meth c H locs (xQi G false sz o) (XA G false sz) 14 ls [] := by
  unfold L_X11_isStation_14 at h
  refine lv_iconst (v := 0) X.1 X.2.1 dX11_isStation_14 rfl ?_
  exact x_zret X hW h rfl dX11_isStation_15
set_option maxRecDepth 100000 in
set_option maxHeartbeats 4000000 in
theorem w_X11_isStation_0 {p : Program} {l : Launch} {e : Env} {s : State} {m : MethodId} {args : Array Value} {below : List Frame} {meth : Method} {c : Code} {G : xG} {sz : Nat} {o : Int32 × Mm} (X : xC G false sz p s m args c cX11_isStation 1 wsX11_isStation RX11 meth (some .boolean)) (v0 : Int32) {S : Mm} {H : Heap} {locs : List Loc} {ls : Array Slot} (hW : xW G false sz s H locs S) (hl : lv_has ls 1 [(0, .int v0)]) (h : F_X11_isStation v0 S = some o) : wX p l e rmX11_isStation s m args below meth c H locs (xQi G false sz o) (XA G false sz) 0 ls [] := by
  unfold F_X11_isStation at h
  refine lv_iload_n X.1 X.2.1 dX11_isStation_0 rfl (lv_at hl 0 rfl) ?_
  refine x_if_le X (tgt := 14) dX11_isStation_1 (by decide) h (fun h => ?_) (fun h => ?_)
  · exact w_X11_isStation_14 X    hW (lv_sub hl [] rfl) h
  · refine lv_iload_n X.1 X.2.1 dX11_isStation_4 rfl (lv_at hl 0 rfl) ?_
    refine lv_bipush (v := 9) X.1 X.2.1 dX11_isStation_5 rfl ?_
    refine x_icmp_ge X (tgt := 14) dX11_isStation_7 (by decide) h (fun h => ?_) (fun h => ?_)
    · exact w_X11_isStation_14 X    hW (lv_sub hl [] rfl) h
    · refine lv_iconst (v := 1) X.1 X.2.1 dX11_isStation_10 rfl ?_
      refine lv_goto (tgt := 15) X.1 X.2.1 dX11_isStation_11 (by decide) ?_
      exact x_zret X hW h rfl dX11_isStation_15
theorem c_X11_isStation (l : Launch) (G : xG) (hD : xD G false) (sz : Nat) (S : Mm) (v0 : Int32) (o : Int32 × Mm) (h : F_X11_isStation v0 S = some o) : Met l yX11_isStation wsX11_isStation rmX11_isStation (xPre G false S sz [.int v0]) (xQi G false sz o) 0 0 (XA G false sz) :=
  x_start hD (by decide) rfl (Nat.le_of_ble_eq_true rfl) (fun p e s m below meth c X hW ls hl => w_X11_isStation_0 X v0 hW hl h)

/-! WirelessCell.fillByLongs([IJJJJ)V -/
def rmX11_fillByLongs : Room := { frames := 1, cells := 0, slots := 0, locals := 25 }
def F_X11_fillByLongs (cv0 : Nat) (v0 : Nat) (v1 : Int64) (v3 : Int64) (v5 : Int64) (v7 : Int64) (S : Mm) : Option (Unit × Mm) :=
  cl (F_X2_writeHighestFirst cv0 v0 0 8 v1 S) fun r1 S2 =>
  cl (F_X2_writeHighestFirst cv0 v0 8 8 v3 S2) fun r4 S5 =>
  cl (F_X2_writeHighestFirst cv0 v0 16 8 v5 S5) fun r7 S8 =>
  cl (F_X2_writeHighestFirst cv0 v0 24 8 v7 S8) fun r10 S11 =>
  some ((), S11)
set_option maxRecDepth 100000 in
set_option maxHeartbeats 4000000 in
theorem w_X11_fillByLongs_0 {p : Program} {l : Launch} {e : Env} {s : State} {m : MethodId} {args : Array Value} {below : List Frame} {meth : Method} {c : Code} {G : xG} {sz : Nat} {o : Unit × Mm} (X : xC G false sz p s m args c cX11_fillByLongs 9 wsX11_fillByLongs RX11 meth none) (cv0 : Nat) (v0 : Nat) (v1 : Int64) (v3 : Int64) (v5 : Int64) (v7 : Int64) {S : Mm} {H : Heap} {locs : List Loc} {ls : Array Slot} (hW : xW G false sz s H locs S) (hl : lv_has ls 9 [(0, .ref (G.2.2 cv0 v0)), (1, .long v1), (3, .long v3), (5, .long v5), (7, .long v7)]) (h : F_X11_fillByLongs cv0 v0 v1 v3 v5 v7 S = some o) : wX p l e rmX11_fillByLongs s m args below meth c H locs (xQv G false sz o) (XA G false sz) 0 ls [] := by
  unfold F_X11_fillByLongs at h
  refine lv_aload_n X.1 X.2.1 dX11_fillByLongs_0 rfl (lv_at hl 0 rfl) ?_
  refine lv_iconst (v := 0) X.1 X.2.1 dX11_fillByLongs_1 rfl ?_
  refine lv_bipush (v := 8) X.1 X.2.1 dX11_fillByLongs_2 rfl ?_
  refine lv_lload_n X.1 X.2.1 dX11_fillByLongs_4 rfl (lv_at hl 1 rfl) ?_
  obtain ⟨r1, S2, h3, h⟩ := cl_some h
  refine x_aftV X hW (x_runS (As := [.ref (G.2.2 cv0 v0), .int 0, .int 8, .long v1]) (rest := []) X hW (c_X2_writeHighestFirst l G X.2.2.2.2.2.2.2.2.2.1 _ S cv0 v0 0 8 v1 _ h3) (va_cwS 4 X.2.2.2.2.1 (gS gw265 gw266 gw267 gw268) rfl rfl rfl hd_X2_writeHighestFirst ⟨Nat.le_of_ble_eq_true rfl, Nat.le_of_ble_eq_true rfl⟩) rfl hl.1 rfl (Nat.le_of_ble_eq_true rfl) dX11_fillByLongs_5 ⟨Nat.zero_le _, Nat.zero_le _⟩) (fun H locs hW => ?_)
  refine lv_aload_n X.1 X.2.1 dX11_fillByLongs_8 rfl (lv_at hl 0 rfl) ?_
  refine lv_bipush (v := 8) X.1 X.2.1 dX11_fillByLongs_9 rfl ?_
  refine lv_bipush (v := 8) X.1 X.2.1 dX11_fillByLongs_11 rfl ?_
  refine lv_lload_n X.1 X.2.1 dX11_fillByLongs_13 rfl (lv_at hl 2 rfl) ?_
  obtain ⟨r4, S5, h6, h⟩ := cl_some h
  refine x_aftV X hW (x_runS (As := [.ref (G.2.2 cv0 v0), .int 8, .int 8, .long v3]) (rest := []) X hW (c_X2_writeHighestFirst l G X.2.2.2.2.2.2.2.2.2.1 _ S2 cv0 v0 8 8 v3 _ h6) (va_cwS 4 X.2.2.2.2.1 (gS gw265 gw266 gw267 gw268) rfl rfl rfl hd_X2_writeHighestFirst ⟨Nat.le_of_ble_eq_true rfl, Nat.le_of_ble_eq_true rfl⟩) rfl hl.1 rfl (Nat.le_of_ble_eq_true rfl) dX11_fillByLongs_14 ⟨Nat.zero_le _, Nat.zero_le _⟩) (fun H locs hW => ?_)
  refine lv_aload_n X.1 X.2.1 dX11_fillByLongs_17 rfl (lv_at hl 0 rfl) ?_
  refine lv_bipush (v := 16) X.1 X.2.1 dX11_fillByLongs_18 rfl ?_
  refine lv_bipush (v := 8) X.1 X.2.1 dX11_fillByLongs_20 rfl ?_
  refine lv_lload X.1 X.2.1 dX11_fillByLongs_22 (lv_at hl 3 rfl) ?_
  obtain ⟨r7, S8, h9, h⟩ := cl_some h
  refine x_aftV X hW (x_runS (As := [.ref (G.2.2 cv0 v0), .int 16, .int 8, .long v5]) (rest := []) X hW (c_X2_writeHighestFirst l G X.2.2.2.2.2.2.2.2.2.1 _ S5 cv0 v0 16 8 v5 _ h9) (va_cwS 4 X.2.2.2.2.1 (gS gw265 gw266 gw267 gw268) rfl rfl rfl hd_X2_writeHighestFirst ⟨Nat.le_of_ble_eq_true rfl, Nat.le_of_ble_eq_true rfl⟩) rfl hl.1 rfl (Nat.le_of_ble_eq_true rfl) dX11_fillByLongs_24 ⟨Nat.zero_le _, Nat.zero_le _⟩) (fun H locs hW => ?_)
  refine lv_aload_n X.1 X.2.1 dX11_fillByLongs_27 rfl (lv_at hl 0 rfl) ?_
  refine lv_bipush (v := 24) X.1 X.2.1 dX11_fillByLongs_28 rfl ?_
  refine lv_bipush (v := 8) X.1 X.2.1 dX11_fillByLongs_30 rfl ?_
  refine lv_lload X.1 X.2.1 dX11_fillByLongs_32 (lv_at hl 4 rfl) ?_
  obtain ⟨r10, S11, h12, h⟩ := cl_some h
  refine x_aftV X hW (x_runS (As := [.ref (G.2.2 cv0 v0), .int 24, .int 8, .long v7]) (rest := []) X hW (c_X2_writeHighestFirst l G X.2.2.2.2.2.2.2.2.2.1 _ S8 cv0 v0 24 8 v7 _ h12) (va_cwS 4 X.2.2.2.2.1 (gS gw265 gw266 gw267 gw268) rfl rfl rfl hd_X2_writeHighestFirst ⟨Nat.le_of_ble_eq_true rfl, Nat.le_of_ble_eq_true rfl⟩) rfl hl.1 rfl (Nat.le_of_ble_eq_true rfl) dX11_fillByLongs_34 ⟨Nat.zero_le _, Nat.zero_le _⟩) (fun H locs hW => ?_)
  exact x_vret X hW h dX11_fillByLongs_37
theorem c_X11_fillByLongs (l : Launch) (G : xG) (hD : xD G false) (sz : Nat) (S : Mm) (cv0 : Nat) (v0 : Nat) (v1 : Int64) (v3 : Int64) (v5 : Int64) (v7 : Int64) (o : Unit × Mm) (h : F_X11_fillByLongs cv0 v0 v1 v3 v5 v7 S = some o) : Met l yX11_fillByLongs wsX11_fillByLongs rmX11_fillByLongs (xPre G false S sz [.ref (G.2.2 cv0 v0), .long v1, .long v3, .long v5, .long v7]) (xQv G false sz o) 0 0 (XA G false sz) :=
  x_start hD (by decide) rfl (Nat.le_of_ble_eq_true rfl) (fun p e s m below meth c X hW ls hl => w_X11_fillByLongs_0 X cv0 v0 v1 v3 v5 v7 hW hl h)

/-! WirelessCell.secret(IJJJJ)I -/
def rmX11_secret : Room := { frames := 2, cells := 0, slots := 0, locals := 53 }
def F_X11_secret (v1 : Int32) (v2 : Int64) (v4 : Int64) (v6 : Int64) (v8 : Int64) (S : Mm) : Option (Int32 × Mm) :=
  cl (F_X11_isStation v1 S) fun r1 S2 =>
  if r1 = 0 then (
  some ((-1), S2))
  else (
  ldR S2 53 0 9 1 v1 18 fun i4 =>
  cl (F_X11_fillByLongs 21 i4 v2 v4 v6 v8 S2) fun r5 S6 =>
  some (0, S6))
set_option maxRecDepth 100000 in
set_option maxHeartbeats 4000000 in
theorem w_X11_secret_0 {p : Program} {l : Launch} {e : Env} {s : State} {m : MethodId} {args : Array Value} {below : List Frame} {meth : Method} {c : Code} {G : xG} {sz : Nat} {o : Int32 × Mm} (X : xC G false sz p s m args c cX11_secret 10 wsX11_secret RX11 meth (some .int)) (v1 : Int32) (v2 : Int64) (v4 : Int64) (v6 : Int64) (v8 : Int64) {S : Mm} {H : Heap} {locs : List Loc} {ls : Array Slot} (hW : xW G false sz s H locs S) (hl : lv_has ls 10 [(0, .ref (G.2.2 10 0)), (1, .int v1), (2, .long v2), (4, .long v4), (6, .long v6), (8, .long v8)]) (h : F_X11_secret v1 v2 v4 v6 v8 S = some o) : wX p l e rmX11_secret s m args below meth c H locs (xQi G false sz o) (XA G false sz) 0 ls [] := by
  unfold F_X11_secret at h
  refine lv_iload_n X.1 X.2.1 dX11_secret_0 rfl (lv_at hl 1 rfl) ?_
  obtain ⟨r1, S2, h3, h⟩ := cl_some h
  refine x_aftI X hW (x_runS (As := [.int v1]) (rest := []) X hW (c_X11_isStation l G X.2.2.2.2.2.2.2.2.2.1 _ S v1 _ h3) (va_cwS 1 X.2.2.2.2.1 (gS gw359 gw360 gw2 gw361) rfl rfl rfl hd_X11_isStation ⟨Nat.le_of_ble_eq_true rfl, Nat.le_of_ble_eq_true rfl⟩) rfl hl.1 rfl (Nat.le_of_ble_eq_true rfl) dX11_secret_1 ⟨Nat.zero_le _, Nat.zero_le _⟩) (fun H locs hW => ?_)
  refine x_if_ne X (tgt := 9) dX11_secret_4 (by decide) h (fun h => ?_) (fun h => ?_)
  · refine lv_aload_n X.1 X.2.1 dX11_secret_9 rfl (lv_at hl 0 rfl) ?_
    refine x_getR X hW fd_Cell_bySelf (fun w h => List.mem_cons_of_mem _ (gin_X11 w h)) (List.mem_cons_of_mem _ gw16) z_1 dX11_secret_10 ?_
    refine lv_iload_n X.1 X.2.1 dX11_secret_13 rfl (lv_at hl 1 rfl) ?_
    refine x_aald X hW ar_53 (ct := 3) rfl (at_53 G) rfl dX11_secret_14 h (fun i4 qi4 h => ?_)
    refine x_getR X hW fd_Link_secret (fun w h => List.mem_cons_of_mem _ (gin_X4 w h)) (List.mem_cons_of_mem _ gw358) qi4 dX11_secret_15 ?_
    refine lv_lload_n X.1 X.2.1 dX11_secret_18 rfl (lv_at hl 2 rfl) ?_
    refine lv_lload X.1 X.2.1 dX11_secret_19 (lv_at hl 3 rfl) ?_
    refine lv_lload X.1 X.2.1 dX11_secret_21 (lv_at hl 4 rfl) ?_
    refine lv_lload X.1 X.2.1 dX11_secret_23 (lv_at hl 5 rfl) ?_
    obtain ⟨r5, S6, h7, h⟩ := cl_some h
    refine x_aftV X hW (x_runS (As := [.ref (G.2.2 21 i4), .long v2, .long v4, .long v6, .long v8]) (rest := []) X hW (c_X11_fillByLongs l G X.2.2.2.2.2.2.2.2.2.1 _ S2 21 i4 v2 v4 v6 v8 _ h7) (va_cwS 5 X.2.2.2.2.1 (gS gw362 gw363 gw2 gw364) rfl rfl rfl hd_X11_fillByLongs ⟨Nat.le_of_ble_eq_true rfl, Nat.le_of_ble_eq_true rfl⟩) rfl hl.1 rfl (Nat.le_of_ble_eq_true rfl) dX11_secret_25 ⟨Nat.zero_le _, Nat.zero_le _⟩) (fun H locs hW => ?_)
    refine lv_iconst (v := 0) X.1 X.2.1 dX11_secret_28 rfl ?_
    exact x_iret X hW h dX11_secret_29
  · refine lv_iconst (v := (-1)) X.1 X.2.1 dX11_secret_7 rfl ?_
    exact x_iret X hW h dX11_secret_8
theorem c_X11_secret (l : Launch) (G : xG) (hD : xD G false) (sz : Nat) (S : Mm) (v1 : Int32) (v2 : Int64) (v4 : Int64) (v6 : Int64) (v8 : Int64) (o : Int32 × Mm) (h : F_X11_secret v1 v2 v4 v6 v8 S = some o) : Met l yX11_secret wsX11_secret rmX11_secret (xPre G false S sz [.ref (G.2.2 10 0), .int v1, .long v2, .long v4, .long v6, .long v8]) (xQi G false sz o) 0 0 (XA G false sz) :=
  x_start hD (by decide) rfl (Nat.le_of_ble_eq_true rfl) (fun p e s m below meth c X hW ls hl => w_X11_secret_0 X v1 v2 v4 v6 v8 hW hl h)

/-! WirelessCell.known(IJJJJ)I -/
def rmX11_known : Room := { frames := 2, cells := 0, slots := 0, locals := 53 }
def F_X11_known (v1 : Int32) (v2 : Int64) (v4 : Int64) (v6 : Int64) (v8 : Int64) (S : Mm) : Option (Int32 × Mm) :=
  cl (F_X11_isStation v1 S) fun r1 S2 =>
  if r1 = 0 then (
  some ((-1), S2))
  else (
  ldR S2 54 0 9 1 v1 18 fun i4 =>
  cl (F_X11_fillByLongs 21 i4 v2 v4 v6 v8 S2) fun r5 S6 =>
  some (0, S6))
set_option maxRecDepth 100000 in
set_option maxHeartbeats 4000000 in
theorem w_X11_known_0 {p : Program} {l : Launch} {e : Env} {s : State} {m : MethodId} {args : Array Value} {below : List Frame} {meth : Method} {c : Code} {G : xG} {sz : Nat} {o : Int32 × Mm} (X : xC G false sz p s m args c cX11_known 10 wsX11_known RX11 meth (some .int)) (v1 : Int32) (v2 : Int64) (v4 : Int64) (v6 : Int64) (v8 : Int64) {S : Mm} {H : Heap} {locs : List Loc} {ls : Array Slot} (hW : xW G false sz s H locs S) (hl : lv_has ls 10 [(0, .ref (G.2.2 10 0)), (1, .int v1), (2, .long v2), (4, .long v4), (6, .long v6), (8, .long v8)]) (h : F_X11_known v1 v2 v4 v6 v8 S = some o) : wX p l e rmX11_known s m args below meth c H locs (xQi G false sz o) (XA G false sz) 0 ls [] := by
  unfold F_X11_known at h
  refine lv_iload_n X.1 X.2.1 dX11_known_0 rfl (lv_at hl 1 rfl) ?_
  obtain ⟨r1, S2, h3, h⟩ := cl_some h
  refine x_aftI X hW (x_runS (As := [.int v1]) (rest := []) X hW (c_X11_isStation l G X.2.2.2.2.2.2.2.2.2.1 _ S v1 _ h3) (va_cwS 1 X.2.2.2.2.1 (gS gw359 gw360 gw2 gw361) rfl rfl rfl hd_X11_isStation ⟨Nat.le_of_ble_eq_true rfl, Nat.le_of_ble_eq_true rfl⟩) rfl hl.1 rfl (Nat.le_of_ble_eq_true rfl) dX11_known_1 ⟨Nat.zero_le _, Nat.zero_le _⟩) (fun H locs hW => ?_)
  refine x_if_ne X (tgt := 9) dX11_known_4 (by decide) h (fun h => ?_) (fun h => ?_)
  · refine lv_aload_n X.1 X.2.1 dX11_known_9 rfl (lv_at hl 0 rfl) ?_
    refine x_getR X hW fd_Cell_byAp (fun w h => List.mem_cons_of_mem _ (gin_X11 w h)) (List.mem_cons_of_mem _ gw17) z_1 dX11_known_10 ?_
    refine lv_iload_n X.1 X.2.1 dX11_known_13 rfl (lv_at hl 1 rfl) ?_
    refine x_aald X hW ar_54 (ct := 3) rfl (at_54 G) rfl dX11_known_14 h (fun i4 qi4 h => ?_)
    refine x_getR X hW fd_Link_secret (fun w h => List.mem_cons_of_mem _ (gin_X4 w h)) (List.mem_cons_of_mem _ gw358) qi4 dX11_known_15 ?_
    refine lv_lload_n X.1 X.2.1 dX11_known_18 rfl (lv_at hl 2 rfl) ?_
    refine lv_lload X.1 X.2.1 dX11_known_19 (lv_at hl 3 rfl) ?_
    refine lv_lload X.1 X.2.1 dX11_known_21 (lv_at hl 4 rfl) ?_
    refine lv_lload X.1 X.2.1 dX11_known_23 (lv_at hl 5 rfl) ?_
    obtain ⟨r5, S6, h7, h⟩ := cl_some h
    refine x_aftV X hW (x_runS (As := [.ref (G.2.2 21 i4), .long v2, .long v4, .long v6, .long v8]) (rest := []) X hW (c_X11_fillByLongs l G X.2.2.2.2.2.2.2.2.2.1 _ S2 21 i4 v2 v4 v6 v8 _ h7) (va_cwS 5 X.2.2.2.2.1 (gS gw362 gw363 gw2 gw364) rfl rfl rfl hd_X11_fillByLongs ⟨Nat.le_of_ble_eq_true rfl, Nat.le_of_ble_eq_true rfl⟩) rfl hl.1 rfl (Nat.le_of_ble_eq_true rfl) dX11_known_25 ⟨Nat.zero_le _, Nat.zero_le _⟩) (fun H locs hW => ?_)
    refine lv_iconst (v := 0) X.1 X.2.1 dX11_known_28 rfl ?_
    exact x_iret X hW h dX11_known_29
  · refine lv_iconst (v := (-1)) X.1 X.2.1 dX11_known_7 rfl ?_
    exact x_iret X hW h dX11_known_8
theorem c_X11_known (l : Launch) (G : xG) (hD : xD G false) (sz : Nat) (S : Mm) (v1 : Int32) (v2 : Int64) (v4 : Int64) (v6 : Int64) (v8 : Int64) (o : Int32 × Mm) (h : F_X11_known v1 v2 v4 v6 v8 S = some o) : Met l yX11_known wsX11_known rmX11_known (xPre G false S sz [.ref (G.2.2 10 0), .int v1, .long v2, .long v4, .long v6, .long v8]) (xQi G false sz o) 0 0 (XA G false sz) :=
  x_start hD (by decide) rfl (Nat.le_of_ble_eq_true rfl) (fun p e s m below meth c X hW ls hl => w_X11_known_0 X v1 v2 v4 v6 v8 hW hl h)

/-! WirelessCell.nonce(IJJJJ)I -/
def rmX11_nonce : Room := { frames := 2, cells := 0, slots := 0, locals := 53 }
def F_X11_nonce (v1 : Int32) (v2 : Int64) (v4 : Int64) (v6 : Int64) (v8 : Int64) (S : Mm) : Option (Int32 × Mm) :=
  cl (F_X11_isNode v1 S) fun r1 S2 =>
  if r1 = 0 then (
  some ((-1), S2))
  else (
  ldR S2 52 0 9 1 v1 9 fun i4 =>
  cl (F_X11_fillByLongs 37 i4 v2 v4 v6 v8 S2) fun r5 S6 =>
  some (0, S6))
set_option maxRecDepth 100000 in
set_option maxHeartbeats 4000000 in
theorem w_X11_nonce_0 {p : Program} {l : Launch} {e : Env} {s : State} {m : MethodId} {args : Array Value} {below : List Frame} {meth : Method} {c : Code} {G : xG} {sz : Nat} {o : Int32 × Mm} (X : xC G false sz p s m args c cX11_nonce 10 wsX11_nonce RX11 meth (some .int)) (v1 : Int32) (v2 : Int64) (v4 : Int64) (v6 : Int64) (v8 : Int64) {S : Mm} {H : Heap} {locs : List Loc} {ls : Array Slot} (hW : xW G false sz s H locs S) (hl : lv_has ls 10 [(0, .ref (G.2.2 10 0)), (1, .int v1), (2, .long v2), (4, .long v4), (6, .long v6), (8, .long v8)]) (h : F_X11_nonce v1 v2 v4 v6 v8 S = some o) : wX p l e rmX11_nonce s m args below meth c H locs (xQi G false sz o) (XA G false sz) 0 ls [] := by
  unfold F_X11_nonce at h
  refine lv_iload_n X.1 X.2.1 dX11_nonce_0 rfl (lv_at hl 1 rfl) ?_
  obtain ⟨r1, S2, h3, h⟩ := cl_some h
  refine x_aftI X hW (x_runS (As := [.int v1]) (rest := []) X hW (c_X11_isNode l G X.2.2.2.2.2.2.2.2.2.1 _ S v1 _ h3) (va_cwS 1 X.2.2.2.2.1 (gS gw389 gw390 gw2 gw391) rfl rfl rfl hd_X11_isNode ⟨Nat.le_of_ble_eq_true rfl, Nat.le_of_ble_eq_true rfl⟩) rfl hl.1 rfl (Nat.le_of_ble_eq_true rfl) dX11_nonce_1 ⟨Nat.zero_le _, Nat.zero_le _⟩) (fun H locs hW => ?_)
  refine x_if_ne X (tgt := 9) dX11_nonce_4 (by decide) h (fun h => ?_) (fun h => ?_)
  · refine lv_aload_n X.1 X.2.1 dX11_nonce_9 rfl (lv_at hl 0 rfl) ?_
    refine x_getR X hW fd_Cell_nodes (fun w h => List.mem_cons_of_mem _ (gin_X11 w h)) (List.mem_cons_of_mem _ gw14) z_1 dX11_nonce_10 ?_
    refine lv_iload_n X.1 X.2.1 dX11_nonce_13 rfl (lv_at hl 1 rfl) ?_
    refine x_aald X hW ar_52 (ct := 6) rfl (at_52 G) rfl dX11_nonce_14 h (fun i4 qi4 h => ?_)
    refine x_getR X hW fd_Node_nonce (fun w h => List.mem_cons_of_mem _ (gin_X7 w h)) (List.mem_cons_of_mem _ gw388) qi4 dX11_nonce_15 ?_
    refine lv_lload_n X.1 X.2.1 dX11_nonce_18 rfl (lv_at hl 2 rfl) ?_
    refine lv_lload X.1 X.2.1 dX11_nonce_19 (lv_at hl 3 rfl) ?_
    refine lv_lload X.1 X.2.1 dX11_nonce_21 (lv_at hl 4 rfl) ?_
    refine lv_lload X.1 X.2.1 dX11_nonce_23 (lv_at hl 5 rfl) ?_
    obtain ⟨r5, S6, h7, h⟩ := cl_some h
    refine x_aftV X hW (x_runS (As := [.ref (G.2.2 37 i4), .long v2, .long v4, .long v6, .long v8]) (rest := []) X hW (c_X11_fillByLongs l G X.2.2.2.2.2.2.2.2.2.1 _ S2 37 i4 v2 v4 v6 v8 _ h7) (va_cwS 5 X.2.2.2.2.1 (gS gw362 gw363 gw2 gw364) rfl rfl rfl hd_X11_fillByLongs ⟨Nat.le_of_ble_eq_true rfl, Nat.le_of_ble_eq_true rfl⟩) rfl hl.1 rfl (Nat.le_of_ble_eq_true rfl) dX11_nonce_25 ⟨Nat.zero_le _, Nat.zero_le _⟩) (fun H locs hW => ?_)
    refine lv_iconst (v := 0) X.1 X.2.1 dX11_nonce_28 rfl ?_
    exact x_iret X hW h dX11_nonce_29
  · refine lv_iconst (v := (-1)) X.1 X.2.1 dX11_nonce_7 rfl ?_
    exact x_iret X hW h dX11_nonce_8
theorem c_X11_nonce (l : Launch) (G : xG) (hD : xD G false) (sz : Nat) (S : Mm) (v1 : Int32) (v2 : Int64) (v4 : Int64) (v6 : Int64) (v8 : Int64) (o : Int32 × Mm) (h : F_X11_nonce v1 v2 v4 v6 v8 S = some o) : Met l yX11_nonce wsX11_nonce rmX11_nonce (xPre G false S sz [.ref (G.2.2 10 0), .int v1, .long v2, .long v4, .long v6, .long v8]) (xQi G false sz o) 0 0 (XA G false sz) :=
  x_start hD (by decide) rfl (Nat.le_of_ble_eq_true rfl) (fun p e s m below meth c X hW ls hl => w_X11_nonce_0 X v1 v2 v4 v6 v8 hW hl h)

/-! WirelessCell.size(I)I -/
def rmX11_size : Room := { frames := 0, cells := 0, slots := 0, locals := 0 }
def L_X11_size_13   (S : Mm) : Option (Int32 × Mm) :=
  some ((-1), S)
def F_X11_size (v1 : Int32) (S : Mm) : Option (Int32 × Mm) :=
  if v1 < 16 then (
  L_X11_size_13  S)
  else (
  if v1 ≤ 255 then (
  gf S 107 0 fun x1 =>
  pf S 107 0 v1 fun S2 =>
  some (x1, S2))
  else (
  L_X11_size_13  S))
set_option maxRecDepth 100000 in
set_option maxHeartbeats 4000000 in
theorem w_X11_size_13 {p : Program} {l : Launch} {e : Env} {s : State} {m : MethodId} {args : Array Value} {below : List Frame} {meth : Method} {c : Code} {G : xG} {sz : Nat} {o : Int32 × Mm} (X : xC G false sz p s m args c cX11_size 3 wsX11_size RX11 meth (some .int))    {S : Mm} {H : Heap} {locs : List Loc} {ls : Array Slot} (hW : xW G false sz s H locs S) (hl : lv_has ls 3 []) (h : L_X11_size_13   S = some o) : wX p l e rmX11_size s m args below meth c H locs (xQi G false sz o) (XA G false sz) 13 ls [] := by
  unfold L_X11_size_13 at h
  refine lv_iconst (v := (-1)) X.1 X.2.1 dX11_size_13 rfl ?_
  exact x_iret X hW h dX11_size_14
set_option maxRecDepth 100000 in
set_option maxHeartbeats 4000000 in
theorem w_X11_size_0 {p : Program} {l : Launch} {e : Env} {s : State} {m : MethodId} {args : Array Value} {below : List Frame} {meth : Method} {c : Code} {G : xG} {sz : Nat} {o : Int32 × Mm} (X : xC G false sz p s m args c cX11_size 3 wsX11_size RX11 meth (some .int)) (v1 : Int32) {S : Mm} {H : Heap} {locs : List Loc} {ls : Array Slot} (hW : xW G false sz s H locs S) (hl : lv_has ls 3 [(0, .ref (G.2.2 10 0)), (1, .int v1)]) (h : F_X11_size v1 S = some o) : wX p l e rmX11_size s m args below meth c H locs (xQi G false sz o) (XA G false sz) 0 ls [] := by
  unfold F_X11_size at h
  refine lv_iload_n X.1 X.2.1 dX11_size_0 rfl (lv_at hl 1 rfl) ?_
  refine lv_bipush (v := 16) X.1 X.2.1 dX11_size_1 rfl ?_
  refine x_icmp_lt X (tgt := 13) dX11_size_3 (by decide) h (fun h => ?_) (fun h => ?_)
  · exact w_X11_size_13 X    hW (lv_sub hl [] rfl) h
  · refine lv_iload_n X.1 X.2.1 dX11_size_6 rfl (lv_at hl 1 rfl) ?_
    refine lv_sipush (v := 255) X.1 X.2.1 dX11_size_7 rfl ?_
    refine x_icmp_le X (tgt := 15) dX11_size_10 (by decide) h (fun h => ?_) (fun h => ?_)
    · refine lv_aload_n X.1 X.2.1 dX11_size_15 rfl (lv_at hl 0 rfl) ?_
      refine x_getI X hW fd_Cell_partSize (fun w h => List.mem_cons_of_mem _ (gin_X11 w h)) (List.mem_cons_of_mem _ gw41) z_1 dX11_size_16 h (fun x1 h => ?_)
      refine lv_istore_n (lv' := [(2, .int x1), (0, .ref (G.2.2 10 0)), (1, .int v1)]) X.1 X.2.1 dX11_size_19 rfl hl (by decide) rfl (fun ls hl => ?_)
      refine lv_aload_n X.1 X.2.1 dX11_size_20 rfl (lv_at hl 1 rfl) ?_
      refine lv_iload_n X.1 X.2.1 dX11_size_21 rfl (lv_at hl 2 rfl) ?_
      refine x_putI X hW fd_Cell_partSize (fun w h => List.mem_cons_of_mem _ (gin_X11 w h)) (List.mem_cons_of_mem _ gw41) z_1 dX11_size_22 tyX11 tyX11_ok nmX11 rfl rfl rfl h (fun S2 H locs h hW => ?_)
      refine lv_iload_n X.1 X.2.1 dX11_size_25 rfl (lv_at hl 0 rfl) ?_
      exact x_iret X hW h dX11_size_26
    · exact w_X11_size_13 X    hW (lv_sub hl [] rfl) h
theorem c_X11_size (l : Launch) (G : xG) (hD : xD G false) (sz : Nat) (S : Mm) (v1 : Int32) (o : Int32 × Mm) (h : F_X11_size v1 S = some o) : Met l yX11_size wsX11_size rmX11_size (xPre G false S sz [.ref (G.2.2 10 0), .int v1]) (xQi G false sz o) 0 0 (XA G false sz) :=
  x_start hD (by decide) rfl (Nat.le_of_ble_eq_true rfl) (fun p e s m below meth c X hW ls hl => w_X11_size_0 X v1 hW hl h)

/-! WirelessCell.limit(I)I -/
def rmX11_limit : Room := { frames := 0, cells := 0, slots := 0, locals := 0 }
def L_X11_limit_11   (S : Mm) : Option (Int32 × Mm) :=
  some ((-1), S)
def F_X11_limit (v1 : Int32) (S : Mm) : Option (Int32 × Mm) :=
  if v1 < 1 then (
  L_X11_limit_11  S)
  else (
  if v1 ≤ 15 then (
  gf S 108 0 fun x1 =>
  pf S 108 0 v1 fun S2 =>
  some (x1, S2))
  else (
  L_X11_limit_11  S))
set_option maxRecDepth 100000 in
set_option maxHeartbeats 4000000 in
theorem w_X11_limit_11 {p : Program} {l : Launch} {e : Env} {s : State} {m : MethodId} {args : Array Value} {below : List Frame} {meth : Method} {c : Code} {G : xG} {sz : Nat} {o : Int32 × Mm} (X : xC G false sz p s m args c cX11_limit 3 wsX11_limit RX11 meth (some .int))    {S : Mm} {H : Heap} {locs : List Loc} {ls : Array Slot} (hW : xW G false sz s H locs S) (hl : lv_has ls 3 []) (h : L_X11_limit_11   S = some o) : wX p l e rmX11_limit s m args below meth c H locs (xQi G false sz o) (XA G false sz) 11 ls [] := by
  unfold L_X11_limit_11 at h
  refine lv_iconst (v := (-1)) X.1 X.2.1 dX11_limit_11 rfl ?_
  exact x_iret X hW h dX11_limit_12
set_option maxRecDepth 100000 in
set_option maxHeartbeats 4000000 in
theorem w_X11_limit_0 {p : Program} {l : Launch} {e : Env} {s : State} {m : MethodId} {args : Array Value} {below : List Frame} {meth : Method} {c : Code} {G : xG} {sz : Nat} {o : Int32 × Mm} (X : xC G false sz p s m args c cX11_limit 3 wsX11_limit RX11 meth (some .int)) (v1 : Int32) {S : Mm} {H : Heap} {locs : List Loc} {ls : Array Slot} (hW : xW G false sz s H locs S) (hl : lv_has ls 3 [(0, .ref (G.2.2 10 0)), (1, .int v1)]) (h : F_X11_limit v1 S = some o) : wX p l e rmX11_limit s m args below meth c H locs (xQi G false sz o) (XA G false sz) 0 ls [] := by
  unfold F_X11_limit at h
  refine lv_iload_n X.1 X.2.1 dX11_limit_0 rfl (lv_at hl 1 rfl) ?_
  refine lv_iconst (v := 1) X.1 X.2.1 dX11_limit_1 rfl ?_
  refine x_icmp_lt X (tgt := 11) dX11_limit_2 (by decide) h (fun h => ?_) (fun h => ?_)
  · exact w_X11_limit_11 X    hW (lv_sub hl [] rfl) h
  · refine lv_iload_n X.1 X.2.1 dX11_limit_5 rfl (lv_at hl 1 rfl) ?_
    refine lv_bipush (v := 15) X.1 X.2.1 dX11_limit_6 rfl ?_
    refine x_icmp_le X (tgt := 13) dX11_limit_8 (by decide) h (fun h => ?_) (fun h => ?_)
    · refine lv_aload_n X.1 X.2.1 dX11_limit_13 rfl (lv_at hl 0 rfl) ?_
      refine x_getI X hW fd_Cell_tryLimit (fun w h => List.mem_cons_of_mem _ (gin_X11 w h)) (List.mem_cons_of_mem _ gw42) z_1 dX11_limit_14 h (fun x1 h => ?_)
      refine lv_istore_n (lv' := [(2, .int x1), (0, .ref (G.2.2 10 0)), (1, .int v1)]) X.1 X.2.1 dX11_limit_17 rfl hl (by decide) rfl (fun ls hl => ?_)
      refine lv_aload_n X.1 X.2.1 dX11_limit_18 rfl (lv_at hl 1 rfl) ?_
      refine lv_iload_n X.1 X.2.1 dX11_limit_19 rfl (lv_at hl 2 rfl) ?_
      refine x_putI X hW fd_Cell_tryLimit (fun w h => List.mem_cons_of_mem _ (gin_X11 w h)) (List.mem_cons_of_mem _ gw42) z_1 dX11_limit_20 tyX11 tyX11_ok nmX11 rfl rfl rfl h (fun S2 H locs h hW => ?_)
      refine lv_iload_n X.1 X.2.1 dX11_limit_23 rfl (lv_at hl 0 rfl) ?_
      exact x_iret X hW h dX11_limit_24
    · exact w_X11_limit_11 X    hW (lv_sub hl [] rfl) h
theorem c_X11_limit (l : Launch) (G : xG) (hD : xD G false) (sz : Nat) (S : Mm) (v1 : Int32) (o : Int32 × Mm) (h : F_X11_limit v1 S = some o) : Met l yX11_limit wsX11_limit rmX11_limit (xPre G false S sz [.ref (G.2.2 10 0), .int v1]) (xQi G false sz o) 0 0 (XA G false sz) :=
  x_start hD (by decide) rfl (Nat.le_of_ble_eq_true rfl) (fun p e s m below meth c X hW ls hl => w_X11_limit_0 X v1 hW hl h)

/-! WirelessCell.draw(I)I -/
def rmX11_draw : Room := { frames := 1, cells := 0, slots := 0, locals := 21 }
def L_X11_draw_21   (S : Mm) : Option (Int32 × Mm) :=
  some ((-1), S)
def F_X11_draw (v1 : Int32) (S : Mm) : Option (Int32 × Mm) :=
  if v1 < 0 then (
  L_X11_draw_21  S)
  else (
  if 127 < v1 then (
  L_X11_draw_21  S)
  else (
  cl (F_X1_addLast v1 S) fun r1 S2 =>
  if r1 = 0 then (
  L_X11_draw_21  S2)
  else (
  gf S2 60 0 fun x4 =>
  some (x4, S2))))
set_option maxRecDepth 100000 in
set_option maxHeartbeats 4000000 in
theorem w_X11_draw_21 {p : Program} {l : Launch} {e : Env} {s : State} {m : MethodId} {args : Array Value} {below : List Frame} {meth : Method} {c : Code} {G : xG} {sz : Nat} {o : Int32 × Mm} (X : xC G false sz p s m args c cX11_draw 2 wsX11_draw RX11 meth (some .int))    {S : Mm} {H : Heap} {locs : List Loc} {ls : Array Slot} (hW : xW G false sz s H locs S) (hl : lv_has ls 2 []) (h : L_X11_draw_21   S = some o) : wX p l e rmX11_draw s m args below meth c H locs (xQi G false sz o) (XA G false sz) 21 ls [] := by
  unfold L_X11_draw_21 at h
  refine lv_iconst (v := (-1)) X.1 X.2.1 dX11_draw_21 rfl ?_
  exact x_iret X hW h dX11_draw_22
set_option maxRecDepth 100000 in
set_option maxHeartbeats 4000000 in
theorem w_X11_draw_0 {p : Program} {l : Launch} {e : Env} {s : State} {m : MethodId} {args : Array Value} {below : List Frame} {meth : Method} {c : Code} {G : xG} {sz : Nat} {o : Int32 × Mm} (X : xC G false sz p s m args c cX11_draw 2 wsX11_draw RX11 meth (some .int)) (v1 : Int32) {S : Mm} {H : Heap} {locs : List Loc} {ls : Array Slot} (hW : xW G false sz s H locs S) (hl : lv_has ls 2 [(0, .ref (G.2.2 10 0)), (1, .int v1)]) (h : F_X11_draw v1 S = some o) : wX p l e rmX11_draw s m args below meth c H locs (xQi G false sz o) (XA G false sz) 0 ls [] := by
  unfold F_X11_draw at h
  refine lv_iload_n X.1 X.2.1 dX11_draw_0 rfl (lv_at hl 1 rfl) ?_
  refine x_if_lt X (tgt := 21) dX11_draw_1 (by decide) h (fun h => ?_) (fun h => ?_)
  · exact w_X11_draw_21 X    hW (lv_sub hl [] rfl) h
  · refine lv_iload_n X.1 X.2.1 dX11_draw_4 rfl (lv_at hl 1 rfl) ?_
    refine lv_bipush (v := 127) X.1 X.2.1 dX11_draw_5 rfl ?_
    refine x_icmp_gt X (tgt := 21) dX11_draw_7 (by decide) h (fun h => ?_) (fun h => ?_)
    · exact w_X11_draw_21 X    hW (lv_sub hl [] rfl) h
    · refine lv_aload_n X.1 X.2.1 dX11_draw_10 rfl (lv_at hl 0 rfl) ?_
      refine x_getR X hW fd_Cell_draws (fun w h => List.mem_cons_of_mem _ (gin_X11 w h)) (List.mem_cons_of_mem _ gw29) z_1 dX11_draw_11 ?_
      refine lv_iload_n X.1 X.2.1 dX11_draw_14 rfl (lv_at hl 1 rfl) ?_
      obtain ⟨r1, S2, h3, h⟩ := cl_some h
      refine x_aftI X hW (x_runV (C := RX1) (a := G.2.2 1 0) (As := [.int v1]) (rest := []) X hW (c_X1_addLast l G X.2.2.2.2.2.2.2.2.2.1 _ S v1 _ h3) (cwV 1 X.2.2.2.2.1 (gV gw422 gw423 gw424 gw28 gw425) rfl rfl rfl ⟨rfl, hd_X1_addLast⟩ ⟨Nat.le_of_ble_eq_true rfl, Nat.le_of_ble_eq_true rfl⟩) (x_recv X hW ob_Draws z_1) rfl hl.1 rfl (Nat.le_of_ble_eq_true rfl) dX11_draw_15 ⟨Nat.zero_le _, Nat.zero_le _⟩) (fun H locs hW => ?_)
      refine x_if_ne X (tgt := 23) dX11_draw_18 (by decide) h (fun h => ?_) (fun h => ?_)
      · refine lv_aload_n X.1 X.2.1 dX11_draw_23 rfl (lv_at hl 0 rfl) ?_
        refine x_getR X hW fd_Cell_draws (fun w h => List.mem_cons_of_mem _ (gin_X11 w h)) (List.mem_cons_of_mem _ gw29) z_1 dX11_draw_24 ?_
        refine x_getI X hW fd_Draws_left (fun w h => List.mem_cons_of_mem _ (gin_X1 w h)) (List.mem_cons_of_mem _ gw421) z_1 dX11_draw_27 h (fun x4 h => ?_)
        exact x_iret X hW h dX11_draw_30
      · exact w_X11_draw_21 X    hW (lv_sub hl [] rfl) h
theorem c_X11_draw (l : Launch) (G : xG) (hD : xD G false) (sz : Nat) (S : Mm) (v1 : Int32) (o : Int32 × Mm) (h : F_X11_draw v1 S = some o) : Met l yX11_draw wsX11_draw rmX11_draw (xPre G false S sz [.ref (G.2.2 10 0), .int v1]) (xQi G false sz o) 0 0 (XA G false sz) :=
  x_start hD (by decide) rfl (Nat.le_of_ble_eq_true rfl) (fun p e s m below meth c X hW ls hl => w_X11_draw_0 X v1 hW hl h)

/-! WirelessCell.noise(II)I -/
def rmX11_noise : Room := { frames := 1, cells := 0, slots := 0, locals := 22 }
def L_X11_noise_23   (S : Mm) : Option (Int32 × Mm) :=
  some ((-1), S)
def F_X11_noise (v1 : Int32) (v2 : Int32) (S : Mm) : Option (Int32 × Mm) :=
  gf S 76 0 fun x1 =>
  if v1 < x1 then (
  L_X11_noise_23  S)
  else (
  cl (F_X5_addNoise v1 v2 S) fun r2 S3 =>
  if r2 = 0 then (
  L_X11_noise_23  S3)
  else (
  gf S3 79 0 fun x5 =>
  some (x5, S3)))
set_option maxRecDepth 100000 in
set_option maxHeartbeats 4000000 in
theorem w_X11_noise_23 {p : Program} {l : Launch} {e : Env} {s : State} {m : MethodId} {args : Array Value} {below : List Frame} {meth : Method} {c : Code} {G : xG} {sz : Nat} {o : Int32 × Mm} (X : xC G false sz p s m args c cX11_noise 3 wsX11_noise RX11 meth (some .int))    {S : Mm} {H : Heap} {locs : List Loc} {ls : Array Slot} (hW : xW G false sz s H locs S) (hl : lv_has ls 3 []) (h : L_X11_noise_23   S = some o) : wX p l e rmX11_noise s m args below meth c H locs (xQi G false sz o) (XA G false sz) 23 ls [] := by
  unfold L_X11_noise_23 at h
  refine lv_iconst (v := (-1)) X.1 X.2.1 dX11_noise_23 rfl ?_
  exact x_iret X hW h dX11_noise_24
set_option maxRecDepth 100000 in
set_option maxHeartbeats 4000000 in
theorem w_X11_noise_0 {p : Program} {l : Launch} {e : Env} {s : State} {m : MethodId} {args : Array Value} {below : List Frame} {meth : Method} {c : Code} {G : xG} {sz : Nat} {o : Int32 × Mm} (X : xC G false sz p s m args c cX11_noise 3 wsX11_noise RX11 meth (some .int)) (v1 : Int32) (v2 : Int32) {S : Mm} {H : Heap} {locs : List Loc} {ls : Array Slot} (hW : xW G false sz s H locs S) (hl : lv_has ls 3 [(0, .ref (G.2.2 10 0)), (1, .int v1), (2, .int v2)]) (h : F_X11_noise v1 v2 S = some o) : wX p l e rmX11_noise s m args below meth c H locs (xQi G false sz o) (XA G false sz) 0 ls [] := by
  unfold F_X11_noise at h
  refine lv_iload_n X.1 X.2.1 dX11_noise_0 rfl (lv_at hl 1 rfl) ?_
  refine lv_aload_n X.1 X.2.1 dX11_noise_1 rfl (lv_at hl 0 rfl) ?_
  refine x_getR X hW fd_Cell_medium (fun w h => List.mem_cons_of_mem _ (gin_X11 w h)) (List.mem_cons_of_mem _ gw21) z_1 dX11_noise_2 ?_
  refine x_getI X hW fd_Medium_slot (fun w h => List.mem_cons_of_mem _ (gin_X5 w h)) (List.mem_cons_of_mem _ gw439) z_1 dX11_noise_5 h (fun x1 h => ?_)
  refine x_icmp_lt X (tgt := 23) dX11_noise_8 (by decide) h (fun h => ?_) (fun h => ?_)
  · exact w_X11_noise_23 X    hW (lv_sub hl [] rfl) h
  · refine lv_aload_n X.1 X.2.1 dX11_noise_11 rfl (lv_at hl 0 rfl) ?_
    refine x_getR X hW fd_Cell_medium (fun w h => List.mem_cons_of_mem _ (gin_X11 w h)) (List.mem_cons_of_mem _ gw21) z_1 dX11_noise_12 ?_
    refine lv_iload_n X.1 X.2.1 dX11_noise_15 rfl (lv_at hl 1 rfl) ?_
    refine lv_iload_n X.1 X.2.1 dX11_noise_16 rfl (lv_at hl 2 rfl) ?_
    obtain ⟨r2, S3, h4, h⟩ := cl_some h
    refine x_aftI X hW (x_runV (C := RX5) (a := G.2.2 4 0) (As := [.int v1, .int v2]) (rest := []) X hW (c_X5_addNoise l G X.2.2.2.2.2.2.2.2.2.1 _ S v1 v2 _ h4) (cwV 2 X.2.2.2.2.1 (gV gw441 gw442 gw443 gw20 gw444) rfl rfl rfl ⟨rfl, hd_X5_addNoise⟩ ⟨Nat.le_of_ble_eq_true rfl, Nat.le_of_ble_eq_true rfl⟩) (x_recv X hW ob_Medium z_1) rfl hl.1 rfl (Nat.le_of_ble_eq_true rfl) dX11_noise_17 ⟨Nat.zero_le _, Nat.zero_le _⟩) (fun H locs hW => ?_)
    refine x_if_ne X (tgt := 25) dX11_noise_20 (by decide) h (fun h => ?_) (fun h => ?_)
    · refine lv_aload_n X.1 X.2.1 dX11_noise_25 rfl (lv_at hl 0 rfl) ?_
      refine x_getR X hW fd_Cell_medium (fun w h => List.mem_cons_of_mem _ (gin_X11 w h)) (List.mem_cons_of_mem _ gw21) z_1 dX11_noise_26 ?_
      refine x_getI X hW fd_Medium_noises (fun w h => List.mem_cons_of_mem _ (gin_X5 w h)) (List.mem_cons_of_mem _ gw440) z_1 dX11_noise_29 h (fun x5 h => ?_)
      exact x_iret X hW h dX11_noise_32
    · exact w_X11_noise_23 X    hW (lv_sub hl [] rfl) h
theorem c_X11_noise (l : Launch) (G : xG) (hD : xD G false) (sz : Nat) (S : Mm) (v1 : Int32) (v2 : Int32) (o : Int32 × Mm) (h : F_X11_noise v1 v2 S = some o) : Met l yX11_noise wsX11_noise rmX11_noise (xPre G false S sz [.ref (G.2.2 10 0), .int v1, .int v2]) (xQi G false sz o) 0 0 (XA G false sz) :=
  x_start hD (by decide) rfl (Nat.le_of_ble_eq_true rfl) (fun p e s m below meth c X hW ls hl => w_X11_noise_0 X v1 v2 hW hl h)

/-! WirelessCell.put(I)I -/
def rmX11_put : Room := { frames := 2, cells := 0, slots := 0, locals := 41 }
def L_X11_put_37   (S : Mm) : Option (Int32 × Mm) :=
  some ((-1), S)
def F_X11_put (v1 : Int32) (S : Mm) : Option (Int32 × Mm) :=
  gf S 105 0 fun x1 =>
  if x1 = 0 then (
  L_X11_put_37  S)
  else (
  gf S 76 0 fun x2 =>
  if v1 < x2 then (
  L_X11_put_37  S)
  else (
  gf S 105 0 fun x3 =>
  cl (F_X8_addLast 55 0 x3 v1 S) fun r4 S5 =>
  if r4 = 0 then (
  L_X11_put_37  S5)
  else (
  pf S5 105 0 0 fun S7 =>
  gf S7 101 0 fun x8 =>
  some (x8, S7))))
set_option maxRecDepth 100000 in
set_option maxHeartbeats 4000000 in
theorem w_X11_put_37 {p : Program} {l : Launch} {e : Env} {s : State} {m : MethodId} {args : Array Value} {below : List Frame} {meth : Method} {c : Code} {G : xG} {sz : Nat} {o : Int32 × Mm} (X : xC G false sz p s m args c cX11_put 2 wsX11_put RX11 meth (some .int))    {S : Mm} {H : Heap} {locs : List Loc} {ls : Array Slot} (hW : xW G false sz s H locs S) (hl : lv_has ls 2 []) (h : L_X11_put_37   S = some o) : wX p l e rmX11_put s m args below meth c H locs (xQi G false sz o) (XA G false sz) 37 ls [] := by
  unfold L_X11_put_37 at h
  refine lv_iconst (v := (-1)) X.1 X.2.1 dX11_put_37 rfl ?_
  exact x_iret X hW h dX11_put_38
set_option maxRecDepth 100000 in
set_option maxHeartbeats 4000000 in
theorem w_X11_put_0 {p : Program} {l : Launch} {e : Env} {s : State} {m : MethodId} {args : Array Value} {below : List Frame} {meth : Method} {c : Code} {G : xG} {sz : Nat} {o : Int32 × Mm} (X : xC G false sz p s m args c cX11_put 2 wsX11_put RX11 meth (some .int)) (v1 : Int32) {S : Mm} {H : Heap} {locs : List Loc} {ls : Array Slot} (hW : xW G false sz s H locs S) (hl : lv_has ls 2 [(0, .ref (G.2.2 10 0)), (1, .int v1)]) (h : F_X11_put v1 S = some o) : wX p l e rmX11_put s m args below meth c H locs (xQi G false sz o) (XA G false sz) 0 ls [] := by
  unfold F_X11_put at h
  refine lv_aload_n X.1 X.2.1 dX11_put_0 rfl (lv_at hl 0 rfl) ?_
  refine x_getI X hW fd_Cell_tapeLength (fun w h => List.mem_cons_of_mem _ (gin_X11 w h)) (List.mem_cons_of_mem _ gw260) z_1 dX11_put_1 h (fun x1 h => ?_)
  refine x_if_eq X (tgt := 37) dX11_put_4 (by decide) h (fun h => ?_) (fun h => ?_)
  · exact w_X11_put_37 X    hW (lv_sub hl [] rfl) h
  · refine lv_iload_n X.1 X.2.1 dX11_put_7 rfl (lv_at hl 1 rfl) ?_
    refine lv_aload_n X.1 X.2.1 dX11_put_8 rfl (lv_at hl 0 rfl) ?_
    refine x_getR X hW fd_Cell_medium (fun w h => List.mem_cons_of_mem _ (gin_X11 w h)) (List.mem_cons_of_mem _ gw21) z_1 dX11_put_9 ?_
    refine x_getI X hW fd_Medium_slot (fun w h => List.mem_cons_of_mem _ (gin_X5 w h)) (List.mem_cons_of_mem _ gw439) z_1 dX11_put_12 h (fun x2 h => ?_)
    refine x_icmp_lt X (tgt := 37) dX11_put_15 (by decide) h (fun h => ?_) (fun h => ?_)
    · exact w_X11_put_37 X    hW (lv_sub hl [] rfl) h
    · refine lv_aload_n X.1 X.2.1 dX11_put_18 rfl (lv_at hl 0 rfl) ?_
      refine x_getR X hW fd_Cell_puts (fun w h => List.mem_cons_of_mem _ (gin_X11 w h)) (List.mem_cons_of_mem _ gw25) z_1 dX11_put_19 ?_
      refine lv_aload_n X.1 X.2.1 dX11_put_22 rfl (lv_at hl 0 rfl) ?_
      refine x_getR X hW fd_Cell_tape (fun w h => List.mem_cons_of_mem _ (gin_X11 w h)) (List.mem_cons_of_mem _ gw39) z_1 dX11_put_23 ?_
      refine lv_aload_n X.1 X.2.1 dX11_put_26 rfl (lv_at hl 0 rfl) ?_
      refine x_getI X hW fd_Cell_tapeLength (fun w h => List.mem_cons_of_mem _ (gin_X11 w h)) (List.mem_cons_of_mem _ gw260) z_1 dX11_put_27 h (fun x3 h => ?_)
      refine lv_iload_n X.1 X.2.1 dX11_put_30 rfl (lv_at hl 1 rfl) ?_
      obtain ⟨r4, S5, h6, h⟩ := cl_some h
      refine x_aftI X hW (x_runV (C := RX8) (a := G.2.2 7 0) (As := [.ref (G.2.2 55 0), .int x3, .int v1]) (rest := []) X hW (c_X8_addLast l G X.2.2.2.2.2.2.2.2.2.1 _ S 55 0 x3 v1 _ h6) (cwV 3 X.2.2.2.2.1 (gV gw458 gw459 gw460 gw24 gw461) rfl rfl rfl ⟨rfl, hd_X8_addLast⟩ ⟨Nat.le_of_ble_eq_true rfl, Nat.le_of_ble_eq_true rfl⟩) (x_recv X hW ob_Puts z_1) rfl hl.1 rfl (Nat.le_of_ble_eq_true rfl) dX11_put_31 ⟨Nat.zero_le _, Nat.zero_le _⟩) (fun H locs hW => ?_)
      refine x_if_ne X (tgt := 39) dX11_put_34 (by decide) h (fun h => ?_) (fun h => ?_)
      · refine lv_aload_n X.1 X.2.1 dX11_put_39 rfl (lv_at hl 0 rfl) ?_
        refine lv_iconst (v := 0) X.1 X.2.1 dX11_put_40 rfl ?_
        refine x_putI X hW fd_Cell_tapeLength (fun w h => List.mem_cons_of_mem _ (gin_X11 w h)) (List.mem_cons_of_mem _ gw260) z_1 dX11_put_41 tyX11 tyX11_ok nmX11 rfl rfl rfl h (fun S7 H locs h hW => ?_)
        refine lv_aload_n X.1 X.2.1 dX11_put_44 rfl (lv_at hl 0 rfl) ?_
        refine x_getR X hW fd_Cell_puts (fun w h => List.mem_cons_of_mem _ (gin_X11 w h)) (List.mem_cons_of_mem _ gw25) z_1 dX11_put_45 ?_
        refine x_getI X hW fd_Puts_used (fun w h => List.mem_cons_of_mem _ (gin_X8 w h)) (List.mem_cons_of_mem _ gw457) z_1 dX11_put_48 h (fun x8 h => ?_)
        exact x_iret X hW h dX11_put_51
      · exact w_X11_put_37 X    hW (lv_sub hl [] rfl) h
theorem c_X11_put (l : Launch) (G : xG) (hD : xD G false) (sz : Nat) (S : Mm) (v1 : Int32) (o : Int32 × Mm) (h : F_X11_put v1 S = some o) : Met l yX11_put wsX11_put rmX11_put (xPre G false S sz [.ref (G.2.2 10 0), .int v1]) (xQi G false sz o) 0 0 (XA G false sz) :=
  x_start hD (by decide) rfl (Nat.le_of_ble_eq_true rfl) (fun p e s m below meth c X hW ls hl => w_X11_put_0 X v1 hW hl h)

/-! WirelessCell.openMessage(III)LWirelessCell$Message; -/
def rmX11_openMessage : Room := { frames := 1, cells := 0, slots := 0, locals := 21 }
def L_X11_openMessage_111  (v6 : Nat) (S : Mm) : Option (Option Nat × Mm) :=
  some (some v6, S)
def L_X11_openMessage_24  (v2 : Int32) (v3 : Int32) (v4 : Nat) (s0 : Int32) (S : Mm) : Option (Option Nat × Mm) :=
  cl (F_X9_addLast v4 S) fun r3 S4 =>
  nu r3 108 (
  some (none, S4)) fun i6 =>
  pf S4 81 i6 v3 fun S7 =>
  pf S7 82 i6 v2 fun S8 =>
  pf S8 83 i6 0 fun S9 =>
  pf S9 84 i6 0 fun S10 =>
  gf S10 107 0 fun x11 =>
  pf S10 85 i6 x11 fun S12 =>
  pf S12 87 i6 (-1) fun S13 =>
  pf S13 80 i6 0 fun S14 =>
  if s0 = 0 then (
  L_X11_openMessage_111  i6 S14)
  else (
  cl (F_X1_takeFirst S14) fun r15 S16 =>
  gf S16 92 v4 fun x18 =>
  pf S16 91 v4 (r15 &&& x18) fun S19 =>
  L_X11_openMessage_111  i6 S19)
def F_X11_openMessage (v1 : Int32) (v2 : Int32) (v3 : Int32) (S : Mm) : Option (Option Nat × Mm) :=
  ldR S 52 0 9 1 v1 9 fun i1 =>
  gf S 103 i1 fun x2 =>
  if x2 = 0 then (
  L_X11_openMessage_24  v2 v3 i1 1 S)
  else (
  L_X11_openMessage_24  v2 v3 i1 0 S)
set_option maxRecDepth 100000 in
set_option maxHeartbeats 4000000 in
theorem w_X11_openMessage_111 {p : Program} {l : Launch} {e : Env} {s : State} {m : MethodId} {args : Array Value} {below : List Frame} {meth : Method} {c : Code} {G : xG} {sz : Nat} {o : Option Nat × Mm} (X : xC G false sz p s m args c cX11_openMessage 7 wsX11_openMessage RX11 meth (some (.object "WirelessCell$Message"))) (v6 : Nat) (qv6 : v6 < 108)  {S : Mm} {H : Heap} {locs : List Loc} {ls : Array Slot} (hW : xW G false sz s H locs S) (hl : lv_has ls 7 [(6, .ref (G.2.2 5 v6))]) (h : L_X11_openMessage_111  v6 S = some o) : wX p l e rmX11_openMessage s m args below meth c H locs (xQq G false sz 5 o) (XA G false sz) 111 ls [] := by
  unfold L_X11_openMessage_111 at h
  refine lv_aload X.1 X.2.1 dX11_openMessage_111 (lv_at hl 0 rfl) ?_
  exact x_aret X hW rfl (Or.inl ⟨_, rfl⟩) h dX11_openMessage_113
set_option maxRecDepth 100000 in
set_option maxHeartbeats 4000000 in
theorem w_X11_openMessage_24 {p : Program} {l : Launch} {e : Env} {s : State} {m : MethodId} {args : Array Value} {below : List Frame} {meth : Method} {c : Code} {G : xG} {sz : Nat} {o : Option Nat × Mm} (X : xC G false sz p s m args c cX11_openMessage 7 wsX11_openMessage RX11 meth (some (.object "WirelessCell$Message"))) (v2 : Int32) (v3 : Int32) (v4 : Nat) (s0 : Int32) (qv4 : v4 < 9)  {S : Mm} {H : Heap} {locs : List Loc} {ls : Array Slot} (hW : xW G false sz s H locs S) (hl : lv_has ls 7 [(0, .ref (G.2.2 10 0)), (2, .int v2), (3, .int v3), (4, .ref (G.2.2 6 v4))]) (h : L_X11_openMessage_24  v2 v3 v4 s0 S = some o) : wX p l e rmX11_openMessage s m args below meth c H locs (xQq G false sz 5 o) (XA G false sz) 24 ls [.int s0] := by
  unfold L_X11_openMessage_24 at h
  refine lv_istore (lv' := [(5, .int s0), (0, .ref (G.2.2 10 0)), (2, .int v2), (3, .int v3), (4, .ref (G.2.2 6 v4))]) X.1 X.2.1 dX11_openMessage_24 hl (by decide) rfl (fun ls hl => ?_)
  refine lv_aload X.1 X.2.1 dX11_openMessage_26 (lv_at hl 4 rfl) ?_
  refine x_getR X hW fd_Node_queue (fun w h => List.mem_cons_of_mem _ (gin_X7 w h)) (List.mem_cons_of_mem _ gw490) qv4 dX11_openMessage_28 ?_
  obtain ⟨r3, S4, h5, h⟩ := cl_some h
  refine x_aftQ X hW (x_runV (C := RX9) (a := G.2.2 8 v4) (As := []) (rest := []) X hW (c_X9_addLast l G X.2.2.2.2.2.2.2.2.2.1 _ S v4 _ h5) (cwV 0 X.2.2.2.2.1 (gV gw500 gw501 gw502 gw100 gw503) rfl rfl rfl ⟨rfl, hd_X9_addLast⟩ ⟨Nat.le_of_ble_eq_true rfl, Nat.le_of_ble_eq_true rfl⟩) (x_recv X hW ob_Queue qv4) rfl hl.1 rfl (Nat.le_of_ble_eq_true rfl) dX11_openMessage_31 ⟨Nat.zero_le _, Nat.zero_le _⟩) (fun H locs hW => ?_)
  refine x_nu h (fun h => ?_) (fun i6 qi6 h => ?_)
  · refine lv_astoreN (lv' := [(6, .null), (5, .int s0), (0, .ref (G.2.2 10 0)), (2, .int v2), (3, .int v3), (4, .ref (G.2.2 6 v4))]) X.1 X.2.1 dX11_openMessage_34 hl (by decide) rfl (fun ls hl => ?_)
    refine lv_aloadN X.1 X.2.1 dX11_openMessage_36 (lv_at hl 0 rfl) ?_
    refine lv_ifnonnullN X.1 X.2.1 dX11_openMessage_38 ?_
    refine lv_null X.1 X.2.1 dX11_openMessage_41 ?_
    exact x_nret X hW rfl (Or.inl ⟨_, rfl⟩) h dX11_openMessage_42
  · refine lv_astore (lv' := [(6, .ref (G.2.2 5 i6)), (5, .int s0), (0, .ref (G.2.2 10 0)), (2, .int v2), (3, .int v3), (4, .ref (G.2.2 6 v4))]) X.1 X.2.1 dX11_openMessage_34 hl (by decide) rfl (fun ls hl => ?_)
    refine lv_aload X.1 X.2.1 dX11_openMessage_36 (lv_at hl 0 rfl) ?_
    refine lv_ifnonnull (tgt := 43) X.1 X.2.1 dX11_openMessage_38 (by decide) ?_
    refine lv_aload X.1 X.2.1 dX11_openMessage_43 (lv_at hl 0 rfl) ?_
    refine lv_iload_n X.1 X.2.1 dX11_openMessage_45 rfl (lv_at hl 4 rfl) ?_
    refine x_putI X hW fd_Message_kind (fun w h => List.mem_cons_of_mem _ (gin_X6 w h)) (List.mem_cons_of_mem _ gw492) qi6 dX11_openMessage_46 tyX6 tyX6_ok nmX6 rfl rfl rfl h (fun S7 H locs h hW => ?_)
    refine lv_aload X.1 X.2.1 dX11_openMessage_49 (lv_at hl 0 rfl) ?_
    refine lv_iload_n X.1 X.2.1 dX11_openMessage_51 rfl (lv_at hl 3 rfl) ?_
    refine x_putI X hW fd_Message_receiver (fun w h => List.mem_cons_of_mem _ (gin_X6 w h)) (List.mem_cons_of_mem _ gw493) qi6 dX11_openMessage_52 tyX6 tyX6_ok nmX6 rfl rfl rfl h (fun S8 H locs h hW => ?_)
    refine lv_aload X.1 X.2.1 dX11_openMessage_55 (lv_at hl 0 rfl) ?_
    refine lv_iconst (v := 0) X.1 X.2.1 dX11_openMessage_57 rfl ?_
    refine x_putI X hW fd_Message_third (fun w h => List.mem_cons_of_mem _ (gin_X6 w h)) (List.mem_cons_of_mem _ gw494) qi6 dX11_openMessage_58 tyX6 tyX6_ok nmX6 rfl rfl rfl h (fun S9 H locs h hW => ?_)
    refine lv_aload X.1 X.2.1 dX11_openMessage_61 (lv_at hl 0 rfl) ?_
    refine lv_iconst (v := 0) X.1 X.2.1 dX11_openMessage_63 rfl ?_
    refine x_putI X hW fd_Message_sealed (fun w h => List.mem_cons_of_mem _ (gin_X6 w h)) (List.mem_cons_of_mem _ gw495) qi6 dX11_openMessage_64 tyX6 tyX6_ok nmX6 rfl rfl rfl h (fun S10 H locs h hW => ?_)
    refine lv_aload X.1 X.2.1 dX11_openMessage_67 (lv_at hl 0 rfl) ?_
    refine lv_aload_n X.1 X.2.1 dX11_openMessage_69 rfl (lv_at hl 2 rfl) ?_
    refine x_getI X hW fd_Cell_partSize (fun w h => List.mem_cons_of_mem _ (gin_X11 w h)) (List.mem_cons_of_mem _ gw41) z_1 dX11_openMessage_70 h (fun x11 h => ?_)
    refine x_putI X hW fd_Message_cut (fun w h => List.mem_cons_of_mem _ (gin_X6 w h)) (List.mem_cons_of_mem _ gw496) qi6 dX11_openMessage_73 tyX6 tyX6_ok nmX6 rfl rfl rfl h (fun S12 H locs h hW => ?_)
    refine lv_aload X.1 X.2.1 dX11_openMessage_76 (lv_at hl 0 rfl) ?_
    refine lv_iconst (v := (-1)) X.1 X.2.1 dX11_openMessage_78 rfl ?_
    refine x_putI X hW fd_Message_submission (fun w h => List.mem_cons_of_mem _ (gin_X6 w h)) (List.mem_cons_of_mem _ gw497) qi6 dX11_openMessage_79 tyX6 tyX6_ok nmX6 rfl rfl rfl h (fun S13 H locs h hW => ?_)
    refine lv_aload X.1 X.2.1 dX11_openMessage_82 (lv_at hl 0 rfl) ?_
    refine lv_iconst (v := 0) X.1 X.2.1 dX11_openMessage_84 rfl ?_
    refine x_putI X hW fd_Message_length (fun w h => List.mem_cons_of_mem _ (gin_X6 w h)) (List.mem_cons_of_mem _ gw485) qi6 dX11_openMessage_85 tyX6 tyX6_ok nmX6 rfl rfl rfl h (fun S14 H locs h hW => ?_)
    refine lv_iload X.1 X.2.1 dX11_openMessage_88 (lv_at hl 1 rfl) ?_
    refine x_if_eq X (tgt := 111) dX11_openMessage_90 (by decide) h (fun h => ?_) (fun h => ?_)
    · exact w_X11_openMessage_111 X i6 qi6  hW (lv_sub hl [0] rfl) h
    · refine lv_aload X.1 X.2.1 dX11_openMessage_93 (lv_at hl 5 rfl) ?_
      refine lv_aload_n X.1 X.2.1 dX11_openMessage_95 rfl (lv_at hl 2 rfl) ?_
      refine x_getR X hW fd_Cell_draws (fun w h => List.mem_cons_of_mem _ (gin_X11 w h)) (List.mem_cons_of_mem _ gw29) z_1 dX11_openMessage_96 ?_
      obtain ⟨r15, S16, h17, h⟩ := cl_some h
      refine x_aftI X hW (x_runV (C := RX1) (a := G.2.2 1 0) (As := []) (rest := [.ref (G.2.2 6 v4)]) X hW (c_X1_takeFirst l G X.2.2.2.2.2.2.2.2.2.1 _ S14 _ h17) (cwV 0 X.2.2.2.2.1 (gV gw508 gw509 gw510 gw28 gw511) rfl rfl rfl ⟨rfl, hd_X1_takeFirst⟩ ⟨Nat.le_of_ble_eq_true rfl, Nat.le_of_ble_eq_true rfl⟩) (x_recv X hW ob_Draws z_1) rfl hl.1 rfl (Nat.le_of_ble_eq_true rfl) dX11_openMessage_99 ⟨Nat.zero_le _, Nat.zero_le _⟩) (fun H locs hW => ?_)
      refine lv_aload X.1 X.2.1 dX11_openMessage_102 (lv_at hl 5 rfl) ?_
      refine x_getI X hW fd_Node_cw (fun w h => List.mem_cons_of_mem _ (gin_X7 w h)) (List.mem_cons_of_mem _ gw498) qv4 dX11_openMessage_104 h (fun x18 h => ?_)
      refine lv_iand X.1 X.2.1 dX11_openMessage_107 ?_
      refine x_putI X hW fd_Node_backoff (fun w h => List.mem_cons_of_mem _ (gin_X7 w h)) (List.mem_cons_of_mem _ gw499) qv4 dX11_openMessage_108 tyX7 tyX7_ok nmX7 rfl rfl rfl h (fun S19 H locs h hW => ?_)
      exact w_X11_openMessage_111 X i6 qi6  hW (lv_sub hl [0] rfl) h
set_option maxRecDepth 100000 in
set_option maxHeartbeats 4000000 in
theorem w_X11_openMessage_0 {p : Program} {l : Launch} {e : Env} {s : State} {m : MethodId} {args : Array Value} {below : List Frame} {meth : Method} {c : Code} {G : xG} {sz : Nat} {o : Option Nat × Mm} (X : xC G false sz p s m args c cX11_openMessage 7 wsX11_openMessage RX11 meth (some (.object "WirelessCell$Message"))) (v1 : Int32) (v2 : Int32) (v3 : Int32) {S : Mm} {H : Heap} {locs : List Loc} {ls : Array Slot} (hW : xW G false sz s H locs S) (hl : lv_has ls 7 [(0, .ref (G.2.2 10 0)), (1, .int v1), (2, .int v2), (3, .int v3)]) (h : F_X11_openMessage v1 v2 v3 S = some o) : wX p l e rmX11_openMessage s m args below meth c H locs (xQq G false sz 5 o) (XA G false sz) 0 ls [] := by
  unfold F_X11_openMessage at h
  refine lv_aload_n X.1 X.2.1 dX11_openMessage_0 rfl (lv_at hl 0 rfl) ?_
  refine x_getR X hW fd_Cell_nodes (fun w h => List.mem_cons_of_mem _ (gin_X11 w h)) (List.mem_cons_of_mem _ gw14) z_1 dX11_openMessage_1 ?_
  refine lv_iload_n X.1 X.2.1 dX11_openMessage_4 rfl (lv_at hl 1 rfl) ?_
  refine x_aald X hW ar_52 (ct := 6) rfl (at_52 G) rfl dX11_openMessage_5 h (fun i1 qi1 h => ?_)
  refine lv_astore (lv' := [(4, .ref (G.2.2 6 i1)), (0, .ref (G.2.2 10 0)), (1, .int v1), (2, .int v2), (3, .int v3)]) X.1 X.2.1 dX11_openMessage_6 hl (by decide) rfl (fun ls hl => ?_)
  refine lv_aload X.1 X.2.1 dX11_openMessage_8 (lv_at hl 0 rfl) ?_
  refine x_getR X hW fd_Node_queue (fun w h => List.mem_cons_of_mem _ (gin_X7 w h)) (List.mem_cons_of_mem _ gw490) qi1 dX11_openMessage_10 ?_
  refine x_getI X hW fd_Queue_used (fun w h => List.mem_cons_of_mem _ (gin_X9 w h)) (List.mem_cons_of_mem _ gw491) qi1 dX11_openMessage_13 h (fun x2 h => ?_)
  refine x_if_ne X (tgt := 23) dX11_openMessage_16 (by decide) h (fun h => ?_) (fun h => ?_)
  · refine lv_iconst (v := 0) X.1 X.2.1 dX11_openMessage_23 rfl ?_
    exact w_X11_openMessage_24 X v2 v3 i1 0 qi1  hW (lv_sub hl [1, 3, 4, 0] rfl) h
  · refine lv_iconst (v := 1) X.1 X.2.1 dX11_openMessage_19 rfl ?_
    refine lv_goto (tgt := 24) X.1 X.2.1 dX11_openMessage_20 (by decide) ?_
    exact w_X11_openMessage_24 X v2 v3 i1 1 qi1  hW (lv_sub hl [1, 3, 4, 0] rfl) h
theorem c_X11_openMessage (l : Launch) (G : xG) (hD : xD G false) (sz : Nat) (S : Mm) (v1 : Int32) (v2 : Int32) (v3 : Int32) (o : Option Nat × Mm) (h : F_X11_openMessage v1 v2 v3 S = some o) : Met l yX11_openMessage wsX11_openMessage rmX11_openMessage (xPre G false S sz [.ref (G.2.2 10 0), .int v1, .int v2, .int v3]) (xQq G false sz 5 o) 0 0 (XA G false sz) :=
  x_start hD (by decide) rfl (Nat.le_of_ble_eq_true rfl) (fun p e s m below meth c X hW ls hl => w_X11_openMessage_0 X v1 v2 v3 hW hl h)

/-! WirelessCell.queueBody(IIII)V -/
def rmX11_queueBody : Room := { frames := 3, cells := 0, slots := 0, locals := 68 }
def F_X11_queueBody (v1 : Int32) (v2 : Int32) (v3 : Int32) (v4 : Int32) (S : Mm) : Option (Unit × Mm) :=
  cl (F_X11_openMessage v1 v2 v3 S) fun r1 S2 =>
  nu r1 108 (
  some ((), S2)) fun i4 =>
  cl (F_X2_writeBody 36 i4 v3 v4 S2) fun r5 S6 =>
  pf S6 80 i4 r5 fun S8 =>
  some ((), S8)
set_option maxRecDepth 100000 in
set_option maxHeartbeats 4000000 in
theorem w_X11_queueBody_0 {p : Program} {l : Launch} {e : Env} {s : State} {m : MethodId} {args : Array Value} {below : List Frame} {meth : Method} {c : Code} {G : xG} {sz : Nat} {o : Unit × Mm} (X : xC G false sz p s m args c cX11_queueBody 6 wsX11_queueBody RX11 meth none) (v1 : Int32) (v2 : Int32) (v3 : Int32) (v4 : Int32) {S : Mm} {H : Heap} {locs : List Loc} {ls : Array Slot} (hW : xW G false sz s H locs S) (hl : lv_has ls 6 [(0, .ref (G.2.2 10 0)), (1, .int v1), (2, .int v2), (3, .int v3), (4, .int v4)]) (h : F_X11_queueBody v1 v2 v3 v4 S = some o) : wX p l e rmX11_queueBody s m args below meth c H locs (xQv G false sz o) (XA G false sz) 0 ls [] := by
  unfold F_X11_queueBody at h
  refine lv_aload_n X.1 X.2.1 dX11_queueBody_0 rfl (lv_at hl 0 rfl) ?_
  refine lv_iload_n X.1 X.2.1 dX11_queueBody_1 rfl (lv_at hl 1 rfl) ?_
  refine lv_iload_n X.1 X.2.1 dX11_queueBody_2 rfl (lv_at hl 2 rfl) ?_
  refine lv_iload_n X.1 X.2.1 dX11_queueBody_3 rfl (lv_at hl 3 rfl) ?_
  obtain ⟨r1, S2, h3, h⟩ := cl_some h
  refine x_aftQ X hW (x_runV (C := RX11) (a := G.2.2 10 0) (As := [.int v1, .int v2, .int v3]) (rest := []) X hW (c_X11_openMessage l G X.2.2.2.2.2.2.2.2.2.1 _ S v1 v2 v3 _ h3) (cwV 3 X.2.2.2.2.1 (gV gw486 gw487 gw488 gw2 gw489) rfl rfl rfl ⟨rfl, hd_X11_openMessage⟩ ⟨Nat.le_of_ble_eq_true rfl, Nat.le_of_ble_eq_true rfl⟩) (x_recv X hW ob_Cell z_1) rfl hl.1 rfl (Nat.le_of_ble_eq_true rfl) dX11_queueBody_4 ⟨Nat.zero_le _, Nat.zero_le _⟩) (fun H locs hW => ?_)
  refine x_nu h (fun h => ?_) (fun i4 qi4 h => ?_)
  · refine lv_astoreN (lv' := [(5, .null), (0, .ref (G.2.2 10 0)), (1, .int v1), (2, .int v2), (3, .int v3), (4, .int v4)]) X.1 X.2.1 dX11_queueBody_7 hl (by decide) rfl (fun ls hl => ?_)
    refine lv_aloadN X.1 X.2.1 dX11_queueBody_9 (lv_at hl 0 rfl) ?_
    refine lv_ifnullN (tgt := 30) X.1 X.2.1 dX11_queueBody_11 (by decide) ?_
    exact x_vret X hW h dX11_queueBody_30
  · refine lv_astore (lv' := [(5, .ref (G.2.2 5 i4)), (0, .ref (G.2.2 10 0)), (1, .int v1), (2, .int v2), (3, .int v3), (4, .int v4)]) X.1 X.2.1 dX11_queueBody_7 hl (by decide) rfl (fun ls hl => ?_)
    refine lv_aload X.1 X.2.1 dX11_queueBody_9 (lv_at hl 0 rfl) ?_
    refine lv_ifnull X.1 X.2.1 dX11_queueBody_11 ?_
    refine lv_aload X.1 X.2.1 dX11_queueBody_14 (lv_at hl 0 rfl) ?_
    refine lv_aload X.1 X.2.1 dX11_queueBody_16 (lv_at hl 0 rfl) ?_
    refine x_getR X hW fd_Message_bytes (fun w h => List.mem_cons_of_mem _ (gin_X6 w h)) (List.mem_cons_of_mem _ gw484) qi4 dX11_queueBody_18 ?_
    refine lv_iload_n X.1 X.2.1 dX11_queueBody_21 rfl (lv_at hl 4 rfl) ?_
    refine lv_iload X.1 X.2.1 dX11_queueBody_22 (lv_at hl 5 rfl) ?_
    obtain ⟨r5, S6, h7, h⟩ := cl_some h
    refine x_aftI X hW (x_runS (As := [.ref (G.2.2 36 i4), .int v3, .int v4]) (rest := [.ref (G.2.2 5 i4)]) X hW (c_X2_writeBody l G X.2.2.2.2.2.2.2.2.2.1 _ S2 36 i4 v3 v4 _ h7) (va_cwS 3 X.2.2.2.2.1 (gS gw512 gw513 gw267 gw514) rfl rfl rfl hd_X2_writeBody ⟨Nat.le_of_ble_eq_true rfl, Nat.le_of_ble_eq_true rfl⟩) rfl hl.1 rfl (Nat.le_of_ble_eq_true rfl) dX11_queueBody_24 ⟨Nat.zero_le _, Nat.zero_le _⟩) (fun H locs hW => ?_)
    refine x_putI X hW fd_Message_length (fun w h => List.mem_cons_of_mem _ (gin_X6 w h)) (List.mem_cons_of_mem _ gw485) qi4 dX11_queueBody_27 tyX6 tyX6_ok nmX6 rfl rfl rfl h (fun S8 H locs h hW => ?_)
    exact x_vret X hW h dX11_queueBody_30
theorem c_X11_queueBody (l : Launch) (G : xG) (hD : xD G false) (sz : Nat) (S : Mm) (v1 : Int32) (v2 : Int32) (v3 : Int32) (v4 : Int32) (o : Unit × Mm) (h : F_X11_queueBody v1 v2 v3 v4 S = some o) : Met l yX11_queueBody wsX11_queueBody rmX11_queueBody (xPre G false S sz [.ref (G.2.2 10 0), .int v1, .int v2, .int v3, .int v4]) (xQv G false sz o) 0 0 (XA G false sz) :=
  x_start hD (by decide) rfl (Nat.le_of_ble_eq_true rfl) (fun p e s m below meth c X hW ls hl => w_X11_queueBody_0 X v1 v2 v3 v4 hW hl h)

/-! WirelessCell.join(I)I -/
def rmX11_join : Room := { frames := 4, cells := 0, slots := 0, locals := 93 }
def F_X11_join (v1 : Int32) (S : Mm) : Option (Int32 × Mm) :=
  cl (F_X11_isStation v1 S) fun r1 S2 =>
  if r1 = 0 then (
  some ((-1), S2))
  else (
  ldR S2 53 0 9 1 v1 18 fun i4 =>
  cl (F_X4_loseKey i4 1 S2) fun r5 S6 =>
  ldR S6 53 0 9 1 v1 18 fun i8 =>
  pf S6 63 i8 1 fun S9 =>
  cl (F_X11_queueBody v1 0 176 1 S9) fun r10 S11 =>
  some (0, S11))
set_option maxRecDepth 100000 in
set_option maxHeartbeats 4000000 in
theorem w_X11_join_0 {p : Program} {l : Launch} {e : Env} {s : State} {m : MethodId} {args : Array Value} {below : List Frame} {meth : Method} {c : Code} {G : xG} {sz : Nat} {o : Int32 × Mm} (X : xC G false sz p s m args c cX11_join 2 wsX11_join RX11 meth (some .int)) (v1 : Int32) {S : Mm} {H : Heap} {locs : List Loc} {ls : Array Slot} (hW : xW G false sz s H locs S) (hl : lv_has ls 2 [(0, .ref (G.2.2 10 0)), (1, .int v1)]) (h : F_X11_join v1 S = some o) : wX p l e rmX11_join s m args below meth c H locs (xQi G false sz o) (XA G false sz) 0 ls [] := by
  unfold F_X11_join at h
  refine lv_iload_n X.1 X.2.1 dX11_join_0 rfl (lv_at hl 1 rfl) ?_
  obtain ⟨r1, S2, h3, h⟩ := cl_some h
  refine x_aftI X hW (x_runS (As := [.int v1]) (rest := []) X hW (c_X11_isStation l G X.2.2.2.2.2.2.2.2.2.1 _ S v1 _ h3) (va_cwS 1 X.2.2.2.2.1 (gS gw359 gw360 gw2 gw361) rfl rfl rfl hd_X11_isStation ⟨Nat.le_of_ble_eq_true rfl, Nat.le_of_ble_eq_true rfl⟩) rfl hl.1 rfl (Nat.le_of_ble_eq_true rfl) dX11_join_1 ⟨Nat.zero_le _, Nat.zero_le _⟩) (fun H locs hW => ?_)
  refine x_if_ne X (tgt := 9) dX11_join_4 (by decide) h (fun h => ?_) (fun h => ?_)
  · refine lv_aload_n X.1 X.2.1 dX11_join_9 rfl (lv_at hl 0 rfl) ?_
    refine x_getR X hW fd_Cell_bySelf (fun w h => List.mem_cons_of_mem _ (gin_X11 w h)) (List.mem_cons_of_mem _ gw16) z_1 dX11_join_10 ?_
    refine lv_iload_n X.1 X.2.1 dX11_join_13 rfl (lv_at hl 1 rfl) ?_
    refine x_aald X hW ar_53 (ct := 3) rfl (at_53 G) rfl dX11_join_14 h (fun i4 qi4 h => ?_)
    refine lv_iconst (v := 1) X.1 X.2.1 dX11_join_15 rfl ?_
    obtain ⟨r5, S6, h7, h⟩ := cl_some h
    refine x_aftV X hW (x_runV (C := RX4) (a := G.2.2 3 i4) (As := [.int 1]) (rest := []) X hW (c_X4_loseKey l G X.2.2.2.2.2.2.2.2.2.1 _ S2 i4 1 _ h7) (cwV 1 X.2.2.2.2.1 (gV gw474 gw475 gw476 gw48 gw477) rfl rfl rfl ⟨rfl, hd_X4_loseKey⟩ ⟨Nat.le_of_ble_eq_true rfl, Nat.le_of_ble_eq_true rfl⟩) (x_recv X hW ob_Link qi4) rfl hl.1 rfl (Nat.le_of_ble_eq_true rfl) dX11_join_16 ⟨Nat.zero_le _, Nat.zero_le _⟩) (fun H locs hW => ?_)
    refine lv_aload_n X.1 X.2.1 dX11_join_19 rfl (lv_at hl 0 rfl) ?_
    refine x_getR X hW fd_Cell_bySelf (fun w h => List.mem_cons_of_mem _ (gin_X11 w h)) (List.mem_cons_of_mem _ gw16) z_1 dX11_join_20 ?_
    refine lv_iload_n X.1 X.2.1 dX11_join_23 rfl (lv_at hl 1 rfl) ?_
    refine x_aald X hW ar_53 (ct := 3) rfl (at_53 G) rfl dX11_join_24 h (fun i8 qi8 h => ?_)
    refine lv_iconst (v := 1) X.1 X.2.1 dX11_join_25 rfl ?_
    refine x_putI X hW fd_Link_asked (fun w h => List.mem_cons_of_mem _ (gin_X4 w h)) (List.mem_cons_of_mem _ gw473) qi8 dX11_join_26 tyX4 tyX4_ok nmX4 rfl rfl rfl h (fun S9 H locs h hW => ?_)
    refine lv_aload_n X.1 X.2.1 dX11_join_29 rfl (lv_at hl 0 rfl) ?_
    refine lv_iload_n X.1 X.2.1 dX11_join_30 rfl (lv_at hl 1 rfl) ?_
    refine lv_iconst (v := 0) X.1 X.2.1 dX11_join_31 rfl ?_
    refine lv_sipush (v := 176) X.1 X.2.1 dX11_join_32 rfl ?_
    refine lv_iconst (v := 1) X.1 X.2.1 dX11_join_35 rfl ?_
    obtain ⟨r10, S11, h12, h⟩ := cl_some h
    refine x_aftV X hW (x_runV (C := RX11) (a := G.2.2 10 0) (As := [.int v1, .int 0, .int 176, .int 1]) (rest := []) X hW (c_X11_queueBody l G X.2.2.2.2.2.2.2.2.2.1 _ S9 v1 0 176 1 _ h12) (cwV 4 X.2.2.2.2.1 (gV gw480 gw481 gw482 gw2 gw483) rfl rfl rfl ⟨rfl, hd_X11_queueBody⟩ ⟨Nat.le_of_ble_eq_true rfl, Nat.le_of_ble_eq_true rfl⟩) (x_recv X hW ob_Cell z_1) rfl hl.1 rfl (Nat.le_of_ble_eq_true rfl) dX11_join_36 ⟨Nat.zero_le _, Nat.zero_le _⟩) (fun H locs hW => ?_)
    refine lv_iconst (v := 0) X.1 X.2.1 dX11_join_39 rfl ?_
    exact x_iret X hW h dX11_join_40
  · refine lv_iconst (v := (-1)) X.1 X.2.1 dX11_join_7 rfl ?_
    exact x_iret X hW h dX11_join_8
theorem c_X11_join (l : Launch) (G : xG) (hD : xD G false) (sz : Nat) (S : Mm) (v1 : Int32) (o : Int32 × Mm) (h : F_X11_join v1 S = some o) : Met l yX11_join wsX11_join rmX11_join (xPre G false S sz [.ref (G.2.2 10 0), .int v1]) (xQi G false sz o) 0 0 (XA G false sz) :=
  x_start hD (by decide) rfl (Nat.le_of_ble_eq_true rfl) (fun p e s m below meth c X hW ls hl => w_X11_join_0 X v1 hW hl h)

/-! WirelessCell.leave(II)I -/
def rmX11_leave : Room := { frames := 4, cells := 0, slots := 0, locals := 93 }
def L_X11_leave_18   (S : Mm) : Option (Int32 × Mm) :=
  some ((-1), S)
def F_X11_leave (v1 : Int32) (v2 : Int32) (S : Mm) : Option (Int32 × Mm) :=
  cl (F_X11_isStation v1 S) fun r1 S2 =>
  if r1 = 0 then (
  L_X11_leave_18  S2)
  else (
  if v2 < 0 then (
  L_X11_leave_18  S2)
  else (
  if v2 ≤ 255 then (
  ldR S2 53 0 9 1 v1 18 fun i4 =>
  cl (F_X4_loseKey i4 1 S2) fun r5 S6 =>
  ldR S6 53 0 9 1 v1 18 fun i8 =>
  pf S6 63 i8 0 fun S9 =>
  cl (F_X11_queueBody v1 0 192 v2 S9) fun r10 S11 =>
  some (0, S11))
  else (
  L_X11_leave_18  S2)))
set_option maxRecDepth 100000 in
set_option maxHeartbeats 4000000 in
theorem w_X11_leave_18 {p : Program} {l : Launch} {e : Env} {s : State} {m : MethodId} {args : Array Value} {below : List Frame} {meth : Method} {c : Code} {G : xG} {sz : Nat} {o : Int32 × Mm} (X : xC G false sz p s m args c cX11_leave 3 wsX11_leave RX11 meth (some .int))    {S : Mm} {H : Heap} {locs : List Loc} {ls : Array Slot} (hW : xW G false sz s H locs S) (hl : lv_has ls 3 []) (h : L_X11_leave_18   S = some o) : wX p l e rmX11_leave s m args below meth c H locs (xQi G false sz o) (XA G false sz) 18 ls [] := by
  unfold L_X11_leave_18 at h
  refine lv_iconst (v := (-1)) X.1 X.2.1 dX11_leave_18 rfl ?_
  exact x_iret X hW h dX11_leave_19
set_option maxRecDepth 100000 in
set_option maxHeartbeats 4000000 in
theorem w_X11_leave_0 {p : Program} {l : Launch} {e : Env} {s : State} {m : MethodId} {args : Array Value} {below : List Frame} {meth : Method} {c : Code} {G : xG} {sz : Nat} {o : Int32 × Mm} (X : xC G false sz p s m args c cX11_leave 3 wsX11_leave RX11 meth (some .int)) (v1 : Int32) (v2 : Int32) {S : Mm} {H : Heap} {locs : List Loc} {ls : Array Slot} (hW : xW G false sz s H locs S) (hl : lv_has ls 3 [(0, .ref (G.2.2 10 0)), (1, .int v1), (2, .int v2)]) (h : F_X11_leave v1 v2 S = some o) : wX p l e rmX11_leave s m args below meth c H locs (xQi G false sz o) (XA G false sz) 0 ls [] := by
  unfold F_X11_leave at h
  refine lv_iload_n X.1 X.2.1 dX11_leave_0 rfl (lv_at hl 1 rfl) ?_
  obtain ⟨r1, S2, h3, h⟩ := cl_some h
  refine x_aftI X hW (x_runS (As := [.int v1]) (rest := []) X hW (c_X11_isStation l G X.2.2.2.2.2.2.2.2.2.1 _ S v1 _ h3) (va_cwS 1 X.2.2.2.2.1 (gS gw359 gw360 gw2 gw361) rfl rfl rfl hd_X11_isStation ⟨Nat.le_of_ble_eq_true rfl, Nat.le_of_ble_eq_true rfl⟩) rfl hl.1 rfl (Nat.le_of_ble_eq_true rfl) dX11_leave_1 ⟨Nat.zero_le _, Nat.zero_le _⟩) (fun H locs hW => ?_)
  refine x_if_eq X (tgt := 18) dX11_leave_4 (by decide) h (fun h => ?_) (fun h => ?_)
  · exact w_X11_leave_18 X    hW (lv_sub hl [] rfl) h
  · refine lv_iload_n X.1 X.2.1 dX11_leave_7 rfl (lv_at hl 2 rfl) ?_
    refine x_if_lt X (tgt := 18) dX11_leave_8 (by decide) h (fun h => ?_) (fun h => ?_)
    · exact w_X11_leave_18 X    hW (lv_sub hl [] rfl) h
    · refine lv_iload_n X.1 X.2.1 dX11_leave_11 rfl (lv_at hl 2 rfl) ?_
      refine lv_sipush (v := 255) X.1 X.2.1 dX11_leave_12 rfl ?_
      refine x_icmp_le X (tgt := 20) dX11_leave_15 (by decide) h (fun h => ?_) (fun h => ?_)
      · refine lv_aload_n X.1 X.2.1 dX11_leave_20 rfl (lv_at hl 0 rfl) ?_
        refine x_getR X hW fd_Cell_bySelf (fun w h => List.mem_cons_of_mem _ (gin_X11 w h)) (List.mem_cons_of_mem _ gw16) z_1 dX11_leave_21 ?_
        refine lv_iload_n X.1 X.2.1 dX11_leave_24 rfl (lv_at hl 1 rfl) ?_
        refine x_aald X hW ar_53 (ct := 3) rfl (at_53 G) rfl dX11_leave_25 h (fun i4 qi4 h => ?_)
        refine lv_iconst (v := 1) X.1 X.2.1 dX11_leave_26 rfl ?_
        obtain ⟨r5, S6, h7, h⟩ := cl_some h
        refine x_aftV X hW (x_runV (C := RX4) (a := G.2.2 3 i4) (As := [.int 1]) (rest := []) X hW (c_X4_loseKey l G X.2.2.2.2.2.2.2.2.2.1 _ S2 i4 1 _ h7) (cwV 1 X.2.2.2.2.1 (gV gw474 gw475 gw476 gw48 gw477) rfl rfl rfl ⟨rfl, hd_X4_loseKey⟩ ⟨Nat.le_of_ble_eq_true rfl, Nat.le_of_ble_eq_true rfl⟩) (x_recv X hW ob_Link qi4) rfl hl.1 rfl (Nat.le_of_ble_eq_true rfl) dX11_leave_27 ⟨Nat.zero_le _, Nat.zero_le _⟩) (fun H locs hW => ?_)
        refine lv_aload_n X.1 X.2.1 dX11_leave_30 rfl (lv_at hl 0 rfl) ?_
        refine x_getR X hW fd_Cell_bySelf (fun w h => List.mem_cons_of_mem _ (gin_X11 w h)) (List.mem_cons_of_mem _ gw16) z_1 dX11_leave_31 ?_
        refine lv_iload_n X.1 X.2.1 dX11_leave_34 rfl (lv_at hl 1 rfl) ?_
        refine x_aald X hW ar_53 (ct := 3) rfl (at_53 G) rfl dX11_leave_35 h (fun i8 qi8 h => ?_)
        refine lv_iconst (v := 0) X.1 X.2.1 dX11_leave_36 rfl ?_
        refine x_putI X hW fd_Link_asked (fun w h => List.mem_cons_of_mem _ (gin_X4 w h)) (List.mem_cons_of_mem _ gw473) qi8 dX11_leave_37 tyX4 tyX4_ok nmX4 rfl rfl rfl h (fun S9 H locs h hW => ?_)
        refine lv_aload_n X.1 X.2.1 dX11_leave_40 rfl (lv_at hl 0 rfl) ?_
        refine lv_iload_n X.1 X.2.1 dX11_leave_41 rfl (lv_at hl 1 rfl) ?_
        refine lv_iconst (v := 0) X.1 X.2.1 dX11_leave_42 rfl ?_
        refine lv_sipush (v := 192) X.1 X.2.1 dX11_leave_43 rfl ?_
        refine lv_iload_n X.1 X.2.1 dX11_leave_46 rfl (lv_at hl 2 rfl) ?_
        obtain ⟨r10, S11, h12, h⟩ := cl_some h
        refine x_aftV X hW (x_runV (C := RX11) (a := G.2.2 10 0) (As := [.int v1, .int 0, .int 192, .int v2]) (rest := []) X hW (c_X11_queueBody l G X.2.2.2.2.2.2.2.2.2.1 _ S9 v1 0 192 v2 _ h12) (cwV 4 X.2.2.2.2.1 (gV gw480 gw481 gw482 gw2 gw483) rfl rfl rfl ⟨rfl, hd_X11_queueBody⟩ ⟨Nat.le_of_ble_eq_true rfl, Nat.le_of_ble_eq_true rfl⟩) (x_recv X hW ob_Cell z_1) rfl hl.1 rfl (Nat.le_of_ble_eq_true rfl) dX11_leave_47 ⟨Nat.zero_le _, Nat.zero_le _⟩) (fun H locs hW => ?_)
        refine lv_iconst (v := 0) X.1 X.2.1 dX11_leave_50 rfl ?_
        exact x_iret X hW h dX11_leave_51
      · exact w_X11_leave_18 X    hW (lv_sub hl [] rfl) h
theorem c_X11_leave (l : Launch) (G : xG) (hD : xD G false) (sz : Nat) (S : Mm) (v1 : Int32) (v2 : Int32) (o : Int32 × Mm) (h : F_X11_leave v1 v2 S = some o) : Met l yX11_leave wsX11_leave rmX11_leave (xPre G false S sz [.ref (G.2.2 10 0), .int v1, .int v2]) (xQi G false sz o) 0 0 (XA G false sz) :=
  x_start hD (by decide) rfl (Nat.le_of_ble_eq_true rfl) (fun p e s m below meth c X hW ls hl => w_X11_leave_0 X v1 v2 hW hl h)

/-! WirelessCell.linkOf(II)LWirelessCell$Link; -/
def rmX11_linkOf : Room := { frames := 0, cells := 0, slots := 0, locals := 0 }
def F_X11_linkOf (v1 : Int32) (v2 : Int32) (S : Mm) : Option (Option Nat × Mm) :=
  if v1 = 0 then (
  ldR S 54 0 9 1 v2 18 fun i2 =>
  some (some i2, S))
  else (
  ldR S 53 0 9 1 v1 18 fun i1 =>
  some (some i1, S))
set_option maxRecDepth 100000 in
set_option maxHeartbeats 4000000 in
theorem w_X11_linkOf_0 {p : Program} {l : Launch} {e : Env} {s : State} {m : MethodId} {args : Array Value} {below : List Frame} {meth : Method} {c : Code} {G : xG} {sz : Nat} {o : Option Nat × Mm} (X : xC G false sz p s m args c cX11_linkOf 3 wsX11_linkOf RX11 meth (some (.object "WirelessCell$Link"))) (v1 : Int32) (v2 : Int32) {S : Mm} {H : Heap} {locs : List Loc} {ls : Array Slot} (hW : xW G false sz s H locs S) (hl : lv_has ls 3 [(0, .ref (G.2.2 10 0)), (1, .int v1), (2, .int v2)]) (h : F_X11_linkOf v1 v2 S = some o) : wX p l e rmX11_linkOf s m args below meth c H locs (xQq G false sz 3 o) (XA G false sz) 0 ls [] := by
  unfold F_X11_linkOf at h
  refine lv_iload_n X.1 X.2.1 dX11_linkOf_0 rfl (lv_at hl 1 rfl) ?_
  refine x_if_ne X (tgt := 13) dX11_linkOf_1 (by decide) h (fun h => ?_) (fun h => ?_)
  · refine lv_aload_n X.1 X.2.1 dX11_linkOf_13 rfl (lv_at hl 0 rfl) ?_
    refine x_getR X hW fd_Cell_bySelf (fun w h => List.mem_cons_of_mem _ (gin_X11 w h)) (List.mem_cons_of_mem _ gw16) z_1 dX11_linkOf_14 ?_
    refine lv_iload_n X.1 X.2.1 dX11_linkOf_17 rfl (lv_at hl 1 rfl) ?_
    refine x_aald X hW ar_53 (ct := 3) rfl (at_53 G) rfl dX11_linkOf_18 h (fun i1 qi1 h => ?_)
    exact x_aret X hW rfl (Or.inl ⟨_, rfl⟩) h dX11_linkOf_19
  · refine lv_aload_n X.1 X.2.1 dX11_linkOf_4 rfl (lv_at hl 0 rfl) ?_
    refine x_getR X hW fd_Cell_byAp (fun w h => List.mem_cons_of_mem _ (gin_X11 w h)) (List.mem_cons_of_mem _ gw17) z_1 dX11_linkOf_5 ?_
    refine lv_iload_n X.1 X.2.1 dX11_linkOf_8 rfl (lv_at hl 2 rfl) ?_
    refine x_aald X hW ar_54 (ct := 3) rfl (at_54 G) rfl dX11_linkOf_9 h (fun i2 qi2 h => ?_)
    refine lv_goto (tgt := 19) X.1 X.2.1 dX11_linkOf_10 (by decide) ?_
    exact x_aret X hW rfl (Or.inl ⟨_, rfl⟩) h dX11_linkOf_19
theorem c_X11_linkOf (l : Launch) (G : xG) (hD : xD G false) (sz : Nat) (S : Mm) (v1 : Int32) (v2 : Int32) (o : Option Nat × Mm) (h : F_X11_linkOf v1 v2 S = some o) : Met l yX11_linkOf wsX11_linkOf rmX11_linkOf (xPre G false S sz [.ref (G.2.2 10 0), .int v1, .int v2]) (xQq G false sz 3 o) 0 0 (XA G false sz) :=
  x_start hD (by decide) rfl (Nat.le_of_ble_eq_true rfl) (fun p e s m below meth c X hW ls hl => w_X11_linkOf_0 X v1 v2 hW hl h)

/-! WirelessCell.queueTape(III)I -/
def rmX11_queueTape : Room := { frames := 2, cells := 0, slots := 0, locals := 47 }
def L_X11_queueTape_62  (v3 : Int32) (v5 : Nat) (s0 : Nat) (s1 : Int32) (S : Mm) : Option (Int32 × Mm) :=
  pf S 83 s0 s1 fun S11 =>
  pf S11 87 v5 v3 fun S12 =>
  cl (F_X2_writeHead 36 v5 8 0 S12) fun r13 S14 =>
  gf S14 105 0 fun x16 =>
  cpP false S14 55 0 0 36 v5 8 x16 fun S17 =>
  gf S17 105 0 fun x18 =>
  pf S17 80 v5 (8 + x18) fun S19 =>
  some (0, S19)
def L_X11_queueTape_9  (v1 : Int32) (v2 : Int32) (v3 : Int32) (s0 : Int32) (S : Mm) : Option (Int32 × Mm) :=
  cl (F_X11_linkOf v1 s0 S) fun r1 S2 =>
  nn r1 18 fun i4 =>
  gf S2 62 i4 fun x5 =>
  if x5 = 4 then (
  cl (F_X11_openMessage v1 s0 8 S2) fun r6 S7 =>
  nu r6 108 (
  some (3, S7)) fun i9 =>
  pf S7 84 i9 1 fun S10 =>
  if v1 = 0 then (
  L_X11_queueTape_62  v3 i9 i9 0 S10)
  else (
  L_X11_queueTape_62  v3 i9 i9 v2 S10))
  else (
  some (4, S2))
def F_X11_queueTape (v1 : Int32) (v2 : Int32) (v3 : Int32) (S : Mm) : Option (Int32 × Mm) :=
  if v1 = 0 then (
  L_X11_queueTape_9  v1 v2 v3 v2 S)
  else (
  L_X11_queueTape_9  v1 v2 v3 0 S)
set_option maxRecDepth 100000 in
set_option maxHeartbeats 4000000 in
theorem w_X11_queueTape_62 {p : Program} {l : Launch} {e : Env} {s : State} {m : MethodId} {args : Array Value} {below : List Frame} {meth : Method} {c : Code} {G : xG} {sz : Nat} {o : Int32 × Mm} (X : xC G false sz p s m args c cX11_queueTape 6 wsX11_queueTape RX11 meth (some .int)) (v3 : Int32) (v5 : Nat) (s0 : Nat) (s1 : Int32) (qv5 : v5 < 108) (qs0 : s0 < 108)  {S : Mm} {H : Heap} {locs : List Loc} {ls : Array Slot} (hW : xW G false sz s H locs S) (hl : lv_has ls 6 [(0, .ref (G.2.2 10 0)), (3, .int v3), (5, .ref (G.2.2 5 v5))]) (h : L_X11_queueTape_62  v3 v5 s0 s1 S = some o) : wX p l e rmX11_queueTape s m args below meth c H locs (xQi G false sz o) (XA G false sz) 62 ls [.int s1, .ref (G.2.2 5 s0)] := by
  unfold L_X11_queueTape_62 at h
  refine x_putI X hW fd_Message_third (fun w h => List.mem_cons_of_mem _ (gin_X6 w h)) (List.mem_cons_of_mem _ gw494) qs0 dX11_queueTape_62 tyX6 tyX6_ok nmX6 rfl rfl rfl h (fun S11 H locs h hW => ?_)
  refine lv_aload X.1 X.2.1 dX11_queueTape_65 (lv_at hl 2 rfl) ?_
  refine lv_iload_n X.1 X.2.1 dX11_queueTape_67 rfl (lv_at hl 1 rfl) ?_
  refine x_putI X hW fd_Message_submission (fun w h => List.mem_cons_of_mem _ (gin_X6 w h)) (List.mem_cons_of_mem _ gw497) qv5 dX11_queueTape_68 tyX6 tyX6_ok nmX6 rfl rfl rfl h (fun S12 H locs h hW => ?_)
  refine lv_aload X.1 X.2.1 dX11_queueTape_71 (lv_at hl 2 rfl) ?_
  refine x_getR X hW fd_Message_bytes (fun w h => List.mem_cons_of_mem _ (gin_X6 w h)) (List.mem_cons_of_mem _ gw484) qv5 dX11_queueTape_73 ?_
  refine lv_bipush (v := 8) X.1 X.2.1 dX11_queueTape_76 rfl ?_
  refine lv_iconst (v := 0) X.1 X.2.1 dX11_queueTape_78 rfl ?_
  obtain ⟨r13, S14, h15, h⟩ := cl_some h
  refine x_aftV X hW (x_runS (As := [.ref (G.2.2 36 v5), .int 8, .int 0]) (rest := []) X hW (c_X2_writeHead l G X.2.2.2.2.2.2.2.2.2.1 _ S12 36 v5 8 0 _ h15) (va_cwS 3 X.2.2.2.2.1 (gS gw576 gw577 gw267 gw578) rfl rfl rfl hd_X2_writeHead ⟨Nat.le_of_ble_eq_true rfl, Nat.le_of_ble_eq_true rfl⟩) rfl hl.1 rfl (Nat.le_of_ble_eq_true rfl) dX11_queueTape_79 ⟨Nat.zero_le _, Nat.zero_le _⟩) (fun H locs hW => ?_)
  refine lv_aload_n X.1 X.2.1 dX11_queueTape_82 rfl (lv_at hl 0 rfl) ?_
  refine x_getR X hW fd_Cell_tape (fun w h => List.mem_cons_of_mem _ (gin_X11 w h)) (List.mem_cons_of_mem _ gw39) z_1 dX11_queueTape_83 ?_
  refine lv_iconst (v := 0) X.1 X.2.1 dX11_queueTape_86 rfl ?_
  refine lv_aload X.1 X.2.1 dX11_queueTape_87 (lv_at hl 2 rfl) ?_
  refine x_getR X hW fd_Message_bytes (fun w h => List.mem_cons_of_mem _ (gin_X6 w h)) (List.mem_cons_of_mem _ gw484) qv5 dX11_queueTape_89 ?_
  refine lv_bipush (v := 8) X.1 X.2.1 dX11_queueTape_92 rfl ?_
  refine lv_aload_n X.1 X.2.1 dX11_queueTape_94 rfl (lv_at hl 0 rfl) ?_
  refine x_getI X hW fd_Cell_tapeLength (fun w h => List.mem_cons_of_mem _ (gin_X11 w h)) (List.mem_cons_of_mem _ gw260) z_1 dX11_queueTape_95 h (fun x16 h => ?_)
  refine x_acopy X hW hl.1 (List.mem_cons_of_mem _ gw324) (List.mem_cons_of_mem _ gw325) (List.mem_cons_of_mem _ gw326) (List.mem_cons_of_mem _ gw327) (Nat.le_of_ble_eq_true rfl) (Nat.le_of_ble_eq_true rfl) dX11_queueTape_98 h (fun S17 H locs h hW => ?_)
  refine lv_aload X.1 X.2.1 dX11_queueTape_101 (lv_at hl 2 rfl) ?_
  refine lv_bipush (v := 8) X.1 X.2.1 dX11_queueTape_103 rfl ?_
  refine lv_aload_n X.1 X.2.1 dX11_queueTape_105 rfl (lv_at hl 0 rfl) ?_
  refine x_getI X hW fd_Cell_tapeLength (fun w h => List.mem_cons_of_mem _ (gin_X11 w h)) (List.mem_cons_of_mem _ gw260) z_1 dX11_queueTape_106 h (fun x18 h => ?_)
  refine lv_iadd X.1 X.2.1 dX11_queueTape_109 ?_
  refine x_putI X hW fd_Message_length (fun w h => List.mem_cons_of_mem _ (gin_X6 w h)) (List.mem_cons_of_mem _ gw485) qv5 dX11_queueTape_110 tyX6 tyX6_ok nmX6 rfl rfl rfl h (fun S19 H locs h hW => ?_)
  refine lv_iconst (v := 0) X.1 X.2.1 dX11_queueTape_113 rfl ?_
  exact x_iret X hW h dX11_queueTape_114
set_option maxRecDepth 100000 in
set_option maxHeartbeats 4000000 in
theorem w_X11_queueTape_9 {p : Program} {l : Launch} {e : Env} {s : State} {m : MethodId} {args : Array Value} {below : List Frame} {meth : Method} {c : Code} {G : xG} {sz : Nat} {o : Int32 × Mm} (X : xC G false sz p s m args c cX11_queueTape 6 wsX11_queueTape RX11 meth (some .int)) (v1 : Int32) (v2 : Int32) (v3 : Int32) (s0 : Int32)   {S : Mm} {H : Heap} {locs : List Loc} {ls : Array Slot} (hW : xW G false sz s H locs S) (hl : lv_has ls 6 [(0, .ref (G.2.2 10 0)), (1, .int v1), (2, .int v2), (3, .int v3)]) (h : L_X11_queueTape_9  v1 v2 v3 s0 S = some o) : wX p l e rmX11_queueTape s m args below meth c H locs (xQi G false sz o) (XA G false sz) 9 ls [.int s0] := by
  unfold L_X11_queueTape_9 at h
  refine lv_istore (lv' := [(4, .int s0), (0, .ref (G.2.2 10 0)), (1, .int v1), (2, .int v2), (3, .int v3)]) X.1 X.2.1 dX11_queueTape_9 hl (by decide) rfl (fun ls hl => ?_)
  refine lv_aload_n X.1 X.2.1 dX11_queueTape_11 rfl (lv_at hl 1 rfl) ?_
  refine lv_iload_n X.1 X.2.1 dX11_queueTape_12 rfl (lv_at hl 2 rfl) ?_
  refine lv_iload X.1 X.2.1 dX11_queueTape_13 (lv_at hl 0 rfl) ?_
  obtain ⟨r1, S2, h3, h⟩ := cl_some h
  refine x_aftQ X hW (x_runV (C := RX11) (a := G.2.2 10 0) (As := [.int v1, .int s0]) (rest := []) X hW (c_X11_linkOf l G X.2.2.2.2.2.2.2.2.2.1 _ S v1 s0 _ h3) (cwV 2 X.2.2.2.2.1 (gV gw572 gw573 gw574 gw2 gw575) rfl rfl rfl ⟨rfl, hd_X11_linkOf⟩ ⟨Nat.le_of_ble_eq_true rfl, Nat.le_of_ble_eq_true rfl⟩) (x_recv X hW ob_Cell z_1) rfl hl.1 rfl (Nat.le_of_ble_eq_true rfl) dX11_queueTape_15 ⟨Nat.zero_le _, Nat.zero_le _⟩) (fun H locs hW => ?_)
  refine x_nn h (fun i4 qi4 h => ?_)
  refine x_getI X hW fd_Link_state (fun w h => List.mem_cons_of_mem _ (gin_X4 w h)) (List.mem_cons_of_mem _ gw571) qi4 dX11_queueTape_18 h (fun x5 h => ?_)
  refine lv_iconst (v := 4) X.1 X.2.1 dX11_queueTape_21 rfl ?_
  refine x_icmp_eq X (tgt := 27) dX11_queueTape_22 (by decide) h (fun h => ?_) (fun h => ?_)
  · refine lv_aload_n X.1 X.2.1 dX11_queueTape_27 rfl (lv_at hl 1 rfl) ?_
    refine lv_iload_n X.1 X.2.1 dX11_queueTape_28 rfl (lv_at hl 2 rfl) ?_
    refine lv_iload X.1 X.2.1 dX11_queueTape_29 (lv_at hl 0 rfl) ?_
    refine lv_bipush (v := 8) X.1 X.2.1 dX11_queueTape_31 rfl ?_
    obtain ⟨r6, S7, h8, h⟩ := cl_some h
    refine x_aftQ X hW (x_runV (C := RX11) (a := G.2.2 10 0) (As := [.int v1, .int s0, .int 8]) (rest := []) X hW (c_X11_openMessage l G X.2.2.2.2.2.2.2.2.2.1 _ S2 v1 s0 8 _ h8) (cwV 3 X.2.2.2.2.1 (gV gw486 gw487 gw488 gw2 gw489) rfl rfl rfl ⟨rfl, hd_X11_openMessage⟩ ⟨Nat.le_of_ble_eq_true rfl, Nat.le_of_ble_eq_true rfl⟩) (x_recv X hW ob_Cell z_1) rfl hl.1 rfl (Nat.le_of_ble_eq_true rfl) dX11_queueTape_33 ⟨Nat.zero_le _, Nat.zero_le _⟩) (fun H locs hW => ?_)
    refine x_nu h (fun h => ?_) (fun i9 qi9 h => ?_)
    · refine lv_astoreN (lv' := [(5, .null), (4, .int s0), (0, .ref (G.2.2 10 0)), (1, .int v1), (2, .int v2), (3, .int v3)]) X.1 X.2.1 dX11_queueTape_36 hl (by decide) rfl (fun ls hl => ?_)
      refine lv_aloadN X.1 X.2.1 dX11_queueTape_38 (lv_at hl 0 rfl) ?_
      refine lv_ifnonnullN X.1 X.2.1 dX11_queueTape_40 ?_
      refine lv_iconst (v := 3) X.1 X.2.1 dX11_queueTape_43 rfl ?_
      exact x_iret X hW h dX11_queueTape_44
    · refine lv_astore (lv' := [(5, .ref (G.2.2 5 i9)), (4, .int s0), (0, .ref (G.2.2 10 0)), (1, .int v1), (2, .int v2), (3, .int v3)]) X.1 X.2.1 dX11_queueTape_36 hl (by decide) rfl (fun ls hl => ?_)
      refine lv_aload X.1 X.2.1 dX11_queueTape_38 (lv_at hl 0 rfl) ?_
      refine lv_ifnonnull (tgt := 45) X.1 X.2.1 dX11_queueTape_40 (by decide) ?_
      refine lv_aload X.1 X.2.1 dX11_queueTape_45 (lv_at hl 0 rfl) ?_
      refine lv_iconst (v := 1) X.1 X.2.1 dX11_queueTape_47 rfl ?_
      refine x_putI X hW fd_Message_sealed (fun w h => List.mem_cons_of_mem _ (gin_X6 w h)) (List.mem_cons_of_mem _ gw495) qi9 dX11_queueTape_48 tyX6 tyX6_ok nmX6 rfl rfl rfl h (fun S10 H locs h hW => ?_)
      refine lv_aload X.1 X.2.1 dX11_queueTape_51 (lv_at hl 0 rfl) ?_
      refine lv_iload_n X.1 X.2.1 dX11_queueTape_53 rfl (lv_at hl 3 rfl) ?_
      refine x_if_ne X (tgt := 61) dX11_queueTape_54 (by decide) h (fun h => ?_) (fun h => ?_)
      · refine lv_iload_n X.1 X.2.1 dX11_queueTape_61 rfl (lv_at hl 4 rfl) ?_
        exact w_X11_queueTape_62 X v3 i9 i9 v2 qi9 qi9  hW (lv_sub hl [2, 5, 0] rfl) h
      · refine lv_iconst (v := 0) X.1 X.2.1 dX11_queueTape_57 rfl ?_
        refine lv_goto (tgt := 62) X.1 X.2.1 dX11_queueTape_58 (by decide) ?_
        exact w_X11_queueTape_62 X v3 i9 i9 0 qi9 qi9  hW (lv_sub hl [2, 5, 0] rfl) h
  · refine lv_iconst (v := 4) X.1 X.2.1 dX11_queueTape_25 rfl ?_
    exact x_iret X hW h dX11_queueTape_26
set_option maxRecDepth 100000 in
set_option maxHeartbeats 4000000 in
theorem w_X11_queueTape_0 {p : Program} {l : Launch} {e : Env} {s : State} {m : MethodId} {args : Array Value} {below : List Frame} {meth : Method} {c : Code} {G : xG} {sz : Nat} {o : Int32 × Mm} (X : xC G false sz p s m args c cX11_queueTape 6 wsX11_queueTape RX11 meth (some .int)) (v1 : Int32) (v2 : Int32) (v3 : Int32) {S : Mm} {H : Heap} {locs : List Loc} {ls : Array Slot} (hW : xW G false sz s H locs S) (hl : lv_has ls 6 [(0, .ref (G.2.2 10 0)), (1, .int v1), (2, .int v2), (3, .int v3)]) (h : F_X11_queueTape v1 v2 v3 S = some o) : wX p l e rmX11_queueTape s m args below meth c H locs (xQi G false sz o) (XA G false sz) 0 ls [] := by
  unfold F_X11_queueTape at h
  refine lv_iload_n X.1 X.2.1 dX11_queueTape_0 rfl (lv_at hl 1 rfl) ?_
  refine x_if_ne X (tgt := 8) dX11_queueTape_1 (by decide) h (fun h => ?_) (fun h => ?_)
  · refine lv_iconst (v := 0) X.1 X.2.1 dX11_queueTape_8 rfl ?_
    exact w_X11_queueTape_9 X v1 v2 v3 0   hW (lv_sub hl [0, 1, 2, 3] rfl) h
  · refine lv_iload_n X.1 X.2.1 dX11_queueTape_4 rfl (lv_at hl 2 rfl) ?_
    refine lv_goto (tgt := 9) X.1 X.2.1 dX11_queueTape_5 (by decide) ?_
    exact w_X11_queueTape_9 X v1 v2 v3 v2   hW (lv_sub hl [0, 1, 2, 3] rfl) h
theorem c_X11_queueTape (l : Launch) (G : xG) (hD : xD G false) (sz : Nat) (S : Mm) (v1 : Int32) (v2 : Int32) (v3 : Int32) (o : Int32 × Mm) (h : F_X11_queueTape v1 v2 v3 S = some o) : Met l yX11_queueTape wsX11_queueTape rmX11_queueTape (xPre G false S sz [.ref (G.2.2 10 0), .int v1, .int v2, .int v3]) (xQi G false sz o) 0 0 (XA G false sz) :=
  x_start hD (by decide) rfl (Nat.le_of_ble_eq_true rfl) (fun p e s m below meth c X hW ls hl => w_X11_queueTape_0 X v1 v2 v3 hW hl h)

/-! WirelessCell.submit(II)I -/
def rmX11_submit : Room := { frames := 3, cells := 0, slots := 0, locals := 72 }
def L_X11_submit_19   (S : Mm) : Option (Int32 × Mm) :=
  some ((-1), S)
def L_X11_submit_41   (S : Mm) : Option (Int32 × Mm) :=
  some ((-1), S)
def F_X11_submit (v1 : Int32) (v2 : Int32) (S : Mm) : Option (Int32 × Mm) :=
  cl (F_X11_isNode v1 S) fun r1 S2 =>
  if r1 = 0 then (
  L_X11_submit_19  S2)
  else (
  cl (F_X11_isNode v2 S2) fun r4 S5 =>
  if r4 = 0 then (
  L_X11_submit_19  S5)
  else (
  if v1 = v2 then (
  L_X11_submit_19  S5)
  else (
  gf S5 105 0 fun x7 =>
  if 200 < x7 then (
  L_X11_submit_41  S5)
  else (
  gf S5 106 0 fun x8 =>
  if x8 < 200 then (
  gf S5 106 0 fun x9 =>
  gf S5 106 0 fun x10 =>
  pf S5 106 0 (x10 + 1) fun S11 =>
  cl (F_X11_queueTape v1 v2 x9 S11) fun r12 S13 =>
  stA S13 56 0 200 1 x9 r12 fun S15 =>
  pf S15 105 0 0 fun S16 =>
  some (x9, S16))
  else (
  L_X11_submit_41  S5)))))
set_option maxRecDepth 100000 in
set_option maxHeartbeats 4000000 in
theorem w_X11_submit_19 {p : Program} {l : Launch} {e : Env} {s : State} {m : MethodId} {args : Array Value} {below : List Frame} {meth : Method} {c : Code} {G : xG} {sz : Nat} {o : Int32 × Mm} (X : xC G false sz p s m args c cX11_submit 4 wsX11_submit RX11 meth (some .int))    {S : Mm} {H : Heap} {locs : List Loc} {ls : Array Slot} (hW : xW G false sz s H locs S) (hl : lv_has ls 4 []) (h : L_X11_submit_19   S = some o) : wX p l e rmX11_submit s m args below meth c H locs (xQi G false sz o) (XA G false sz) 19 ls [] := by
  unfold L_X11_submit_19 at h
  refine lv_iconst (v := (-1)) X.1 X.2.1 dX11_submit_19 rfl ?_
  exact x_iret X hW h dX11_submit_20
set_option maxRecDepth 100000 in
set_option maxHeartbeats 4000000 in
theorem w_X11_submit_41 {p : Program} {l : Launch} {e : Env} {s : State} {m : MethodId} {args : Array Value} {below : List Frame} {meth : Method} {c : Code} {G : xG} {sz : Nat} {o : Int32 × Mm} (X : xC G false sz p s m args c cX11_submit 4 wsX11_submit RX11 meth (some .int))    {S : Mm} {H : Heap} {locs : List Loc} {ls : Array Slot} (hW : xW G false sz s H locs S) (hl : lv_has ls 4 []) (h : L_X11_submit_41   S = some o) : wX p l e rmX11_submit s m args below meth c H locs (xQi G false sz o) (XA G false sz) 41 ls [] := by
  unfold L_X11_submit_41 at h
  refine lv_iconst (v := (-1)) X.1 X.2.1 dX11_submit_41 rfl ?_
  exact x_iret X hW h dX11_submit_42
set_option maxRecDepth 100000 in
set_option maxHeartbeats 4000000 in
theorem w_X11_submit_0 {p : Program} {l : Launch} {e : Env} {s : State} {m : MethodId} {args : Array Value} {below : List Frame} {meth : Method} {c : Code} {G : xG} {sz : Nat} {o : Int32 × Mm} (X : xC G false sz p s m args c cX11_submit 4 wsX11_submit RX11 meth (some .int)) (v1 : Int32) (v2 : Int32) {S : Mm} {H : Heap} {locs : List Loc} {ls : Array Slot} (hW : xW G false sz s H locs S) (hl : lv_has ls 4 [(0, .ref (G.2.2 10 0)), (1, .int v1), (2, .int v2)]) (h : F_X11_submit v1 v2 S = some o) : wX p l e rmX11_submit s m args below meth c H locs (xQi G false sz o) (XA G false sz) 0 ls [] := by
  unfold F_X11_submit at h
  refine lv_iload_n X.1 X.2.1 dX11_submit_0 rfl (lv_at hl 1 rfl) ?_
  obtain ⟨r1, S2, h3, h⟩ := cl_some h
  refine x_aftI X hW (x_runS (As := [.int v1]) (rest := []) X hW (c_X11_isNode l G X.2.2.2.2.2.2.2.2.2.1 _ S v1 _ h3) (va_cwS 1 X.2.2.2.2.1 (gS gw389 gw390 gw2 gw391) rfl rfl rfl hd_X11_isNode ⟨Nat.le_of_ble_eq_true rfl, Nat.le_of_ble_eq_true rfl⟩) rfl hl.1 rfl (Nat.le_of_ble_eq_true rfl) dX11_submit_1 ⟨Nat.zero_le _, Nat.zero_le _⟩) (fun H locs hW => ?_)
  refine x_if_eq X (tgt := 19) dX11_submit_4 (by decide) h (fun h => ?_) (fun h => ?_)
  · exact w_X11_submit_19 X    hW (lv_sub hl [] rfl) h
  · refine lv_iload_n X.1 X.2.1 dX11_submit_7 rfl (lv_at hl 2 rfl) ?_
    obtain ⟨r4, S5, h6, h⟩ := cl_some h
    refine x_aftI X hW (x_runS (As := [.int v2]) (rest := []) X hW (c_X11_isNode l G X.2.2.2.2.2.2.2.2.2.1 _ S2 v2 _ h6) (va_cwS 1 X.2.2.2.2.1 (gS gw389 gw390 gw2 gw391) rfl rfl rfl hd_X11_isNode ⟨Nat.le_of_ble_eq_true rfl, Nat.le_of_ble_eq_true rfl⟩) rfl hl.1 rfl (Nat.le_of_ble_eq_true rfl) dX11_submit_8 ⟨Nat.zero_le _, Nat.zero_le _⟩) (fun H locs hW => ?_)
    refine x_if_eq X (tgt := 19) dX11_submit_11 (by decide) h (fun h => ?_) (fun h => ?_)
    · exact w_X11_submit_19 X    hW (lv_sub hl [] rfl) h
    · refine lv_iload_n X.1 X.2.1 dX11_submit_14 rfl (lv_at hl 1 rfl) ?_
      refine lv_iload_n X.1 X.2.1 dX11_submit_15 rfl (lv_at hl 2 rfl) ?_
      refine x_icmp_ne X (tgt := 21) dX11_submit_16 (by decide) h (fun h => ?_) (fun h => ?_)
      · refine lv_aload_n X.1 X.2.1 dX11_submit_21 rfl (lv_at hl 0 rfl) ?_
        refine x_getI X hW fd_Cell_tapeLength (fun w h => List.mem_cons_of_mem _ (gin_X11 w h)) (List.mem_cons_of_mem _ gw260) z_1 dX11_submit_22 h (fun x7 h => ?_)
        refine lv_sipush (v := 200) X.1 X.2.1 dX11_submit_25 rfl ?_
        refine x_icmp_gt X (tgt := 41) dX11_submit_28 (by decide) h (fun h => ?_) (fun h => ?_)
        · exact w_X11_submit_41 X    hW (lv_sub hl [] rfl) h
        · refine lv_aload_n X.1 X.2.1 dX11_submit_31 rfl (lv_at hl 0 rfl) ?_
          refine x_getI X hW fd_Cell_submissions (fun w h => List.mem_cons_of_mem _ (gin_X11 w h)) (List.mem_cons_of_mem _ gw566) z_1 dX11_submit_32 h (fun x8 h => ?_)
          refine lv_sipush (v := 200) X.1 X.2.1 dX11_submit_35 rfl ?_
          refine x_icmp_lt X (tgt := 43) dX11_submit_38 (by decide) h (fun h => ?_) (fun h => ?_)
          · refine lv_aload_n X.1 X.2.1 dX11_submit_43 rfl (lv_at hl 0 rfl) ?_
            refine x_getI X hW fd_Cell_submissions (fun w h => List.mem_cons_of_mem _ (gin_X11 w h)) (List.mem_cons_of_mem _ gw566) z_1 dX11_submit_44 h (fun x9 h => ?_)
            refine lv_istore_n (lv' := [(3, .int x9), (0, .ref (G.2.2 10 0)), (1, .int v1), (2, .int v2)]) X.1 X.2.1 dX11_submit_47 rfl hl (by decide) rfl (fun ls hl => ?_)
            refine lv_aload_n X.1 X.2.1 dX11_submit_48 rfl (lv_at hl 1 rfl) ?_
            refine lv_dup X.1 X.2.1 dX11_submit_49 rfl ?_
            refine x_getI X hW fd_Cell_submissions (fun w h => List.mem_cons_of_mem _ (gin_X11 w h)) (List.mem_cons_of_mem _ gw566) z_1 dX11_submit_50 h (fun x10 h => ?_)
            refine lv_iconst (v := 1) X.1 X.2.1 dX11_submit_53 rfl ?_
            refine lv_iadd X.1 X.2.1 dX11_submit_54 ?_
            refine x_putI X hW fd_Cell_submissions (fun w h => List.mem_cons_of_mem _ (gin_X11 w h)) (List.mem_cons_of_mem _ gw566) z_1 dX11_submit_55 tyX11 tyX11_ok nmX11 rfl rfl rfl h (fun S11 H locs h hW => ?_)
            refine lv_aload_n X.1 X.2.1 dX11_submit_58 rfl (lv_at hl 1 rfl) ?_
            refine x_getR X hW fd_Cell_ends (fun w h => List.mem_cons_of_mem _ (gin_X11 w h)) (List.mem_cons_of_mem _ gw40) z_1 dX11_submit_59 ?_
            refine lv_iload_n X.1 X.2.1 dX11_submit_62 rfl (lv_at hl 0 rfl) ?_
            refine lv_aload_n X.1 X.2.1 dX11_submit_63 rfl (lv_at hl 1 rfl) ?_
            refine lv_iload_n X.1 X.2.1 dX11_submit_64 rfl (lv_at hl 2 rfl) ?_
            refine lv_iload_n X.1 X.2.1 dX11_submit_65 rfl (lv_at hl 3 rfl) ?_
            refine lv_iload_n X.1 X.2.1 dX11_submit_66 rfl (lv_at hl 0 rfl) ?_
            obtain ⟨r12, S13, h14, h⟩ := cl_some h
            refine x_aftI X hW (x_runV (C := RX11) (a := G.2.2 10 0) (As := [.int v1, .int v2, .int x9]) (rest := [.int x9, .ref (G.2.2 56 0)]) X hW (c_X11_queueTape l G X.2.2.2.2.2.2.2.2.2.1 _ S11 v1 v2 x9 _ h14) (cwV 3 X.2.2.2.2.1 (gV gw567 gw568 gw569 gw2 gw570) rfl rfl rfl ⟨rfl, hd_X11_queueTape⟩ ⟨Nat.le_of_ble_eq_true rfl, Nat.le_of_ble_eq_true rfl⟩) (x_recv X hW ob_Cell z_1) rfl hl.1 rfl (Nat.le_of_ble_eq_true rfl) dX11_submit_67 ⟨Nat.zero_le _, Nat.zero_le _⟩) (fun H locs hW => ?_)
            refine x_iast X hW ar_56 dX11_submit_70 h (fun S15 H locs h hW => ?_)
            refine lv_aload_n X.1 X.2.1 dX11_submit_71 rfl (lv_at hl 1 rfl) ?_
            refine lv_iconst (v := 0) X.1 X.2.1 dX11_submit_72 rfl ?_
            refine x_putI X hW fd_Cell_tapeLength (fun w h => List.mem_cons_of_mem _ (gin_X11 w h)) (List.mem_cons_of_mem _ gw260) z_1 dX11_submit_73 tyX11 tyX11_ok nmX11 rfl rfl rfl h (fun S16 H locs h hW => ?_)
            refine lv_iload_n X.1 X.2.1 dX11_submit_76 rfl (lv_at hl 0 rfl) ?_
            exact x_iret X hW h dX11_submit_77
          · exact w_X11_submit_41 X    hW (lv_sub hl [] rfl) h
      · exact w_X11_submit_19 X    hW (lv_sub hl [] rfl) h
theorem c_X11_submit (l : Launch) (G : xG) (hD : xD G false) (sz : Nat) (S : Mm) (v1 : Int32) (v2 : Int32) (o : Int32 × Mm) (h : F_X11_submit v1 v2 S = some o) : Met l yX11_submit wsX11_submit rmX11_submit (xPre G false S sz [.ref (G.2.2 10 0), .int v1, .int v2]) (xQi G false sz o) 0 0 (XA G false sz) :=
  x_start hD (by decide) rfl (Nat.le_of_ble_eq_true rfl) (fun p e s m below meth c X hW ls hl => w_X11_submit_0 X v1 v2 hW hl h)

/-! WirelessCell.idleSlots(I)I -/
def rmX11_idleSlots : Room := { frames := 2, cells := 0, slots := 0, locals := 37 }
def L_X11_idleSlots_48   (S : Mm) : Option (Int32 × Mm) :=
  some (0, S)
def L_X11_idleSlots_14  (v1 : Int32) : Nat → Int32 → Mm → Option (Int32 × Mm)
  | 0, _, _ => none
  | n + 1, v2, S => 
    if 9 ≤ v2 then (
    gf S 76 0 fun x2 =>
    cl (F_X8_slotsAhead x2 v1 S) fun r3 S4 =>
    some (r3, S4))
    else (
    ldR S 52 0 9 1 v2 9 fun i6 =>
    gf S 103 i6 fun x7 =>
    if 0 < x7 then (
    L_X11_idleSlots_48  S)
    else (
    ldR S 52 0 9 1 v2 9 fun i8 =>
    gf S 94 i8 fun x9 =>
    if x9 = (-1) then (
    (L_X11_idleSlots_14 v1 n) (v2 + 1) S)
    else (
    L_X11_idleSlots_48  S)))
def F_X11_idleSlots (v1 : Int32) (S : Mm) : Option (Int32 × Mm) :=
  gf S 74 0 fun x1 =>
  if x1 ≤ 0 then (
  L_X11_idleSlots_14  v1 fu 0 S)
  else (
  some (0, S))
set_option maxRecDepth 100000 in
set_option maxHeartbeats 4000000 in
theorem w_X11_idleSlots_48 {p : Program} {l : Launch} {e : Env} {s : State} {m : MethodId} {args : Array Value} {below : List Frame} {meth : Method} {c : Code} {G : xG} {sz : Nat} {o : Int32 × Mm} (X : xC G false sz p s m args c cX11_idleSlots 3 wsX11_idleSlots RX11 meth (some .int))    {S : Mm} {H : Heap} {locs : List Loc} {ls : Array Slot} (hW : xW G false sz s H locs S) (hl : lv_has ls 3 []) (h : L_X11_idleSlots_48   S = some o) : wX p l e rmX11_idleSlots s m args below meth c H locs (xQi G false sz o) (XA G false sz) 48 ls [] := by
  unfold L_X11_idleSlots_48 at h
  refine lv_iconst (v := 0) X.1 X.2.1 dX11_idleSlots_48 rfl ?_
  exact x_iret X hW h dX11_idleSlots_49
set_option maxRecDepth 100000 in
set_option maxHeartbeats 4000000 in
theorem w_X11_idleSlots_14 {p : Program} {l : Launch} {e : Env} {s : State} {m : MethodId} {args : Array Value} {below : List Frame} {meth : Method} {c : Code} {G : xG} {sz : Nat} {o : Int32 × Mm} (X : xC G false sz p s m args c cX11_idleSlots 3 wsX11_idleSlots RX11 meth (some .int)) (v1 : Int32)   : ∀ (n : Nat) (v2 : Int32) (S : Mm) (H : Heap) (locs : List Loc) (ls : Array Slot), L_X11_idleSlots_14 v1 n v2 S = some o → xW G false sz s H locs S → lv_has ls 3 [(0, .ref (G.2.2 10 0)), (1, .int v1), (2, .int v2)] → wX p l e rmX11_idleSlots s m args below meth c H locs (xQi G false sz o) (XA G false sz) 14 ls [] := by
  intro n
  induction n with
  | zero =>
    intro v2 S H locs ls h
    cases h
  | succ n ih =>
    intro v2 S H locs ls h hW  hl
    rw [L_X11_idleSlots_14] at h
    refine lv_iload_n X.1 X.2.1 dX11_idleSlots_14 rfl (lv_at hl 2 rfl) ?_
    refine lv_bipush (v := 9) X.1 X.2.1 dX11_idleSlots_15 rfl ?_
    refine x_icmp_ge X (tgt := 56) dX11_idleSlots_17 (by decide) h (fun h => ?_) (fun h => ?_)
    · refine lv_aload_n X.1 X.2.1 dX11_idleSlots_56 rfl (lv_at hl 0 rfl) ?_
      refine x_getR X hW fd_Cell_puts (fun w h => List.mem_cons_of_mem _ (gin_X11 w h)) (List.mem_cons_of_mem _ gw25) z_1 dX11_idleSlots_57 ?_
      refine lv_aload_n X.1 X.2.1 dX11_idleSlots_60 rfl (lv_at hl 0 rfl) ?_
      refine x_getR X hW fd_Cell_medium (fun w h => List.mem_cons_of_mem _ (gin_X11 w h)) (List.mem_cons_of_mem _ gw21) z_1 dX11_idleSlots_61 ?_
      refine x_getI X hW fd_Medium_slot (fun w h => List.mem_cons_of_mem _ (gin_X5 w h)) (List.mem_cons_of_mem _ gw439) z_1 dX11_idleSlots_64 h (fun x2 h => ?_)
      refine lv_iload_n X.1 X.2.1 dX11_idleSlots_67 rfl (lv_at hl 1 rfl) ?_
      obtain ⟨r3, S4, h5, h⟩ := cl_some h
      refine x_aftI X hW (x_runV (C := RX8) (a := G.2.2 7 0) (As := [.int x2, .int v1]) (rest := []) X hW (c_X8_slotsAhead l G X.2.2.2.2.2.2.2.2.2.1 _ S x2 v1 _ h5) (cwV 2 X.2.2.2.2.1 (gV gw601 gw602 gw603 gw24 gw604) rfl rfl rfl ⟨rfl, hd_X8_slotsAhead⟩ ⟨Nat.le_of_ble_eq_true rfl, Nat.le_of_ble_eq_true rfl⟩) (x_recv X hW ob_Puts z_1) rfl hl.1 rfl (Nat.le_of_ble_eq_true rfl) dX11_idleSlots_68 ⟨Nat.zero_le _, Nat.zero_le _⟩) (fun H locs hW => ?_)
      exact x_iret X hW h dX11_idleSlots_71
    · refine lv_aload_n X.1 X.2.1 dX11_idleSlots_20 rfl (lv_at hl 0 rfl) ?_
      refine x_getR X hW fd_Cell_nodes (fun w h => List.mem_cons_of_mem _ (gin_X11 w h)) (List.mem_cons_of_mem _ gw14) z_1 dX11_idleSlots_21 ?_
      refine lv_iload_n X.1 X.2.1 dX11_idleSlots_24 rfl (lv_at hl 2 rfl) ?_
      refine x_aald X hW ar_52 (ct := 6) rfl (at_52 G) rfl dX11_idleSlots_25 h (fun i6 qi6 h => ?_)
      refine x_getR X hW fd_Node_queue (fun w h => List.mem_cons_of_mem _ (gin_X7 w h)) (List.mem_cons_of_mem _ gw490) qi6 dX11_idleSlots_26 ?_
      refine x_getI X hW fd_Queue_used (fun w h => List.mem_cons_of_mem _ (gin_X9 w h)) (List.mem_cons_of_mem _ gw491) qi6 dX11_idleSlots_29 h (fun x7 h => ?_)
      refine x_if_gt X (tgt := 48) dX11_idleSlots_32 (by decide) h (fun h => ?_) (fun h => ?_)
      · exact w_X11_idleSlots_48 X    hW (lv_sub hl [] rfl) h
      · refine lv_aload_n X.1 X.2.1 dX11_idleSlots_35 rfl (lv_at hl 0 rfl) ?_
        refine x_getR X hW fd_Cell_nodes (fun w h => List.mem_cons_of_mem _ (gin_X11 w h)) (List.mem_cons_of_mem _ gw14) z_1 dX11_idleSlots_36 ?_
        refine lv_iload_n X.1 X.2.1 dX11_idleSlots_39 rfl (lv_at hl 2 rfl) ?_
        refine x_aald X hW ar_52 (ct := 6) rfl (at_52 G) rfl dX11_idleSlots_40 h (fun i8 qi8 h => ?_)
        refine x_getI X hW fd_Node_dueSlot (fun w h => List.mem_cons_of_mem _ (gin_X7 w h)) (List.mem_cons_of_mem _ gw600) qi8 dX11_idleSlots_41 h (fun x9 h => ?_)
        refine lv_iconst (v := (-1)) X.1 X.2.1 dX11_idleSlots_44 rfl ?_
        refine x_icmp_eq X (tgt := 50) dX11_idleSlots_45 (by decide) h (fun h => ?_) (fun h => ?_)
        · refine lv_iinc (v := (v2 + 1)) (lv' := [(2, .int (v2 + 1)), (0, .ref (G.2.2 10 0)), (1, .int v1)]) X.1 X.2.1 dX11_idleSlots_50 hl (k := 2) rfl rfl (by decide) rfl (fun ls hl => ?_)
          refine lv_goto (tgt := 14) X.1 X.2.1 dX11_idleSlots_53 (by decide) ?_
          exact ih (v2 + 1) S _ _ _ h hW  (lv_sub hl [1, 2, 0] rfl)
        · exact w_X11_idleSlots_48 X    hW (lv_sub hl [] rfl) h
set_option maxRecDepth 100000 in
set_option maxHeartbeats 4000000 in
theorem w_X11_idleSlots_0 {p : Program} {l : Launch} {e : Env} {s : State} {m : MethodId} {args : Array Value} {below : List Frame} {meth : Method} {c : Code} {G : xG} {sz : Nat} {o : Int32 × Mm} (X : xC G false sz p s m args c cX11_idleSlots 3 wsX11_idleSlots RX11 meth (some .int)) (v1 : Int32) {S : Mm} {H : Heap} {locs : List Loc} {ls : Array Slot} (hW : xW G false sz s H locs S) (hl : lv_has ls 3 [(0, .ref (G.2.2 10 0)), (1, .int v1)]) (h : F_X11_idleSlots v1 S = some o) : wX p l e rmX11_idleSlots s m args below meth c H locs (xQi G false sz o) (XA G false sz) 0 ls [] := by
  unfold F_X11_idleSlots at h
  refine lv_aload_n X.1 X.2.1 dX11_idleSlots_0 rfl (lv_at hl 0 rfl) ?_
  refine x_getR X hW fd_Cell_medium (fun w h => List.mem_cons_of_mem _ (gin_X11 w h)) (List.mem_cons_of_mem _ gw21) z_1 dX11_idleSlots_1 ?_
  refine x_getI X hW fd_Medium_onAir (fun w h => List.mem_cons_of_mem _ (gin_X5 w h)) (List.mem_cons_of_mem _ gw599) z_1 dX11_idleSlots_4 h (fun x1 h => ?_)
  refine x_if_le X (tgt := 12) dX11_idleSlots_7 (by decide) h (fun h => ?_) (fun h => ?_)
  · refine lv_iconst (v := 0) X.1 X.2.1 dX11_idleSlots_12 rfl ?_
    refine lv_istore_n (lv' := [(2, .int 0), (0, .ref (G.2.2 10 0)), (1, .int v1)]) X.1 X.2.1 dX11_idleSlots_13 rfl hl (by decide) rfl (fun ls hl => ?_)
    exact w_X11_idleSlots_14 X v1   fu 0 S _ _ _ h hW  (lv_sub hl [1, 2, 0] rfl)
  · refine lv_iconst (v := 0) X.1 X.2.1 dX11_idleSlots_10 rfl ?_
    exact x_iret X hW h dX11_idleSlots_11
theorem c_X11_idleSlots (l : Launch) (G : xG) (hD : xD G false) (sz : Nat) (S : Mm) (v1 : Int32) (o : Int32 × Mm) (h : F_X11_idleSlots v1 S = some o) : Met l yX11_idleSlots wsX11_idleSlots rmX11_idleSlots (xPre G false S sz [.ref (G.2.2 10 0), .int v1]) (xQi G false sz o) 0 0 (XA G false sz) :=
  x_start hD (by decide) rfl (Nat.le_of_ble_eq_true rfl) (fun p e s m below meth c X hW ls hl => w_X11_idleSlots_0 X v1 hW hl h)

/-! java/util/Arrays.fill([II)V -/
def rmJ7_fill_53178 : Room := { frames := 0, cells := 0, slots := 0, locals := 0 }
def L_J7_fill_53178_5  (cv0 : Nat) (v0 : Nat) (v1 : Int32) (v3 : Int32) : Nat → Int32 → Mm → Option (Unit × Mm)
  | 0, _, _ => none
  | n + 1, v2, S => 
    if v3 ≤ v2 then (
    some ((), S))
    else (
    stP false S cv0 v0 v2 v1 fun S2 =>
    (L_J7_fill_53178_5 cv0 v0 v1 v3 n) (v2 + 1) S2)
def F_J7_fill_53178 (cv0 : Nat) (v0 : Nat) (v1 : Int32) (S : Mm) : Option (Unit × Mm) :=
  lnP false cv0 v0 fun x1 =>
  L_J7_fill_53178_5  cv0 v0 v1 x1 fu 0 S
set_option maxRecDepth 100000 in
set_option maxHeartbeats 4000000 in
theorem w_J7_fill_53178_5 {p : Program} {l : Launch} {e : Env} {s : State} {m : MethodId} {args : Array Value} {below : List Frame} {meth : Method} {c : Code} {G : xG} {sz : Nat} {o : Unit × Mm} (X : xC G false sz p s m args c cJ7_fill_53178 4 wsJ7_fill_53178 RJ7 meth none) (cv0 : Nat) (v0 : Nat) (v1 : Int32) (v3 : Int32)   : ∀ (n : Nat) (v2 : Int32) (S : Mm) (H : Heap) (locs : List Loc) (ls : Array Slot), L_J7_fill_53178_5 cv0 v0 v1 v3 n v2 S = some o → xW G false sz s H locs S → lv_has ls 4 [(0, .ref (G.2.2 cv0 v0)), (1, .int v1), (2, .int v2), (3, .int v3)] → wX p l e rmJ7_fill_53178 s m args below meth c H locs (xQv G false sz o) (XA G false sz) 5 ls [] := by
  intro n
  induction n with
  | zero =>
    intro v2 S H locs ls h
    cases h
  | succ n ih =>
    intro v2 S H locs ls h hW  hl
    rw [L_J7_fill_53178_5] at h
    refine lv_iload_n X.1 X.2.1 dJ7_fill_53178_5 rfl (lv_at hl 2 rfl) ?_
    refine lv_iload_n X.1 X.2.1 dJ7_fill_53178_6 rfl (lv_at hl 3 rfl) ?_
    refine x_icmp_ge X (tgt := 20) dJ7_fill_53178_7 (by decide) h (fun h => ?_) (fun h => ?_)
    · exact x_vret X hW h dJ7_fill_53178_20
    · refine lv_aload_n X.1 X.2.1 dJ7_fill_53178_10 rfl (lv_at hl 0 rfl) ?_
      refine lv_iload_n X.1 X.2.1 dJ7_fill_53178_11 rfl (lv_at hl 2 rfl) ?_
      refine lv_iload_n X.1 X.2.1 dJ7_fill_53178_12 rfl (lv_at hl 1 rfl) ?_
      refine x_iastP X hW dJ7_fill_53178_13 h (fun S2 H locs h hW => ?_)
      refine lv_iinc (v := (v2 + 1)) (lv' := [(2, .int (v2 + 1)), (0, .ref (G.2.2 cv0 v0)), (1, .int v1), (3, .int v3)]) X.1 X.2.1 dJ7_fill_53178_14 hl (k := 2) rfl rfl (by decide) rfl (fun ls hl => ?_)
      refine lv_goto (tgt := 5) X.1 X.2.1 dJ7_fill_53178_17 (by decide) ?_
      exact ih (v2 + 1) S2 _ _ _ h hW  (lv_sub hl [1, 2, 0, 3] rfl)
set_option maxRecDepth 100000 in
set_option maxHeartbeats 4000000 in
theorem w_J7_fill_53178_0 {p : Program} {l : Launch} {e : Env} {s : State} {m : MethodId} {args : Array Value} {below : List Frame} {meth : Method} {c : Code} {G : xG} {sz : Nat} {o : Unit × Mm} (X : xC G false sz p s m args c cJ7_fill_53178 4 wsJ7_fill_53178 RJ7 meth none) (cv0 : Nat) (v0 : Nat) (v1 : Int32) {S : Mm} {H : Heap} {locs : List Loc} {ls : Array Slot} (hW : xW G false sz s H locs S) (hl : lv_has ls 4 [(0, .ref (G.2.2 cv0 v0)), (1, .int v1)]) (h : F_J7_fill_53178 cv0 v0 v1 S = some o) : wX p l e rmJ7_fill_53178 s m args below meth c H locs (xQv G false sz o) (XA G false sz) 0 ls [] := by
  unfold F_J7_fill_53178 at h
  refine lv_iconst (v := 0) X.1 X.2.1 dJ7_fill_53178_0 rfl ?_
  refine lv_istore_n (lv' := [(2, .int 0), (0, .ref (G.2.2 cv0 v0)), (1, .int v1)]) X.1 X.2.1 dJ7_fill_53178_1 rfl hl (by decide) rfl (fun ls hl => ?_)
  refine lv_aload_n X.1 X.2.1 dJ7_fill_53178_2 rfl (lv_at hl 1 rfl) ?_
  refine x_lenP X hW dJ7_fill_53178_3 h (fun x1 h => ?_)
  refine lv_istore_n (lv' := [(3, .int x1), (2, .int 0), (0, .ref (G.2.2 cv0 v0)), (1, .int v1)]) X.1 X.2.1 dJ7_fill_53178_4 rfl hl (by decide) rfl (fun ls hl => ?_)
  exact w_J7_fill_53178_5 X cv0 v0 v1 x1   fu 0 S _ _ _ h hW  (lv_sub hl [2, 3, 1, 0] rfl)
theorem c_J7_fill_53178 (l : Launch) (G : xG) (hD : xD G false) (sz : Nat) (S : Mm) (cv0 : Nat) (v0 : Nat) (v1 : Int32) (o : Unit × Mm) (h : F_J7_fill_53178 cv0 v0 v1 S = some o) : Met l yJ7_fill_53178 wsJ7_fill_53178 rmJ7_fill_53178 (xPre G false S sz [.ref (G.2.2 cv0 v0), .int v1]) (xQv G false sz o) 0 0 (XA G false sz) :=
  x_start hD (by decide) rfl (Nat.le_of_ble_eq_true rfl) (fun p e s m below meth c X hW ls hl => w_J7_fill_53178_0 X cv0 v0 v1 hW hl h)

/-! WirelessCell.beginAck(LWirelessCell$Node;)V -/
def rmX11_beginAck : Room := { frames := 2, cells := 0, slots := 0, locals := 46 }
def F_X11_beginAck (v1 : Nat) (S : Mm) : Option (Unit × Mm) :=
  gd (v1 < 9) (
  cl (F_J7_fill_53178 57 0 0 S) fun r1 S2 =>
  stA S2 57 0 14 1 0 212 fun S4 =>
  lnP false 39 v1 fun x5 =>
  cpP false S4 39 v1 0 57 0 4 x5 fun S6 =>
  cl (F_X2_writeFcs 57 0 10 S6) fun r7 S8 =>
  gf S8 88 v1 fun x10 =>
  cl (F_X5_begin 57 0 14 x10 S8) fun r11 S12 =>
  pf S12 96 v1 r11 fun S14 =>
  pf S14 97 v1 1 fun S15 =>
  some ((), S15))
set_option maxRecDepth 100000 in
set_option maxHeartbeats 4000000 in
theorem w_X11_beginAck_0 {p : Program} {l : Launch} {e : Env} {s : State} {m : MethodId} {args : Array Value} {below : List Frame} {meth : Method} {c : Code} {G : xG} {sz : Nat} {o : Unit × Mm} (X : xC G false sz p s m args c cX11_beginAck 2 wsX11_beginAck RX11 meth none) (v1 : Nat) {S : Mm} {H : Heap} {locs : List Loc} {ls : Array Slot} (hW : xW G false sz s H locs S) (hl : lv_has ls 2 [(0, .ref (G.2.2 10 0)), (1, .ref (G.2.2 6 v1))]) (h : F_X11_beginAck v1 S = some o) : wX p l e rmX11_beginAck s m args below meth c H locs (xQv G false sz o) (XA G false sz) 0 ls [] := by
  unfold F_X11_beginAck at h
  obtain ⟨qv1, h⟩ := if_some h
  refine lv_aload_n X.1 X.2.1 dX11_beginAck_0 rfl (lv_at hl 0 rfl) ?_
  refine x_getR X hW fd_Cell_ackFrame (fun w h => List.mem_cons_of_mem _ (gin_X11 w h)) (List.mem_cons_of_mem _ gw43) z_1 dX11_beginAck_1 ?_
  refine lv_iconst (v := 0) X.1 X.2.1 dX11_beginAck_4 rfl ?_
  obtain ⟨r1, S2, h3, h⟩ := cl_some h
  refine x_aftV X hW (x_runS (As := [.ref (G.2.2 57 0), .int 0]) (rest := []) X hW (c_J7_fill_53178 l G X.2.2.2.2.2.2.2.2.2.1 _ S 57 0 0 _ h3) (va_cwS 2 X.2.2.2.2.1 (gS gw632 gw134 gw135 gw136) rfl rfl rfl hd_J7_fill_53178 ⟨Nat.le_of_ble_eq_true rfl, Nat.le_of_ble_eq_true rfl⟩) rfl hl.1 rfl (Nat.le_of_ble_eq_true rfl) dX11_beginAck_5 ⟨Nat.zero_le _, Nat.zero_le _⟩) (fun H locs hW => ?_)
  refine lv_aload_n X.1 X.2.1 dX11_beginAck_8 rfl (lv_at hl 0 rfl) ?_
  refine x_getR X hW fd_Cell_ackFrame (fun w h => List.mem_cons_of_mem _ (gin_X11 w h)) (List.mem_cons_of_mem _ gw43) z_1 dX11_beginAck_9 ?_
  refine lv_iconst (v := 0) X.1 X.2.1 dX11_beginAck_12 rfl ?_
  refine lv_sipush (v := 212) X.1 X.2.1 dX11_beginAck_13 rfl ?_
  refine x_iast X hW ar_57 dX11_beginAck_16 h (fun S4 H locs h hW => ?_)
  refine lv_aload_n X.1 X.2.1 dX11_beginAck_17 rfl (lv_at hl 1 rfl) ?_
  refine x_getR X hW fd_Node_ackTo (fun w h => List.mem_cons_of_mem _ (gin_X7 w h)) (List.mem_cons_of_mem _ gw628) qv1 dX11_beginAck_18 ?_
  refine lv_iconst (v := 0) X.1 X.2.1 dX11_beginAck_21 rfl ?_
  refine lv_aload_n X.1 X.2.1 dX11_beginAck_22 rfl (lv_at hl 0 rfl) ?_
  refine x_getR X hW fd_Cell_ackFrame (fun w h => List.mem_cons_of_mem _ (gin_X11 w h)) (List.mem_cons_of_mem _ gw43) z_1 dX11_beginAck_23 ?_
  refine lv_iconst (v := 4) X.1 X.2.1 dX11_beginAck_26 rfl ?_
  refine lv_aload_n X.1 X.2.1 dX11_beginAck_27 rfl (lv_at hl 1 rfl) ?_
  refine x_getR X hW fd_Node_ackTo (fun w h => List.mem_cons_of_mem _ (gin_X7 w h)) (List.mem_cons_of_mem _ gw628) qv1 dX11_beginAck_28 ?_
  refine x_lenP X hW dX11_beginAck_31 h (fun x5 h => ?_)
  refine x_acopy X hW hl.1 (List.mem_cons_of_mem _ gw324) (List.mem_cons_of_mem _ gw325) (List.mem_cons_of_mem _ gw326) (List.mem_cons_of_mem _ gw327) (Nat.le_of_ble_eq_true rfl) (Nat.le_of_ble_eq_true rfl) dX11_beginAck_32 h (fun S6 H locs h hW => ?_)
  refine lv_aload_n X.1 X.2.1 dX11_beginAck_35 rfl (lv_at hl 0 rfl) ?_
  refine x_getR X hW fd_Cell_ackFrame (fun w h => List.mem_cons_of_mem _ (gin_X11 w h)) (List.mem_cons_of_mem _ gw43) z_1 dX11_beginAck_36 ?_
  refine lv_bipush (v := 10) X.1 X.2.1 dX11_beginAck_39 rfl ?_
  obtain ⟨r7, S8, h9, h⟩ := cl_some h
  refine x_aftV X hW (x_runS (As := [.ref (G.2.2 57 0), .int 10]) (rest := []) X hW (c_X2_writeFcs l G X.2.2.2.2.2.2.2.2.2.1 _ S6 57 0 10 _ h9) (va_cwS 2 X.2.2.2.2.1 (gS gw303 gw304 gw267 gw305) rfl rfl rfl hd_X2_writeFcs ⟨Nat.le_of_ble_eq_true rfl, Nat.le_of_ble_eq_true rfl⟩) rfl hl.1 rfl (Nat.le_of_ble_eq_true rfl) dX11_beginAck_41 ⟨Nat.zero_le _, Nat.zero_le _⟩) (fun H locs hW => ?_)
  refine lv_aload_n X.1 X.2.1 dX11_beginAck_44 rfl (lv_at hl 1 rfl) ?_
  refine lv_aload_n X.1 X.2.1 dX11_beginAck_45 rfl (lv_at hl 0 rfl) ?_
  refine x_getR X hW fd_Cell_medium (fun w h => List.mem_cons_of_mem _ (gin_X11 w h)) (List.mem_cons_of_mem _ gw21) z_1 dX11_beginAck_46 ?_
  refine lv_aload_n X.1 X.2.1 dX11_beginAck_49 rfl (lv_at hl 0 rfl) ?_
  refine x_getR X hW fd_Cell_ackFrame (fun w h => List.mem_cons_of_mem _ (gin_X11 w h)) (List.mem_cons_of_mem _ gw43) z_1 dX11_beginAck_50 ?_
  refine lv_bipush (v := 14) X.1 X.2.1 dX11_beginAck_53 rfl ?_
  refine lv_aload_n X.1 X.2.1 dX11_beginAck_55 rfl (lv_at hl 1 rfl) ?_
  refine x_getI X hW fd_Node_number (fun w h => List.mem_cons_of_mem _ (gin_X7 w h)) (List.mem_cons_of_mem _ gw629) qv1 dX11_beginAck_56 h (fun x10 h => ?_)
  obtain ⟨r11, S12, h13, h⟩ := cl_some h
  refine x_aftI X hW (x_runV (C := RX5) (a := G.2.2 4 0) (As := [.ref (G.2.2 57 0), .int 14, .int x10]) (rest := [.ref (G.2.2 6 v1)]) X hW (c_X5_begin l G X.2.2.2.2.2.2.2.2.2.1 _ S8 57 0 14 x10 _ h13) (cwV 3 X.2.2.2.2.1 (gV gw633 gw634 gw635 gw20 gw636) rfl rfl rfl ⟨rfl, hd_X5_begin⟩ ⟨Nat.le_of_ble_eq_true rfl, Nat.le_of_ble_eq_true rfl⟩) (x_recv X hW ob_Medium z_1) rfl hl.1 rfl (Nat.le_of_ble_eq_true rfl) dX11_beginAck_59 ⟨Nat.zero_le _, Nat.zero_le _⟩) (fun H locs hW => ?_)
  refine x_putI X hW fd_Node_lastSendSlot (fun w h => List.mem_cons_of_mem _ (gin_X7 w h)) (List.mem_cons_of_mem _ gw630) qv1 dX11_beginAck_62 tyX7 tyX7_ok nmX7 rfl rfl rfl h (fun S14 H locs h hW => ?_)
  refine lv_aload_n X.1 X.2.1 dX11_beginAck_65 rfl (lv_at hl 1 rfl) ?_
  refine lv_iconst (v := 1) X.1 X.2.1 dX11_beginAck_66 rfl ?_
  refine x_putI X hW fd_Node_sendsAck (fun w h => List.mem_cons_of_mem _ (gin_X7 w h)) (List.mem_cons_of_mem _ gw631) qv1 dX11_beginAck_67 tyX7 tyX7_ok nmX7 rfl rfl rfl h (fun S15 H locs h hW => ?_)
  exact x_vret X hW h dX11_beginAck_70
theorem c_X11_beginAck (l : Launch) (G : xG) (hD : xD G false) (sz : Nat) (S : Mm) (v1 : Nat) (o : Unit × Mm) (h : F_X11_beginAck v1 S = some o) : Met l yX11_beginAck wsX11_beginAck rmX11_beginAck (xPre G false S sz [.ref (G.2.2 10 0), .ref (G.2.2 6 v1)]) (xQv G false sz o) 0 0 (XA G false sz) :=
  x_start hD (by decide) rfl (Nat.le_of_ble_eq_true rfl) (fun p e s m below meth c X hW ls hl => w_X11_beginAck_0 X v1 hW hl h)

/-! WirelessCell.finishFirst(LWirelessCell$Node;I)V -/
def rmX11_finishFirst : Room := { frames := 1, cells := 0, slots := 0, locals := 21 }
def L_X11_finishFirst_26  (v1 : Nat) (S : Mm) : Option (Unit × Mm) :=
  cl (F_X9_removeFirst v1 S) fun r8 S9 =>
  pf S9 93 v1 0 fun S11 =>
  pf S11 92 v1 7 fun S12 =>
  pf S12 99 v1 0 fun S13 =>
  pf S13 100 v1 0 fun S14 =>
  gf S14 103 v1 fun x15 =>
  if x15 ≤ 0 then (
  some ((), S14))
  else (
  cl (F_X1_takeFirst S14) fun r16 S17 =>
  gf S17 92 v1 fun x19 =>
  pf S17 91 v1 (r16 &&& x19) fun S20 =>
  some ((), S20))
def F_X11_finishFirst (v1 : Nat) (v2 : Int32) (S : Mm) : Option (Unit × Mm) :=
  gd (v1 < 9) (
  cl (F_X9_first v1 S) fun r1 S2 =>
  nn r1 108 fun i4 =>
  gf S2 87 i4 fun x5 =>
  if x5 = (-1) then (
  L_X11_finishFirst_26  v1 S2)
  else (
  gf S2 87 i4 fun x6 =>
  stA S2 56 0 200 1 x6 v2 fun S7 =>
  L_X11_finishFirst_26  v1 S7))
set_option maxRecDepth 100000 in
set_option maxHeartbeats 4000000 in
theorem w_X11_finishFirst_26 {p : Program} {l : Launch} {e : Env} {s : State} {m : MethodId} {args : Array Value} {below : List Frame} {meth : Method} {c : Code} {G : xG} {sz : Nat} {o : Unit × Mm} (X : xC G false sz p s m args c cX11_finishFirst 4 wsX11_finishFirst RX11 meth none) (v1 : Nat) (qv1 : v1 < 9)  {S : Mm} {H : Heap} {locs : List Loc} {ls : Array Slot} (hW : xW G false sz s H locs S) (hl : lv_has ls 4 [(0, .ref (G.2.2 10 0)), (1, .ref (G.2.2 6 v1))]) (h : L_X11_finishFirst_26  v1 S = some o) : wX p l e rmX11_finishFirst s m args below meth c H locs (xQv G false sz o) (XA G false sz) 26 ls [] := by
  unfold L_X11_finishFirst_26 at h
  refine lv_aload_n X.1 X.2.1 dX11_finishFirst_26 rfl (lv_at hl 1 rfl) ?_
  refine x_getR X hW fd_Node_queue (fun w h => List.mem_cons_of_mem _ (gin_X7 w h)) (List.mem_cons_of_mem _ gw490) qv1 dX11_finishFirst_27 ?_
  obtain ⟨r8, S9, h10, h⟩ := cl_some h
  refine x_aftV X hW (x_runV (C := RX9) (a := G.2.2 8 v1) (As := []) (rest := []) X hW (c_X9_removeFirst l G X.2.2.2.2.2.2.2.2.2.1 _ S v1 _ h10) (cwV 0 X.2.2.2.2.1 (gV gw660 gw661 gw662 gw100 gw663) rfl rfl rfl ⟨rfl, hd_X9_removeFirst⟩ ⟨Nat.le_of_ble_eq_true rfl, Nat.le_of_ble_eq_true rfl⟩) (x_recv X hW ob_Queue qv1) rfl hl.1 rfl (Nat.le_of_ble_eq_true rfl) dX11_finishFirst_30 ⟨Nat.zero_le _, Nat.zero_le _⟩) (fun H locs hW => ?_)
  refine lv_aload_n X.1 X.2.1 dX11_finishFirst_33 rfl (lv_at hl 1 rfl) ?_
  refine lv_iconst (v := 0) X.1 X.2.1 dX11_finishFirst_34 rfl ?_
  refine x_putI X hW fd_Node_tries (fun w h => List.mem_cons_of_mem _ (gin_X7 w h)) (List.mem_cons_of_mem _ gw658) qv1 dX11_finishFirst_35 tyX7 tyX7_ok nmX7 rfl rfl rfl h (fun S11 H locs h hW => ?_)
  refine lv_aload_n X.1 X.2.1 dX11_finishFirst_38 rfl (lv_at hl 1 rfl) ?_
  refine lv_bipush (v := 7) X.1 X.2.1 dX11_finishFirst_39 rfl ?_
  refine x_putI X hW fd_Node_cw (fun w h => List.mem_cons_of_mem _ (gin_X7 w h)) (List.mem_cons_of_mem _ gw498) qv1 dX11_finishFirst_41 tyX7 tyX7_ok nmX7 rfl rfl rfl h (fun S12 H locs h hW => ?_)
  refine lv_aload_n X.1 X.2.1 dX11_finishFirst_44 rfl (lv_at hl 1 rfl) ?_
  refine lv_iconst (v := 0) X.1 X.2.1 dX11_finishFirst_45 rfl ?_
  refine x_putI X hW fd_Node_part (fun w h => List.mem_cons_of_mem _ (gin_X7 w h)) (List.mem_cons_of_mem _ gw659) qv1 dX11_finishFirst_46 tyX7 tyX7_ok nmX7 rfl rfl rfl h (fun S13 H locs h hW => ?_)
  refine lv_aload_n X.1 X.2.1 dX11_finishFirst_49 rfl (lv_at hl 1 rfl) ?_
  refine lv_iconst (v := 0) X.1 X.2.1 dX11_finishFirst_50 rfl ?_
  refine x_putI X hW fd_Node_frameLength (fun w h => List.mem_cons_of_mem _ (gin_X7 w h)) (List.mem_cons_of_mem _ gw648) qv1 dX11_finishFirst_51 tyX7 tyX7_ok nmX7 rfl rfl rfl h (fun S14 H locs h hW => ?_)
  refine lv_aload_n X.1 X.2.1 dX11_finishFirst_54 rfl (lv_at hl 1 rfl) ?_
  refine x_getR X hW fd_Node_queue (fun w h => List.mem_cons_of_mem _ (gin_X7 w h)) (List.mem_cons_of_mem _ gw490) qv1 dX11_finishFirst_55 ?_
  refine x_getI X hW fd_Queue_used (fun w h => List.mem_cons_of_mem _ (gin_X9 w h)) (List.mem_cons_of_mem _ gw491) qv1 dX11_finishFirst_58 h (fun x15 h => ?_)
  refine x_if_le X (tgt := 80) dX11_finishFirst_61 (by decide) h (fun h => ?_) (fun h => ?_)
  · exact x_vret X hW h dX11_finishFirst_80
  · refine lv_aload_n X.1 X.2.1 dX11_finishFirst_64 rfl (lv_at hl 1 rfl) ?_
    refine lv_aload_n X.1 X.2.1 dX11_finishFirst_65 rfl (lv_at hl 0 rfl) ?_
    refine x_getR X hW fd_Cell_draws (fun w h => List.mem_cons_of_mem _ (gin_X11 w h)) (List.mem_cons_of_mem _ gw29) z_1 dX11_finishFirst_66 ?_
    obtain ⟨r16, S17, h18, h⟩ := cl_some h
    refine x_aftI X hW (x_runV (C := RX1) (a := G.2.2 1 0) (As := []) (rest := [.ref (G.2.2 6 v1)]) X hW (c_X1_takeFirst l G X.2.2.2.2.2.2.2.2.2.1 _ S14 _ h18) (cwV 0 X.2.2.2.2.1 (gV gw508 gw509 gw510 gw28 gw511) rfl rfl rfl ⟨rfl, hd_X1_takeFirst⟩ ⟨Nat.le_of_ble_eq_true rfl, Nat.le_of_ble_eq_true rfl⟩) (x_recv X hW ob_Draws z_1) rfl hl.1 rfl (Nat.le_of_ble_eq_true rfl) dX11_finishFirst_69 ⟨Nat.zero_le _, Nat.zero_le _⟩) (fun H locs hW => ?_)
    refine lv_aload_n X.1 X.2.1 dX11_finishFirst_72 rfl (lv_at hl 1 rfl) ?_
    refine x_getI X hW fd_Node_cw (fun w h => List.mem_cons_of_mem _ (gin_X7 w h)) (List.mem_cons_of_mem _ gw498) qv1 dX11_finishFirst_73 h (fun x19 h => ?_)
    refine lv_iand X.1 X.2.1 dX11_finishFirst_76 ?_
    refine x_putI X hW fd_Node_backoff (fun w h => List.mem_cons_of_mem _ (gin_X7 w h)) (List.mem_cons_of_mem _ gw499) qv1 dX11_finishFirst_77 tyX7 tyX7_ok nmX7 rfl rfl rfl h (fun S20 H locs h hW => ?_)
    exact x_vret X hW h dX11_finishFirst_80
set_option maxRecDepth 100000 in
set_option maxHeartbeats 4000000 in
theorem w_X11_finishFirst_0 {p : Program} {l : Launch} {e : Env} {s : State} {m : MethodId} {args : Array Value} {below : List Frame} {meth : Method} {c : Code} {G : xG} {sz : Nat} {o : Unit × Mm} (X : xC G false sz p s m args c cX11_finishFirst 4 wsX11_finishFirst RX11 meth none) (v1 : Nat) (v2 : Int32) {S : Mm} {H : Heap} {locs : List Loc} {ls : Array Slot} (hW : xW G false sz s H locs S) (hl : lv_has ls 4 [(0, .ref (G.2.2 10 0)), (1, .ref (G.2.2 6 v1)), (2, .int v2)]) (h : F_X11_finishFirst v1 v2 S = some o) : wX p l e rmX11_finishFirst s m args below meth c H locs (xQv G false sz o) (XA G false sz) 0 ls [] := by
  unfold F_X11_finishFirst at h
  obtain ⟨qv1, h⟩ := if_some h
  refine lv_aload_n X.1 X.2.1 dX11_finishFirst_0 rfl (lv_at hl 1 rfl) ?_
  refine x_getR X hW fd_Node_queue (fun w h => List.mem_cons_of_mem _ (gin_X7 w h)) (List.mem_cons_of_mem _ gw490) qv1 dX11_finishFirst_1 ?_
  obtain ⟨r1, S2, h3, h⟩ := cl_some h
  refine x_aftQ X hW (x_runV (C := RX9) (a := G.2.2 8 v1) (As := []) (rest := []) X hW (c_X9_first l G X.2.2.2.2.2.2.2.2.2.1 _ S v1 _ h3) (cwV 0 X.2.2.2.2.1 (gV gw650 gw651 gw652 gw100 gw653) rfl rfl rfl ⟨rfl, hd_X9_first⟩ ⟨Nat.le_of_ble_eq_true rfl, Nat.le_of_ble_eq_true rfl⟩) (x_recv X hW ob_Queue qv1) rfl hl.1 rfl (Nat.le_of_ble_eq_true rfl) dX11_finishFirst_4 ⟨Nat.zero_le _, Nat.zero_le _⟩) (fun H locs hW => ?_)
  refine x_nn h (fun i4 qi4 h => ?_)
  refine lv_astore_n (lv' := [(3, .ref (G.2.2 5 i4)), (0, .ref (G.2.2 10 0)), (1, .ref (G.2.2 6 v1)), (2, .int v2)]) X.1 X.2.1 dX11_finishFirst_7 rfl hl (by decide) rfl (fun ls hl => ?_)
  refine lv_aload_n X.1 X.2.1 dX11_finishFirst_8 rfl (lv_at hl 0 rfl) ?_
  refine x_getI X hW fd_Message_submission (fun w h => List.mem_cons_of_mem _ (gin_X6 w h)) (List.mem_cons_of_mem _ gw497) qi4 dX11_finishFirst_9 h (fun x5 h => ?_)
  refine lv_iconst (v := (-1)) X.1 X.2.1 dX11_finishFirst_12 rfl ?_
  refine x_icmp_eq X (tgt := 26) dX11_finishFirst_13 (by decide) h (fun h => ?_) (fun h => ?_)
  · exact w_X11_finishFirst_26 X v1 qv1  hW (lv_sub hl [1, 2] rfl) h
  · refine lv_aload_n X.1 X.2.1 dX11_finishFirst_16 rfl (lv_at hl 1 rfl) ?_
    refine x_getR X hW fd_Cell_ends (fun w h => List.mem_cons_of_mem _ (gin_X11 w h)) (List.mem_cons_of_mem _ gw40) z_1 dX11_finishFirst_17 ?_
    refine lv_aload_n X.1 X.2.1 dX11_finishFirst_20 rfl (lv_at hl 0 rfl) ?_
    refine x_getI X hW fd_Message_submission (fun w h => List.mem_cons_of_mem _ (gin_X6 w h)) (List.mem_cons_of_mem _ gw497) qi4 dX11_finishFirst_21 h (fun x6 h => ?_)
    refine lv_iload_n X.1 X.2.1 dX11_finishFirst_24 rfl (lv_at hl 3 rfl) ?_
    refine x_iast X hW ar_56 dX11_finishFirst_25 h (fun S7 H locs h hW => ?_)
    exact w_X11_finishFirst_26 X v1 qv1  hW (lv_sub hl [1, 2] rfl) h
theorem c_X11_finishFirst (l : Launch) (G : xG) (hD : xD G false) (sz : Nat) (S : Mm) (v1 : Nat) (v2 : Int32) (o : Unit × Mm) (h : F_X11_finishFirst v1 v2 S = some o) : Met l yX11_finishFirst wsX11_finishFirst rmX11_finishFirst (xPre G false S sz [.ref (G.2.2 10 0), .ref (G.2.2 6 v1), .int v2]) (xQv G false sz o) 0 0 (XA G false sz) :=
  x_start hD (by decide) rfl (Nat.le_of_ble_eq_true rfl) (fun p e s m below meth c X hW ls hl => w_X11_finishFirst_0 X v1 v2 hW hl h)
