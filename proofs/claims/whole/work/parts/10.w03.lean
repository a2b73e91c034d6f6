/-! WirelessCell$Puts.addLast([III)Z -/
def rmX8_addLast : Room := { frames := 1, cells := 0, slots := 0, locals := 18 }
def F_X8_addLast (cv1 : Nat) (v1 : Nat) (v2 : Int32) (v3 : Int32) (S : Mm) : Option (Int32 × Mm) :=
  gf S 101 0 fun x1 =>
  if x1 < 20 then (
  gf S 101 0 fun x2 =>
  ldR S 41 0 20 1 x2 20 fun i3 =>
  cpP false S cv1 v1 0 42 i3 0 v2 fun S4 =>
  gf S4 101 0 fun x5 =>
  stA S4 43 0 20 1 x5 v2 fun S6 =>
  gf S6 101 0 fun x7 =>
  stA S6 44 0 20 1 x7 v3 fun S8 =>
  gf S8 101 0 fun x9 =>
  pf S8 101 0 (x9 + 1) fun S10 =>
  some (1, S10))
  else (
  some (0, S))
set_option maxRecDepth 100000 in
set_option maxHeartbeats 4000000 in
theorem w_X8_addLast_0 {p : Program} {l : Launch} {e : Env} {s : State} {m : MethodId} {args : Array Value} {below : List Frame} {meth : Method} {c : Code} {G : xG} {sz : Nat} {o : Int32 × Mm} (X : xC G false sz p s m args c cX8_addLast 4 wsX8_addLast RX8 meth (some .boolean)) (cv1 : Nat) (v1 : Nat) (v2 : Int32) (v3 : Int32) {S : Mm} {H : Heap} {locs : List Loc} {ls : Array Slot} (hW : xW G false sz s H locs S) (hl : lv_has ls 4 [(0, .ref (G.2.2 7 0)), (1, .ref (G.2.2 cv1 v1)), (2, .int v2), (3, .int v3)]) (h : F_X8_addLast cv1 v1 v2 v3 S = some o) : wX p l e rmX8_addLast s m args below meth c H locs (xQi G false sz o) (XA G false sz) 0 ls [] := by
  unfold F_X8_addLast at h
  refine lv_aload_n X.1 X.2.1 dX8_addLast_0 rfl (lv_at hl 0 rfl) ?_
  refine x_getI X hW fd_Puts_used (fun w h => List.mem_cons_of_mem _ (gin_X8 w h)) (List.mem_cons_of_mem _ gw462) z_1 dX8_addLast_1 h (fun x1 h => ?_)
  refine lv_bipush (v := 20) X.1 X.2.1 dX8_addLast_4 rfl ?_
  refine x_icmp_lt X (tgt := 11) dX8_addLast_6 (by decide) h (fun h => ?_) (fun h => ?_)
  · refine lv_aload_n X.1 X.2.1 dX8_addLast_11 rfl (lv_at hl 1 rfl) ?_
    refine lv_iconst (v := 0) X.1 X.2.1 dX8_addLast_12 rfl ?_
    refine lv_aload_n X.1 X.2.1 dX8_addLast_13 rfl (lv_at hl 0 rfl) ?_
    refine x_getR X hW fd_Puts_rows (fun w h => List.mem_cons_of_mem _ (gin_X8 w h)) (List.mem_cons_of_mem _ gw69) z_1 dX8_addLast_14 ?_
    refine lv_aload_n X.1 X.2.1 dX8_addLast_17 rfl (lv_at hl 0 rfl) ?_
    refine x_getI X hW fd_Puts_used (fun w h => List.mem_cons_of_mem _ (gin_X8 w h)) (List.mem_cons_of_mem _ gw462) z_1 dX8_addLast_18 h (fun x2 h => ?_)
    refine x_aald X hW ar_41 (ct := 42) rfl (at_41 G) rfl dX8_addLast_21 h (fun i3 qi3 h => ?_)
    refine lv_iconst (v := 0) X.1 X.2.1 dX8_addLast_22 rfl ?_
    refine lv_iload_n X.1 X.2.1 dX8_addLast_23 rfl (lv_at hl 2 rfl) ?_
    refine x_acopy X hW hl.1 (List.mem_cons_of_mem _ gw463) (List.mem_cons_of_mem _ gw325) (List.mem_cons_of_mem _ gw326) (List.mem_cons_of_mem _ gw327) (Nat.le_of_ble_eq_true rfl) (Nat.le_of_ble_eq_true rfl) dX8_addLast_24 h (fun S4 H locs h hW => ?_)
    refine lv_aload_n X.1 X.2.1 dX8_addLast_27 rfl (lv_at hl 0 rfl) ?_
    refine x_getR X hW fd_Puts_lengths (fun w h => List.mem_cons_of_mem _ (gin_X8 w h)) (List.mem_cons_of_mem _ gw70) z_1 dX8_addLast_28 ?_
    refine lv_aload_n X.1 X.2.1 dX8_addLast_31 rfl (lv_at hl 0 rfl) ?_
    refine x_getI X hW fd_Puts_used (fun w h => List.mem_cons_of_mem _ (gin_X8 w h)) (List.mem_cons_of_mem _ gw462) z_1 dX8_addLast_32 h (fun x5 h => ?_)
    refine lv_iload_n X.1 X.2.1 dX8_addLast_35 rfl (lv_at hl 2 rfl) ?_
    refine x_iast X hW ar_43 dX8_addLast_36 h (fun S6 H locs h hW => ?_)
    refine lv_aload_n X.1 X.2.1 dX8_addLast_37 rfl (lv_at hl 0 rfl) ?_
    refine x_getR X hW fd_Puts_slots (fun w h => List.mem_cons_of_mem _ (gin_X8 w h)) (List.mem_cons_of_mem _ gw71) z_1 dX8_addLast_38 ?_
    refine lv_aload_n X.1 X.2.1 dX8_addLast_41 rfl (lv_at hl 0 rfl) ?_
    refine x_getI X hW fd_Puts_used (fun w h => List.mem_cons_of_mem _ (gin_X8 w h)) (List.mem_cons_of_mem _ gw462) z_1 dX8_addLast_42 h (fun x7 h => ?_)
    refine lv_iload_n X.1 X.2.1 dX8_addLast_45 rfl (lv_at hl 3 rfl) ?_
    refine x_iast X hW ar_44 dX8_addLast_46 h (fun S8 H locs h hW => ?_)
    refine lv_aload_n X.1 X.2.1 dX8_addLast_47 rfl (lv_at hl 0 rfl) ?_
    refine lv_dup X.1 X.2.1 dX8_addLast_48 rfl ?_
    refine x_getI X hW fd_Puts_used (fun w h => List.mem_cons_of_mem _ (gin_X8 w h)) (List.mem_cons_of_mem _ gw462) z_1 dX8_addLast_49 h (fun x9 h => ?_)
    refine lv_iconst (v := 1) X.1 X.2.1 dX8_addLast_52 rfl ?_
    refine lv_iadd X.1 X.2.1 dX8_addLast_53 ?_
    refine x_putI X hW fd_Puts_used (fun w h => List.mem_cons_of_mem _ (gin_X8 w h)) (List.mem_cons_of_mem _ gw462) z_1 dX8_addLast_54 tyX8 tyX8_ok nmX8 rfl rfl rfl h (fun S10 H locs h hW => ?_)
    refine lv_iconst (v := 1) X.1 X.2.1 dX8_addLast_57 rfl ?_
    exact x_zret X hW h rfl dX8_addLast_58
  · refine lv_iconst (v := 0) X.1 X.2.1 dX8_addLast_9 rfl ?_
    exact x_zret X hW h rfl dX8_addLast_10
theorem c_X8_addLast (l : Launch) (G : xG) (hD : xD G false) (sz : Nat) (S : Mm) (cv1 : Nat) (v1 : Nat) (v2 : Int32) (v3 : Int32) (o : Int32 × Mm) (h : F_X8_addLast cv1 v1 v2 v3 S = some o) : Met l yX8_addLast wsX8_addLast rmX8_addLast (xPre G false S sz [.ref (G.2.2 7 0), .ref (G.2.2 cv1 v1), .int v2, .int v3]) (xQi G false sz o) 0 0 (XA G false sz) :=
  x_start hD (by decide) rfl (Nat.le_of_ble_eq_true rfl) (fun p e s m below meth c X hW ls hl => w_X8_addLast_0 X cv1 v1 v2 v3 hW hl h)

/-! WirelessCell$Puts.slotsAhead(II)I -/
def rmX8_slotsAhead : Room := { frames := 1, cells := 0, slots := 0, locals := 13 }
def L_X8_slotsAhead_5  (v1 : Int32) : Nat → Int32 → Int32 → Mm → Option (Int32 × Mm)
  | 0, _, _, _ => none
  | n + 1, v3, v4, S => 
    gf S 101 0 fun x1 =>
    if x1 ≤ v4 then (
    some (v3, S))
    else (
    ldA S 44 0 20 1 v4 fun x2 =>
    tp (if (x2 - v1) < v3 then (x2 - v1) else v3) fun x3 =>
    (L_X8_slotsAhead_5 v1 n) x3 (v4 + 1) S)
def F_X8_slotsAhead (v1 : Int32) (v2 : Int32) (S : Mm) : Option (Int32 × Mm) :=
  L_X8_slotsAhead_5  v1 fu v2 0 S
set_option maxRecDepth 100000 in
set_option maxHeartbeats 4000000 in
theorem w_X8_slotsAhead_5 {p : Program} {l : Launch} {e : Env} {s : State} {m : MethodId} {args : Array Value} {below : List Frame} {meth : Method} {c : Code} {G : xG} {sz : Nat} {o : Int32 × Mm} (X : xC G false sz p s m args c cX8_slotsAhead 5 wsX8_slotsAhead RX8 meth (some .int)) (v1 : Int32)   : ∀ (n : Nat) (v3 : Int32) (v4 : Int32) (S : Mm) (H : Heap) (locs : List Loc) (ls : Array Slot), L_X8_slotsAhead_5 v1 n v3 v4 S = some o → xW G false sz s H locs S → lv_has ls 5 [(0, .ref (G.2.2 7 0)), (1, .int v1), (3, .int v3), (4, .int v4)] → wX p l e rmX8_slotsAhead s m args below meth c H locs (xQi G false sz o) (XA G false sz) 5 ls [] := by
  intro n
  induction n with
  | zero =>
    intro v3 v4 S H locs ls h
    cases h
  | succ n ih =>
    intro v3 v4 S H locs ls h hW  hl
    rw [L_X8_slotsAhead_5] at h
    refine lv_iload X.1 X.2.1 dX8_slotsAhead_5 (lv_at hl 3 rfl) ?_
    refine lv_aload_n X.1 X.2.1 dX8_slotsAhead_7 rfl (lv_at hl 0 rfl) ?_
    refine x_getI X hW fd_Puts_used (fun w h => List.mem_cons_of_mem _ (gin_X8 w h)) (List.mem_cons_of_mem _ gw462) z_1 dX8_slotsAhead_8 h (fun x1 h => ?_)
    refine x_icmp_ge X (tgt := 34) dX8_slotsAhead_11 (by decide) h (fun h => ?_) (fun h => ?_)
    · refine lv_iload_n X.1 X.2.1 dX8_slotsAhead_34 rfl (lv_at hl 2 rfl) ?_
      exact x_iret X hW h dX8_slotsAhead_35
    · refine lv_iload_n X.1 X.2.1 dX8_slotsAhead_14 rfl (lv_at hl 2 rfl) ?_
      refine lv_aload_n X.1 X.2.1 dX8_slotsAhead_15 rfl (lv_at hl 0 rfl) ?_
      refine x_getR X hW fd_Puts_slots (fun w h => List.mem_cons_of_mem _ (gin_X8 w h)) (List.mem_cons_of_mem _ gw71) z_1 dX8_slotsAhead_16 ?_
      refine lv_iload X.1 X.2.1 dX8_slotsAhead_19 (lv_at hl 3 rfl) ?_
      refine x_iald X hW ar_44 dX8_slotsAhead_21 h (fun x2 h => ?_)
      refine lv_iload_n X.1 X.2.1 dX8_slotsAhead_22 rfl (lv_at hl 1 rfl) ?_
      refine lv_isub X.1 X.2.1 dX8_slotsAhead_23 ?_
      refine va_mmin X.1 X.2.1 (X.2.2.1.trans hl.1.symm) X.2.2.2.1 (X.2.2.2.2.1 _ (List.mem_cons_of_mem _ gw605)) (X.2.2.2.2.1 _ (List.mem_cons_of_mem _ gw606)) (X.2.2.2.2.1 _ (List.mem_cons_of_mem _ gw607)) (X.2.2.2.2.1 _ (List.mem_cons_of_mem _ gw608)) (Nat.le_of_ble_eq_true rfl) (Nat.le_of_ble_eq_true rfl) (Nat.zero_le _) (Nat.zero_le _) dX8_slotsAhead_24 ?_
      refine x_top h (fun x3 h => ?_)
      refine lv_istore_n (lv' := [(3, .int x3), (0, .ref (G.2.2 7 0)), (1, .int v1), (4, .int v4)]) X.1 X.2.1 dX8_slotsAhead_27 rfl hl (by decide) rfl (fun ls hl => ?_)
      refine lv_iinc (v := (v4 + 1)) (lv' := [(4, .int (v4 + 1)), (3, .int x3), (0, .ref (G.2.2 7 0)), (1, .int v1)]) X.1 X.2.1 dX8_slotsAhead_28 hl (k := 3) rfl rfl (by decide) rfl (fun ls hl => ?_)
      refine lv_goto (tgt := 5) X.1 X.2.1 dX8_slotsAhead_31 (by decide) ?_
      exact ih x3 (v4 + 1) S _ _ _ h hW  (lv_sub hl [2, 3, 1, 0] rfl)
set_option maxRecDepth 100000 in
set_option maxHeartbeats 4000000 in
theorem w_X8_slotsAhead_0 {p : Program} {l : Launch} {e : Env} {s : State} {m : MethodId} {args : Array Value} {below : List Frame} {meth : Method} {c : Code} {G : xG} {sz : Nat} {o : Int32 × Mm} (X : xC G false sz p s m args c cX8_slotsAhead 5 wsX8_slotsAhead RX8 meth (some .int)) (v1 : Int32) (v2 : Int32) {S : Mm} {H : Heap} {locs : List Loc} {ls : Array Slot} (hW : xW G false sz s H locs S) (hl : lv_has ls 5 [(0, .ref (G.2.2 7 0)), (1, .int v1), (2, .int v2)]) (h : F_X8_slotsAhead v1 v2 S = some o) : wX p l e rmX8_slotsAhead s m args below meth c H locs (xQi G false sz o) (XA G false sz) 0 ls [] := by
  unfold F_X8_slotsAhead at h
  refine lv_iload_n X.1 X.2.1 dX8_slotsAhead_0 rfl (lv_at hl 2 rfl) ?_
  refine lv_istore_n (lv' := [(3, .int v2), (0, .ref (G.2.2 7 0)), (1, .int v1), (2, .int v2)]) X.1 X.2.1 dX8_slotsAhead_1 rfl hl (by decide) rfl (fun ls hl => ?_)
  refine lv_iconst (v := 0) X.1 X.2.1 dX8_slotsAhead_2 rfl ?_
  refine lv_istore (lv' := [(4, .int 0), (3, .int v2), (0, .ref (G.2.2 7 0)), (1, .int v1), (2, .int v2)]) X.1 X.2.1 dX8_slotsAhead_3 hl (by decide) rfl (fun ls hl => ?_)
  exact w_X8_slotsAhead_5 X v1   fu v2 0 S _ _ _ h hW  (lv_sub hl [2, 3, 1, 0] rfl)
theorem c_X8_slotsAhead (l : Launch) (G : xG) (hD : xD G false) (sz : Nat) (S : Mm) (v1 : Int32) (v2 : Int32) (o : Int32 × Mm) (h : F_X8_slotsAhead v1 v2 S = some o) : Met l yX8_slotsAhead wsX8_slotsAhead rmX8_slotsAhead (xPre G false S sz [.ref (G.2.2 7 0), .int v1, .int v2]) (xQi G false sz o) 0 0 (XA G false sz) :=
  x_start hD (by decide) rfl (Nat.le_of_ble_eq_true rfl) (fun p e s m below meth c X hW ls hl => w_X8_slotsAhead_0 X v1 v2 hW hl h)

/-! WirelessCell$Puts.moveUp(II)V -/
def rmX8_moveUp : Room := { frames := 0, cells := 0, slots := 0, locals := 0 }
def F_X8_moveUp (v1 : Int32) (v2 : Int32) (S : Mm) : Option (Unit × Mm) :=
  ldR S 41 0 20 1 v2 20 fun i1 =>
  ldR S 41 0 20 1 v1 20 fun i2 =>
  gd (i2 < 20) (
  stR S 41 0 20 1 v2 i2 fun S3 =>
  gd (i1 < 20) (
  stR S3 41 0 20 1 v1 i1 fun S5 =>
  ldA S5 43 0 20 1 v1 fun x7 =>
  stA S5 43 0 20 1 v2 x7 fun S8 =>
  ldA S8 44 0 20 1 v1 fun x9 =>
  stA S8 44 0 20 1 v2 x9 fun S10 =>
  some ((), S10)))
set_option maxRecDepth 100000 in
set_option maxHeartbeats 4000000 in
theorem w_X8_moveUp_0 {p : Program} {l : Launch} {e : Env} {s : State} {m : MethodId} {args : Array Value} {below : List Frame} {meth : Method} {c : Code} {G : xG} {sz : Nat} {o : Unit × Mm} (X : xC G false sz p s m args c cX8_moveUp 4 wsX8_moveUp RX8 meth none) (v1 : Int32) (v2 : Int32) {S : Mm} {H : Heap} {locs : List Loc} {ls : Array Slot} (hW : xW G false sz s H locs S) (hl : lv_has ls 4 [(0, .ref (G.2.2 7 0)), (1, .int v1), (2, .int v2)]) (h : F_X8_moveUp v1 v2 S = some o) : wX p l e rmX8_moveUp s m args below meth c H locs (xQv G false sz o) (XA G false sz) 0 ls [] := by
  unfold F_X8_moveUp at h
  refine lv_aload_n X.1 X.2.1 dX8_moveUp_0 rfl (lv_at hl 0 rfl) ?_
  refine x_getR X hW fd_Puts_rows (fun w h => List.mem_cons_of_mem _ (gin_X8 w h)) (List.mem_cons_of_mem _ gw69) z_1 dX8_moveUp_1 ?_
  refine lv_iload_n X.1 X.2.1 dX8_moveUp_4 rfl (lv_at hl 2 rfl) ?_
  refine x_aald X hW ar_41 (ct := 42) rfl (at_41 G) rfl dX8_moveUp_5 h (fun i1 qi1 h => ?_)
  refine lv_astore_n (lv' := [(3, .ref (G.2.2 42 i1)), (0, .ref (G.2.2 7 0)), (1, .int v1), (2, .int v2)]) X.1 X.2.1 dX8_moveUp_6 rfl hl (by decide) rfl (fun ls hl => ?_)
  refine lv_aload_n X.1 X.2.1 dX8_moveUp_7 rfl (lv_at hl 1 rfl) ?_
  refine x_getR X hW fd_Puts_rows (fun w h => List.mem_cons_of_mem _ (gin_X8 w h)) (List.mem_cons_of_mem _ gw69) z_1 dX8_moveUp_8 ?_
  refine lv_iload_n X.1 X.2.1 dX8_moveUp_11 rfl (lv_at hl 3 rfl) ?_
  refine lv_aload_n X.1 X.2.1 dX8_moveUp_12 rfl (lv_at hl 1 rfl) ?_
  refine x_getR X hW fd_Puts_rows (fun w h => List.mem_cons_of_mem _ (gin_X8 w h)) (List.mem_cons_of_mem _ gw69) z_1 dX8_moveUp_13 ?_
  refine lv_iload_n X.1 X.2.1 dX8_moveUp_16 rfl (lv_at hl 2 rfl) ?_
  refine x_aald X hW ar_41 (ct := 42) rfl (at_41 G) rfl dX8_moveUp_17 h (fun i2 qi2 h => ?_)
  obtain ⟨g4, h⟩ := if_some h
  refine x_aastR X hW ar_41 (ct := 42) rfl rfl ar_42 g4 dX8_moveUp_18 h (fun S3 H locs h hW => ?_)
  refine lv_aload_n X.1 X.2.1 dX8_moveUp_19 rfl (lv_at hl 1 rfl) ?_
  refine x_getR X hW fd_Puts_rows (fun w h => List.mem_cons_of_mem _ (gin_X8 w h)) (List.mem_cons_of_mem _ gw69) z_1 dX8_moveUp_20 ?_
  refine lv_iload_n X.1 X.2.1 dX8_moveUp_23 rfl (lv_at hl 2 rfl) ?_
  refine lv_aload_n X.1 X.2.1 dX8_moveUp_24 rfl (lv_at hl 0 rfl) ?_
  obtain ⟨g6, h⟩ := if_some h
  refine x_aastR X hW ar_41 (ct := 42) rfl rfl ar_42 g6 dX8_moveUp_25 h (fun S5 H locs h hW => ?_)
  refine lv_aload_n X.1 X.2.1 dX8_moveUp_26 rfl (lv_at hl 1 rfl) ?_
  refine x_getR X hW fd_Puts_lengths (fun w h => List.mem_cons_of_mem _ (gin_X8 w h)) (List.mem_cons_of_mem _ gw70) z_1 dX8_moveUp_27 ?_
  refine lv_iload_n X.1 X.2.1 dX8_moveUp_30 rfl (lv_at hl 3 rfl) ?_
  refine lv_aload_n X.1 X.2.1 dX8_moveUp_31 rfl (lv_at hl 1 rfl) ?_
  refine x_getR X hW fd_Puts_lengths (fun w h => List.mem_cons_of_mem _ (gin_X8 w h)) (List.mem_cons_of_mem _ gw70) z_1 dX8_moveUp_32 ?_
  refine lv_iload_n X.1 X.2.1 dX8_moveUp_35 rfl (lv_at hl 2 rfl) ?_
  refine x_iald X hW ar_43 dX8_moveUp_36 h (fun x7 h => ?_)
  refine x_iast X hW ar_43 dX8_moveUp_37 h (fun S8 H locs h hW => ?_)
  refine lv_aload_n X.1 X.2.1 dX8_moveUp_38 rfl (lv_at hl 1 rfl) ?_
  refine x_getR X hW fd_Puts_slots (fun w h => List.mem_cons_of_mem _ (gin_X8 w h)) (List.mem_cons_of_mem _ gw71) z_1 dX8_moveUp_39 ?_
  refine lv_iload_n X.1 X.2.1 dX8_moveUp_42 rfl (lv_at hl 3 rfl) ?_
  refine lv_aload_n X.1 X.2.1 dX8_moveUp_43 rfl (lv_at hl 1 rfl) ?_
  refine x_getR X hW fd_Puts_slots (fun w h => List.mem_cons_of_mem _ (gin_X8 w h)) (List.mem_cons_of_mem _ gw71) z_1 dX8_moveUp_44 ?_
  refine lv_iload_n X.1 X.2.1 dX8_moveUp_47 rfl (lv_at hl 2 rfl) ?_
  refine x_iald X hW ar_44 dX8_moveUp_48 h (fun x9 h => ?_)
  refine x_iast X hW ar_44 dX8_moveUp_49 h (fun S10 H locs h hW => ?_)
  exact x_vret X hW h dX8_moveUp_50
theorem c_X8_moveUp (l : Launch) (G : xG) (hD : xD G false) (sz : Nat) (S : Mm) (v1 : Int32) (v2 : Int32) (o : Unit × Mm) (h : F_X8_moveUp v1 v2 S = some o) : Met l yX8_moveUp wsX8_moveUp rmX8_moveUp (xPre G false S sz [.ref (G.2.2 7 0), .int v1, .int v2]) (xQv G false sz o) 0 0 (XA G false sz) :=
  x_start hD (by decide) rfl (Nat.le_of_ble_eq_true rfl) (fun p e s m below meth c X hW ls hl => w_X8_moveUp_0 X v1 v2 hW hl h)

/-! WirelessCell$Puts.begin(LWirelessCell$Medium;)V -/
def rmX8_begin : Room := { frames := 2, cells := 0, slots := 0, locals := 44 }
def L_X8_begin_56 (k4 : Int32 → Int32 → Mm → Option (Unit × Mm)) (v2 : Int32) (v3 : Int32) (S : Mm) : Option (Unit × Mm) :=
  k4 v2 (v3 + 1) S
def L_X8_begin_4   : Nat → Int32 → Int32 → Mm → Option (Unit × Mm)
  | 0, _, _, _ => none
  | n + 1, v2, v3, S => 
    gf S 101 0 fun x1 =>
    if x1 ≤ v3 then (
    pf S 101 0 v2 fun S2 =>
    some ((), S2))
    else (
    ldA S 44 0 20 1 v3 fun x3 =>
    gf S 76 0 fun x4 =>
    if x3 = x4 then (
    ldR S 41 0 20 1 v3 20 fun i8 =>
    ldA S 43 0 20 1 v3 fun x9 =>
    cl (F_X5_begin 42 i8 x9 9 S) fun r10 S11 =>
    L_X8_begin_56 (L_X8_begin_4  n) v2 v3 S11)
    else (
    cl (F_X8_moveUp v3 v2 S) fun r5 S6 =>
    L_X8_begin_56 (L_X8_begin_4  n) (v2 + 1) v3 S6))
def F_X8_begin  (S : Mm) : Option (Unit × Mm) :=
  L_X8_begin_4   fu 0 0 S
set_option maxRecDepth 100000 in
set_option maxHeartbeats 4000000 in
theorem w_X8_begin_56 {p : Program} {l : Launch} {e : Env} {s : State} {m : MethodId} {args : Array Value} {below : List Frame} {meth : Method} {c : Code} {G : xG} {sz : Nat} {o : Unit × Mm} (X : xC G false sz p s m args c cX8_begin 4 wsX8_begin RX8 meth none) (v2 : Int32) (v3 : Int32)  (k4 : Int32 → Int32 → Mm → Option (Unit × Mm)) (hk4 : ∀ (v2 : Int32) (v3 : Int32) (S : Mm) (H : Heap) (locs : List Loc) (ls : Array Slot), k4 v2 v3 S = some o → xW G false sz s H locs S → lv_has ls 4 [(0, .ref (G.2.2 7 0)), (1, .ref (G.2.2 4 0)), (2, .int v2), (3, .int v3)] → wX p l e rmX8_begin s m args below meth c H locs (xQv G false sz o) (XA G false sz) 4 ls []) {S : Mm} {H : Heap} {locs : List Loc} {ls : Array Slot} (hW : xW G false sz s H locs S) (hl : lv_has ls 4 [(0, .ref (G.2.2 7 0)), (1, .ref (G.2.2 4 0)), (2, .int v2), (3, .int v3)]) (h : L_X8_begin_56 k4 v2 v3 S = some o) : wX p l e rmX8_begin s m args below meth c H locs (xQv G false sz o) (XA G false sz) 56 ls [] := by
  unfold L_X8_begin_56 at h
  refine lv_iinc (v := (v3 + 1)) (lv' := [(3, .int (v3 + 1)), (0, .ref (G.2.2 7 0)), (1, .ref (G.2.2 4 0)), (2, .int v2)]) X.1 X.2.1 dX8_begin_56 hl (k := 3) rfl rfl (by decide) rfl (fun ls hl => ?_)
  refine lv_goto (tgt := 4) X.1 X.2.1 dX8_begin_59 (by decide) ?_
  exact hk4 v2 (v3 + 1) S _ _ _ h hW  (lv_sub hl [1, 2, 3, 0] rfl)
set_option maxRecDepth 100000 in
set_option maxHeartbeats 4000000 in
theorem w_X8_begin_4 {p : Program} {l : Launch} {e : Env} {s : State} {m : MethodId} {args : Array Value} {below : List Frame} {meth : Method} {c : Code} {G : xG} {sz : Nat} {o : Unit × Mm} (X : xC G false sz p s m args c cX8_begin 4 wsX8_begin RX8 meth none)    : ∀ (n : Nat) (v2 : Int32) (v3 : Int32) (S : Mm) (H : Heap) (locs : List Loc) (ls : Array Slot), L_X8_begin_4  n v2 v3 S = some o → xW G false sz s H locs S → lv_has ls 4 [(0, .ref (G.2.2 7 0)), (1, .ref (G.2.2 4 0)), (2, .int v2), (3, .int v3)] → wX p l e rmX8_begin s m args below meth c H locs (xQv G false sz o) (XA G false sz) 4 ls [] := by
  intro n
  induction n with
  | zero =>
    intro v2 v3 S H locs ls h
    cases h
  | succ n ih =>
    intro v2 v3 S H locs ls h hW  hl
    rw [L_X8_begin_4] at h
    refine lv_iload_n X.1 X.2.1 dX8_begin_4 rfl (lv_at hl 3 rfl) ?_
    refine lv_aload_n X.1 X.2.1 dX8_begin_5 rfl (lv_at hl 0 rfl) ?_
    refine x_getI X hW fd_Puts_used (fun w h => List.mem_cons_of_mem _ (gin_X8 w h)) (List.mem_cons_of_mem _ gw462) z_1 dX8_begin_6 h (fun x1 h => ?_)
    refine x_icmp_ge X (tgt := 62) dX8_begin_9 (by decide) h (fun h => ?_) (fun h => ?_)
    · refine lv_aload_n X.1 X.2.1 dX8_begin_62 rfl (lv_at hl 0 rfl) ?_
      refine lv_iload_n X.1 X.2.1 dX8_begin_63 rfl (lv_at hl 2 rfl) ?_
      refine x_putI X hW fd_Puts_used (fun w h => List.mem_cons_of_mem _ (gin_X8 w h)) (List.mem_cons_of_mem _ gw462) z_1 dX8_begin_64 tyX8 tyX8_ok nmX8 rfl rfl rfl h (fun S2 H locs h hW => ?_)
      exact x_vret X hW h dX8_begin_67
    · refine lv_aload_n X.1 X.2.1 dX8_begin_12 rfl (lv_at hl 0 rfl) ?_
      refine x_getR X hW fd_Puts_slots (fun w h => List.mem_cons_of_mem _ (gin_X8 w h)) (List.mem_cons_of_mem _ gw71) z_1 dX8_begin_13 ?_
      refine lv_iload_n X.1 X.2.1 dX8_begin_16 rfl (lv_at hl 3 rfl) ?_
      refine x_iald X hW ar_44 dX8_begin_17 h (fun x3 h => ?_)
      refine lv_aload_n X.1 X.2.1 dX8_begin_18 rfl (lv_at hl 1 rfl) ?_
      refine x_getI X hW fd_Medium_slot (fun w h => List.mem_cons_of_mem _ (gin_X5 w h)) (List.mem_cons_of_mem _ gw727) z_1 dX8_begin_19 h (fun x4 h => ?_)
      refine x_icmp_ne X (tgt := 47) dX8_begin_22 (by decide) h (fun h => ?_) (fun h => ?_)
      · refine lv_aload_n X.1 X.2.1 dX8_begin_47 rfl (lv_at hl 0 rfl) ?_
        refine lv_iload_n X.1 X.2.1 dX8_begin_48 rfl (lv_at hl 3 rfl) ?_
        refine lv_iload_n X.1 X.2.1 dX8_begin_49 rfl (lv_at hl 2 rfl) ?_
        obtain ⟨r5, S6, h7, h⟩ := cl_some h
        refine x_aftV X hW (x_runV (C := RX8) (a := G.2.2 7 0) (As := [.int v3, .int v2]) (rest := []) X hW (c_X8_moveUp l G X.2.2.2.2.2.2.2.2.2.1 _ S v3 v2 _ h7) (cwV 2 X.2.2.2.2.1 (gV gw729 gw730 gw731 gw24 gw732) rfl rfl rfl ⟨rfl, hd_X8_moveUp⟩ ⟨Nat.le_of_ble_eq_true rfl, Nat.le_of_ble_eq_true rfl⟩) (x_recv X hW ob_Puts z_1) rfl hl.1 rfl (Nat.le_of_ble_eq_true rfl) dX8_begin_50 ⟨Nat.zero_le _, Nat.zero_le _⟩) (fun H locs hW => ?_)
        refine lv_iinc (v := (v2 + 1)) (lv' := [(2, .int (v2 + 1)), (0, .ref (G.2.2 7 0)), (1, .ref (G.2.2 4 0)), (3, .int v3)]) X.1 X.2.1 dX8_begin_53 hl (k := 2) rfl rfl (by decide) rfl (fun ls hl => ?_)
        exact w_X8_begin_56 X (v2 + 1) v3  (L_X8_begin_4  n) ih hW (lv_sub hl [1, 2, 0, 3] rfl) h
      · refine lv_aload_n X.1 X.2.1 dX8_begin_25 rfl (lv_at hl 1 rfl) ?_
        refine lv_aload_n X.1 X.2.1 dX8_begin_26 rfl (lv_at hl 0 rfl) ?_
        refine x_getR X hW fd_Puts_rows (fun w h => List.mem_cons_of_mem _ (gin_X8 w h)) (List.mem_cons_of_mem _ gw69) z_1 dX8_begin_27 ?_
        refine lv_iload_n X.1 X.2.1 dX8_begin_30 rfl (lv_at hl 3 rfl) ?_
        refine x_aald X hW ar_41 (ct := 42) rfl (at_41 G) rfl dX8_begin_31 h (fun i8 qi8 h => ?_)
        refine lv_aload_n X.1 X.2.1 dX8_begin_32 rfl (lv_at hl 0 rfl) ?_
        refine x_getR X hW fd_Puts_lengths (fun w h => List.mem_cons_of_mem _ (gin_X8 w h)) (List.mem_cons_of_mem _ gw70) z_1 dX8_begin_33 ?_
        refine lv_iload_n X.1 X.2.1 dX8_begin_36 rfl (lv_at hl 3 rfl) ?_
        refine x_iald X hW ar_43 dX8_begin_37 h (fun x9 h => ?_)
        refine lv_bipush (v := 9) X.1 X.2.1 dX8_begin_38 rfl ?_
        obtain ⟨r10, S11, h12, h⟩ := cl_some h
        refine x_aftI X hW (x_runV (C := RX5) (a := G.2.2 4 0) (As := [.ref (G.2.2 42 i8), .int x9, .int 9]) (rest := []) X hW (c_X5_begin l G X.2.2.2.2.2.2.2.2.2.1 _ S 42 i8 x9 9 _ h12) (cwV 3 X.2.2.2.2.1 (gV gw728 gw634 gw635 gw20 gw636) rfl rfl rfl ⟨rfl, hd_X5_begin⟩ ⟨Nat.le_of_ble_eq_true rfl, Nat.le_of_ble_eq_true rfl⟩) (x_recv X hW ob_Medium z_1) rfl hl.1 rfl (Nat.le_of_ble_eq_true rfl) dX8_begin_40 ⟨Nat.zero_le _, Nat.zero_le _⟩) (fun H locs hW => ?_)
        refine lv_pop X.1 X.2.1 dX8_begin_43 rfl ?_
        refine lv_goto (tgt := 56) X.1 X.2.1 dX8_begin_44 (by decide) ?_
        exact w_X8_begin_56 X v2 v3  (L_X8_begin_4  n) ih hW (lv_sub hl [0, 1, 2, 3] rfl) h
set_option maxRecDepth 100000 in
set_option maxHeartbeats 4000000 in
theorem w_X8_begin_0 {p : Program} {l : Launch} {e : Env} {s : State} {m : MethodId} {args : Array Value} {below : List Frame} {meth : Method} {c : Code} {G : xG} {sz : Nat} {o : Unit × Mm} (X : xC G false sz p s m args c cX8_begin 4 wsX8_begin RX8 meth none)  {S : Mm} {H : Heap} {locs : List Loc} {ls : Array Slot} (hW : xW G false sz s H locs S) (hl : lv_has ls 4 [(0, .ref (G.2.2 7 0)), (1, .ref (G.2.2 4 0))]) (h : F_X8_begin  S = some o) : wX p l e rmX8_begin s m args below meth c H locs (xQv G false sz o) (XA G false sz) 0 ls [] := by
  unfold F_X8_begin at h
  refine lv_iconst (v := 0) X.1 X.2.1 dX8_begin_0 rfl ?_
  refine lv_istore_n (lv' := [(2, .int 0), (0, .ref (G.2.2 7 0)), (1, .ref (G.2.2 4 0))]) X.1 X.2.1 dX8_begin_1 rfl hl (by decide) rfl (fun ls hl => ?_)
  refine lv_iconst (v := 0) X.1 X.2.1 dX8_begin_2 rfl ?_
  refine lv_istore_n (lv' := [(3, .int 0), (2, .int 0), (0, .ref (G.2.2 7 0)), (1, .ref (G.2.2 4 0))]) X.1 X.2.1 dX8_begin_3 rfl hl (by decide) rfl (fun ls hl => ?_)
  exact w_X8_begin_4 X    fu 0 0 S _ _ _ h hW  (lv_sub hl [2, 3, 1, 0] rfl)
theorem c_X8_begin (l : Launch) (G : xG) (hD : xD G false) (sz : Nat) (S : Mm)  (o : Unit × Mm) (h : F_X8_begin  S = some o) : Met l yX8_begin wsX8_begin rmX8_begin (xPre G false S sz [.ref (G.2.2 7 0), .ref (G.2.2 4 0)]) (xQv G false sz o) 0 0 (XA G false sz) :=
  x_start hD (by decide) rfl (Nat.le_of_ble_eq_true rfl) (fun p e s m below meth c X hW ls hl => w_X8_begin_0 X  hW hl h)

/-! WirelessCell$Queue.first()LWirelessCell$Message; -/
def rmX9_first : Room := { frames := 0, cells := 0, slots := 0, locals := 0 }
def F_X9_first (v0 : Nat) (S : Mm) : Option (Option Nat × Mm) :=
  gd (v0 < 9) (
  gf S 102 v0 fun x1 =>
  ldR S 45 v0 12 9 x1 108 fun i2 =>
  some (some i2, S))
set_option maxRecDepth 100000 in
set_option maxHeartbeats 4000000 in
theorem w_X9_first_0 {p : Program} {l : Launch} {e : Env} {s : State} {m : MethodId} {args : Array Value} {below : List Frame} {meth : Method} {c : Code} {G : xG} {sz : Nat} {o : Option Nat × Mm} (X : xC G false sz p s m args c cX9_first 1 wsX9_first RX9 meth (some (.object "WirelessCell$Message"))) (v0 : Nat) {S : Mm} {H : Heap} {locs : List Loc} {ls : Array Slot} (hW : xW G false sz s H locs S) (hl : lv_has ls 1 [(0, .ref (G.2.2 8 v0))]) (h : F_X9_first v0 S = some o) : wX p l e rmX9_first s m args below meth c H locs (xQq G false sz 5 o) (XA G false sz) 0 ls [] := by
  unfold F_X9_first at h
  obtain ⟨qv0, h⟩ := if_some h
  refine lv_aload_n X.1 X.2.1 dX9_first_0 rfl (lv_at hl 0 rfl) ?_
  refine x_getR X hW fd_Queue_rows (fun w h => List.mem_cons_of_mem _ (gin_X9 w h)) (List.mem_cons_of_mem _ gw119) qv0 dX9_first_1 ?_
  refine lv_aload_n X.1 X.2.1 dX9_first_4 rfl (lv_at hl 0 rfl) ?_
  refine x_getI X hW fd_Queue_firstRow (fun w h => List.mem_cons_of_mem _ (gin_X9 w h)) (List.mem_cons_of_mem _ gw505) qv0 dX9_first_5 h (fun x1 h => ?_)
  refine x_aald X hW ar_45 (ct := 5) rfl (at_45 G) rfl dX9_first_8 h (fun i2 qi2 h => ?_)
  exact x_aret X hW rfl (Or.inl ⟨_, rfl⟩) h dX9_first_9
theorem c_X9_first (l : Launch) (G : xG) (hD : xD G false) (sz : Nat) (S : Mm) (v0 : Nat) (o : Option Nat × Mm) (h : F_X9_first v0 S = some o) : Met l yX9_first wsX9_first rmX9_first (xPre G false S sz [.ref (G.2.2 8 v0)]) (xQq G false sz 5 o) 0 0 (XA G false sz) :=
  x_start hD (by decide) rfl (Nat.le_of_ble_eq_true rfl) (fun p e s m below meth c X hW ls hl => w_X9_first_0 X v0 hW hl h)

/-! WirelessCell$Queue.addLast()LWirelessCell$Message; -/
def rmX9_addLast : Room := { frames := 0, cells := 0, slots := 0, locals := 0 }
def F_X9_addLast (v0 : Nat) (S : Mm) : Option (Option Nat × Mm) :=
  gd (v0 < 9) (
  gf S 103 v0 fun x1 =>
  if x1 < 12 then (
  gf S 102 v0 fun x2 =>
  gf S 103 v0 fun x3 =>
  ldR S 45 v0 12 9 ((x2 + x3) - (x2 + x3) / 12 * 12) 108 fun i4 =>
  gf S 103 v0 fun x5 =>
  pf S 103 v0 (x5 + 1) fun S6 =>
  gf S6 104 v0 fun x7 =>
  pf S6 86 i4 x7 fun S8 =>
  gf S8 104 v0 fun x9 =>
  pf S8 104 v0 ((x9 + 1) - (x9 + 1) / 4096 * 4096) fun S10 =>
  some (some i4, S10))
  else (
  some (none, S)))
set_option maxRecDepth 100000 in
set_option maxHeartbeats 4000000 in
theorem w_X9_addLast_0 {p : Program} {l : Launch} {e : Env} {s : State} {m : MethodId} {args : Array Value} {below : List Frame} {meth : Method} {c : Code} {G : xG} {sz : Nat} {o : Option Nat × Mm} (X : xC G false sz p s m args c cX9_addLast 2 wsX9_addLast RX9 meth (some (.object "WirelessCell$Message"))) (v0 : Nat) {S : Mm} {H : Heap} {locs : List Loc} {ls : Array Slot} (hW : xW G false sz s H locs S) (hl : lv_has ls 2 [(0, .ref (G.2.2 8 v0))]) (h : F_X9_addLast v0 S = some o) : wX p l e rmX9_addLast s m args below meth c H locs (xQq G false sz 5 o) (XA G false sz) 0 ls [] := by
  unfold F_X9_addLast at h
  obtain ⟨qv0, h⟩ := if_some h
  refine lv_aload_n X.1 X.2.1 dX9_addLast_0 rfl (lv_at hl 0 rfl) ?_
  refine x_getI X hW fd_Queue_used (fun w h => List.mem_cons_of_mem _ (gin_X9 w h)) (List.mem_cons_of_mem _ gw504) qv0 dX9_addLast_1 h (fun x1 h => ?_)
  refine lv_bipush (v := 12) X.1 X.2.1 dX9_addLast_4 rfl ?_
  refine x_icmp_lt X (tgt := 11) dX9_addLast_6 (by decide) h (fun h => ?_) (fun h => ?_)
  · refine lv_aload_n X.1 X.2.1 dX9_addLast_11 rfl (lv_at hl 0 rfl) ?_
    refine x_getR X hW fd_Queue_rows (fun w h => List.mem_cons_of_mem _ (gin_X9 w h)) (List.mem_cons_of_mem _ gw119) qv0 dX9_addLast_12 ?_
    refine lv_aload_n X.1 X.2.1 dX9_addLast_15 rfl (lv_at hl 0 rfl) ?_
    refine x_getI X hW fd_Queue_firstRow (fun w h => List.mem_cons_of_mem _ (gin_X9 w h)) (List.mem_cons_of_mem _ gw505) qv0 dX9_addLast_16 h (fun x2 h => ?_)
    refine lv_aload_n X.1 X.2.1 dX9_addLast_19 rfl (lv_at hl 0 rfl) ?_
    refine x_getI X hW fd_Queue_used (fun w h => List.mem_cons_of_mem _ (gin_X9 w h)) (List.mem_cons_of_mem _ gw504) qv0 dX9_addLast_20 h (fun x3 h => ?_)
    refine lv_iadd X.1 X.2.1 dX9_addLast_23 ?_
    refine lv_bipush (v := 12) X.1 X.2.1 dX9_addLast_24 rfl ?_
    refine lv_irem X.1 X.2.1 dX9_addLast_26 (by decide) ?_
    refine x_aald X hW ar_45 (ct := 5) rfl (at_45 G) rfl dX9_addLast_27 h (fun i4 qi4 h => ?_)
    refine lv_astore_n (lv' := [(1, .ref (G.2.2 5 i4)), (0, .ref (G.2.2 8 v0))]) X.1 X.2.1 dX9_addLast_28 rfl hl (by decide) rfl (fun ls hl => ?_)
    refine lv_aload_n X.1 X.2.1 dX9_addLast_29 rfl (lv_at hl 1 rfl) ?_
    refine lv_dup X.1 X.2.1 dX9_addLast_30 rfl ?_
    refine x_getI X hW fd_Queue_used (fun w h => List.mem_cons_of_mem _ (gin_X9 w h)) (List.mem_cons_of_mem _ gw504) qv0 dX9_addLast_31 h (fun x5 h => ?_)
    refine lv_iconst (v := 1) X.1 X.2.1 dX9_addLast_34 rfl ?_
    refine lv_iadd X.1 X.2.1 dX9_addLast_35 ?_
    refine x_putI X hW fd_Queue_used (fun w h => List.mem_cons_of_mem _ (gin_X9 w h)) (List.mem_cons_of_mem _ gw504) qv0 dX9_addLast_36 tyX9 tyX9_ok nmX9 rfl rfl rfl h (fun S6 H locs h hW => ?_)
    refine lv_aload_n X.1 X.2.1 dX9_addLast_39 rfl (lv_at hl 0 rfl) ?_
    refine lv_aload_n X.1 X.2.1 dX9_addLast_40 rfl (lv_at hl 1 rfl) ?_
    refine x_getI X hW fd_Queue_nextSequence (fun w h => List.mem_cons_of_mem _ (gin_X9 w h)) (List.mem_cons_of_mem _ gw506) qv0 dX9_addLast_41 h (fun x7 h => ?_)
    refine x_putI X hW fd_Message_sequence (fun w h => List.mem_cons_of_mem _ (gin_X6 w h)) (List.mem_cons_of_mem _ gw507) qi4 dX9_addLast_44 tyX6 tyX6_ok nmX6 rfl rfl rfl h (fun S8 H locs h hW => ?_)
    refine lv_aload_n X.1 X.2.1 dX9_addLast_47 rfl (lv_at hl 1 rfl) ?_
    refine lv_aload_n X.1 X.2.1 dX9_addLast_48 rfl (lv_at hl 1 rfl) ?_
    refine x_getI X hW fd_Queue_nextSequence (fun w h => List.mem_cons_of_mem _ (gin_X9 w h)) (List.mem_cons_of_mem _ gw506) qv0 dX9_addLast_49 h (fun x9 h => ?_)
    refine lv_iconst (v := 1) X.1 X.2.1 dX9_addLast_52 rfl ?_
    refine lv_iadd X.1 X.2.1 dX9_addLast_53 ?_
    refine lv_sipush (v := 4096) X.1 X.2.1 dX9_addLast_54 rfl ?_
    refine lv_irem X.1 X.2.1 dX9_addLast_57 (by decide) ?_
    refine x_putI X hW fd_Queue_nextSequence (fun w h => List.mem_cons_of_mem _ (gin_X9 w h)) (List.mem_cons_of_mem _ gw506) qv0 dX9_addLast_58 tyX9 tyX9_ok nmX9 rfl rfl rfl h (fun S10 H locs h hW => ?_)
    refine lv_aload_n X.1 X.2.1 dX9_addLast_61 rfl (lv_at hl 0 rfl) ?_
    exact x_aret X hW rfl (Or.inl ⟨_, rfl⟩) h dX9_addLast_62
  · refine lv_null X.1 X.2.1 dX9_addLast_9 ?_
    exact x_nret X hW rfl (Or.inl ⟨_, rfl⟩) h dX9_addLast_10
theorem c_X9_addLast (l : Launch) (G : xG) (hD : xD G false) (sz : Nat) (S : Mm) (v0 : Nat) (o : Option Nat × Mm) (h : F_X9_addLast v0 S = some o) : Met l yX9_addLast wsX9_addLast rmX9_addLast (xPre G false S sz [.ref (G.2.2 8 v0)]) (xQq G false sz 5 o) 0 0 (XA G false sz) :=
  x_start hD (by decide) rfl (Nat.le_of_ble_eq_true rfl) (fun p e s m below meth c X hW ls hl => w_X9_addLast_0 X v0 hW hl h)

/-! WirelessCell$Queue.removeFirst()V -/
def rmX9_removeFirst : Room := { frames := 0, cells := 0, slots := 0, locals := 0 }
def F_X9_removeFirst (v0 : Nat) (S : Mm) : Option (Unit × Mm) :=
  gd (v0 < 9) (
  gf S 103 v0 fun x1 =>
  if x1 ≤ 0 then (
  some ((), S))
  else (
  gf S 102 v0 fun x2 =>
  pf S 102 v0 ((x2 + 1) - (x2 + 1) / 12 * 12) fun S3 =>
  gf S3 103 v0 fun x4 =>
  pf S3 103 v0 (x4 - 1) fun S5 =>
  some ((), S5)))
set_option maxRecDepth 100000 in
set_option maxHeartbeats 4000000 in
theorem w_X9_removeFirst_0 {p : Program} {l : Launch} {e : Env} {s : State} {m : MethodId} {args : Array Value} {below : List Frame} {meth : Method} {c : Code} {G : xG} {sz : Nat} {o : Unit × Mm} (X : xC G false sz p s m args c cX9_removeFirst 1 wsX9_removeFirst RX9 meth none) (v0 : Nat) {S : Mm} {H : Heap} {locs : List Loc} {ls : Array Slot} (hW : xW G false sz s H locs S) (hl : lv_has ls 1 [(0, .ref (G.2.2 8 v0))]) (h : F_X9_removeFirst v0 S = some o) : wX p l e rmX9_removeFirst s m args below meth c H locs (xQv G false sz o) (XA G false sz) 0 ls [] := by
  unfold F_X9_removeFirst at h
  obtain ⟨qv0, h⟩ := if_some h
  refine lv_aload_n X.1 X.2.1 dX9_removeFirst_0 rfl (lv_at hl 0 rfl) ?_
  refine x_getI X hW fd_Queue_used (fun w h => List.mem_cons_of_mem _ (gin_X9 w h)) (List.mem_cons_of_mem _ gw504) qv0 dX9_removeFirst_1 h (fun x1 h => ?_)
  refine x_if_le X (tgt := 30) dX9_removeFirst_4 (by decide) h (fun h => ?_) (fun h => ?_)
  · exact x_vret X hW h dX9_removeFirst_30
  · refine lv_aload_n X.1 X.2.1 dX9_removeFirst_7 rfl (lv_at hl 0 rfl) ?_
    refine lv_aload_n X.1 X.2.1 dX9_removeFirst_8 rfl (lv_at hl 0 rfl) ?_
    refine x_getI X hW fd_Queue_firstRow (fun w h => List.mem_cons_of_mem _ (gin_X9 w h)) (List.mem_cons_of_mem _ gw505) qv0 dX9_removeFirst_9 h (fun x2 h => ?_)
    refine lv_iconst (v := 1) X.1 X.2.1 dX9_removeFirst_12 rfl ?_
    refine lv_iadd X.1 X.2.1 dX9_removeFirst_13 ?_
    refine lv_bipush (v := 12) X.1 X.2.1 dX9_removeFirst_14 rfl ?_
    refine lv_irem X.1 X.2.1 dX9_removeFirst_16 (by decide) ?_
    refine x_putI X hW fd_Queue_firstRow (fun w h => List.mem_cons_of_mem _ (gin_X9 w h)) (List.mem_cons_of_mem _ gw505) qv0 dX9_removeFirst_17 tyX9 tyX9_ok nmX9 rfl rfl rfl h (fun S3 H locs h hW => ?_)
    refine lv_aload_n X.1 X.2.1 dX9_removeFirst_20 rfl (lv_at hl 0 rfl) ?_
    refine lv_dup X.1 X.2.1 dX9_removeFirst_21 rfl ?_
    refine x_getI X hW fd_Queue_used (fun w h => List.mem_cons_of_mem _ (gin_X9 w h)) (List.mem_cons_of_mem _ gw504) qv0 dX9_removeFirst_22 h (fun x4 h => ?_)
    refine lv_iconst (v := 1) X.1 X.2.1 dX9_removeFirst_25 rfl ?_
    refine lv_isub X.1 X.2.1 dX9_removeFirst_26 ?_
    refine x_putI X hW fd_Queue_used (fun w h => List.mem_cons_of_mem _ (gin_X9 w h)) (List.mem_cons_of_mem _ gw504) qv0 dX9_removeFirst_27 tyX9 tyX9_ok nmX9 rfl rfl rfl h (fun S5 H locs h hW => ?_)
    exact x_vret X hW h dX9_removeFirst_30
theorem c_X9_removeFirst (l : Launch) (G : xG) (hD : xD G false) (sz : Nat) (S : Mm) (v0 : Nat) (o : Unit × Mm) (h : F_X9_removeFirst v0 S = some o) : Met l yX9_removeFirst wsX9_removeFirst rmX9_removeFirst (xPre G false S sz [.ref (G.2.2 8 v0)]) (xQv G false sz o) 0 0 (XA G false sz) :=
  x_start hD (by decide) rfl (Nat.le_of_ble_eq_true rfl) (fun p e s m below meth c X hW ls hl => w_X9_removeFirst_0 X v0 hW hl h)

/-! WirelessCell$Sha.padKey([III)V -/
def rmX10_padKey : Room := { frames := 0, cells := 0, slots := 0, locals := 0 }
def L_X10_padKey_32 (k3 : Int32 → Mm → Option (Unit × Mm)) (cv1 : Nat) (v1 : Nat) (v2 : Int32) (v3 : Int32) (v4 : Int32) (s1 : Int32) (s2 : Int32) (S : Mm) : Option (Unit × Mm) :=
  stA S 49 0 256 1 s1 s2 fun S2 =>
  k3 (v4 + 1) S2
def L_X10_padKey_3  (cv1 : Nat) (v1 : Nat) (v2 : Int32) (v3 : Int32) : Nat → Int32 → Mm → Option (Unit × Mm)
  | 0, _, _ => none
  | n + 1, v4, S => 
    if 64 ≤ v4 then (
    some ((), S))
    else (
    if v2 ≤ v4 then (
    L_X10_padKey_32 (L_X10_padKey_3 cv1 v1 v2 v3 n) cv1 v1 v2 v3 v4 v4 v3 S)
    else (
    ldP false S cv1 v1 v4 fun x1 =>
    L_X10_padKey_32 (L_X10_padKey_3 cv1 v1 v2 v3 n) cv1 v1 v2 v3 v4 v4 (x1 ^^^ v3) S))
def F_X10_padKey (cv1 : Nat) (v1 : Nat) (v2 : Int32) (v3 : Int32) (S : Mm) : Option (Unit × Mm) :=
  L_X10_padKey_3  cv1 v1 v2 v3 fu 0 S
set_option maxRecDepth 100000 in
set_option maxHeartbeats 4000000 in
theorem w_X10_padKey_32 {p : Program} {l : Launch} {e : Env} {s : State} {m : MethodId} {args : Array Value} {below : List Frame} {meth : Method} {c : Code} {G : xG} {sz : Nat} {o : Unit × Mm} (X : xC G false sz p s m args c cX10_padKey 5 wsX10_padKey RX10 meth none) (cv1 : Nat) (v1 : Nat) (v2 : Int32) (v3 : Int32) (v4 : Int32) (s1 : Int32) (s2 : Int32)  (k3 : Int32 → Mm → Option (Unit × Mm)) (hk3 : ∀ (v4 : Int32) (S : Mm) (H : Heap) (locs : List Loc) (ls : Array Slot), k3 v4 S = some o → xW G false sz s H locs S → lv_has ls 5 [(0, .ref (G.2.2 9 0)), (1, .ref (G.2.2 cv1 v1)), (2, .int v2), (3, .int v3), (4, .int v4)] → wX p l e rmX10_padKey s m args below meth c H locs (xQv G false sz o) (XA G false sz) 3 ls []) {S : Mm} {H : Heap} {locs : List Loc} {ls : Array Slot} (hW : xW G false sz s H locs S) (hl : lv_has ls 5 [(0, .ref (G.2.2 9 0)), (1, .ref (G.2.2 cv1 v1)), (2, .int v2), (3, .int v3), (4, .int v4)]) (h : L_X10_padKey_32 k3 cv1 v1 v2 v3 v4 s1 s2 S = some o) : wX p l e rmX10_padKey s m args below meth c H locs (xQv G false sz o) (XA G false sz) 32 ls [.int s2, .int s1, .ref (G.2.2 49 0)] := by
  unfold L_X10_padKey_32 at h
  refine x_iast X hW ar_49 dX10_padKey_32 h (fun S2 H locs h hW => ?_)
  refine lv_iinc (v := (v4 + 1)) (lv' := [(4, .int (v4 + 1)), (0, .ref (G.2.2 9 0)), (1, .ref (G.2.2 cv1 v1)), (2, .int v2), (3, .int v3)]) X.1 X.2.1 dX10_padKey_33 hl (k := 4) rfl rfl (by decide) rfl (fun ls hl => ?_)
  refine lv_goto (tgt := 3) X.1 X.2.1 dX10_padKey_36 (by decide) ?_
  exact hk3 (v4 + 1) S2 _ _ _ h hW  (lv_sub hl [1, 2, 3, 4, 0] rfl)
set_option maxRecDepth 100000 in
set_option maxHeartbeats 4000000 in
theorem w_X10_padKey_3 {p : Program} {l : Launch} {e : Env} {s : State} {m : MethodId} {args : Array Value} {below : List Frame} {meth : Method} {c : Code} {G : xG} {sz : Nat} {o : Unit × Mm} (X : xC G false sz p s m args c cX10_padKey 5 wsX10_padKey RX10 meth none) (cv1 : Nat) (v1 : Nat) (v2 : Int32) (v3 : Int32)   : ∀ (n : Nat) (v4 : Int32) (S : Mm) (H : Heap) (locs : List Loc) (ls : Array Slot), L_X10_padKey_3 cv1 v1 v2 v3 n v4 S = some o → xW G false sz s H locs S → lv_has ls 5 [(0, .ref (G.2.2 9 0)), (1, .ref (G.2.2 cv1 v1)), (2, .int v2), (3, .int v3), (4, .int v4)] → wX p l e rmX10_padKey s m args below meth c H locs (xQv G false sz o) (XA G false sz) 3 ls [] := by
  intro n
  induction n with
  | zero =>
    intro v4 S H locs ls h
    cases h
  | succ n ih =>
    intro v4 S H locs ls h hW  hl
    rw [L_X10_padKey_3] at h
    refine lv_iload X.1 X.2.1 dX10_padKey_3 (lv_at hl 4 rfl) ?_
    refine lv_bipush (v := 64) X.1 X.2.1 dX10_padKey_5 rfl ?_
    refine x_icmp_ge X (tgt := 39) dX10_padKey_7 (by decide) h (fun h => ?_) (fun h => ?_)
    · exact x_vret X hW h dX10_padKey_39
    · refine lv_aload_n X.1 X.2.1 dX10_padKey_10 rfl (lv_at hl 0 rfl) ?_
      refine x_getR X hW fd_Sha_text (fun w h => List.mem_cons_of_mem _ (gin_X10 w h)) (List.mem_cons_of_mem _ gw82) z_1 dX10_padKey_11 ?_
      refine lv_iload X.1 X.2.1 dX10_padKey_14 (lv_at hl 4 rfl) ?_
      refine lv_iload X.1 X.2.1 dX10_padKey_16 (lv_at hl 4 rfl) ?_
      refine lv_iload_n X.1 X.2.1 dX10_padKey_18 rfl (lv_at hl 2 rfl) ?_
      refine x_icmp_ge X (tgt := 31) dX10_padKey_19 (by decide) h (fun h => ?_) (fun h => ?_)
      · refine lv_iload_n X.1 X.2.1 dX10_padKey_31 rfl (lv_at hl 3 rfl) ?_
        exact w_X10_padKey_32 X cv1 v1 v2 v3 v4 v4 v3  (L_X10_padKey_3 cv1 v1 v2 v3 n) ih hW (lv_sub hl [0, 1, 2, 3, 4] rfl) h
      · refine lv_aload_n X.1 X.2.1 dX10_padKey_22 rfl (lv_at hl 1 rfl) ?_
        refine lv_iload X.1 X.2.1 dX10_padKey_23 (lv_at hl 4 rfl) ?_
        refine x_ialdP X hW dX10_padKey_25 h (fun x1 h => ?_)
        refine lv_iload_n X.1 X.2.1 dX10_padKey_26 rfl (lv_at hl 3 rfl) ?_
        refine lv_ixor X.1 X.2.1 dX10_padKey_27 ?_
        refine lv_goto (tgt := 32) X.1 X.2.1 dX10_padKey_28 (by decide) ?_
        exact w_X10_padKey_32 X cv1 v1 v2 v3 v4 v4 (x1 ^^^ v3)  (L_X10_padKey_3 cv1 v1 v2 v3 n) ih hW (lv_sub hl [0, 1, 2, 3, 4] rfl) h
set_option maxRecDepth 100000 in
set_option maxHeartbeats 4000000 in
theorem w_X10_padKey_0 {p : Program} {l : Launch} {e : Env} {s : State} {m : MethodId} {args : Array Value} {below : List Frame} {meth : Method} {c : Code} {G : xG} {sz : Nat} {o : Unit × Mm} (X : xC G false sz p s m args c cX10_padKey 5 wsX10_padKey RX10 meth none) (cv1 : Nat) (v1 : Nat) (v2 : Int32) (v3 : Int32) {S : Mm} {H : Heap} {locs : List Loc} {ls : Array Slot} (hW : xW G false sz s H locs S) (hl : lv_has ls 5 [(0, .ref (G.2.2 9 0)), (1, .ref (G.2.2 cv1 v1)), (2, .int v2), (3, .int v3)]) (h : F_X10_padKey cv1 v1 v2 v3 S = some o) : wX p l e rmX10_padKey s m args below meth c H locs (xQv G false sz o) (XA G false sz) 0 ls [] := by
  unfold F_X10_padKey at h
  refine lv_iconst (v := 0) X.1 X.2.1 dX10_padKey_0 rfl ?_
  refine lv_istore (lv' := [(4, .int 0), (0, .ref (G.2.2 9 0)), (1, .ref (G.2.2 cv1 v1)), (2, .int v2), (3, .int v3)]) X.1 X.2.1 dX10_padKey_1 hl (by decide) rfl (fun ls hl => ?_)
  exact w_X10_padKey_3 X cv1 v1 v2 v3   fu 0 S _ _ _ h hW  (lv_sub hl [1, 2, 3, 4, 0] rfl)
theorem c_X10_padKey (l : Launch) (G : xG) (hD : xD G false) (sz : Nat) (S : Mm) (cv1 : Nat) (v1 : Nat) (v2 : Int32) (v3 : Int32) (o : Unit × Mm) (h : F_X10_padKey cv1 v1 v2 v3 S = some o) : Met l yX10_padKey wsX10_padKey rmX10_padKey (xPre G false S sz [.ref (G.2.2 9 0), .ref (G.2.2 cv1 v1), .int v2, .int v3]) (xQv G false sz o) 0 0 (XA G false sz) :=
  x_start hD (by decide) rfl (Nat.le_of_ble_eq_true rfl) (fun p e s m below meth c X hW ls hl => w_X10_padKey_0 X cv1 v1 v2 v3 hW hl h)

/-! WirelessCell$Sha.fillWords(I)V -/
def rmX10_fillWords : Room := { frames := 0, cells := 0, slots := 0, locals := 0 }
def L_X10_fillWords_71   : Nat → Int32 → Mm → Option (Unit × Mm)
  | 0, _, _ => none
  | n + 1, v2, S => 
    if 80 ≤ v2 then (
    some ((), S))
    else (
    ldA S 50 0 80 1 (v2 - 3) fun x7 =>
    ldA S 50 0 80 1 (v2 - 8) fun x8 =>
    ldA S 50 0 80 1 (v2 - 14) fun x9 =>
    ldA S 50 0 80 1 (v2 - 16) fun x10 =>
    tp (((x7 ^^^ x8) ^^^ x9) ^^^ x10) fun x11 =>
    stA S 50 0 80 1 v2 ((x11 <<< (1 &&& 31)) ||| (iu x11 31)) fun S12 =>
    (L_X10_fillWords_71  n) (v2 + 1) S12)
def L_X10_fillWords_2  (v1 : Int32) : Nat → Int32 → Mm → Option (Unit × Mm)
  | 0, _, _ => none
  | n + 1, v2, S => 
    if 16 ≤ v2 then (
    L_X10_fillWords_71   fu 16 S)
    else (
    tp (v1 + (4 * v2)) fun x1 =>
    ldA S 49 0 256 1 x1 fun x2 =>
    ldA S 49 0 256 1 (x1 + 1) fun x3 =>
    ldA S 49 0 256 1 (x1 + 2) fun x4 =>
    ldA S 49 0 256 1 (x1 + 3) fun x5 =>
    stA S 50 0 80 1 v2 ((((x2 <<< (24 &&& 31)) ||| (x3 <<< (16 &&& 31))) ||| (x4 <<< (8 &&& 31))) ||| x5) fun S6 =>
    (L_X10_fillWords_2 v1 n) (v2 + 1) S6)
def F_X10_fillWords (v1 : Int32) (S : Mm) : Option (Unit × Mm) :=
  L_X10_fillWords_2  v1 fu 0 S
set_option maxRecDepth 100000 in
set_option maxHeartbeats 4000000 in
theorem w_X10_fillWords_71 {p : Program} {l : Launch} {e : Env} {s : State} {m : MethodId} {args : Array Value} {below : List Frame} {meth : Method} {c : Code} {G : xG} {sz : Nat} {o : Unit × Mm} (X : xC G false sz p s m args c cX10_fillWords 4 wsX10_fillWords RX10 meth none)    : ∀ (n : Nat) (v2 : Int32) (S : Mm) (H : Heap) (locs : List Loc) (ls : Array Slot), L_X10_fillWords_71  n v2 S = some o → xW G false sz s H locs S → lv_has ls 4 [(0, .ref (G.2.2 9 0)), (2, .int v2)] → wX p l e rmX10_fillWords s m args below meth c H locs (xQv G false sz o) (XA G false sz) 71 ls [] := by
  intro n
  induction n with
  | zero =>
    intro v2 S H locs ls h
    cases h
  | succ n ih =>
    intro v2 S H locs ls h hW  hl
    rw [L_X10_fillWords_71] at h
    refine lv_iload_n X.1 X.2.1 dX10_fillWords_71 rfl (lv_at hl 1 rfl) ?_
    refine lv_bipush (v := 80) X.1 X.2.1 dX10_fillWords_72 rfl ?_
    refine x_icmp_ge X (tgt := 136) dX10_fillWords_74 (by decide) h (fun h => ?_) (fun h => ?_)
    · exact x_vret X hW h dX10_fillWords_136
    · refine lv_aload_n X.1 X.2.1 dX10_fillWords_77 rfl (lv_at hl 0 rfl) ?_
      refine x_getR X hW fd_Sha_words (fun w h => List.mem_cons_of_mem _ (gin_X10 w h)) (List.mem_cons_of_mem _ gw83) z_1 dX10_fillWords_78 ?_
      refine lv_iload_n X.1 X.2.1 dX10_fillWords_81 rfl (lv_at hl 1 rfl) ?_
      refine lv_iconst (v := 3) X.1 X.2.1 dX10_fillWords_82 rfl ?_
      refine lv_isub X.1 X.2.1 dX10_fillWords_83 ?_
      refine x_iald X hW ar_50 dX10_fillWords_84 h (fun x7 h => ?_)
      refine lv_aload_n X.1 X.2.1 dX10_fillWords_85 rfl (lv_at hl 0 rfl) ?_
      refine x_getR X hW fd_Sha_words (fun w h => List.mem_cons_of_mem _ (gin_X10 w h)) (List.mem_cons_of_mem _ gw83) z_1 dX10_fillWords_86 ?_
      refine lv_iload_n X.1 X.2.1 dX10_fillWords_89 rfl (lv_at hl 1 rfl) ?_
      refine lv_bipush (v := 8) X.1 X.2.1 dX10_fillWords_90 rfl ?_
      refine lv_isub X.1 X.2.1 dX10_fillWords_92 ?_
      refine x_iald X hW ar_50 dX10_fillWords_93 h (fun x8 h => ?_)
      refine lv_ixor X.1 X.2.1 dX10_fillWords_94 ?_
      refine lv_aload_n X.1 X.2.1 dX10_fillWords_95 rfl (lv_at hl 0 rfl) ?_
      refine x_getR X hW fd_Sha_words (fun w h => List.mem_cons_of_mem _ (gin_X10 w h)) (List.mem_cons_of_mem _ gw83) z_1 dX10_fillWords_96 ?_
      refine lv_iload_n X.1 X.2.1 dX10_fillWords_99 rfl (lv_at hl 1 rfl) ?_
      refine lv_bipush (v := 14) X.1 X.2.1 dX10_fillWords_100 rfl ?_
      refine lv_isub X.1 X.2.1 dX10_fillWords_102 ?_
      refine x_iald X hW ar_50 dX10_fillWords_103 h (fun x9 h => ?_)
      refine lv_ixor X.1 X.2.1 dX10_fillWords_104 ?_
      refine lv_aload_n X.1 X.2.1 dX10_fillWords_105 rfl (lv_at hl 0 rfl) ?_
      refine x_getR X hW fd_Sha_words (fun w h => List.mem_cons_of_mem _ (gin_X10 w h)) (List.mem_cons_of_mem _ gw83) z_1 dX10_fillWords_106 ?_
      refine lv_iload_n X.1 X.2.1 dX10_fillWords_109 rfl (lv_at hl 1 rfl) ?_
      refine lv_bipush (v := 16) X.1 X.2.1 dX10_fillWords_110 rfl ?_
      refine lv_isub X.1 X.2.1 dX10_fillWords_112 ?_
      refine x_iald X hW ar_50 dX10_fillWords_113 h (fun x10 h => ?_)
      refine lv_ixor X.1 X.2.1 dX10_fillWords_114 ?_
      refine x_top h (fun x11 h => ?_)
      refine lv_istore_n (lv' := [(3, .int x11), (0, .ref (G.2.2 9 0)), (2, .int v2)]) X.1 X.2.1 dX10_fillWords_115 rfl hl (by decide) rfl (fun ls hl => ?_)
      refine lv_aload_n X.1 X.2.1 dX10_fillWords_116 rfl (lv_at hl 1 rfl) ?_
      refine x_getR X hW fd_Sha_words (fun w h => List.mem_cons_of_mem _ (gin_X10 w h)) (List.mem_cons_of_mem _ gw83) z_1 dX10_fillWords_117 ?_
      refine lv_iload_n X.1 X.2.1 dX10_fillWords_120 rfl (lv_at hl 2 rfl) ?_
      refine lv_iload_n X.1 X.2.1 dX10_fillWords_121 rfl (lv_at hl 0 rfl) ?_
      refine lv_iconst (v := 1) X.1 X.2.1 dX10_fillWords_122 rfl ?_
      refine lv_ishl X.1 X.2.1 dX10_fillWords_123 ?_
      refine lv_iload_n X.1 X.2.1 dX10_fillWords_124 rfl (lv_at hl 0 rfl) ?_
      refine lv_bipush (v := 31) X.1 X.2.1 dX10_fillWords_125 rfl ?_
      refine lv_iushr (v := (iu x11 31)) X.1 X.2.1 dX10_fillWords_127 rfl ?_
      refine lv_ior X.1 X.2.1 dX10_fillWords_128 ?_
      refine x_iast X hW ar_50 dX10_fillWords_129 h (fun S12 H locs h hW => ?_)
      refine lv_iinc (v := (v2 + 1)) (lv' := [(2, .int (v2 + 1)), (3, .int x11), (0, .ref (G.2.2 9 0))]) X.1 X.2.1 dX10_fillWords_130 hl (k := 2) rfl rfl (by decide) rfl (fun ls hl => ?_)
      refine lv_goto (tgt := 71) X.1 X.2.1 dX10_fillWords_133 (by decide) ?_
      exact ih (v2 + 1) S12 _ _ _ h hW  (lv_sub hl [2, 0] rfl)
set_option maxRecDepth 100000 in
set_option maxHeartbeats 4000000 in
theorem w_X10_fillWords_2 {p : Program} {l : Launch} {e : Env} {s : State} {m : MethodId} {args : Array Value} {below : List Frame} {meth : Method} {c : Code} {G : xG} {sz : Nat} {o : Unit × Mm} (X : xC G false sz p s m args c cX10_fillWords 4 wsX10_fillWords RX10 meth none) (v1 : Int32)   : ∀ (n : Nat) (v2 : Int32) (S : Mm) (H : Heap) (locs : List Loc) (ls : Array Slot), L_X10_fillWords_2 v1 n v2 S = some o → xW G false sz s H locs S → lv_has ls 4 [(0, .ref (G.2.2 9 0)), (1, .int v1), (2, .int v2)] → wX p l e rmX10_fillWords s m args below meth c H locs (xQv G false sz o) (XA G false sz) 2 ls [] := by
  intro n
  induction n with
  | zero =>
    intro v2 S H locs ls h
    cases h
  | succ n ih =>
    intro v2 S H locs ls h hW  hl
    rw [L_X10_fillWords_2] at h
    refine lv_iload_n X.1 X.2.1 dX10_fillWords_2 rfl (lv_at hl 2 rfl) ?_
    refine lv_bipush (v := 16) X.1 X.2.1 dX10_fillWords_3 rfl ?_
    refine x_icmp_ge X (tgt := 68) dX10_fillWords_5 (by decide) h (fun h => ?_) (fun h => ?_)
    · refine lv_bipush (v := 16) X.1 X.2.1 dX10_fillWords_68 rfl ?_
      refine lv_istore_n (lv' := [(2, .int 16), (0, .ref (G.2.2 9 0)), (1, .int v1)]) X.1 X.2.1 dX10_fillWords_70 rfl hl (by decide) rfl (fun ls hl => ?_)
      exact w_X10_fillWords_71 X    fu 16 S _ _ _ h hW  (lv_sub hl [1, 0] rfl)
    · refine lv_iload_n X.1 X.2.1 dX10_fillWords_8 rfl (lv_at hl 1 rfl) ?_
      refine lv_iconst (v := 4) X.1 X.2.1 dX10_fillWords_9 rfl ?_
      refine lv_iload_n X.1 X.2.1 dX10_fillWords_10 rfl (lv_at hl 2 rfl) ?_
      refine lv_imul X.1 X.2.1 dX10_fillWords_11 ?_
      refine lv_iadd X.1 X.2.1 dX10_fillWords_12 ?_
      refine x_top h (fun x1 h => ?_)
      refine lv_istore_n (lv' := [(3, .int x1), (0, .ref (G.2.2 9 0)), (1, .int v1), (2, .int v2)]) X.1 X.2.1 dX10_fillWords_13 rfl hl (by decide) rfl (fun ls hl => ?_)
      refine lv_aload_n X.1 X.2.1 dX10_fillWords_14 rfl (lv_at hl 1 rfl) ?_
      refine x_getR X hW fd_Sha_words (fun w h => List.mem_cons_of_mem _ (gin_X10 w h)) (List.mem_cons_of_mem _ gw83) z_1 dX10_fillWords_15 ?_
      refine lv_iload_n X.1 X.2.1 dX10_fillWords_18 rfl (lv_at hl 3 rfl) ?_
      refine lv_aload_n X.1 X.2.1 dX10_fillWords_19 rfl (lv_at hl 1 rfl) ?_
      refine x_getR X hW fd_Sha_text (fun w h => List.mem_cons_of_mem _ (gin_X10 w h)) (List.mem_cons_of_mem _ gw82) z_1 dX10_fillWords_20 ?_
      refine lv_iload_n X.1 X.2.1 dX10_fillWords_23 rfl (lv_at hl 0 rfl) ?_
      refine x_iald X hW ar_49 dX10_fillWords_24 h (fun x2 h => ?_)
      refine lv_bipush (v := 24) X.1 X.2.1 dX10_fillWords_25 rfl ?_
      refine lv_ishl X.1 X.2.1 dX10_fillWords_27 ?_
      refine lv_aload_n X.1 X.2.1 dX10_fillWords_28 rfl (lv_at hl 1 rfl) ?_
      refine x_getR X hW fd_Sha_text (fun w h => List.mem_cons_of_mem _ (gin_X10 w h)) (List.mem_cons_of_mem _ gw82) z_1 dX10_fillWords_29 ?_
      refine lv_iload_n X.1 X.2.1 dX10_fillWords_32 rfl (lv_at hl 0 rfl) ?_
      refine lv_iconst (v := 1) X.1 X.2.1 dX10_fillWords_33 rfl ?_
      refine lv_iadd X.1 X.2.1 dX10_fillWords_34 ?_
      refine x_iald X hW ar_49 dX10_fillWords_35 h (fun x3 h => ?_)
      refine lv_bipush (v := 16) X.1 X.2.1 dX10_fillWords_36 rfl ?_
      refine lv_ishl X.1 X.2.1 dX10_fillWords_38 ?_
      refine lv_ior X.1 X.2.1 dX10_fillWords_39 ?_
      refine lv_aload_n X.1 X.2.1 dX10_fillWords_40 rfl (lv_at hl 1 rfl) ?_
      refine x_getR X hW fd_Sha_text (fun w h => List.mem_cons_of_mem _ (gin_X10 w h)) (List.mem_cons_of_mem _ gw82) z_1 dX10_fillWords_41 ?_
      refine lv_iload_n X.1 X.2.1 dX10_fillWords_44 rfl (lv_at hl 0 rfl) ?_
      refine lv_iconst (v := 2) X.1 X.2.1 dX10_fillWords_45 rfl ?_
      refine lv_iadd X.1 X.2.1 dX10_fillWords_46 ?_
      refine x_iald X hW ar_49 dX10_fillWords_47 h (fun x4 h => ?_)
      refine lv_bipush (v := 8) X.1 X.2.1 dX10_fillWords_48 rfl ?_
      refine lv_ishl X.1 X.2.1 dX10_fillWords_50 ?_
      refine lv_ior X.1 X.2.1 dX10_fillWords_51 ?_
      refine lv_aload_n X.1 X.2.1 dX10_fillWords_52 rfl (lv_at hl 1 rfl) ?_
      refine x_getR X hW fd_Sha_text (fun w h => List.mem_cons_of_mem _ (gin_X10 w h)) (List.mem_cons_of_mem _ gw82) z_1 dX10_fillWords_53 ?_
      refine lv_iload_n X.1 X.2.1 dX10_fillWords_56 rfl (lv_at hl 0 rfl) ?_
      refine lv_iconst (v := 3) X.1 X.2.1 dX10_fillWords_57 rfl ?_
      refine lv_iadd X.1 X.2.1 dX10_fillWords_58 ?_
      refine x_iald X hW ar_49 dX10_fillWords_59 h (fun x5 h => ?_)
      refine lv_ior X.1 X.2.1 dX10_fillWords_60 ?_
      refine x_iast X hW ar_50 dX10_fillWords_61 h (fun S6 H locs h hW => ?_)
      refine lv_iinc (v := (v2 + 1)) (lv' := [(2, .int (v2 + 1)), (3, .int x1), (0, .ref (G.2.2 9 0)), (1, .int v1)]) X.1 X.2.1 dX10_fillWords_62 hl (k := 3) rfl rfl (by decide) rfl (fun ls hl => ?_)
      refine lv_goto (tgt := 2) X.1 X.2.1 dX10_fillWords_65 (by decide) ?_
      exact ih (v2 + 1) S6 _ _ _ h hW  (lv_sub hl [2, 3, 0] rfl)
set_option maxRecDepth 100000 in
set_option maxHeartbeats 4000000 in
theorem w_X10_fillWords_0 {p : Program} {l : Launch} {e : Env} {s : State} {m : MethodId} {args : Array Value} {below : List Frame} {meth : Method} {c : Code} {G : xG} {sz : Nat} {o : Unit × Mm} (X : xC G false sz p s m args c cX10_fillWords 4 wsX10_fillWords RX10 meth none) (v1 : Int32) {S : Mm} {H : Heap} {locs : List Loc} {ls : Array Slot} (hW : xW G false sz s H locs S) (hl : lv_has ls 4 [(0, .ref (G.2.2 9 0)), (1, .int v1)]) (h : F_X10_fillWords v1 S = some o) : wX p l e rmX10_fillWords s m args below meth c H locs (xQv G false sz o) (XA G false sz) 0 ls [] := by
  unfold F_X10_fillWords at h
  refine lv_iconst (v := 0) X.1 X.2.1 dX10_fillWords_0 rfl ?_
  refine lv_istore_n (lv' := [(2, .int 0), (0, .ref (G.2.2 9 0)), (1, .int v1)]) X.1 X.2.1 dX10_fillWords_1 rfl hl (by decide) rfl (fun ls hl => ?_)
  exact w_X10_fillWords_2 X v1   fu 0 S _ _ _ h hW  (lv_sub hl [1, 2, 0] rfl)
theorem c_X10_fillWords (l : Launch) (G : xG) (hD : xD G false) (sz : Nat) (S : Mm) (v1 : Int32) (o : Unit × Mm) (h : F_X10_fillWords v1 S = some o) : Met l yX10_fillWords wsX10_fillWords rmX10_fillWords (xPre G false S sz [.ref (G.2.2 9 0), .int v1]) (xQv G false sz o) 0 0 (XA G false sz) :=
  x_start hD (by decide) rfl (Nat.le_of_ble_eq_true rfl) (fun p e s m below meth c X hW ls hl => w_X10_fillWords_0 X v1 hW hl h)

/-! WirelessCell$Sha.addWords()V -/
def rmX10_addWords : Room := { frames := 0, cells := 0, slots := 0, locals := 0 }
def L_X10_addWords_132 (k40 : Int32 → Int32 → Int32 → Int32 → Int32 → Int32 → Mm → Option (Unit × Mm)) (v1 : Int32) (v2 : Int32) (v3 : Int32) (v4 : Int32) (v5 : Int32) (v6 : Int32) (v7 : Int32) (S : Mm) : Option (Unit × Mm) :=
  ldA S 50 0 80 1 v6 fun x20 =>
  tp (((((v1 <<< (5 &&& 31)) ||| (iu v1 27)) + v5) + x20) + v7) fun x21 =>
  tp ((v2 <<< (30 &&& 31)) ||| (iu v2 2)) fun x22 =>
  k40 x21 v1 x22 v3 v4 (v6 + 1) S
def L_X10_addWords_40   : Nat → Int32 → Int32 → Int32 → Int32 → Int32 → Int32 → Mm → Option (Unit × Mm)
  | 0, _, _, _, _, _, _, _ => none
  | n + 1, v1, v2, v3, v4, v5, v6, S => 
    if 80 ≤ v6 then (
    ldA S 51 0 5 1 0 fun x6 =>
    stA S 51 0 5 1 0 (x6 + v1) fun S7 =>
    ldA S7 51 0 5 1 1 fun x8 =>
    stA S7 51 0 5 1 1 (x8 + v2) fun S9 =>
    ldA S9 51 0 5 1 2 fun x10 =>
    stA S9 51 0 5 1 2 (x10 + v3) fun S11 =>
    ldA S11 51 0 5 1 3 fun x12 =>
    stA S11 51 0 5 1 3 (x12 + v4) fun S13 =>
    ldA S13 51 0 5 1 4 fun x14 =>
    stA S13 51 0 5 1 4 (x14 + v5) fun S15 =>
    some ((), S15))
    else (
    if 20 ≤ v6 then (
    if 40 ≤ v6 then (
    if 60 ≤ v6 then (
    tp (((v2 ^^^ v3) ^^^ v4) + (-899497514)) fun x16 =>
    L_X10_addWords_132 (L_X10_addWords_40  n) v1 v2 v3 v4 v5 v6 x16 S)
    else (
    tp ((((v2 &&& v3) ||| (v2 &&& v4)) ||| (v3 &&& v4)) + (-1894007588)) fun x17 =>
    L_X10_addWords_132 (L_X10_addWords_40  n) v1 v2 v3 v4 v5 v6 x17 S))
    else (
    tp (((v2 ^^^ v3) ^^^ v4) + 1859775393) fun x18 =>
    L_X10_addWords_132 (L_X10_addWords_40  n) v1 v2 v3 v4 v5 v6 x18 S))
    else (
    tp (((v2 &&& v3) ||| ((v2 ^^^ (-1)) &&& v4)) + 1518500249) fun x19 =>
    L_X10_addWords_132 (L_X10_addWords_40  n) v1 v2 v3 v4 v5 v6 x19 S))
def F_X10_addWords  (S : Mm) : Option (Unit × Mm) :=
  ldA S 51 0 5 1 0 fun x1 =>
  ldA S 51 0 5 1 1 fun x2 =>
  ldA S 51 0 5 1 2 fun x3 =>
  ldA S 51 0 5 1 3 fun x4 =>
  ldA S 51 0 5 1 4 fun x5 =>
  L_X10_addWords_40   fu x1 x2 x3 x4 x5 0 S
set_option maxRecDepth 100000 in
set_option maxHeartbeats 4000000 in
theorem w_X10_addWords_132 {p : Program} {l : Launch} {e : Env} {s : State} {m : MethodId} {args : Array Value} {below : List Frame} {meth : Method} {c : Code} {G : xG} {sz : Nat} {o : Unit × Mm} (X : xC G false sz p s m args c cX10_addWords 9 wsX10_addWords RX10 meth none) (v1 : Int32) (v2 : Int32) (v3 : Int32) (v4 : Int32) (v5 : Int32) (v6 : Int32) (v7 : Int32)  (k40 : Int32 → Int32 → Int32 → Int32 → Int32 → Int32 → Mm → Option (Unit × Mm)) (hk40 : ∀ (v1 : Int32) (v2 : Int32) (v3 : Int32) (v4 : Int32) (v5 : Int32) (v6 : Int32) (S : Mm) (H : Heap) (locs : List Loc) (ls : Array Slot), k40 v1 v2 v3 v4 v5 v6 S = some o → xW G false sz s H locs S → lv_has ls 9 [(0, .ref (G.2.2 9 0)), (1, .int v1), (2, .int v2), (3, .int v3), (4, .int v4), (5, .int v5), (6, .int v6)] → wX p l e rmX10_addWords s m args below meth c H locs (xQv G false sz o) (XA G false sz) 40 ls []) {S : Mm} {H : Heap} {locs : List Loc} {ls : Array Slot} (hW : xW G false sz s H locs S) (hl : lv_has ls 9 [(0, .ref (G.2.2 9 0)), (1, .int v1), (2, .int v2), (3, .int v3), (4, .int v4), (5, .int v5), (6, .int v6), (7, .int v7)]) (h : L_X10_addWords_132 k40 v1 v2 v3 v4 v5 v6 v7 S = some o) : wX p l e rmX10_addWords s m args below meth c H locs (xQv G false sz o) (XA G false sz) 132 ls [] := by
  unfold L_X10_addWords_132 at h
  refine lv_iload_n X.1 X.2.1 dX10_addWords_132 rfl (lv_at hl 1 rfl) ?_
  refine lv_iconst (v := 5) X.1 X.2.1 dX10_addWords_133 rfl ?_
  refine lv_ishl X.1 X.2.1 dX10_addWords_134 ?_
  refine lv_iload_n X.1 X.2.1 dX10_addWords_135 rfl (lv_at hl 1 rfl) ?_
  refine lv_bipush (v := 27) X.1 X.2.1 dX10_addWords_136 rfl ?_
  refine lv_iushr (v := (iu v1 27)) X.1 X.2.1 dX10_addWords_138 rfl ?_
  refine lv_ior X.1 X.2.1 dX10_addWords_139 ?_
  refine lv_iload X.1 X.2.1 dX10_addWords_140 (lv_at hl 5 rfl) ?_
  refine lv_iadd X.1 X.2.1 dX10_addWords_142 ?_
  refine lv_aload_n X.1 X.2.1 dX10_addWords_143 rfl (lv_at hl 0 rfl) ?_
  refine x_getR X hW fd_Sha_words (fun w h => List.mem_cons_of_mem _ (gin_X10 w h)) (List.mem_cons_of_mem _ gw83) z_1 dX10_addWords_144 ?_
  refine lv_iload X.1 X.2.1 dX10_addWords_147 (lv_at hl 6 rfl) ?_
  refine x_iald X hW ar_50 dX10_addWords_149 h (fun x20 h => ?_)
  refine lv_iadd X.1 X.2.1 dX10_addWords_150 ?_
  refine lv_iload X.1 X.2.1 dX10_addWords_151 (lv_at hl 7 rfl) ?_
  refine lv_iadd X.1 X.2.1 dX10_addWords_153 ?_
  refine x_top h (fun x21 h => ?_)
  refine lv_istore (lv' := [(8, .int x21), (0, .ref (G.2.2 9 0)), (1, .int v1), (2, .int v2), (3, .int v3), (4, .int v4), (5, .int v5), (6, .int v6), (7, .int v7)]) X.1 X.2.1 dX10_addWords_154 hl (by decide) rfl (fun ls hl => ?_)
  refine lv_iload X.1 X.2.1 dX10_addWords_156 (lv_at hl 5 rfl) ?_
  refine lv_istore (lv' := [(5, .int v4), (8, .int x21), (0, .ref (G.2.2 9 0)), (1, .int v1), (2, .int v2), (3, .int v3), (4, .int v4), (6, .int v6), (7, .int v7)]) X.1 X.2.1 dX10_addWords_158 hl (by decide) rfl (fun ls hl => ?_)
  refine lv_iload_n X.1 X.2.1 dX10_addWords_160 rfl (lv_at hl 5 rfl) ?_
  refine lv_istore (lv' := [(4, .int v3), (5, .int v4), (8, .int x21), (0, .ref (G.2.2 9 0)), (1, .int v1), (2, .int v2), (3, .int v3), (6, .int v6), (7, .int v7)]) X.1 X.2.1 dX10_addWords_161 hl (by decide) rfl (fun ls hl => ?_)
  refine lv_iload_n X.1 X.2.1 dX10_addWords_163 rfl (lv_at hl 5 rfl) ?_
  refine lv_bipush (v := 30) X.1 X.2.1 dX10_addWords_164 rfl ?_
  refine lv_ishl X.1 X.2.1 dX10_addWords_166 ?_
  refine lv_iload_n X.1 X.2.1 dX10_addWords_167 rfl (lv_at hl 5 rfl) ?_
  refine lv_iconst (v := 2) X.1 X.2.1 dX10_addWords_168 rfl ?_
  refine lv_iushr (v := (iu v2 2)) X.1 X.2.1 dX10_addWords_169 rfl ?_
  refine lv_ior X.1 X.2.1 dX10_addWords_170 ?_
  refine x_top h (fun x22 h => ?_)
  refine lv_istore_n (lv' := [(3, .int x22), (4, .int v3), (5, .int v4), (8, .int x21), (0, .ref (G.2.2 9 0)), (1, .int v1), (2, .int v2), (6, .int v6), (7, .int v7)]) X.1 X.2.1 dX10_addWords_171 rfl hl (by decide) rfl (fun ls hl => ?_)
  refine lv_iload_n X.1 X.2.1 dX10_addWords_172 rfl (lv_at hl 5 rfl) ?_
  refine lv_istore_n (lv' := [(2, .int v1), (3, .int x22), (4, .int v3), (5, .int v4), (8, .int x21), (0, .ref (G.2.2 9 0)), (1, .int v1), (6, .int v6), (7, .int v7)]) X.1 X.2.1 dX10_addWords_173 rfl hl (by decide) rfl (fun ls hl => ?_)
  refine lv_iload X.1 X.2.1 dX10_addWords_174 (lv_at hl 4 rfl) ?_
  refine lv_istore_n (lv' := [(1, .int x21), (2, .int v1), (3, .int x22), (4, .int v3), (5, .int v4), (8, .int x21), (0, .ref (G.2.2 9 0)), (6, .int v6), (7, .int v7)]) X.1 X.2.1 dX10_addWords_176 rfl hl (by decide) rfl (fun ls hl => ?_)
  refine lv_iinc (v := (v6 + 1)) (lv' := [(6, .int (v6 + 1)), (1, .int x21), (2, .int v1), (3, .int x22), (4, .int v3), (5, .int v4), (8, .int x21), (0, .ref (G.2.2 9 0)), (7, .int v7)]) X.1 X.2.1 dX10_addWords_177 hl (k := 7) rfl rfl (by decide) rfl (fun ls hl => ?_)
  refine lv_goto (tgt := 40) X.1 X.2.1 dX10_addWords_180 (by decide) ?_
  exact hk40 x21 v1 x22 v3 v4 (v6 + 1) S _ _ _ h hW  (lv_sub hl [7, 1, 2, 3, 4, 5, 0] rfl)
set_option maxRecDepth 100000 in
set_option maxHeartbeats 4000000 in
theorem w_X10_addWords_40 {p : Program} {l : Launch} {e : Env} {s : State} {m : MethodId} {args : Array Value} {below : List Frame} {meth : Method} {c : Code} {G : xG} {sz : Nat} {o : Unit × Mm} (X : xC G false sz p s m args c cX10_addWords 9 wsX10_addWords RX10 meth none)    : ∀ (n : Nat) (v1 : Int32) (v2 : Int32) (v3 : Int32) (v4 : Int32) (v5 : Int32) (v6 : Int32) (S : Mm) (H : Heap) (locs : List Loc) (ls : Array Slot), L_X10_addWords_40  n v1 v2 v3 v4 v5 v6 S = some o → xW G false sz s H locs S → lv_has ls 9 [(0, .ref (G.2.2 9 0)), (1, .int v1), (2, .int v2), (3, .int v3), (4, .int v4), (5, .int v5), (6, .int v6)] → wX p l e rmX10_addWords s m args below meth c H locs (xQv G false sz o) (XA G false sz) 40 ls [] := by
  intro n
  induction n with
  | zero =>
    intro v1 v2 v3 v4 v5 v6 S H locs ls h
    cases h
  | succ n ih =>
    intro v1 v2 v3 v4 v5 v6 S H locs ls h hW  hl
    rw [L_X10_addWords_40] at h
    refine lv_iload X.1 X.2.1 dX10_addWords_40 (lv_at hl 6 rfl) ?_
    refine lv_bipush (v := 80) X.1 X.2.1 dX10_addWords_42 rfl ?_
    refine x_icmp_ge X (tgt := 183) dX10_addWords_44 (by decide) h (fun h => ?_) (fun h => ?_)
    · refine lv_aload_n X.1 X.2.1 dX10_addWords_183 rfl (lv_at hl 0 rfl) ?_
      refine x_getR X hW fd_Sha_state (fun w h => List.mem_cons_of_mem _ (gin_X10 w h)) (List.mem_cons_of_mem _ gw84) z_1 dX10_addWords_184 ?_
      refine lv_iconst (v := 0) X.1 X.2.1 dX10_addWords_187 rfl ?_
      refine lv_dup2_11 X.1 X.2.1 dX10_addWords_188 rfl rfl ?_
      refine x_iald X hW ar_51 dX10_addWords_189 h (fun x6 h => ?_)
      refine lv_iload_n X.1 X.2.1 dX10_addWords_190 rfl (lv_at hl 1 rfl) ?_
      refine lv_iadd X.1 X.2.1 dX10_addWords_191 ?_
      refine x_iast X hW ar_51 dX10_addWords_192 h (fun S7 H locs h hW => ?_)
      refine lv_aload_n X.1 X.2.1 dX10_addWords_193 rfl (lv_at hl 0 rfl) ?_
      refine x_getR X hW fd_Sha_state (fun w h => List.mem_cons_of_mem _ (gin_X10 w h)) (List.mem_cons_of_mem _ gw84) z_1 dX10_addWords_194 ?_
      refine lv_iconst (v := 1) X.1 X.2.1 dX10_addWords_197 rfl ?_
      refine lv_dup2_11 X.1 X.2.1 dX10_addWords_198 rfl rfl ?_
      refine x_iald X hW ar_51 dX10_addWords_199 h (fun x8 h => ?_)
      refine lv_iload_n X.1 X.2.1 dX10_addWords_200 rfl (lv_at hl 2 rfl) ?_
      refine lv_iadd X.1 X.2.1 dX10_addWords_201 ?_
      refine x_iast X hW ar_51 dX10_addWords_202 h (fun S9 H locs h hW => ?_)
      refine lv_aload_n X.1 X.2.1 dX10_addWords_203 rfl (lv_at hl 0 rfl) ?_
      refine x_getR X hW fd_Sha_state (fun w h => List.mem_cons_of_mem _ (gin_X10 w h)) (List.mem_cons_of_mem _ gw84) z_1 dX10_addWords_204 ?_
      refine lv_iconst (v := 2) X.1 X.2.1 dX10_addWords_207 rfl ?_
      refine lv_dup2_11 X.1 X.2.1 dX10_addWords_208 rfl rfl ?_
      refine x_iald X hW ar_51 dX10_addWords_209 h (fun x10 h => ?_)
      refine lv_iload_n X.1 X.2.1 dX10_addWords_210 rfl (lv_at hl 3 rfl) ?_
      refine lv_iadd X.1 X.2.1 dX10_addWords_211 ?_
      refine x_iast X hW ar_51 dX10_addWords_212 h (fun S11 H locs h hW => ?_)
      refine lv_aload_n X.1 X.2.1 dX10_addWords_213 rfl (lv_at hl 0 rfl) ?_
      refine x_getR X hW fd_Sha_state (fun w h => List.mem_cons_of_mem _ (gin_X10 w h)) (List.mem_cons_of_mem _ gw84) z_1 dX10_addWords_214 ?_
      refine lv_iconst (v := 3) X.1 X.2.1 dX10_addWords_217 rfl ?_
      refine lv_dup2_11 X.1 X.2.1 dX10_addWords_218 rfl rfl ?_
      refine x_iald X hW ar_51 dX10_addWords_219 h (fun x12 h => ?_)
      refine lv_iload X.1 X.2.1 dX10_addWords_220 (lv_at hl 4 rfl) ?_
      refine lv_iadd X.1 X.2.1 dX10_addWords_222 ?_
      refine x_iast X hW ar_51 dX10_addWords_223 h (fun S13 H locs h hW => ?_)
      refine lv_aload_n X.1 X.2.1 dX10_addWords_224 rfl (lv_at hl 0 rfl) ?_
      refine x_getR X hW fd_Sha_state (fun w h => List.mem_cons_of_mem _ (gin_X10 w h)) (List.mem_cons_of_mem _ gw84) z_1 dX10_addWords_225 ?_
      refine lv_iconst (v := 4) X.1 X.2.1 dX10_addWords_228 rfl ?_
      refine lv_dup2_11 X.1 X.2.1 dX10_addWords_229 rfl rfl ?_
      refine x_iald X hW ar_51 dX10_addWords_230 h (fun x14 h => ?_)
      refine lv_iload X.1 X.2.1 dX10_addWords_231 (lv_at hl 5 rfl) ?_
      refine lv_iadd X.1 X.2.1 dX10_addWords_233 ?_
      refine x_iast X hW ar_51 dX10_addWords_234 h (fun S15 H locs h hW => ?_)
      exact x_vret X hW h dX10_addWords_235
    · refine lv_iload X.1 X.2.1 dX10_addWords_47 (lv_at hl 6 rfl) ?_
      refine lv_bipush (v := 20) X.1 X.2.1 dX10_addWords_49 rfl ?_
      refine x_icmp_ge X (tgt := 72) dX10_addWords_51 (by decide) h (fun h => ?_) (fun h => ?_)
      · refine lv_iload X.1 X.2.1 dX10_addWords_72 (lv_at hl 6 rfl) ?_
        refine lv_bipush (v := 40) X.1 X.2.1 dX10_addWords_74 rfl ?_
        refine x_icmp_ge X (tgt := 93) dX10_addWords_76 (by decide) h (fun h => ?_) (fun h => ?_)
        · refine lv_iload X.1 X.2.1 dX10_addWords_93 (lv_at hl 6 rfl) ?_
          refine lv_bipush (v := 60) X.1 X.2.1 dX10_addWords_95 rfl ?_
          refine x_icmp_ge X (tgt := 121) dX10_addWords_97 (by decide) h (fun h => ?_) (fun h => ?_)
          · refine lv_iload_n X.1 X.2.1 dX10_addWords_121 rfl (lv_at hl 2 rfl) ?_
            refine lv_iload_n X.1 X.2.1 dX10_addWords_122 rfl (lv_at hl 3 rfl) ?_
            refine lv_ixor X.1 X.2.1 dX10_addWords_123 ?_
            refine lv_iload X.1 X.2.1 dX10_addWords_124 (lv_at hl 4 rfl) ?_
            refine lv_ixor X.1 X.2.1 dX10_addWords_126 ?_
            refine lv_ldc (v := (-899497514)) X.1 X.2.1 X.2.2.2.1 (X.2.2.2.2.1 _ (List.mem_cons_of_mem _ gw941)) dX10_addWords_127 ?_
            refine lv_iadd X.1 X.2.1 dX10_addWords_129 ?_
            refine x_top h (fun x16 h => ?_)
            refine lv_istore (lv' := [(7, .int x16), (0, .ref (G.2.2 9 0)), (1, .int v1), (2, .int v2), (3, .int v3), (4, .int v4), (5, .int v5), (6, .int v6)]) X.1 X.2.1 dX10_addWords_130 hl (by decide) rfl (fun ls hl => ?_)
            exact w_X10_addWords_132 X v1 v2 v3 v4 v5 v6 x16  (L_X10_addWords_40  n) ih hW (lv_sub hl [1, 2, 3, 4, 5, 6, 7, 0] rfl) h
          · refine lv_iload_n X.1 X.2.1 dX10_addWords_100 rfl (lv_at hl 2 rfl) ?_
            refine lv_iload_n X.1 X.2.1 dX10_addWords_101 rfl (lv_at hl 3 rfl) ?_
            refine lv_iand X.1 X.2.1 dX10_addWords_102 ?_
            refine lv_iload_n X.1 X.2.1 dX10_addWords_103 rfl (lv_at hl 2 rfl) ?_
            refine lv_iload X.1 X.2.1 dX10_addWords_104 (lv_at hl 4 rfl) ?_
            refine lv_iand X.1 X.2.1 dX10_addWords_106 ?_
            refine lv_ior X.1 X.2.1 dX10_addWords_107 ?_
            refine lv_iload_n X.1 X.2.1 dX10_addWords_108 rfl (lv_at hl 3 rfl) ?_
            refine lv_iload X.1 X.2.1 dX10_addWords_109 (lv_at hl 4 rfl) ?_
            refine lv_iand X.1 X.2.1 dX10_addWords_111 ?_
            refine lv_ior X.1 X.2.1 dX10_addWords_112 ?_
            refine lv_ldc (v := (-1894007588)) X.1 X.2.1 X.2.2.2.1 (X.2.2.2.2.1 _ (List.mem_cons_of_mem _ gw940)) dX10_addWords_113 ?_
            refine lv_iadd X.1 X.2.1 dX10_addWords_115 ?_
            refine x_top h (fun x17 h => ?_)
            refine lv_istore (lv' := [(7, .int x17), (0, .ref (G.2.2 9 0)), (1, .int v1), (2, .int v2), (3, .int v3), (4, .int v4), (5, .int v5), (6, .int v6)]) X.1 X.2.1 dX10_addWords_116 hl (by decide) rfl (fun ls hl => ?_)
            refine lv_goto (tgt := 132) X.1 X.2.1 dX10_addWords_118 (by decide) ?_
            exact w_X10_addWords_132 X v1 v2 v3 v4 v5 v6 x17  (L_X10_addWords_40  n) ih hW (lv_sub hl [1, 2, 3, 4, 5, 6, 7, 0] rfl) h
        · refine lv_iload_n X.1 X.2.1 dX10_addWords_79 rfl (lv_at hl 2 rfl) ?_
          refine lv_iload_n X.1 X.2.1 dX10_addWords_80 rfl (lv_at hl 3 rfl) ?_
          refine lv_ixor X.1 X.2.1 dX10_addWords_81 ?_
          refine lv_iload X.1 X.2.1 dX10_addWords_82 (lv_at hl 4 rfl) ?_
          refine lv_ixor X.1 X.2.1 dX10_addWords_84 ?_
          refine lv_ldc (v := 1859775393) X.1 X.2.1 X.2.2.2.1 (X.2.2.2.2.1 _ (List.mem_cons_of_mem _ gw939)) dX10_addWords_85 ?_
          refine lv_iadd X.1 X.2.1 dX10_addWords_87 ?_
          refine x_top h (fun x18 h => ?_)
          refine lv_istore (lv' := [(7, .int x18), (0, .ref (G.2.2 9 0)), (1, .int v1), (2, .int v2), (3, .int v3), (4, .int v4), (5, .int v5), (6, .int v6)]) X.1 X.2.1 dX10_addWords_88 hl (by decide) rfl (fun ls hl => ?_)
          refine lv_goto (tgt := 132) X.1 X.2.1 dX10_addWords_90 (by decide) ?_
          exact w_X10_addWords_132 X v1 v2 v3 v4 v5 v6 x18  (L_X10_addWords_40  n) ih hW (lv_sub hl [1, 2, 3, 4, 5, 6, 7, 0] rfl) h
      · refine lv_iload_n X.1 X.2.1 dX10_addWords_54 rfl (lv_at hl 2 rfl) ?_
        refine lv_iload_n X.1 X.2.1 dX10_addWords_55 rfl (lv_at hl 3 rfl) ?_
        refine lv_iand X.1 X.2.1 dX10_addWords_56 ?_
        refine lv_iload_n X.1 X.2.1 dX10_addWords_57 rfl (lv_at hl 2 rfl) ?_
        refine lv_iconst (v := (-1)) X.1 X.2.1 dX10_addWords_58 rfl ?_
        refine lv_ixor X.1 X.2.1 dX10_addWords_59 ?_
        refine lv_iload X.1 X.2.1 dX10_addWords_60 (lv_at hl 4 rfl) ?_
        refine lv_iand X.1 X.2.1 dX10_addWords_62 ?_
        refine lv_ior X.1 X.2.1 dX10_addWords_63 ?_
        refine lv_ldc (v := 1518500249) X.1 X.2.1 X.2.2.2.1 (X.2.2.2.2.1 _ (List.mem_cons_of_mem _ gw938)) dX10_addWords_64 ?_
        refine lv_iadd X.1 X.2.1 dX10_addWords_66 ?_
        refine x_top h (fun x19 h => ?_)
        refine lv_istore (lv' := [(7, .int x19), (0, .ref (G.2.2 9 0)), (1, .int v1), (2, .int v2), (3, .int v3), (4, .int v4), (5, .int v5), (6, .int v6)]) X.1 X.2.1 dX10_addWords_67 hl (by decide) rfl (fun ls hl => ?_)
        refine lv_goto (tgt := 132) X.1 X.2.1 dX10_addWords_69 (by decide) ?_
        exact w_X10_addWords_132 X v1 v2 v3 v4 v5 v6 x19  (L_X10_addWords_40  n) ih hW (lv_sub hl [1, 2, 3, 4, 5, 6, 7, 0] rfl) h
set_option maxRecDepth 100000 in
set_option maxHeartbeats 4000000 in
theorem w_X10_addWords_0 {p : Program} {l : Launch} {e : Env} {s : State} {m : MethodId} {args : Array Value} {below : List Frame} {meth : Method} {c : Code} {G : xG} {sz : Nat} {o : Unit × Mm} (X : xC G false sz p s m args c cX10_addWords 9 wsX10_addWords RX10 meth none)  {S : Mm} {H : Heap} {locs : List Loc} {ls : Array Slot} (hW : xW G false sz s H locs S) (hl : lv_has ls 9 [(0, .ref (G.2.2 9 0))]) (h : F_X10_addWords  S = some o) : wX p l e rmX10_addWords s m args below meth c H locs (xQv G false sz o) (XA G false sz) 0 ls [] := by
  unfold F_X10_addWords at h
  refine lv_aload_n X.1 X.2.1 dX10_addWords_0 rfl (lv_at hl 0 rfl) ?_
  refine x_getR X hW fd_Sha_state (fun w h => List.mem_cons_of_mem _ (gin_X10 w h)) (List.mem_cons_of_mem _ gw84) z_1 dX10_addWords_1 ?_
  refine lv_iconst (v := 0) X.1 X.2.1 dX10_addWords_4 rfl ?_
  refine x_iald X hW ar_51 dX10_addWords_5 h (fun x1 h => ?_)
  refine lv_istore_n (lv' := [(1, .int x1), (0, .ref (G.2.2 9 0))]) X.1 X.2.1 dX10_addWords_6 rfl hl (by decide) rfl (fun ls hl => ?_)
  refine lv_aload_n X.1 X.2.1 dX10_addWords_7 rfl (lv_at hl 1 rfl) ?_
  refine x_getR X hW fd_Sha_state (fun w h => List.mem_cons_of_mem _ (gin_X10 w h)) (List.mem_cons_of_mem _ gw84) z_1 dX10_addWords_8 ?_
  refine lv_iconst (v := 1) X.1 X.2.1 dX10_addWords_11 rfl ?_
  refine x_iald X hW ar_51 dX10_addWords_12 h (fun x2 h => ?_)
  refine lv_istore_n (lv' := [(2, .int x2), (1, .int x1), (0, .ref (G.2.2 9 0))]) X.1 X.2.1 dX10_addWords_13 rfl hl (by decide) rfl (fun ls hl => ?_)
  refine lv_aload_n X.1 X.2.1 dX10_addWords_14 rfl (lv_at hl 2 rfl) ?_
  refine x_getR X hW fd_Sha_state (fun w h => List.mem_cons_of_mem _ (gin_X10 w h)) (List.mem_cons_of_mem _ gw84) z_1 dX10_addWords_15 ?_
  refine lv_iconst (v := 2) X.1 X.2.1 dX10_addWords_18 rfl ?_
  refine x_iald X hW ar_51 dX10_addWords_19 h (fun x3 h => ?_)
  refine lv_istore_n (lv' := [(3, .int x3), (2, .int x2), (1, .int x1), (0, .ref (G.2.2 9 0))]) X.1 X.2.1 dX10_addWords_20 rfl hl (by decide) rfl (fun ls hl => ?_)
  refine lv_aload_n X.1 X.2.1 dX10_addWords_21 rfl (lv_at hl 3 rfl) ?_
  refine x_getR X hW fd_Sha_state (fun w h => List.mem_cons_of_mem _ (gin_X10 w h)) (List.mem_cons_of_mem _ gw84) z_1 dX10_addWords_22 ?_
  refine lv_iconst (v := 3) X.1 X.2.1 dX10_addWords_25 rfl ?_
  refine x_iald X hW ar_51 dX10_addWords_26 h (fun x4 h => ?_)
  refine lv_istore (lv' := [(4, .int x4), (3, .int x3), (2, .int x2), (1, .int x1), (0, .ref (G.2.2 9 0))]) X.1 X.2.1 dX10_addWords_27 hl (by decide) rfl (fun ls hl => ?_)
  refine lv_aload_n X.1 X.2.1 dX10_addWords_29 rfl (lv_at hl 4 rfl) ?_
  refine x_getR X hW fd_Sha_state (fun w h => List.mem_cons_of_mem _ (gin_X10 w h)) (List.mem_cons_of_mem _ gw84) z_1 dX10_addWords_30 ?_
  refine lv_iconst (v := 4) X.1 X.2.1 dX10_addWords_33 rfl ?_
  refine x_iald X hW ar_51 dX10_addWords_34 h (fun x5 h => ?_)
  refine lv_istore (lv' := [(5, .int x5), (4, .int x4), (3, .int x3), (2, .int x2), (1, .int x1), (0, .ref (G.2.2 9 0))]) X.1 X.2.1 dX10_addWords_35 hl (by decide) rfl (fun ls hl => ?_)
  refine lv_iconst (v := 0) X.1 X.2.1 dX10_addWords_37 rfl ?_
  refine lv_istore (lv' := [(6, .int 0), (5, .int x5), (4, .int x4), (3, .int x3), (2, .int x2), (1, .int x1), (0, .ref (G.2.2 9 0))]) X.1 X.2.1 dX10_addWords_38 hl (by decide) rfl (fun ls hl => ?_)
  exact w_X10_addWords_40 X    fu x1 x2 x3 x4 x5 0 S _ _ _ h hW  (lv_sub hl [6, 5, 4, 3, 2, 1, 0] rfl)
theorem c_X10_addWords (l : Launch) (G : xG) (hD : xD G false) (sz : Nat) (S : Mm)  (o : Unit × Mm) (h : F_X10_addWords  S = some o) : Met l yX10_addWords wsX10_addWords rmX10_addWords (xPre G false S sz [.ref (G.2.2 9 0)]) (xQv G false sz o) 0 0 (XA G false sz) :=
  x_start hD (by decide) rfl (Nat.le_of_ble_eq_true rfl) (fun p e s m below meth c X hW ls hl => w_X10_addWords_0 X  hW hl h)

/-! WirelessCell$Sha.hashText(I)V -/
def rmX10_hashText : Room := { frames := 2, cells := 0, slots := 0, locals := 46 }
def L_X10_hashText_124   : Nat → Int32 → Mm → Option (Unit × Mm)
  | 0, _, _ => none
  | n + 1, v4, S => 
    if 5 ≤ v4 then (
    some ((), S))
    else (
    ldA S 51 0 5 1 v4 fun x21 =>
    cl (F_X2_writeHighestFirst 46 0 (4 * v4) 4 (Int32.toInt64 x21) S) fun r22 S23 =>
    (L_X10_hashText_124  n) (v4 + 1) S23)
def L_X10_hashText_96  (v2 : Int32) : Nat → Int32 → Mm → Option (Unit × Mm)
  | 0, _, _ => none
  | n + 1, v4, S => 
    if v2 ≤ v4 then (
    L_X10_hashText_124   fu 0 S)
    else (
    cl (F_X10_fillWords (v4 * 64) S) fun r15 S16 =>
    cl (F_X10_addWords S16) fun r18 S19 =>
    (L_X10_hashText_96 v2 n) (v4 + 1) S19)
def F_X10_hashText (v1 : Int32) (S : Mm) : Option (Unit × Mm) :=
  tp (((v1 + 8) / 64) + 1) fun x1 =>
  tp (x1 * 64) fun x2 =>
  cl (F_J7_fill_fda19 49 0 v1 x2 0 S) fun r3 S4 =>
  stA S4 49 0 256 1 v1 128 fun S6 =>
  cl (F_X2_writeHighestFirst 49 0 (x2 - 8) 8 (8 * (Int32.toInt64 v1)) S6) fun r7 S8 =>
  stA S8 51 0 5 1 0 1732584193 fun S10 =>
  stA S10 51 0 5 1 1 (-271733879) fun S11 =>
  stA S11 51 0 5 1 2 (-1732584194) fun S12 =>
  stA S12 51 0 5 1 3 271733878 fun S13 =>
  stA S13 51 0 5 1 4 (-1009589776) fun S14 =>
  L_X10_hashText_96  x1 fu 0 S14
set_option maxRecDepth 100000 in
set_option maxHeartbeats 4000000 in
theorem w_X10_hashText_124 {p : Program} {l : Launch} {e : Env} {s : State} {m : MethodId} {args : Array Value} {below : List Frame} {meth : Method} {c : Code} {G : xG} {sz : Nat} {o : Unit × Mm} (X : xC G false sz p s m args c cX10_hashText 5 wsX10_hashText RX10 meth none)    : ∀ (n : Nat) (v4 : Int32) (S : Mm) (H : Heap) (locs : List Loc) (ls : Array Slot), L_X10_hashText_124  n v4 S = some o → xW G false sz s H locs S → lv_has ls 5 [(0, .ref (G.2.2 9 0)), (4, .int v4)] → wX p l e rmX10_hashText s m args below meth c H locs (xQv G false sz o) (XA G false sz) 124 ls [] := by
  intro n
  induction n with
  | zero =>
    intro v4 S H locs ls h
    cases h
  | succ n ih =>
    intro v4 S H locs ls h hW  hl
    rw [L_X10_hashText_124] at h
    refine lv_iload X.1 X.2.1 dX10_hashText_124 (lv_at hl 1 rfl) ?_
    refine lv_iconst (v := 5) X.1 X.2.1 dX10_hashText_126 rfl ?_
    refine x_icmp_ge X (tgt := 156) dX10_hashText_127 (by decide) h (fun h => ?_) (fun h => ?_)
    · exact x_vret X hW h dX10_hashText_156
    · refine lv_aload_n X.1 X.2.1 dX10_hashText_130 rfl (lv_at hl 0 rfl) ?_
      refine x_getR X hW fd_Sha_digest (fun w h => List.mem_cons_of_mem _ (gin_X10 w h)) (List.mem_cons_of_mem _ gw79) z_1 dX10_hashText_131 ?_
      refine lv_iconst (v := 4) X.1 X.2.1 dX10_hashText_134 rfl ?_
      refine lv_iload X.1 X.2.1 dX10_hashText_135 (lv_at hl 1 rfl) ?_
      refine lv_imul X.1 X.2.1 dX10_hashText_137 ?_
      refine lv_iconst (v := 4) X.1 X.2.1 dX10_hashText_138 rfl ?_
      refine lv_aload_n X.1 X.2.1 dX10_hashText_139 rfl (lv_at hl 0 rfl) ?_
      refine x_getR X hW fd_Sha_state (fun w h => List.mem_cons_of_mem _ (gin_X10 w h)) (List.mem_cons_of_mem _ gw84) z_1 dX10_hashText_140 ?_
      refine lv_iload X.1 X.2.1 dX10_hashText_143 (lv_at hl 1 rfl) ?_
      refine x_iald X hW ar_51 dX10_hashText_145 h (fun x21 h => ?_)
      refine lv_i2l (v := (Int32.toInt64 x21)) X.1 X.2.1 dX10_hashText_146 rfl ?_
      obtain ⟨r22, S23, h24, h⟩ := cl_some h
      refine x_aftV X hW (x_runS (As := [.ref (G.2.2 46 0), .int (4 * v4), .int 4, .long (Int32.toInt64 x21)]) (rest := []) X hW (c_X2_writeHighestFirst l G X.2.2.2.2.2.2.2.2.2.1 _ S 46 0 (4 * v4) 4 (Int32.toInt64 x21) _ h24) (va_cwS 4 X.2.2.2.2.1 (gS gw929 gw266 gw267 gw268) rfl rfl rfl hd_X2_writeHighestFirst ⟨Nat.le_of_ble_eq_true rfl, Nat.le_of_ble_eq_true rfl⟩) rfl hl.1 rfl (Nat.le_of_ble_eq_true rfl) dX10_hashText_147 ⟨Nat.zero_le _, Nat.zero_le _⟩) (fun H locs hW => ?_)
      refine lv_iinc (v := (v4 + 1)) (lv' := [(4, .int (v4 + 1)), (0, .ref (G.2.2 9 0))]) X.1 X.2.1 dX10_hashText_150 hl (k := 1) rfl rfl (by decide) rfl (fun ls hl => ?_)
      refine lv_goto (tgt := 124) X.1 X.2.1 dX10_hashText_153 (by decide) ?_
      exact ih (v4 + 1) S23 _ _ _ h hW  (lv_sub hl [1, 0] rfl)
set_option maxRecDepth 100000 in
set_option maxHeartbeats 4000000 in
theorem w_X10_hashText_96 {p : Program} {l : Launch} {e : Env} {s : State} {m : MethodId} {args : Array Value} {below : List Frame} {meth : Method} {c : Code} {G : xG} {sz : Nat} {o : Unit × Mm} (X : xC G false sz p s m args c cX10_hashText 5 wsX10_hashText RX10 meth none) (v2 : Int32)   : ∀ (n : Nat) (v4 : Int32) (S : Mm) (H : Heap) (locs : List Loc) (ls : Array Slot), L_X10_hashText_96 v2 n v4 S = some o → xW G false sz s H locs S → lv_has ls 5 [(0, .ref (G.2.2 9 0)), (2, .int v2), (4, .int v4)] → wX p l e rmX10_hashText s m args below meth c H locs (xQv G false sz o) (XA G false sz) 96 ls [] := by
  intro n
  induction n with
  | zero =>
    intro v4 S H locs ls h
    cases h
  | succ n ih =>
    intro v4 S H locs ls h hW  hl
    rw [L_X10_hashText_96] at h
    refine lv_iload X.1 X.2.1 dX10_hashText_96 (lv_at hl 2 rfl) ?_
    refine lv_iload_n X.1 X.2.1 dX10_hashText_98 rfl (lv_at hl 1 rfl) ?_
    refine x_icmp_ge X (tgt := 121) dX10_hashText_99 (by decide) h (fun h => ?_) (fun h => ?_)
    · refine lv_iconst (v := 0) X.1 X.2.1 dX10_hashText_121 rfl ?_
      refine lv_istore (lv' := [(4, .int 0), (0, .ref (G.2.2 9 0)), (2, .int v2)]) X.1 X.2.1 dX10_hashText_122 hl (by decide) rfl (fun ls hl => ?_)
      exact w_X10_hashText_124 X    fu 0 S _ _ _ h hW  (lv_sub hl [1, 0] rfl)
    · refine lv_aload_n X.1 X.2.1 dX10_hashText_102 rfl (lv_at hl 0 rfl) ?_
      refine lv_iload X.1 X.2.1 dX10_hashText_103 (lv_at hl 2 rfl) ?_
      refine lv_bipush (v := 64) X.1 X.2.1 dX10_hashText_105 rfl ?_
      refine lv_imul X.1 X.2.1 dX10_hashText_107 ?_
      obtain ⟨r15, S16, h17, h⟩ := cl_some h
      refine x_aftV X hW (x_runV (C := RX10) (a := G.2.2 9 0) (As := [.int (v4 * 64)]) (rest := []) X hW (c_X10_fillWords l G X.2.2.2.2.2.2.2.2.2.1 _ S (v4 * 64) _ h17) (cwV 1 X.2.2.2.2.1 (gV gw930 gw931 gw932 gw32 gw933) rfl rfl rfl ⟨rfl, hd_X10_fillWords⟩ ⟨Nat.le_of_ble_eq_true rfl, Nat.le_of_ble_eq_true rfl⟩) (x_recv X hW ob_Sha z_1) rfl hl.1 rfl (Nat.le_of_ble_eq_true rfl) dX10_hashText_108 ⟨Nat.zero_le _, Nat.zero_le _⟩) (fun H locs hW => ?_)
      refine lv_aload_n X.1 X.2.1 dX10_hashText_111 rfl (lv_at hl 0 rfl) ?_
      obtain ⟨r18, S19, h20, h⟩ := cl_some h
      refine x_aftV X hW (x_runV (C := RX10) (a := G.2.2 9 0) (As := []) (rest := []) X hW (c_X10_addWords l G X.2.2.2.2.2.2.2.2.2.1 _ S16 _ h20) (cwV 0 X.2.2.2.2.1 (gV gw934 gw935 gw936 gw32 gw937) rfl rfl rfl ⟨rfl, hd_X10_addWords⟩ ⟨Nat.le_of_ble_eq_true rfl, Nat.le_of_ble_eq_true rfl⟩) (x_recv X hW ob_Sha z_1) rfl hl.1 rfl (Nat.le_of_ble_eq_true rfl) dX10_hashText_112 ⟨Nat.zero_le _, Nat.zero_le _⟩) (fun H locs hW => ?_)
      refine lv_iinc (v := (v4 + 1)) (lv' := [(4, .int (v4 + 1)), (0, .ref (G.2.2 9 0)), (2, .int v2)]) X.1 X.2.1 dX10_hashText_115 hl (k := 2) rfl rfl (by decide) rfl (fun ls hl => ?_)
      refine lv_goto (tgt := 96) X.1 X.2.1 dX10_hashText_118 (by decide) ?_
      exact ih (v4 + 1) S19 _ _ _ h hW  (lv_sub hl [1, 2, 0] rfl)
set_option maxRecDepth 100000 in
set_option maxHeartbeats 4000000 in
theorem w_X10_hashText_0 {p : Program} {l : Launch} {e : Env} {s : State} {m : MethodId} {args : Array Value} {below : List Frame} {meth : Method} {c : Code} {G : xG} {sz : Nat} {o : Unit × Mm} (X : xC G false sz p s m args c cX10_hashText 5 wsX10_hashText RX10 meth none) (v1 : Int32) {S : Mm} {H : Heap} {locs : List Loc} {ls : Array Slot} (hW : xW G false sz s H locs S) (hl : lv_has ls 5 [(0, .ref (G.2.2 9 0)), (1, .int v1)]) (h : F_X10_hashText v1 S = some o) : wX p l e rmX10_hashText s m args below meth c H locs (xQv G false sz o) (XA G false sz) 0 ls [] := by
  unfold F_X10_hashText at h
  refine lv_iload_n X.1 X.2.1 dX10_hashText_0 rfl (lv_at hl 1 rfl) ?_
  refine lv_bipush (v := 8) X.1 X.2.1 dX10_hashText_1 rfl ?_
  refine lv_iadd X.1 X.2.1 dX10_hashText_3 ?_
  refine lv_bipush (v := 64) X.1 X.2.1 dX10_hashText_4 rfl ?_
  refine lv_idiv X.1 X.2.1 dX10_hashText_6 (by decide) ?_
  refine lv_iconst (v := 1) X.1 X.2.1 dX10_hashText_7 rfl ?_
  refine lv_iadd X.1 X.2.1 dX10_hashText_8 ?_
  refine x_top h (fun x1 h => ?_)
  refine lv_istore_n (lv' := [(2, .int x1), (0, .ref (G.2.2 9 0)), (1, .int v1)]) X.1 X.2.1 dX10_hashText_9 rfl hl (by decide) rfl (fun ls hl => ?_)
  refine lv_iload_n X.1 X.2.1 dX10_hashText_10 rfl (lv_at hl 0 rfl) ?_
  refine lv_bipush (v := 64) X.1 X.2.1 dX10_hashText_11 rfl ?_
  refine lv_imul X.1 X.2.1 dX10_hashText_13 ?_
  refine x_top h (fun x2 h => ?_)
  refine lv_istore_n (lv' := [(3, .int x2), (2, .int x1), (0, .ref (G.2.2 9 0)), (1, .int v1)]) X.1 X.2.1 dX10_hashText_14 rfl hl (by decide) rfl (fun ls hl => ?_)
  refine lv_aload_n X.1 X.2.1 dX10_hashText_15 rfl (lv_at hl 2 rfl) ?_
  refine x_getR X hW fd_Sha_text (fun w h => List.mem_cons_of_mem _ (gin_X10 w h)) (List.mem_cons_of_mem _ gw82) z_1 dX10_hashText_16 ?_
  refine lv_iload_n X.1 X.2.1 dX10_hashText_19 rfl (lv_at hl 3 rfl) ?_
  refine lv_iload_n X.1 X.2.1 dX10_hashText_20 rfl (lv_at hl 0 rfl) ?_
  refine lv_iconst (v := 0) X.1 X.2.1 dX10_hashText_21 rfl ?_
  obtain ⟨r3, S4, h5, h⟩ := cl_some h
  refine x_aftV X hW (x_runS (As := [.ref (G.2.2 49 0), .int v1, .int x2, .int 0]) (rest := []) X hW (c_J7_fill_fda19 l G X.2.2.2.2.2.2.2.2.2.1 _ S 49 0 v1 x2 0 _ h5) (va_cwS 4 X.2.2.2.2.1 (gS gw928 gw516 gw135 gw517) rfl rfl rfl hd_J7_fill_fda19 ⟨Nat.le_of_ble_eq_true rfl, Nat.le_of_ble_eq_true rfl⟩) rfl hl.1 rfl (Nat.le_of_ble_eq_true rfl) dX10_hashText_22 ⟨Nat.zero_le _, Nat.zero_le _⟩) (fun H locs hW => ?_)
  refine lv_aload_n X.1 X.2.1 dX10_hashText_25 rfl (lv_at hl 2 rfl) ?_
  refine x_getR X hW fd_Sha_text (fun w h => List.mem_cons_of_mem _ (gin_X10 w h)) (List.mem_cons_of_mem _ gw82) z_1 dX10_hashText_26 ?_
  refine lv_iload_n X.1 X.2.1 dX10_hashText_29 rfl (lv_at hl 3 rfl) ?_
  refine lv_sipush (v := 128) X.1 X.2.1 dX10_hashText_30 rfl ?_
  refine x_iast X hW ar_49 dX10_hashText_33 h (fun S6 H locs h hW => ?_)
  refine lv_aload_n X.1 X.2.1 dX10_hashText_34 rfl (lv_at hl 2 rfl) ?_
  refine x_getR X hW fd_Sha_text (fun w h => List.mem_cons_of_mem _ (gin_X10 w h)) (List.mem_cons_of_mem _ gw82) z_1 dX10_hashText_35 ?_
  refine lv_iload_n X.1 X.2.1 dX10_hashText_38 rfl (lv_at hl 0 rfl) ?_
  refine lv_bipush (v := 8) X.1 X.2.1 dX10_hashText_39 rfl ?_
  refine lv_isub X.1 X.2.1 dX10_hashText_41 ?_
  refine lv_bipush (v := 8) X.1 X.2.1 dX10_hashText_42 rfl ?_
  refine lv_ldc2 (v := 8) X.1 X.2.1 X.2.2.2.1 (X.2.2.2.2.1 _ (List.mem_cons_of_mem _ gw922)) dX10_hashText_44 ?_
  refine lv_iload_n X.1 X.2.1 dX10_hashText_47 rfl (lv_at hl 3 rfl) ?_
  refine lv_i2l (v := (Int32.toInt64 v1)) X.1 X.2.1 dX10_hashText_48 rfl ?_
  refine lv_lmul X.1 X.2.1 dX10_hashText_49 ?_
  obtain ⟨r7, S8, h9, h⟩ := cl_some h
  refine x_aftV X hW (x_runS (As := [.ref (G.2.2 49 0), .int (x2 - 8), .int 8, .long (8 * (Int32.toInt64 v1))]) (rest := []) X hW (c_X2_writeHighestFirst l G X.2.2.2.2.2.2.2.2.2.1 _ S6 49 0 (x2 - 8) 8 (8 * (Int32.toInt64 v1)) _ h9) (va_cwS 4 X.2.2.2.2.1 (gS gw929 gw266 gw267 gw268) rfl rfl rfl hd_X2_writeHighestFirst ⟨Nat.le_of_ble_eq_true rfl, Nat.le_of_ble_eq_true rfl⟩) rfl hl.1 rfl (Nat.le_of_ble_eq_true rfl) dX10_hashText_50 ⟨Nat.zero_le _, Nat.zero_le _⟩) (fun H locs hW => ?_)
  refine lv_aload_n X.1 X.2.1 dX10_hashText_53 rfl (lv_at hl 2 rfl) ?_
  refine x_getR X hW fd_Sha_state (fun w h => List.mem_cons_of_mem _ (gin_X10 w h)) (List.mem_cons_of_mem _ gw84) z_1 dX10_hashText_54 ?_
  refine lv_iconst (v := 0) X.1 X.2.1 dX10_hashText_57 rfl ?_
  refine lv_ldc (v := 1732584193) X.1 X.2.1 X.2.2.2.1 (X.2.2.2.2.1 _ (List.mem_cons_of_mem _ gw923)) dX10_hashText_58 ?_
  refine x_iast X hW ar_51 dX10_hashText_60 h (fun S10 H locs h hW => ?_)
  refine lv_aload_n X.1 X.2.1 dX10_hashText_61 rfl (lv_at hl 2 rfl) ?_
  refine x_getR X hW fd_Sha_state (fun w h => List.mem_cons_of_mem _ (gin_X10 w h)) (List.mem_cons_of_mem _ gw84) z_1 dX10_hashText_62 ?_
  refine lv_iconst (v := 1) X.1 X.2.1 dX10_hashText_65 rfl ?_
  refine lv_ldc (v := (-271733879)) X.1 X.2.1 X.2.2.2.1 (X.2.2.2.2.1 _ (List.mem_cons_of_mem _ gw924)) dX10_hashText_66 ?_
  refine x_iast X hW ar_51 dX10_hashText_68 h (fun S11 H locs h hW => ?_)
  refine lv_aload_n X.1 X.2.1 dX10_hashText_69 rfl (lv_at hl 2 rfl) ?_
  refine x_getR X hW fd_Sha_state (fun w h => List.mem_cons_of_mem _ (gin_X10 w h)) (List.mem_cons_of_mem _ gw84) z_1 dX10_hashText_70 ?_
  refine lv_iconst (v := 2) X.1 X.2.1 dX10_hashText_73 rfl ?_
  refine lv_ldc (v := (-1732584194)) X.1 X.2.1 X.2.2.2.1 (X.2.2.2.2.1 _ (List.mem_cons_of_mem _ gw925)) dX10_hashText_74 ?_
  refine x_iast X hW ar_51 dX10_hashText_76 h (fun S12 H locs h hW => ?_)
  refine lv_aload_n X.1 X.2.1 dX10_hashText_77 rfl (lv_at hl 2 rfl) ?_
  refine x_getR X hW fd_Sha_state (fun w h => List.mem_cons_of_mem _ (gin_X10 w h)) (List.mem_cons_of_mem _ gw84) z_1 dX10_hashText_78 ?_
  refine lv_iconst (v := 3) X.1 X.2.1 dX10_hashText_81 rfl ?_
  refine lv_ldc (v := 271733878) X.1 X.2.1 X.2.2.2.1 (X.2.2.2.2.1 _ (List.mem_cons_of_mem _ gw926)) dX10_hashText_82 ?_
  refine x_iast X hW ar_51 dX10_hashText_84 h (fun S13 H locs h hW => ?_)
  refine lv_aload_n X.1 X.2.1 dX10_hashText_85 rfl (lv_at hl 2 rfl) ?_
  refine x_getR X hW fd_Sha_state (fun w h => List.mem_cons_of_mem _ (gin_X10 w h)) (List.mem_cons_of_mem _ gw84) z_1 dX10_hashText_86 ?_
  refine lv_iconst (v := 4) X.1 X.2.1 dX10_hashText_89 rfl ?_
  refine lv_ldc (v := (-1009589776)) X.1 X.2.1 X.2.2.2.1 (X.2.2.2.2.1 _ (List.mem_cons_of_mem _ gw927)) dX10_hashText_90 ?_
  refine x_iast X hW ar_51 dX10_hashText_92 h (fun S14 H locs h hW => ?_)
  refine lv_iconst (v := 0) X.1 X.2.1 dX10_hashText_93 rfl ?_
  refine lv_istore (lv' := [(4, .int 0), (3, .int x2), (2, .int x1), (0, .ref (G.2.2 9 0)), (1, .int v1)]) X.1 X.2.1 dX10_hashText_94 hl (by decide) rfl (fun ls hl => ?_)
  exact w_X10_hashText_96 X x1   fu 0 S14 _ _ _ h hW  (lv_sub hl [3, 2, 0] rfl)
theorem c_X10_hashText (l : Launch) (G : xG) (hD : xD G false) (sz : Nat) (S : Mm) (v1 : Int32) (o : Unit × Mm) (h : F_X10_hashText v1 S = some o) : Met l yX10_hashText wsX10_hashText rmX10_hashText (xPre G false S sz [.ref (G.2.2 9 0), .int v1]) (xQv G false sz o) 0 0 (XA G false sz) :=
  x_start hD (by decide) rfl (Nat.le_of_ble_eq_true rfl) (fun p e s m below meth c X hW ls hl => w_X10_hashText_0 X v1 hW hl h)

/-! WirelessCell$Sha.hashKeyed([II[III)V -/
def rmX10_hashKeyed : Room := { frames := 3, cells := 0, slots := 0, locals := 70 }
def F_X10_hashKeyed (cv1 : Nat) (v1 : Nat) (v2 : Int32) (cv3 : Nat) (v3 : Nat) (v4 : Int32) (v5 : Int32) (S : Mm) : Option (Unit × Mm) :=
  cl (F_X10_padKey cv1 v1 v2 54 S) fun r1 S2 =>
  cpP false S2 cv3 v3 v4 49 0 64 v5 fun S4 =>
  cl (F_X10_hashText (64 + v5) S4) fun r5 S6 =>
  cl (F_X10_padKey cv1 v1 v2 92 S6) fun r8 S9 =>
  cpP false S9 46 0 0 49 0 64 20 fun S11 =>
  cl (F_X10_hashText 84 S11) fun r12 S13 =>
  some ((), S13)
set_option maxRecDepth 100000 in
set_option maxHeartbeats 4000000 in
theorem w_X10_hashKeyed_0 {p : Program} {l : Launch} {e : Env} {s : State} {m : MethodId} {args : Array Value} {below : List Frame} {meth : Method} {c : Code} {G : xG} {sz : Nat} {o : Unit × Mm} (X : xC G false sz p s m args c cX10_hashKeyed 6 wsX10_hashKeyed RX10 meth none) (cv1 : Nat) (v1 : Nat) (v2 : Int32) (cv3 : Nat) (v3 : Nat) (v4 : Int32) (v5 : Int32) {S : Mm} {H : Heap} {locs : List Loc} {ls : Array Slot} (hW : xW G false sz s H locs S) (hl : lv_has ls 6 [(0, .ref (G.2.2 9 0)), (1, .ref (G.2.2 cv1 v1)), (2, .int v2), (3, .ref (G.2.2 cv3 v3)), (4, .int v4), (5, .int v5)]) (h : F_X10_hashKeyed cv1 v1 v2 cv3 v3 v4 v5 S = some o) : wX p l e rmX10_hashKeyed s m args below meth c H locs (xQv G false sz o) (XA G false sz) 0 ls [] := by
  unfold F_X10_hashKeyed at h
  refine lv_aload_n X.1 X.2.1 dX10_hashKeyed_0 rfl (lv_at hl 0 rfl) ?_
  refine lv_aload_n X.1 X.2.1 dX10_hashKeyed_1 rfl (lv_at hl 1 rfl) ?_
  refine lv_iload_n X.1 X.2.1 dX10_hashKeyed_2 rfl (lv_at hl 2 rfl) ?_
  refine lv_bipush (v := 54) X.1 X.2.1 dX10_hashKeyed_3 rfl ?_
  obtain ⟨r1, S2, h3, h⟩ := cl_some h
  refine x_aftV X hW (x_runV (C := RX10) (a := G.2.2 9 0) (As := [.ref (G.2.2 cv1 v1), .int v2, .int 54]) (rest := []) X hW (c_X10_padKey l G X.2.2.2.2.2.2.2.2.2.1 _ S cv1 v1 v2 54 _ h3) (cwV 3 X.2.2.2.2.1 (gV gw914 gw915 gw916 gw32 gw917) rfl rfl rfl ⟨rfl, hd_X10_padKey⟩ ⟨Nat.le_of_ble_eq_true rfl, Nat.le_of_ble_eq_true rfl⟩) (x_recv X hW ob_Sha z_1) rfl hl.1 rfl (Nat.le_of_ble_eq_true rfl) dX10_hashKeyed_5 ⟨Nat.zero_le _, Nat.zero_le _⟩) (fun H locs hW => ?_)
  refine lv_aload_n X.1 X.2.1 dX10_hashKeyed_8 rfl (lv_at hl 3 rfl) ?_
  refine lv_iload X.1 X.2.1 dX10_hashKeyed_9 (lv_at hl 4 rfl) ?_
  refine lv_aload_n X.1 X.2.1 dX10_hashKeyed_11 rfl (lv_at hl 0 rfl) ?_
  refine x_getR X hW fd_Sha_text (fun w h => List.mem_cons_of_mem _ (gin_X10 w h)) (List.mem_cons_of_mem _ gw82) z_1 dX10_hashKeyed_12 ?_
  refine lv_bipush (v := 64) X.1 X.2.1 dX10_hashKeyed_15 rfl ?_
  refine lv_iload X.1 X.2.1 dX10_hashKeyed_17 (lv_at hl 5 rfl) ?_
  refine x_acopy X hW hl.1 (List.mem_cons_of_mem _ gw860) (List.mem_cons_of_mem _ gw325) (List.mem_cons_of_mem _ gw326) (List.mem_cons_of_mem _ gw327) (Nat.le_of_ble_eq_true rfl) (Nat.le_of_ble_eq_true rfl) dX10_hashKeyed_19 h (fun S4 H locs h hW => ?_)
  refine lv_aload_n X.1 X.2.1 dX10_hashKeyed_22 rfl (lv_at hl 0 rfl) ?_
  refine lv_bipush (v := 64) X.1 X.2.1 dX10_hashKeyed_23 rfl ?_
  refine lv_iload X.1 X.2.1 dX10_hashKeyed_25 (lv_at hl 5 rfl) ?_
  refine lv_iadd X.1 X.2.1 dX10_hashKeyed_27 ?_
  obtain ⟨r5, S6, h7, h⟩ := cl_some h
  refine x_aftV X hW (x_runV (C := RX10) (a := G.2.2 9 0) (As := [.int (64 + v5)]) (rest := []) X hW (c_X10_hashText l G X.2.2.2.2.2.2.2.2.2.1 _ S4 (64 + v5) _ h7) (cwV 1 X.2.2.2.2.1 (gV gw918 gw919 gw920 gw32 gw921) rfl rfl rfl ⟨rfl, hd_X10_hashText⟩ ⟨Nat.le_of_ble_eq_true rfl, Nat.le_of_ble_eq_true rfl⟩) (x_recv X hW ob_Sha z_1) rfl hl.1 rfl (Nat.le_of_ble_eq_true rfl) dX10_hashKeyed_28 ⟨Nat.zero_le _, Nat.zero_le _⟩) (fun H locs hW => ?_)
  refine lv_aload_n X.1 X.2.1 dX10_hashKeyed_31 rfl (lv_at hl 0 rfl) ?_
  refine lv_aload_n X.1 X.2.1 dX10_hashKeyed_32 rfl (lv_at hl 1 rfl) ?_
  refine lv_iload_n X.1 X.2.1 dX10_hashKeyed_33 rfl (lv_at hl 2 rfl) ?_
  refine lv_bipush (v := 92) X.1 X.2.1 dX10_hashKeyed_34 rfl ?_
  obtain ⟨r8, S9, h10, h⟩ := cl_some h
  refine x_aftV X hW (x_runV (C := RX10) (a := G.2.2 9 0) (As := [.ref (G.2.2 cv1 v1), .int v2, .int 92]) (rest := []) X hW (c_X10_padKey l G X.2.2.2.2.2.2.2.2.2.1 _ S6 cv1 v1 v2 92 _ h10) (cwV 3 X.2.2.2.2.1 (gV gw914 gw915 gw916 gw32 gw917) rfl rfl rfl ⟨rfl, hd_X10_padKey⟩ ⟨Nat.le_of_ble_eq_true rfl, Nat.le_of_ble_eq_true rfl⟩) (x_recv X hW ob_Sha z_1) rfl hl.1 rfl (Nat.le_of_ble_eq_true rfl) dX10_hashKeyed_36 ⟨Nat.zero_le _, Nat.zero_le _⟩) (fun H locs hW => ?_)
  refine lv_aload_n X.1 X.2.1 dX10_hashKeyed_39 rfl (lv_at hl 0 rfl) ?_
  refine x_getR X hW fd_Sha_digest (fun w h => List.mem_cons_of_mem _ (gin_X10 w h)) (List.mem_cons_of_mem _ gw79) z_1 dX10_hashKeyed_40 ?_
  refine lv_iconst (v := 0) X.1 X.2.1 dX10_hashKeyed_43 rfl ?_
  refine lv_aload_n X.1 X.2.1 dX10_hashKeyed_44 rfl (lv_at hl 0 rfl) ?_
  refine x_getR X hW fd_Sha_text (fun w h => List.mem_cons_of_mem _ (gin_X10 w h)) (List.mem_cons_of_mem _ gw82) z_1 dX10_hashKeyed_45 ?_
  refine lv_bipush (v := 64) X.1 X.2.1 dX10_hashKeyed_48 rfl ?_
  refine lv_bipush (v := 20) X.1 X.2.1 dX10_hashKeyed_50 rfl ?_
  refine x_acopy X hW hl.1 (List.mem_cons_of_mem _ gw860) (List.mem_cons_of_mem _ gw325) (List.mem_cons_of_mem _ gw326) (List.mem_cons_of_mem _ gw327) (Nat.le_of_ble_eq_true rfl) (Nat.le_of_ble_eq_true rfl) dX10_hashKeyed_52 h (fun S11 H locs h hW => ?_)
  refine lv_aload_n X.1 X.2.1 dX10_hashKeyed_55 rfl (lv_at hl 0 rfl) ?_
  refine lv_bipush (v := 84) X.1 X.2.1 dX10_hashKeyed_56 rfl ?_
  obtain ⟨r12, S13, h14, h⟩ := cl_some h
  refine x_aftV X hW (x_runV (C := RX10) (a := G.2.2 9 0) (As := [.int 84]) (rest := []) X hW (c_X10_hashText l G X.2.2.2.2.2.2.2.2.2.1 _ S11 84 _ h14) (cwV 1 X.2.2.2.2.1 (gV gw918 gw919 gw920 gw32 gw921) rfl rfl rfl ⟨rfl, hd_X10_hashText⟩ ⟨Nat.le_of_ble_eq_true rfl, Nat.le_of_ble_eq_true rfl⟩) (x_recv X hW ob_Sha z_1) rfl hl.1 rfl (Nat.le_of_ble_eq_true rfl) dX10_hashKeyed_58 ⟨Nat.zero_le _, Nat.zero_le _⟩) (fun H locs hW => ?_)
  exact x_vret X hW h dX10_hashKeyed_61
theorem c_X10_hashKeyed (l : Launch) (G : xG) (hD : xD G false) (sz : Nat) (S : Mm) (cv1 : Nat) (v1 : Nat) (v2 : Int32) (cv3 : Nat) (v3 : Nat) (v4 : Int32) (v5 : Int32) (o : Unit × Mm) (h : F_X10_hashKeyed cv1 v1 v2 cv3 v3 v4 v5 S = some o) : Met l yX10_hashKeyed wsX10_hashKeyed rmX10_hashKeyed (xPre G false S sz [.ref (G.2.2 9 0), .ref (G.2.2 cv1 v1), .int v2, .ref (G.2.2 cv3 v3), .int v4, .int v5]) (xQv G false sz o) 0 0 (XA G false sz) :=
  x_start hD (by decide) rfl (Nat.le_of_ble_eq_true rfl) (fun p e s m below meth c X hW ls hl => w_X10_hashKeyed_0 X cv1 v1 v2 cv3 v3 v4 v5 hW hl h)

/-! WirelessCell$Sha.derive([II[I[II)V -/
def rmX10_derive : Room := { frames := 6, cells := 0, slots := 0, locals := 160 }
def L_X10_derive_110  (cv1 : Nat) (v1 : Nat) : Nat → Int32 → Mm → Option (Unit × Mm)
  | 0, _, _ => none
  | n + 1, v7, S => 
    if 3 ≤ v7 then (
    some ((), S))
    else (
    stA S 48 0 100 1 99 v7 fun S13 =>
    lnP false cv1 v1 fun x14 =>
    cl (F_X10_hashKeyed cv1 v1 x14 48 0 0 100 S13) fun r15 S16 =>
    cpP false S16 46 0 0 47 0 (v7 * 20) 20 fun S18 =>
    (L_X10_derive_110 cv1 v1 n) (v7 + 1) S18)
def L_X10_derive_10  (cv1 : Nat) (v1 : Nat) (v2 : Int32) (cv3 : Nat) (v3 : Nat) (cv4 : Nat) (v4 : Nat) (v5 : Int32) (v6 : Int32) : Nat → Int32 → Mm → Option (Unit × Mm)
  | 0, _, _ => none
  | n + 1, v7, S => 
    if v6 ≤ v7 then (
    stA S 48 0 100 1 v6 0 fun S2 =>
    cl (F_X2_writeAddress 48 0 (v6 + 1) 0 S2) fun r3 S4 =>
    cl (F_X2_writeAddress 48 0 (v6 + 7) v2 S4) fun r6 S7 =>
    cpP false S7 cv3 v3 0 48 0 (v6 + 13) 32 fun S9 =>
    cpP false S9 cv4 v4 v5 48 0 ((v6 + 13) + 32) 32 fun S10 =>
    L_X10_derive_110  cv1 v1 fu 0 S10)
    else (
    gd (inb v7 22 = true) (
    tp (labL.getD (Int32.toNatClampNeg v7) 0) fun x11 =>
    stA S 48 0 100 1 v7 x11 fun S12 =>
    (L_X10_derive_10 cv1 v1 v2 cv3 v3 cv4 v4 v5 v6 n) (v7 + 1) S12))
def F_X10_derive (cv1 : Nat) (v1 : Nat) (v2 : Int32) (cv3 : Nat) (v3 : Nat) (cv4 : Nat) (v4 : Nat) (v5 : Int32) (S : Mm) : Option (Unit × Mm) :=
  tp 22 fun x1 =>
  L_X10_derive_10  cv1 v1 v2 cv3 v3 cv4 v4 v5 x1 fu 0 S
set_option maxRecDepth 100000 in
set_option maxHeartbeats 4000000 in
theorem w_X10_derive_110 {p : Program} {l : Launch} {e : Env} {s : State} {m : MethodId} {args : Array Value} {below : List Frame} {meth : Method} {c : Code} {G : xG} {sz : Nat} {o : Unit × Mm} (X : xC G false sz p s m args c cX10_derive 8 wsX10_derive RX10 meth none) (cv1 : Nat) (v1 : Nat)   : ∀ (n : Nat) (v7 : Int32) (S : Mm) (H : Heap) (locs : List Loc) (ls : Array Slot), L_X10_derive_110 cv1 v1 n v7 S = some o → xW G false sz s H locs S → lv_has ls 8 [(0, .ref (G.2.2 9 0)), (1, .ref (G.2.2 cv1 v1)), (7, .int v7)] → wX p l e rmX10_derive s m args below meth c H locs (xQv G false sz o) (XA G false sz) 110 ls [] := by
  intro n
  induction n with
  | zero =>
    intro v7 S H locs ls h
    cases h
  | succ n ih =>
    intro v7 S H locs ls h hW  hl
    rw [L_X10_derive_110] at h
    refine lv_iload X.1 X.2.1 dX10_derive_110 (lv_at hl 2 rfl) ?_
    refine lv_iconst (v := 3) X.1 X.2.1 dX10_derive_112 rfl ?_
    refine x_icmp_ge X (tgt := 164) dX10_derive_113 (by decide) h (fun h => ?_) (fun h => ?_)
    · exact x_vret X hW h dX10_derive_164
    · refine lv_aload_n X.1 X.2.1 dX10_derive_116 rfl (lv_at hl 0 rfl) ?_
      refine x_getR X hW fd_Sha_seed (fun w h => List.mem_cons_of_mem _ (gin_X10 w h)) (List.mem_cons_of_mem _ gw81) z_1 dX10_derive_117 ?_
      refine lv_bipush (v := 99) X.1 X.2.1 dX10_derive_120 rfl ?_
      refine lv_iload X.1 X.2.1 dX10_derive_122 (lv_at hl 2 rfl) ?_
      refine x_iast X hW ar_48 dX10_derive_124 h (fun S13 H locs h hW => ?_)
      refine lv_aload_n X.1 X.2.1 dX10_derive_125 rfl (lv_at hl 0 rfl) ?_
      refine lv_aload_n X.1 X.2.1 dX10_derive_126 rfl (lv_at hl 1 rfl) ?_
      refine lv_aload_n X.1 X.2.1 dX10_derive_127 rfl (lv_at hl 1 rfl) ?_
      refine x_lenP X hW dX10_derive_128 h (fun x14 h => ?_)
      refine lv_aload_n X.1 X.2.1 dX10_derive_129 rfl (lv_at hl 0 rfl) ?_
      refine x_getR X hW fd_Sha_seed (fun w h => List.mem_cons_of_mem _ (gin_X10 w h)) (List.mem_cons_of_mem _ gw81) z_1 dX10_derive_130 ?_
      refine lv_iconst (v := 0) X.1 X.2.1 dX10_derive_133 rfl ?_
      refine lv_bipush (v := 100) X.1 X.2.1 dX10_derive_134 rfl ?_
      obtain ⟨r15, S16, h17, h⟩ := cl_some h
      refine x_aftV X hW (x_runV (C := RX10) (a := G.2.2 9 0) (As := [.ref (G.2.2 cv1 v1), .int x14, .ref (G.2.2 48 0), .int 0, .int 100]) (rest := []) X hW (c_X10_hashKeyed l G X.2.2.2.2.2.2.2.2.2.1 _ S13 cv1 v1 x14 48 0 0 100 _ h17) (cwV 5 X.2.2.2.2.1 (gV gw910 gw911 gw912 gw32 gw913) rfl rfl rfl ⟨rfl, hd_X10_hashKeyed⟩ ⟨Nat.le_of_ble_eq_true rfl, Nat.le_of_ble_eq_true rfl⟩) (x_recv X hW ob_Sha z_1) rfl hl.1 rfl (Nat.le_of_ble_eq_true rfl) dX10_derive_136 ⟨Nat.zero_le _, Nat.zero_le _⟩) (fun H locs hW => ?_)
      refine lv_aload_n X.1 X.2.1 dX10_derive_139 rfl (lv_at hl 0 rfl) ?_
      refine x_getR X hW fd_Sha_digest (fun w h => List.mem_cons_of_mem _ (gin_X10 w h)) (List.mem_cons_of_mem _ gw79) z_1 dX10_derive_140 ?_
      refine lv_iconst (v := 0) X.1 X.2.1 dX10_derive_143 rfl ?_
      refine lv_aload_n X.1 X.2.1 dX10_derive_144 rfl (lv_at hl 0 rfl) ?_
      refine x_getR X hW fd_Sha_ptk (fun w h => List.mem_cons_of_mem _ (gin_X10 w h)) (List.mem_cons_of_mem _ gw80) z_1 dX10_derive_145 ?_
      refine lv_iload X.1 X.2.1 dX10_derive_148 (lv_at hl 2 rfl) ?_
      refine lv_bipush (v := 20) X.1 X.2.1 dX10_derive_150 rfl ?_
      refine lv_imul X.1 X.2.1 dX10_derive_152 ?_
      refine lv_bipush (v := 20) X.1 X.2.1 dX10_derive_153 rfl ?_
      refine x_acopy X hW hl.1 (List.mem_cons_of_mem _ gw860) (List.mem_cons_of_mem _ gw325) (List.mem_cons_of_mem _ gw326) (List.mem_cons_of_mem _ gw327) (Nat.le_of_ble_eq_true rfl) (Nat.le_of_ble_eq_true rfl) dX10_derive_155 h (fun S18 H locs h hW => ?_)
      refine lv_iinc (v := (v7 + 1)) (lv' := [(7, .int (v7 + 1)), (0, .ref (G.2.2 9 0)), (1, .ref (G.2.2 cv1 v1))]) X.1 X.2.1 dX10_derive_158 hl (k := 2) rfl rfl (by decide) rfl (fun ls hl => ?_)
      refine lv_goto (tgt := 110) X.1 X.2.1 dX10_derive_161 (by decide) ?_
      exact ih (v7 + 1) S18 _ _ _ h hW  (lv_sub hl [1, 2, 0] rfl)
set_option maxRecDepth 100000 in
set_option maxHeartbeats 4000000 in
theorem w_X10_derive_10 {p : Program} {l : Launch} {e : Env} {s : State} {m : MethodId} {args : Array Value} {below : List Frame} {meth : Method} {c : Code} {G : xG} {sz : Nat} {o : Unit × Mm} (X : xC G false sz p s m args c cX10_derive 8 wsX10_derive RX10 meth none) (cv1 : Nat) (v1 : Nat) (v2 : Int32) (cv3 : Nat) (v3 : Nat) (cv4 : Nat) (v4 : Nat) (v5 : Int32) (v6 : Int32)   : ∀ (n : Nat) (v7 : Int32) (S : Mm) (H : Heap) (locs : List Loc) (ls : Array Slot), L_X10_derive_10 cv1 v1 v2 cv3 v3 cv4 v4 v5 v6 n v7 S = some o → xW G false sz s H locs S → lv_has ls 8 [(0, .ref (G.2.2 9 0)), (1, .ref (G.2.2 cv1 v1)), (2, .int v2), (3, .ref (G.2.2 cv3 v3)), (4, .ref (G.2.2 cv4 v4)), (5, .int v5), (6, .int v6), (7, .int v7)] → wX p l e rmX10_derive s m args below meth c H locs (xQv G false sz o) (XA G false sz) 10 ls [] := by
  intro n
  induction n with
  | zero =>
    intro v7 S H locs ls h
    cases h
  | succ n ih =>
    intro v7 S H locs ls h hW  hl
    rw [L_X10_derive_10] at h
    refine lv_iload X.1 X.2.1 dX10_derive_10 (lv_at hl 7 rfl) ?_
    refine lv_iload X.1 X.2.1 dX10_derive_12 (lv_at hl 6 rfl) ?_
    refine x_icmp_ge X (tgt := 37) dX10_derive_14 (by decide) h (fun h => ?_) (fun h => ?_)
    · refine lv_aload_n X.1 X.2.1 dX10_derive_37 rfl (lv_at hl 0 rfl) ?_
      refine x_getR X hW fd_Sha_seed (fun w h => List.mem_cons_of_mem _ (gin_X10 w h)) (List.mem_cons_of_mem _ gw81) z_1 dX10_derive_38 ?_
      refine lv_iload X.1 X.2.1 dX10_derive_41 (lv_at hl 6 rfl) ?_
      refine lv_iconst (v := 0) X.1 X.2.1 dX10_derive_43 rfl ?_
      refine x_iast X hW ar_48 dX10_derive_44 h (fun S2 H locs h hW => ?_)
      refine lv_aload_n X.1 X.2.1 dX10_derive_45 rfl (lv_at hl 0 rfl) ?_
      refine x_getR X hW fd_Sha_seed (fun w h => List.mem_cons_of_mem _ (gin_X10 w h)) (List.mem_cons_of_mem _ gw81) z_1 dX10_derive_46 ?_
      refine lv_iload X.1 X.2.1 dX10_derive_49 (lv_at hl 6 rfl) ?_
      refine lv_iconst (v := 1) X.1 X.2.1 dX10_derive_51 rfl ?_
      refine lv_iadd X.1 X.2.1 dX10_derive_52 ?_
      refine lv_iconst (v := 0) X.1 X.2.1 dX10_derive_53 rfl ?_
      obtain ⟨r3, S4, h5, h⟩ := cl_some h
      refine x_aftV X hW (x_runSN (As := [.ref (G.2.2 48 0), .int (v6 + 1), .int 0]) (rest := []) X hW (c_X2_writeAddress l G X.2.2.2.2.2.2.2.2.2.1 _ S2 48 0 (v6 + 1) 0 _ h5) ⟨va_cnB 3 X.2.2.2.2.1 (gN gw686) rfl rfl rfl X.2.2.2.2.2.2.2.2.2.2.2.2.1.2 (X.2.2.2.2.1 _ (List.mem_cons_of_mem _ gw267)) hd_X2_writeAddress ⟨Nat.le_of_ble_eq_true rfl, Nat.le_of_ble_eq_true rfl⟩, X.2.2.2.2.1 _ (List.mem_cons_of_mem _ gw685), trivial⟩ rfl hl.1 rfl (Nat.le_of_ble_eq_true rfl) dX10_derive_54 ⟨Nat.zero_le _, Nat.zero_le _⟩) (fun H locs hW => ?_)
      refine lv_aload_n X.1 X.2.1 dX10_derive_57 rfl (lv_at hl 0 rfl) ?_
      refine x_getR X hW fd_Sha_seed (fun w h => List.mem_cons_of_mem _ (gin_X10 w h)) (List.mem_cons_of_mem _ gw81) z_1 dX10_derive_58 ?_
      refine lv_iload X.1 X.2.1 dX10_derive_61 (lv_at hl 6 rfl) ?_
      refine lv_bipush (v := 7) X.1 X.2.1 dX10_derive_63 rfl ?_
      refine lv_iadd X.1 X.2.1 dX10_derive_65 ?_
      refine lv_iload_n X.1 X.2.1 dX10_derive_66 rfl (lv_at hl 2 rfl) ?_
      obtain ⟨r6, S7, h8, h⟩ := cl_some h
      refine x_aftV X hW (x_runSN (As := [.ref (G.2.2 48 0), .int (v6 + 7), .int v2]) (rest := []) X hW (c_X2_writeAddress l G X.2.2.2.2.2.2.2.2.2.1 _ S4 48 0 (v6 + 7) v2 _ h8) ⟨va_cnB 3 X.2.2.2.2.1 (gN gw686) rfl rfl rfl X.2.2.2.2.2.2.2.2.2.2.2.2.1.2 (X.2.2.2.2.1 _ (List.mem_cons_of_mem _ gw267)) hd_X2_writeAddress ⟨Nat.le_of_ble_eq_true rfl, Nat.le_of_ble_eq_true rfl⟩, X.2.2.2.2.1 _ (List.mem_cons_of_mem _ gw685), trivial⟩ rfl hl.1 rfl (Nat.le_of_ble_eq_true rfl) dX10_derive_67 ⟨Nat.zero_le _, Nat.zero_le _⟩) (fun H locs hW => ?_)
      refine lv_aload_n X.1 X.2.1 dX10_derive_70 rfl (lv_at hl 3 rfl) ?_
      refine lv_iconst (v := 0) X.1 X.2.1 dX10_derive_71 rfl ?_
      refine lv_aload_n X.1 X.2.1 dX10_derive_72 rfl (lv_at hl 0 rfl) ?_
      refine x_getR X hW fd_Sha_seed (fun w h => List.mem_cons_of_mem _ (gin_X10 w h)) (List.mem_cons_of_mem _ gw81) z_1 dX10_derive_73 ?_
      refine lv_iload X.1 X.2.1 dX10_derive_76 (lv_at hl 6 rfl) ?_
      refine lv_bipush (v := 13) X.1 X.2.1 dX10_derive_78 rfl ?_
      refine lv_iadd X.1 X.2.1 dX10_derive_80 ?_
      refine lv_bipush (v := 32) X.1 X.2.1 dX10_derive_81 rfl ?_
      refine x_acopy X hW hl.1 (List.mem_cons_of_mem _ gw860) (List.mem_cons_of_mem _ gw325) (List.mem_cons_of_mem _ gw326) (List.mem_cons_of_mem _ gw327) (Nat.le_of_ble_eq_true rfl) (Nat.le_of_ble_eq_true rfl) dX10_derive_83 h (fun S9 H locs h hW => ?_)
      refine lv_aload X.1 X.2.1 dX10_derive_86 (lv_at hl 4 rfl) ?_
      refine lv_iload X.1 X.2.1 dX10_derive_88 (lv_at hl 5 rfl) ?_
      refine lv_aload_n X.1 X.2.1 dX10_derive_90 rfl (lv_at hl 0 rfl) ?_
      refine x_getR X hW fd_Sha_seed (fun w h => List.mem_cons_of_mem _ (gin_X10 w h)) (List.mem_cons_of_mem _ gw81) z_1 dX10_derive_91 ?_
      refine lv_iload X.1 X.2.1 dX10_derive_94 (lv_at hl 6 rfl) ?_
      refine lv_bipush (v := 13) X.1 X.2.1 dX10_derive_96 rfl ?_
      refine lv_iadd X.1 X.2.1 dX10_derive_98 ?_
      refine lv_bipush (v := 32) X.1 X.2.1 dX10_derive_99 rfl ?_
      refine lv_iadd X.1 X.2.1 dX10_derive_101 ?_
      refine lv_bipush (v := 32) X.1 X.2.1 dX10_derive_102 rfl ?_
      refine x_acopy X hW hl.1 (List.mem_cons_of_mem _ gw860) (List.mem_cons_of_mem _ gw325) (List.mem_cons_of_mem _ gw326) (List.mem_cons_of_mem _ gw327) (Nat.le_of_ble_eq_true rfl) (Nat.le_of_ble_eq_true rfl) dX10_derive_104 h (fun S10 H locs h hW => ?_)
      refine lv_iconst (v := 0) X.1 X.2.1 dX10_derive_107 rfl ?_
      refine lv_istore (lv' := [(7, .int 0), (0, .ref (G.2.2 9 0)), (1, .ref (G.2.2 cv1 v1)), (2, .int v2), (3, .ref (G.2.2 cv3 v3)), (4, .ref (G.2.2 cv4 v4)), (5, .int v5), (6, .int v6)]) X.1 X.2.1 dX10_derive_108 hl (by decide) rfl (fun ls hl => ?_)
      exact w_X10_derive_110 X cv1 v1   fu 0 S10 _ _ _ h hW  (lv_sub hl [1, 2, 0] rfl)
    · refine lv_aload_n X.1 X.2.1 dX10_derive_17 rfl (lv_at hl 0 rfl) ?_
      refine x_getR X hW fd_Sha_seed (fun w h => List.mem_cons_of_mem _ (gin_X10 w h)) (List.mem_cons_of_mem _ gw81) z_1 dX10_derive_18 ?_
      refine lv_iload X.1 X.2.1 dX10_derive_21 (lv_at hl 7 rfl) ?_
      refine x_ldcS X hW dX10_derive_23 ?_
      refine lv_iload X.1 X.2.1 dX10_derive_25 (lv_at hl 7 rfl) ?_
      refine x_strAt X hW hl.1 (Nat.le_of_ble_eq_true rfl) ⟨Nat.le_of_ble_eq_true rfl, Nat.le_of_ble_eq_true rfl⟩ ⟨Nat.zero_le _, Nat.zero_le _⟩ (gV gw873 gw874 gw875 gw864 gw876) dX10_derive_27 h (fun x11 H locs h hW => ?_)
      refine x_iast X hW ar_48 dX10_derive_30 h (fun S12 H locs h hW => ?_)
      refine lv_iinc (v := (v7 + 1)) (lv' := [(7, .int (v7 + 1)), (0, .ref (G.2.2 9 0)), (1, .ref (G.2.2 cv1 v1)), (2, .int v2), (3, .ref (G.2.2 cv3 v3)), (4, .ref (G.2.2 cv4 v4)), (5, .int v5), (6, .int v6)]) X.1 X.2.1 dX10_derive_31 hl (k := 7) rfl rfl (by decide) rfl (fun ls hl => ?_)
      refine lv_goto (tgt := 10) X.1 X.2.1 dX10_derive_34 (by decide) ?_
      exact ih (v7 + 1) S12 _ _ _ h hW  (lv_sub hl [1, 2, 3, 4, 5, 6, 7, 0] rfl)
set_option maxRecDepth 100000 in
set_option maxHeartbeats 4000000 in
theorem w_X10_derive_0 {p : Program} {l : Launch} {e : Env} {s : State} {m : MethodId} {args : Array Value} {below : List Frame} {meth : Method} {c : Code} {G : xG} {sz : Nat} {o : Unit × Mm} (X : xC G false sz p s m args c cX10_derive 8 wsX10_derive RX10 meth none) (cv1 : Nat) (v1 : Nat) (v2 : Int32) (cv3 : Nat) (v3 : Nat) (cv4 : Nat) (v4 : Nat) (v5 : Int32) {S : Mm} {H : Heap} {locs : List Loc} {ls : Array Slot} (hW : xW G false sz s H locs S) (hl : lv_has ls 8 [(0, .ref (G.2.2 9 0)), (1, .ref (G.2.2 cv1 v1)), (2, .int v2), (3, .ref (G.2.2 cv3 v3)), (4, .ref (G.2.2 cv4 v4)), (5, .int v5)]) (h : F_X10_derive cv1 v1 v2 cv3 v3 cv4 v4 v5 S = some o) : wX p l e rmX10_derive s m args below meth c H locs (xQv G false sz o) (XA G false sz) 0 ls [] := by
  unfold F_X10_derive at h
  refine x_ldcS X hW dX10_derive_0 ?_
  refine x_strLen X hW hl.1 (Nat.le_of_ble_eq_true rfl) ⟨Nat.le_of_ble_eq_true rfl, Nat.le_of_ble_eq_true rfl⟩ ⟨Nat.zero_le _, Nat.zero_le _⟩ (gV gw861 gw862 gw863 gw864 gw865) dX10_derive_2 h (fun x1 H locs h hW => ?_)
  refine lv_istore (lv' := [(6, .int x1), (0, .ref (G.2.2 9 0)), (1, .ref (G.2.2 cv1 v1)), (2, .int v2), (3, .ref (G.2.2 cv3 v3)), (4, .ref (G.2.2 cv4 v4)), (5, .int v5)]) X.1 X.2.1 dX10_derive_5 hl (by decide) rfl (fun ls hl => ?_)
  refine lv_iconst (v := 0) X.1 X.2.1 dX10_derive_7 rfl ?_
  refine lv_istore (lv' := [(7, .int 0), (6, .int x1), (0, .ref (G.2.2 9 0)), (1, .ref (G.2.2 cv1 v1)), (2, .int v2), (3, .ref (G.2.2 cv3 v3)), (4, .ref (G.2.2 cv4 v4)), (5, .int v5)]) X.1 X.2.1 dX10_derive_8 hl (by decide) rfl (fun ls hl => ?_)
  exact w_X10_derive_10 X cv1 v1 v2 cv3 v3 cv4 v4 v5 x1   fu 0 S _ _ _ h hW  (lv_sub hl [2, 3, 4, 5, 6, 7, 1, 0] rfl)
theorem c_X10_derive (l : Launch) (G : xG) (hD : xD G false) (sz : Nat) (S : Mm) (cv1 : Nat) (v1 : Nat) (v2 : Int32) (cv3 : Nat) (v3 : Nat) (cv4 : Nat) (v4 : Nat) (v5 : Int32) (o : Unit × Mm) (h : F_X10_derive cv1 v1 v2 cv3 v3 cv4 v4 v5 S = some o) : Met l yX10_derive wsX10_derive rmX10_derive (xPre G false S sz [.ref (G.2.2 9 0), .ref (G.2.2 cv1 v1), .int v2, .ref (G.2.2 cv3 v3), .ref (G.2.2 cv4 v4), .int v5]) (xQv G false sz o) 0 0 (XA G false sz) :=
  x_start hD (by decide) rfl (Nat.le_of_ble_eq_true rfl) (fun p e s m below meth c X hW ls hl => w_X10_derive_0 X cv1 v1 v2 cv3 v3 cv4 v4 v5 hW hl h)

/-! WirelessCell.feedNumber(I)V -/
def rmX11_feedNumber : Room := { frames := 1, cells := 0, slots := 0, locals := 25 }
def F_X11_feedNumber (v1 : Int32) (S : Mm) : Option (Unit × Mm) :=
  gf S 105 0 fun x1 =>
  cl (F_X2_writeHighestFirst 55 0 x1 4 (Int32.toInt64 v1) S) fun r2 S3 =>
  gf S3 105 0 fun x5 =>
  pf S3 105 0 (x5 + 4) fun S6 =>
  some ((), S6)
set_option maxRecDepth 100000 in
set_option maxHeartbeats 4000000 in
theorem w_X11_feedNumber_0 {p : Program} {l : Launch} {e : Env} {s : State} {m : MethodId} {args : Array Value} {below : List Frame} {meth : Method} {c : Code} {G : xG} {sz : Nat} {o : Unit × Mm} (X : xC G false sz p s m args c cX11_feedNumber 2 wsX11_feedNumber RX11 meth none) (v1 : Int32) {S : Mm} {H : Heap} {locs : List Loc} {ls : Array Slot} (hW : xW G false sz s H locs S) (hl : lv_has ls 2 [(0, .ref (G.2.2 10 0)), (1, .int v1)]) (h : F_X11_feedNumber v1 S = some o) : wX p l e rmX11_feedNumber s m args below meth c H locs (xQv G false sz o) (XA G false sz) 0 ls [] := by
  unfold F_X11_feedNumber at h
  refine lv_aload_n X.1 X.2.1 dX11_feedNumber_0 rfl (lv_at hl 0 rfl) ?_
  refine x_getR X hW fd_Cell_tape (fun w h => List.mem_cons_of_mem _ (gin_X11 w h)) (List.mem_cons_of_mem _ gw39) z_1 dX11_feedNumber_1 ?_
  refine lv_aload_n X.1 X.2.1 dX11_feedNumber_4 rfl (lv_at hl 0 rfl) ?_
  refine x_getI X hW fd_Cell_tapeLength (fun w h => List.mem_cons_of_mem _ (gin_X11 w h)) (List.mem_cons_of_mem _ gw260) z_1 dX11_feedNumber_5 h (fun x1 h => ?_)
  refine lv_iconst (v := 4) X.1 X.2.1 dX11_feedNumber_8 rfl ?_
  refine lv_iload_n X.1 X.2.1 dX11_feedNumber_9 rfl (lv_at hl 1 rfl) ?_
  refine lv_i2l (v := (Int32.toInt64 v1)) X.1 X.2.1 dX11_feedNumber_10 rfl ?_
  obtain ⟨r2, S3, h4, h⟩ := cl_some h
  refine x_aftV X hW (x_runS (As := [.ref (G.2.2 55 0), .int x1, .int 4, .long (Int32.toInt64 v1)]) (rest := []) X hW (c_X2_writeHighestFirst l G X.2.2.2.2.2.2.2.2.2.1 _ S 55 0 x1 4 (Int32.toInt64 v1) _ h4) (va_cwS 4 X.2.2.2.2.1 (gS gw265 gw266 gw267 gw268) rfl rfl rfl hd_X2_writeHighestFirst ⟨Nat.le_of_ble_eq_true rfl, Nat.le_of_ble_eq_true rfl⟩) rfl hl.1 rfl (Nat.le_of_ble_eq_true rfl) dX11_feedNumber_11 ⟨Nat.zero_le _, Nat.zero_le _⟩) (fun H locs hW => ?_)
  refine lv_aload_n X.1 X.2.1 dX11_feedNumber_14 rfl (lv_at hl 0 rfl) ?_
  refine lv_dup X.1 X.2.1 dX11_feedNumber_15 rfl ?_
  refine x_getI X hW fd_Cell_tapeLength (fun w h => List.mem_cons_of_mem _ (gin_X11 w h)) (List.mem_cons_of_mem _ gw260) z_1 dX11_feedNumber_16 h (fun x5 h => ?_)
  refine lv_iconst (v := 4) X.1 X.2.1 dX11_feedNumber_19 rfl ?_
  refine lv_iadd X.1 X.2.1 dX11_feedNumber_20 ?_
  refine x_putI X hW fd_Cell_tapeLength (fun w h => List.mem_cons_of_mem _ (gin_X11 w h)) (List.mem_cons_of_mem _ gw260) z_1 dX11_feedNumber_21 tyX11 tyX11_ok nmX11 rfl rfl rfl h (fun S6 H locs h hW => ?_)
  exact x_vret X hW h dX11_feedNumber_24
theorem c_X11_feedNumber (l : Launch) (G : xG) (hD : xD G false) (sz : Nat) (S : Mm) (v1 : Int32) (o : Unit × Mm) (h : F_X11_feedNumber v1 S = some o) : Met l yX11_feedNumber wsX11_feedNumber rmX11_feedNumber (xPre G false S sz [.ref (G.2.2 10 0), .int v1]) (xQv G false sz o) 0 0 (XA G false sz) :=
  x_start hD (by decide) rfl (Nat.le_of_ble_eq_true rfl) (fun p e s m below meth c X hW ls hl => w_X11_feedNumber_0 X v1 hW hl h)

/-! WirelessCell.feed(IIIII)I -/
def rmX11_feed : Room := { frames := 2, cells := 0, slots := 0, locals := 46 }
def F_X11_feed (v1 : Int32) (v2 : Int32) (v3 : Int32) (v4 : Int32) (v5 : Int32) (S : Mm) : Option (Int32 × Mm) :=
  gf S 105 0 fun x1 =>
  if (x1 + 20) ≤ 300 then (
  cl (F_X11_feedNumber v1 S) fun r2 S3 =>
  cl (F_X11_feedNumber v2 S3) fun r5 S6 =>
  cl (F_X11_feedNumber v3 S6) fun r8 S9 =>
  cl (F_X11_feedNumber v4 S9) fun r11 S12 =>
  cl (F_X11_feedNumber v5 S12) fun r14 S15 =>
  gf S15 105 0 fun x17 =>
  some (x17, S15))
  else (
  some ((-1), S))
set_option maxRecDepth 100000 in
set_option maxHeartbeats 4000000 in
theorem w_X11_feed_0 {p : Program} {l : Launch} {e : Env} {s : State} {m : MethodId} {args : Array Value} {below : List Frame} {meth : Method} {c : Code} {G : xG} {sz : Nat} {o : Int32 × Mm} (X : xC G false sz p s m args c cX11_feed 6 wsX11_feed RX11 meth (some .int)) (v1 : Int32) (v2 : Int32) (v3 : Int32) (v4 : Int32) (v5 : Int32) {S : Mm} {H : Heap} {locs : List Loc} {ls : Array Slot} (hW : xW G false sz s H locs S) (hl : lv_has ls 6 [(0, .ref (G.2.2 10 0)), (1, .int v1), (2, .int v2), (3, .int v3), (4, .int v4), (5, .int v5)]) (h : F_X11_feed v1 v2 v3 v4 v5 S = some o) : wX p l e rmX11_feed s m args below meth c H locs (xQi G false sz o) (XA G false sz) 0 ls [] := by
  unfold F_X11_feed at h
  refine lv_aload_n X.1 X.2.1 dX11_feed_0 rfl (lv_at hl 0 rfl) ?_
  refine x_getI X hW fd_Cell_tapeLength (fun w h => List.mem_cons_of_mem _ (gin_X11 w h)) (List.mem_cons_of_mem _ gw260) z_1 dX11_feed_1 h (fun x1 h => ?_)
  refine lv_bipush (v := 20) X.1 X.2.1 dX11_feed_4 rfl ?_
  refine lv_iadd X.1 X.2.1 dX11_feed_6 ?_
  refine lv_sipush (v := 300) X.1 X.2.1 dX11_feed_7 rfl ?_
  refine x_icmp_le X (tgt := 15) dX11_feed_10 (by decide) h (fun h => ?_) (fun h => ?_)
  · refine lv_aload_n X.1 X.2.1 dX11_feed_15 rfl (lv_at hl 0 rfl) ?_
    refine lv_iload_n X.1 X.2.1 dX11_feed_16 rfl (lv_at hl 1 rfl) ?_
    obtain ⟨r2, S3, h4, h⟩ := cl_some h
    refine x_aftV X hW (x_runV (C := RX11) (a := G.2.2 10 0) (As := [.int v1]) (rest := []) X hW (c_X11_feedNumber l G X.2.2.2.2.2.2.2.2.2.1 _ S v1 _ h4) (cwV 1 X.2.2.2.2.1 (gV gw261 gw262 gw263 gw2 gw264) rfl rfl rfl ⟨rfl, hd_X11_feedNumber⟩ ⟨Nat.le_of_ble_eq_true rfl, Nat.le_of_ble_eq_true rfl⟩) (x_recv X hW ob_Cell z_1) rfl hl.1 rfl (Nat.le_of_ble_eq_true rfl) dX11_feed_17 ⟨Nat.zero_le _, Nat.zero_le _⟩) (fun H locs hW => ?_)
    refine lv_aload_n X.1 X.2.1 dX11_feed_20 rfl (lv_at hl 0 rfl) ?_
    refine lv_iload_n X.1 X.2.1 dX11_feed_21 rfl (lv_at hl 2 rfl) ?_
    obtain ⟨r5, S6, h7, h⟩ := cl_some h
    refine x_aftV X hW (x_runV (C := RX11) (a := G.2.2 10 0) (As := [.int v2]) (rest := []) X hW (c_X11_feedNumber l G X.2.2.2.2.2.2.2.2.2.1 _ S3 v2 _ h7) (cwV 1 X.2.2.2.2.1 (gV gw261 gw262 gw263 gw2 gw264) rfl rfl rfl ⟨rfl, hd_X11_feedNumber⟩ ⟨Nat.le_of_ble_eq_true rfl, Nat.le_of_ble_eq_true rfl⟩) (x_recv X hW ob_Cell z_1) rfl hl.1 rfl (Nat.le_of_ble_eq_true rfl) dX11_feed_22 ⟨Nat.zero_le _, Nat.zero_le _⟩) (fun H locs hW => ?_)
    refine lv_aload_n X.1 X.2.1 dX11_feed_25 rfl (lv_at hl 0 rfl) ?_
    refine lv_iload_n X.1 X.2.1 dX11_feed_26 rfl (lv_at hl 3 rfl) ?_
    obtain ⟨r8, S9, h10, h⟩ := cl_some h
    refine x_aftV X hW (x_runV (C := RX11) (a := G.2.2 10 0) (As := [.int v3]) (rest := []) X hW (c_X11_feedNumber l G X.2.2.2.2.2.2.2.2.2.1 _ S6 v3 _ h10) (cwV 1 X.2.2.2.2.1 (gV gw261 gw262 gw263 gw2 gw264) rfl rfl rfl ⟨rfl, hd_X11_feedNumber⟩ ⟨Nat.le_of_ble_eq_true rfl, Nat.le_of_ble_eq_true rfl⟩) (x_recv X hW ob_Cell z_1) rfl hl.1 rfl (Nat.le_of_ble_eq_true rfl) dX11_feed_27 ⟨Nat.zero_le _, Nat.zero_le _⟩) (fun H locs hW => ?_)
    refine lv_aload_n X.1 X.2.1 dX11_feed_30 rfl (lv_at hl 0 rfl) ?_
    refine lv_iload X.1 X.2.1 dX11_feed_31 (lv_at hl 4 rfl) ?_
    obtain ⟨r11, S12, h13, h⟩ := cl_some h
    refine x_aftV X hW (x_runV (C := RX11) (a := G.2.2 10 0) (As := [.int v4]) (rest := []) X hW (c_X11_feedNumber l G X.2.2.2.2.2.2.2.2.2.1 _ S9 v4 _ h13) (cwV 1 X.2.2.2.2.1 (gV gw261 gw262 gw263 gw2 gw264) rfl rfl rfl ⟨rfl, hd_X11_feedNumber⟩ ⟨Nat.le_of_ble_eq_true rfl, Nat.le_of_ble_eq_true rfl⟩) (x_recv X hW ob_Cell z_1) rfl hl.1 rfl (Nat.le_of_ble_eq_true rfl) dX11_feed_33 ⟨Nat.zero_le _, Nat.zero_le _⟩) (fun H locs hW => ?_)
    refine lv_aload_n X.1 X.2.1 dX11_feed_36 rfl (lv_at hl 0 rfl) ?_
    refine lv_iload X.1 X.2.1 dX11_feed_37 (lv_at hl 5 rfl) ?_
    obtain ⟨r14, S15, h16, h⟩ := cl_some h
    refine x_aftV X hW (x_runV (C := RX11) (a := G.2.2 10 0) (As := [.int v5]) (rest := []) X hW (c_X11_feedNumber l G X.2.2.2.2.2.2.2.2.2.1 _ S12 v5 _ h16) (cwV 1 X.2.2.2.2.1 (gV gw261 gw262 gw263 gw2 gw264) rfl rfl rfl ⟨rfl, hd_X11_feedNumber⟩ ⟨Nat.le_of_ble_eq_true rfl, Nat.le_of_ble_eq_true rfl⟩) (x_recv X hW ob_Cell z_1) rfl hl.1 rfl (Nat.le_of_ble_eq_true rfl) dX11_feed_39 ⟨Nat.zero_le _, Nat.zero_le _⟩) (fun H locs hW => ?_)
    refine lv_aload_n X.1 X.2.1 dX11_feed_42 rfl (lv_at hl 0 rfl) ?_
    refine x_getI X hW fd_Cell_tapeLength (fun w h => List.mem_cons_of_mem _ (gin_X11 w h)) (List.mem_cons_of_mem _ gw260) z_1 dX11_feed_43 h (fun x17 h => ?_)
    exact x_iret X hW h dX11_feed_46
  · refine lv_iconst (v := (-1)) X.1 X.2.1 dX11_feed_13 rfl ?_
    exact x_iret X hW h dX11_feed_14
theorem c_X11_feed (l : Launch) (G : xG) (hD : xD G false) (sz : Nat) (S : Mm) (v1 : Int32) (v2 : Int32) (v3 : Int32) (v4 : Int32) (v5 : Int32) (o : Int32 × Mm) (h : F_X11_feed v1 v2 v3 v4 v5 S = some o) : Met l yX11_feed wsX11_feed rmX11_feed (xPre G false S sz [.ref (G.2.2 10 0), .int v1, .int v2, .int v3, .int v4, .int v5]) (xQi G false sz o) 0 0 (XA G false sz) :=
  x_start hD (by decide) rfl (Nat.le_of_ble_eq_true rfl) (fun p e s m below meth c X hW ls hl => w_X11_feed_0 X v1 v2 v3 v4 v5 hW hl h)

/-! WirelessCell.end(I)I -/
def rmX11_end : Room := { frames := 0, cells := 0, slots := 0, locals := 0 }
def L_X11_end_12   (S : Mm) : Option (Int32 × Mm) :=
  some ((-1), S)
def F_X11_end (v1 : Int32) (S : Mm) : Option (Int32 × Mm) :=
  if v1 < 0 then (
  L_X11_end_12  S)
  else (
  gf S 105 0 fun x1 =>
  if v1 ≤ x1 then (
  pf S 105 0 v1 fun S2 =>
  some (v1, S2))
  else (
  L_X11_end_12  S))
set_option maxRecDepth 100000 in
set_option maxHeartbeats 4000000 in
theorem w_X11_end_12 {p : Program} {l : Launch} {e : Env} {s : State} {m : MethodId} {args : Array Value} {below : List Frame} {meth : Method} {c : Code} {G : xG} {sz : Nat} {o : Int32 × Mm} (X : xC G false sz p s m args c cX11_end 2 wsX11_end RX11 meth (some .int))    {S : Mm} {H : Heap} {locs : List Loc} {ls : Array Slot} (hW : xW G false sz s H locs S) (hl : lv_has ls 2 []) (h : L_X11_end_12   S = some o) : wX p l e rmX11_end s m args below meth c H locs (xQi G false sz o) (XA G false sz) 12 ls [] := by
  unfold L_X11_end_12 at h
  refine lv_iconst (v := (-1)) X.1 X.2.1 dX11_end_12 rfl ?_
  exact x_iret X hW h dX11_end_13
set_option maxRecDepth 100000 in
set_option maxHeartbeats 4000000 in
theorem w_X11_end_0 {p : Program} {l : Launch} {e : Env} {s : State} {m : MethodId} {args : Array Value} {below : List Frame} {meth : Method} {c : Code} {G : xG} {sz : Nat} {o : Int32 × Mm} (X : xC G false sz p s m args c cX11_end 2 wsX11_end RX11 meth (some .int)) (v1 : Int32) {S : Mm} {H : Heap} {locs : List Loc} {ls : Array Slot} (hW : xW G false sz s H locs S) (hl : lv_has ls 2 [(0, .ref (G.2.2 10 0)), (1, .int v1)]) (h : F_X11_end v1 S = some o) : wX p l e rmX11_end s m args below meth c H locs (xQi G false sz o) (XA G false sz) 0 ls [] := by
  unfold F_X11_end at h
  refine lv_iload_n X.1 X.2.1 dX11_end_0 rfl (lv_at hl 1 rfl) ?_
  refine x_if_lt X (tgt := 12) dX11_end_1 (by decide) h (fun h => ?_) (fun h => ?_)
  · exact w_X11_end_12 X    hW (lv_sub hl [] rfl) h
  · refine lv_iload_n X.1 X.2.1 dX11_end_4 rfl (lv_at hl 1 rfl) ?_
    refine lv_aload_n X.1 X.2.1 dX11_end_5 rfl (lv_at hl 0 rfl) ?_
    refine x_getI X hW fd_Cell_tapeLength (fun w h => List.mem_cons_of_mem _ (gin_X11 w h)) (List.mem_cons_of_mem _ gw260) z_1 dX11_end_6 h (fun x1 h => ?_)
    refine x_icmp_le X (tgt := 14) dX11_end_9 (by decide) h (fun h => ?_) (fun h => ?_)
    · refine lv_aload_n X.1 X.2.1 dX11_end_14 rfl (lv_at hl 0 rfl) ?_
      refine lv_iload_n X.1 X.2.1 dX11_end_15 rfl (lv_at hl 1 rfl) ?_
      refine x_putI X hW fd_Cell_tapeLength (fun w h => List.mem_cons_of_mem _ (gin_X11 w h)) (List.mem_cons_of_mem _ gw260) z_1 dX11_end_16 tyX11 tyX11_ok nmX11 rfl rfl rfl h (fun S2 H locs h hW => ?_)
      refine lv_iload_n X.1 X.2.1 dX11_end_19 rfl (lv_at hl 1 rfl) ?_
      exact x_iret X hW h dX11_end_20
    · exact w_X11_end_12 X    hW (lv_sub hl [] rfl) h
theorem c_X11_end (l : Launch) (G : xG) (hD : xD G false) (sz : Nat) (S : Mm) (v1 : Int32) (o : Int32 × Mm) (h : F_X11_end v1 S = some o) : Met l yX11_end wsX11_end rmX11_end (xPre G false S sz [.ref (G.2.2 10 0), .int v1]) (xQi G false sz o) 0 0 (XA G false sz) :=
  x_start hD (by decide) rfl (Nat.le_of_ble_eq_true rfl) (fun p e s m below meth c X hW ls hl => w_X11_end_0 X v1 hW hl h)

/-! WirelessCell.alter(II)I -/
def rmX11_alter : Room := { frames := 0, cells := 0, slots := 0, locals := 0 }
def L_X11_alter_24   (S : Mm) : Option (Int32 × Mm) :=
  some ((-1), S)
def F_X11_alter (v1 : Int32) (v2 : Int32) (S : Mm) : Option (Int32 × Mm) :=
  if v1 < 0 then (
  L_X11_alter_24  S)
  else (
  gf S 105 0 fun x1 =>
  if x1 ≤ v1 then (
  L_X11_alter_24  S)
  else (
  if v2 < 1 then (
  L_X11_alter_24  S)
  else (
  if v2 ≤ 255 then (
  ldA S 55 0 300 1 v1 fun x2 =>
  stA S 55 0 300 1 v1 (x2 ^^^ v2) fun S3 =>
  ldA S3 55 0 300 1 v1 fun x4 =>
  some (x4, S3))
  else (
  L_X11_alter_24  S))))
set_option maxRecDepth 100000 in
set_option maxHeartbeats 4000000 in
theorem w_X11_alter_24 {p : Program} {l : Launch} {e : Env} {s : State} {m : MethodId} {args : Array Value} {below : List Frame} {meth : Method} {c : Code} {G : xG} {sz : Nat} {o : Int32 × Mm} (X : xC G false sz p s m args c cX11_alter 3 wsX11_alter RX11 meth (some .int))    {S : Mm} {H : Heap} {locs : List Loc} {ls : Array Slot} (hW : xW G false sz s H locs S) (hl : lv_has ls 3 []) (h : L_X11_alter_24   S = some o) : wX p l e rmX11_alter s m args below meth c H locs (xQi G false sz o) (XA G false sz) 24 ls [] := by
  unfold L_X11_alter_24 at h
  refine lv_iconst (v := (-1)) X.1 X.2.1 dX11_alter_24 rfl ?_
  exact x_iret X hW h dX11_alter_25
set_option maxRecDepth 100000 in
set_option maxHeartbeats 4000000 in
theorem w_X11_alter_0 {p : Program} {l : Launch} {e : Env} {s : State} {m : MethodId} {args : Array Value} {below : List Frame} {meth : Method} {c : Code} {G : xG} {sz : Nat} {o : Int32 × Mm} (X : xC G false sz p s m args c cX11_alter 3 wsX11_alter RX11 meth (some .int)) (v1 : Int32) (v2 : Int32) {S : Mm} {H : Heap} {locs : List Loc} {ls : Array Slot} (hW : xW G false sz s H locs S) (hl : lv_has ls 3 [(0, .ref (G.2.2 10 0)), (1, .int v1), (2, .int v2)]) (h : F_X11_alter v1 v2 S = some o) : wX p l e rmX11_alter s m args below meth c H locs (xQi G false sz o) (XA G false sz) 0 ls [] := by
  unfold F_X11_alter at h
  refine lv_iload_n X.1 X.2.1 dX11_alter_0 rfl (lv_at hl 1 rfl) ?_
  refine x_if_lt X (tgt := 24) dX11_alter_1 (by decide) h (fun h => ?_) (fun h => ?_)
  · exact w_X11_alter_24 X    hW (lv_sub hl [] rfl) h
  · refine lv_iload_n X.1 X.2.1 dX11_alter_4 rfl (lv_at hl 1 rfl) ?_
    refine lv_aload_n X.1 X.2.1 dX11_alter_5 rfl (lv_at hl 0 rfl) ?_
    refine x_getI X hW fd_Cell_tapeLength (fun w h => List.mem_cons_of_mem _ (gin_X11 w h)) (List.mem_cons_of_mem _ gw260) z_1 dX11_alter_6 h (fun x1 h => ?_)
    refine x_icmp_ge X (tgt := 24) dX11_alter_9 (by decide) h (fun h => ?_) (fun h => ?_)
    · exact w_X11_alter_24 X    hW (lv_sub hl [] rfl) h
    · refine lv_iload_n X.1 X.2.1 dX11_alter_12 rfl (lv_at hl 2 rfl) ?_
      refine lv_iconst (v := 1) X.1 X.2.1 dX11_alter_13 rfl ?_
      refine x_icmp_lt X (tgt := 24) dX11_alter_14 (by decide) h (fun h => ?_) (fun h => ?_)
      · exact w_X11_alter_24 X    hW (lv_sub hl [] rfl) h
      · refine lv_iload_n X.1 X.2.1 dX11_alter_17 rfl (lv_at hl 2 rfl) ?_
        refine lv_sipush (v := 255) X.1 X.2.1 dX11_alter_18 rfl ?_
        refine x_icmp_le X (tgt := 26) dX11_alter_21 (by decide) h (fun h => ?_) (fun h => ?_)
        · refine lv_aload_n X.1 X.2.1 dX11_alter_26 rfl (lv_at hl 0 rfl) ?_
          refine x_getR X hW fd_Cell_tape (fun w h => List.mem_cons_of_mem _ (gin_X11 w h)) (List.mem_cons_of_mem _ gw39) z_1 dX11_alter_27 ?_
          refine lv_iload_n X.1 X.2.1 dX11_alter_30 rfl (lv_at hl 1 rfl) ?_
          refine lv_dup2_11 X.1 X.2.1 dX11_alter_31 rfl rfl ?_
          refine x_iald X hW ar_55 dX11_alter_32 h (fun x2 h => ?_)
          refine lv_iload_n X.1 X.2.1 dX11_alter_33 rfl (lv_at hl 2 rfl) ?_
          refine lv_ixor X.1 X.2.1 dX11_alter_34 ?_
          refine x_iast X hW ar_55 dX11_alter_35 h (fun S3 H locs h hW => ?_)
          refine lv_aload_n X.1 X.2.1 dX11_alter_36 rfl (lv_at hl 0 rfl) ?_
          refine x_getR X hW fd_Cell_tape (fun w h => List.mem_cons_of_mem _ (gin_X11 w h)) (List.mem_cons_of_mem _ gw39) z_1 dX11_alter_37 ?_
          refine lv_iload_n X.1 X.2.1 dX11_alter_40 rfl (lv_at hl 1 rfl) ?_
          refine x_iald X hW ar_55 dX11_alter_41 h (fun x4 h => ?_)
          exact x_iret X hW h dX11_alter_42
        · exact w_X11_alter_24 X    hW (lv_sub hl [] rfl) h
theorem c_X11_alter (l : Launch) (G : xG) (hD : xD G false) (sz : Nat) (S : Mm) (v1 : Int32) (v2 : Int32) (o : Int32 × Mm) (h : F_X11_alter v1 v2 S = some o) : Met l yX11_alter wsX11_alter rmX11_alter (xPre G false S sz [.ref (G.2.2 10 0), .int v1, .int v2]) (xQi G false sz o) 0 0 (XA G false sz) :=
  x_start hD (by decide) rfl (Nat.le_of_ble_eq_true rfl) (fun p e s m below meth c X hW ls hl => w_X11_alter_0 X v1 v2 hW hl h)
