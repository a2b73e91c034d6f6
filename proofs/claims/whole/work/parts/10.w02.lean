/-! WirelessCell$Inbox.detail(II)I -/
def rmX3_detail : Room := { frames := 0, cells := 0, slots := 0, locals := 0 }
def L_X3_detail_18   (S : Mm) : Option (Int32 × Mm) :=
  some ((-1), S)
def L_X3_detail_76   (S : Mm) : Option (Int32 × Mm) :=
  some ((-1), S)
def F_X3_detail (v0 : Nat) (v1 : Int32) (v2 : Int32) (S : Mm) : Option (Int32 × Mm) :=
  gd (v0 < 9) (
  if v1 < 0 then (
  L_X3_detail_18  S)
  else (
  if 12 ≤ v1 then (
  L_X3_detail_18  S)
  else (
  gf S 61 v0 fun x1 =>
  if v1 < x1 then (
  if v2 = 0 then (
  ldA S 20 v0 12 9 v1 fun x6 =>
  some (x6, S))
  else (
  if v2 = 1 then (
  ldA S 19 v0 12 9 v1 fun x5 =>
  some (x5, S))
  else (
  if v2 < 10 then (
  L_X3_detail_76  S)
  else (
  ldA S 19 v0 12 9 v1 fun x2 =>
  if x2 ≤ (v2 - 10) then (
  L_X3_detail_76  S)
  else (
  ldR S 17 v0 12 9 v1 108 fun i3 =>
  ldA S 18 i3 200 108 (v2 - 10) fun x4 =>
  some (x4, S))))))
  else (
  L_X3_detail_18  S))))
set_option maxRecDepth 100000 in
set_option maxHeartbeats 4000000 in
theorem w_X3_detail_18 {p : Program} {l : Launch} {e : Env} {s : State} {m : MethodId} {args : Array Value} {below : List Frame} {meth : Method} {c : Code} {G : xG} {sz : Nat} {o : Int32 × Mm} (X : xC G false sz p s m args c cX3_detail 3 wsX3_detail RX3 meth (some .int))    {S : Mm} {H : Heap} {locs : List Loc} {ls : Array Slot} (hW : xW G false sz s H locs S) (hl : lv_has ls 3 []) (h : L_X3_detail_18   S = some o) : wX p l e rmX3_detail s m args below meth c H locs (xQi G false sz o) (XA G false sz) 18 ls [] := by
  unfold L_X3_detail_18 at h
  refine lv_iconst (v := (-1)) X.1 X.2.1 dX3_detail_18 rfl ?_
  exact x_iret X hW h dX3_detail_19
set_option maxRecDepth 100000 in
set_option maxHeartbeats 4000000 in
theorem w_X3_detail_76 {p : Program} {l : Launch} {e : Env} {s : State} {m : MethodId} {args : Array Value} {below : List Frame} {meth : Method} {c : Code} {G : xG} {sz : Nat} {o : Int32 × Mm} (X : xC G false sz p s m args c cX3_detail 3 wsX3_detail RX3 meth (some .int))    {S : Mm} {H : Heap} {locs : List Loc} {ls : Array Slot} (hW : xW G false sz s H locs S) (hl : lv_has ls 3 []) (h : L_X3_detail_76   S = some o) : wX p l e rmX3_detail s m args below meth c H locs (xQi G false sz o) (XA G false sz) 76 ls [] := by
  unfold L_X3_detail_76 at h
  refine lv_iconst (v := (-1)) X.1 X.2.1 dX3_detail_76 rfl ?_
  exact x_iret X hW h dX3_detail_77
set_option maxRecDepth 100000 in
set_option maxHeartbeats 4000000 in
theorem w_X3_detail_0 {p : Program} {l : Launch} {e : Env} {s : State} {m : MethodId} {args : Array Value} {below : List Frame} {meth : Method} {c : Code} {G : xG} {sz : Nat} {o : Int32 × Mm} (X : xC G false sz p s m args c cX3_detail 3 wsX3_detail RX3 meth (some .int)) (v0 : Nat) (v1 : Int32) (v2 : Int32) {S : Mm} {H : Heap} {locs : List Loc} {ls : Array Slot} (hW : xW G false sz s H locs S) (hl : lv_has ls 3 [(0, .ref (G.2.2 2 v0)), (1, .int v1), (2, .int v2)]) (h : F_X3_detail v0 v1 v2 S = some o) : wX p l e rmX3_detail s m args below meth c H locs (xQi G false sz o) (XA G false sz) 0 ls [] := by
  unfold F_X3_detail at h
  obtain ⟨qv0, h⟩ := if_some h
  refine lv_iload_n X.1 X.2.1 dX3_detail_0 rfl (lv_at hl 1 rfl) ?_
  refine x_if_lt X (tgt := 18) dX3_detail_1 (by decide) h (fun h => ?_) (fun h => ?_)
  · exact w_X3_detail_18 X    hW (lv_sub hl [] rfl) h
  · refine lv_iload_n X.1 X.2.1 dX3_detail_4 rfl (lv_at hl 1 rfl) ?_
    refine lv_bipush (v := 12) X.1 X.2.1 dX3_detail_5 rfl ?_
    refine x_icmp_ge X (tgt := 18) dX3_detail_7 (by decide) h (fun h => ?_) (fun h => ?_)
    · exact w_X3_detail_18 X    hW (lv_sub hl [] rfl) h
    · refine lv_iload_n X.1 X.2.1 dX3_detail_10 rfl (lv_at hl 1 rfl) ?_
      refine lv_aload_n X.1 X.2.1 dX3_detail_11 rfl (lv_at hl 0 rfl) ?_
      refine x_getI X hW fd_Inbox_delivered (fun w h => List.mem_cons_of_mem _ (gin_X3 w h)) (List.mem_cons_of_mem _ gw838) qv0 dX3_detail_12 h (fun x1 h => ?_)
      refine x_icmp_lt X (tgt := 20) dX3_detail_15 (by decide) h (fun h => ?_) (fun h => ?_)
      · refine lv_iload_n X.1 X.2.1 dX3_detail_20 rfl (lv_at hl 2 rfl) ?_
        refine x_if_ne X (tgt := 31) dX3_detail_21 (by decide) h (fun h => ?_) (fun h => ?_)
        · refine lv_iload_n X.1 X.2.1 dX3_detail_31 rfl (lv_at hl 2 rfl) ?_
          refine lv_iconst (v := 1) X.1 X.2.1 dX3_detail_32 rfl ?_
          refine x_icmp_ne X (tgt := 43) dX3_detail_33 (by decide) h (fun h => ?_) (fun h => ?_)
          · refine lv_iload_n X.1 X.2.1 dX3_detail_43 rfl (lv_at hl 2 rfl) ?_
            refine lv_bipush (v := 10) X.1 X.2.1 dX3_detail_44 rfl ?_
            refine x_icmp_lt X (tgt := 76) dX3_detail_46 (by decide) h (fun h => ?_) (fun h => ?_)
            · exact w_X3_detail_76 X    hW (lv_sub hl [] rfl) h
            · refine lv_iload_n X.1 X.2.1 dX3_detail_49 rfl (lv_at hl 2 rfl) ?_
              refine lv_bipush (v := 10) X.1 X.2.1 dX3_detail_50 rfl ?_
              refine lv_isub X.1 X.2.1 dX3_detail_52 ?_
              refine lv_aload_n X.1 X.2.1 dX3_detail_53 rfl (lv_at hl 0 rfl) ?_
              refine x_getR X hW fd_Inbox_lengths (fun w h => List.mem_cons_of_mem _ (gin_X3 w h)) (List.mem_cons_of_mem _ gw131) qv0 dX3_detail_54 ?_
              refine lv_iload_n X.1 X.2.1 dX3_detail_57 rfl (lv_at hl 1 rfl) ?_
              refine x_iald X hW ar_19 dX3_detail_58 h (fun x2 h => ?_)
              refine x_icmp_ge X (tgt := 76) dX3_detail_59 (by decide) h (fun h => ?_) (fun h => ?_)
              · exact w_X3_detail_76 X    hW (lv_sub hl [] rfl) h
              · refine lv_aload_n X.1 X.2.1 dX3_detail_62 rfl (lv_at hl 0 rfl) ?_
                refine x_getR X hW fd_Inbox_said (fun w h => List.mem_cons_of_mem _ (gin_X3 w h)) (List.mem_cons_of_mem _ gw130) qv0 dX3_detail_63 ?_
                refine lv_iload_n X.1 X.2.1 dX3_detail_66 rfl (lv_at hl 1 rfl) ?_
                refine x_aald X hW ar_17 (ct := 18) rfl (at_17 G) rfl dX3_detail_67 h (fun i3 qi3 h => ?_)
                refine lv_iload_n X.1 X.2.1 dX3_detail_68 rfl (lv_at hl 2 rfl) ?_
                refine lv_bipush (v := 10) X.1 X.2.1 dX3_detail_69 rfl ?_
                refine lv_isub X.1 X.2.1 dX3_detail_71 ?_
                refine x_iald X hW ar_18 dX3_detail_72 h (fun x4 h => ?_)
                refine lv_goto (tgt := 77) X.1 X.2.1 dX3_detail_73 (by decide) ?_
                exact x_iret X hW h dX3_detail_77
          · refine lv_aload_n X.1 X.2.1 dX3_detail_36 rfl (lv_at hl 0 rfl) ?_
            refine x_getR X hW fd_Inbox_lengths (fun w h => List.mem_cons_of_mem _ (gin_X3 w h)) (List.mem_cons_of_mem _ gw131) qv0 dX3_detail_37 ?_
            refine lv_iload_n X.1 X.2.1 dX3_detail_40 rfl (lv_at hl 1 rfl) ?_
            refine x_iald X hW ar_19 dX3_detail_41 h (fun x5 h => ?_)
            exact x_iret X hW h dX3_detail_42
        · refine lv_aload_n X.1 X.2.1 dX3_detail_24 rfl (lv_at hl 0 rfl) ?_
          refine x_getR X hW fd_Inbox_speakers (fun w h => List.mem_cons_of_mem _ (gin_X3 w h)) (List.mem_cons_of_mem _ gw132) qv0 dX3_detail_25 ?_
          refine lv_iload_n X.1 X.2.1 dX3_detail_28 rfl (lv_at hl 1 rfl) ?_
          refine x_iald X hW ar_20 dX3_detail_29 h (fun x6 h => ?_)
          exact x_iret X hW h dX3_detail_30
      · exact w_X3_detail_18 X    hW (lv_sub hl [] rfl) h
theorem c_X3_detail (l : Launch) (G : xG) (hD : xD G false) (sz : Nat) (S : Mm) (v0 : Nat) (v1 : Int32) (v2 : Int32) (o : Int32 × Mm) (h : F_X3_detail v0 v1 v2 S = some o) : Met l yX3_detail wsX3_detail rmX3_detail (xPre G false S sz [.ref (G.2.2 2 v0), .int v1, .int v2]) (xQi G false sz o) 0 0 (XA G false sz) :=
  x_start hD (by decide) rfl (Nat.le_of_ble_eq_true rfl) (fun p e s m below meth c X hW ls hl => w_X3_detail_0 X v0 v1 v2 hW hl h)

/-! WirelessCell$Link.loseKey(I)V -/
def rmX4_loseKey : Room := { frames := 0, cells := 0, slots := 0, locals := 0 }
def F_X4_loseKey (v0 : Nat) (v1 : Int32) (S : Mm) : Option (Unit × Mm) :=
  gd (v0 < 18) (
  pf S 62 v0 v1 fun S1 =>
  pf S1 64 v0 0 fun S2 =>
  pf S2 67 v0 0 fun S3 =>
  some ((), S3))
set_option maxRecDepth 100000 in
set_option maxHeartbeats 4000000 in
theorem w_X4_loseKey_0 {p : Program} {l : Launch} {e : Env} {s : State} {m : MethodId} {args : Array Value} {below : List Frame} {meth : Method} {c : Code} {G : xG} {sz : Nat} {o : Unit × Mm} (X : xC G false sz p s m args c cX4_loseKey 2 wsX4_loseKey RX4 meth none) (v0 : Nat) (v1 : Int32) {S : Mm} {H : Heap} {locs : List Loc} {ls : Array Slot} (hW : xW G false sz s H locs S) (hl : lv_has ls 2 [(0, .ref (G.2.2 3 v0)), (1, .int v1)]) (h : F_X4_loseKey v0 v1 S = some o) : wX p l e rmX4_loseKey s m args below meth c H locs (xQv G false sz o) (XA G false sz) 0 ls [] := by
  unfold F_X4_loseKey at h
  obtain ⟨qv0, h⟩ := if_some h
  refine lv_aload_n X.1 X.2.1 dX4_loseKey_0 rfl (lv_at hl 0 rfl) ?_
  refine lv_iload_n X.1 X.2.1 dX4_loseKey_1 rfl (lv_at hl 1 rfl) ?_
  refine x_putI X hW fd_Link_state (fun w h => List.mem_cons_of_mem _ (gin_X4 w h)) (List.mem_cons_of_mem _ gw140) qv0 dX4_loseKey_2 tyX4 tyX4_ok nmX4 rfl rfl rfl h (fun S1 H locs h hW => ?_)
  refine lv_aload_n X.1 X.2.1 dX4_loseKey_5 rfl (lv_at hl 0 rfl) ?_
  refine lv_iconst (v := 0) X.1 X.2.1 dX4_loseKey_6 rfl ?_
  refine x_putI X hW fd_Link_hasTried (fun w h => List.mem_cons_of_mem _ (gin_X4 w h)) (List.mem_cons_of_mem _ gw478) qv0 dX4_loseKey_7 tyX4 tyX4_ok nmX4 rfl rfl rfl h (fun S2 H locs h hW => ?_)
  refine lv_aload_n X.1 X.2.1 dX4_loseKey_10 rfl (lv_at hl 0 rfl) ?_
  refine lv_iconst (v := 0) X.1 X.2.1 dX4_loseKey_11 rfl ?_
  refine x_putI X hW fd_Link_begun (fun w h => List.mem_cons_of_mem _ (gin_X4 w h)) (List.mem_cons_of_mem _ gw479) qv0 dX4_loseKey_12 tyX4 tyX4_ok nmX4 rfl rfl rfl h (fun S3 H locs h hW => ?_)
  exact x_vret X hW h dX4_loseKey_15
theorem c_X4_loseKey (l : Launch) (G : xG) (hD : xD G false) (sz : Nat) (S : Mm) (v0 : Nat) (v1 : Int32) (o : Unit × Mm) (h : F_X4_loseKey v0 v1 S = some o) : Met l yX4_loseKey wsX4_loseKey rmX4_loseKey (xPre G false S sz [.ref (G.2.2 3 v0), .int v1]) (xQv G false sz o) 0 0 (XA G false sz) :=
  x_start hD (by decide) rfl (Nat.le_of_ble_eq_true rfl) (fun p e s m below meth c X hW ls hl => w_X4_loseKey_0 X v0 v1 hW hl h)

/-! WirelessCell$Link.keepTried([I)V -/
def rmX4_keepTried : Room := { frames := 1, cells := 0, slots := 0, locals := 18 }
def F_X4_keepTried (v0 : Nat) (cv1 : Nat) (v1 : Nat) (S : Mm) : Option (Unit × Mm) :=
  gd (v0 < 18) (
  cpP false S cv1 v1 0 22 v0 0 48 fun S1 =>
  pf S1 64 v0 1 fun S2 =>
  some ((), S2))
set_option maxRecDepth 100000 in
set_option maxHeartbeats 4000000 in
theorem w_X4_keepTried_0 {p : Program} {l : Launch} {e : Env} {s : State} {m : MethodId} {args : Array Value} {below : List Frame} {meth : Method} {c : Code} {G : xG} {sz : Nat} {o : Unit × Mm} (X : xC G false sz p s m args c cX4_keepTried 2 wsX4_keepTried RX4 meth none) (v0 : Nat) (cv1 : Nat) (v1 : Nat) {S : Mm} {H : Heap} {locs : List Loc} {ls : Array Slot} (hW : xW G false sz s H locs S) (hl : lv_has ls 2 [(0, .ref (G.2.2 3 v0)), (1, .ref (G.2.2 cv1 v1))]) (h : F_X4_keepTried v0 cv1 v1 S = some o) : wX p l e rmX4_keepTried s m args below meth c H locs (xQv G false sz o) (XA G false sz) 0 ls [] := by
  unfold F_X4_keepTried at h
  obtain ⟨qv0, h⟩ := if_some h
  refine lv_aload_n X.1 X.2.1 dX4_keepTried_0 rfl (lv_at hl 1 rfl) ?_
  refine lv_iconst (v := 0) X.1 X.2.1 dX4_keepTried_1 rfl ?_
  refine lv_aload_n X.1 X.2.1 dX4_keepTried_2 rfl (lv_at hl 0 rfl) ?_
  refine x_getR X hW fd_Link_tried (fun w h => List.mem_cons_of_mem _ (gin_X4 w h)) (List.mem_cons_of_mem _ gw142) qv0 dX4_keepTried_3 ?_
  refine lv_iconst (v := 0) X.1 X.2.1 dX4_keepTried_6 rfl ?_
  refine lv_bipush (v := 48) X.1 X.2.1 dX4_keepTried_7 rfl ?_
  refine x_acopy X hW hl.1 (List.mem_cons_of_mem _ gw822) (List.mem_cons_of_mem _ gw325) (List.mem_cons_of_mem _ gw326) (List.mem_cons_of_mem _ gw327) (Nat.le_of_ble_eq_true rfl) (Nat.le_of_ble_eq_true rfl) dX4_keepTried_9 h (fun S1 H locs h hW => ?_)
  refine lv_aload_n X.1 X.2.1 dX4_keepTried_12 rfl (lv_at hl 0 rfl) ?_
  refine lv_iconst (v := 1) X.1 X.2.1 dX4_keepTried_13 rfl ?_
  refine x_putI X hW fd_Link_hasTried (fun w h => List.mem_cons_of_mem _ (gin_X4 w h)) (List.mem_cons_of_mem _ gw478) qv0 dX4_keepTried_14 tyX4 tyX4_ok nmX4 rfl rfl rfl h (fun S2 H locs h hW => ?_)
  exact x_vret X hW h dX4_keepTried_17
theorem c_X4_keepTried (l : Launch) (G : xG) (hD : xD G false) (sz : Nat) (S : Mm) (v0 : Nat) (cv1 : Nat) (v1 : Nat) (o : Unit × Mm) (h : F_X4_keepTried v0 cv1 v1 S = some o) : Met l yX4_keepTried wsX4_keepTried rmX4_keepTried (xPre G false S sz [.ref (G.2.2 3 v0), .ref (G.2.2 cv1 v1)]) (xQv G false sz o) 0 0 (XA G false sz) :=
  x_start hD (by decide) rfl (Nat.le_of_ble_eq_true rfl) (fun p e s m below meth c X hW ls hl => w_X4_keepTried_0 X v0 cv1 v1 hW hl h)

/-! WirelessCell$Link.keyByTried()V -/
def rmX4_keyByTried : Room := { frames := 1, cells := 0, slots := 0, locals := 18 }
def F_X4_keyByTried (v0 : Nat) (S : Mm) : Option (Unit × Mm) :=
  gd (v0 < 18) (
  pf S 62 v0 4 fun S1 =>
  cpP false S1 22 v0 32 24 v0 0 16 fun S2 =>
  pl S2 65 v0 0 fun S3 =>
  pl S3 66 v0 1 fun S4 =>
  pf S4 67 v0 0 fun S5 =>
  some ((), S5))
set_option maxRecDepth 100000 in
set_option maxHeartbeats 4000000 in
theorem w_X4_keyByTried_0 {p : Program} {l : Launch} {e : Env} {s : State} {m : MethodId} {args : Array Value} {below : List Frame} {meth : Method} {c : Code} {G : xG} {sz : Nat} {o : Unit × Mm} (X : xC G false sz p s m args c cX4_keyByTried 1 wsX4_keyByTried RX4 meth none) (v0 : Nat) {S : Mm} {H : Heap} {locs : List Loc} {ls : Array Slot} (hW : xW G false sz s H locs S) (hl : lv_has ls 1 [(0, .ref (G.2.2 3 v0))]) (h : F_X4_keyByTried v0 S = some o) : wX p l e rmX4_keyByTried s m args below meth c H locs (xQv G false sz o) (XA G false sz) 0 ls [] := by
  unfold F_X4_keyByTried at h
  obtain ⟨qv0, h⟩ := if_some h
  refine lv_aload_n X.1 X.2.1 dX4_keyByTried_0 rfl (lv_at hl 0 rfl) ?_
  refine lv_iconst (v := 4) X.1 X.2.1 dX4_keyByTried_1 rfl ?_
  refine x_putI X hW fd_Link_state (fun w h => List.mem_cons_of_mem _ (gin_X4 w h)) (List.mem_cons_of_mem _ gw140) qv0 dX4_keyByTried_2 tyX4 tyX4_ok nmX4 rfl rfl rfl h (fun S1 H locs h hW => ?_)
  refine lv_aload_n X.1 X.2.1 dX4_keyByTried_5 rfl (lv_at hl 0 rfl) ?_
  refine x_getR X hW fd_Link_tried (fun w h => List.mem_cons_of_mem _ (gin_X4 w h)) (List.mem_cons_of_mem _ gw142) qv0 dX4_keyByTried_6 ?_
  refine lv_bipush (v := 32) X.1 X.2.1 dX4_keyByTried_9 rfl ?_
  refine lv_aload_n X.1 X.2.1 dX4_keyByTried_11 rfl (lv_at hl 0 rfl) ?_
  refine x_getR X hW fd_Link_tk (fun w h => List.mem_cons_of_mem _ (gin_X4 w h)) (List.mem_cons_of_mem _ gw144) qv0 dX4_keyByTried_12 ?_
  refine lv_iconst (v := 0) X.1 X.2.1 dX4_keyByTried_15 rfl ?_
  refine lv_bipush (v := 16) X.1 X.2.1 dX4_keyByTried_16 rfl ?_
  refine x_acopy X hW hl.1 (List.mem_cons_of_mem _ gw822) (List.mem_cons_of_mem _ gw325) (List.mem_cons_of_mem _ gw326) (List.mem_cons_of_mem _ gw327) (Nat.le_of_ble_eq_true rfl) (Nat.le_of_ble_eq_true rfl) dX4_keyByTried_18 h (fun S2 H locs h hW => ?_)
  refine lv_aload_n X.1 X.2.1 dX4_keyByTried_21 rfl (lv_at hl 0 rfl) ?_
  refine lv_lconst (v := 0) X.1 X.2.1 dX4_keyByTried_22 rfl ?_
  refine x_putL X hW fd_Link_taken (fun w h => List.mem_cons_of_mem _ (gin_X4 w h)) (List.mem_cons_of_mem _ gw961) qv0 dX4_keyByTried_23 tyX4 tyX4_ok nmX4 rfl rfl rfl h (fun S3 H locs h hW => ?_)
  refine lv_aload_n X.1 X.2.1 dX4_keyByTried_26 rfl (lv_at hl 0 rfl) ?_
  refine lv_lconst (v := 1) X.1 X.2.1 dX4_keyByTried_27 rfl ?_
  refine x_putL X hW fd_Link_nextToSeal (fun w h => List.mem_cons_of_mem _ (gin_X4 w h)) (List.mem_cons_of_mem _ gw145) qv0 dX4_keyByTried_28 tyX4 tyX4_ok nmX4 rfl rfl rfl h (fun S4 H locs h hW => ?_)
  refine lv_aload_n X.1 X.2.1 dX4_keyByTried_31 rfl (lv_at hl 0 rfl) ?_
  refine lv_iconst (v := 0) X.1 X.2.1 dX4_keyByTried_32 rfl ?_
  refine x_putI X hW fd_Link_begun (fun w h => List.mem_cons_of_mem _ (gin_X4 w h)) (List.mem_cons_of_mem _ gw479) qv0 dX4_keyByTried_33 tyX4 tyX4_ok nmX4 rfl rfl rfl h (fun S5 H locs h hW => ?_)
  exact x_vret X hW h dX4_keyByTried_36
theorem c_X4_keyByTried (l : Launch) (G : xG) (hD : xD G false) (sz : Nat) (S : Mm) (v0 : Nat) (o : Unit × Mm) (h : F_X4_keyByTried v0 S = some o) : Met l yX4_keyByTried wsX4_keyByTried rmX4_keyByTried (xPre G false S sz [.ref (G.2.2 3 v0)]) (xQv G false sz o) 0 0 (XA G false sz) :=
  x_start hD (by decide) rfl (Nat.le_of_ble_eq_true rfl) (fun p e s m below meth c X hW ls hl => w_X4_keyByTried_0 X v0 hW hl h)

/-! WirelessCell$Link.addPart([I[II)Z -/
def rmX4_addPart : Room := { frames := 1, cells := 0, slots := 0, locals := 18 }
def L_X4_addPart_94  (v0 : Nat) (cv2 : Nat) (v2 : Nat) (v3 : Int32) (s0 : Int32) (S : Mm) : Option (Int32 × Mm) :=
  if s0 = 0 then (
  pf S 67 v0 0 fun S20 =>
  some (0, S20))
  else (
  gf S 70 v0 fun x14 =>
  cpP false S cv2 v2 0 25 v0 x14 v3 fun S15 =>
  gf S15 70 v0 fun x16 =>
  pf S15 70 v0 (x16 + v3) fun S17 =>
  gf S17 69 v0 fun x18 =>
  pf S17 69 v0 (x18 + 1) fun S19 =>
  some (1, S19))
def L_X4_addPart_93  (v0 : Nat) (cv2 : Nat) (v2 : Nat) (v3 : Int32) (S : Mm) : Option (Int32 × Mm) :=
  L_X4_addPart_94  v0 cv2 v2 v3 0 S
def L_X4_addPart_52  (v0 : Nat) (cv2 : Nat) (v2 : Nat) (v3 : Int32) (v4 : Int32) (v5 : Int32) (S : Mm) : Option (Int32 × Mm) :=
  gf S 67 v0 fun x10 =>
  if x10 = 0 then (
  L_X4_addPart_93  v0 cv2 v2 v3 S)
  else (
  gf S 69 v0 fun x11 =>
  if v4 = x11 then (
  gf S 68 v0 fun x12 =>
  if v5 = x12 then (
  gf S 70 v0 fun x13 =>
  if 208 < (x13 + v3) then (
  L_X4_addPart_93  v0 cv2 v2 v3 S)
  else (
  L_X4_addPart_94  v0 cv2 v2 v3 1 S))
  else (
  L_X4_addPart_93  v0 cv2 v2 v3 S))
  else (
  L_X4_addPart_93  v0 cv2 v2 v3 S))
def F_X4_addPart (v0 : Nat) (cv1 : Nat) (v1 : Nat) (cv2 : Nat) (v2 : Nat) (v3 : Int32) (S : Mm) : Option (Int32 × Mm) :=
  gd (v0 < 18) (
  ldP false S cv1 v1 22 fun x1 =>
  tp (x1 &&& 15) fun x2 =>
  ldP false S cv1 v1 22 fun x3 =>
  ldP false S cv1 v1 23 fun x4 =>
  tp ((x3 + (256 * x4)) >>> (4 &&& 31)) fun x5 =>
  if x2 = 0 then (
  pf S 67 v0 1 fun S6 =>
  pf S6 68 v0 x5 fun S7 =>
  pf S7 69 v0 0 fun S8 =>
  pf S8 70 v0 0 fun S9 =>
  L_X4_addPart_52  v0 cv2 v2 v3 x2 x5 S9)
  else (
  L_X4_addPart_52  v0 cv2 v2 v3 x2 x5 S))
set_option maxRecDepth 100000 in
set_option maxHeartbeats 4000000 in
theorem w_X4_addPart_94 {p : Program} {l : Launch} {e : Env} {s : State} {m : MethodId} {args : Array Value} {below : List Frame} {meth : Method} {c : Code} {G : xG} {sz : Nat} {o : Int32 × Mm} (X : xC G false sz p s m args c cX4_addPart 7 wsX4_addPart RX4 meth (some .boolean)) (v0 : Nat) (cv2 : Nat) (v2 : Nat) (v3 : Int32) (s0 : Int32) (qv0 : v0 < 18)  {S : Mm} {H : Heap} {locs : List Loc} {ls : Array Slot} (hW : xW G false sz s H locs S) (hl : lv_has ls 7 [(0, .ref (G.2.2 3 v0)), (2, .ref (G.2.2 cv2 v2)), (3, .int v3)]) (h : L_X4_addPart_94  v0 cv2 v2 v3 s0 S = some o) : wX p l e rmX4_addPart s m args below meth c H locs (xQi G false sz o) (XA G false sz) 94 ls [.int s0] := by
  unfold L_X4_addPart_94 at h
  refine lv_istore (lv' := [(6, .int s0), (0, .ref (G.2.2 3 v0)), (2, .ref (G.2.2 cv2 v2)), (3, .int v3)]) X.1 X.2.1 dX4_addPart_94 hl (by decide) rfl (fun ls hl => ?_)
  refine lv_iload X.1 X.2.1 dX4_addPart_96 (lv_at hl 0 rfl) ?_
  refine x_if_ne X (tgt := 108) dX4_addPart_98 (by decide) h (fun h => ?_) (fun h => ?_)
  · refine lv_aload_n X.1 X.2.1 dX4_addPart_108 rfl (lv_at hl 2 rfl) ?_
    refine lv_iconst (v := 0) X.1 X.2.1 dX4_addPart_109 rfl ?_
    refine lv_aload_n X.1 X.2.1 dX4_addPart_110 rfl (lv_at hl 1 rfl) ?_
    refine x_getR X hW fd_Link_bytes (fun w h => List.mem_cons_of_mem _ (gin_X4 w h)) (List.mem_cons_of_mem _ gw146) qv0 dX4_addPart_111 ?_
    refine lv_aload_n X.1 X.2.1 dX4_addPart_114 rfl (lv_at hl 1 rfl) ?_
    refine x_getI X hW fd_Link_length (fun w h => List.mem_cons_of_mem _ (gin_X4 w h)) (List.mem_cons_of_mem _ gw821) qv0 dX4_addPart_115 h (fun x14 h => ?_)
    refine lv_iload_n X.1 X.2.1 dX4_addPart_118 rfl (lv_at hl 3 rfl) ?_
    refine x_acopy X hW hl.1 (List.mem_cons_of_mem _ gw822) (List.mem_cons_of_mem _ gw325) (List.mem_cons_of_mem _ gw326) (List.mem_cons_of_mem _ gw327) (Nat.le_of_ble_eq_true rfl) (Nat.le_of_ble_eq_true rfl) dX4_addPart_119 h (fun S15 H locs h hW => ?_)
    refine lv_aload_n X.1 X.2.1 dX4_addPart_122 rfl (lv_at hl 1 rfl) ?_
    refine lv_dup X.1 X.2.1 dX4_addPart_123 rfl ?_
    refine x_getI X hW fd_Link_length (fun w h => List.mem_cons_of_mem _ (gin_X4 w h)) (List.mem_cons_of_mem _ gw821) qv0 dX4_addPart_124 h (fun x16 h => ?_)
    refine lv_iload_n X.1 X.2.1 dX4_addPart_127 rfl (lv_at hl 3 rfl) ?_
    refine lv_iadd X.1 X.2.1 dX4_addPart_128 ?_
    refine x_putI X hW fd_Link_length (fun w h => List.mem_cons_of_mem _ (gin_X4 w h)) (List.mem_cons_of_mem _ gw821) qv0 dX4_addPart_129 tyX4 tyX4_ok nmX4 rfl rfl rfl h (fun S17 H locs h hW => ?_)
    refine lv_aload_n X.1 X.2.1 dX4_addPart_132 rfl (lv_at hl 1 rfl) ?_
    refine lv_dup X.1 X.2.1 dX4_addPart_133 rfl ?_
    refine x_getI X hW fd_Link_nextPart (fun w h => List.mem_cons_of_mem _ (gin_X4 w h)) (List.mem_cons_of_mem _ gw820) qv0 dX4_addPart_134 h (fun x18 h => ?_)
    refine lv_iconst (v := 1) X.1 X.2.1 dX4_addPart_137 rfl ?_
    refine lv_iadd X.1 X.2.1 dX4_addPart_138 ?_
    refine x_putI X hW fd_Link_nextPart (fun w h => List.mem_cons_of_mem _ (gin_X4 w h)) (List.mem_cons_of_mem _ gw820) qv0 dX4_addPart_139 tyX4 tyX4_ok nmX4 rfl rfl rfl h (fun S19 H locs h hW => ?_)
    refine lv_iconst (v := 1) X.1 X.2.1 dX4_addPart_142 rfl ?_
    exact x_zret X hW h rfl dX4_addPart_143
  · refine lv_aload_n X.1 X.2.1 dX4_addPart_101 rfl (lv_at hl 1 rfl) ?_
    refine lv_iconst (v := 0) X.1 X.2.1 dX4_addPart_102 rfl ?_
    refine x_putI X hW fd_Link_begun (fun w h => List.mem_cons_of_mem _ (gin_X4 w h)) (List.mem_cons_of_mem _ gw479) qv0 dX4_addPart_103 tyX4 tyX4_ok nmX4 rfl rfl rfl h (fun S20 H locs h hW => ?_)
    refine lv_iconst (v := 0) X.1 X.2.1 dX4_addPart_106 rfl ?_
    exact x_zret X hW h rfl dX4_addPart_107
set_option maxRecDepth 100000 in
set_option maxHeartbeats 4000000 in
theorem w_X4_addPart_93 {p : Program} {l : Launch} {e : Env} {s : State} {m : MethodId} {args : Array Value} {below : List Frame} {meth : Method} {c : Code} {G : xG} {sz : Nat} {o : Int32 × Mm} (X : xC G false sz p s m args c cX4_addPart 7 wsX4_addPart RX4 meth (some .boolean)) (v0 : Nat) (cv2 : Nat) (v2 : Nat) (v3 : Int32) (qv0 : v0 < 18)  {S : Mm} {H : Heap} {locs : List Loc} {ls : Array Slot} (hW : xW G false sz s H locs S) (hl : lv_has ls 7 [(0, .ref (G.2.2 3 v0)), (2, .ref (G.2.2 cv2 v2)), (3, .int v3)]) (h : L_X4_addPart_93  v0 cv2 v2 v3 S = some o) : wX p l e rmX4_addPart s m args below meth c H locs (xQi G false sz o) (XA G false sz) 93 ls [] := by
  unfold L_X4_addPart_93 at h
  refine lv_iconst (v := 0) X.1 X.2.1 dX4_addPart_93 rfl ?_
  exact w_X4_addPart_94 X v0 cv2 v2 v3 0 qv0  hW (lv_sub hl [0, 1, 2] rfl) h
set_option maxRecDepth 100000 in
set_option maxHeartbeats 4000000 in
theorem w_X4_addPart_52 {p : Program} {l : Launch} {e : Env} {s : State} {m : MethodId} {args : Array Value} {below : List Frame} {meth : Method} {c : Code} {G : xG} {sz : Nat} {o : Int32 × Mm} (X : xC G false sz p s m args c cX4_addPart 7 wsX4_addPart RX4 meth (some .boolean)) (v0 : Nat) (cv2 : Nat) (v2 : Nat) (v3 : Int32) (v4 : Int32) (v5 : Int32) (qv0 : v0 < 18)  {S : Mm} {H : Heap} {locs : List Loc} {ls : Array Slot} (hW : xW G false sz s H locs S) (hl : lv_has ls 7 [(0, .ref (G.2.2 3 v0)), (2, .ref (G.2.2 cv2 v2)), (3, .int v3), (4, .int v4), (5, .int v5)]) (h : L_X4_addPart_52  v0 cv2 v2 v3 v4 v5 S = some o) : wX p l e rmX4_addPart s m args below meth c H locs (xQi G false sz o) (XA G false sz) 52 ls [] := by
  unfold L_X4_addPart_52 at h
  refine lv_aload_n X.1 X.2.1 dX4_addPart_52 rfl (lv_at hl 0 rfl) ?_
  refine x_getI X hW fd_Link_begun (fun w h => List.mem_cons_of_mem _ (gin_X4 w h)) (List.mem_cons_of_mem _ gw479) qv0 dX4_addPart_53 h (fun x10 h => ?_)
  refine x_if_eq X (tgt := 93) dX4_addPart_56 (by decide) h (fun h => ?_) (fun h => ?_)
  · exact w_X4_addPart_93 X v0 cv2 v2 v3 qv0  hW (lv_sub hl [0, 1, 2] rfl) h
  · refine lv_iload X.1 X.2.1 dX4_addPart_59 (lv_at hl 3 rfl) ?_
    refine lv_aload_n X.1 X.2.1 dX4_addPart_61 rfl (lv_at hl 0 rfl) ?_
    refine x_getI X hW fd_Link_nextPart (fun w h => List.mem_cons_of_mem _ (gin_X4 w h)) (List.mem_cons_of_mem _ gw820) qv0 dX4_addPart_62 h (fun x11 h => ?_)
    refine x_icmp_ne X (tgt := 93) dX4_addPart_65 (by decide) h (fun h => ?_) (fun h => ?_)
    · exact w_X4_addPart_93 X v0 cv2 v2 v3 qv0  hW (lv_sub hl [0, 1, 2] rfl) h
    · refine lv_iload X.1 X.2.1 dX4_addPart_68 (lv_at hl 4 rfl) ?_
      refine lv_aload_n X.1 X.2.1 dX4_addPart_70 rfl (lv_at hl 0 rfl) ?_
      refine x_getI X hW fd_Link_sequence (fun w h => List.mem_cons_of_mem _ (gin_X4 w h)) (List.mem_cons_of_mem _ gw819) qv0 dX4_addPart_71 h (fun x12 h => ?_)
      refine x_icmp_ne X (tgt := 93) dX4_addPart_74 (by decide) h (fun h => ?_) (fun h => ?_)
      · exact w_X4_addPart_93 X v0 cv2 v2 v3 qv0  hW (lv_sub hl [0, 1, 2] rfl) h
      · refine lv_aload_n X.1 X.2.1 dX4_addPart_77 rfl (lv_at hl 0 rfl) ?_
        refine x_getI X hW fd_Link_length (fun w h => List.mem_cons_of_mem _ (gin_X4 w h)) (List.mem_cons_of_mem _ gw821) qv0 dX4_addPart_78 h (fun x13 h => ?_)
        refine lv_iload_n X.1 X.2.1 dX4_addPart_81 rfl (lv_at hl 2 rfl) ?_
        refine lv_iadd X.1 X.2.1 dX4_addPart_82 ?_
        refine lv_sipush (v := 208) X.1 X.2.1 dX4_addPart_83 rfl ?_
        refine x_icmp_gt X (tgt := 93) dX4_addPart_86 (by decide) h (fun h => ?_) (fun h => ?_)
        · exact w_X4_addPart_93 X v0 cv2 v2 v3 qv0  hW (lv_sub hl [0, 1, 2] rfl) h
        · refine lv_iconst (v := 1) X.1 X.2.1 dX4_addPart_89 rfl ?_
          refine lv_goto (tgt := 94) X.1 X.2.1 dX4_addPart_90 (by decide) ?_
          exact w_X4_addPart_94 X v0 cv2 v2 v3 1 qv0  hW (lv_sub hl [0, 1, 2] rfl) h
set_option maxRecDepth 100000 in
set_option maxHeartbeats 4000000 in
theorem w_X4_addPart_0 {p : Program} {l : Launch} {e : Env} {s : State} {m : MethodId} {args : Array Value} {below : List Frame} {meth : Method} {c : Code} {G : xG} {sz : Nat} {o : Int32 × Mm} (X : xC G false sz p s m args c cX4_addPart 7 wsX4_addPart RX4 meth (some .boolean)) (v0 : Nat) (cv1 : Nat) (v1 : Nat) (cv2 : Nat) (v2 : Nat) (v3 : Int32) {S : Mm} {H : Heap} {locs : List Loc} {ls : Array Slot} (hW : xW G false sz s H locs S) (hl : lv_has ls 7 [(0, .ref (G.2.2 3 v0)), (1, .ref (G.2.2 cv1 v1)), (2, .ref (G.2.2 cv2 v2)), (3, .int v3)]) (h : F_X4_addPart v0 cv1 v1 cv2 v2 v3 S = some o) : wX p l e rmX4_addPart s m args below meth c H locs (xQi G false sz o) (XA G false sz) 0 ls [] := by
  unfold F_X4_addPart at h
  obtain ⟨qv0, h⟩ := if_some h
  refine lv_aload_n X.1 X.2.1 dX4_addPart_0 rfl (lv_at hl 1 rfl) ?_
  refine lv_bipush (v := 22) X.1 X.2.1 dX4_addPart_1 rfl ?_
  refine x_ialdP X hW dX4_addPart_3 h (fun x1 h => ?_)
  refine lv_bipush (v := 15) X.1 X.2.1 dX4_addPart_4 rfl ?_
  refine lv_iand X.1 X.2.1 dX4_addPart_6 ?_
  refine x_top h (fun x2 h => ?_)
  refine lv_istore (lv' := [(4, .int x2), (0, .ref (G.2.2 3 v0)), (1, .ref (G.2.2 cv1 v1)), (2, .ref (G.2.2 cv2 v2)), (3, .int v3)]) X.1 X.2.1 dX4_addPart_7 hl (by decide) rfl (fun ls hl => ?_)
  refine lv_aload_n X.1 X.2.1 dX4_addPart_9 rfl (lv_at hl 2 rfl) ?_
  refine lv_bipush (v := 22) X.1 X.2.1 dX4_addPart_10 rfl ?_
  refine x_ialdP X hW dX4_addPart_12 h (fun x3 h => ?_)
  refine lv_sipush (v := 256) X.1 X.2.1 dX4_addPart_13 rfl ?_
  refine lv_aload_n X.1 X.2.1 dX4_addPart_16 rfl (lv_at hl 2 rfl) ?_
  refine lv_bipush (v := 23) X.1 X.2.1 dX4_addPart_17 rfl ?_
  refine x_ialdP X hW dX4_addPart_19 h (fun x4 h => ?_)
  refine lv_imul X.1 X.2.1 dX4_addPart_20 ?_
  refine lv_iadd X.1 X.2.1 dX4_addPart_21 ?_
  refine lv_iconst (v := 4) X.1 X.2.1 dX4_addPart_22 rfl ?_
  refine lv_ishr X.1 X.2.1 dX4_addPart_23 ?_
  refine x_top h (fun x5 h => ?_)
  refine lv_istore (lv' := [(5, .int x5), (4, .int x2), (0, .ref (G.2.2 3 v0)), (1, .ref (G.2.2 cv1 v1)), (2, .ref (G.2.2 cv2 v2)), (3, .int v3)]) X.1 X.2.1 dX4_addPart_24 hl (by decide) rfl (fun ls hl => ?_)
  refine lv_iload X.1 X.2.1 dX4_addPart_26 (lv_at hl 1 rfl) ?_
  refine x_if_ne X (tgt := 52) dX4_addPart_28 (by decide) h (fun h => ?_) (fun h => ?_)
  · exact w_X4_addPart_52 X v0 cv2 v2 v3 x2 x5 qv0  hW (lv_sub hl [2, 4, 5, 1, 0] rfl) h
  · refine lv_aload_n X.1 X.2.1 dX4_addPart_31 rfl (lv_at hl 2 rfl) ?_
    refine lv_iconst (v := 1) X.1 X.2.1 dX4_addPart_32 rfl ?_
    refine x_putI X hW fd_Link_begun (fun w h => List.mem_cons_of_mem _ (gin_X4 w h)) (List.mem_cons_of_mem _ gw479) qv0 dX4_addPart_33 tyX4 tyX4_ok nmX4 rfl rfl rfl h (fun S6 H locs h hW => ?_)
    refine lv_aload_n X.1 X.2.1 dX4_addPart_36 rfl (lv_at hl 2 rfl) ?_
    refine lv_iload X.1 X.2.1 dX4_addPart_37 (lv_at hl 0 rfl) ?_
    refine x_putI X hW fd_Link_sequence (fun w h => List.mem_cons_of_mem _ (gin_X4 w h)) (List.mem_cons_of_mem _ gw819) qv0 dX4_addPart_39 tyX4 tyX4_ok nmX4 rfl rfl rfl h (fun S7 H locs h hW => ?_)
    refine lv_aload_n X.1 X.2.1 dX4_addPart_42 rfl (lv_at hl 2 rfl) ?_
    refine lv_iconst (v := 0) X.1 X.2.1 dX4_addPart_43 rfl ?_
    refine x_putI X hW fd_Link_nextPart (fun w h => List.mem_cons_of_mem _ (gin_X4 w h)) (List.mem_cons_of_mem _ gw820) qv0 dX4_addPart_44 tyX4 tyX4_ok nmX4 rfl rfl rfl h (fun S8 H locs h hW => ?_)
    refine lv_aload_n X.1 X.2.1 dX4_addPart_47 rfl (lv_at hl 2 rfl) ?_
    refine lv_iconst (v := 0) X.1 X.2.1 dX4_addPart_48 rfl ?_
    refine x_putI X hW fd_Link_length (fun w h => List.mem_cons_of_mem _ (gin_X4 w h)) (List.mem_cons_of_mem _ gw821) qv0 dX4_addPart_49 tyX4 tyX4_ok nmX4 rfl rfl rfl h (fun S9 H locs h hW => ?_)
    exact w_X4_addPart_52 X v0 cv2 v2 v3 x2 x5 qv0  hW (lv_sub hl [2, 4, 5, 1, 0] rfl) h
theorem c_X4_addPart (l : Launch) (G : xG) (hD : xD G false) (sz : Nat) (S : Mm) (v0 : Nat) (cv1 : Nat) (v1 : Nat) (cv2 : Nat) (v2 : Nat) (v3 : Int32) (o : Int32 × Mm) (h : F_X4_addPart v0 cv1 v1 cv2 v2 v3 S = some o) : Met l yX4_addPart wsX4_addPart rmX4_addPart (xPre G false S sz [.ref (G.2.2 3 v0), .ref (G.2.2 cv1 v1), .ref (G.2.2 cv2 v2), .int v3]) (xQi G false sz o) 0 0 (XA G false sz) :=
  x_start hD (by decide) rfl (Nat.le_of_ble_eq_true rfl) (fun p e s m below meth c X hW ls hl => w_X4_addPart_0 X v0 cv1 v1 cv2 v2 v3 hW hl h)

/-! WirelessCell$Medium.addNoise(II)Z -/
def rmX5_addNoise : Room := { frames := 0, cells := 0, slots := 0, locals := 0 }
def L_X5_addNoise_27   (S : Mm) : Option (Int32 × Mm) :=
  some (0, S)
def F_X5_addNoise (v1 : Int32) (v2 : Int32) (S : Mm) : Option (Int32 × Mm) :=
  gf S 79 0 fun x1 =>
  if 30 ≤ x1 then (
  L_X5_addNoise_27  S)
  else (
  if v1 < 0 then (
  L_X5_addNoise_27  S)
  else (
  if v2 < v1 then (
  L_X5_addNoise_27  S)
  else (
  if (v2 - v1) < 2000 then (
  gf S 79 0 fun x2 =>
  stA S 34 0 30 1 x2 v1 fun S3 =>
  gf S3 79 0 fun x4 =>
  stA S3 35 0 30 1 x4 v2 fun S5 =>
  gf S5 79 0 fun x6 =>
  pf S5 79 0 (x6 + 1) fun S7 =>
  some (1, S7))
  else (
  L_X5_addNoise_27  S))))
set_option maxRecDepth 100000 in
set_option maxHeartbeats 4000000 in
theorem w_X5_addNoise_27 {p : Program} {l : Launch} {e : Env} {s : State} {m : MethodId} {args : Array Value} {below : List Frame} {meth : Method} {c : Code} {G : xG} {sz : Nat} {o : Int32 × Mm} (X : xC G false sz p s m args c cX5_addNoise 3 wsX5_addNoise RX5 meth (some .boolean))    {S : Mm} {H : Heap} {locs : List Loc} {ls : Array Slot} (hW : xW G false sz s H locs S) (hl : lv_has ls 3 []) (h : L_X5_addNoise_27   S = some o) : wX p l e rmX5_addNoise s m args below meth c H locs (xQi G false sz o) (XA G false sz) 27 ls [] := by
  unfold L_X5_addNoise_27 at h
  refine lv_iconst (v := 0) X.1 X.2.1 dX5_addNoise_27 rfl ?_
  exact x_zret X hW h rfl dX5_addNoise_28
set_option maxRecDepth 100000 in
set_option maxHeartbeats 4000000 in
theorem w_X5_addNoise_0 {p : Program} {l : Launch} {e : Env} {s : State} {m : MethodId} {args : Array Value} {below : List Frame} {meth : Method} {c : Code} {G : xG} {sz : Nat} {o : Int32 × Mm} (X : xC G false sz p s m args c cX5_addNoise 3 wsX5_addNoise RX5 meth (some .boolean)) (v1 : Int32) (v2 : Int32) {S : Mm} {H : Heap} {locs : List Loc} {ls : Array Slot} (hW : xW G false sz s H locs S) (hl : lv_has ls 3 [(0, .ref (G.2.2 4 0)), (1, .int v1), (2, .int v2)]) (h : F_X5_addNoise v1 v2 S = some o) : wX p l e rmX5_addNoise s m args below meth c H locs (xQi G false sz o) (XA G false sz) 0 ls [] := by
  unfold F_X5_addNoise at h
  refine lv_aload_n X.1 X.2.1 dX5_addNoise_0 rfl (lv_at hl 0 rfl) ?_
  refine x_getI X hW fd_Medium_noises (fun w h => List.mem_cons_of_mem _ (gin_X5 w h)) (List.mem_cons_of_mem _ gw445) z_1 dX5_addNoise_1 h (fun x1 h => ?_)
  refine lv_bipush (v := 30) X.1 X.2.1 dX5_addNoise_4 rfl ?_
  refine x_icmp_ge X (tgt := 27) dX5_addNoise_6 (by decide) h (fun h => ?_) (fun h => ?_)
  · exact w_X5_addNoise_27 X    hW (lv_sub hl [] rfl) h
  · refine lv_iload_n X.1 X.2.1 dX5_addNoise_9 rfl (lv_at hl 1 rfl) ?_
    refine x_if_lt X (tgt := 27) dX5_addNoise_10 (by decide) h (fun h => ?_) (fun h => ?_)
    · exact w_X5_addNoise_27 X    hW (lv_sub hl [] rfl) h
    · refine lv_iload_n X.1 X.2.1 dX5_addNoise_13 rfl (lv_at hl 2 rfl) ?_
      refine lv_iload_n X.1 X.2.1 dX5_addNoise_14 rfl (lv_at hl 1 rfl) ?_
      refine x_icmp_lt X (tgt := 27) dX5_addNoise_15 (by decide) h (fun h => ?_) (fun h => ?_)
      · exact w_X5_addNoise_27 X    hW (lv_sub hl [] rfl) h
      · refine lv_iload_n X.1 X.2.1 dX5_addNoise_18 rfl (lv_at hl 2 rfl) ?_
        refine lv_iload_n X.1 X.2.1 dX5_addNoise_19 rfl (lv_at hl 1 rfl) ?_
        refine lv_isub X.1 X.2.1 dX5_addNoise_20 ?_
        refine lv_sipush (v := 2000) X.1 X.2.1 dX5_addNoise_21 rfl ?_
        refine x_icmp_lt X (tgt := 29) dX5_addNoise_24 (by decide) h (fun h => ?_) (fun h => ?_)
        · refine lv_aload_n X.1 X.2.1 dX5_addNoise_29 rfl (lv_at hl 0 rfl) ?_
          refine x_getR X hW fd_Medium_noiseFrom (fun w h => List.mem_cons_of_mem _ (gin_X5 w h)) (List.mem_cons_of_mem _ gw63) z_1 dX5_addNoise_30 ?_
          refine lv_aload_n X.1 X.2.1 dX5_addNoise_33 rfl (lv_at hl 0 rfl) ?_
          refine x_getI X hW fd_Medium_noises (fun w h => List.mem_cons_of_mem _ (gin_X5 w h)) (List.mem_cons_of_mem _ gw445) z_1 dX5_addNoise_34 h (fun x2 h => ?_)
          refine lv_iload_n X.1 X.2.1 dX5_addNoise_37 rfl (lv_at hl 1 rfl) ?_
          refine x_iast X hW ar_34 dX5_addNoise_38 h (fun S3 H locs h hW => ?_)
          refine lv_aload_n X.1 X.2.1 dX5_addNoise_39 rfl (lv_at hl 0 rfl) ?_
          refine x_getR X hW fd_Medium_noiseTo (fun w h => List.mem_cons_of_mem _ (gin_X5 w h)) (List.mem_cons_of_mem _ gw64) z_1 dX5_addNoise_40 ?_
          refine lv_aload_n X.1 X.2.1 dX5_addNoise_43 rfl (lv_at hl 0 rfl) ?_
          refine x_getI X hW fd_Medium_noises (fun w h => List.mem_cons_of_mem _ (gin_X5 w h)) (List.mem_cons_of_mem _ gw445) z_1 dX5_addNoise_44 h (fun x4 h => ?_)
          refine lv_iload_n X.1 X.2.1 dX5_addNoise_47 rfl (lv_at hl 2 rfl) ?_
          refine x_iast X hW ar_35 dX5_addNoise_48 h (fun S5 H locs h hW => ?_)
          refine lv_aload_n X.1 X.2.1 dX5_addNoise_49 rfl (lv_at hl 0 rfl) ?_
          refine lv_dup X.1 X.2.1 dX5_addNoise_50 rfl ?_
          refine x_getI X hW fd_Medium_noises (fun w h => List.mem_cons_of_mem _ (gin_X5 w h)) (List.mem_cons_of_mem _ gw445) z_1 dX5_addNoise_51 h (fun x6 h => ?_)
          refine lv_iconst (v := 1) X.1 X.2.1 dX5_addNoise_54 rfl ?_
          refine lv_iadd X.1 X.2.1 dX5_addNoise_55 ?_
          refine x_putI X hW fd_Medium_noises (fun w h => List.mem_cons_of_mem _ (gin_X5 w h)) (List.mem_cons_of_mem _ gw445) z_1 dX5_addNoise_56 tyX5 tyX5_ok nmX5 rfl rfl rfl h (fun S7 H locs h hW => ?_)
          refine lv_iconst (v := 1) X.1 X.2.1 dX5_addNoise_59 rfl ?_
          exact x_zret X hW h rfl dX5_addNoise_60
        · exact w_X5_addNoise_27 X    hW (lv_sub hl [] rfl) h
theorem c_X5_addNoise (l : Launch) (G : xG) (hD : xD G false) (sz : Nat) (S : Mm) (v1 : Int32) (v2 : Int32) (o : Int32 × Mm) (h : F_X5_addNoise v1 v2 S = some o) : Met l yX5_addNoise wsX5_addNoise rmX5_addNoise (xPre G false S sz [.ref (G.2.2 4 0), .int v1, .int v2]) (xQi G false sz o) 0 0 (XA G false sz) :=
  x_start hD (by decide) rfl (Nat.le_of_ble_eq_true rfl) (fun p e s m below meth c X hW ls hl => w_X5_addNoise_0 X v1 v2 hW hl h)

/-! WirelessCell$Medium.isNoisy()Z -/
def rmX5_isNoisy : Room := { frames := 0, cells := 0, slots := 0, locals := 0 }
def L_X5_isNoisy_38 (k2 : Int32 → Mm → Option (Int32 × Mm)) (v1 : Int32) (S : Mm) : Option (Int32 × Mm) :=
  k2 (v1 + 1) S
def L_X5_isNoisy_2   : Nat → Int32 → Mm → Option (Int32 × Mm)
  | 0, _, _ => none
  | n + 1, v1, S => 
    gf S 79 0 fun x1 =>
    if x1 ≤ v1 then (
    some (0, S))
    else (
    ldA S 34 0 30 1 v1 fun x2 =>
    gf S 76 0 fun x3 =>
    if x3 < x2 then (
    L_X5_isNoisy_38 (L_X5_isNoisy_2  n) v1 S)
    else (
    gf S 76 0 fun x4 =>
    ldA S 35 0 30 1 v1 fun x5 =>
    if x5 < x4 then (
    L_X5_isNoisy_38 (L_X5_isNoisy_2  n) v1 S)
    else (
    some (1, S))))
def F_X5_isNoisy  (S : Mm) : Option (Int32 × Mm) :=
  L_X5_isNoisy_2   fu 0 S
set_option maxRecDepth 100000 in
set_option maxHeartbeats 4000000 in
theorem w_X5_isNoisy_38 {p : Program} {l : Launch} {e : Env} {s : State} {m : MethodId} {args : Array Value} {below : List Frame} {meth : Method} {c : Code} {G : xG} {sz : Nat} {o : Int32 × Mm} (X : xC G false sz p s m args c cX5_isNoisy 2 wsX5_isNoisy RX5 meth (some .boolean)) (v1 : Int32)  (k2 : Int32 → Mm → Option (Int32 × Mm)) (hk2 : ∀ (v1 : Int32) (S : Mm) (H : Heap) (locs : List Loc) (ls : Array Slot), k2 v1 S = some o → xW G false sz s H locs S → lv_has ls 2 [(0, .ref (G.2.2 4 0)), (1, .int v1)] → wX p l e rmX5_isNoisy s m args below meth c H locs (xQi G false sz o) (XA G false sz) 2 ls []) {S : Mm} {H : Heap} {locs : List Loc} {ls : Array Slot} (hW : xW G false sz s H locs S) (hl : lv_has ls 2 [(0, .ref (G.2.2 4 0)), (1, .int v1)]) (h : L_X5_isNoisy_38 k2 v1 S = some o) : wX p l e rmX5_isNoisy s m args below meth c H locs (xQi G false sz o) (XA G false sz) 38 ls [] := by
  unfold L_X5_isNoisy_38 at h
  refine lv_iinc (v := (v1 + 1)) (lv' := [(1, .int (v1 + 1)), (0, .ref (G.2.2 4 0))]) X.1 X.2.1 dX5_isNoisy_38 hl (k := 1) rfl rfl (by decide) rfl (fun ls hl => ?_)
  refine lv_goto (tgt := 2) X.1 X.2.1 dX5_isNoisy_41 (by decide) ?_
  exact hk2 (v1 + 1) S _ _ _ h hW  (lv_sub hl [1, 0] rfl)
set_option maxRecDepth 100000 in
set_option maxHeartbeats 4000000 in
theorem w_X5_isNoisy_2 {p : Program} {l : Launch} {e : Env} {s : State} {m : MethodId} {args : Array Value} {below : List Frame} {meth : Method} {c : Code} {G : xG} {sz : Nat} {o : Int32 × Mm} (X : xC G false sz p s m args c cX5_isNoisy 2 wsX5_isNoisy RX5 meth (some .boolean))    : ∀ (n : Nat) (v1 : Int32) (S : Mm) (H : Heap) (locs : List Loc) (ls : Array Slot), L_X5_isNoisy_2  n v1 S = some o → xW G false sz s H locs S → lv_has ls 2 [(0, .ref (G.2.2 4 0)), (1, .int v1)] → wX p l e rmX5_isNoisy s m args below meth c H locs (xQi G false sz o) (XA G false sz) 2 ls [] := by
  intro n
  induction n with
  | zero =>
    intro v1 S H locs ls h
    cases h
  | succ n ih =>
    intro v1 S H locs ls h hW  hl
    rw [L_X5_isNoisy_2] at h
    refine lv_iload_n X.1 X.2.1 dX5_isNoisy_2 rfl (lv_at hl 1 rfl) ?_
    refine lv_aload_n X.1 X.2.1 dX5_isNoisy_3 rfl (lv_at hl 0 rfl) ?_
    refine x_getI X hW fd_Medium_noises (fun w h => List.mem_cons_of_mem _ (gin_X5 w h)) (List.mem_cons_of_mem _ gw445) z_1 dX5_isNoisy_4 h (fun x1 h => ?_)
    refine x_icmp_ge X (tgt := 44) dX5_isNoisy_7 (by decide) h (fun h => ?_) (fun h => ?_)
    · refine lv_iconst (v := 0) X.1 X.2.1 dX5_isNoisy_44 rfl ?_
      exact x_zret X hW h rfl dX5_isNoisy_45
    · refine lv_aload_n X.1 X.2.1 dX5_isNoisy_10 rfl (lv_at hl 0 rfl) ?_
      refine x_getR X hW fd_Medium_noiseFrom (fun w h => List.mem_cons_of_mem _ (gin_X5 w h)) (List.mem_cons_of_mem _ gw63) z_1 dX5_isNoisy_11 ?_
      refine lv_iload_n X.1 X.2.1 dX5_isNoisy_14 rfl (lv_at hl 1 rfl) ?_
      refine x_iald X hW ar_34 dX5_isNoisy_15 h (fun x2 h => ?_)
      refine lv_aload_n X.1 X.2.1 dX5_isNoisy_16 rfl (lv_at hl 0 rfl) ?_
      refine x_getI X hW fd_Medium_slot (fun w h => List.mem_cons_of_mem _ (gin_X5 w h)) (List.mem_cons_of_mem _ gw613) z_1 dX5_isNoisy_17 h (fun x3 h => ?_)
      refine x_icmp_gt X (tgt := 38) dX5_isNoisy_20 (by decide) h (fun h => ?_) (fun h => ?_)
      · exact w_X5_isNoisy_38 X v1  (L_X5_isNoisy_2  n) ih hW (lv_sub hl [0, 1] rfl) h
      · refine lv_aload_n X.1 X.2.1 dX5_isNoisy_23 rfl (lv_at hl 0 rfl) ?_
        refine x_getI X hW fd_Medium_slot (fun w h => List.mem_cons_of_mem _ (gin_X5 w h)) (List.mem_cons_of_mem _ gw613) z_1 dX5_isNoisy_24 h (fun x4 h => ?_)
        refine lv_aload_n X.1 X.2.1 dX5_isNoisy_27 rfl (lv_at hl 0 rfl) ?_
        refine x_getR X hW fd_Medium_noiseTo (fun w h => List.mem_cons_of_mem _ (gin_X5 w h)) (List.mem_cons_of_mem _ gw64) z_1 dX5_isNoisy_28 ?_
        refine lv_iload_n X.1 X.2.1 dX5_isNoisy_31 rfl (lv_at hl 1 rfl) ?_
        refine x_iald X hW ar_35 dX5_isNoisy_32 h (fun x5 h => ?_)
        refine x_icmp_gt X (tgt := 38) dX5_isNoisy_33 (by decide) h (fun h => ?_) (fun h => ?_)
        · exact w_X5_isNoisy_38 X v1  (L_X5_isNoisy_2  n) ih hW (lv_sub hl [0, 1] rfl) h
        · refine lv_iconst (v := 1) X.1 X.2.1 dX5_isNoisy_36 rfl ?_
          exact x_zret X hW h rfl dX5_isNoisy_37
set_option maxRecDepth 100000 in
set_option maxHeartbeats 4000000 in
theorem w_X5_isNoisy_0 {p : Program} {l : Launch} {e : Env} {s : State} {m : MethodId} {args : Array Value} {below : List Frame} {meth : Method} {c : Code} {G : xG} {sz : Nat} {o : Int32 × Mm} (X : xC G false sz p s m args c cX5_isNoisy 2 wsX5_isNoisy RX5 meth (some .boolean))  {S : Mm} {H : Heap} {locs : List Loc} {ls : Array Slot} (hW : xW G false sz s H locs S) (hl : lv_has ls 2 [(0, .ref (G.2.2 4 0))]) (h : F_X5_isNoisy  S = some o) : wX p l e rmX5_isNoisy s m args below meth c H locs (xQi G false sz o) (XA G false sz) 0 ls [] := by
  unfold F_X5_isNoisy at h
  refine lv_iconst (v := 0) X.1 X.2.1 dX5_isNoisy_0 rfl ?_
  refine lv_istore_n (lv' := [(1, .int 0), (0, .ref (G.2.2 4 0))]) X.1 X.2.1 dX5_isNoisy_1 rfl hl (by decide) rfl (fun ls hl => ?_)
  exact w_X5_isNoisy_2 X    fu 0 S _ _ _ h hW  (lv_sub hl [1, 0] rfl)
theorem c_X5_isNoisy (l : Launch) (G : xG) (hD : xD G false) (sz : Nat) (S : Mm)  (o : Int32 × Mm) (h : F_X5_isNoisy  S = some o) : Met l yX5_isNoisy wsX5_isNoisy rmX5_isNoisy (xPre G false S sz [.ref (G.2.2 4 0)]) (xQi G false sz o) 0 0 (XA G false sz) :=
  x_start hD (by decide) rfl (Nat.le_of_ble_eq_true rfl) (fun p e s m below meth c X hW ls hl => w_X5_isNoisy_0 X  hW hl h)

/-! WirelessCell$Medium.isQuietSince()Z -/
def rmX5_isQuietSince : Room := { frames := 0, cells := 0, slots := 0, locals := 0 }
def F_X5_isQuietSince  (S : Mm) : Option (Int32 × Mm) :=
  gf S 76 0 fun x1 =>
  gf S 78 0 fun x2 =>
  if (x1 - x2) ≤ 3 then (
  some (0, S))
  else (
  some (1, S))
set_option maxRecDepth 100000 in
set_option maxHeartbeats 4000000 in
theorem w_X5_isQuietSince_0 {p : Program} {l : Launch} {e : Env} {s : State} {m : MethodId} {args : Array Value} {below : List Frame} {meth : Method} {c : Code} {G : xG} {sz : Nat} {o : Int32 × Mm} (X : xC G false sz p s m args c cX5_isQuietSince 1 wsX5_isQuietSince RX5 meth (some .boolean))  {S : Mm} {H : Heap} {locs : List Loc} {ls : Array Slot} (hW : xW G false sz s H locs S) (hl : lv_has ls 1 [(0, .ref (G.2.2 4 0))]) (h : F_X5_isQuietSince  S = some o) : wX p l e rmX5_isQuietSince s m args below meth c H locs (xQi G false sz o) (XA G false sz) 0 ls [] := by
  unfold F_X5_isQuietSince at h
  refine lv_aload_n X.1 X.2.1 dX5_isQuietSince_0 rfl (lv_at hl 0 rfl) ?_
  refine x_getI X hW fd_Medium_slot (fun w h => List.mem_cons_of_mem _ (gin_X5 w h)) (List.mem_cons_of_mem _ gw613) z_1 dX5_isQuietSince_1 h (fun x1 h => ?_)
  refine lv_aload_n X.1 X.2.1 dX5_isQuietSince_4 rfl (lv_at hl 0 rfl) ?_
  refine x_getI X hW fd_Medium_lastBusySlot (fun w h => List.mem_cons_of_mem _ (gin_X5 w h)) (List.mem_cons_of_mem _ gw62) z_1 dX5_isQuietSince_5 h (fun x2 h => ?_)
  refine lv_isub X.1 X.2.1 dX5_isQuietSince_8 ?_
  refine lv_iconst (v := 3) X.1 X.2.1 dX5_isQuietSince_9 rfl ?_
  refine x_icmp_le X (tgt := 17) dX5_isQuietSince_10 (by decide) h (fun h => ?_) (fun h => ?_)
  · refine lv_iconst (v := 0) X.1 X.2.1 dX5_isQuietSince_17 rfl ?_
    exact x_zret X hW h rfl dX5_isQuietSince_18
  · refine lv_iconst (v := 1) X.1 X.2.1 dX5_isQuietSince_13 rfl ?_
    refine lv_goto (tgt := 18) X.1 X.2.1 dX5_isQuietSince_14 (by decide) ?_
    exact x_zret X hW h rfl dX5_isQuietSince_18
theorem c_X5_isQuietSince (l : Launch) (G : xG) (hD : xD G false) (sz : Nat) (S : Mm)  (o : Int32 × Mm) (h : F_X5_isQuietSince  S = some o) : Met l yX5_isQuietSince wsX5_isQuietSince rmX5_isQuietSince (xPre G false S sz [.ref (G.2.2 4 0)]) (xQi G false sz o) 0 0 (XA G false sz) :=
  x_start hD (by decide) rfl (Nat.le_of_ble_eq_true rfl) (fun p e s m below meth c X hW ls hl => w_X5_isQuietSince_0 X  hW hl h)

/-! WirelessCell$Medium.passQuiet(I)V -/
def rmX5_passQuiet : Room := { frames := 0, cells := 0, slots := 0, locals := 0 }
def F_X5_passQuiet (v1 : Int32) (S : Mm) : Option (Unit × Mm) :=
  gf S 76 0 fun x1 =>
  pf S 76 0 (x1 + v1) fun S2 =>
  gf S2 77 0 fun x3 =>
  pf S2 77 0 (x3 + v1) fun S4 =>
  some ((), S4)
set_option maxRecDepth 100000 in
set_option maxHeartbeats 4000000 in
theorem w_X5_passQuiet_0 {p : Program} {l : Launch} {e : Env} {s : State} {m : MethodId} {args : Array Value} {below : List Frame} {meth : Method} {c : Code} {G : xG} {sz : Nat} {o : Unit × Mm} (X : xC G false sz p s m args c cX5_passQuiet 2 wsX5_passQuiet RX5 meth none) (v1 : Int32) {S : Mm} {H : Heap} {locs : List Loc} {ls : Array Slot} (hW : xW G false sz s H locs S) (hl : lv_has ls 2 [(0, .ref (G.2.2 4 0)), (1, .int v1)]) (h : F_X5_passQuiet v1 S = some o) : wX p l e rmX5_passQuiet s m args below meth c H locs (xQv G false sz o) (XA G false sz) 0 ls [] := by
  unfold F_X5_passQuiet at h
  refine lv_aload_n X.1 X.2.1 dX5_passQuiet_0 rfl (lv_at hl 0 rfl) ?_
  refine lv_dup X.1 X.2.1 dX5_passQuiet_1 rfl ?_
  refine x_getI X hW fd_Medium_slot (fun w h => List.mem_cons_of_mem _ (gin_X5 w h)) (List.mem_cons_of_mem _ gw613) z_1 dX5_passQuiet_2 h (fun x1 h => ?_)
  refine lv_iload_n X.1 X.2.1 dX5_passQuiet_5 rfl (lv_at hl 1 rfl) ?_
  refine lv_iadd X.1 X.2.1 dX5_passQuiet_6 ?_
  refine x_putI X hW fd_Medium_slot (fun w h => List.mem_cons_of_mem _ (gin_X5 w h)) (List.mem_cons_of_mem _ gw613) z_1 dX5_passQuiet_7 tyX5 tyX5_ok nmX5 rfl rfl rfl h (fun S2 H locs h hW => ?_)
  refine lv_aload_n X.1 X.2.1 dX5_passQuiet_10 rfl (lv_at hl 0 rfl) ?_
  refine lv_dup X.1 X.2.1 dX5_passQuiet_11 rfl ?_
  refine x_getI X hW fd_Medium_quietSlots (fun w h => List.mem_cons_of_mem _ (gin_X5 w h)) (List.mem_cons_of_mem _ gw614) z_1 dX5_passQuiet_12 h (fun x3 h => ?_)
  refine lv_iload_n X.1 X.2.1 dX5_passQuiet_15 rfl (lv_at hl 1 rfl) ?_
  refine lv_iadd X.1 X.2.1 dX5_passQuiet_16 ?_
  refine x_putI X hW fd_Medium_quietSlots (fun w h => List.mem_cons_of_mem _ (gin_X5 w h)) (List.mem_cons_of_mem _ gw614) z_1 dX5_passQuiet_17 tyX5 tyX5_ok nmX5 rfl rfl rfl h (fun S4 H locs h hW => ?_)
  exact x_vret X hW h dX5_passQuiet_20
theorem c_X5_passQuiet (l : Launch) (G : xG) (hD : xD G false) (sz : Nat) (S : Mm) (v1 : Int32) (o : Unit × Mm) (h : F_X5_passQuiet v1 S = some o) : Met l yX5_passQuiet wsX5_passQuiet rmX5_passQuiet (xPre G false S sz [.ref (G.2.2 4 0), .int v1]) (xQv G false sz o) 0 0 (XA G false sz) :=
  x_start hD (by decide) rfl (Nat.le_of_ble_eq_true rfl) (fun p e s m below meth c X hW ls hl => w_X5_passQuiet_0 X v1 hW hl h)

/-! WirelessCell$Medium.slotsOf(I)I -/
def rmX5_slotsOf : Room := { frames := 0, cells := 0, slots := 0, locals := 0 }
def F_X5_slotsOf (v0 : Int32) (S : Mm) : Option (Int32 × Mm) :=
  some ((2 + ((v0 + 31) / 32)), S)
set_option maxRecDepth 100000 in
set_option maxHeartbeats 4000000 in
theorem w_X5_slotsOf_0 {p : Program} {l : Launch} {e : Env} {s : State} {m : MethodId} {args : Array Value} {below : List Frame} {meth : Method} {c : Code} {G : xG} {sz : Nat} {o : Int32 × Mm} (X : xC G false sz p s m args c cX5_slotsOf 1 wsX5_slotsOf RX5 meth (some .int)) (v0 : Int32) {S : Mm} {H : Heap} {locs : List Loc} {ls : Array Slot} (hW : xW G false sz s H locs S) (hl : lv_has ls 1 [(0, .int v0)]) (h : F_X5_slotsOf v0 S = some o) : wX p l e rmX5_slotsOf s m args below meth c H locs (xQi G false sz o) (XA G false sz) 0 ls [] := by
  unfold F_X5_slotsOf at h
  refine lv_iconst (v := 2) X.1 X.2.1 dX5_slotsOf_0 rfl ?_
  refine lv_iload_n X.1 X.2.1 dX5_slotsOf_1 rfl (lv_at hl 0 rfl) ?_
  refine lv_bipush (v := 31) X.1 X.2.1 dX5_slotsOf_2 rfl ?_
  refine lv_iadd X.1 X.2.1 dX5_slotsOf_4 ?_
  refine lv_bipush (v := 32) X.1 X.2.1 dX5_slotsOf_5 rfl ?_
  refine lv_idiv X.1 X.2.1 dX5_slotsOf_7 (by decide) ?_
  refine lv_iadd X.1 X.2.1 dX5_slotsOf_8 ?_
  exact x_iret X hW h dX5_slotsOf_9
theorem c_X5_slotsOf (l : Launch) (G : xG) (hD : xD G false) (sz : Nat) (S : Mm) (v0 : Int32) (o : Int32 × Mm) (h : F_X5_slotsOf v0 S = some o) : Met l yX5_slotsOf wsX5_slotsOf rmX5_slotsOf (xPre G false S sz [.int v0]) (xQi G false sz o) 0 0 (XA G false sz) :=
  x_start hD (by decide) rfl (Nat.le_of_ble_eq_true rfl) (fun p e s m below meth c X hW ls hl => w_X5_slotsOf_0 X v0 hW hl h)

/-! WirelessCell$Medium.begin([III)I -/
def rmX5_begin : Room := { frames := 1, cells := 0, slots := 0, locals := 20 }
def F_X5_begin (cv1 : Nat) (v1 : Nat) (v2 : Int32) (v3 : Int32) (S : Mm) : Option (Int32 × Mm) :=
  gf S 76 0 fun x1 =>
  cl (F_X5_slotsOf v2 S) fun r2 S3 =>
  tp ((x1 + r2) - 1) fun x5 =>
  gf S3 71 0 fun x6 =>
  pf S3 71 0 ((x6 + 1) - (x6 + 1) / 40 * 40) fun S7 =>
  gf S7 72 0 fun x8 =>
  tp (if 40 < (x8 + 1) then 40 else (x8 + 1)) fun x9 =>
  pf S7 72 0 x9 fun S10 =>
  gf S10 71 0 fun x11 =>
  ldR S10 26 0 40 1 x11 40 fun i12 =>
  cpP false S10 cv1 v1 0 27 i12 0 v2 fun S13 =>
  gf S13 71 0 fun x14 =>
  stA S13 28 0 40 1 x14 v2 fun S15 =>
  gf S15 71 0 fun x16 =>
  stA S15 29 0 40 1 x16 v3 fun S17 =>
  gf S17 71 0 fun x18 =>
  gf S17 76 0 fun x19 =>
  stA S17 30 0 40 1 x18 x19 fun S20 =>
  gf S20 71 0 fun x21 =>
  stA S20 31 0 40 1 x21 x5 fun S22 =>
  gf S22 71 0 fun x23 =>
  stA S22 32 0 40 1 x23 (0 &&& 1) fun S24 =>
  ldA S24 33 0 16 1 (x5 &&& 15) fun x25 =>
  stA S24 33 0 16 1 (x5 &&& 15) (x25 + 1) fun S26 =>
  gf S26 73 0 fun x27 =>
  pf S26 73 0 (x27 + 1) fun S28 =>
  gf S28 74 0 fun x29 =>
  pf S28 74 0 (x29 + 1) fun S30 =>
  some (x5, S30)
set_option maxRecDepth 100000 in
set_option maxHeartbeats 4000000 in
theorem w_X5_begin_0 {p : Program} {l : Launch} {e : Env} {s : State} {m : MethodId} {args : Array Value} {below : List Frame} {meth : Method} {c : Code} {G : xG} {sz : Nat} {o : Int32 × Mm} (X : xC G false sz p s m args c cX5_begin 5 wsX5_begin RX5 meth (some .int)) (cv1 : Nat) (v1 : Nat) (v2 : Int32) (v3 : Int32) {S : Mm} {H : Heap} {locs : List Loc} {ls : Array Slot} (hW : xW G false sz s H locs S) (hl : lv_has ls 5 [(0, .ref (G.2.2 4 0)), (1, .ref (G.2.2 cv1 v1)), (2, .int v2), (3, .int v3)]) (h : F_X5_begin cv1 v1 v2 v3 S = some o) : wX p l e rmX5_begin s m args below meth c H locs (xQi G false sz o) (XA G false sz) 0 ls [] := by
  unfold F_X5_begin at h
  refine lv_aload_n X.1 X.2.1 dX5_begin_0 rfl (lv_at hl 0 rfl) ?_
  refine x_getI X hW fd_Medium_slot (fun w h => List.mem_cons_of_mem _ (gin_X5 w h)) (List.mem_cons_of_mem _ gw613) z_1 dX5_begin_1 h (fun x1 h => ?_)
  refine lv_iload_n X.1 X.2.1 dX5_begin_4 rfl (lv_at hl 2 rfl) ?_
  obtain ⟨r2, S3, h4, h⟩ := cl_some h
  refine x_aftI X hW (x_runS (As := [.int v2]) (rest := [.int x1]) X hW (c_X5_slotsOf l G X.2.2.2.2.2.2.2.2.2.1 _ S v2 _ h4) (va_cwS 1 X.2.2.2.2.1 (gS gw641 gw642 gw20 gw643) rfl rfl rfl hd_X5_slotsOf ⟨Nat.le_of_ble_eq_true rfl, Nat.le_of_ble_eq_true rfl⟩) rfl hl.1 rfl (Nat.le_of_ble_eq_true rfl) dX5_begin_5 ⟨Nat.zero_le _, Nat.zero_le _⟩) (fun H locs hW => ?_)
  refine lv_iadd X.1 X.2.1 dX5_begin_8 ?_
  refine lv_iconst (v := 1) X.1 X.2.1 dX5_begin_9 rfl ?_
  refine lv_isub X.1 X.2.1 dX5_begin_10 ?_
  refine x_top h (fun x5 h => ?_)
  refine lv_istore (lv' := [(4, .int x5), (0, .ref (G.2.2 4 0)), (1, .ref (G.2.2 cv1 v1)), (2, .int v2), (3, .int v3)]) X.1 X.2.1 dX5_begin_11 hl (by decide) rfl (fun ls hl => ?_)
  refine lv_aload_n X.1 X.2.1 dX5_begin_13 rfl (lv_at hl 1 rfl) ?_
  refine lv_aload_n X.1 X.2.1 dX5_begin_14 rfl (lv_at hl 1 rfl) ?_
  refine x_getI X hW fd_Medium_newest (fun w h => List.mem_cons_of_mem _ (gin_X5 w h)) (List.mem_cons_of_mem _ gw60) z_1 dX5_begin_15 h (fun x6 h => ?_)
  refine lv_iconst (v := 1) X.1 X.2.1 dX5_begin_18 rfl ?_
  refine lv_iadd X.1 X.2.1 dX5_begin_19 ?_
  refine lv_bipush (v := 40) X.1 X.2.1 dX5_begin_20 rfl ?_
  refine lv_irem X.1 X.2.1 dX5_begin_22 (by decide) ?_
  refine x_putI X hW fd_Medium_newest (fun w h => List.mem_cons_of_mem _ (gin_X5 w h)) (List.mem_cons_of_mem _ gw60) z_1 dX5_begin_23 tyX5 tyX5_ok nmX5 rfl rfl rfl h (fun S7 H locs h hW => ?_)
  refine lv_aload_n X.1 X.2.1 dX5_begin_26 rfl (lv_at hl 1 rfl) ?_
  refine lv_aload_n X.1 X.2.1 dX5_begin_27 rfl (lv_at hl 1 rfl) ?_
  refine x_getI X hW fd_Medium_kept (fun w h => List.mem_cons_of_mem _ (gin_X5 w h)) (List.mem_cons_of_mem _ gw332) z_1 dX5_begin_28 h (fun x8 h => ?_)
  refine lv_iconst (v := 1) X.1 X.2.1 dX5_begin_31 rfl ?_
  refine lv_iadd X.1 X.2.1 dX5_begin_32 ?_
  refine lv_bipush (v := 40) X.1 X.2.1 dX5_begin_33 rfl ?_
  refine va_mmin X.1 X.2.1 (X.2.2.1.trans hl.1.symm) X.2.2.2.1 (X.2.2.2.2.1 _ (List.mem_cons_of_mem _ gw637)) (X.2.2.2.2.1 _ (List.mem_cons_of_mem _ gw606)) (X.2.2.2.2.1 _ (List.mem_cons_of_mem _ gw607)) (X.2.2.2.2.1 _ (List.mem_cons_of_mem _ gw608)) (Nat.le_of_ble_eq_true rfl) (Nat.le_of_ble_eq_true rfl) (Nat.zero_le _) (Nat.zero_le _) dX5_begin_35 ?_
  refine x_top h (fun x9 h => ?_)
  refine x_putI X hW fd_Medium_kept (fun w h => List.mem_cons_of_mem _ (gin_X5 w h)) (List.mem_cons_of_mem _ gw332) z_1 dX5_begin_38 tyX5 tyX5_ok nmX5 rfl rfl rfl h (fun S10 H locs h hW => ?_)
  refine lv_aload_n X.1 X.2.1 dX5_begin_41 rfl (lv_at hl 2 rfl) ?_
  refine lv_iconst (v := 0) X.1 X.2.1 dX5_begin_42 rfl ?_
  refine lv_aload_n X.1 X.2.1 dX5_begin_43 rfl (lv_at hl 1 rfl) ?_
  refine x_getR X hW fd_Medium_rows (fun w h => List.mem_cons_of_mem _ (gin_X5 w h)) (List.mem_cons_of_mem _ gw53) z_1 dX5_begin_44 ?_
  refine lv_aload_n X.1 X.2.1 dX5_begin_47 rfl (lv_at hl 1 rfl) ?_
  refine x_getI X hW fd_Medium_newest (fun w h => List.mem_cons_of_mem _ (gin_X5 w h)) (List.mem_cons_of_mem _ gw60) z_1 dX5_begin_48 h (fun x11 h => ?_)
  refine x_aald X hW ar_26 (ct := 27) rfl (at_26 G) rfl dX5_begin_51 h (fun i12 qi12 h => ?_)
  refine lv_iconst (v := 0) X.1 X.2.1 dX5_begin_52 rfl ?_
  refine lv_iload_n X.1 X.2.1 dX5_begin_53 rfl (lv_at hl 3 rfl) ?_
  refine x_acopy X hW hl.1 (List.mem_cons_of_mem _ gw638) (List.mem_cons_of_mem _ gw325) (List.mem_cons_of_mem _ gw326) (List.mem_cons_of_mem _ gw327) (Nat.le_of_ble_eq_true rfl) (Nat.le_of_ble_eq_true rfl) dX5_begin_54 h (fun S13 H locs h hW => ?_)
  refine lv_aload_n X.1 X.2.1 dX5_begin_57 rfl (lv_at hl 1 rfl) ?_
  refine x_getR X hW fd_Medium_lengths (fun w h => List.mem_cons_of_mem _ (gin_X5 w h)) (List.mem_cons_of_mem _ gw54) z_1 dX5_begin_58 ?_
  refine lv_aload_n X.1 X.2.1 dX5_begin_61 rfl (lv_at hl 1 rfl) ?_
  refine x_getI X hW fd_Medium_newest (fun w h => List.mem_cons_of_mem _ (gin_X5 w h)) (List.mem_cons_of_mem _ gw60) z_1 dX5_begin_62 h (fun x14 h => ?_)
  refine lv_iload_n X.1 X.2.1 dX5_begin_65 rfl (lv_at hl 3 rfl) ?_
  refine x_iast X hW ar_28 dX5_begin_66 h (fun S15 H locs h hW => ?_)
  refine lv_aload_n X.1 X.2.1 dX5_begin_67 rfl (lv_at hl 1 rfl) ?_
  refine x_getR X hW fd_Medium_senders (fun w h => List.mem_cons_of_mem _ (gin_X5 w h)) (List.mem_cons_of_mem _ gw55) z_1 dX5_begin_68 ?_
  refine lv_aload_n X.1 X.2.1 dX5_begin_71 rfl (lv_at hl 1 rfl) ?_
  refine x_getI X hW fd_Medium_newest (fun w h => List.mem_cons_of_mem _ (gin_X5 w h)) (List.mem_cons_of_mem _ gw60) z_1 dX5_begin_72 h (fun x16 h => ?_)
  refine lv_iload_n X.1 X.2.1 dX5_begin_75 rfl (lv_at hl 4 rfl) ?_
  refine x_iast X hW ar_29 dX5_begin_76 h (fun S17 H locs h hW => ?_)
  refine lv_aload_n X.1 X.2.1 dX5_begin_77 rfl (lv_at hl 1 rfl) ?_
  refine x_getR X hW fd_Medium_firstSlots (fun w h => List.mem_cons_of_mem _ (gin_X5 w h)) (List.mem_cons_of_mem _ gw56) z_1 dX5_begin_78 ?_
  refine lv_aload_n X.1 X.2.1 dX5_begin_81 rfl (lv_at hl 1 rfl) ?_
  refine x_getI X hW fd_Medium_newest (fun w h => List.mem_cons_of_mem _ (gin_X5 w h)) (List.mem_cons_of_mem _ gw60) z_1 dX5_begin_82 h (fun x18 h => ?_)
  refine lv_aload_n X.1 X.2.1 dX5_begin_85 rfl (lv_at hl 1 rfl) ?_
  refine x_getI X hW fd_Medium_slot (fun w h => List.mem_cons_of_mem _ (gin_X5 w h)) (List.mem_cons_of_mem _ gw613) z_1 dX5_begin_86 h (fun x19 h => ?_)
  refine x_iast X hW ar_30 dX5_begin_89 h (fun S20 H locs h hW => ?_)
  refine lv_aload_n X.1 X.2.1 dX5_begin_90 rfl (lv_at hl 1 rfl) ?_
  refine x_getR X hW fd_Medium_lastSlots (fun w h => List.mem_cons_of_mem _ (gin_X5 w h)) (List.mem_cons_of_mem _ gw57) z_1 dX5_begin_91 ?_
  refine lv_aload_n X.1 X.2.1 dX5_begin_94 rfl (lv_at hl 1 rfl) ?_
  refine x_getI X hW fd_Medium_newest (fun w h => List.mem_cons_of_mem _ (gin_X5 w h)) (List.mem_cons_of_mem _ gw60) z_1 dX5_begin_95 h (fun x21 h => ?_)
  refine lv_iload X.1 X.2.1 dX5_begin_98 (lv_at hl 0 rfl) ?_
  refine x_iast X hW ar_31 dX5_begin_100 h (fun S22 H locs h hW => ?_)
  refine lv_aload_n X.1 X.2.1 dX5_begin_101 rfl (lv_at hl 1 rfl) ?_
  refine x_getR X hW fd_Medium_spoiled (fun w h => List.mem_cons_of_mem _ (gin_X5 w h)) (List.mem_cons_of_mem _ gw59) z_1 dX5_begin_102 ?_
  refine lv_aload_n X.1 X.2.1 dX5_begin_105 rfl (lv_at hl 1 rfl) ?_
  refine x_getI X hW fd_Medium_newest (fun w h => List.mem_cons_of_mem _ (gin_X5 w h)) (List.mem_cons_of_mem _ gw60) z_1 dX5_begin_106 h (fun x23 h => ?_)
  refine lv_iconst (v := 0) X.1 X.2.1 dX5_begin_109 rfl ?_
  refine x_zast X hW ar_32 dX5_begin_110 h (fun S24 H locs h hW => ?_)
  refine lv_aload_n X.1 X.2.1 dX5_begin_111 rfl (lv_at hl 1 rfl) ?_
  refine x_getR X hW fd_Medium_endings (fun w h => List.mem_cons_of_mem _ (gin_X5 w h)) (List.mem_cons_of_mem _ gw61) z_1 dX5_begin_112 ?_
  refine lv_iload X.1 X.2.1 dX5_begin_115 (lv_at hl 0 rfl) ?_
  refine lv_bipush (v := 15) X.1 X.2.1 dX5_begin_117 rfl ?_
  refine lv_iand X.1 X.2.1 dX5_begin_119 ?_
  refine lv_dup2_11 X.1 X.2.1 dX5_begin_120 rfl rfl ?_
  refine x_iald X hW ar_33 dX5_begin_121 h (fun x25 h => ?_)
  refine lv_iconst (v := 1) X.1 X.2.1 dX5_begin_122 rfl ?_
  refine lv_iadd X.1 X.2.1 dX5_begin_123 ?_
  refine x_iast X hW ar_33 dX5_begin_124 h (fun S26 H locs h hW => ?_)
  refine lv_aload_n X.1 X.2.1 dX5_begin_125 rfl (lv_at hl 1 rfl) ?_
  refine lv_dup X.1 X.2.1 dX5_begin_126 rfl ?_
  refine x_getI X hW fd_Medium_began (fun w h => List.mem_cons_of_mem _ (gin_X5 w h)) (List.mem_cons_of_mem _ gw639) z_1 dX5_begin_127 h (fun x27 h => ?_)
  refine lv_iconst (v := 1) X.1 X.2.1 dX5_begin_130 rfl ?_
  refine lv_iadd X.1 X.2.1 dX5_begin_131 ?_
  refine x_putI X hW fd_Medium_began (fun w h => List.mem_cons_of_mem _ (gin_X5 w h)) (List.mem_cons_of_mem _ gw639) z_1 dX5_begin_132 tyX5 tyX5_ok nmX5 rfl rfl rfl h (fun S28 H locs h hW => ?_)
  refine lv_aload_n X.1 X.2.1 dX5_begin_135 rfl (lv_at hl 1 rfl) ?_
  refine lv_dup X.1 X.2.1 dX5_begin_136 rfl ?_
  refine x_getI X hW fd_Medium_onAir (fun w h => List.mem_cons_of_mem _ (gin_X5 w h)) (List.mem_cons_of_mem _ gw640) z_1 dX5_begin_137 h (fun x29 h => ?_)
  refine lv_iconst (v := 1) X.1 X.2.1 dX5_begin_140 rfl ?_
  refine lv_iadd X.1 X.2.1 dX5_begin_141 ?_
  refine x_putI X hW fd_Medium_onAir (fun w h => List.mem_cons_of_mem _ (gin_X5 w h)) (List.mem_cons_of_mem _ gw640) z_1 dX5_begin_142 tyX5 tyX5_ok nmX5 rfl rfl rfl h (fun S30 H locs h hW => ?_)
  refine lv_iload X.1 X.2.1 dX5_begin_145 (lv_at hl 0 rfl) ?_
  exact x_iret X hW h dX5_begin_147
theorem c_X5_begin (l : Launch) (G : xG) (hD : xD G false) (sz : Nat) (S : Mm) (cv1 : Nat) (v1 : Nat) (v2 : Int32) (v3 : Int32) (o : Int32 × Mm) (h : F_X5_begin cv1 v1 v2 v3 S = some o) : Met l yX5_begin wsX5_begin rmX5_begin (xPre G false S sz [.ref (G.2.2 4 0), .ref (G.2.2 cv1 v1), .int v2, .int v3]) (xQi G false sz o) 0 0 (XA G false sz) :=
  x_start hD (by decide) rfl (Nat.le_of_ble_eq_true rfl) (fun p e s m below meth c X hW ls hl => w_X5_begin_0 X cv1 v1 v2 v3 hW hl h)

/-! WirelessCell$Medium.spoilAll()V -/
def rmX5_spoilAll : Room := { frames := 0, cells := 0, slots := 0, locals := 0 }
def L_X5_spoilAll_30 (k2 : Int32 → Mm → Option (Unit × Mm)) (v1 : Int32) (S : Mm) : Option (Unit × Mm) :=
  k2 (v1 + 1) S
def L_X5_spoilAll_2   : Nat → Int32 → Mm → Option (Unit × Mm)
  | 0, _, _ => none
  | n + 1, v1, S => 
    gf S 72 0 fun x1 =>
    if x1 ≤ v1 then (
    some ((), S))
    else (
    ldA S 31 0 40 1 v1 fun x2 =>
    gf S 76 0 fun x3 =>
    if x2 < x3 then (
    L_X5_spoilAll_30 (L_X5_spoilAll_2  n) v1 S)
    else (
    stA S 32 0 40 1 v1 (1 &&& 1) fun S4 =>
    L_X5_spoilAll_30 (L_X5_spoilAll_2  n) v1 S4))
def F_X5_spoilAll  (S : Mm) : Option (Unit × Mm) :=
  L_X5_spoilAll_2   fu 0 S
set_option maxRecDepth 100000 in
set_option maxHeartbeats 4000000 in
theorem w_X5_spoilAll_30 {p : Program} {l : Launch} {e : Env} {s : State} {m : MethodId} {args : Array Value} {below : List Frame} {meth : Method} {c : Code} {G : xG} {sz : Nat} {o : Unit × Mm} (X : xC G false sz p s m args c cX5_spoilAll 2 wsX5_spoilAll RX5 meth none) (v1 : Int32)  (k2 : Int32 → Mm → Option (Unit × Mm)) (hk2 : ∀ (v1 : Int32) (S : Mm) (H : Heap) (locs : List Loc) (ls : Array Slot), k2 v1 S = some o → xW G false sz s H locs S → lv_has ls 2 [(0, .ref (G.2.2 4 0)), (1, .int v1)] → wX p l e rmX5_spoilAll s m args below meth c H locs (xQv G false sz o) (XA G false sz) 2 ls []) {S : Mm} {H : Heap} {locs : List Loc} {ls : Array Slot} (hW : xW G false sz s H locs S) (hl : lv_has ls 2 [(0, .ref (G.2.2 4 0)), (1, .int v1)]) (h : L_X5_spoilAll_30 k2 v1 S = some o) : wX p l e rmX5_spoilAll s m args below meth c H locs (xQv G false sz o) (XA G false sz) 30 ls [] := by
  unfold L_X5_spoilAll_30 at h
  refine lv_iinc (v := (v1 + 1)) (lv' := [(1, .int (v1 + 1)), (0, .ref (G.2.2 4 0))]) X.1 X.2.1 dX5_spoilAll_30 hl (k := 1) rfl rfl (by decide) rfl (fun ls hl => ?_)
  refine lv_goto (tgt := 2) X.1 X.2.1 dX5_spoilAll_33 (by decide) ?_
  exact hk2 (v1 + 1) S _ _ _ h hW  (lv_sub hl [1, 0] rfl)
set_option maxRecDepth 100000 in
set_option maxHeartbeats 4000000 in
theorem w_X5_spoilAll_2 {p : Program} {l : Launch} {e : Env} {s : State} {m : MethodId} {args : Array Value} {below : List Frame} {meth : Method} {c : Code} {G : xG} {sz : Nat} {o : Unit × Mm} (X : xC G false sz p s m args c cX5_spoilAll 2 wsX5_spoilAll RX5 meth none)    : ∀ (n : Nat) (v1 : Int32) (S : Mm) (H : Heap) (locs : List Loc) (ls : Array Slot), L_X5_spoilAll_2  n v1 S = some o → xW G false sz s H locs S → lv_has ls 2 [(0, .ref (G.2.2 4 0)), (1, .int v1)] → wX p l e rmX5_spoilAll s m args below meth c H locs (xQv G false sz o) (XA G false sz) 2 ls [] := by
  intro n
  induction n with
  | zero =>
    intro v1 S H locs ls h
    cases h
  | succ n ih =>
    intro v1 S H locs ls h hW  hl
    rw [L_X5_spoilAll_2] at h
    refine lv_iload_n X.1 X.2.1 dX5_spoilAll_2 rfl (lv_at hl 1 rfl) ?_
    refine lv_aload_n X.1 X.2.1 dX5_spoilAll_3 rfl (lv_at hl 0 rfl) ?_
    refine x_getI X hW fd_Medium_kept (fun w h => List.mem_cons_of_mem _ (gin_X5 w h)) (List.mem_cons_of_mem _ gw332) z_1 dX5_spoilAll_4 h (fun x1 h => ?_)
    refine x_icmp_ge X (tgt := 36) dX5_spoilAll_7 (by decide) h (fun h => ?_) (fun h => ?_)
    · exact x_vret X hW h dX5_spoilAll_36
    · refine lv_aload_n X.1 X.2.1 dX5_spoilAll_10 rfl (lv_at hl 0 rfl) ?_
      refine x_getR X hW fd_Medium_lastSlots (fun w h => List.mem_cons_of_mem _ (gin_X5 w h)) (List.mem_cons_of_mem _ gw57) z_1 dX5_spoilAll_11 ?_
      refine lv_iload_n X.1 X.2.1 dX5_spoilAll_14 rfl (lv_at hl 1 rfl) ?_
      refine x_iald X hW ar_31 dX5_spoilAll_15 h (fun x2 h => ?_)
      refine lv_aload_n X.1 X.2.1 dX5_spoilAll_16 rfl (lv_at hl 0 rfl) ?_
      refine x_getI X hW fd_Medium_slot (fun w h => List.mem_cons_of_mem _ (gin_X5 w h)) (List.mem_cons_of_mem _ gw613) z_1 dX5_spoilAll_17 h (fun x3 h => ?_)
      refine x_icmp_lt X (tgt := 30) dX5_spoilAll_20 (by decide) h (fun h => ?_) (fun h => ?_)
      · exact w_X5_spoilAll_30 X v1  (L_X5_spoilAll_2  n) ih hW (lv_sub hl [0, 1] rfl) h
      · refine lv_aload_n X.1 X.2.1 dX5_spoilAll_23 rfl (lv_at hl 0 rfl) ?_
        refine x_getR X hW fd_Medium_spoiled (fun w h => List.mem_cons_of_mem _ (gin_X5 w h)) (List.mem_cons_of_mem _ gw59) z_1 dX5_spoilAll_24 ?_
        refine lv_iload_n X.1 X.2.1 dX5_spoilAll_27 rfl (lv_at hl 1 rfl) ?_
        refine lv_iconst (v := 1) X.1 X.2.1 dX5_spoilAll_28 rfl ?_
        refine x_zast X hW ar_32 dX5_spoilAll_29 h (fun S4 H locs h hW => ?_)
        exact w_X5_spoilAll_30 X v1  (L_X5_spoilAll_2  n) ih hW (lv_sub hl [0, 1] rfl) h
set_option maxRecDepth 100000 in
set_option maxHeartbeats 4000000 in
theorem w_X5_spoilAll_0 {p : Program} {l : Launch} {e : Env} {s : State} {m : MethodId} {args : Array Value} {below : List Frame} {meth : Method} {c : Code} {G : xG} {sz : Nat} {o : Unit × Mm} (X : xC G false sz p s m args c cX5_spoilAll 2 wsX5_spoilAll RX5 meth none)  {S : Mm} {H : Heap} {locs : List Loc} {ls : Array Slot} (hW : xW G false sz s H locs S) (hl : lv_has ls 2 [(0, .ref (G.2.2 4 0))]) (h : F_X5_spoilAll  S = some o) : wX p l e rmX5_spoilAll s m args below meth c H locs (xQv G false sz o) (XA G false sz) 0 ls [] := by
  unfold F_X5_spoilAll at h
  refine lv_iconst (v := 0) X.1 X.2.1 dX5_spoilAll_0 rfl ?_
  refine lv_istore_n (lv' := [(1, .int 0), (0, .ref (G.2.2 4 0))]) X.1 X.2.1 dX5_spoilAll_1 rfl hl (by decide) rfl (fun ls hl => ?_)
  exact w_X5_spoilAll_2 X    fu 0 S _ _ _ h hW  (lv_sub hl [1, 0] rfl)
theorem c_X5_spoilAll (l : Launch) (G : xG) (hD : xD G false) (sz : Nat) (S : Mm)  (o : Unit × Mm) (h : F_X5_spoilAll  S = some o) : Met l yX5_spoilAll wsX5_spoilAll rmX5_spoilAll (xPre G false S sz [.ref (G.2.2 4 0)]) (xQv G false sz o) 0 0 (XA G false sz) :=
  x_start hD (by decide) rfl (Nat.le_of_ble_eq_true rfl) (fun p e s m below meth c X hW ls hl => w_X5_spoilAll_0 X  hW hl h)

/-! WirelessCell$Medium.closeBeginnings()V -/
def rmX5_closeBeginnings : Room := { frames := 1, cells := 0, slots := 0, locals := 21 }
def L_X5_closeBeginnings_41   (S : Mm) : Option (Unit × Mm) :=
  cl (F_X5_spoilAll S) fun r10 S11 =>
  some ((), S11)
def F_X5_closeBeginnings  (S : Mm) : Option (Unit × Mm) :=
  gf S 74 0 fun x1 =>
  if x1 = 0 then (
  gf S 77 0 fun x8 =>
  pf S 77 0 (x8 + 1) fun S9 =>
  some ((), S9))
  else (
  gf S 76 0 fun x2 =>
  pf S 78 0 x2 fun S3 =>
  gf S3 74 0 fun x4 =>
  if 1 < x4 then (
  L_X5_closeBeginnings_41  S3)
  else (
  cl (F_X5_isNoisy S3) fun r5 S6 =>
  if r5 = 0 then (
  some ((), S6))
  else (
  L_X5_closeBeginnings_41  S6)))
set_option maxRecDepth 100000 in
set_option maxHeartbeats 4000000 in
theorem w_X5_closeBeginnings_41 {p : Program} {l : Launch} {e : Env} {s : State} {m : MethodId} {args : Array Value} {below : List Frame} {meth : Method} {c : Code} {G : xG} {sz : Nat} {o : Unit × Mm} (X : xC G false sz p s m args c cX5_closeBeginnings 1 wsX5_closeBeginnings RX5 meth none)    {S : Mm} {H : Heap} {locs : List Loc} {ls : Array Slot} (hW : xW G false sz s H locs S) (hl : lv_has ls 1 [(0, .ref (G.2.2 4 0))]) (h : L_X5_closeBeginnings_41   S = some o) : wX p l e rmX5_closeBeginnings s m args below meth c H locs (xQv G false sz o) (XA G false sz) 41 ls [] := by
  unfold L_X5_closeBeginnings_41 at h
  refine lv_aload_n X.1 X.2.1 dX5_closeBeginnings_41 rfl (lv_at hl 0 rfl) ?_
  obtain ⟨r10, S11, h12, h⟩ := cl_some h
  refine x_aftV X hW (x_runV (C := RX5) (a := G.2.2 4 0) (As := []) (rest := []) X hW (c_X5_spoilAll l G X.2.2.2.2.2.2.2.2.2.1 _ S _ h12) (cwV 0 X.2.2.2.2.1 (gV gw741 gw742 gw743 gw20 gw744) rfl rfl rfl ⟨rfl, hd_X5_spoilAll⟩ ⟨Nat.le_of_ble_eq_true rfl, Nat.le_of_ble_eq_true rfl⟩) (x_recv X hW ob_Medium z_1) rfl hl.1 rfl (Nat.le_of_ble_eq_true rfl) dX5_closeBeginnings_42 ⟨Nat.zero_le _, Nat.zero_le _⟩) (fun H locs hW => ?_)
  exact x_vret X hW h dX5_closeBeginnings_45
set_option maxRecDepth 100000 in
set_option maxHeartbeats 4000000 in
theorem w_X5_closeBeginnings_0 {p : Program} {l : Launch} {e : Env} {s : State} {m : MethodId} {args : Array Value} {below : List Frame} {meth : Method} {c : Code} {G : xG} {sz : Nat} {o : Unit × Mm} (X : xC G false sz p s m args c cX5_closeBeginnings 1 wsX5_closeBeginnings RX5 meth none)  {S : Mm} {H : Heap} {locs : List Loc} {ls : Array Slot} (hW : xW G false sz s H locs S) (hl : lv_has ls 1 [(0, .ref (G.2.2 4 0))]) (h : F_X5_closeBeginnings  S = some o) : wX p l e rmX5_closeBeginnings s m args below meth c H locs (xQv G false sz o) (XA G false sz) 0 ls [] := by
  unfold F_X5_closeBeginnings at h
  refine lv_aload_n X.1 X.2.1 dX5_closeBeginnings_0 rfl (lv_at hl 0 rfl) ?_
  refine x_getI X hW fd_Medium_onAir (fun w h => List.mem_cons_of_mem _ (gin_X5 w h)) (List.mem_cons_of_mem _ gw640) z_1 dX5_closeBeginnings_1 h (fun x1 h => ?_)
  refine x_if_ne X (tgt := 18) dX5_closeBeginnings_4 (by decide) h (fun h => ?_) (fun h => ?_)
  · refine lv_aload_n X.1 X.2.1 dX5_closeBeginnings_18 rfl (lv_at hl 0 rfl) ?_
    refine lv_aload_n X.1 X.2.1 dX5_closeBeginnings_19 rfl (lv_at hl 0 rfl) ?_
    refine x_getI X hW fd_Medium_slot (fun w h => List.mem_cons_of_mem _ (gin_X5 w h)) (List.mem_cons_of_mem _ gw613) z_1 dX5_closeBeginnings_20 h (fun x2 h => ?_)
    refine x_putI X hW fd_Medium_lastBusySlot (fun w h => List.mem_cons_of_mem _ (gin_X5 w h)) (List.mem_cons_of_mem _ gw62) z_1 dX5_closeBeginnings_23 tyX5 tyX5_ok nmX5 rfl rfl rfl h (fun S3 H locs h hW => ?_)
    refine lv_aload_n X.1 X.2.1 dX5_closeBeginnings_26 rfl (lv_at hl 0 rfl) ?_
    refine x_getI X hW fd_Medium_onAir (fun w h => List.mem_cons_of_mem _ (gin_X5 w h)) (List.mem_cons_of_mem _ gw640) z_1 dX5_closeBeginnings_27 h (fun x4 h => ?_)
    refine lv_iconst (v := 1) X.1 X.2.1 dX5_closeBeginnings_30 rfl ?_
    refine x_icmp_gt X (tgt := 41) dX5_closeBeginnings_31 (by decide) h (fun h => ?_) (fun h => ?_)
    · exact w_X5_closeBeginnings_41 X    hW (lv_sub hl [0] rfl) h
    · refine lv_aload_n X.1 X.2.1 dX5_closeBeginnings_34 rfl (lv_at hl 0 rfl) ?_
      obtain ⟨r5, S6, h7, h⟩ := cl_some h
      refine x_aftI X hW (x_runV (C := RX5) (a := G.2.2 4 0) (As := []) (rest := []) X hW (c_X5_isNoisy l G X.2.2.2.2.2.2.2.2.2.1 _ S3 _ h7) (cwV 0 X.2.2.2.2.1 (gV gw737 gw738 gw739 gw20 gw740) rfl rfl rfl ⟨rfl, hd_X5_isNoisy⟩ ⟨Nat.le_of_ble_eq_true rfl, Nat.le_of_ble_eq_true rfl⟩) (x_recv X hW ob_Medium z_1) rfl hl.1 rfl (Nat.le_of_ble_eq_true rfl) dX5_closeBeginnings_35 ⟨Nat.zero_le _, Nat.zero_le _⟩) (fun H locs hW => ?_)
      refine x_if_eq X (tgt := 45) dX5_closeBeginnings_38 (by decide) h (fun h => ?_) (fun h => ?_)
      · exact x_vret X hW h dX5_closeBeginnings_45
      · exact w_X5_closeBeginnings_41 X    hW (lv_sub hl [0] rfl) h
  · refine lv_aload_n X.1 X.2.1 dX5_closeBeginnings_7 rfl (lv_at hl 0 rfl) ?_
    refine lv_dup X.1 X.2.1 dX5_closeBeginnings_8 rfl ?_
    refine x_getI X hW fd_Medium_quietSlots (fun w h => List.mem_cons_of_mem _ (gin_X5 w h)) (List.mem_cons_of_mem _ gw614) z_1 dX5_closeBeginnings_9 h (fun x8 h => ?_)
    refine lv_iconst (v := 1) X.1 X.2.1 dX5_closeBeginnings_12 rfl ?_
    refine lv_iadd X.1 X.2.1 dX5_closeBeginnings_13 ?_
    refine x_putI X hW fd_Medium_quietSlots (fun w h => List.mem_cons_of_mem _ (gin_X5 w h)) (List.mem_cons_of_mem _ gw614) z_1 dX5_closeBeginnings_14 tyX5 tyX5_ok nmX5 rfl rfl rfl h (fun S9 H locs h hW => ?_)
    exact x_vret X hW h dX5_closeBeginnings_17
theorem c_X5_closeBeginnings (l : Launch) (G : xG) (hD : xD G false) (sz : Nat) (S : Mm)  (o : Unit × Mm) (h : F_X5_closeBeginnings  S = some o) : Met l yX5_closeBeginnings wsX5_closeBeginnings rmX5_closeBeginnings (xPre G false S sz [.ref (G.2.2 4 0)]) (xQv G false sz o) 0 0 (XA G false sz) :=
  x_start hD (by decide) rfl (Nat.le_of_ble_eq_true rfl) (fun p e s m below meth c X hW ls hl => w_X5_closeBeginnings_0 X  hW hl h)

/-! WirelessCell$Medium.closeEndings()Z -/
def rmX5_closeEndings : Room := { frames := 0, cells := 0, slots := 0, locals := 0 }
def L_X5_closeEndings_88  (v3 : Int32) (s1 : Int32) (s2 : Int32) (S : Mm) : Option (Int32 × Mm) :=
  pf S 75 0 (s1 + s2) fun S13 =>
  gd (v3 &&& 1 = v3) (some (v3, S13))
def L_X5_closeEndings_71  (v2 : Int32) (s0 : Int32) (S : Mm) : Option (Int32 × Mm) :=
  gf S 75 0 fun x12 =>
  if s0 = 0 then (
  L_X5_closeEndings_88  s0 x12 v2 S)
  else (
  L_X5_closeEndings_88  s0 x12 (v2 - 1) S)
def L_X5_closeEndings_70  (v2 : Int32) (S : Mm) : Option (Int32 × Mm) :=
  L_X5_closeEndings_71  v2 0 S
def F_X5_closeEndings  (S : Mm) : Option (Int32 × Mm) :=
  gf S 76 0 fun x1 =>
  tp (x1 &&& 15) fun x2 =>
  ldA S 33 0 16 1 x2 fun x3 =>
  if x3 = 0 then (
  some (0, S))
  else (
  stA S 33 0 16 1 x2 0 fun S4 =>
  gf S4 74 0 fun x5 =>
  pf S4 74 0 (x5 - x3) fun S6 =>
  gf S6 71 0 fun x7 =>
  ldA S6 31 0 40 1 x7 fun x8 =>
  gf S6 76 0 fun x9 =>
  if x8 = x9 then (
  gf S6 71 0 fun x10 =>
  ldA S6 32 0 40 1 x10 fun x11 =>
  if x11 = 0 then (
  L_X5_closeEndings_71  x3 1 S6)
  else (
  L_X5_closeEndings_70  x3 S6))
  else (
  L_X5_closeEndings_70  x3 S6))
set_option maxRecDepth 100000 in
set_option maxHeartbeats 4000000 in
theorem w_X5_closeEndings_88 {p : Program} {l : Launch} {e : Env} {s : State} {m : MethodId} {args : Array Value} {below : List Frame} {meth : Method} {c : Code} {G : xG} {sz : Nat} {o : Int32 × Mm} (X : xC G false sz p s m args c cX5_closeEndings 4 wsX5_closeEndings RX5 meth (some .boolean)) (v3 : Int32) (s1 : Int32) (s2 : Int32)   {S : Mm} {H : Heap} {locs : List Loc} {ls : Array Slot} (hW : xW G false sz s H locs S) (hl : lv_has ls 4 [(3, .int v3)]) (h : L_X5_closeEndings_88  v3 s1 s2 S = some o) : wX p l e rmX5_closeEndings s m args below meth c H locs (xQi G false sz o) (XA G false sz) 88 ls [.int s2, .int s1, .ref (G.2.2 4 0)] := by
  unfold L_X5_closeEndings_88 at h
  refine lv_iadd X.1 X.2.1 dX5_closeEndings_88 ?_
  refine x_putI X hW fd_Medium_notClean (fun w h => List.mem_cons_of_mem _ (gin_X5 w h)) (List.mem_cons_of_mem _ gw754) z_1 dX5_closeEndings_89 tyX5 tyX5_ok nmX5 rfl rfl rfl h (fun S13 H locs h hW => ?_)
  refine lv_iload_n X.1 X.2.1 dX5_closeEndings_92 rfl (lv_at hl 0 rfl) ?_
  obtain ⟨g14, h⟩ := if_some h
  exact x_zret X hW h g14 dX5_closeEndings_93
set_option maxRecDepth 100000 in
set_option maxHeartbeats 4000000 in
theorem w_X5_closeEndings_71 {p : Program} {l : Launch} {e : Env} {s : State} {m : MethodId} {args : Array Value} {below : List Frame} {meth : Method} {c : Code} {G : xG} {sz : Nat} {o : Int32 × Mm} (X : xC G false sz p s m args c cX5_closeEndings 4 wsX5_closeEndings RX5 meth (some .boolean)) (v2 : Int32) (s0 : Int32)   {S : Mm} {H : Heap} {locs : List Loc} {ls : Array Slot} (hW : xW G false sz s H locs S) (hl : lv_has ls 4 [(0, .ref (G.2.2 4 0)), (2, .int v2)]) (h : L_X5_closeEndings_71  v2 s0 S = some o) : wX p l e rmX5_closeEndings s m args below meth c H locs (xQi G false sz o) (XA G false sz) 71 ls [.int s0] := by
  unfold L_X5_closeEndings_71 at h
  refine lv_istore_n (lv' := [(3, .int s0), (0, .ref (G.2.2 4 0)), (2, .int v2)]) X.1 X.2.1 dX5_closeEndings_71 rfl hl (by decide) rfl (fun ls hl => ?_)
  refine lv_aload_n X.1 X.2.1 dX5_closeEndings_72 rfl (lv_at hl 1 rfl) ?_
  refine lv_dup X.1 X.2.1 dX5_closeEndings_73 rfl ?_
  refine x_getI X hW fd_Medium_notClean (fun w h => List.mem_cons_of_mem _ (gin_X5 w h)) (List.mem_cons_of_mem _ gw754) z_1 dX5_closeEndings_74 h (fun x12 h => ?_)
  refine lv_iload_n X.1 X.2.1 dX5_closeEndings_77 rfl (lv_at hl 0 rfl) ?_
  refine x_if_eq X (tgt := 87) dX5_closeEndings_78 (by decide) h (fun h => ?_) (fun h => ?_)
  · refine lv_iload_n X.1 X.2.1 dX5_closeEndings_87 rfl (lv_at hl 2 rfl) ?_
    exact w_X5_closeEndings_88 X s0 x12 v2   hW (lv_sub hl [0] rfl) h
  · refine lv_iload_n X.1 X.2.1 dX5_closeEndings_81 rfl (lv_at hl 2 rfl) ?_
    refine lv_iconst (v := 1) X.1 X.2.1 dX5_closeEndings_82 rfl ?_
    refine lv_isub X.1 X.2.1 dX5_closeEndings_83 ?_
    refine lv_goto (tgt := 88) X.1 X.2.1 dX5_closeEndings_84 (by decide) ?_
    exact w_X5_closeEndings_88 X s0 x12 (v2 - 1)   hW (lv_sub hl [0] rfl) h
set_option maxRecDepth 100000 in
set_option maxHeartbeats 4000000 in
theorem w_X5_closeEndings_70 {p : Program} {l : Launch} {e : Env} {s : State} {m : MethodId} {args : Array Value} {below : List Frame} {meth : Method} {c : Code} {G : xG} {sz : Nat} {o : Int32 × Mm} (X : xC G false sz p s m args c cX5_closeEndings 4 wsX5_closeEndings RX5 meth (some .boolean)) (v2 : Int32)   {S : Mm} {H : Heap} {locs : List Loc} {ls : Array Slot} (hW : xW G false sz s H locs S) (hl : lv_has ls 4 [(0, .ref (G.2.2 4 0)), (2, .int v2)]) (h : L_X5_closeEndings_70  v2 S = some o) : wX p l e rmX5_closeEndings s m args below meth c H locs (xQi G false sz o) (XA G false sz) 70 ls [] := by
  unfold L_X5_closeEndings_70 at h
  refine lv_iconst (v := 0) X.1 X.2.1 dX5_closeEndings_70 rfl ?_
  exact w_X5_closeEndings_71 X v2 0   hW (lv_sub hl [0, 1] rfl) h
set_option maxRecDepth 100000 in
set_option maxHeartbeats 4000000 in
theorem w_X5_closeEndings_0 {p : Program} {l : Launch} {e : Env} {s : State} {m : MethodId} {args : Array Value} {below : List Frame} {meth : Method} {c : Code} {G : xG} {sz : Nat} {o : Int32 × Mm} (X : xC G false sz p s m args c cX5_closeEndings 4 wsX5_closeEndings RX5 meth (some .boolean))  {S : Mm} {H : Heap} {locs : List Loc} {ls : Array Slot} (hW : xW G false sz s H locs S) (hl : lv_has ls 4 [(0, .ref (G.2.2 4 0))]) (h : F_X5_closeEndings  S = some o) : wX p l e rmX5_closeEndings s m args below meth c H locs (xQi G false sz o) (XA G false sz) 0 ls [] := by
  unfold F_X5_closeEndings at h
  refine lv_aload_n X.1 X.2.1 dX5_closeEndings_0 rfl (lv_at hl 0 rfl) ?_
  refine x_getI X hW fd_Medium_slot (fun w h => List.mem_cons_of_mem _ (gin_X5 w h)) (List.mem_cons_of_mem _ gw613) z_1 dX5_closeEndings_1 h (fun x1 h => ?_)
  refine lv_bipush (v := 15) X.1 X.2.1 dX5_closeEndings_4 rfl ?_
  refine lv_iand X.1 X.2.1 dX5_closeEndings_6 ?_
  refine x_top h (fun x2 h => ?_)
  refine lv_istore_n (lv' := [(1, .int x2), (0, .ref (G.2.2 4 0))]) X.1 X.2.1 dX5_closeEndings_7 rfl hl (by decide) rfl (fun ls hl => ?_)
  refine lv_aload_n X.1 X.2.1 dX5_closeEndings_8 rfl (lv_at hl 1 rfl) ?_
  refine x_getR X hW fd_Medium_endings (fun w h => List.mem_cons_of_mem _ (gin_X5 w h)) (List.mem_cons_of_mem _ gw61) z_1 dX5_closeEndings_9 ?_
  refine lv_iload_n X.1 X.2.1 dX5_closeEndings_12 rfl (lv_at hl 0 rfl) ?_
  refine x_iald X hW ar_33 dX5_closeEndings_13 h (fun x3 h => ?_)
  refine lv_istore_n (lv' := [(2, .int x3), (1, .int x2), (0, .ref (G.2.2 4 0))]) X.1 X.2.1 dX5_closeEndings_14 rfl hl (by decide) rfl (fun ls hl => ?_)
  refine lv_iload_n X.1 X.2.1 dX5_closeEndings_15 rfl (lv_at hl 0 rfl) ?_
  refine x_if_ne X (tgt := 21) dX5_closeEndings_16 (by decide) h (fun h => ?_) (fun h => ?_)
  · refine lv_aload_n X.1 X.2.1 dX5_closeEndings_21 rfl (lv_at hl 2 rfl) ?_
    refine x_getR X hW fd_Medium_endings (fun w h => List.mem_cons_of_mem _ (gin_X5 w h)) (List.mem_cons_of_mem _ gw61) z_1 dX5_closeEndings_22 ?_
    refine lv_iload_n X.1 X.2.1 dX5_closeEndings_25 rfl (lv_at hl 1 rfl) ?_
    refine lv_iconst (v := 0) X.1 X.2.1 dX5_closeEndings_26 rfl ?_
    refine x_iast X hW ar_33 dX5_closeEndings_27 h (fun S4 H locs h hW => ?_)
    refine lv_aload_n X.1 X.2.1 dX5_closeEndings_28 rfl (lv_at hl 2 rfl) ?_
    refine lv_dup X.1 X.2.1 dX5_closeEndings_29 rfl ?_
    refine x_getI X hW fd_Medium_onAir (fun w h => List.mem_cons_of_mem _ (gin_X5 w h)) (List.mem_cons_of_mem _ gw640) z_1 dX5_closeEndings_30 h (fun x5 h => ?_)
    refine lv_iload_n X.1 X.2.1 dX5_closeEndings_33 rfl (lv_at hl 0 rfl) ?_
    refine lv_isub X.1 X.2.1 dX5_closeEndings_34 ?_
    refine x_putI X hW fd_Medium_onAir (fun w h => List.mem_cons_of_mem _ (gin_X5 w h)) (List.mem_cons_of_mem _ gw640) z_1 dX5_closeEndings_35 tyX5 tyX5_ok nmX5 rfl rfl rfl h (fun S6 H locs h hW => ?_)
    refine lv_aload_n X.1 X.2.1 dX5_closeEndings_38 rfl (lv_at hl 2 rfl) ?_
    refine x_getR X hW fd_Medium_lastSlots (fun w h => List.mem_cons_of_mem _ (gin_X5 w h)) (List.mem_cons_of_mem _ gw57) z_1 dX5_closeEndings_39 ?_
    refine lv_aload_n X.1 X.2.1 dX5_closeEndings_42 rfl (lv_at hl 2 rfl) ?_
    refine x_getI X hW fd_Medium_newest (fun w h => List.mem_cons_of_mem _ (gin_X5 w h)) (List.mem_cons_of_mem _ gw60) z_1 dX5_closeEndings_43 h (fun x7 h => ?_)
    refine x_iald X hW ar_31 dX5_closeEndings_46 h (fun x8 h => ?_)
    refine lv_aload_n X.1 X.2.1 dX5_closeEndings_47 rfl (lv_at hl 2 rfl) ?_
    refine x_getI X hW fd_Medium_slot (fun w h => List.mem_cons_of_mem _ (gin_X5 w h)) (List.mem_cons_of_mem _ gw613) z_1 dX5_closeEndings_48 h (fun x9 h => ?_)
    refine x_icmp_ne X (tgt := 70) dX5_closeEndings_51 (by decide) h (fun h => ?_) (fun h => ?_)
    · exact w_X5_closeEndings_70 X x3   hW (lv_sub hl [2, 0] rfl) h
    · refine lv_aload_n X.1 X.2.1 dX5_closeEndings_54 rfl (lv_at hl 2 rfl) ?_
      refine x_getR X hW fd_Medium_spoiled (fun w h => List.mem_cons_of_mem _ (gin_X5 w h)) (List.mem_cons_of_mem _ gw59) z_1 dX5_closeEndings_55 ?_
      refine lv_aload_n X.1 X.2.1 dX5_closeEndings_58 rfl (lv_at hl 2 rfl) ?_
      refine x_getI X hW fd_Medium_newest (fun w h => List.mem_cons_of_mem _ (gin_X5 w h)) (List.mem_cons_of_mem _ gw60) z_1 dX5_closeEndings_59 h (fun x10 h => ?_)
      refine x_zald X hW ar_32 dX5_closeEndings_62 h (fun x11 h => ?_)
      refine x_if_ne X (tgt := 70) dX5_closeEndings_63 (by decide) h (fun h => ?_) (fun h => ?_)
      · exact w_X5_closeEndings_70 X x3   hW (lv_sub hl [2, 0] rfl) h
      · refine lv_iconst (v := 1) X.1 X.2.1 dX5_closeEndings_66 rfl ?_
        refine lv_goto (tgt := 71) X.1 X.2.1 dX5_closeEndings_67 (by decide) ?_
        exact w_X5_closeEndings_71 X x3 1   hW (lv_sub hl [2, 0] rfl) h
  · refine lv_iconst (v := 0) X.1 X.2.1 dX5_closeEndings_19 rfl ?_
    exact x_zret X hW h rfl dX5_closeEndings_20
theorem c_X5_closeEndings (l : Launch) (G : xG) (hD : xD G false) (sz : Nat) (S : Mm)  (o : Int32 × Mm) (h : F_X5_closeEndings  S = some o) : Met l yX5_closeEndings wsX5_closeEndings rmX5_closeEndings (xPre G false S sz [.ref (G.2.2 4 0)]) (xQi G false sz o) 0 0 (XA G false sz) :=
  x_start hD (by decide) rfl (Nat.le_of_ble_eq_true rfl) (fun p e s m below meth c X hW ls hl => w_X5_closeEndings_0 X  hW hl h)

/-! WirelessCell$Medium.newestBytes()[I -/
def rmX5_newestBytes : Room := { frames := 0, cells := 0, slots := 0, locals := 0 }
def F_X5_newestBytes  (S : Mm) : Option (Option Nat × Mm) :=
  gf S 71 0 fun x1 =>
  ldR S 26 0 40 1 x1 40 fun i2 =>
  some (some i2, S)
set_option maxRecDepth 100000 in
set_option maxHeartbeats 4000000 in
theorem w_X5_newestBytes_0 {p : Program} {l : Launch} {e : Env} {s : State} {m : MethodId} {args : Array Value} {below : List Frame} {meth : Method} {c : Code} {G : xG} {sz : Nat} {o : Option Nat × Mm} (X : xC G false sz p s m args c cX5_newestBytes 1 wsX5_newestBytes RX5 meth (some (.array .int)))  {S : Mm} {H : Heap} {locs : List Loc} {ls : Array Slot} (hW : xW G false sz s H locs S) (hl : lv_has ls 1 [(0, .ref (G.2.2 4 0))]) (h : F_X5_newestBytes  S = some o) : wX p l e rmX5_newestBytes s m args below meth c H locs (xQq G false sz 27 o) (XA G false sz) 0 ls [] := by
  unfold F_X5_newestBytes at h
  refine lv_aload_n X.1 X.2.1 dX5_newestBytes_0 rfl (lv_at hl 0 rfl) ?_
  refine x_getR X hW fd_Medium_rows (fun w h => List.mem_cons_of_mem _ (gin_X5 w h)) (List.mem_cons_of_mem _ gw53) z_1 dX5_newestBytes_1 ?_
  refine lv_aload_n X.1 X.2.1 dX5_newestBytes_4 rfl (lv_at hl 0 rfl) ?_
  refine x_getI X hW fd_Medium_newest (fun w h => List.mem_cons_of_mem _ (gin_X5 w h)) (List.mem_cons_of_mem _ gw60) z_1 dX5_newestBytes_5 h (fun x1 h => ?_)
  refine x_aald X hW ar_26 (ct := 27) rfl (at_26 G) rfl dX5_newestBytes_8 h (fun i2 qi2 h => ?_)
  exact x_aret X hW rfl (Or.inr ⟨_, rfl⟩) h dX5_newestBytes_9
theorem c_X5_newestBytes (l : Launch) (G : xG) (hD : xD G false) (sz : Nat) (S : Mm)  (o : Option Nat × Mm) (h : F_X5_newestBytes  S = some o) : Met l yX5_newestBytes wsX5_newestBytes rmX5_newestBytes (xPre G false S sz [.ref (G.2.2 4 0)]) (xQq G false sz 27 o) 0 0 (XA G false sz) :=
  x_start hD (by decide) rfl (Nat.le_of_ble_eq_true rfl) (fun p e s m below meth c X hW ls hl => w_X5_newestBytes_0 X  hW hl h)

/-! WirelessCell$Medium.newestLength()I -/
def rmX5_newestLength : Room := { frames := 0, cells := 0, slots := 0, locals := 0 }
def F_X5_newestLength  (S : Mm) : Option (Int32 × Mm) :=
  gf S 71 0 fun x1 =>
  ldA S 28 0 40 1 x1 fun x2 =>
  some (x2, S)
set_option maxRecDepth 100000 in
set_option maxHeartbeats 4000000 in
theorem w_X5_newestLength_0 {p : Program} {l : Launch} {e : Env} {s : State} {m : MethodId} {args : Array Value} {below : List Frame} {meth : Method} {c : Code} {G : xG} {sz : Nat} {o : Int32 × Mm} (X : xC G false sz p s m args c cX5_newestLength 1 wsX5_newestLength RX5 meth (some .int))  {S : Mm} {H : Heap} {locs : List Loc} {ls : Array Slot} (hW : xW G false sz s H locs S) (hl : lv_has ls 1 [(0, .ref (G.2.2 4 0))]) (h : F_X5_newestLength  S = some o) : wX p l e rmX5_newestLength s m args below meth c H locs (xQi G false sz o) (XA G false sz) 0 ls [] := by
  unfold F_X5_newestLength at h
  refine lv_aload_n X.1 X.2.1 dX5_newestLength_0 rfl (lv_at hl 0 rfl) ?_
  refine x_getR X hW fd_Medium_lengths (fun w h => List.mem_cons_of_mem _ (gin_X5 w h)) (List.mem_cons_of_mem _ gw54) z_1 dX5_newestLength_1 ?_
  refine lv_aload_n X.1 X.2.1 dX5_newestLength_4 rfl (lv_at hl 0 rfl) ?_
  refine x_getI X hW fd_Medium_newest (fun w h => List.mem_cons_of_mem _ (gin_X5 w h)) (List.mem_cons_of_mem _ gw60) z_1 dX5_newestLength_5 h (fun x1 h => ?_)
  refine x_iald X hW ar_28 dX5_newestLength_8 h (fun x2 h => ?_)
  exact x_iret X hW h dX5_newestLength_9
theorem c_X5_newestLength (l : Launch) (G : xG) (hD : xD G false) (sz : Nat) (S : Mm)  (o : Int32 × Mm) (h : F_X5_newestLength  S = some o) : Met l yX5_newestLength wsX5_newestLength rmX5_newestLength (xPre G false S sz [.ref (G.2.2 4 0)]) (xQi G false sz o) 0 0 (XA G false sz) :=
  x_start hD (by decide) rfl (Nat.le_of_ble_eq_true rfl) (fun p e s m below meth c X hW ls hl => w_X5_newestLength_0 X  hW hl h)

/-! WirelessCell$Medium.newestSender()I -/
def rmX5_newestSender : Room := { frames := 0, cells := 0, slots := 0, locals := 0 }
def F_X5_newestSender  (S : Mm) : Option (Int32 × Mm) :=
  gf S 71 0 fun x1 =>
  ldA S 29 0 40 1 x1 fun x2 =>
  some (x2, S)
set_option maxRecDepth 100000 in
set_option maxHeartbeats 4000000 in
theorem w_X5_newestSender_0 {p : Program} {l : Launch} {e : Env} {s : State} {m : MethodId} {args : Array Value} {below : List Frame} {meth : Method} {c : Code} {G : xG} {sz : Nat} {o : Int32 × Mm} (X : xC G false sz p s m args c cX5_newestSender 1 wsX5_newestSender RX5 meth (some .int))  {S : Mm} {H : Heap} {locs : List Loc} {ls : Array Slot} (hW : xW G false sz s H locs S) (hl : lv_has ls 1 [(0, .ref (G.2.2 4 0))]) (h : F_X5_newestSender  S = some o) : wX p l e rmX5_newestSender s m args below meth c H locs (xQi G false sz o) (XA G false sz) 0 ls [] := by
  unfold F_X5_newestSender at h
  refine lv_aload_n X.1 X.2.1 dX5_newestSender_0 rfl (lv_at hl 0 rfl) ?_
  refine x_getR X hW fd_Medium_senders (fun w h => List.mem_cons_of_mem _ (gin_X5 w h)) (List.mem_cons_of_mem _ gw55) z_1 dX5_newestSender_1 ?_
  refine lv_aload_n X.1 X.2.1 dX5_newestSender_4 rfl (lv_at hl 0 rfl) ?_
  refine x_getI X hW fd_Medium_newest (fun w h => List.mem_cons_of_mem _ (gin_X5 w h)) (List.mem_cons_of_mem _ gw60) z_1 dX5_newestSender_5 h (fun x1 h => ?_)
  refine x_iald X hW ar_29 dX5_newestSender_8 h (fun x2 h => ?_)
  exact x_iret X hW h dX5_newestSender_9
theorem c_X5_newestSender (l : Launch) (G : xG) (hD : xD G false) (sz : Nat) (S : Mm)  (o : Int32 × Mm) (h : F_X5_newestSender  S = some o) : Met l yX5_newestSender wsX5_newestSender rmX5_newestSender (xPre G false S sz [.ref (G.2.2 4 0)]) (xQi G false sz o) 0 0 (XA G false sz) :=
  x_start hD (by decide) rfl (Nat.le_of_ble_eq_true rfl) (fun p e s m below meth c X hW ls hl => w_X5_newestSender_0 X  hW hl h)

/-! java/lang/Math.floorMod(II)I -/
def rmJ9_floorMod_7cf53 : Room := { frames := 0, cells := 0, slots := 0, locals := 0 }
def L_J9_floorMod_7cf53_18  (v2 : Int32) (S : Mm) : Option (Int32 × Mm) :=
  some (v2, S)
def F_J9_floorMod_7cf53 (v0 : Int32) (v1 : Int32) (S : Mm) : Option (Int32 × Mm) :=
  gd (¬ v1 = 0) (
  tp (v0 - v0 / v1 * v1) fun x2 =>
  if 0 ≤ (v0 ^^^ v1) then (
  L_J9_floorMod_7cf53_18  x2 S)
  else (
  if x2 = 0 then (
  L_J9_floorMod_7cf53_18  x2 S)
  else (
  some ((x2 + v1), S))))
set_option maxRecDepth 100000 in
set_option maxHeartbeats 4000000 in
theorem w_J9_floorMod_7cf53_18 {p : Program} {l : Launch} {e : Env} {s : State} {m : MethodId} {args : Array Value} {below : List Frame} {meth : Method} {c : Code} {G : xG} {sz : Nat} {o : Int32 × Mm} (X : xC G false sz p s m args c cJ9_floorMod_7cf53 3 wsJ9_floorMod_7cf53 RJ9 meth (some .int)) (v2 : Int32)   {S : Mm} {H : Heap} {locs : List Loc} {ls : Array Slot} (hW : xW G false sz s H locs S) (hl : lv_has ls 3 [(2, .int v2)]) (h : L_J9_floorMod_7cf53_18  v2 S = some o) : wX p l e rmJ9_floorMod_7cf53 s m args below meth c H locs (xQi G false sz o) (XA G false sz) 18 ls [] := by
  unfold L_J9_floorMod_7cf53_18 at h
  refine lv_iload_n X.1 X.2.1 dJ9_floorMod_7cf53_18 rfl (lv_at hl 0 rfl) ?_
  exact x_iret X hW h dJ9_floorMod_7cf53_19
set_option maxRecDepth 100000 in
set_option maxHeartbeats 4000000 in
theorem w_J9_floorMod_7cf53_0 {p : Program} {l : Launch} {e : Env} {s : State} {m : MethodId} {args : Array Value} {below : List Frame} {meth : Method} {c : Code} {G : xG} {sz : Nat} {o : Int32 × Mm} (X : xC G false sz p s m args c cJ9_floorMod_7cf53 3 wsJ9_floorMod_7cf53 RJ9 meth (some .int)) (v0 : Int32) (v1 : Int32) {S : Mm} {H : Heap} {locs : List Loc} {ls : Array Slot} (hW : xW G false sz s H locs S) (hl : lv_has ls 3 [(0, .int v0), (1, .int v1)]) (h : F_J9_floorMod_7cf53 v0 v1 S = some o) : wX p l e rmJ9_floorMod_7cf53 s m args below meth c H locs (xQi G false sz o) (XA G false sz) 0 ls [] := by
  unfold F_J9_floorMod_7cf53 at h
  refine lv_iload_n X.1 X.2.1 dJ9_floorMod_7cf53_0 rfl (lv_at hl 0 rfl) ?_
  refine lv_iload_n X.1 X.2.1 dJ9_floorMod_7cf53_1 rfl (lv_at hl 1 rfl) ?_
  obtain ⟨g1, h⟩ := if_some h
  refine lv_irem X.1 X.2.1 dJ9_floorMod_7cf53_2 g1 ?_
  refine x_top h (fun x2 h => ?_)
  refine lv_istore_n (lv' := [(2, .int x2), (0, .int v0), (1, .int v1)]) X.1 X.2.1 dJ9_floorMod_7cf53_3 rfl hl (by decide) rfl (fun ls hl => ?_)
  refine lv_iload_n X.1 X.2.1 dJ9_floorMod_7cf53_4 rfl (lv_at hl 1 rfl) ?_
  refine lv_iload_n X.1 X.2.1 dJ9_floorMod_7cf53_5 rfl (lv_at hl 2 rfl) ?_
  refine lv_ixor X.1 X.2.1 dJ9_floorMod_7cf53_6 ?_
  refine x_if_ge X (tgt := 18) dJ9_floorMod_7cf53_7 (by decide) h (fun h => ?_) (fun h => ?_)
  · exact w_J9_floorMod_7cf53_18 X x2   hW (lv_sub hl [0] rfl) h
  · refine lv_iload_n X.1 X.2.1 dJ9_floorMod_7cf53_10 rfl (lv_at hl 0 rfl) ?_
    refine x_if_eq X (tgt := 18) dJ9_floorMod_7cf53_11 (by decide) h (fun h => ?_) (fun h => ?_)
    · exact w_J9_floorMod_7cf53_18 X x2   hW (lv_sub hl [0] rfl) h
    · refine lv_iload_n X.1 X.2.1 dJ9_floorMod_7cf53_14 rfl (lv_at hl 0 rfl) ?_
      refine lv_iload_n X.1 X.2.1 dJ9_floorMod_7cf53_15 rfl (lv_at hl 2 rfl) ?_
      refine lv_iadd X.1 X.2.1 dJ9_floorMod_7cf53_16 ?_
      exact x_iret X hW h dJ9_floorMod_7cf53_17
theorem c_J9_floorMod_7cf53 (l : Launch) (G : xG) (hD : xD G false) (sz : Nat) (S : Mm) (v0 : Int32) (v1 : Int32) (o : Int32 × Mm) (h : F_J9_floorMod_7cf53 v0 v1 S = some o) : Met l yJ9_floorMod_7cf53 wsJ9_floorMod_7cf53 rmJ9_floorMod_7cf53 (xPre G false S sz [.int v0, .int v1]) (xQi G false sz o) 0 0 (XA G false sz) :=
  x_startF hD (by decide +kernel) rfl (Nat.le_of_ble_eq_true rfl) (fun p e s m below meth c X hW ls hl => w_J9_floorMod_7cf53_0 X v0 v1 hW hl h)

/-! WirelessCell$Medium.rowOf(I)I -/
def rmX5_rowOf : Room := { frames := 1, cells := 0, slots := 0, locals := 22 }
def L_X5_rowOf_26   (S : Mm) : Option (Int32 × Mm) :=
  some ((-1), S)
def F_X5_rowOf (v1 : Int32) (S : Mm) : Option (Int32 × Mm) :=
  if v1 < 0 then (
  L_X5_rowOf_26  S)
  else (
  gf S 72 0 fun x1 =>
  if x1 ≤ v1 then (
  L_X5_rowOf_26  S)
  else (
  gf S 71 0 fun x2 =>
  cl (F_J9_floorMod_7cf53 (x2 - v1) 40 S) fun r3 S4 =>
  some (r3, S4)))
set_option maxRecDepth 100000 in
set_option maxHeartbeats 4000000 in
theorem w_X5_rowOf_26 {p : Program} {l : Launch} {e : Env} {s : State} {m : MethodId} {args : Array Value} {below : List Frame} {meth : Method} {c : Code} {G : xG} {sz : Nat} {o : Int32 × Mm} (X : xC G false sz p s m args c cX5_rowOf 2 wsX5_rowOf RX5 meth (some .int))    {S : Mm} {H : Heap} {locs : List Loc} {ls : Array Slot} (hW : xW G false sz s H locs S) (hl : lv_has ls 2 []) (h : L_X5_rowOf_26   S = some o) : wX p l e rmX5_rowOf s m args below meth c H locs (xQi G false sz o) (XA G false sz) 26 ls [] := by
  unfold L_X5_rowOf_26 at h
  refine lv_iconst (v := (-1)) X.1 X.2.1 dX5_rowOf_26 rfl ?_
  exact x_iret X hW h dX5_rowOf_27
set_option maxRecDepth 100000 in
set_option maxHeartbeats 4000000 in
theorem w_X5_rowOf_0 {p : Program} {l : Launch} {e : Env} {s : State} {m : MethodId} {args : Array Value} {below : List Frame} {meth : Method} {c : Code} {G : xG} {sz : Nat} {o : Int32 × Mm} (X : xC G false sz p s m args c cX5_rowOf 2 wsX5_rowOf RX5 meth (some .int)) (v1 : Int32) {S : Mm} {H : Heap} {locs : List Loc} {ls : Array Slot} (hW : xW G false sz s H locs S) (hl : lv_has ls 2 [(0, .ref (G.2.2 4 0)), (1, .int v1)]) (h : F_X5_rowOf v1 S = some o) : wX p l e rmX5_rowOf s m args below meth c H locs (xQi G false sz o) (XA G false sz) 0 ls [] := by
  unfold F_X5_rowOf at h
  refine lv_iload_n X.1 X.2.1 dX5_rowOf_0 rfl (lv_at hl 1 rfl) ?_
  refine x_if_lt X (tgt := 26) dX5_rowOf_1 (by decide) h (fun h => ?_) (fun h => ?_)
  · exact w_X5_rowOf_26 X    hW (lv_sub hl [] rfl) h
  · refine lv_iload_n X.1 X.2.1 dX5_rowOf_4 rfl (lv_at hl 1 rfl) ?_
    refine lv_aload_n X.1 X.2.1 dX5_rowOf_5 rfl (lv_at hl 0 rfl) ?_
    refine x_getI X hW fd_Medium_kept (fun w h => List.mem_cons_of_mem _ (gin_X5 w h)) (List.mem_cons_of_mem _ gw332) z_1 dX5_rowOf_6 h (fun x1 h => ?_)
    refine x_icmp_ge X (tgt := 26) dX5_rowOf_9 (by decide) h (fun h => ?_) (fun h => ?_)
    · exact w_X5_rowOf_26 X    hW (lv_sub hl [] rfl) h
    · refine lv_aload_n X.1 X.2.1 dX5_rowOf_12 rfl (lv_at hl 0 rfl) ?_
      refine x_getI X hW fd_Medium_newest (fun w h => List.mem_cons_of_mem _ (gin_X5 w h)) (List.mem_cons_of_mem _ gw60) z_1 dX5_rowOf_13 h (fun x2 h => ?_)
      refine lv_iload_n X.1 X.2.1 dX5_rowOf_16 rfl (lv_at hl 1 rfl) ?_
      refine lv_isub X.1 X.2.1 dX5_rowOf_17 ?_
      refine lv_bipush (v := 40) X.1 X.2.1 dX5_rowOf_18 rfl ?_
      obtain ⟨r3, S4, h5, h⟩ := cl_some h
      refine x_aftI X hW (x_runS (As := [.int (x2 - v1), .int 40]) (rest := []) X hW (c_J9_floorMod_7cf53 l G X.2.2.2.2.2.2.2.2.2.1 _ S (x2 - v1) 40 _ h5) (va_cwS 2 X.2.2.2.2.1 (gS gw333 gw334 gw335 gw336) rfl rfl rfl hd_J9_floorMod_7cf53 ⟨Nat.le_of_ble_eq_true rfl, Nat.le_of_ble_eq_true rfl⟩) rfl hl.1 rfl (Nat.le_of_ble_eq_true rfl) dX5_rowOf_20 ⟨Nat.zero_le _, Nat.zero_le _⟩) (fun H locs hW => ?_)
      refine lv_goto (tgt := 27) X.1 X.2.1 dX5_rowOf_23 (by decide) ?_
      exact x_iret X hW h dX5_rowOf_27
theorem c_X5_rowOf (l : Launch) (G : xG) (hD : xD G false) (sz : Nat) (S : Mm) (v1 : Int32) (o : Int32 × Mm) (h : F_X5_rowOf v1 S = some o) : Met l yX5_rowOf wsX5_rowOf rmX5_rowOf (xPre G false S sz [.ref (G.2.2 4 0), .int v1]) (xQi G false sz o) 0 0 (XA G false sz) :=
  x_start hD (by decide) rfl (Nat.le_of_ble_eq_true rfl) (fun p e s m below meth c X hW ls hl => w_X5_rowOf_0 X v1 hW hl h)

/-! WirelessCell$Medium.detail(II)I -/
def rmX5_detail : Room := { frames := 1, cells := 0, slots := 0, locals := 20 }
def L_X5_detail_132   (S : Mm) : Option (Int32 × Mm) :=
  some ((-1), S)
def F_X5_detail (v1 : Int32) (v2 : Int32) (S : Mm) : Option (Int32 × Mm) :=
  if v2 = 0 then (
  ldA S 30 0 40 1 v1 fun x1 =>
  some (x1, S))
  else (
  if v2 = 1 then (
  ldA S 29 0 40 1 v1 fun x3 =>
  some (x3, S))
  else (
  if v2 = 2 then (
  ldA S 28 0 40 1 v1 fun x5 =>
  some (x5, S))
  else (
  if v2 = 3 then (
  ldA S 28 0 40 1 v1 fun x7 =>
  cl (F_X5_slotsOf x7 S) fun r8 S9 =>
  some (r8, S9))
  else (
  if v2 = 4 then (
  ldA S 31 0 40 1 v1 fun x12 =>
  gf S 76 0 fun x13 =>
  if x12 < x13 then (
  ldA S 32 0 40 1 v1 fun x14 =>
  if x14 = 0 then (
  some (1, S))
  else (
  some (0, S)))
  else (
  some (2, S)))
  else (
  if v2 < 10 then (
  L_X5_detail_132  S)
  else (
  ldA S 28 0 40 1 v1 fun x16 =>
  if x16 ≤ (v2 - 10) then (
  L_X5_detail_132  S)
  else (
  ldR S 26 0 40 1 v1 40 fun i17 =>
  ldA S 27 i17 300 40 (v2 - 10) fun x18 =>
  some (x18, S))))))))
set_option maxRecDepth 100000 in
set_option maxHeartbeats 4000000 in
theorem w_X5_detail_132 {p : Program} {l : Launch} {e : Env} {s : State} {m : MethodId} {args : Array Value} {below : List Frame} {meth : Method} {c : Code} {G : xG} {sz : Nat} {o : Int32 × Mm} (X : xC G false sz p s m args c cX5_detail 3 wsX5_detail RX5 meth (some .int))    {S : Mm} {H : Heap} {locs : List Loc} {ls : Array Slot} (hW : xW G false sz s H locs S) (hl : lv_has ls 3 []) (h : L_X5_detail_132   S = some o) : wX p l e rmX5_detail s m args below meth c H locs (xQi G false sz o) (XA G false sz) 132 ls [] := by
  unfold L_X5_detail_132 at h
  refine lv_iconst (v := (-1)) X.1 X.2.1 dX5_detail_132 rfl ?_
  exact x_iret X hW h dX5_detail_133
set_option maxRecDepth 100000 in
set_option maxHeartbeats 4000000 in
theorem w_X5_detail_0 {p : Program} {l : Launch} {e : Env} {s : State} {m : MethodId} {args : Array Value} {below : List Frame} {meth : Method} {c : Code} {G : xG} {sz : Nat} {o : Int32 × Mm} (X : xC G false sz p s m args c cX5_detail 3 wsX5_detail RX5 meth (some .int)) (v1 : Int32) (v2 : Int32) {S : Mm} {H : Heap} {locs : List Loc} {ls : Array Slot} (hW : xW G false sz s H locs S) (hl : lv_has ls 3 [(0, .ref (G.2.2 4 0)), (1, .int v1), (2, .int v2)]) (h : F_X5_detail v1 v2 S = some o) : wX p l e rmX5_detail s m args below meth c H locs (xQi G false sz o) (XA G false sz) 0 ls [] := by
  unfold F_X5_detail at h
  refine lv_iload_n X.1 X.2.1 dX5_detail_0 rfl (lv_at hl 2 rfl) ?_
  refine x_ite h (fun g2 h => ?_) (fun g2 h => ?_)
  · refine lv_tableIn (off := 35) (tgt := 36) X.1 X.2.1 dX5_detail_1 (by rw [g2]; decide) (by rw [g2]; decide) (by rw [g2]; try rfl) (by decide) ?_
    refine lv_aload_n X.1 X.2.1 dX5_detail_36 rfl (lv_at hl 0 rfl) ?_
    refine x_getR X hW fd_Medium_firstSlots (fun w h => List.mem_cons_of_mem _ (gin_X5 w h)) (List.mem_cons_of_mem _ gw56) z_1 dX5_detail_37 ?_
    refine lv_iload_n X.1 X.2.1 dX5_detail_40 rfl (lv_at hl 1 rfl) ?_
    refine x_iald X hW ar_30 dX5_detail_41 h (fun x1 h => ?_)
    exact x_iret X hW h dX5_detail_42
  · refine x_ite h (fun g4 h => ?_) (fun g4 h => ?_)
    · refine lv_tableIn (off := 42) (tgt := 43) X.1 X.2.1 dX5_detail_1 (by rw [g4]; decide) (by rw [g4]; decide) (by rw [g4]; try rfl) (by decide) ?_
      refine lv_aload_n X.1 X.2.1 dX5_detail_43 rfl (lv_at hl 0 rfl) ?_
      refine x_getR X hW fd_Medium_senders (fun w h => List.mem_cons_of_mem _ (gin_X5 w h)) (List.mem_cons_of_mem _ gw55) z_1 dX5_detail_44 ?_
      refine lv_iload_n X.1 X.2.1 dX5_detail_47 rfl (lv_at hl 1 rfl) ?_
      refine x_iald X hW ar_29 dX5_detail_48 h (fun x3 h => ?_)
      exact x_iret X hW h dX5_detail_49
    · refine x_ite h (fun g6 h => ?_) (fun g6 h => ?_)
      · refine lv_tableIn (off := 49) (tgt := 50) X.1 X.2.1 dX5_detail_1 (by rw [g6]; decide) (by rw [g6]; decide) (by rw [g6]; try rfl) (by decide) ?_
        refine lv_aload_n X.1 X.2.1 dX5_detail_50 rfl (lv_at hl 0 rfl) ?_
        refine x_getR X hW fd_Medium_lengths (fun w h => List.mem_cons_of_mem _ (gin_X5 w h)) (List.mem_cons_of_mem _ gw54) z_1 dX5_detail_51 ?_
        refine lv_iload_n X.1 X.2.1 dX5_detail_54 rfl (lv_at hl 1 rfl) ?_
        refine x_iald X hW ar_28 dX5_detail_55 h (fun x5 h => ?_)
        exact x_iret X hW h dX5_detail_56
      · refine x_ite h (fun g11 h => ?_) (fun g11 h => ?_)
        · refine lv_tableIn (off := 56) (tgt := 57) X.1 X.2.1 dX5_detail_1 (by rw [g11]; decide) (by rw [g11]; decide) (by rw [g11]; try rfl) (by decide) ?_
          refine lv_aload_n X.1 X.2.1 dX5_detail_57 rfl (lv_at hl 0 rfl) ?_
          refine x_getR X hW fd_Medium_lengths (fun w h => List.mem_cons_of_mem _ (gin_X5 w h)) (List.mem_cons_of_mem _ gw54) z_1 dX5_detail_58 ?_
          refine lv_iload_n X.1 X.2.1 dX5_detail_61 rfl (lv_at hl 1 rfl) ?_
          refine x_iald X hW ar_28 dX5_detail_62 h (fun x7 h => ?_)
          obtain ⟨r8, S9, h10, h⟩ := cl_some h
          refine x_aftI X hW (x_runS (As := [.int x7]) (rest := []) X hW (c_X5_slotsOf l G X.2.2.2.2.2.2.2.2.2.1 _ S x7 _ h10) (va_cwS 1 X.2.2.2.2.1 (gS gw641 gw642 gw20 gw643) rfl rfl rfl hd_X5_slotsOf ⟨Nat.le_of_ble_eq_true rfl, Nat.le_of_ble_eq_true rfl⟩) rfl hl.1 rfl (Nat.le_of_ble_eq_true rfl) dX5_detail_63 ⟨Nat.zero_le _, Nat.zero_le _⟩) (fun H locs hW => ?_)
          exact x_iret X hW h dX5_detail_66
        · refine x_ite h (fun g15 h => ?_) (fun g15 h => ?_)
          · refine lv_tableIn (off := 66) (tgt := 67) X.1 X.2.1 dX5_detail_1 (by rw [g15]; decide) (by rw [g15]; decide) (by rw [g15]; try rfl) (by decide) ?_
            refine lv_aload_n X.1 X.2.1 dX5_detail_67 rfl (lv_at hl 0 rfl) ?_
            refine x_getR X hW fd_Medium_lastSlots (fun w h => List.mem_cons_of_mem _ (gin_X5 w h)) (List.mem_cons_of_mem _ gw57) z_1 dX5_detail_68 ?_
            refine lv_iload_n X.1 X.2.1 dX5_detail_71 rfl (lv_at hl 1 rfl) ?_
            refine x_iald X hW ar_31 dX5_detail_72 h (fun x12 h => ?_)
            refine lv_aload_n X.1 X.2.1 dX5_detail_73 rfl (lv_at hl 0 rfl) ?_
            refine x_getI X hW fd_Medium_slot (fun w h => List.mem_cons_of_mem _ (gin_X5 w h)) (List.mem_cons_of_mem _ gw613) z_1 dX5_detail_74 h (fun x13 h => ?_)
            refine x_icmp_lt X (tgt := 84) dX5_detail_77 (by decide) h (fun h => ?_) (fun h => ?_)
            · refine lv_aload_n X.1 X.2.1 dX5_detail_84 rfl (lv_at hl 0 rfl) ?_
              refine x_getR X hW fd_Medium_spoiled (fun w h => List.mem_cons_of_mem _ (gin_X5 w h)) (List.mem_cons_of_mem _ gw59) z_1 dX5_detail_85 ?_
              refine lv_iload_n X.1 X.2.1 dX5_detail_88 rfl (lv_at hl 1 rfl) ?_
              refine x_zald X hW ar_32 dX5_detail_89 h (fun x14 h => ?_)
              refine x_if_eq X (tgt := 97) dX5_detail_90 (by decide) h (fun h => ?_) (fun h => ?_)
              · refine lv_iconst (v := 1) X.1 X.2.1 dX5_detail_97 rfl ?_
                exact x_iret X hW h dX5_detail_98
              · refine lv_iconst (v := 0) X.1 X.2.1 dX5_detail_93 rfl ?_
                refine lv_goto (tgt := 98) X.1 X.2.1 dX5_detail_94 (by decide) ?_
                exact x_iret X hW h dX5_detail_98
            · refine lv_iconst (v := 2) X.1 X.2.1 dX5_detail_80 rfl ?_
              refine lv_goto (tgt := 98) X.1 X.2.1 dX5_detail_81 (by decide) ?_
              exact x_iret X hW h dX5_detail_98
          · have zg2 := lv_neT g2 (show Int32.toInt 0 = 0 from rfl)
            have zg4 := lv_neT g4 (show Int32.toInt 1 = 1 from rfl)
            have zg6 := lv_neT g6 (show Int32.toInt 2 = 2 from rfl)
            have zg11 := lv_neT g11 (show Int32.toInt 3 = 3 from rfl)
            have zg15 := lv_neT g15 (show Int32.toInt 4 = 4 from rfl)
            refine lv_tableOut (tgt := 99) X.1 X.2.1 dX5_detail_1 (by omega) (by decide) ?_
            refine lv_iload_n X.1 X.2.1 dX5_detail_99 rfl (lv_at hl 2 rfl) ?_
            refine lv_bipush (v := 10) X.1 X.2.1 dX5_detail_100 rfl ?_
            refine x_icmp_lt X (tgt := 132) dX5_detail_102 (by decide) h (fun h => ?_) (fun h => ?_)
            · exact w_X5_detail_132 X    hW (lv_sub hl [] rfl) h
            · refine lv_iload_n X.1 X.2.1 dX5_detail_105 rfl (lv_at hl 2 rfl) ?_
              refine lv_bipush (v := 10) X.1 X.2.1 dX5_detail_106 rfl ?_
              refine lv_isub X.1 X.2.1 dX5_detail_108 ?_
              refine lv_aload_n X.1 X.2.1 dX5_detail_109 rfl (lv_at hl 0 rfl) ?_
              refine x_getR X hW fd_Medium_lengths (fun w h => List.mem_cons_of_mem _ (gin_X5 w h)) (List.mem_cons_of_mem _ gw54) z_1 dX5_detail_110 ?_
              refine lv_iload_n X.1 X.2.1 dX5_detail_113 rfl (lv_at hl 1 rfl) ?_
              refine x_iald X hW ar_28 dX5_detail_114 h (fun x16 h => ?_)
              refine x_icmp_ge X (tgt := 132) dX5_detail_115 (by decide) h (fun h => ?_) (fun h => ?_)
              · exact w_X5_detail_132 X    hW (lv_sub hl [] rfl) h
              · refine lv_aload_n X.1 X.2.1 dX5_detail_118 rfl (lv_at hl 0 rfl) ?_
                refine x_getR X hW fd_Medium_rows (fun w h => List.mem_cons_of_mem _ (gin_X5 w h)) (List.mem_cons_of_mem _ gw53) z_1 dX5_detail_119 ?_
                refine lv_iload_n X.1 X.2.1 dX5_detail_122 rfl (lv_at hl 1 rfl) ?_
                refine x_aald X hW ar_26 (ct := 27) rfl (at_26 G) rfl dX5_detail_123 h (fun i17 qi17 h => ?_)
                refine lv_iload_n X.1 X.2.1 dX5_detail_124 rfl (lv_at hl 2 rfl) ?_
                refine lv_bipush (v := 10) X.1 X.2.1 dX5_detail_125 rfl ?_
                refine lv_isub X.1 X.2.1 dX5_detail_127 ?_
                refine x_iald X hW ar_27 dX5_detail_128 h (fun x18 h => ?_)
                refine lv_goto (tgt := 133) X.1 X.2.1 dX5_detail_129 (by decide) ?_
                exact x_iret X hW h dX5_detail_133
theorem c_X5_detail (l : Launch) (G : xG) (hD : xD G false) (sz : Nat) (S : Mm) (v1 : Int32) (v2 : Int32) (o : Int32 × Mm) (h : F_X5_detail v1 v2 S = some o) : Met l yX5_detail wsX5_detail rmX5_detail (xPre G false S sz [.ref (G.2.2 4 0), .int v1, .int v2]) (xQi G false sz o) 0 0 (XA G false sz) :=
  x_start hD (by decide) rfl (Nat.le_of_ble_eq_true rfl) (fun p e s m below meth c X hW ls hl => w_X5_detail_0 X v1 v2 hW hl h)

/-! WirelessCell$Node.contends(I)Z -/
def rmX7_contends : Room := { frames := 0, cells := 0, slots := 0, locals := 0 }
def L_X7_contends_38   (S : Mm) : Option (Int32 × Mm) :=
  some (0, S)
def F_X7_contends (v0 : Nat) (v1 : Int32) (S : Mm) : Option (Int32 × Mm) :=
  gd (v0 < 9) (
  gf S 103 v0 fun x1 =>
  if x1 ≤ 0 then (
  L_X7_contends_38  S)
  else (
  gf S 94 v0 fun x2 =>
  if x2 = (-1) then (
  gf S 98 v0 fun x3 =>
  if x3 = (-1) then (
  gf S 96 v0 fun x4 =>
  if v1 ≤ x4 then (
  L_X7_contends_38  S)
  else (
  some (1, S)))
  else (
  L_X7_contends_38  S))
  else (
  L_X7_contends_38  S)))
set_option maxRecDepth 100000 in
set_option maxHeartbeats 4000000 in
theorem w_X7_contends_38 {p : Program} {l : Launch} {e : Env} {s : State} {m : MethodId} {args : Array Value} {below : List Frame} {meth : Method} {c : Code} {G : xG} {sz : Nat} {o : Int32 × Mm} (X : xC G false sz p s m args c cX7_contends 2 wsX7_contends RX7 meth (some .boolean))    {S : Mm} {H : Heap} {locs : List Loc} {ls : Array Slot} (hW : xW G false sz s H locs S) (hl : lv_has ls 2 []) (h : L_X7_contends_38   S = some o) : wX p l e rmX7_contends s m args below meth c H locs (xQi G false sz o) (XA G false sz) 38 ls [] := by
  unfold L_X7_contends_38 at h
  refine lv_iconst (v := 0) X.1 X.2.1 dX7_contends_38 rfl ?_
  exact x_zret X hW h rfl dX7_contends_39
set_option maxRecDepth 100000 in
set_option maxHeartbeats 4000000 in
theorem w_X7_contends_0 {p : Program} {l : Launch} {e : Env} {s : State} {m : MethodId} {args : Array Value} {below : List Frame} {meth : Method} {c : Code} {G : xG} {sz : Nat} {o : Int32 × Mm} (X : xC G false sz p s m args c cX7_contends 2 wsX7_contends RX7 meth (some .boolean)) (v0 : Nat) (v1 : Int32) {S : Mm} {H : Heap} {locs : List Loc} {ls : Array Slot} (hW : xW G false sz s H locs S) (hl : lv_has ls 2 [(0, .ref (G.2.2 6 v0)), (1, .int v1)]) (h : F_X7_contends v0 v1 S = some o) : wX p l e rmX7_contends s m args below meth c H locs (xQi G false sz o) (XA G false sz) 0 ls [] := by
  unfold F_X7_contends at h
  obtain ⟨qv0, h⟩ := if_some h
  refine lv_aload_n X.1 X.2.1 dX7_contends_0 rfl (lv_at hl 0 rfl) ?_
  refine x_getR X hW fd_Node_queue (fun w h => List.mem_cons_of_mem _ (gin_X7 w h)) (List.mem_cons_of_mem _ gw101) qv0 dX7_contends_1 ?_
  refine x_getI X hW fd_Queue_used (fun w h => List.mem_cons_of_mem _ (gin_X9 w h)) (List.mem_cons_of_mem _ gw722) qv0 dX7_contends_4 h (fun x1 h => ?_)
  refine x_if_le X (tgt := 38) dX7_contends_7 (by decide) h (fun h => ?_) (fun h => ?_)
  · exact w_X7_contends_38 X    hW (lv_sub hl [] rfl) h
  · refine lv_aload_n X.1 X.2.1 dX7_contends_10 rfl (lv_at hl 0 rfl) ?_
    refine x_getI X hW fd_Node_dueSlot (fun w h => List.mem_cons_of_mem _ (gin_X7 w h)) (List.mem_cons_of_mem _ gw108) qv0 dX7_contends_11 h (fun x2 h => ?_)
    refine lv_iconst (v := (-1)) X.1 X.2.1 dX7_contends_14 rfl ?_
    refine x_icmp_ne X (tgt := 38) dX7_contends_15 (by decide) h (fun h => ?_) (fun h => ?_)
    · exact w_X7_contends_38 X    hW (lv_sub hl [] rfl) h
    · refine lv_aload_n X.1 X.2.1 dX7_contends_18 rfl (lv_at hl 0 rfl) ?_
      refine x_getI X hW fd_Node_waitsFrom (fun w h => List.mem_cons_of_mem _ (gin_X7 w h)) (List.mem_cons_of_mem _ gw111) qv0 dX7_contends_19 h (fun x3 h => ?_)
      refine lv_iconst (v := (-1)) X.1 X.2.1 dX7_contends_22 rfl ?_
      refine x_icmp_ne X (tgt := 38) dX7_contends_23 (by decide) h (fun h => ?_) (fun h => ?_)
      · exact w_X7_contends_38 X    hW (lv_sub hl [] rfl) h
      · refine lv_aload_n X.1 X.2.1 dX7_contends_26 rfl (lv_at hl 0 rfl) ?_
        refine x_getI X hW fd_Node_lastSendSlot (fun w h => List.mem_cons_of_mem _ (gin_X7 w h)) (List.mem_cons_of_mem _ gw110) qv0 dX7_contends_27 h (fun x4 h => ?_)
        refine lv_iload_n X.1 X.2.1 dX7_contends_30 rfl (lv_at hl 1 rfl) ?_
        refine x_icmp_ge X (tgt := 38) dX7_contends_31 (by decide) h (fun h => ?_) (fun h => ?_)
        · exact w_X7_contends_38 X    hW (lv_sub hl [] rfl) h
        · refine lv_iconst (v := 1) X.1 X.2.1 dX7_contends_34 rfl ?_
          refine lv_goto (tgt := 39) X.1 X.2.1 dX7_contends_35 (by decide) ?_
          exact x_zret X hW h rfl dX7_contends_39
theorem c_X7_contends (l : Launch) (G : xG) (hD : xD G false) (sz : Nat) (S : Mm) (v0 : Nat) (v1 : Int32) (o : Int32 × Mm) (h : F_X7_contends v0 v1 S = some o) : Met l yX7_contends wsX7_contends rmX7_contends (xPre G false S sz [.ref (G.2.2 6 v0), .int v1]) (xQi G false sz o) 0 0 (XA G false sz) :=
  x_start hD (by decide) rfl (Nat.le_of_ble_eq_true rfl) (fun p e s m below meth c X hW ls hl => w_X7_contends_0 X v0 v1 hW hl h)

/-! WirelessCell$Node.dropsAgain([II)Z -/
def rmX7_dropsAgain : Room := { frames := 0, cells := 0, slots := 0, locals := 0 }
def L_X7_dropsAgain_45  (v0 : Nat) (v2 : Int32) (v3 : Int32) (S : Mm) : Option (Int32 × Mm) :=
  stA S 38 v0 9 9 v2 v3 fun S8 =>
  some (0, S8)
def F_X7_dropsAgain (v0 : Nat) (cv1 : Nat) (v1 : Nat) (v2 : Int32) (S : Mm) : Option (Int32 × Mm) :=
  gd (v0 < 9) (
  ldP false S cv1 v1 22 fun x1 =>
  ldP false S cv1 v1 23 fun x2 =>
  tp (x1 + (256 * x2)) fun x3 =>
  ldP false S cv1 v1 1 fun x4 =>
  if (x4 &&& 8) = 0 then (
  L_X7_dropsAgain_45  v0 v2 x3 S)
  else (
  ldA S 38 v0 9 9 v2 fun x5 =>
  if x5 = x3 then (
  gf S 89 v0 fun x6 =>
  pf S 89 v0 (x6 + 1) fun S7 =>
  some (1, S7))
  else (
  L_X7_dropsAgain_45  v0 v2 x3 S)))
set_option maxRecDepth 100000 in
set_option maxHeartbeats 4000000 in
theorem w_X7_dropsAgain_45 {p : Program} {l : Launch} {e : Env} {s : State} {m : MethodId} {args : Array Value} {below : List Frame} {meth : Method} {c : Code} {G : xG} {sz : Nat} {o : Int32 × Mm} (X : xC G false sz p s m args c cX7_dropsAgain 4 wsX7_dropsAgain RX7 meth (some .boolean)) (v0 : Nat) (v2 : Int32) (v3 : Int32) (qv0 : v0 < 9)  {S : Mm} {H : Heap} {locs : List Loc} {ls : Array Slot} (hW : xW G false sz s H locs S) (hl : lv_has ls 4 [(0, .ref (G.2.2 6 v0)), (2, .int v2), (3, .int v3)]) (h : L_X7_dropsAgain_45  v0 v2 v3 S = some o) : wX p l e rmX7_dropsAgain s m args below meth c H locs (xQi G false sz o) (XA G false sz) 45 ls [] := by
  unfold L_X7_dropsAgain_45 at h
  refine lv_aload_n X.1 X.2.1 dX7_dropsAgain_45 rfl (lv_at hl 0 rfl) ?_
  refine x_getR X hW fd_Node_latest (fun w h => List.mem_cons_of_mem _ (gin_X7 w h)) (List.mem_cons_of_mem _ gw106) qv0 dX7_dropsAgain_46 ?_
  refine lv_iload_n X.1 X.2.1 dX7_dropsAgain_49 rfl (lv_at hl 1 rfl) ?_
  refine lv_iload_n X.1 X.2.1 dX7_dropsAgain_50 rfl (lv_at hl 2 rfl) ?_
  refine x_iast X hW ar_38 dX7_dropsAgain_51 h (fun S8 H locs h hW => ?_)
  refine lv_iconst (v := 0) X.1 X.2.1 dX7_dropsAgain_52 rfl ?_
  exact x_zret X hW h rfl dX7_dropsAgain_53
set_option maxRecDepth 100000 in
set_option maxHeartbeats 4000000 in
theorem w_X7_dropsAgain_0 {p : Program} {l : Launch} {e : Env} {s : State} {m : MethodId} {args : Array Value} {below : List Frame} {meth : Method} {c : Code} {G : xG} {sz : Nat} {o : Int32 × Mm} (X : xC G false sz p s m args c cX7_dropsAgain 4 wsX7_dropsAgain RX7 meth (some .boolean)) (v0 : Nat) (cv1 : Nat) (v1 : Nat) (v2 : Int32) {S : Mm} {H : Heap} {locs : List Loc} {ls : Array Slot} (hW : xW G false sz s H locs S) (hl : lv_has ls 4 [(0, .ref (G.2.2 6 v0)), (1, .ref (G.2.2 cv1 v1)), (2, .int v2)]) (h : F_X7_dropsAgain v0 cv1 v1 v2 S = some o) : wX p l e rmX7_dropsAgain s m args below meth c H locs (xQi G false sz o) (XA G false sz) 0 ls [] := by
  unfold F_X7_dropsAgain at h
  obtain ⟨qv0, h⟩ := if_some h
  refine lv_aload_n X.1 X.2.1 dX7_dropsAgain_0 rfl (lv_at hl 1 rfl) ?_
  refine lv_bipush (v := 22) X.1 X.2.1 dX7_dropsAgain_1 rfl ?_
  refine x_ialdP X hW dX7_dropsAgain_3 h (fun x1 h => ?_)
  refine lv_sipush (v := 256) X.1 X.2.1 dX7_dropsAgain_4 rfl ?_
  refine lv_aload_n X.1 X.2.1 dX7_dropsAgain_7 rfl (lv_at hl 1 rfl) ?_
  refine lv_bipush (v := 23) X.1 X.2.1 dX7_dropsAgain_8 rfl ?_
  refine x_ialdP X hW dX7_dropsAgain_10 h (fun x2 h => ?_)
  refine lv_imul X.1 X.2.1 dX7_dropsAgain_11 ?_
  refine lv_iadd X.1 X.2.1 dX7_dropsAgain_12 ?_
  refine x_top h (fun x3 h => ?_)
  refine lv_istore_n (lv' := [(3, .int x3), (0, .ref (G.2.2 6 v0)), (1, .ref (G.2.2 cv1 v1)), (2, .int v2)]) X.1 X.2.1 dX7_dropsAgain_13 rfl hl (by decide) rfl (fun ls hl => ?_)
  refine lv_aload_n X.1 X.2.1 dX7_dropsAgain_14 rfl (lv_at hl 2 rfl) ?_
  refine lv_iconst (v := 1) X.1 X.2.1 dX7_dropsAgain_15 rfl ?_
  refine x_ialdP X hW dX7_dropsAgain_16 h (fun x4 h => ?_)
  refine lv_bipush (v := 8) X.1 X.2.1 dX7_dropsAgain_17 rfl ?_
  refine lv_iand X.1 X.2.1 dX7_dropsAgain_19 ?_
  refine x_if_eq X (tgt := 45) dX7_dropsAgain_20 (by decide) h (fun h => ?_) (fun h => ?_)
  · exact w_X7_dropsAgain_45 X v0 v2 x3 qv0  hW (lv_sub hl [1, 3, 0] rfl) h
  · refine lv_aload_n X.1 X.2.1 dX7_dropsAgain_23 rfl (lv_at hl 1 rfl) ?_
    refine x_getR X hW fd_Node_latest (fun w h => List.mem_cons_of_mem _ (gin_X7 w h)) (List.mem_cons_of_mem _ gw106) qv0 dX7_dropsAgain_24 ?_
    refine lv_iload_n X.1 X.2.1 dX7_dropsAgain_27 rfl (lv_at hl 3 rfl) ?_
    refine x_iald X hW ar_38 dX7_dropsAgain_28 h (fun x5 h => ?_)
    refine lv_iload_n X.1 X.2.1 dX7_dropsAgain_29 rfl (lv_at hl 0 rfl) ?_
    refine x_icmp_ne X (tgt := 45) dX7_dropsAgain_30 (by decide) h (fun h => ?_) (fun h => ?_)
    · exact w_X7_dropsAgain_45 X v0 v2 x3 qv0  hW (lv_sub hl [1, 3, 0] rfl) h
    · refine lv_aload_n X.1 X.2.1 dX7_dropsAgain_33 rfl (lv_at hl 1 rfl) ?_
      refine lv_dup X.1 X.2.1 dX7_dropsAgain_34 rfl ?_
      refine x_getI X hW fd_Node_droppedAgain (fun w h => List.mem_cons_of_mem _ (gin_X7 w h)) (List.mem_cons_of_mem _ gw791) qv0 dX7_dropsAgain_35 h (fun x6 h => ?_)
      refine lv_iconst (v := 1) X.1 X.2.1 dX7_dropsAgain_38 rfl ?_
      refine lv_iadd X.1 X.2.1 dX7_dropsAgain_39 ?_
      refine x_putI X hW fd_Node_droppedAgain (fun w h => List.mem_cons_of_mem _ (gin_X7 w h)) (List.mem_cons_of_mem _ gw791) qv0 dX7_dropsAgain_40 tyX7 tyX7_ok nmX7 rfl rfl rfl h (fun S7 H locs h hW => ?_)
      refine lv_iconst (v := 1) X.1 X.2.1 dX7_dropsAgain_43 rfl ?_
      exact x_zret X hW h rfl dX7_dropsAgain_44
theorem c_X7_dropsAgain (l : Launch) (G : xG) (hD : xD G false) (sz : Nat) (S : Mm) (v0 : Nat) (cv1 : Nat) (v1 : Nat) (v2 : Int32) (o : Int32 × Mm) (h : F_X7_dropsAgain v0 cv1 v1 v2 S = some o) : Met l yX7_dropsAgain wsX7_dropsAgain rmX7_dropsAgain (xPre G false S sz [.ref (G.2.2 6 v0), .ref (G.2.2 cv1 v1), .int v2]) (xQi G false sz o) 0 0 (XA G false sz) :=
  x_start hD (by decide) rfl (Nat.le_of_ble_eq_true rfl) (fun p e s m below meth c X hW ls hl => w_X7_dropsAgain_0 X v0 cv1 v1 v2 hW hl h)
