/-! WirelessCellModel.isTold()Z -/
def rmX12_isTold : Room := { frames := 0, cells := 0, slots := 0, locals := 0 }
def L_X12_isTold_38   (S : Mm) : Option (Int32 × Mm) :=
  some (0, S)
def L_X12_isTold_104   (S : Mm) : Option (Int32 × Mm) :=
  some (1, S)
def L_X12_isTold_108   (S : Mm) : Option (Int32 × Mm) :=
  some (0, S)
def L_X12_isTold_94  (v2 : Int32) (S : Mm) : Option (Int32 × Mm) :=
  if v2 = 0 then (
  L_X12_isTold_104  S)
  else (
  if v2 = 8 then (
  L_X12_isTold_104  S)
  else (
  L_X12_isTold_108  S))
def F_X12_isTold  (S : Mm) : Option (Int32 × Mm) :=
  ldA S 278 0 300 1 0 fun x1 =>
  ldA S 278 0 300 1 1 fun x2 =>
  if x1 = 212 then (
  gf S 307 0 fun x4 =>
  if x4 = 14 then (
  if x2 = 0 then (
  some (1, S))
  else (
  L_X12_isTold_38  S))
  else (
  L_X12_isTold_38  S))
  else (
  gf S 307 0 fun x3 =>
  if 28 ≤ x3 then (
  if x1 = 8 then (
  if (x2 &&& (-80)) = 0 then (
  some (1, S))
  else (
  some (0, S)))
  else (
  if x1 = 176 then (
  L_X12_isTold_94  x2 S)
  else (
  if x1 = 0 then (
  L_X12_isTold_94  x2 S)
  else (
  if x1 = 16 then (
  L_X12_isTold_94  x2 S)
  else (
  if x1 = 192 then (
  L_X12_isTold_94  x2 S)
  else (
  L_X12_isTold_108  S))))))
  else (
  some (0, S)))
set_option maxRecDepth 100000 in
set_option maxHeartbeats 4000000 in
theorem w_X12_isTold_38 {p : Program} {l : Launch} {e : Env} {s : State} {m : MethodId} {args : Array Value} {below : List Frame} {meth : Method} {c : Code} {G : xG} {sz : Nat} {o : Int32 × Mm} (X : xC G true sz p s m args c cX12_isTold 3 wsX12_isTold RX12 meth (some .boolean))    {S : Mm} {H : Heap} {locs : List Loc} {ls : Array Slot} (hW : xW G true sz s H locs S) (hl : lv_has ls 3 []) (h : L_X12_isTold_38   S = some o) : wX p l e rmX12_isTold s m args below meth c H locs (xQi G true sz o) (XA G true sz) 38 ls [] := by
  unfold L_X12_isTold_38 at h
  refine lv_iconst (v := 0) X.1 X.2.1 dX12_isTold_38 rfl ?_
  exact x_zret X hW h rfl dX12_isTold_39
set_option maxRecDepth 100000 in
set_option maxHeartbeats 4000000 in
theorem w_X12_isTold_104 {p : Program} {l : Launch} {e : Env} {s : State} {m : MethodId} {args : Array Value} {below : List Frame} {meth : Method} {c : Code} {G : xG} {sz : Nat} {o : Int32 × Mm} (X : xC G true sz p s m args c cX12_isTold 3 wsX12_isTold RX12 meth (some .boolean))    {S : Mm} {H : Heap} {locs : List Loc} {ls : Array Slot} (hW : xW G true sz s H locs S) (hl : lv_has ls 3 []) (h : L_X12_isTold_104   S = some o) : wX p l e rmX12_isTold s m args below meth c H locs (xQi G true sz o) (XA G true sz) 104 ls [] := by
  unfold L_X12_isTold_104 at h
  refine lv_iconst (v := 1) X.1 X.2.1 dX12_isTold_104 rfl ?_
  refine lv_goto (tgt := 109) X.1 X.2.1 dX12_isTold_105 (by decide) ?_
  exact x_zret X hW h rfl dX12_isTold_109
set_option maxRecDepth 100000 in
set_option maxHeartbeats 4000000 in
theorem w_X12_isTold_108 {p : Program} {l : Launch} {e : Env} {s : State} {m : MethodId} {args : Array Value} {below : List Frame} {meth : Method} {c : Code} {G : xG} {sz : Nat} {o : Int32 × Mm} (X : xC G true sz p s m args c cX12_isTold 3 wsX12_isTold RX12 meth (some .boolean))    {S : Mm} {H : Heap} {locs : List Loc} {ls : Array Slot} (hW : xW G true sz s H locs S) (hl : lv_has ls 3 []) (h : L_X12_isTold_108   S = some o) : wX p l e rmX12_isTold s m args below meth c H locs (xQi G true sz o) (XA G true sz) 108 ls [] := by
  unfold L_X12_isTold_108 at h
  refine lv_iconst (v := 0) X.1 X.2.1 dX12_isTold_108 rfl ?_
  exact x_zret X hW h rfl dX12_isTold_109
set_option maxRecDepth 100000 in
set_option maxHeartbeats 4000000 in
theorem w_X12_isTold_94 {p : Program} {l : Launch} {e : Env} {s : State} {m : MethodId} {args : Array Value} {below : List Frame} {meth : Method} {c : Code} {G : xG} {sz : Nat} {o : Int32 × Mm} (X : xC G true sz p s m args c cX12_isTold 3 wsX12_isTold RX12 meth (some .boolean)) (v2 : Int32)   {S : Mm} {H : Heap} {locs : List Loc} {ls : Array Slot} (hW : xW G true sz s H locs S) (hl : lv_has ls 3 [(2, .int v2)]) (h : L_X12_isTold_94  v2 S = some o) : wX p l e rmX12_isTold s m args below meth c H locs (xQi G true sz o) (XA G true sz) 94 ls [] := by
  unfold L_X12_isTold_94 at h
  refine lv_iload_n X.1 X.2.1 dX12_isTold_94 rfl (lv_at hl 0 rfl) ?_
  refine x_if_eq X (tgt := 104) dX12_isTold_95 (by decide) h (fun h => ?_) (fun h => ?_)
  · exact w_X12_isTold_104 X    hW (lv_sub hl [] rfl) h
  · refine lv_iload_n X.1 X.2.1 dX12_isTold_98 rfl (lv_at hl 0 rfl) ?_
    refine lv_bipush (v := 8) X.1 X.2.1 dX12_isTold_99 rfl ?_
    refine x_icmp_ne X (tgt := 108) dX12_isTold_101 (by decide) h (fun h => ?_) (fun h => ?_)
    · exact w_X12_isTold_108 X    hW (lv_sub hl [] rfl) h
    · exact w_X12_isTold_104 X    hW (lv_sub hl [] rfl) h
set_option maxRecDepth 100000 in
set_option maxHeartbeats 4000000 in
theorem w_X12_isTold_0 {p : Program} {l : Launch} {e : Env} {s : State} {m : MethodId} {args : Array Value} {below : List Frame} {meth : Method} {c : Code} {G : xG} {sz : Nat} {o : Int32 × Mm} (X : xC G true sz p s m args c cX12_isTold 3 wsX12_isTold RX12 meth (some .boolean))  {S : Mm} {H : Heap} {locs : List Loc} {ls : Array Slot} (hW : xW G true sz s H locs S) (hl : lv_has ls 3 [(0, .ref (G.2.2 200 0))]) (h : F_X12_isTold  S = some o) : wX p l e rmX12_isTold s m args below meth c H locs (xQi G true sz o) (XA G true sz) 0 ls [] := by
  unfold F_X12_isTold at h
  refine lv_aload_n X.1 X.2.1 dX12_isTold_0 rfl (lv_at hl 0 rfl) ?_
  refine x_getR X hW fd_Model_seen (fun w h => List.mem_cons_of_mem _ (gin_X12 w h)) (List.mem_cons_of_mem _ gw233) z_1 dX12_isTold_1 ?_
  refine lv_iconst (v := 0) X.1 X.2.1 dX12_isTold_4 rfl ?_
  refine x_iald X hW ar_278 dX12_isTold_5 h (fun x1 h => ?_)
  refine lv_istore_n (lv' := [(1, .int x1), (0, .ref (G.2.2 200 0))]) X.1 X.2.1 dX12_isTold_6 rfl hl (by decide) rfl (fun ls hl => ?_)
  refine lv_aload_n X.1 X.2.1 dX12_isTold_7 rfl (lv_at hl 1 rfl) ?_
  refine x_getR X hW fd_Model_seen (fun w h => List.mem_cons_of_mem _ (gin_X12 w h)) (List.mem_cons_of_mem _ gw233) z_1 dX12_isTold_8 ?_
  refine lv_iconst (v := 1) X.1 X.2.1 dX12_isTold_11 rfl ?_
  refine x_iald X hW ar_278 dX12_isTold_12 h (fun x2 h => ?_)
  refine lv_istore_n (lv' := [(2, .int x2), (1, .int x1), (0, .ref (G.2.2 200 0))]) X.1 X.2.1 dX12_isTold_13 rfl hl (by decide) rfl (fun ls hl => ?_)
  refine lv_iload_n X.1 X.2.1 dX12_isTold_14 rfl (lv_at hl 1 rfl) ?_
  refine lv_sipush (v := 212) X.1 X.2.1 dX12_isTold_15 rfl ?_
  refine x_icmp_ne X (tgt := 40) dX12_isTold_18 (by decide) h (fun h => ?_) (fun h => ?_)
  · refine lv_aload_n X.1 X.2.1 dX12_isTold_40 rfl (lv_at hl 2 rfl) ?_
    refine x_getI X hW fd_Model_seenLen (fun w h => List.mem_cons_of_mem _ (gin_X12 w h)) (List.mem_cons_of_mem _ gw1097) z_1 dX12_isTold_41 h (fun x3 h => ?_)
    refine lv_bipush (v := 28) X.1 X.2.1 dX12_isTold_44 rfl ?_
    refine x_icmp_ge X (tgt := 51) dX12_isTold_46 (by decide) h (fun h => ?_) (fun h => ?_)
    · refine lv_iload_n X.1 X.2.1 dX12_isTold_51 rfl (lv_at hl 1 rfl) ?_
      refine lv_bipush (v := 8) X.1 X.2.1 dX12_isTold_52 rfl ?_
      refine x_icmp_ne X (tgt := 70) dX12_isTold_54 (by decide) h (fun h => ?_) (fun h => ?_)
      · refine lv_iload_n X.1 X.2.1 dX12_isTold_70 rfl (lv_at hl 1 rfl) ?_
        refine lv_sipush (v := 176) X.1 X.2.1 dX12_isTold_71 rfl ?_
        refine x_icmp_eq X (tgt := 94) dX12_isTold_74 (by decide) h (fun h => ?_) (fun h => ?_)
        · exact w_X12_isTold_94 X x2   hW (lv_sub hl [0] rfl) h
        · refine lv_iload_n X.1 X.2.1 dX12_isTold_77 rfl (lv_at hl 1 rfl) ?_
          refine x_if_eq X (tgt := 94) dX12_isTold_78 (by decide) h (fun h => ?_) (fun h => ?_)
          · exact w_X12_isTold_94 X x2   hW (lv_sub hl [0] rfl) h
          · refine lv_iload_n X.1 X.2.1 dX12_isTold_81 rfl (lv_at hl 1 rfl) ?_
            refine lv_bipush (v := 16) X.1 X.2.1 dX12_isTold_82 rfl ?_
            refine x_icmp_eq X (tgt := 94) dX12_isTold_84 (by decide) h (fun h => ?_) (fun h => ?_)
            · exact w_X12_isTold_94 X x2   hW (lv_sub hl [0] rfl) h
            · refine lv_iload_n X.1 X.2.1 dX12_isTold_87 rfl (lv_at hl 1 rfl) ?_
              refine lv_sipush (v := 192) X.1 X.2.1 dX12_isTold_88 rfl ?_
              refine x_icmp_ne X (tgt := 108) dX12_isTold_91 (by decide) h (fun h => ?_) (fun h => ?_)
              · exact w_X12_isTold_108 X    hW (lv_sub hl [] rfl) h
              · exact w_X12_isTold_94 X x2   hW (lv_sub hl [0] rfl) h
      · refine lv_iload_n X.1 X.2.1 dX12_isTold_57 rfl (lv_at hl 0 rfl) ?_
        refine lv_bipush (v := (-80)) X.1 X.2.1 dX12_isTold_58 rfl ?_
        refine lv_iand X.1 X.2.1 dX12_isTold_60 ?_
        refine x_if_ne X (tgt := 68) dX12_isTold_61 (by decide) h (fun h => ?_) (fun h => ?_)
        · refine lv_iconst (v := 0) X.1 X.2.1 dX12_isTold_68 rfl ?_
          exact x_zret X hW h rfl dX12_isTold_69
        · refine lv_iconst (v := 1) X.1 X.2.1 dX12_isTold_64 rfl ?_
          refine lv_goto (tgt := 69) X.1 X.2.1 dX12_isTold_65 (by decide) ?_
          exact x_zret X hW h rfl dX12_isTold_69
    · refine lv_iconst (v := 0) X.1 X.2.1 dX12_isTold_49 rfl ?_
      exact x_zret X hW h rfl dX12_isTold_50
  · refine lv_aload_n X.1 X.2.1 dX12_isTold_21 rfl (lv_at hl 2 rfl) ?_
    refine x_getI X hW fd_Model_seenLen (fun w h => List.mem_cons_of_mem _ (gin_X12 w h)) (List.mem_cons_of_mem _ gw1097) z_1 dX12_isTold_22 h (fun x4 h => ?_)
    refine lv_bipush (v := 14) X.1 X.2.1 dX12_isTold_25 rfl ?_
    refine x_icmp_ne X (tgt := 38) dX12_isTold_27 (by decide) h (fun h => ?_) (fun h => ?_)
    · exact w_X12_isTold_38 X    hW (lv_sub hl [] rfl) h
    · refine lv_iload_n X.1 X.2.1 dX12_isTold_30 rfl (lv_at hl 0 rfl) ?_
      refine x_if_ne X (tgt := 38) dX12_isTold_31 (by decide) h (fun h => ?_) (fun h => ?_)
      · exact w_X12_isTold_38 X    hW (lv_sub hl [] rfl) h
      · refine lv_iconst (v := 1) X.1 X.2.1 dX12_isTold_34 rfl ?_
        refine lv_goto (tgt := 39) X.1 X.2.1 dX12_isTold_35 (by decide) ?_
        exact x_zret X hW h rfl dX12_isTold_39
theorem c_X12_isTold (l : Launch) (G : xG) (hD : xD G true) (sz : Nat) (S : Mm)  (o : Int32 × Mm) (h : F_X12_isTold  S = some o) : Met l yX12_isTold wsX12_isTold rmX12_isTold (xPre G true S sz [.ref (G.2.2 200 0)]) (xQi G true sz o) 0 0 (XA G true sz) :=
  x_start hD (by decide) rfl (Nat.le_of_ble_eq_true rfl) (fun p e s m below meth c X hW ls hl => w_X12_isTold_0 X  hW hl h)

/-! WirelessCellModel.nodeAt(I)I -/
def rmX12_nodeAt : Room := { frames := 0, cells := 0, slots := 0, locals := 0 }
def L_X12_nodeAt_72  (v1 : Int32) (s0 : Int32) (S : Mm) : Option (Int32 × Mm) :=
  if s0 = 0 then (
  some ((-1), S))
  else (
  ldA S 278 0 300 1 (v1 + 5) fun x7 =>
  some (x7, S))
def L_X12_nodeAt_71  (v1 : Int32) (S : Mm) : Option (Int32 × Mm) :=
  L_X12_nodeAt_72  v1 0 S
def F_X12_nodeAt (v1 : Int32) (S : Mm) : Option (Int32 × Mm) :=
  ldA S 278 0 300 1 v1 fun x1 =>
  if x1 = 2 then (
  ldA S 278 0 300 1 (v1 + 1) fun x2 =>
  if x2 = 0 then (
  ldA S 278 0 300 1 (v1 + 2) fun x3 =>
  if x3 = 0 then (
  ldA S 278 0 300 1 (v1 + 3) fun x4 =>
  if x4 = 0 then (
  ldA S 278 0 300 1 (v1 + 4) fun x5 =>
  if x5 = 0 then (
  ldA S 278 0 300 1 (v1 + 5) fun x6 =>
  if 9 ≤ x6 then (
  L_X12_nodeAt_71  v1 S)
  else (
  L_X12_nodeAt_72  v1 1 S))
  else (
  L_X12_nodeAt_71  v1 S))
  else (
  L_X12_nodeAt_71  v1 S))
  else (
  L_X12_nodeAt_71  v1 S))
  else (
  L_X12_nodeAt_71  v1 S))
  else (
  L_X12_nodeAt_71  v1 S)
set_option maxRecDepth 100000 in
set_option maxHeartbeats 4000000 in
theorem w_X12_nodeAt_72 {p : Program} {l : Launch} {e : Env} {s : State} {m : MethodId} {args : Array Value} {below : List Frame} {meth : Method} {c : Code} {G : xG} {sz : Nat} {o : Int32 × Mm} (X : xC G true sz p s m args c cX12_nodeAt 3 wsX12_nodeAt RX12 meth (some .int)) (v1 : Int32) (s0 : Int32)   {S : Mm} {H : Heap} {locs : List Loc} {ls : Array Slot} (hW : xW G true sz s H locs S) (hl : lv_has ls 3 [(0, .ref (G.2.2 200 0)), (1, .int v1)]) (h : L_X12_nodeAt_72  v1 s0 S = some o) : wX p l e rmX12_nodeAt s m args below meth c H locs (xQi G true sz o) (XA G true sz) 72 ls [.int s0] := by
  unfold L_X12_nodeAt_72 at h
  refine lv_istore_n (lv' := [(2, .int s0), (0, .ref (G.2.2 200 0)), (1, .int v1)]) X.1 X.2.1 dX12_nodeAt_72 rfl hl (by decide) rfl (fun ls hl => ?_)
  refine lv_iload_n X.1 X.2.1 dX12_nodeAt_73 rfl (lv_at hl 0 rfl) ?_
  refine x_if_eq X (tgt := 88) dX12_nodeAt_74 (by decide) h (fun h => ?_) (fun h => ?_)
  · refine lv_iconst (v := (-1)) X.1 X.2.1 dX12_nodeAt_88 rfl ?_
    exact x_iret X hW h dX12_nodeAt_89
  · refine lv_aload_n X.1 X.2.1 dX12_nodeAt_77 rfl (lv_at hl 1 rfl) ?_
    refine x_getR X hW fd_Model_seen (fun w h => List.mem_cons_of_mem _ (gin_X12 w h)) (List.mem_cons_of_mem _ gw233) z_1 dX12_nodeAt_78 ?_
    refine lv_iload_n X.1 X.2.1 dX12_nodeAt_81 rfl (lv_at hl 2 rfl) ?_
    refine lv_iconst (v := 5) X.1 X.2.1 dX12_nodeAt_82 rfl ?_
    refine lv_iadd X.1 X.2.1 dX12_nodeAt_83 ?_
    refine x_iald X hW ar_278 dX12_nodeAt_84 h (fun x7 h => ?_)
    refine lv_goto (tgt := 89) X.1 X.2.1 dX12_nodeAt_85 (by decide) ?_
    exact x_iret X hW h dX12_nodeAt_89
set_option maxRecDepth 100000 in
set_option maxHeartbeats 4000000 in
theorem w_X12_nodeAt_71 {p : Program} {l : Launch} {e : Env} {s : State} {m : MethodId} {args : Array Value} {below : List Frame} {meth : Method} {c : Code} {G : xG} {sz : Nat} {o : Int32 × Mm} (X : xC G true sz p s m args c cX12_nodeAt 3 wsX12_nodeAt RX12 meth (some .int)) (v1 : Int32)   {S : Mm} {H : Heap} {locs : List Loc} {ls : Array Slot} (hW : xW G true sz s H locs S) (hl : lv_has ls 3 [(0, .ref (G.2.2 200 0)), (1, .int v1)]) (h : L_X12_nodeAt_71  v1 S = some o) : wX p l e rmX12_nodeAt s m args below meth c H locs (xQi G true sz o) (XA G true sz) 71 ls [] := by
  unfold L_X12_nodeAt_71 at h
  refine lv_iconst (v := 0) X.1 X.2.1 dX12_nodeAt_71 rfl ?_
  exact w_X12_nodeAt_72 X v1 0   hW (lv_sub hl [0, 1] rfl) h
set_option maxRecDepth 100000 in
set_option maxHeartbeats 4000000 in
theorem w_X12_nodeAt_0 {p : Program} {l : Launch} {e : Env} {s : State} {m : MethodId} {args : Array Value} {below : List Frame} {meth : Method} {c : Code} {G : xG} {sz : Nat} {o : Int32 × Mm} (X : xC G true sz p s m args c cX12_nodeAt 3 wsX12_nodeAt RX12 meth (some .int)) (v1 : Int32) {S : Mm} {H : Heap} {locs : List Loc} {ls : Array Slot} (hW : xW G true sz s H locs S) (hl : lv_has ls 3 [(0, .ref (G.2.2 200 0)), (1, .int v1)]) (h : F_X12_nodeAt v1 S = some o) : wX p l e rmX12_nodeAt s m args below meth c H locs (xQi G true sz o) (XA G true sz) 0 ls [] := by
  unfold F_X12_nodeAt at h
  refine lv_aload_n X.1 X.2.1 dX12_nodeAt_0 rfl (lv_at hl 0 rfl) ?_
  refine x_getR X hW fd_Model_seen (fun w h => List.mem_cons_of_mem _ (gin_X12 w h)) (List.mem_cons_of_mem _ gw233) z_1 dX12_nodeAt_1 ?_
  refine lv_iload_n X.1 X.2.1 dX12_nodeAt_4 rfl (lv_at hl 1 rfl) ?_
  refine x_iald X hW ar_278 dX12_nodeAt_5 h (fun x1 h => ?_)
  refine lv_iconst (v := 2) X.1 X.2.1 dX12_nodeAt_6 rfl ?_
  refine x_icmp_ne X (tgt := 71) dX12_nodeAt_7 (by decide) h (fun h => ?_) (fun h => ?_)
  · exact w_X12_nodeAt_71 X v1   hW (lv_sub hl [0, 1] rfl) h
  · refine lv_aload_n X.1 X.2.1 dX12_nodeAt_10 rfl (lv_at hl 0 rfl) ?_
    refine x_getR X hW fd_Model_seen (fun w h => List.mem_cons_of_mem _ (gin_X12 w h)) (List.mem_cons_of_mem _ gw233) z_1 dX12_nodeAt_11 ?_
    refine lv_iload_n X.1 X.2.1 dX12_nodeAt_14 rfl (lv_at hl 1 rfl) ?_
    refine lv_iconst (v := 1) X.1 X.2.1 dX12_nodeAt_15 rfl ?_
    refine lv_iadd X.1 X.2.1 dX12_nodeAt_16 ?_
    refine x_iald X hW ar_278 dX12_nodeAt_17 h (fun x2 h => ?_)
    refine x_if_ne X (tgt := 71) dX12_nodeAt_18 (by decide) h (fun h => ?_) (fun h => ?_)
    · exact w_X12_nodeAt_71 X v1   hW (lv_sub hl [0, 1] rfl) h
    · refine lv_aload_n X.1 X.2.1 dX12_nodeAt_21 rfl (lv_at hl 0 rfl) ?_
      refine x_getR X hW fd_Model_seen (fun w h => List.mem_cons_of_mem _ (gin_X12 w h)) (List.mem_cons_of_mem _ gw233) z_1 dX12_nodeAt_22 ?_
      refine lv_iload_n X.1 X.2.1 dX12_nodeAt_25 rfl (lv_at hl 1 rfl) ?_
      refine lv_iconst (v := 2) X.1 X.2.1 dX12_nodeAt_26 rfl ?_
      refine lv_iadd X.1 X.2.1 dX12_nodeAt_27 ?_
      refine x_iald X hW ar_278 dX12_nodeAt_28 h (fun x3 h => ?_)
      refine x_if_ne X (tgt := 71) dX12_nodeAt_29 (by decide) h (fun h => ?_) (fun h => ?_)
      · exact w_X12_nodeAt_71 X v1   hW (lv_sub hl [0, 1] rfl) h
      · refine lv_aload_n X.1 X.2.1 dX12_nodeAt_32 rfl (lv_at hl 0 rfl) ?_
        refine x_getR X hW fd_Model_seen (fun w h => List.mem_cons_of_mem _ (gin_X12 w h)) (List.mem_cons_of_mem _ gw233) z_1 dX12_nodeAt_33 ?_
        refine lv_iload_n X.1 X.2.1 dX12_nodeAt_36 rfl (lv_at hl 1 rfl) ?_
        refine lv_iconst (v := 3) X.1 X.2.1 dX12_nodeAt_37 rfl ?_
        refine lv_iadd X.1 X.2.1 dX12_nodeAt_38 ?_
        refine x_iald X hW ar_278 dX12_nodeAt_39 h (fun x4 h => ?_)
        refine x_if_ne X (tgt := 71) dX12_nodeAt_40 (by decide) h (fun h => ?_) (fun h => ?_)
        · exact w_X12_nodeAt_71 X v1   hW (lv_sub hl [0, 1] rfl) h
        · refine lv_aload_n X.1 X.2.1 dX12_nodeAt_43 rfl (lv_at hl 0 rfl) ?_
          refine x_getR X hW fd_Model_seen (fun w h => List.mem_cons_of_mem _ (gin_X12 w h)) (List.mem_cons_of_mem _ gw233) z_1 dX12_nodeAt_44 ?_
          refine lv_iload_n X.1 X.2.1 dX12_nodeAt_47 rfl (lv_at hl 1 rfl) ?_
          refine lv_iconst (v := 4) X.1 X.2.1 dX12_nodeAt_48 rfl ?_
          refine lv_iadd X.1 X.2.1 dX12_nodeAt_49 ?_
          refine x_iald X hW ar_278 dX12_nodeAt_50 h (fun x5 h => ?_)
          refine x_if_ne X (tgt := 71) dX12_nodeAt_51 (by decide) h (fun h => ?_) (fun h => ?_)
          · exact w_X12_nodeAt_71 X v1   hW (lv_sub hl [0, 1] rfl) h
          · refine lv_aload_n X.1 X.2.1 dX12_nodeAt_54 rfl (lv_at hl 0 rfl) ?_
            refine x_getR X hW fd_Model_seen (fun w h => List.mem_cons_of_mem _ (gin_X12 w h)) (List.mem_cons_of_mem _ gw233) z_1 dX12_nodeAt_55 ?_
            refine lv_iload_n X.1 X.2.1 dX12_nodeAt_58 rfl (lv_at hl 1 rfl) ?_
            refine lv_iconst (v := 5) X.1 X.2.1 dX12_nodeAt_59 rfl ?_
            refine lv_iadd X.1 X.2.1 dX12_nodeAt_60 ?_
            refine x_iald X hW ar_278 dX12_nodeAt_61 h (fun x6 h => ?_)
            refine lv_bipush (v := 9) X.1 X.2.1 dX12_nodeAt_62 rfl ?_
            refine x_icmp_ge X (tgt := 71) dX12_nodeAt_64 (by decide) h (fun h => ?_) (fun h => ?_)
            · exact w_X12_nodeAt_71 X v1   hW (lv_sub hl [0, 1] rfl) h
            · refine lv_iconst (v := 1) X.1 X.2.1 dX12_nodeAt_67 rfl ?_
              refine lv_goto (tgt := 72) X.1 X.2.1 dX12_nodeAt_68 (by decide) ?_
              exact w_X12_nodeAt_72 X v1 1   hW (lv_sub hl [0, 1] rfl) h
theorem c_X12_nodeAt (l : Launch) (G : xG) (hD : xD G true) (sz : Nat) (S : Mm) (v1 : Int32) (o : Int32 × Mm) (h : F_X12_nodeAt v1 S = some o) : Met l yX12_nodeAt wsX12_nodeAt rmX12_nodeAt (xPre G true S sz [.ref (G.2.2 200 0), .int v1]) (xQi G true sz o) 0 0 (XA G true sz) :=
  x_start hD (by decide) rfl (Nat.le_of_ble_eq_true rfl) (fun p e s m below meth c X hW ls hl => w_X12_nodeAt_0 X v1 hW hl h)

/-! WirelessCellModel.acknowledged(I)V -/
def rmX12_acknowledged : Room := { frames := 3, cells := 0, slots := 0, locals := 65 }
def F_X12_acknowledged (v1 : Int32) (S : Mm) : Option (Unit × Mm) :=
  ldA S 255 0 9 1 v1 fun x1 =>
  if x1 = 0 then (
  some ((), S))
  else (
  stA S 255 0 9 1 v1 (0 &&& 1) fun S2 =>
  stA S2 250 0 9 1 v1 0 fun S3 =>
  ldA S3 243 0 9 1 v1 fun x4 =>
  cl (F_X12_partsOf v1 S3) fun r5 S6 =>
  if (r5 - 1) ≤ x4 then (
  cl (F_X12_leaves v1 1 S6) fun r8 S9 =>
  some ((), S9))
  else (
  ldA S6 243 0 9 1 v1 fun x11 =>
  stA S6 243 0 9 1 v1 (x11 + 1) fun S12 =>
  stA S12 244 0 9 1 v1 (0 &&& 1) fun S13 =>
  stA S13 257 0 9 1 v1 2 fun S14 =>
  gf S14 298 0 fun x15 =>
  stA S14 258 0 9 1 v1 (x15 + 2) fun S16 =>
  some ((), S16)))
set_option maxRecDepth 100000 in
set_option maxHeartbeats 4000000 in
theorem w_X12_acknowledged_0 {p : Program} {l : Launch} {e : Env} {s : State} {m : MethodId} {args : Array Value} {below : List Frame} {meth : Method} {c : Code} {G : xG} {sz : Nat} {o : Unit × Mm} (X : xC G true sz p s m args c cX12_acknowledged 2 wsX12_acknowledged RX12 meth none) (v1 : Int32) {S : Mm} {H : Heap} {locs : List Loc} {ls : Array Slot} (hW : xW G true sz s H locs S) (hl : lv_has ls 2 [(0, .ref (G.2.2 200 0)), (1, .int v1)]) (h : F_X12_acknowledged v1 S = some o) : wX p l e rmX12_acknowledged s m args below meth c H locs (xQv G true sz o) (XA G true sz) 0 ls [] := by
  unfold F_X12_acknowledged at h
  refine lv_aload_n X.1 X.2.1 dX12_acknowledged_0 rfl (lv_at hl 0 rfl) ?_
  refine x_getR X hW fd_Model_waits (fun w h => List.mem_cons_of_mem _ (gin_X12 w h)) (List.mem_cons_of_mem _ gw209) z_1 dX12_acknowledged_1 ?_
  refine lv_iload_n X.1 X.2.1 dX12_acknowledged_4 rfl (lv_at hl 1 rfl) ?_
  refine x_zald X hW ar_255 dX12_acknowledged_5 h (fun x1 h => ?_)
  refine x_if_ne X (tgt := 10) dX12_acknowledged_6 (by decide) h (fun h => ?_) (fun h => ?_)
  · refine lv_aload_n X.1 X.2.1 dX12_acknowledged_10 rfl (lv_at hl 0 rfl) ?_
    refine x_getR X hW fd_Model_waits (fun w h => List.mem_cons_of_mem _ (gin_X12 w h)) (List.mem_cons_of_mem _ gw209) z_1 dX12_acknowledged_11 ?_
    refine lv_iload_n X.1 X.2.1 dX12_acknowledged_14 rfl (lv_at hl 1 rfl) ?_
    refine lv_iconst (v := 0) X.1 X.2.1 dX12_acknowledged_15 rfl ?_
    refine x_zast X hW ar_255 dX12_acknowledged_16 h (fun S2 H locs h hW => ?_)
    refine lv_aload_n X.1 X.2.1 dX12_acknowledged_17 rfl (lv_at hl 0 rfl) ?_
    refine x_getR X hW fd_Model_tries (fun w h => List.mem_cons_of_mem _ (gin_X12 w h)) (List.mem_cons_of_mem _ gw201) z_1 dX12_acknowledged_18 ?_
    refine lv_iload_n X.1 X.2.1 dX12_acknowledged_21 rfl (lv_at hl 1 rfl) ?_
    refine lv_iconst (v := 0) X.1 X.2.1 dX12_acknowledged_22 rfl ?_
    refine x_iast X hW ar_250 dX12_acknowledged_23 h (fun S3 H locs h hW => ?_)
    refine lv_aload_n X.1 X.2.1 dX12_acknowledged_24 rfl (lv_at hl 0 rfl) ?_
    refine x_getR X hW fd_Model_part (fun w h => List.mem_cons_of_mem _ (gin_X12 w h)) (List.mem_cons_of_mem _ gw194) z_1 dX12_acknowledged_25 ?_
    refine lv_iload_n X.1 X.2.1 dX12_acknowledged_28 rfl (lv_at hl 1 rfl) ?_
    refine x_iald X hW ar_243 dX12_acknowledged_29 h (fun x4 h => ?_)
    refine lv_aload_n X.1 X.2.1 dX12_acknowledged_30 rfl (lv_at hl 0 rfl) ?_
    refine lv_iload_n X.1 X.2.1 dX12_acknowledged_31 rfl (lv_at hl 1 rfl) ?_
    obtain ⟨r5, S6, h7, h⟩ := cl_some h
    refine x_aftI X hW (x_runV (C := RX12) (a := G.2.2 200 0) (As := [.int v1]) (rest := [.int x4]) X hW (c_X12_partsOf l G X.2.2.2.2.2.2.2.2.2.1 _ S3 v1 _ h7) (cwV 1 X.2.2.2.2.1 (gV gw1039 gw1040 gw1041 gw5 gw1042) rfl rfl rfl ⟨rfl, hd_X12_partsOf⟩ ⟨Nat.le_of_ble_eq_true rfl, Nat.le_of_ble_eq_true rfl⟩) (x_recv X hW ob_Model z_1) rfl hl.1 rfl (Nat.le_of_ble_eq_true rfl) dX12_acknowledged_32 ⟨Nat.zero_le _, Nat.zero_le _⟩) (fun H locs hW => ?_)
    refine lv_iconst (v := 1) X.1 X.2.1 dX12_acknowledged_35 rfl ?_
    refine lv_isub X.1 X.2.1 dX12_acknowledged_36 ?_
    refine x_icmp_ge X (tgt := 79) dX12_acknowledged_37 (by decide) h (fun h => ?_) (fun h => ?_)
    · refine lv_aload_n X.1 X.2.1 dX12_acknowledged_79 rfl (lv_at hl 0 rfl) ?_
      refine lv_iload_n X.1 X.2.1 dX12_acknowledged_80 rfl (lv_at hl 1 rfl) ?_
      refine lv_iconst (v := 1) X.1 X.2.1 dX12_acknowledged_81 rfl ?_
      obtain ⟨r8, S9, h10, h⟩ := cl_some h
      refine x_aftV X hW (x_runV (C := RX12) (a := G.2.2 200 0) (As := [.int v1, .int 1]) (rest := []) X hW (c_X12_leaves l G X.2.2.2.2.2.2.2.2.2.1 _ S6 v1 1 _ h10) (cwV 2 X.2.2.2.2.1 (gV gw1081 gw1082 gw1083 gw5 gw1084) rfl rfl rfl ⟨rfl, hd_X12_leaves⟩ ⟨Nat.le_of_ble_eq_true rfl, Nat.le_of_ble_eq_true rfl⟩) (x_recv X hW ob_Model z_1) rfl hl.1 rfl (Nat.le_of_ble_eq_true rfl) dX12_acknowledged_82 ⟨Nat.zero_le _, Nat.zero_le _⟩) (fun H locs hW => ?_)
      exact x_vret X hW h dX12_acknowledged_85
    · refine lv_aload_n X.1 X.2.1 dX12_acknowledged_40 rfl (lv_at hl 0 rfl) ?_
      refine x_getR X hW fd_Model_part (fun w h => List.mem_cons_of_mem _ (gin_X12 w h)) (List.mem_cons_of_mem _ gw194) z_1 dX12_acknowledged_41 ?_
      refine lv_iload_n X.1 X.2.1 dX12_acknowledged_44 rfl (lv_at hl 1 rfl) ?_
      refine lv_dup2_11 X.1 X.2.1 dX12_acknowledged_45 rfl rfl ?_
      refine x_iald X hW ar_243 dX12_acknowledged_46 h (fun x11 h => ?_)
      refine lv_iconst (v := 1) X.1 X.2.1 dX12_acknowledged_47 rfl ?_
      refine lv_iadd X.1 X.2.1 dX12_acknowledged_48 ?_
      refine x_iast X hW ar_243 dX12_acknowledged_49 h (fun S12 H locs h hW => ?_)
      refine lv_aload_n X.1 X.2.1 dX12_acknowledged_50 rfl (lv_at hl 0 rfl) ?_
      refine x_getR X hW fd_Model_isMade (fun w h => List.mem_cons_of_mem _ (gin_X12 w h)) (List.mem_cons_of_mem _ gw195) z_1 dX12_acknowledged_51 ?_
      refine lv_iload_n X.1 X.2.1 dX12_acknowledged_54 rfl (lv_at hl 1 rfl) ?_
      refine lv_iconst (v := 0) X.1 X.2.1 dX12_acknowledged_55 rfl ?_
      refine x_zast X hW ar_244 dX12_acknowledged_56 h (fun S13 H locs h hW => ?_)
      refine lv_aload_n X.1 X.2.1 dX12_acknowledged_57 rfl (lv_at hl 0 rfl) ?_
      refine x_getR X hW fd_Model_due (fun w h => List.mem_cons_of_mem _ (gin_X12 w h)) (List.mem_cons_of_mem _ gw211) z_1 dX12_acknowledged_58 ?_
      refine lv_iload_n X.1 X.2.1 dX12_acknowledged_61 rfl (lv_at hl 1 rfl) ?_
      refine lv_iconst (v := 2) X.1 X.2.1 dX12_acknowledged_62 rfl ?_
      refine x_iast X hW ar_257 dX12_acknowledged_63 h (fun S14 H locs h hW => ?_)
      refine lv_aload_n X.1 X.2.1 dX12_acknowledged_64 rfl (lv_at hl 0 rfl) ?_
      refine x_getR X hW fd_Model_dueAt (fun w h => List.mem_cons_of_mem _ (gin_X12 w h)) (List.mem_cons_of_mem _ gw212) z_1 dX12_acknowledged_65 ?_
      refine lv_iload_n X.1 X.2.1 dX12_acknowledged_68 rfl (lv_at hl 1 rfl) ?_
      refine lv_aload_n X.1 X.2.1 dX12_acknowledged_69 rfl (lv_at hl 0 rfl) ?_
      refine x_getI X hW fd_Model_slot (fun w h => List.mem_cons_of_mem _ (gin_X12 w h)) (List.mem_cons_of_mem _ gw451) z_1 dX12_acknowledged_70 h (fun x15 h => ?_)
      refine lv_iconst (v := 2) X.1 X.2.1 dX12_acknowledged_73 rfl ?_
      refine lv_iadd X.1 X.2.1 dX12_acknowledged_74 ?_
      refine x_iast X hW ar_258 dX12_acknowledged_75 h (fun S16 H locs h hW => ?_)
      refine lv_goto (tgt := 85) X.1 X.2.1 dX12_acknowledged_76 (by decide) ?_
      exact x_vret X hW h dX12_acknowledged_85
  · exact x_vret X hW h dX12_acknowledged_9
theorem c_X12_acknowledged (l : Launch) (G : xG) (hD : xD G true) (sz : Nat) (S : Mm) (v1 : Int32) (o : Unit × Mm) (h : F_X12_acknowledged v1 S = some o) : Met l yX12_acknowledged wsX12_acknowledged rmX12_acknowledged (xPre G true S sz [.ref (G.2.2 200 0), .int v1]) (xQv G true sz o) 0 0 (XA G true sz) :=
  x_start hD (by decide) rfl (Nat.le_of_ble_eq_true rfl) (fun p e s m below meth c X hW ls hl => w_X12_acknowledged_0 X v1 hW hl h)

/-! WirelessCellModel.isBody(IIIII)Z -/
def rmX12_isBody : Room := { frames := 0, cells := 0, slots := 0, locals := 0 }
def L_X12_isBody_61   (S : Mm) : Option (Int32 × Mm) :=
  some (0, S)
def F_X12_isBody (v1 : Int32) (v2 : Int32) (v3 : Int32) (v4 : Int32) (v5 : Int32) (S : Mm) : Option (Int32 × Mm) :=
  gf S 307 0 fun x1 =>
  if x1 = (28 + v1) then (
  ldA S 278 0 300 1 24 fun x2 =>
  if x2 = v2 then (
  ldA S 278 0 300 1 25 fun x3 =>
  if x3 = v3 then (
  ldA S 278 0 300 1 26 fun x4 =>
  if x4 = v4 then (
  ldA S 278 0 300 1 27 fun x5 =>
  if x5 = v5 then (
  some (1, S))
  else (
  L_X12_isBody_61  S))
  else (
  L_X12_isBody_61  S))
  else (
  L_X12_isBody_61  S))
  else (
  L_X12_isBody_61  S))
  else (
  L_X12_isBody_61  S)
set_option maxRecDepth 100000 in
set_option maxHeartbeats 4000000 in
theorem w_X12_isBody_61 {p : Program} {l : Launch} {e : Env} {s : State} {m : MethodId} {args : Array Value} {below : List Frame} {meth : Method} {c : Code} {G : xG} {sz : Nat} {o : Int32 × Mm} (X : xC G true sz p s m args c cX12_isBody 6 wsX12_isBody RX12 meth (some .boolean))    {S : Mm} {H : Heap} {locs : List Loc} {ls : Array Slot} (hW : xW G true sz s H locs S) (hl : lv_has ls 6 []) (h : L_X12_isBody_61   S = some o) : wX p l e rmX12_isBody s m args below meth c H locs (xQi G true sz o) (XA G true sz) 61 ls [] := by
  unfold L_X12_isBody_61 at h
  refine lv_iconst (v := 0) X.1 X.2.1 dX12_isBody_61 rfl ?_
  exact x_zret X hW h rfl dX12_isBody_62
set_option maxRecDepth 100000 in
set_option maxHeartbeats 4000000 in
theorem w_X12_isBody_0 {p : Program} {l : Launch} {e : Env} {s : State} {m : MethodId} {args : Array Value} {below : List Frame} {meth : Method} {c : Code} {G : xG} {sz : Nat} {o : Int32 × Mm} (X : xC G true sz p s m args c cX12_isBody 6 wsX12_isBody RX12 meth (some .boolean)) (v1 : Int32) (v2 : Int32) (v3 : Int32) (v4 : Int32) (v5 : Int32) {S : Mm} {H : Heap} {locs : List Loc} {ls : Array Slot} (hW : xW G true sz s H locs S) (hl : lv_has ls 6 [(0, .ref (G.2.2 200 0)), (1, .int v1), (2, .int v2), (3, .int v3), (4, .int v4), (5, .int v5)]) (h : F_X12_isBody v1 v2 v3 v4 v5 S = some o) : wX p l e rmX12_isBody s m args below meth c H locs (xQi G true sz o) (XA G true sz) 0 ls [] := by
  unfold F_X12_isBody at h
  refine lv_aload_n X.1 X.2.1 dX12_isBody_0 rfl (lv_at hl 0 rfl) ?_
  refine x_getI X hW fd_Model_seenLen (fun w h => List.mem_cons_of_mem _ (gin_X12 w h)) (List.mem_cons_of_mem _ gw1097) z_1 dX12_isBody_1 h (fun x1 h => ?_)
  refine lv_bipush (v := 28) X.1 X.2.1 dX12_isBody_4 rfl ?_
  refine lv_iload_n X.1 X.2.1 dX12_isBody_6 rfl (lv_at hl 1 rfl) ?_
  refine lv_iadd X.1 X.2.1 dX12_isBody_7 ?_
  refine x_icmp_ne X (tgt := 61) dX12_isBody_8 (by decide) h (fun h => ?_) (fun h => ?_)
  · exact w_X12_isBody_61 X    hW (lv_sub hl [] rfl) h
  · refine lv_aload_n X.1 X.2.1 dX12_isBody_11 rfl (lv_at hl 0 rfl) ?_
    refine x_getR X hW fd_Model_seen (fun w h => List.mem_cons_of_mem _ (gin_X12 w h)) (List.mem_cons_of_mem _ gw233) z_1 dX12_isBody_12 ?_
    refine lv_bipush (v := 24) X.1 X.2.1 dX12_isBody_15 rfl ?_
    refine x_iald X hW ar_278 dX12_isBody_17 h (fun x2 h => ?_)
    refine lv_iload_n X.1 X.2.1 dX12_isBody_18 rfl (lv_at hl 2 rfl) ?_
    refine x_icmp_ne X (tgt := 61) dX12_isBody_19 (by decide) h (fun h => ?_) (fun h => ?_)
    · exact w_X12_isBody_61 X    hW (lv_sub hl [] rfl) h
    · refine lv_aload_n X.1 X.2.1 dX12_isBody_22 rfl (lv_at hl 0 rfl) ?_
      refine x_getR X hW fd_Model_seen (fun w h => List.mem_cons_of_mem _ (gin_X12 w h)) (List.mem_cons_of_mem _ gw233) z_1 dX12_isBody_23 ?_
      refine lv_bipush (v := 25) X.1 X.2.1 dX12_isBody_26 rfl ?_
      refine x_iald X hW ar_278 dX12_isBody_28 h (fun x3 h => ?_)
      refine lv_iload_n X.1 X.2.1 dX12_isBody_29 rfl (lv_at hl 3 rfl) ?_
      refine x_icmp_ne X (tgt := 61) dX12_isBody_30 (by decide) h (fun h => ?_) (fun h => ?_)
      · exact w_X12_isBody_61 X    hW (lv_sub hl [] rfl) h
      · refine lv_aload_n X.1 X.2.1 dX12_isBody_33 rfl (lv_at hl 0 rfl) ?_
        refine x_getR X hW fd_Model_seen (fun w h => List.mem_cons_of_mem _ (gin_X12 w h)) (List.mem_cons_of_mem _ gw233) z_1 dX12_isBody_34 ?_
        refine lv_bipush (v := 26) X.1 X.2.1 dX12_isBody_37 rfl ?_
        refine x_iald X hW ar_278 dX12_isBody_39 h (fun x4 h => ?_)
        refine lv_iload X.1 X.2.1 dX12_isBody_40 (lv_at hl 4 rfl) ?_
        refine x_icmp_ne X (tgt := 61) dX12_isBody_42 (by decide) h (fun h => ?_) (fun h => ?_)
        · exact w_X12_isBody_61 X    hW (lv_sub hl [] rfl) h
        · refine lv_aload_n X.1 X.2.1 dX12_isBody_45 rfl (lv_at hl 0 rfl) ?_
          refine x_getR X hW fd_Model_seen (fun w h => List.mem_cons_of_mem _ (gin_X12 w h)) (List.mem_cons_of_mem _ gw233) z_1 dX12_isBody_46 ?_
          refine lv_bipush (v := 27) X.1 X.2.1 dX12_isBody_49 rfl ?_
          refine x_iald X hW ar_278 dX12_isBody_51 h (fun x5 h => ?_)
          refine lv_iload X.1 X.2.1 dX12_isBody_52 (lv_at hl 5 rfl) ?_
          refine x_icmp_ne X (tgt := 61) dX12_isBody_54 (by decide) h (fun h => ?_) (fun h => ?_)
          · exact w_X12_isBody_61 X    hW (lv_sub hl [] rfl) h
          · refine lv_iconst (v := 1) X.1 X.2.1 dX12_isBody_57 rfl ?_
            refine lv_goto (tgt := 62) X.1 X.2.1 dX12_isBody_58 (by decide) ?_
            exact x_zret X hW h rfl dX12_isBody_62
theorem c_X12_isBody (l : Launch) (G : xG) (hD : xD G true) (sz : Nat) (S : Mm) (v1 : Int32) (v2 : Int32) (v3 : Int32) (v4 : Int32) (v5 : Int32) (o : Int32 × Mm) (h : F_X12_isBody v1 v2 v3 v4 v5 S = some o) : Met l yX12_isBody wsX12_isBody rmX12_isBody (xPre G true S sz [.ref (G.2.2 200 0), .int v1, .int v2, .int v3, .int v4, .int v5]) (xQi G true sz o) 0 0 (XA G true sz) :=
  x_start hD (by decide) rfl (Nat.le_of_ble_eq_true rfl) (fun p e s m below meth c X hW ls hl => w_X12_isBody_0 X v1 v2 v3 v4 v5 hW hl h)

/-! WirelessCellModel.sendsEnd(III)V -/
def rmX12_sendsEnd : Room := { frames := 3, cells := 0, slots := 0, locals := 68 }
def F_X12_sendsEnd (v1 : Int32) (v2 : Int32) (v3 : Int32) (S : Mm) : Option (Unit × Mm) :=
  pf S 297 0 0 fun S1 =>
  cl (F_X12_add v3 S1) fun r2 S3 =>
  cl (F_X12_add 0 S3) fun r5 S6 =>
  cl (F_X12_enqueue v1 192 v2 0 (-1) S6) fun r8 S9 =>
  some ((), S9)
set_option maxRecDepth 100000 in
set_option maxHeartbeats 4000000 in
theorem w_X12_sendsEnd_0 {p : Program} {l : Launch} {e : Env} {s : State} {m : MethodId} {args : Array Value} {below : List Frame} {meth : Method} {c : Code} {G : xG} {sz : Nat} {o : Unit × Mm} (X : xC G true sz p s m args c cX12_sendsEnd 4 wsX12_sendsEnd RX12 meth none) (v1 : Int32) (v2 : Int32) (v3 : Int32) {S : Mm} {H : Heap} {locs : List Loc} {ls : Array Slot} (hW : xW G true sz s H locs S) (hl : lv_has ls 4 [(0, .ref (G.2.2 200 0)), (1, .int v1), (2, .int v2), (3, .int v3)]) (h : F_X12_sendsEnd v1 v2 v3 S = some o) : wX p l e rmX12_sendsEnd s m args below meth c H locs (xQv G true sz o) (XA G true sz) 0 ls [] := by
  unfold F_X12_sendsEnd at h
  refine lv_aload_n X.1 X.2.1 dX12_sendsEnd_0 rfl (lv_at hl 0 rfl) ?_
  refine lv_iconst (v := 0) X.1 X.2.1 dX12_sendsEnd_1 rfl ?_
  refine x_putI X hW fd_Model_length (fun w h => List.mem_cons_of_mem _ (gin_X12 w h)) (List.mem_cons_of_mem _ gw525) z_1 dX12_sendsEnd_2 tyX12 tyX12_ok nmX12 rfl rfl rfl h (fun S1 H locs h hW => ?_)
  refine lv_aload_n X.1 X.2.1 dX12_sendsEnd_5 rfl (lv_at hl 0 rfl) ?_
  refine lv_iload_n X.1 X.2.1 dX12_sendsEnd_6 rfl (lv_at hl 3 rfl) ?_
  obtain ⟨r2, S3, h4, h⟩ := cl_some h
  refine x_aftV X hW (x_runV (C := RX12) (a := G.2.2 200 0) (As := [.int v3]) (rest := []) X hW (c_X12_add l G X.2.2.2.2.2.2.2.2.2.1 _ S1 v3 _ h4) (cwV 1 X.2.2.2.2.1 (gV gw530 gw531 gw532 gw5 gw533) rfl rfl rfl ⟨rfl, hd_X12_add⟩ ⟨Nat.le_of_ble_eq_true rfl, Nat.le_of_ble_eq_true rfl⟩) (x_recv X hW ob_Model z_1) rfl hl.1 rfl (Nat.le_of_ble_eq_true rfl) dX12_sendsEnd_7 ⟨Nat.zero_le _, Nat.zero_le _⟩) (fun H locs hW => ?_)
  refine lv_aload_n X.1 X.2.1 dX12_sendsEnd_10 rfl (lv_at hl 0 rfl) ?_
  refine lv_iconst (v := 0) X.1 X.2.1 dX12_sendsEnd_11 rfl ?_
  obtain ⟨r5, S6, h7, h⟩ := cl_some h
  refine x_aftV X hW (x_runV (C := RX12) (a := G.2.2 200 0) (As := [.int 0]) (rest := []) X hW (c_X12_add l G X.2.2.2.2.2.2.2.2.2.1 _ S3 0 _ h7) (cwV 1 X.2.2.2.2.1 (gV gw530 gw531 gw532 gw5 gw533) rfl rfl rfl ⟨rfl, hd_X12_add⟩ ⟨Nat.le_of_ble_eq_true rfl, Nat.le_of_ble_eq_true rfl⟩) (x_recv X hW ob_Model z_1) rfl hl.1 rfl (Nat.le_of_ble_eq_true rfl) dX12_sendsEnd_12 ⟨Nat.zero_le _, Nat.zero_le _⟩) (fun H locs hW => ?_)
  refine lv_aload_n X.1 X.2.1 dX12_sendsEnd_15 rfl (lv_at hl 0 rfl) ?_
  refine lv_iload_n X.1 X.2.1 dX12_sendsEnd_16 rfl (lv_at hl 1 rfl) ?_
  refine lv_sipush (v := 192) X.1 X.2.1 dX12_sendsEnd_17 rfl ?_
  refine lv_iload_n X.1 X.2.1 dX12_sendsEnd_20 rfl (lv_at hl 2 rfl) ?_
  refine lv_iconst (v := 0) X.1 X.2.1 dX12_sendsEnd_21 rfl ?_
  refine lv_iconst (v := (-1)) X.1 X.2.1 dX12_sendsEnd_22 rfl ?_
  obtain ⟨r8, S9, h10, h⟩ := cl_some h
  refine x_aftV X hW (x_runV (C := RX12) (a := G.2.2 200 0) (As := [.int v1, .int 192, .int v2, .int 0, .int (-1)]) (rest := []) X hW (c_X12_enqueue l G X.2.2.2.2.2.2.2.2.2.1 _ S6 v1 192 v2 0 (-1) _ h10) (cwV 5 X.2.2.2.2.1 (gV gw534 gw535 gw536 gw5 gw537) rfl rfl rfl ⟨rfl, hd_X12_enqueue⟩ ⟨Nat.le_of_ble_eq_true rfl, Nat.le_of_ble_eq_true rfl⟩) (x_recv X hW ob_Model z_1) rfl hl.1 rfl (Nat.le_of_ble_eq_true rfl) dX12_sendsEnd_23 ⟨Nat.zero_le _, Nat.zero_le _⟩) (fun H locs hW => ?_)
  exact x_vret X hW h dX12_sendsEnd_26
theorem c_X12_sendsEnd (l : Launch) (G : xG) (hD : xD G true) (sz : Nat) (S : Mm) (v1 : Int32) (v2 : Int32) (v3 : Int32) (o : Unit × Mm) (h : F_X12_sendsEnd v1 v2 v3 S = some o) : Met l yX12_sendsEnd wsX12_sendsEnd rmX12_sendsEnd (xPre G true S sz [.ref (G.2.2 200 0), .int v1, .int v2, .int v3]) (xQv G true sz o) 0 0 (XA G true sz) :=
  x_start hD (by decide) rfl (Nat.le_of_ble_eq_true rfl) (fun p e s m below meth c X hW ls hl => w_X12_sendsEnd_0 X v1 v2 v3 hW hl h)

/-! WirelessCellModel.beginsMessage(II)V -/
def rmX12_beginsMessage : Room := { frames := 1, cells := 0, slots := 0, locals := 21 }
def F_X12_beginsMessage (v1 : Int32) (v2 : Int32) (S : Mm) : Option (Unit × Mm) :=
  pf S 297 0 0 fun S1 =>
  cl (F_X12_add 170 S1) fun r2 S3 =>
  cl (F_X12_add 170 S3) fun r5 S6 =>
  cl (F_X12_add 3 S6) fun r8 S9 =>
  cl (F_X12_add 0 S9) fun r11 S12 =>
  cl (F_X12_add 0 S12) fun r14 S15 =>
  cl (F_X12_add 0 S15) fun r17 S18 =>
  cl (F_X12_add v1 S18) fun r20 S21 =>
  cl (F_X12_add v2 S21) fun r23 S24 =>
  some ((), S24)
set_option maxRecDepth 100000 in
set_option maxHeartbeats 4000000 in
theorem w_X12_beginsMessage_0 {p : Program} {l : Launch} {e : Env} {s : State} {m : MethodId} {args : Array Value} {below : List Frame} {meth : Method} {c : Code} {G : xG} {sz : Nat} {o : Unit × Mm} (X : xC G true sz p s m args c cX12_beginsMessage 3 wsX12_beginsMessage RX12 meth none) (v1 : Int32) (v2 : Int32) {S : Mm} {H : Heap} {locs : List Loc} {ls : Array Slot} (hW : xW G true sz s H locs S) (hl : lv_has ls 3 [(0, .ref (G.2.2 200 0)), (1, .int v1), (2, .int v2)]) (h : F_X12_beginsMessage v1 v2 S = some o) : wX p l e rmX12_beginsMessage s m args below meth c H locs (xQv G true sz o) (XA G true sz) 0 ls [] := by
  unfold F_X12_beginsMessage at h
  refine lv_aload_n X.1 X.2.1 dX12_beginsMessage_0 rfl (lv_at hl 0 rfl) ?_
  refine lv_iconst (v := 0) X.1 X.2.1 dX12_beginsMessage_1 rfl ?_
  refine x_putI X hW fd_Model_length (fun w h => List.mem_cons_of_mem _ (gin_X12 w h)) (List.mem_cons_of_mem _ gw525) z_1 dX12_beginsMessage_2 tyX12 tyX12_ok nmX12 rfl rfl rfl h (fun S1 H locs h hW => ?_)
  refine lv_aload_n X.1 X.2.1 dX12_beginsMessage_5 rfl (lv_at hl 0 rfl) ?_
  refine lv_sipush (v := 170) X.1 X.2.1 dX12_beginsMessage_6 rfl ?_
  obtain ⟨r2, S3, h4, h⟩ := cl_some h
  refine x_aftV X hW (x_runV (C := RX12) (a := G.2.2 200 0) (As := [.int 170]) (rest := []) X hW (c_X12_add l G X.2.2.2.2.2.2.2.2.2.1 _ S1 170 _ h4) (cwV 1 X.2.2.2.2.1 (gV gw530 gw531 gw532 gw5 gw533) rfl rfl rfl ⟨rfl, hd_X12_add⟩ ⟨Nat.le_of_ble_eq_true rfl, Nat.le_of_ble_eq_true rfl⟩) (x_recv X hW ob_Model z_1) rfl hl.1 rfl (Nat.le_of_ble_eq_true rfl) dX12_beginsMessage_9 ⟨Nat.zero_le _, Nat.zero_le _⟩) (fun H locs hW => ?_)
  refine lv_aload_n X.1 X.2.1 dX12_beginsMessage_12 rfl (lv_at hl 0 rfl) ?_
  refine lv_sipush (v := 170) X.1 X.2.1 dX12_beginsMessage_13 rfl ?_
  obtain ⟨r5, S6, h7, h⟩ := cl_some h
  refine x_aftV X hW (x_runV (C := RX12) (a := G.2.2 200 0) (As := [.int 170]) (rest := []) X hW (c_X12_add l G X.2.2.2.2.2.2.2.2.2.1 _ S3 170 _ h7) (cwV 1 X.2.2.2.2.1 (gV gw530 gw531 gw532 gw5 gw533) rfl rfl rfl ⟨rfl, hd_X12_add⟩ ⟨Nat.le_of_ble_eq_true rfl, Nat.le_of_ble_eq_true rfl⟩) (x_recv X hW ob_Model z_1) rfl hl.1 rfl (Nat.le_of_ble_eq_true rfl) dX12_beginsMessage_16 ⟨Nat.zero_le _, Nat.zero_le _⟩) (fun H locs hW => ?_)
  refine lv_aload_n X.1 X.2.1 dX12_beginsMessage_19 rfl (lv_at hl 0 rfl) ?_
  refine lv_iconst (v := 3) X.1 X.2.1 dX12_beginsMessage_20 rfl ?_
  obtain ⟨r8, S9, h10, h⟩ := cl_some h
  refine x_aftV X hW (x_runV (C := RX12) (a := G.2.2 200 0) (As := [.int 3]) (rest := []) X hW (c_X12_add l G X.2.2.2.2.2.2.2.2.2.1 _ S6 3 _ h10) (cwV 1 X.2.2.2.2.1 (gV gw530 gw531 gw532 gw5 gw533) rfl rfl rfl ⟨rfl, hd_X12_add⟩ ⟨Nat.le_of_ble_eq_true rfl, Nat.le_of_ble_eq_true rfl⟩) (x_recv X hW ob_Model z_1) rfl hl.1 rfl (Nat.le_of_ble_eq_true rfl) dX12_beginsMessage_21 ⟨Nat.zero_le _, Nat.zero_le _⟩) (fun H locs hW => ?_)
  refine lv_aload_n X.1 X.2.1 dX12_beginsMessage_24 rfl (lv_at hl 0 rfl) ?_
  refine lv_iconst (v := 0) X.1 X.2.1 dX12_beginsMessage_25 rfl ?_
  obtain ⟨r11, S12, h13, h⟩ := cl_some h
  refine x_aftV X hW (x_runV (C := RX12) (a := G.2.2 200 0) (As := [.int 0]) (rest := []) X hW (c_X12_add l G X.2.2.2.2.2.2.2.2.2.1 _ S9 0 _ h13) (cwV 1 X.2.2.2.2.1 (gV gw530 gw531 gw532 gw5 gw533) rfl rfl rfl ⟨rfl, hd_X12_add⟩ ⟨Nat.le_of_ble_eq_true rfl, Nat.le_of_ble_eq_true rfl⟩) (x_recv X hW ob_Model z_1) rfl hl.1 rfl (Nat.le_of_ble_eq_true rfl) dX12_beginsMessage_26 ⟨Nat.zero_le _, Nat.zero_le _⟩) (fun H locs hW => ?_)
  refine lv_aload_n X.1 X.2.1 dX12_beginsMessage_29 rfl (lv_at hl 0 rfl) ?_
  refine lv_iconst (v := 0) X.1 X.2.1 dX12_beginsMessage_30 rfl ?_
  obtain ⟨r14, S15, h16, h⟩ := cl_some h
  refine x_aftV X hW (x_runV (C := RX12) (a := G.2.2 200 0) (As := [.int 0]) (rest := []) X hW (c_X12_add l G X.2.2.2.2.2.2.2.2.2.1 _ S12 0 _ h16) (cwV 1 X.2.2.2.2.1 (gV gw530 gw531 gw532 gw5 gw533) rfl rfl rfl ⟨rfl, hd_X12_add⟩ ⟨Nat.le_of_ble_eq_true rfl, Nat.le_of_ble_eq_true rfl⟩) (x_recv X hW ob_Model z_1) rfl hl.1 rfl (Nat.le_of_ble_eq_true rfl) dX12_beginsMessage_31 ⟨Nat.zero_le _, Nat.zero_le _⟩) (fun H locs hW => ?_)
  refine lv_aload_n X.1 X.2.1 dX12_beginsMessage_34 rfl (lv_at hl 0 rfl) ?_
  refine lv_iconst (v := 0) X.1 X.2.1 dX12_beginsMessage_35 rfl ?_
  obtain ⟨r17, S18, h19, h⟩ := cl_some h
  refine x_aftV X hW (x_runV (C := RX12) (a := G.2.2 200 0) (As := [.int 0]) (rest := []) X hW (c_X12_add l G X.2.2.2.2.2.2.2.2.2.1 _ S15 0 _ h19) (cwV 1 X.2.2.2.2.1 (gV gw530 gw531 gw532 gw5 gw533) rfl rfl rfl ⟨rfl, hd_X12_add⟩ ⟨Nat.le_of_ble_eq_true rfl, Nat.le_of_ble_eq_true rfl⟩) (x_recv X hW ob_Model z_1) rfl hl.1 rfl (Nat.le_of_ble_eq_true rfl) dX12_beginsMessage_36 ⟨Nat.zero_le _, Nat.zero_le _⟩) (fun H locs hW => ?_)
  refine lv_aload_n X.1 X.2.1 dX12_beginsMessage_39 rfl (lv_at hl 0 rfl) ?_
  refine lv_iload_n X.1 X.2.1 dX12_beginsMessage_40 rfl (lv_at hl 1 rfl) ?_
  obtain ⟨r20, S21, h22, h⟩ := cl_some h
  refine x_aftV X hW (x_runV (C := RX12) (a := G.2.2 200 0) (As := [.int v1]) (rest := []) X hW (c_X12_add l G X.2.2.2.2.2.2.2.2.2.1 _ S18 v1 _ h22) (cwV 1 X.2.2.2.2.1 (gV gw530 gw531 gw532 gw5 gw533) rfl rfl rfl ⟨rfl, hd_X12_add⟩ ⟨Nat.le_of_ble_eq_true rfl, Nat.le_of_ble_eq_true rfl⟩) (x_recv X hW ob_Model z_1) rfl hl.1 rfl (Nat.le_of_ble_eq_true rfl) dX12_beginsMessage_41 ⟨Nat.zero_le _, Nat.zero_le _⟩) (fun H locs hW => ?_)
  refine lv_aload_n X.1 X.2.1 dX12_beginsMessage_44 rfl (lv_at hl 0 rfl) ?_
  refine lv_iload_n X.1 X.2.1 dX12_beginsMessage_45 rfl (lv_at hl 2 rfl) ?_
  obtain ⟨r23, S24, h25, h⟩ := cl_some h
  refine x_aftV X hW (x_runV (C := RX12) (a := G.2.2 200 0) (As := [.int v2]) (rest := []) X hW (c_X12_add l G X.2.2.2.2.2.2.2.2.2.1 _ S21 v2 _ h25) (cwV 1 X.2.2.2.2.1 (gV gw530 gw531 gw532 gw5 gw533) rfl rfl rfl ⟨rfl, hd_X12_add⟩ ⟨Nat.le_of_ble_eq_true rfl, Nat.le_of_ble_eq_true rfl⟩) (x_recv X hW ob_Model z_1) rfl hl.1 rfl (Nat.le_of_ble_eq_true rfl) dX12_beginsMessage_46 ⟨Nat.zero_le _, Nat.zero_le _⟩) (fun H locs hW => ?_)
  exact x_vret X hW h dX12_beginsMessage_49
theorem c_X12_beginsMessage (l : Launch) (G : xG) (hD : xD G true) (sz : Nat) (S : Mm) (v1 : Int32) (v2 : Int32) (o : Unit × Mm) (h : F_X12_beginsMessage v1 v2 S = some o) : Met l yX12_beginsMessage wsX12_beginsMessage rmX12_beginsMessage (xPre G true S sz [.ref (G.2.2 200 0), .int v1, .int v2]) (xQv G true sz o) 0 0 (XA G true sz) :=
  x_start hD (by decide) rfl (Nat.le_of_ble_eq_true rfl) (fun p e s m below meth c X hW ls hl => w_X12_beginsMessage_0 X v1 v2 hW hl h)

/-! WirelessCellModel.sendsHand(IIIII)V -/
def rmX12_sendsHand : Room := { frames := 5, cells := 0, slots := 0, locals := 121 }
def L_X12_sendsHand_111  (v1 : Int32) (v2 : Int32) (S : Mm) : Option (Unit × Mm) :=
  cl (F_X12_enqueue v1 8 v2 0 (-1) S) fun r19 S20 =>
  some ((), S20)
def L_X12_sendsHand_87  (v1 : Int32) (v2 : Int32) : Nat → Int32 → Mm → Option (Unit × Mm)
  | 0, _, _ => none
  | n + 1, v6, S => 
    if 16 ≤ v6 then (
    L_X12_sendsHand_111  v1 v2 S)
    else (
    ldA S 204 0 20 1 v6 fun x15 =>
    cl (F_X12_add x15 S) fun r16 S17 =>
    (L_X12_sendsHand_87 v1 v2 n) (v6 + 1) S17)
def L_X12_sendsHand_53  (v1 : Int32) (v2 : Int32) (v3 : Int32) (v5 : Int32) (S : Mm) : Option (Unit × Mm) :=
  if v3 ≤ 1 then (
  L_X12_sendsHand_111  v1 v2 S)
  else (
  gf S 297 0 fun x11 =>
  cl (F_X12_macOf 223 0 (48 * v5) 253 0 8 (x11 - 8) S) fun r12 S13 =>
  L_X12_sendsHand_87  v1 v2 fu 0 S13)
def L_X12_sendsHand_18  (v1 : Int32) (v2 : Int32) (v3 : Int32) (v4 : Int32) (v5 : Int32) : Nat → Int32 → Mm → Option (Unit × Mm)
  | 0, _, _ => none
  | n + 1, v6, S => 
    if 32 ≤ v6 then (
    L_X12_sendsHand_53  v1 v2 v3 v5 S)
    else (
    if v4 < 0 then (
    L_X12_sendsHand_53  v1 v2 v3 v5 S)
    else (
    ldA S 217 0 288 1 ((32 * v4) + v6) fun x7 =>
    cl (F_X12_add x7 S) fun r8 S9 =>
    (L_X12_sendsHand_18 v1 v2 v3 v4 v5 n) (v6 + 1) S9))
def F_X12_sendsHand (v1 : Int32) (v2 : Int32) (v3 : Int32) (v4 : Int32) (v5 : Int32) (S : Mm) : Option (Unit × Mm) :=
  cl (F_X12_beginsMessage 136 142 S) fun r1 S2 =>
  cl (F_X12_add v3 S2) fun r4 S5 =>
  L_X12_sendsHand_18  v1 v2 v3 v4 v5 fu 0 S5
set_option maxRecDepth 100000 in
set_option maxHeartbeats 4000000 in
theorem w_X12_sendsHand_111 {p : Program} {l : Launch} {e : Env} {s : State} {m : MethodId} {args : Array Value} {below : List Frame} {meth : Method} {c : Code} {G : xG} {sz : Nat} {o : Unit × Mm} (X : xC G true sz p s m args c cX12_sendsHand 7 wsX12_sendsHand RX12 meth none) (v1 : Int32) (v2 : Int32)   {S : Mm} {H : Heap} {locs : List Loc} {ls : Array Slot} (hW : xW G true sz s H locs S) (hl : lv_has ls 7 [(0, .ref (G.2.2 200 0)), (1, .int v1), (2, .int v2)]) (h : L_X12_sendsHand_111  v1 v2 S = some o) : wX p l e rmX12_sendsHand s m args below meth c H locs (xQv G true sz o) (XA G true sz) 111 ls [] := by
  unfold L_X12_sendsHand_111 at h
  refine lv_aload_n X.1 X.2.1 dX12_sendsHand_111 rfl (lv_at hl 0 rfl) ?_
  refine lv_iload_n X.1 X.2.1 dX12_sendsHand_112 rfl (lv_at hl 1 rfl) ?_
  refine lv_bipush (v := 8) X.1 X.2.1 dX12_sendsHand_113 rfl ?_
  refine lv_iload_n X.1 X.2.1 dX12_sendsHand_115 rfl (lv_at hl 2 rfl) ?_
  refine lv_iconst (v := 0) X.1 X.2.1 dX12_sendsHand_116 rfl ?_
  refine lv_iconst (v := (-1)) X.1 X.2.1 dX12_sendsHand_117 rfl ?_
  obtain ⟨r19, S20, h21, h⟩ := cl_some h
  refine x_aftV X hW (x_runV (C := RX12) (a := G.2.2 200 0) (As := [.int v1, .int 8, .int v2, .int 0, .int (-1)]) (rest := []) X hW (c_X12_enqueue l G X.2.2.2.2.2.2.2.2.2.1 _ S v1 8 v2 0 (-1) _ h21) (cwV 5 X.2.2.2.2.1 (gV gw534 gw535 gw536 gw5 gw537) rfl rfl rfl ⟨rfl, hd_X12_enqueue⟩ ⟨Nat.le_of_ble_eq_true rfl, Nat.le_of_ble_eq_true rfl⟩) (x_recv X hW ob_Model z_1) rfl hl.1 rfl (Nat.le_of_ble_eq_true rfl) dX12_sendsHand_118 ⟨Nat.zero_le _, Nat.zero_le _⟩) (fun H locs hW => ?_)
  exact x_vret X hW h dX12_sendsHand_121
set_option maxRecDepth 100000 in
set_option maxHeartbeats 4000000 in
theorem w_X12_sendsHand_87 {p : Program} {l : Launch} {e : Env} {s : State} {m : MethodId} {args : Array Value} {below : List Frame} {meth : Method} {c : Code} {G : xG} {sz : Nat} {o : Unit × Mm} (X : xC G true sz p s m args c cX12_sendsHand 7 wsX12_sendsHand RX12 meth none) (v1 : Int32) (v2 : Int32)   : ∀ (n : Nat) (v6 : Int32) (S : Mm) (H : Heap) (locs : List Loc) (ls : Array Slot), L_X12_sendsHand_87 v1 v2 n v6 S = some o → xW G true sz s H locs S → lv_has ls 7 [(0, .ref (G.2.2 200 0)), (1, .int v1), (2, .int v2), (6, .int v6)] → wX p l e rmX12_sendsHand s m args below meth c H locs (xQv G true sz o) (XA G true sz) 87 ls [] := by
  intro n
  induction n with
  | zero =>
    intro v6 S H locs ls h
    cases h
  | succ n ih =>
    intro v6 S H locs ls h hW  hl
    rw [L_X12_sendsHand_87] at h
    refine lv_iload X.1 X.2.1 dX12_sendsHand_87 (lv_at hl 3 rfl) ?_
    refine lv_bipush (v := 16) X.1 X.2.1 dX12_sendsHand_89 rfl ?_
    refine x_icmp_ge X (tgt := 111) dX12_sendsHand_91 (by decide) h (fun h => ?_) (fun h => ?_)
    · exact w_X12_sendsHand_111 X v1 v2   hW (lv_sub hl [0, 1, 2] rfl) h
    · refine lv_aload_n X.1 X.2.1 dX12_sendsHand_94 rfl (lv_at hl 0 rfl) ?_
      refine lv_aload_n X.1 X.2.1 dX12_sendsHand_95 rfl (lv_at hl 0 rfl) ?_
      refine x_getR X hW fd_Model_digest (fun w h => List.mem_cons_of_mem _ (gin_X12 w h)) (List.mem_cons_of_mem _ gw154) z_1 dX12_sendsHand_96 ?_
      refine lv_iload X.1 X.2.1 dX12_sendsHand_99 (lv_at hl 3 rfl) ?_
      refine x_iald X hW ar_204 dX12_sendsHand_101 h (fun x15 h => ?_)
      obtain ⟨r16, S17, h18, h⟩ := cl_some h
      refine x_aftV X hW (x_runV (C := RX12) (a := G.2.2 200 0) (As := [.int x15]) (rest := []) X hW (c_X12_add l G X.2.2.2.2.2.2.2.2.2.1 _ S x15 _ h18) (cwV 1 X.2.2.2.2.1 (gV gw530 gw531 gw532 gw5 gw533) rfl rfl rfl ⟨rfl, hd_X12_add⟩ ⟨Nat.le_of_ble_eq_true rfl, Nat.le_of_ble_eq_true rfl⟩) (x_recv X hW ob_Model z_1) rfl hl.1 rfl (Nat.le_of_ble_eq_true rfl) dX12_sendsHand_102 ⟨Nat.zero_le _, Nat.zero_le _⟩) (fun H locs hW => ?_)
      refine lv_iinc (v := (v6 + 1)) (lv' := [(6, .int (v6 + 1)), (0, .ref (G.2.2 200 0)), (1, .int v1), (2, .int v2)]) X.1 X.2.1 dX12_sendsHand_105 hl (k := 3) rfl rfl (by decide) rfl (fun ls hl => ?_)
      refine lv_goto (tgt := 87) X.1 X.2.1 dX12_sendsHand_108 (by decide) ?_
      exact ih (v6 + 1) S17 _ _ _ h hW  (lv_sub hl [1, 2, 3, 0] rfl)
set_option maxRecDepth 100000 in
set_option maxHeartbeats 4000000 in
theorem w_X12_sendsHand_53 {p : Program} {l : Launch} {e : Env} {s : State} {m : MethodId} {args : Array Value} {below : List Frame} {meth : Method} {c : Code} {G : xG} {sz : Nat} {o : Unit × Mm} (X : xC G true sz p s m args c cX12_sendsHand 7 wsX12_sendsHand RX12 meth none) (v1 : Int32) (v2 : Int32) (v3 : Int32) (v5 : Int32)   {S : Mm} {H : Heap} {locs : List Loc} {ls : Array Slot} (hW : xW G true sz s H locs S) (hl : lv_has ls 7 [(0, .ref (G.2.2 200 0)), (1, .int v1), (2, .int v2), (3, .int v3), (5, .int v5)]) (h : L_X12_sendsHand_53  v1 v2 v3 v5 S = some o) : wX p l e rmX12_sendsHand s m args below meth c H locs (xQv G true sz o) (XA G true sz) 53 ls [] := by
  unfold L_X12_sendsHand_53 at h
  refine lv_iload_n X.1 X.2.1 dX12_sendsHand_53 rfl (lv_at hl 3 rfl) ?_
  refine lv_iconst (v := 1) X.1 X.2.1 dX12_sendsHand_54 rfl ?_
  refine x_icmp_le X (tgt := 111) dX12_sendsHand_55 (by decide) h (fun h => ?_) (fun h => ?_)
  · exact w_X12_sendsHand_111 X v1 v2   hW (lv_sub hl [0, 1, 2] rfl) h
  · refine lv_aload_n X.1 X.2.1 dX12_sendsHand_58 rfl (lv_at hl 0 rfl) ?_
    refine lv_aload_n X.1 X.2.1 dX12_sendsHand_59 rfl (lv_at hl 0 rfl) ?_
    refine x_getR X hW fd_Model_tried (fun w h => List.mem_cons_of_mem _ (gin_X12 w h)) (List.mem_cons_of_mem _ gw173) z_1 dX12_sendsHand_60 ?_
    refine lv_bipush (v := 48) X.1 X.2.1 dX12_sendsHand_63 rfl ?_
    refine lv_iload X.1 X.2.1 dX12_sendsHand_65 (lv_at hl 4 rfl) ?_
    refine lv_imul X.1 X.2.1 dX12_sendsHand_67 ?_
    refine lv_aload_n X.1 X.2.1 dX12_sendsHand_68 rfl (lv_at hl 0 rfl) ?_
    refine x_getR X hW fd_Model_message (fun w h => List.mem_cons_of_mem _ (gin_X12 w h)) (List.mem_cons_of_mem _ gw206) z_1 dX12_sendsHand_69 ?_
    refine lv_bipush (v := 8) X.1 X.2.1 dX12_sendsHand_72 rfl ?_
    refine lv_aload_n X.1 X.2.1 dX12_sendsHand_74 rfl (lv_at hl 0 rfl) ?_
    refine x_getI X hW fd_Model_length (fun w h => List.mem_cons_of_mem _ (gin_X12 w h)) (List.mem_cons_of_mem _ gw525) z_1 dX12_sendsHand_75 h (fun x11 h => ?_)
    refine lv_bipush (v := 8) X.1 X.2.1 dX12_sendsHand_78 rfl ?_
    refine lv_isub X.1 X.2.1 dX12_sendsHand_80 ?_
    obtain ⟨r12, S13, h14, h⟩ := cl_some h
    refine x_aftV X hW (x_runV (C := RX12) (a := G.2.2 200 0) (As := [.ref (G.2.2 223 0), .int (48 * v5), .ref (G.2.2 253 0), .int 8, .int (x11 - 8)]) (rest := []) X hW (c_X12_macOf l G X.2.2.2.2.2.2.2.2.2.1 _ S 223 0 (48 * v5) 253 0 8 (x11 - 8) _ h14) (cwV 5 X.2.2.2.2.1 (gV gw1135 gw1136 gw1137 gw5 gw1138) rfl rfl rfl ⟨rfl, hd_X12_macOf⟩ ⟨Nat.le_of_ble_eq_true rfl, Nat.le_of_ble_eq_true rfl⟩) (x_recv X hW ob_Model z_1) rfl hl.1 rfl (Nat.le_of_ble_eq_true rfl) dX12_sendsHand_81 ⟨Nat.zero_le _, Nat.zero_le _⟩) (fun H locs hW => ?_)
    refine lv_iconst (v := 0) X.1 X.2.1 dX12_sendsHand_84 rfl ?_
    refine lv_istore (lv' := [(6, .int 0), (0, .ref (G.2.2 200 0)), (1, .int v1), (2, .int v2), (3, .int v3), (5, .int v5)]) X.1 X.2.1 dX12_sendsHand_85 hl (by decide) rfl (fun ls hl => ?_)
    exact w_X12_sendsHand_87 X v1 v2   fu 0 S13 _ _ _ h hW  (lv_sub hl [1, 2, 3, 0] rfl)
set_option maxRecDepth 100000 in
set_option maxHeartbeats 4000000 in
theorem w_X12_sendsHand_18 {p : Program} {l : Launch} {e : Env} {s : State} {m : MethodId} {args : Array Value} {below : List Frame} {meth : Method} {c : Code} {G : xG} {sz : Nat} {o : Unit × Mm} (X : xC G true sz p s m args c cX12_sendsHand 7 wsX12_sendsHand RX12 meth none) (v1 : Int32) (v2 : Int32) (v3 : Int32) (v4 : Int32) (v5 : Int32)   : ∀ (n : Nat) (v6 : Int32) (S : Mm) (H : Heap) (locs : List Loc) (ls : Array Slot), L_X12_sendsHand_18 v1 v2 v3 v4 v5 n v6 S = some o → xW G true sz s H locs S → lv_has ls 7 [(0, .ref (G.2.2 200 0)), (1, .int v1), (2, .int v2), (3, .int v3), (4, .int v4), (5, .int v5), (6, .int v6)] → wX p l e rmX12_sendsHand s m args below meth c H locs (xQv G true sz o) (XA G true sz) 18 ls [] := by
  intro n
  induction n with
  | zero =>
    intro v6 S H locs ls h
    cases h
  | succ n ih =>
    intro v6 S H locs ls h hW  hl
    rw [L_X12_sendsHand_18] at h
    refine lv_iload X.1 X.2.1 dX12_sendsHand_18 (lv_at hl 6 rfl) ?_
    refine lv_bipush (v := 32) X.1 X.2.1 dX12_sendsHand_20 rfl ?_
    refine x_icmp_ge X (tgt := 53) dX12_sendsHand_22 (by decide) h (fun h => ?_) (fun h => ?_)
    · exact w_X12_sendsHand_53 X v1 v2 v3 v5   hW (lv_sub hl [0, 1, 2, 3, 5] rfl) h
    · refine lv_iload X.1 X.2.1 dX12_sendsHand_25 (lv_at hl 4 rfl) ?_
      refine x_if_lt X (tgt := 53) dX12_sendsHand_27 (by decide) h (fun h => ?_) (fun h => ?_)
      · exact w_X12_sendsHand_53 X v1 v2 v3 v5   hW (lv_sub hl [0, 1, 2, 3, 5] rfl) h
      · refine lv_aload_n X.1 X.2.1 dX12_sendsHand_30 rfl (lv_at hl 0 rfl) ?_
        refine lv_aload_n X.1 X.2.1 dX12_sendsHand_31 rfl (lv_at hl 0 rfl) ?_
        refine x_getR X hW fd_Model_nonces (fun w h => List.mem_cons_of_mem _ (gin_X12 w h)) (List.mem_cons_of_mem _ gw167) z_1 dX12_sendsHand_32 ?_
        refine lv_bipush (v := 32) X.1 X.2.1 dX12_sendsHand_35 rfl ?_
        refine lv_iload X.1 X.2.1 dX12_sendsHand_37 (lv_at hl 4 rfl) ?_
        refine lv_imul X.1 X.2.1 dX12_sendsHand_39 ?_
        refine lv_iload X.1 X.2.1 dX12_sendsHand_40 (lv_at hl 6 rfl) ?_
        refine lv_iadd X.1 X.2.1 dX12_sendsHand_42 ?_
        refine x_iald X hW ar_217 dX12_sendsHand_43 h (fun x7 h => ?_)
        obtain ⟨r8, S9, h10, h⟩ := cl_some h
        refine x_aftV X hW (x_runV (C := RX12) (a := G.2.2 200 0) (As := [.int x7]) (rest := []) X hW (c_X12_add l G X.2.2.2.2.2.2.2.2.2.1 _ S x7 _ h10) (cwV 1 X.2.2.2.2.1 (gV gw530 gw531 gw532 gw5 gw533) rfl rfl rfl ⟨rfl, hd_X12_add⟩ ⟨Nat.le_of_ble_eq_true rfl, Nat.le_of_ble_eq_true rfl⟩) (x_recv X hW ob_Model z_1) rfl hl.1 rfl (Nat.le_of_ble_eq_true rfl) dX12_sendsHand_44 ⟨Nat.zero_le _, Nat.zero_le _⟩) (fun H locs hW => ?_)
        refine lv_iinc (v := (v6 + 1)) (lv' := [(6, .int (v6 + 1)), (0, .ref (G.2.2 200 0)), (1, .int v1), (2, .int v2), (3, .int v3), (4, .int v4), (5, .int v5)]) X.1 X.2.1 dX12_sendsHand_47 hl (k := 6) rfl rfl (by decide) rfl (fun ls hl => ?_)
        refine lv_goto (tgt := 18) X.1 X.2.1 dX12_sendsHand_50 (by decide) ?_
        exact ih (v6 + 1) S9 _ _ _ h hW  (lv_sub hl [1, 2, 3, 4, 5, 6, 0] rfl)
set_option maxRecDepth 100000 in
set_option maxHeartbeats 4000000 in
theorem w_X12_sendsHand_0 {p : Program} {l : Launch} {e : Env} {s : State} {m : MethodId} {args : Array Value} {below : List Frame} {meth : Method} {c : Code} {G : xG} {sz : Nat} {o : Unit × Mm} (X : xC G true sz p s m args c cX12_sendsHand 7 wsX12_sendsHand RX12 meth none) (v1 : Int32) (v2 : Int32) (v3 : Int32) (v4 : Int32) (v5 : Int32) {S : Mm} {H : Heap} {locs : List Loc} {ls : Array Slot} (hW : xW G true sz s H locs S) (hl : lv_has ls 7 [(0, .ref (G.2.2 200 0)), (1, .int v1), (2, .int v2), (3, .int v3), (4, .int v4), (5, .int v5)]) (h : F_X12_sendsHand v1 v2 v3 v4 v5 S = some o) : wX p l e rmX12_sendsHand s m args below meth c H locs (xQv G true sz o) (XA G true sz) 0 ls [] := by
  unfold F_X12_sendsHand at h
  refine lv_aload_n X.1 X.2.1 dX12_sendsHand_0 rfl (lv_at hl 0 rfl) ?_
  refine lv_sipush (v := 136) X.1 X.2.1 dX12_sendsHand_1 rfl ?_
  refine lv_sipush (v := 142) X.1 X.2.1 dX12_sendsHand_4 rfl ?_
  obtain ⟨r1, S2, h3, h⟩ := cl_some h
  refine x_aftV X hW (x_runV (C := RX12) (a := G.2.2 200 0) (As := [.int 136, .int 142]) (rest := []) X hW (c_X12_beginsMessage l G X.2.2.2.2.2.2.2.2.2.1 _ S 136 142 _ h3) (cwV 2 X.2.2.2.2.1 (gV gw586 gw587 gw588 gw5 gw589) rfl rfl rfl ⟨rfl, hd_X12_beginsMessage⟩ ⟨Nat.le_of_ble_eq_true rfl, Nat.le_of_ble_eq_true rfl⟩) (x_recv X hW ob_Model z_1) rfl hl.1 rfl (Nat.le_of_ble_eq_true rfl) dX12_sendsHand_7 ⟨Nat.zero_le _, Nat.zero_le _⟩) (fun H locs hW => ?_)
  refine lv_aload_n X.1 X.2.1 dX12_sendsHand_10 rfl (lv_at hl 0 rfl) ?_
  refine lv_iload_n X.1 X.2.1 dX12_sendsHand_11 rfl (lv_at hl 3 rfl) ?_
  obtain ⟨r4, S5, h6, h⟩ := cl_some h
  refine x_aftV X hW (x_runV (C := RX12) (a := G.2.2 200 0) (As := [.int v3]) (rest := []) X hW (c_X12_add l G X.2.2.2.2.2.2.2.2.2.1 _ S2 v3 _ h6) (cwV 1 X.2.2.2.2.1 (gV gw530 gw531 gw532 gw5 gw533) rfl rfl rfl ⟨rfl, hd_X12_add⟩ ⟨Nat.le_of_ble_eq_true rfl, Nat.le_of_ble_eq_true rfl⟩) (x_recv X hW ob_Model z_1) rfl hl.1 rfl (Nat.le_of_ble_eq_true rfl) dX12_sendsHand_12 ⟨Nat.zero_le _, Nat.zero_le _⟩) (fun H locs hW => ?_)
  refine lv_iconst (v := 0) X.1 X.2.1 dX12_sendsHand_15 rfl ?_
  refine lv_istore (lv' := [(6, .int 0), (0, .ref (G.2.2 200 0)), (1, .int v1), (2, .int v2), (3, .int v3), (4, .int v4), (5, .int v5)]) X.1 X.2.1 dX12_sendsHand_16 hl (by decide) rfl (fun ls hl => ?_)
  exact w_X12_sendsHand_18 X v1 v2 v3 v4 v5   fu 0 S5 _ _ _ h hW  (lv_sub hl [1, 2, 3, 4, 5, 6, 0] rfl)
theorem c_X12_sendsHand (l : Launch) (G : xG) (hD : xD G true) (sz : Nat) (S : Mm) (v1 : Int32) (v2 : Int32) (v3 : Int32) (v4 : Int32) (v5 : Int32) (o : Unit × Mm) (h : F_X12_sendsHand v1 v2 v3 v4 v5 S = some o) : Met l yX12_sendsHand wsX12_sendsHand rmX12_sendsHand (xPre G true S sz [.ref (G.2.2 200 0), .int v1, .int v2, .int v3, .int v4, .int v5]) (xQv G true sz o) 0 0 (XA G true sz) :=
  x_start hD (by decide) rfl (Nat.le_of_ble_eq_true rfl) (fun p e s m below meth c X hW ls hl => w_X12_sendsHand_0 X v1 v2 v3 v4 v5 hW hl h)

/-! WirelessCellModel.asks(I)V -/
def rmX12_asks : Room := { frames := 6, cells := 0, slots := 0, locals := 147 }
def F_X12_asks (v1 : Int32) (S : Mm) : Option (Unit × Mm) :=
  ldA S 219 0 9 1 v1 fun x1 =>
  if 2 ≤ x1 then (
  stA S 219 0 9 1 v1 3 fun S2 =>
  cl (F_X12_unkey (9 + v1) S2) fun r3 S4 =>
  pf S4 297 0 0 fun S6 =>
  cl (F_X12_add 1 S6) fun r7 S8 =>
  cl (F_X12_add 0 S8) fun r10 S11 =>
  cl (F_X12_add 0 S11) fun r13 S14 =>
  cl (F_X12_add 0 S14) fun r16 S17 =>
  cl (F_X12_add v1 S17) fun r19 S20 =>
  cl (F_X12_add 192 S20) fun r22 S23 =>
  cl (F_X12_enqueue 0 16 v1 0 (-1) S23) fun r25 S26 =>
  cl (F_X12_sendsHand 0 v1 1 0 (9 + v1) S26) fun r28 S29 =>
  some ((), S29))
  else (
  cl (F_X12_sendsEnd 0 v1 6 S) fun r31 S32 =>
  some ((), S32))
set_option maxRecDepth 100000 in
set_option maxHeartbeats 4000000 in
theorem w_X12_asks_0 {p : Program} {l : Launch} {e : Env} {s : State} {m : MethodId} {args : Array Value} {below : List Frame} {meth : Method} {c : Code} {G : xG} {sz : Nat} {o : Unit × Mm} (X : xC G true sz p s m args c cX12_asks 2 wsX12_asks RX12 meth none) (v1 : Int32) {S : Mm} {H : Heap} {locs : List Loc} {ls : Array Slot} (hW : xW G true sz s H locs S) (hl : lv_has ls 2 [(0, .ref (G.2.2 200 0)), (1, .int v1)]) (h : F_X12_asks v1 S = some o) : wX p l e rmX12_asks s m args below meth c H locs (xQv G true sz o) (XA G true sz) 0 ls [] := by
  unfold F_X12_asks at h
  refine lv_aload_n X.1 X.2.1 dX12_asks_0 rfl (lv_at hl 0 rfl) ?_
  refine x_getR X hW fd_Model_asState (fun w h => List.mem_cons_of_mem _ (gin_X12 w h)) (List.mem_cons_of_mem _ gw169) z_1 dX12_asks_1 ?_
  refine lv_iload_n X.1 X.2.1 dX12_asks_4 rfl (lv_at hl 1 rfl) ?_
  refine x_iald X hW ar_219 dX12_asks_5 h (fun x1 h => ?_)
  refine lv_iconst (v := 2) X.1 X.2.1 dX12_asks_6 rfl ?_
  refine x_icmp_ge X (tgt := 19) dX12_asks_7 (by decide) h (fun h => ?_) (fun h => ?_)
  · refine lv_aload_n X.1 X.2.1 dX12_asks_19 rfl (lv_at hl 0 rfl) ?_
    refine x_getR X hW fd_Model_asState (fun w h => List.mem_cons_of_mem _ (gin_X12 w h)) (List.mem_cons_of_mem _ gw169) z_1 dX12_asks_20 ?_
    refine lv_iload_n X.1 X.2.1 dX12_asks_23 rfl (lv_at hl 1 rfl) ?_
    refine lv_iconst (v := 3) X.1 X.2.1 dX12_asks_24 rfl ?_
    refine x_iast X hW ar_219 dX12_asks_25 h (fun S2 H locs h hW => ?_)
    refine lv_aload_n X.1 X.2.1 dX12_asks_26 rfl (lv_at hl 0 rfl) ?_
    refine lv_bipush (v := 9) X.1 X.2.1 dX12_asks_27 rfl ?_
    refine lv_iload_n X.1 X.2.1 dX12_asks_29 rfl (lv_at hl 1 rfl) ?_
    refine lv_iadd X.1 X.2.1 dX12_asks_30 ?_
    obtain ⟨r3, S4, h5, h⟩ := cl_some h
    refine x_aftV X hW (x_runV (C := RX12) (a := G.2.2 200 0) (As := [.int (9 + v1)]) (rest := []) X hW (c_X12_unkey l G X.2.2.2.2.2.2.2.2.2.1 _ S2 (9 + v1) _ h5) (cwV 1 X.2.2.2.2.1 (gV gw526 gw527 gw528 gw5 gw529) rfl rfl rfl ⟨rfl, hd_X12_unkey⟩ ⟨Nat.le_of_ble_eq_true rfl, Nat.le_of_ble_eq_true rfl⟩) (x_recv X hW ob_Model z_1) rfl hl.1 rfl (Nat.le_of_ble_eq_true rfl) dX12_asks_31 ⟨Nat.zero_le _, Nat.zero_le _⟩) (fun H locs hW => ?_)
    refine lv_aload_n X.1 X.2.1 dX12_asks_34 rfl (lv_at hl 0 rfl) ?_
    refine lv_iconst (v := 0) X.1 X.2.1 dX12_asks_35 rfl ?_
    refine x_putI X hW fd_Model_length (fun w h => List.mem_cons_of_mem _ (gin_X12 w h)) (List.mem_cons_of_mem _ gw525) z_1 dX12_asks_36 tyX12 tyX12_ok nmX12 rfl rfl rfl h (fun S6 H locs h hW => ?_)
    refine lv_aload_n X.1 X.2.1 dX12_asks_39 rfl (lv_at hl 0 rfl) ?_
    refine lv_iconst (v := 1) X.1 X.2.1 dX12_asks_40 rfl ?_
    obtain ⟨r7, S8, h9, h⟩ := cl_some h
    refine x_aftV X hW (x_runV (C := RX12) (a := G.2.2 200 0) (As := [.int 1]) (rest := []) X hW (c_X12_add l G X.2.2.2.2.2.2.2.2.2.1 _ S6 1 _ h9) (cwV 1 X.2.2.2.2.1 (gV gw530 gw531 gw532 gw5 gw533) rfl rfl rfl ⟨rfl, hd_X12_add⟩ ⟨Nat.le_of_ble_eq_true rfl, Nat.le_of_ble_eq_true rfl⟩) (x_recv X hW ob_Model z_1) rfl hl.1 rfl (Nat.le_of_ble_eq_true rfl) dX12_asks_41 ⟨Nat.zero_le _, Nat.zero_le _⟩) (fun H locs hW => ?_)
    refine lv_aload_n X.1 X.2.1 dX12_asks_44 rfl (lv_at hl 0 rfl) ?_
    refine lv_iconst (v := 0) X.1 X.2.1 dX12_asks_45 rfl ?_
    obtain ⟨r10, S11, h12, h⟩ := cl_some h
    refine x_aftV X hW (x_runV (C := RX12) (a := G.2.2 200 0) (As := [.int 0]) (rest := []) X hW (c_X12_add l G X.2.2.2.2.2.2.2.2.2.1 _ S8 0 _ h12) (cwV 1 X.2.2.2.2.1 (gV gw530 gw531 gw532 gw5 gw533) rfl rfl rfl ⟨rfl, hd_X12_add⟩ ⟨Nat.le_of_ble_eq_true rfl, Nat.le_of_ble_eq_true rfl⟩) (x_recv X hW ob_Model z_1) rfl hl.1 rfl (Nat.le_of_ble_eq_true rfl) dX12_asks_46 ⟨Nat.zero_le _, Nat.zero_le _⟩) (fun H locs hW => ?_)
    refine lv_aload_n X.1 X.2.1 dX12_asks_49 rfl (lv_at hl 0 rfl) ?_
    refine lv_iconst (v := 0) X.1 X.2.1 dX12_asks_50 rfl ?_
    obtain ⟨r13, S14, h15, h⟩ := cl_some h
    refine x_aftV X hW (x_runV (C := RX12) (a := G.2.2 200 0) (As := [.int 0]) (rest := []) X hW (c_X12_add l G X.2.2.2.2.2.2.2.2.2.1 _ S11 0 _ h15) (cwV 1 X.2.2.2.2.1 (gV gw530 gw531 gw532 gw5 gw533) rfl rfl rfl ⟨rfl, hd_X12_add⟩ ⟨Nat.le_of_ble_eq_true rfl, Nat.le_of_ble_eq_true rfl⟩) (x_recv X hW ob_Model z_1) rfl hl.1 rfl (Nat.le_of_ble_eq_true rfl) dX12_asks_51 ⟨Nat.zero_le _, Nat.zero_le _⟩) (fun H locs hW => ?_)
    refine lv_aload_n X.1 X.2.1 dX12_asks_54 rfl (lv_at hl 0 rfl) ?_
    refine lv_iconst (v := 0) X.1 X.2.1 dX12_asks_55 rfl ?_
    obtain ⟨r16, S17, h18, h⟩ := cl_some h
    refine x_aftV X hW (x_runV (C := RX12) (a := G.2.2 200 0) (As := [.int 0]) (rest := []) X hW (c_X12_add l G X.2.2.2.2.2.2.2.2.2.1 _ S14 0 _ h18) (cwV 1 X.2.2.2.2.1 (gV gw530 gw531 gw532 gw5 gw533) rfl rfl rfl ⟨rfl, hd_X12_add⟩ ⟨Nat.le_of_ble_eq_true rfl, Nat.le_of_ble_eq_true rfl⟩) (x_recv X hW ob_Model z_1) rfl hl.1 rfl (Nat.le_of_ble_eq_true rfl) dX12_asks_56 ⟨Nat.zero_le _, Nat.zero_le _⟩) (fun H locs hW => ?_)
    refine lv_aload_n X.1 X.2.1 dX12_asks_59 rfl (lv_at hl 0 rfl) ?_
    refine lv_iload_n X.1 X.2.1 dX12_asks_60 rfl (lv_at hl 1 rfl) ?_
    obtain ⟨r19, S20, h21, h⟩ := cl_some h
    refine x_aftV X hW (x_runV (C := RX12) (a := G.2.2 200 0) (As := [.int v1]) (rest := []) X hW (c_X12_add l G X.2.2.2.2.2.2.2.2.2.1 _ S17 v1 _ h21) (cwV 1 X.2.2.2.2.1 (gV gw530 gw531 gw532 gw5 gw533) rfl rfl rfl ⟨rfl, hd_X12_add⟩ ⟨Nat.le_of_ble_eq_true rfl, Nat.le_of_ble_eq_true rfl⟩) (x_recv X hW ob_Model z_1) rfl hl.1 rfl (Nat.le_of_ble_eq_true rfl) dX12_asks_61 ⟨Nat.zero_le _, Nat.zero_le _⟩) (fun H locs hW => ?_)
    refine lv_aload_n X.1 X.2.1 dX12_asks_64 rfl (lv_at hl 0 rfl) ?_
    refine lv_sipush (v := 192) X.1 X.2.1 dX12_asks_65 rfl ?_
    obtain ⟨r22, S23, h24, h⟩ := cl_some h
    refine x_aftV X hW (x_runV (C := RX12) (a := G.2.2 200 0) (As := [.int 192]) (rest := []) X hW (c_X12_add l G X.2.2.2.2.2.2.2.2.2.1 _ S20 192 _ h24) (cwV 1 X.2.2.2.2.1 (gV gw530 gw531 gw532 gw5 gw533) rfl rfl rfl ⟨rfl, hd_X12_add⟩ ⟨Nat.le_of_ble_eq_true rfl, Nat.le_of_ble_eq_true rfl⟩) (x_recv X hW ob_Model z_1) rfl hl.1 rfl (Nat.le_of_ble_eq_true rfl) dX12_asks_68 ⟨Nat.zero_le _, Nat.zero_le _⟩) (fun H locs hW => ?_)
    refine lv_aload_n X.1 X.2.1 dX12_asks_71 rfl (lv_at hl 0 rfl) ?_
    refine lv_iconst (v := 0) X.1 X.2.1 dX12_asks_72 rfl ?_
    refine lv_bipush (v := 16) X.1 X.2.1 dX12_asks_73 rfl ?_
    refine lv_iload_n X.1 X.2.1 dX12_asks_75 rfl (lv_at hl 1 rfl) ?_
    refine lv_iconst (v := 0) X.1 X.2.1 dX12_asks_76 rfl ?_
    refine lv_iconst (v := (-1)) X.1 X.2.1 dX12_asks_77 rfl ?_
    obtain ⟨r25, S26, h27, h⟩ := cl_some h
    refine x_aftV X hW (x_runV (C := RX12) (a := G.2.2 200 0) (As := [.int 0, .int 16, .int v1, .int 0, .int (-1)]) (rest := []) X hW (c_X12_enqueue l G X.2.2.2.2.2.2.2.2.2.1 _ S23 0 16 v1 0 (-1) _ h27) (cwV 5 X.2.2.2.2.1 (gV gw534 gw535 gw536 gw5 gw537) rfl rfl rfl ⟨rfl, hd_X12_enqueue⟩ ⟨Nat.le_of_ble_eq_true rfl, Nat.le_of_ble_eq_true rfl⟩) (x_recv X hW ob_Model z_1) rfl hl.1 rfl (Nat.le_of_ble_eq_true rfl) dX12_asks_78 ⟨Nat.zero_le _, Nat.zero_le _⟩) (fun H locs hW => ?_)
    refine lv_aload_n X.1 X.2.1 dX12_asks_81 rfl (lv_at hl 0 rfl) ?_
    refine lv_iconst (v := 0) X.1 X.2.1 dX12_asks_82 rfl ?_
    refine lv_iload_n X.1 X.2.1 dX12_asks_83 rfl (lv_at hl 1 rfl) ?_
    refine lv_iconst (v := 1) X.1 X.2.1 dX12_asks_84 rfl ?_
    refine lv_iconst (v := 0) X.1 X.2.1 dX12_asks_85 rfl ?_
    refine lv_bipush (v := 9) X.1 X.2.1 dX12_asks_86 rfl ?_
    refine lv_iload_n X.1 X.2.1 dX12_asks_88 rfl (lv_at hl 1 rfl) ?_
    refine lv_iadd X.1 X.2.1 dX12_asks_89 ?_
    obtain ⟨r28, S29, h30, h⟩ := cl_some h
    refine x_aftV X hW (x_runV (C := RX12) (a := G.2.2 200 0) (As := [.int 0, .int v1, .int 1, .int 0, .int (9 + v1)]) (rest := []) X hW (c_X12_sendsHand l G X.2.2.2.2.2.2.2.2.2.1 _ S26 0 v1 1 0 (9 + v1) _ h30) (cwV 5 X.2.2.2.2.1 (gV gw1131 gw1132 gw1133 gw5 gw1134) rfl rfl rfl ⟨rfl, hd_X12_sendsHand⟩ ⟨Nat.le_of_ble_eq_true rfl, Nat.le_of_ble_eq_true rfl⟩) (x_recv X hW ob_Model z_1) rfl hl.1 rfl (Nat.le_of_ble_eq_true rfl) dX12_asks_90 ⟨Nat.zero_le _, Nat.zero_le _⟩) (fun H locs hW => ?_)
    exact x_vret X hW h dX12_asks_93
  · refine lv_aload_n X.1 X.2.1 dX12_asks_10 rfl (lv_at hl 0 rfl) ?_
    refine lv_iconst (v := 0) X.1 X.2.1 dX12_asks_11 rfl ?_
    refine lv_iload_n X.1 X.2.1 dX12_asks_12 rfl (lv_at hl 1 rfl) ?_
    refine lv_bipush (v := 6) X.1 X.2.1 dX12_asks_13 rfl ?_
    obtain ⟨r31, S32, h33, h⟩ := cl_some h
    refine x_aftV X hW (x_runV (C := RX12) (a := G.2.2 200 0) (As := [.int 0, .int v1, .int 6]) (rest := []) X hW (c_X12_sendsEnd l G X.2.2.2.2.2.2.2.2.2.1 _ S 0 v1 6 _ h33) (cwV 3 X.2.2.2.2.1 (gV gw558 gw559 gw560 gw5 gw561) rfl rfl rfl ⟨rfl, hd_X12_sendsEnd⟩ ⟨Nat.le_of_ble_eq_true rfl, Nat.le_of_ble_eq_true rfl⟩) (x_recv X hW ob_Model z_1) rfl hl.1 rfl (Nat.le_of_ble_eq_true rfl) dX12_asks_15 ⟨Nat.zero_le _, Nat.zero_le _⟩) (fun H locs hW => ?_)
    exact x_vret X hW h dX12_asks_18
theorem c_X12_asks (l : Launch) (G : xG) (hD : xD G true) (sz : Nat) (S : Mm) (v1 : Int32) (o : Unit × Mm) (h : F_X12_asks v1 S = some o) : Met l yX12_asks wsX12_asks rmX12_asks (xPre G true S sz [.ref (G.2.2 200 0), .int v1]) (xQv G true sz o) 0 0 (XA G true sz) :=
  x_start hD (by decide) rfl (Nat.le_of_ble_eq_true rfl) (fun p e s m below meth c X hW ls hl => w_X12_asks_0 X v1 hW hl h)

/-! WirelessCellModel.isRight(I)Z -/
def rmX12_isRight : Room := { frames := 4, cells := 0, slots := 0, locals := 96 }
def L_X12_isRight_37   (S : Mm) : Option (Int32 × Mm) :=
  some (0, S)
def L_X12_isRight_76 (k44 : Int64 → Int32 → Mm → Option (Int32 × Mm)) (v1 : Int32) (v2 : Int32) (v5 : Int32) (s0 : Int64) (s2 : Int32) (S : Mm) : Option (Int32 × Mm) :=
  ldA S 278 0 300 1 s2 fun x18 =>
  tp (s0 ||| (Int32.toInt64 x18)) fun x19 =>
  k44 x19 (v5 + (-1)) S
def L_X12_isRight_197 (k158 : Int32 → Int32 → Mm → Option (Int32 × Mm)) (v1 : Int32) (v2 : Int32) (v3 : Int64) (v6 : Int32) (s0 : Int32) (S : Mm) : Option (Int32 × Mm) :=
  k158 s0 (v6 + 1) S
def L_X12_isRight_225  (v5 : Int32) (s1 : Int32) (s2 : Int64) (S : Mm) : Option (Int32 × Mm) :=
  stL S 226 0 18 1 s1 s2 fun S23 =>
  gd (v5 &&& 1 = v5) (some (v5, S23))
def L_X12_isRight_196 (k158 : Int32 → Int32 → Mm → Option (Int32 × Mm)) (v1 : Int32) (v2 : Int32) (v3 : Int64) (v6 : Int32) (S : Mm) : Option (Int32 × Mm) :=
  L_X12_isRight_197 k158 v1 v2 v3 v6 0 S
def L_X12_isRight_158  (v1 : Int32) (v2 : Int32) (v3 : Int64) : Nat → Int32 → Int32 → Mm → Option (Int32 × Mm)
  | 0, _, _, _ => none
  | n + 1, v5, v6, S => 
    if 8 ≤ v6 then (
    if v5 = 0 then (
    ldL S 226 0 18 1 v1 fun x20 =>
    L_X12_isRight_225  v5 v1 x20 S)
    else (
    L_X12_isRight_225  v5 v1 v3 S))
    else (
    if v5 = 0 then (
    L_X12_isRight_196 (L_X12_isRight_158 v1 v2 v3 n) v1 v2 v3 v6 S)
    else (
    ldA S 214 0 8 1 v6 fun x21 =>
    ldA S 278 0 300 1 ((32 + v2) + v6) fun x22 =>
    if x21 = x22 then (
    L_X12_isRight_197 (L_X12_isRight_158 v1 v2 v3 n) v1 v2 v3 v6 1 S)
    else (
    L_X12_isRight_196 (L_X12_isRight_158 v1 v2 v3 n) v1 v2 v3 v6 S)))
def L_X12_isRight_44  (v1 : Int32) (v2 : Int32) : Nat → Int64 → Int32 → Mm → Option (Int32 × Mm)
  | 0, _, _, _ => none
  | n + 1, v3, v5, S => 
    if v5 < 0 then (
    ldL S 226 0 18 1 v1 fun x5 =>
    if 0 < (lg_cmp v3 x5) then (
    cl (F_X12_expand 221 0 (16 * v1) S) fun r6 S7 =>
    cl (F_X12_nonceOf 278 0 0 v3 S7) fun r9 S10 =>
    cl (F_X12_cover 278 0 32 283 0 0 v2 S10) fun r12 S13 =>
    cl (F_X12_findTag 278 0 0 283 0 0 v2 S13) fun r15 S16 =>
    L_X12_isRight_158  v1 v2 v3 fu 1 0 S16)
    else (
    some (0, S)))
    else (
    if 2 ≤ v5 then (
    L_X12_isRight_76 (L_X12_isRight_44 v1 v2 n) v1 v2 v5 (v3 <<< (Int32.toInt64 8 &&& 63)) (26 + v5) S)
    else (
    L_X12_isRight_76 (L_X12_isRight_44 v1 v2 n) v1 v2 v5 (v3 <<< (Int32.toInt64 8 &&& 63)) (24 + v5) S))
def F_X12_isRight (v1 : Int32) (S : Mm) : Option (Int32 × Mm) :=
  gf S 307 0 fun x1 =>
  tp ((x1 - 28) - 16) fun x2 =>
  if x2 < 0 then (
  L_X12_isRight_37  S)
  else (
  ldA S 278 0 300 1 26 fun x3 =>
  if x3 = 0 then (
  ldA S 278 0 300 1 27 fun x4 =>
  if x4 = 32 then (
  L_X12_isRight_44  v1 x2 fu 0 5 S)
  else (
  L_X12_isRight_37  S))
  else (
  L_X12_isRight_37  S))
set_option maxRecDepth 100000 in
set_option maxHeartbeats 4000000 in
theorem w_X12_isRight_37 {p : Program} {l : Launch} {e : Env} {s : State} {m : MethodId} {args : Array Value} {below : List Frame} {meth : Method} {c : Code} {G : xG} {sz : Nat} {o : Int32 × Mm} (X : xC G true sz p s m args c cX12_isRight 7 wsX12_isRight RX12 meth (some .boolean))    {S : Mm} {H : Heap} {locs : List Loc} {ls : Array Slot} (hW : xW G true sz s H locs S) (hl : lv_has ls 7 []) (h : L_X12_isRight_37   S = some o) : wX p l e rmX12_isRight s m args below meth c H locs (xQi G true sz o) (XA G true sz) 37 ls [] := by
  unfold L_X12_isRight_37 at h
  refine lv_iconst (v := 0) X.1 X.2.1 dX12_isRight_37 rfl ?_
  exact x_zret X hW h rfl dX12_isRight_38
set_option maxRecDepth 100000 in
set_option maxHeartbeats 4000000 in
theorem w_X12_isRight_76 {p : Program} {l : Launch} {e : Env} {s : State} {m : MethodId} {args : Array Value} {below : List Frame} {meth : Method} {c : Code} {G : xG} {sz : Nat} {o : Int32 × Mm} (X : xC G true sz p s m args c cX12_isRight 7 wsX12_isRight RX12 meth (some .boolean)) (v1 : Int32) (v2 : Int32) (v5 : Int32) (s0 : Int64) (s2 : Int32)  (k44 : Int64 → Int32 → Mm → Option (Int32 × Mm)) (hk44 : ∀ (v3 : Int64) (v5 : Int32) (S : Mm) (H : Heap) (locs : List Loc) (ls : Array Slot), k44 v3 v5 S = some o → xW G true sz s H locs S → lv_has ls 7 [(0, .ref (G.2.2 200 0)), (1, .int v1), (2, .int v2), (3, .long v3), (5, .int v5)] → wX p l e rmX12_isRight s m args below meth c H locs (xQi G true sz o) (XA G true sz) 44 ls []) {S : Mm} {H : Heap} {locs : List Loc} {ls : Array Slot} (hW : xW G true sz s H locs S) (hl : lv_has ls 7 [(0, .ref (G.2.2 200 0)), (1, .int v1), (2, .int v2), (5, .int v5)]) (h : L_X12_isRight_76 k44 v1 v2 v5 s0 s2 S = some o) : wX p l e rmX12_isRight s m args below meth c H locs (xQi G true sz o) (XA G true sz) 76 ls [.int s2, .ref (G.2.2 278 0), .long s0] := by
  unfold L_X12_isRight_76 at h
  refine x_iald X hW ar_278 dX12_isRight_76 h (fun x18 h => ?_)
  refine lv_i2l (v := (Int32.toInt64 x18)) X.1 X.2.1 dX12_isRight_77 rfl ?_
  refine lv_lor X.1 X.2.1 dX12_isRight_78 ?_
  refine x_topL h (fun x19 h => ?_)
  refine lv_lstore_n (lv' := [(3, .long x19), (0, .ref (G.2.2 200 0)), (1, .int v1), (2, .int v2), (5, .int v5)]) X.1 X.2.1 dX12_isRight_79 rfl hl (by decide) rfl (fun ls hl => ?_)
  refine lv_iinc (v := (v5 + (-1))) (lv' := [(5, .int (v5 + (-1))), (3, .long x19), (0, .ref (G.2.2 200 0)), (1, .int v1), (2, .int v2)]) X.1 X.2.1 dX12_isRight_80 hl (k := 4) rfl rfl (by decide) rfl (fun ls hl => ?_)
  refine lv_goto (tgt := 44) X.1 X.2.1 dX12_isRight_83 (by decide) ?_
  exact hk44 x19 (v5 + (-1)) S _ _ _ h hW  (lv_sub hl [2, 3, 4, 1, 0] rfl)
set_option maxRecDepth 100000 in
set_option maxHeartbeats 4000000 in
theorem w_X12_isRight_197 {p : Program} {l : Launch} {e : Env} {s : State} {m : MethodId} {args : Array Value} {below : List Frame} {meth : Method} {c : Code} {G : xG} {sz : Nat} {o : Int32 × Mm} (X : xC G true sz p s m args c cX12_isRight 7 wsX12_isRight RX12 meth (some .boolean)) (v1 : Int32) (v2 : Int32) (v3 : Int64) (v6 : Int32) (s0 : Int32)  (k158 : Int32 → Int32 → Mm → Option (Int32 × Mm)) (hk158 : ∀ (v5 : Int32) (v6 : Int32) (S : Mm) (H : Heap) (locs : List Loc) (ls : Array Slot), k158 v5 v6 S = some o → xW G true sz s H locs S → lv_has ls 7 [(0, .ref (G.2.2 200 0)), (1, .int v1), (2, .int v2), (3, .long v3), (5, .int v5), (6, .int v6)] → wX p l e rmX12_isRight s m args below meth c H locs (xQi G true sz o) (XA G true sz) 158 ls []) {S : Mm} {H : Heap} {locs : List Loc} {ls : Array Slot} (hW : xW G true sz s H locs S) (hl : lv_has ls 7 [(0, .ref (G.2.2 200 0)), (1, .int v1), (2, .int v2), (3, .long v3), (6, .int v6)]) (h : L_X12_isRight_197 k158 v1 v2 v3 v6 s0 S = some o) : wX p l e rmX12_isRight s m args below meth c H locs (xQi G true sz o) (XA G true sz) 197 ls [.int s0] := by
  unfold L_X12_isRight_197 at h
  refine lv_istore (lv' := [(5, .int s0), (0, .ref (G.2.2 200 0)), (1, .int v1), (2, .int v2), (3, .long v3), (6, .int v6)]) X.1 X.2.1 dX12_isRight_197 hl (by decide) rfl (fun ls hl => ?_)
  refine lv_iinc (v := (v6 + 1)) (lv' := [(6, .int (v6 + 1)), (5, .int s0), (0, .ref (G.2.2 200 0)), (1, .int v1), (2, .int v2), (3, .long v3)]) X.1 X.2.1 dX12_isRight_199 hl (k := 5) rfl rfl (by decide) rfl (fun ls hl => ?_)
  refine lv_goto (tgt := 158) X.1 X.2.1 dX12_isRight_202 (by decide) ?_
  exact hk158 s0 (v6 + 1) S _ _ _ h hW  (lv_sub hl [2, 3, 4, 5, 1, 0] rfl)
set_option maxRecDepth 100000 in
set_option maxHeartbeats 4000000 in
theorem w_X12_isRight_225 {p : Program} {l : Launch} {e : Env} {s : State} {m : MethodId} {args : Array Value} {below : List Frame} {meth : Method} {c : Code} {G : xG} {sz : Nat} {o : Int32 × Mm} (X : xC G true sz p s m args c cX12_isRight 7 wsX12_isRight RX12 meth (some .boolean)) (v5 : Int32) (s1 : Int32) (s2 : Int64)   {S : Mm} {H : Heap} {locs : List Loc} {ls : Array Slot} (hW : xW G true sz s H locs S) (hl : lv_has ls 7 [(5, .int v5)]) (h : L_X12_isRight_225  v5 s1 s2 S = some o) : wX p l e rmX12_isRight s m args below meth c H locs (xQi G true sz o) (XA G true sz) 225 ls [.long s2, .int s1, .ref (G.2.2 226 0)] := by
  unfold L_X12_isRight_225 at h
  refine x_last X hW ar_226 dX12_isRight_225 h (fun S23 H locs h hW => ?_)
  refine lv_iload X.1 X.2.1 dX12_isRight_226 (lv_at hl 0 rfl) ?_
  obtain ⟨g24, h⟩ := if_some h
  exact x_zret X hW h g24 dX12_isRight_228
set_option maxRecDepth 100000 in
set_option maxHeartbeats 4000000 in
theorem w_X12_isRight_196 {p : Program} {l : Launch} {e : Env} {s : State} {m : MethodId} {args : Array Value} {below : List Frame} {meth : Method} {c : Code} {G : xG} {sz : Nat} {o : Int32 × Mm} (X : xC G true sz p s m args c cX12_isRight 7 wsX12_isRight RX12 meth (some .boolean)) (v1 : Int32) (v2 : Int32) (v3 : Int64) (v6 : Int32)  (k158 : Int32 → Int32 → Mm → Option (Int32 × Mm)) (hk158 : ∀ (v5 : Int32) (v6 : Int32) (S : Mm) (H : Heap) (locs : List Loc) (ls : Array Slot), k158 v5 v6 S = some o → xW G true sz s H locs S → lv_has ls 7 [(0, .ref (G.2.2 200 0)), (1, .int v1), (2, .int v2), (3, .long v3), (5, .int v5), (6, .int v6)] → wX p l e rmX12_isRight s m args below meth c H locs (xQi G true sz o) (XA G true sz) 158 ls []) {S : Mm} {H : Heap} {locs : List Loc} {ls : Array Slot} (hW : xW G true sz s H locs S) (hl : lv_has ls 7 [(0, .ref (G.2.2 200 0)), (1, .int v1), (2, .int v2), (3, .long v3), (6, .int v6)]) (h : L_X12_isRight_196 k158 v1 v2 v3 v6 S = some o) : wX p l e rmX12_isRight s m args below meth c H locs (xQi G true sz o) (XA G true sz) 196 ls [] := by
  unfold L_X12_isRight_196 at h
  refine lv_iconst (v := 0) X.1 X.2.1 dX12_isRight_196 rfl ?_
  exact w_X12_isRight_197 X v1 v2 v3 v6 0  k158 hk158 hW (lv_sub hl [0, 1, 2, 3, 4] rfl) h
set_option maxRecDepth 100000 in
set_option maxHeartbeats 4000000 in
theorem w_X12_isRight_158 {p : Program} {l : Launch} {e : Env} {s : State} {m : MethodId} {args : Array Value} {below : List Frame} {meth : Method} {c : Code} {G : xG} {sz : Nat} {o : Int32 × Mm} (X : xC G true sz p s m args c cX12_isRight 7 wsX12_isRight RX12 meth (some .boolean)) (v1 : Int32) (v2 : Int32) (v3 : Int64)   : ∀ (n : Nat) (v5 : Int32) (v6 : Int32) (S : Mm) (H : Heap) (locs : List Loc) (ls : Array Slot), L_X12_isRight_158 v1 v2 v3 n v5 v6 S = some o → xW G true sz s H locs S → lv_has ls 7 [(0, .ref (G.2.2 200 0)), (1, .int v1), (2, .int v2), (3, .long v3), (5, .int v5), (6, .int v6)] → wX p l e rmX12_isRight s m args below meth c H locs (xQi G true sz o) (XA G true sz) 158 ls [] := by
  intro n
  induction n with
  | zero =>
    intro v5 v6 S H locs ls h
    cases h
  | succ n ih =>
    intro v5 v6 S H locs ls h hW  hl
    rw [L_X12_isRight_158] at h
    refine lv_iload X.1 X.2.1 dX12_isRight_158 (lv_at hl 5 rfl) ?_
    refine lv_bipush (v := 8) X.1 X.2.1 dX12_isRight_160 rfl ?_
    refine x_icmp_ge X (tgt := 205) dX12_isRight_162 (by decide) h (fun h => ?_) (fun h => ?_)
    · refine lv_aload_n X.1 X.2.1 dX12_isRight_205 rfl (lv_at hl 0 rfl) ?_
      refine x_getR X hW fd_Model_pnTaken (fun w h => List.mem_cons_of_mem _ (gin_X12 w h)) (List.mem_cons_of_mem _ gw177) z_1 dX12_isRight_206 ?_
      refine lv_iload_n X.1 X.2.1 dX12_isRight_209 rfl (lv_at hl 1 rfl) ?_
      refine lv_iload X.1 X.2.1 dX12_isRight_210 (lv_at hl 4 rfl) ?_
      refine x_if_eq X (tgt := 219) dX12_isRight_212 (by decide) h (fun h => ?_) (fun h => ?_)
      · refine lv_aload_n X.1 X.2.1 dX12_isRight_219 rfl (lv_at hl 0 rfl) ?_
        refine x_getR X hW fd_Model_pnTaken (fun w h => List.mem_cons_of_mem _ (gin_X12 w h)) (List.mem_cons_of_mem _ gw177) z_1 dX12_isRight_220 ?_
        refine lv_iload_n X.1 X.2.1 dX12_isRight_223 rfl (lv_at hl 1 rfl) ?_
        refine x_lald X hW ar_226 dX12_isRight_224 h (fun x20 h => ?_)
        exact w_X12_isRight_225 X v5 v1 x20   hW (lv_sub hl [4] rfl) h
      · refine lv_lload_n X.1 X.2.1 dX12_isRight_215 rfl (lv_at hl 3 rfl) ?_
        refine lv_goto (tgt := 225) X.1 X.2.1 dX12_isRight_216 (by decide) ?_
        exact w_X12_isRight_225 X v5 v1 v3   hW (lv_sub hl [4] rfl) h
    · refine lv_iload X.1 X.2.1 dX12_isRight_165 (lv_at hl 4 rfl) ?_
      refine x_if_eq X (tgt := 196) dX12_isRight_167 (by decide) h (fun h => ?_) (fun h => ?_)
      · exact w_X12_isRight_196 X v1 v2 v3 v6  (L_X12_isRight_158 v1 v2 v3 n) ih hW (lv_sub hl [0, 1, 2, 3, 5] rfl) h
      · refine lv_aload_n X.1 X.2.1 dX12_isRight_170 rfl (lv_at hl 0 rfl) ?_
        refine x_getR X hW fd_Model_tag (fun w h => List.mem_cons_of_mem _ (gin_X12 w h)) (List.mem_cons_of_mem _ gw164) z_1 dX12_isRight_171 ?_
        refine lv_iload X.1 X.2.1 dX12_isRight_174 (lv_at hl 5 rfl) ?_
        refine x_iald X hW ar_214 dX12_isRight_176 h (fun x21 h => ?_)
        refine lv_aload_n X.1 X.2.1 dX12_isRight_177 rfl (lv_at hl 0 rfl) ?_
        refine x_getR X hW fd_Model_seen (fun w h => List.mem_cons_of_mem _ (gin_X12 w h)) (List.mem_cons_of_mem _ gw233) z_1 dX12_isRight_178 ?_
        refine lv_bipush (v := 32) X.1 X.2.1 dX12_isRight_181 rfl ?_
        refine lv_iload_n X.1 X.2.1 dX12_isRight_183 rfl (lv_at hl 2 rfl) ?_
        refine lv_iadd X.1 X.2.1 dX12_isRight_184 ?_
        refine lv_iload X.1 X.2.1 dX12_isRight_185 (lv_at hl 5 rfl) ?_
        refine lv_iadd X.1 X.2.1 dX12_isRight_187 ?_
        refine x_iald X hW ar_278 dX12_isRight_188 h (fun x22 h => ?_)
        refine x_icmp_ne X (tgt := 196) dX12_isRight_189 (by decide) h (fun h => ?_) (fun h => ?_)
        · exact w_X12_isRight_196 X v1 v2 v3 v6  (L_X12_isRight_158 v1 v2 v3 n) ih hW (lv_sub hl [0, 1, 2, 3, 5] rfl) h
        · refine lv_iconst (v := 1) X.1 X.2.1 dX12_isRight_192 rfl ?_
          refine lv_goto (tgt := 197) X.1 X.2.1 dX12_isRight_193 (by decide) ?_
          exact w_X12_isRight_197 X v1 v2 v3 v6 1  (L_X12_isRight_158 v1 v2 v3 n) ih hW (lv_sub hl [0, 1, 2, 3, 5] rfl) h
set_option maxRecDepth 100000 in
set_option maxHeartbeats 4000000 in
theorem w_X12_isRight_44 {p : Program} {l : Launch} {e : Env} {s : State} {m : MethodId} {args : Array Value} {below : List Frame} {meth : Method} {c : Code} {G : xG} {sz : Nat} {o : Int32 × Mm} (X : xC G true sz p s m args c cX12_isRight 7 wsX12_isRight RX12 meth (some .boolean)) (v1 : Int32) (v2 : Int32)   : ∀ (n : Nat) (v3 : Int64) (v5 : Int32) (S : Mm) (H : Heap) (locs : List Loc) (ls : Array Slot), L_X12_isRight_44 v1 v2 n v3 v5 S = some o → xW G true sz s H locs S → lv_has ls 7 [(0, .ref (G.2.2 200 0)), (1, .int v1), (2, .int v2), (3, .long v3), (5, .int v5)] → wX p l e rmX12_isRight s m args below meth c H locs (xQi G true sz o) (XA G true sz) 44 ls [] := by
  intro n
  induction n with
  | zero =>
    intro v3 v5 S H locs ls h
    cases h
  | succ n ih =>
    intro v3 v5 S H locs ls h hW  hl
    rw [L_X12_isRight_44] at h
    refine lv_iload X.1 X.2.1 dX12_isRight_44 (lv_at hl 4 rfl) ?_
    refine x_if_lt X (tgt := 86) dX12_isRight_46 (by decide) h (fun h => ?_) (fun h => ?_)
    · refine lv_lload_n X.1 X.2.1 dX12_isRight_86 rfl (lv_at hl 3 rfl) ?_
      refine lv_aload_n X.1 X.2.1 dX12_isRight_87 rfl (lv_at hl 0 rfl) ?_
      refine x_getR X hW fd_Model_pnTaken (fun w h => List.mem_cons_of_mem _ (gin_X12 w h)) (List.mem_cons_of_mem _ gw177) z_1 dX12_isRight_88 ?_
      refine lv_iload_n X.1 X.2.1 dX12_isRight_91 rfl (lv_at hl 1 rfl) ?_
      refine x_lald X hW ar_226 dX12_isRight_92 h (fun x5 h => ?_)
      refine W.lcmp X.1 X.2.1 dX12_isRight_93 ?_
      refine x_if_gt X (tgt := 99) dX12_isRight_94 (by decide) h (fun h => ?_) (fun h => ?_)
      · refine lv_aload_n X.1 X.2.1 dX12_isRight_99 rfl (lv_at hl 0 rfl) ?_
        refine lv_aload_n X.1 X.2.1 dX12_isRight_100 rfl (lv_at hl 0 rfl) ?_
        refine x_getR X hW fd_Model_tk (fun w h => List.mem_cons_of_mem _ (gin_X12 w h)) (List.mem_cons_of_mem _ gw171) z_1 dX12_isRight_101 ?_
        refine lv_bipush (v := 16) X.1 X.2.1 dX12_isRight_104 rfl ?_
        refine lv_iload_n X.1 X.2.1 dX12_isRight_106 rfl (lv_at hl 1 rfl) ?_
        refine lv_imul X.1 X.2.1 dX12_isRight_107 ?_
        obtain ⟨r6, S7, h8, h⟩ := cl_some h
        refine x_aftV X hW (x_runV (C := RX12) (a := G.2.2 200 0) (As := [.ref (G.2.2 221 0), .int (16 * v1)]) (rest := []) X hW (c_X12_expand l G X.2.2.2.2.2.2.2.2.2.1 _ S 221 0 (16 * v1) _ h8) (cwV 2 X.2.2.2.2.1 (gV gw1050 gw1051 gw1052 gw5 gw1053) rfl rfl rfl ⟨rfl, hd_X12_expand⟩ ⟨Nat.le_of_ble_eq_true rfl, Nat.le_of_ble_eq_true rfl⟩) (x_recv X hW ob_Model z_1) rfl hl.1 rfl (Nat.le_of_ble_eq_true rfl) dX12_isRight_108 ⟨Nat.zero_le _, Nat.zero_le _⟩) (fun H locs hW => ?_)
        refine lv_aload_n X.1 X.2.1 dX12_isRight_111 rfl (lv_at hl 0 rfl) ?_
        refine lv_aload_n X.1 X.2.1 dX12_isRight_112 rfl (lv_at hl 0 rfl) ?_
        refine x_getR X hW fd_Model_seen (fun w h => List.mem_cons_of_mem _ (gin_X12 w h)) (List.mem_cons_of_mem _ gw233) z_1 dX12_isRight_113 ?_
        refine lv_iconst (v := 0) X.1 X.2.1 dX12_isRight_116 rfl ?_
        refine lv_lload_n X.1 X.2.1 dX12_isRight_117 rfl (lv_at hl 3 rfl) ?_
        obtain ⟨r9, S10, h11, h⟩ := cl_some h
        refine x_aftV X hW (x_runV (C := RX12) (a := G.2.2 200 0) (As := [.ref (G.2.2 278 0), .int 0, .long v3]) (rest := []) X hW (c_X12_nonceOf l G X.2.2.2.2.2.2.2.2.2.1 _ S7 278 0 0 v3 _ h11) (cwV 3 X.2.2.2.2.1 (gV gw1054 gw1055 gw1056 gw5 gw1057) rfl rfl rfl ⟨rfl, hd_X12_nonceOf⟩ ⟨Nat.le_of_ble_eq_true rfl, Nat.le_of_ble_eq_true rfl⟩) (x_recv X hW ob_Model z_1) rfl hl.1 rfl (Nat.le_of_ble_eq_true rfl) dX12_isRight_118 ⟨Nat.zero_le _, Nat.zero_le _⟩) (fun H locs hW => ?_)
        refine lv_aload_n X.1 X.2.1 dX12_isRight_121 rfl (lv_at hl 0 rfl) ?_
        refine lv_aload_n X.1 X.2.1 dX12_isRight_122 rfl (lv_at hl 0 rfl) ?_
        refine x_getR X hW fd_Model_seen (fun w h => List.mem_cons_of_mem _ (gin_X12 w h)) (List.mem_cons_of_mem _ gw233) z_1 dX12_isRight_123 ?_
        refine lv_bipush (v := 32) X.1 X.2.1 dX12_isRight_126 rfl ?_
        refine lv_aload_n X.1 X.2.1 dX12_isRight_128 rfl (lv_at hl 0 rfl) ?_
        refine x_getR X hW fd_Model_plain (fun w h => List.mem_cons_of_mem _ (gin_X12 w h)) (List.mem_cons_of_mem _ gw238) z_1 dX12_isRight_129 ?_
        refine lv_iconst (v := 0) X.1 X.2.1 dX12_isRight_132 rfl ?_
        refine lv_iload_n X.1 X.2.1 dX12_isRight_133 rfl (lv_at hl 2 rfl) ?_
        obtain ⟨r12, S13, h14, h⟩ := cl_some h
        refine x_aftV X hW (x_runV (C := RX12) (a := G.2.2 200 0) (As := [.ref (G.2.2 278 0), .int 32, .ref (G.2.2 283 0), .int 0, .int v2]) (rest := []) X hW (c_X12_cover l G X.2.2.2.2.2.2.2.2.2.1 _ S10 278 0 32 283 0 0 v2 _ h14) (cwV 5 X.2.2.2.2.1 (gV gw1077 gw1078 gw1079 gw5 gw1080) rfl rfl rfl ⟨rfl, hd_X12_cover⟩ ⟨Nat.le_of_ble_eq_true rfl, Nat.le_of_ble_eq_true rfl⟩) (x_recv X hW ob_Model z_1) rfl hl.1 rfl (Nat.le_of_ble_eq_true rfl) dX12_isRight_134 ⟨Nat.zero_le _, Nat.zero_le _⟩) (fun H locs hW => ?_)
        refine lv_aload_n X.1 X.2.1 dX12_isRight_137 rfl (lv_at hl 0 rfl) ?_
        refine lv_aload_n X.1 X.2.1 dX12_isRight_138 rfl (lv_at hl 0 rfl) ?_
        refine x_getR X hW fd_Model_seen (fun w h => List.mem_cons_of_mem _ (gin_X12 w h)) (List.mem_cons_of_mem _ gw233) z_1 dX12_isRight_139 ?_
        refine lv_iconst (v := 0) X.1 X.2.1 dX12_isRight_142 rfl ?_
        refine lv_aload_n X.1 X.2.1 dX12_isRight_143 rfl (lv_at hl 0 rfl) ?_
        refine x_getR X hW fd_Model_plain (fun w h => List.mem_cons_of_mem _ (gin_X12 w h)) (List.mem_cons_of_mem _ gw238) z_1 dX12_isRight_144 ?_
        refine lv_iconst (v := 0) X.1 X.2.1 dX12_isRight_147 rfl ?_
        refine lv_iload_n X.1 X.2.1 dX12_isRight_148 rfl (lv_at hl 2 rfl) ?_
        obtain ⟨r15, S16, h17, h⟩ := cl_some h
        refine x_aftV X hW (x_runV (C := RX12) (a := G.2.2 200 0) (As := [.ref (G.2.2 278 0), .int 0, .ref (G.2.2 283 0), .int 0, .int v2]) (rest := []) X hW (c_X12_findTag l G X.2.2.2.2.2.2.2.2.2.1 _ S13 278 0 0 283 0 0 v2 _ h17) (cwV 5 X.2.2.2.2.1 (gV gw1058 gw1059 gw1060 gw5 gw1061) rfl rfl rfl ⟨rfl, hd_X12_findTag⟩ ⟨Nat.le_of_ble_eq_true rfl, Nat.le_of_ble_eq_true rfl⟩) (x_recv X hW ob_Model z_1) rfl hl.1 rfl (Nat.le_of_ble_eq_true rfl) dX12_isRight_149 ⟨Nat.zero_le _, Nat.zero_le _⟩) (fun H locs hW => ?_)
        refine lv_iconst (v := 1) X.1 X.2.1 dX12_isRight_152 rfl ?_
        refine lv_istore (lv' := [(5, .int 1), (0, .ref (G.2.2 200 0)), (1, .int v1), (2, .int v2), (3, .long v3)]) X.1 X.2.1 dX12_isRight_153 hl (by decide) rfl (fun ls hl => ?_)
        refine lv_iconst (v := 0) X.1 X.2.1 dX12_isRight_155 rfl ?_
        refine lv_istore (lv' := [(6, .int 0), (5, .int 1), (0, .ref (G.2.2 200 0)), (1, .int v1), (2, .int v2), (3, .long v3)]) X.1 X.2.1 dX12_isRight_156 hl (by decide) rfl (fun ls hl => ?_)
        exact w_X12_isRight_158 X v1 v2 v3   fu 1 0 S16 _ _ _ h hW  (lv_sub hl [2, 3, 4, 5, 1, 0] rfl)
      · refine lv_iconst (v := 0) X.1 X.2.1 dX12_isRight_97 rfl ?_
        exact x_zret X hW h rfl dX12_isRight_98
    · refine lv_lload_n X.1 X.2.1 dX12_isRight_49 rfl (lv_at hl 3 rfl) ?_
      refine lv_bipush (v := 8) X.1 X.2.1 dX12_isRight_50 rfl ?_
      refine lv_lshl (v := (v3 <<< (Int32.toInt64 8 &&& 63))) X.1 X.2.1 dX12_isRight_52 rfl ?_
      refine lv_aload_n X.1 X.2.1 dX12_isRight_53 rfl (lv_at hl 0 rfl) ?_
      refine x_getR X hW fd_Model_seen (fun w h => List.mem_cons_of_mem _ (gin_X12 w h)) (List.mem_cons_of_mem _ gw233) z_1 dX12_isRight_54 ?_
      refine lv_iload X.1 X.2.1 dX12_isRight_57 (lv_at hl 4 rfl) ?_
      refine lv_iconst (v := 2) X.1 X.2.1 dX12_isRight_59 rfl ?_
      refine x_icmp_ge X (tgt := 71) dX12_isRight_60 (by decide) h (fun h => ?_) (fun h => ?_)
      · refine lv_bipush (v := 26) X.1 X.2.1 dX12_isRight_71 rfl ?_
        refine lv_iload X.1 X.2.1 dX12_isRight_73 (lv_at hl 4 rfl) ?_
        refine lv_iadd X.1 X.2.1 dX12_isRight_75 ?_
        exact w_X12_isRight_76 X v1 v2 v5 (v3 <<< (Int32.toInt64 8 &&& 63)) (26 + v5)  (L_X12_isRight_44 v1 v2 n) ih hW (lv_sub hl [0, 1, 2, 4] rfl) h
      · refine lv_bipush (v := 24) X.1 X.2.1 dX12_isRight_63 rfl ?_
        refine lv_iload X.1 X.2.1 dX12_isRight_65 (lv_at hl 4 rfl) ?_
        refine lv_iadd X.1 X.2.1 dX12_isRight_67 ?_
        refine lv_goto (tgt := 76) X.1 X.2.1 dX12_isRight_68 (by decide) ?_
        exact w_X12_isRight_76 X v1 v2 v5 (v3 <<< (Int32.toInt64 8 &&& 63)) (24 + v5)  (L_X12_isRight_44 v1 v2 n) ih hW (lv_sub hl [0, 1, 2, 4] rfl) h
set_option maxRecDepth 100000 in
set_option maxHeartbeats 4000000 in
theorem w_X12_isRight_0 {p : Program} {l : Launch} {e : Env} {s : State} {m : MethodId} {args : Array Value} {below : List Frame} {meth : Method} {c : Code} {G : xG} {sz : Nat} {o : Int32 × Mm} (X : xC G true sz p s m args c cX12_isRight 7 wsX12_isRight RX12 meth (some .boolean)) (v1 : Int32) {S : Mm} {H : Heap} {locs : List Loc} {ls : Array Slot} (hW : xW G true sz s H locs S) (hl : lv_has ls 7 [(0, .ref (G.2.2 200 0)), (1, .int v1)]) (h : F_X12_isRight v1 S = some o) : wX p l e rmX12_isRight s m args below meth c H locs (xQi G true sz o) (XA G true sz) 0 ls [] := by
  unfold F_X12_isRight at h
  refine lv_aload_n X.1 X.2.1 dX12_isRight_0 rfl (lv_at hl 0 rfl) ?_
  refine x_getI X hW fd_Model_seenLen (fun w h => List.mem_cons_of_mem _ (gin_X12 w h)) (List.mem_cons_of_mem _ gw1097) z_1 dX12_isRight_1 h (fun x1 h => ?_)
  refine lv_bipush (v := 28) X.1 X.2.1 dX12_isRight_4 rfl ?_
  refine lv_isub X.1 X.2.1 dX12_isRight_6 ?_
  refine lv_bipush (v := 16) X.1 X.2.1 dX12_isRight_7 rfl ?_
  refine lv_isub X.1 X.2.1 dX12_isRight_9 ?_
  refine x_top h (fun x2 h => ?_)
  refine lv_istore_n (lv' := [(2, .int x2), (0, .ref (G.2.2 200 0)), (1, .int v1)]) X.1 X.2.1 dX12_isRight_10 rfl hl (by decide) rfl (fun ls hl => ?_)
  refine lv_iload_n X.1 X.2.1 dX12_isRight_11 rfl (lv_at hl 0 rfl) ?_
  refine x_if_lt X (tgt := 37) dX12_isRight_12 (by decide) h (fun h => ?_) (fun h => ?_)
  · exact w_X12_isRight_37 X    hW (lv_sub hl [] rfl) h
  · refine lv_aload_n X.1 X.2.1 dX12_isRight_15 rfl (lv_at hl 1 rfl) ?_
    refine x_getR X hW fd_Model_seen (fun w h => List.mem_cons_of_mem _ (gin_X12 w h)) (List.mem_cons_of_mem _ gw233) z_1 dX12_isRight_16 ?_
    refine lv_bipush (v := 26) X.1 X.2.1 dX12_isRight_19 rfl ?_
    refine x_iald X hW ar_278 dX12_isRight_21 h (fun x3 h => ?_)
    refine x_if_ne X (tgt := 37) dX12_isRight_22 (by decide) h (fun h => ?_) (fun h => ?_)
    · exact w_X12_isRight_37 X    hW (lv_sub hl [] rfl) h
    · refine lv_aload_n X.1 X.2.1 dX12_isRight_25 rfl (lv_at hl 1 rfl) ?_
      refine x_getR X hW fd_Model_seen (fun w h => List.mem_cons_of_mem _ (gin_X12 w h)) (List.mem_cons_of_mem _ gw233) z_1 dX12_isRight_26 ?_
      refine lv_bipush (v := 27) X.1 X.2.1 dX12_isRight_29 rfl ?_
      refine x_iald X hW ar_278 dX12_isRight_31 h (fun x4 h => ?_)
      refine lv_bipush (v := 32) X.1 X.2.1 dX12_isRight_32 rfl ?_
      refine x_icmp_eq X (tgt := 39) dX12_isRight_34 (by decide) h (fun h => ?_) (fun h => ?_)
      · refine lv_lconst (v := 0) X.1 X.2.1 dX12_isRight_39 rfl ?_
        refine lv_lstore_n (lv' := [(3, .long 0), (2, .int x2), (0, .ref (G.2.2 200 0)), (1, .int v1)]) X.1 X.2.1 dX12_isRight_40 rfl hl (by decide) rfl (fun ls hl => ?_)
        refine lv_iconst (v := 5) X.1 X.2.1 dX12_isRight_41 rfl ?_
        refine lv_istore (lv' := [(5, .int 5), (3, .long 0), (2, .int x2), (0, .ref (G.2.2 200 0)), (1, .int v1)]) X.1 X.2.1 dX12_isRight_42 hl (by decide) rfl (fun ls hl => ?_)
        exact w_X12_isRight_44 X v1 x2   fu 0 5 S _ _ _ h hW  (lv_sub hl [3, 4, 2, 1, 0] rfl)
      · exact w_X12_isRight_37 X    hW (lv_sub hl [] rfl) h
theorem c_X12_isRight (l : Launch) (G : xG) (hD : xD G true) (sz : Nat) (S : Mm) (v1 : Int32) (o : Int32 × Mm) (h : F_X12_isRight v1 S = some o) : Met l yX12_isRight wsX12_isRight rmX12_isRight (xPre G true S sz [.ref (G.2.2 200 0), .int v1]) (xQi G true sz o) 0 0 (XA G true sz) :=
  x_start hD (by decide) rfl (Nat.le_of_ble_eq_true rfl) (fun p e s m below meth c X hW ls hl => w_X12_isRight_0 X v1 hW hl h)

/-! WirelessCellModel.deliver(IIII)V -/
def rmX12_deliver : Room := { frames := 0, cells := 0, slots := 0, locals := 0 }
def L_X12_deliver_87  (v1 : Int32) (S : Mm) : Option (Unit × Mm) :=
  ldA S 284 0 9 1 v1 fun x8 =>
  stA S 284 0 9 1 v1 (x8 + 1) fun S9 =>
  some ((), S9)
def L_X12_deliver_48  (v1 : Int32) (v3 : Int32) (v4 : Int32) (v5 : Int32) : Nat → Int32 → Mm → Option (Unit × Mm)
  | 0, _, _ => none
  | n + 1, v6, S => 
    if v4 ≤ v6 then (
    L_X12_deliver_87  v1 S)
    else (
    ldA S 232 0 3744 1 (v3 + v6) fun x6 =>
    stA S 287 0 21600 1 (((200 * v5) + v6) - 8) x6 fun S7 =>
    (L_X12_deliver_48 v1 v3 v4 v5 n) (v6 + 1) S7)
def F_X12_deliver (v1 : Int32) (v2 : Int32) (v3 : Int32) (v4 : Int32) (S : Mm) : Option (Unit × Mm) :=
  ldA S 284 0 9 1 v1 fun x1 =>
  if 12 ≤ x1 then (
  L_X12_deliver_87  v1 S)
  else (
  ldA S 284 0 9 1 v1 fun x2 =>
  tp ((12 * v1) + x2) fun x3 =>
  stA S 285 0 108 1 x3 v2 fun S4 =>
  stA S4 286 0 108 1 x3 (v4 - 8) fun S5 =>
  L_X12_deliver_48  v1 v3 v4 x3 fu 8 S5)
set_option maxRecDepth 100000 in
set_option maxHeartbeats 4000000 in
theorem w_X12_deliver_87 {p : Program} {l : Launch} {e : Env} {s : State} {m : MethodId} {args : Array Value} {below : List Frame} {meth : Method} {c : Code} {G : xG} {sz : Nat} {o : Unit × Mm} (X : xC G true sz p s m args c cX12_deliver 7 wsX12_deliver RX12 meth none) (v1 : Int32)   {S : Mm} {H : Heap} {locs : List Loc} {ls : Array Slot} (hW : xW G true sz s H locs S) (hl : lv_has ls 7 [(0, .ref (G.2.2 200 0)), (1, .int v1)]) (h : L_X12_deliver_87  v1 S = some o) : wX p l e rmX12_deliver s m args below meth c H locs (xQv G true sz o) (XA G true sz) 87 ls [] := by
  unfold L_X12_deliver_87 at h
  refine lv_aload_n X.1 X.2.1 dX12_deliver_87 rfl (lv_at hl 0 rfl) ?_
  refine x_getR X hW fd_Model_deliveredMany (fun w h => List.mem_cons_of_mem _ (gin_X12 w h)) (List.mem_cons_of_mem _ gw239) z_1 dX12_deliver_88 ?_
  refine lv_iload_n X.1 X.2.1 dX12_deliver_91 rfl (lv_at hl 1 rfl) ?_
  refine lv_dup2_11 X.1 X.2.1 dX12_deliver_92 rfl rfl ?_
  refine x_iald X hW ar_284 dX12_deliver_93 h (fun x8 h => ?_)
  refine lv_iconst (v := 1) X.1 X.2.1 dX12_deliver_94 rfl ?_
  refine lv_iadd X.1 X.2.1 dX12_deliver_95 ?_
  refine x_iast X hW ar_284 dX12_deliver_96 h (fun S9 H locs h hW => ?_)
  exact x_vret X hW h dX12_deliver_97
set_option maxRecDepth 100000 in
set_option maxHeartbeats 4000000 in
theorem w_X12_deliver_48 {p : Program} {l : Launch} {e : Env} {s : State} {m : MethodId} {args : Array Value} {below : List Frame} {meth : Method} {c : Code} {G : xG} {sz : Nat} {o : Unit × Mm} (X : xC G true sz p s m args c cX12_deliver 7 wsX12_deliver RX12 meth none) (v1 : Int32) (v3 : Int32) (v4 : Int32) (v5 : Int32)   : ∀ (n : Nat) (v6 : Int32) (S : Mm) (H : Heap) (locs : List Loc) (ls : Array Slot), L_X12_deliver_48 v1 v3 v4 v5 n v6 S = some o → xW G true sz s H locs S → lv_has ls 7 [(0, .ref (G.2.2 200 0)), (1, .int v1), (3, .int v3), (4, .int v4), (5, .int v5), (6, .int v6)] → wX p l e rmX12_deliver s m args below meth c H locs (xQv G true sz o) (XA G true sz) 48 ls [] := by
  intro n
  induction n with
  | zero =>
    intro v6 S H locs ls h
    cases h
  | succ n ih =>
    intro v6 S H locs ls h hW  hl
    rw [L_X12_deliver_48] at h
    refine lv_iload X.1 X.2.1 dX12_deliver_48 (lv_at hl 5 rfl) ?_
    refine lv_iload X.1 X.2.1 dX12_deliver_50 (lv_at hl 3 rfl) ?_
    refine x_icmp_ge X (tgt := 87) dX12_deliver_52 (by decide) h (fun h => ?_) (fun h => ?_)
    · exact w_X12_deliver_87 X v1   hW (lv_sub hl [0, 1] rfl) h
    · refine lv_aload_n X.1 X.2.1 dX12_deliver_55 rfl (lv_at hl 0 rfl) ?_
      refine x_getR X hW fd_Model_deliveredBytes (fun w h => List.mem_cons_of_mem _ (gin_X12 w h)) (List.mem_cons_of_mem _ gw242) z_1 dX12_deliver_56 ?_
      refine lv_sipush (v := 200) X.1 X.2.1 dX12_deliver_59 rfl ?_
      refine lv_iload X.1 X.2.1 dX12_deliver_62 (lv_at hl 4 rfl) ?_
      refine lv_imul X.1 X.2.1 dX12_deliver_64 ?_
      refine lv_iload X.1 X.2.1 dX12_deliver_65 (lv_at hl 5 rfl) ?_
      refine lv_iadd X.1 X.2.1 dX12_deliver_67 ?_
      refine lv_bipush (v := 8) X.1 X.2.1 dX12_deliver_68 rfl ?_
      refine lv_isub X.1 X.2.1 dX12_deliver_70 ?_
      refine lv_aload_n X.1 X.2.1 dX12_deliver_71 rfl (lv_at hl 0 rfl) ?_
      refine x_getR X hW fd_Model_begunBytes (fun w h => List.mem_cons_of_mem _ (gin_X12 w h)) (List.mem_cons_of_mem _ gw183) z_1 dX12_deliver_72 ?_
      refine lv_iload_n X.1 X.2.1 dX12_deliver_75 rfl (lv_at hl 2 rfl) ?_
      refine lv_iload X.1 X.2.1 dX12_deliver_76 (lv_at hl 5 rfl) ?_
      refine lv_iadd X.1 X.2.1 dX12_deliver_78 ?_
      refine x_iald X hW ar_232 dX12_deliver_79 h (fun x6 h => ?_)
      refine x_iast X hW ar_287 dX12_deliver_80 h (fun S7 H locs h hW => ?_)
      refine lv_iinc (v := (v6 + 1)) (lv' := [(6, .int (v6 + 1)), (0, .ref (G.2.2 200 0)), (1, .int v1), (3, .int v3), (4, .int v4), (5, .int v5)]) X.1 X.2.1 dX12_deliver_81 hl (k := 5) rfl rfl (by decide) rfl (fun ls hl => ?_)
      refine lv_goto (tgt := 48) X.1 X.2.1 dX12_deliver_84 (by decide) ?_
      exact ih (v6 + 1) S7 _ _ _ h hW  (lv_sub hl [1, 2, 3, 4, 5, 0] rfl)
set_option maxRecDepth 100000 in
set_option maxHeartbeats 4000000 in
theorem w_X12_deliver_0 {p : Program} {l : Launch} {e : Env} {s : State} {m : MethodId} {args : Array Value} {below : List Frame} {meth : Method} {c : Code} {G : xG} {sz : Nat} {o : Unit × Mm} (X : xC G true sz p s m args c cX12_deliver 7 wsX12_deliver RX12 meth none) (v1 : Int32) (v2 : Int32) (v3 : Int32) (v4 : Int32) {S : Mm} {H : Heap} {locs : List Loc} {ls : Array Slot} (hW : xW G true sz s H locs S) (hl : lv_has ls 7 [(0, .ref (G.2.2 200 0)), (1, .int v1), (2, .int v2), (3, .int v3), (4, .int v4)]) (h : F_X12_deliver v1 v2 v3 v4 S = some o) : wX p l e rmX12_deliver s m args below meth c H locs (xQv G true sz o) (XA G true sz) 0 ls [] := by
  unfold F_X12_deliver at h
  refine lv_aload_n X.1 X.2.1 dX12_deliver_0 rfl (lv_at hl 0 rfl) ?_
  refine x_getR X hW fd_Model_deliveredMany (fun w h => List.mem_cons_of_mem _ (gin_X12 w h)) (List.mem_cons_of_mem _ gw239) z_1 dX12_deliver_1 ?_
  refine lv_iload_n X.1 X.2.1 dX12_deliver_4 rfl (lv_at hl 1 rfl) ?_
  refine x_iald X hW ar_284 dX12_deliver_5 h (fun x1 h => ?_)
  refine lv_bipush (v := 12) X.1 X.2.1 dX12_deliver_6 rfl ?_
  refine x_icmp_ge X (tgt := 87) dX12_deliver_8 (by decide) h (fun h => ?_) (fun h => ?_)
  · exact w_X12_deliver_87 X v1   hW (lv_sub hl [0, 1] rfl) h
  · refine lv_bipush (v := 12) X.1 X.2.1 dX12_deliver_11 rfl ?_
    refine lv_iload_n X.1 X.2.1 dX12_deliver_13 rfl (lv_at hl 1 rfl) ?_
    refine lv_imul X.1 X.2.1 dX12_deliver_14 ?_
    refine lv_aload_n X.1 X.2.1 dX12_deliver_15 rfl (lv_at hl 0 rfl) ?_
    refine x_getR X hW fd_Model_deliveredMany (fun w h => List.mem_cons_of_mem _ (gin_X12 w h)) (List.mem_cons_of_mem _ gw239) z_1 dX12_deliver_16 ?_
    refine lv_iload_n X.1 X.2.1 dX12_deliver_19 rfl (lv_at hl 1 rfl) ?_
    refine x_iald X hW ar_284 dX12_deliver_20 h (fun x2 h => ?_)
    refine lv_iadd X.1 X.2.1 dX12_deliver_21 ?_
    refine x_top h (fun x3 h => ?_)
    refine lv_istore (lv' := [(5, .int x3), (0, .ref (G.2.2 200 0)), (1, .int v1), (2, .int v2), (3, .int v3), (4, .int v4)]) X.1 X.2.1 dX12_deliver_22 hl (by decide) rfl (fun ls hl => ?_)
    refine lv_aload_n X.1 X.2.1 dX12_deliver_24 rfl (lv_at hl 1 rfl) ?_
    refine x_getR X hW fd_Model_deliveredFrom (fun w h => List.mem_cons_of_mem _ (gin_X12 w h)) (List.mem_cons_of_mem _ gw240) z_1 dX12_deliver_25 ?_
    refine lv_iload X.1 X.2.1 dX12_deliver_28 (lv_at hl 0 rfl) ?_
    refine lv_iload_n X.1 X.2.1 dX12_deliver_30 rfl (lv_at hl 3 rfl) ?_
    refine x_iast X hW ar_285 dX12_deliver_31 h (fun S4 H locs h hW => ?_)
    refine lv_aload_n X.1 X.2.1 dX12_deliver_32 rfl (lv_at hl 1 rfl) ?_
    refine x_getR X hW fd_Model_deliveredLen (fun w h => List.mem_cons_of_mem _ (gin_X12 w h)) (List.mem_cons_of_mem _ gw241) z_1 dX12_deliver_33 ?_
    refine lv_iload X.1 X.2.1 dX12_deliver_36 (lv_at hl 0 rfl) ?_
    refine lv_iload X.1 X.2.1 dX12_deliver_38 (lv_at hl 5 rfl) ?_
    refine lv_bipush (v := 8) X.1 X.2.1 dX12_deliver_40 rfl ?_
    refine lv_isub X.1 X.2.1 dX12_deliver_42 ?_
    refine x_iast X hW ar_286 dX12_deliver_43 h (fun S5 H locs h hW => ?_)
    refine lv_bipush (v := 8) X.1 X.2.1 dX12_deliver_44 rfl ?_
    refine lv_istore (lv' := [(6, .int 8), (5, .int x3), (0, .ref (G.2.2 200 0)), (1, .int v1), (2, .int v2), (3, .int v3), (4, .int v4)]) X.1 X.2.1 dX12_deliver_46 hl (by decide) rfl (fun ls hl => ?_)
    exact w_X12_deliver_48 X v1 v3 v4 x3   fu 8 S5 _ _ _ h hW  (lv_sub hl [2, 3, 5, 6, 1, 0] rfl)
theorem c_X12_deliver (l : Launch) (G : xG) (hD : xD G true) (sz : Nat) (S : Mm) (v1 : Int32) (v2 : Int32) (v3 : Int32) (v4 : Int32) (o : Unit × Mm) (h : F_X12_deliver v1 v2 v3 v4 S = some o) : Met l yX12_deliver wsX12_deliver rmX12_deliver (xPre G true S sz [.ref (G.2.2 200 0), .int v1, .int v2, .int v3, .int v4]) (xQv G true sz o) 0 0 (XA G true sz) :=
  x_start hD (by decide) rfl (Nat.le_of_ble_eq_true rfl) (fun p e s m below meth c X hW ls hl => w_X12_deliver_0 X v1 v2 v3 v4 hW hl h)
