/-! WirelessCellModel.fail(I)V -/
def rmX12_fail : Room := { frames := 3, cells := 0, slots := 0, locals := 65 }
def L_X12_fail_78  (v1 : Int32) (s1 : Int32) (s2 : Int32) (S : Mm) : Option (Unit × Mm) :=
  stA S 249 0 9 1 s1 s2 fun S13 =>
  cl (F_X12_drawn S13) fun r14 S15 =>
  ldA S15 249 0 9 1 v1 fun x17 =>
  stA S15 248 0 9 1 v1 (r14 &&& x17) fun S18 =>
  tp (300 * v1) fun x19 =>
  ldA S18 245 0 2700 1 (x19 + 1) fun x20 =>
  stA S18 245 0 2700 1 (x19 + 1) (x20 ||| 8) fun S21 =>
  ldA S21 246 0 9 1 v1 fun x22 =>
  cl (F_X12_putCheck 245 0 x19 (x22 - 4) S21) fun r23 S24 =>
  some ((), S24)
def F_X12_fail (v1 : Int32) (S : Mm) : Option (Unit × Mm) :=
  stA S 255 0 9 1 v1 (0 &&& 1) fun S1 =>
  gf S1 303 0 fun x2 =>
  pf S1 303 0 (x2 + 1) fun S3 =>
  ldA S3 250 0 9 1 v1 fun x4 =>
  stA S3 250 0 9 1 v1 (x4 + 1) fun S5 =>
  ldA S5 250 0 9 1 v1 fun x6 =>
  gf S5 293 0 fun x7 =>
  if x6 < x7 then (
  ldA S5 249 0 9 1 v1 fun x8 =>
  if 127 ≤ x8 then (
  L_X12_fail_78  v1 v1 127 S5)
  else (
  ldA S5 249 0 9 1 v1 fun x9 =>
  L_X12_fail_78  v1 v1 ((2 * x9) + 1) S5))
  else (
  cl (F_X12_leaves v1 2 S5) fun r10 S11 =>
  some ((), S11))
set_option maxRecDepth 100000 in
set_option maxHeartbeats 4000000 in
theorem w_X12_fail_78 {p : Program} {l : Launch} {e : Env} {s : State} {m : MethodId} {args : Array Value} {below : List Frame} {meth : Method} {c : Code} {G : xG} {sz : Nat} {o : Unit × Mm} (X : xC G true sz p s m args c cX12_fail 3 wsX12_fail RX12 meth none) (v1 : Int32) (s1 : Int32) (s2 : Int32)   {S : Mm} {H : Heap} {locs : List Loc} {ls : Array Slot} (hW : xW G true sz s H locs S) (hl : lv_has ls 3 [(0, .ref (G.2.2 200 0)), (1, .int v1)]) (h : L_X12_fail_78  v1 s1 s2 S = some o) : wX p l e rmX12_fail s m args below meth c H locs (xQv G true sz o) (XA G true sz) 78 ls [.int s2, .int s1, .ref (G.2.2 249 0)] := by
  unfold L_X12_fail_78 at h
  refine x_iast X hW ar_249 dX12_fail_78 h (fun S13 H locs h hW => ?_)
  refine lv_aload_n X.1 X.2.1 dX12_fail_79 rfl (lv_at hl 0 rfl) ?_
  refine x_getR X hW fd_Model_backoff (fun w h => List.mem_cons_of_mem _ (gin_X12 w h)) (List.mem_cons_of_mem _ gw199) z_1 dX12_fail_80 ?_
  refine lv_iload_n X.1 X.2.1 dX12_fail_83 rfl (lv_at hl 1 rfl) ?_
  refine lv_aload_n X.1 X.2.1 dX12_fail_84 rfl (lv_at hl 0 rfl) ?_
  obtain ⟨r14, S15, h16, h⟩ := cl_some h
  refine x_aftI X hW (x_runV (C := RX12) (a := G.2.2 200 0) (As := []) (rest := [.int v1, .ref (G.2.2 248 0)]) X hW (c_X12_drawn l G X.2.2.2.2.2.2.2.2.2.1 _ S13 _ h16) (cwV 0 X.2.2.2.2.1 (gV gw546 gw547 gw548 gw5 gw549) rfl rfl rfl ⟨rfl, hd_X12_drawn⟩ ⟨Nat.le_of_ble_eq_true rfl, Nat.le_of_ble_eq_true rfl⟩) (x_recv X hW ob_Model z_1) rfl hl.1 rfl (Nat.le_of_ble_eq_true rfl) dX12_fail_85 ⟨Nat.zero_le _, Nat.zero_le _⟩) (fun H locs hW => ?_)
  refine lv_aload_n X.1 X.2.1 dX12_fail_88 rfl (lv_at hl 0 rfl) ?_
  refine x_getR X hW fd_Model_cw (fun w h => List.mem_cons_of_mem _ (gin_X12 w h)) (List.mem_cons_of_mem _ gw200) z_1 dX12_fail_89 ?_
  refine lv_iload_n X.1 X.2.1 dX12_fail_92 rfl (lv_at hl 1 rfl) ?_
  refine x_iald X hW ar_249 dX12_fail_93 h (fun x17 h => ?_)
  refine lv_iand X.1 X.2.1 dX12_fail_94 ?_
  refine x_iast X hW ar_248 dX12_fail_95 h (fun S18 H locs h hW => ?_)
  refine lv_sipush (v := 300) X.1 X.2.1 dX12_fail_96 rfl ?_
  refine lv_iload_n X.1 X.2.1 dX12_fail_99 rfl (lv_at hl 1 rfl) ?_
  refine lv_imul X.1 X.2.1 dX12_fail_100 ?_
  refine x_top h (fun x19 h => ?_)
  refine lv_istore_n (lv' := [(2, .int x19), (0, .ref (G.2.2 200 0)), (1, .int v1)]) X.1 X.2.1 dX12_fail_101 rfl hl (by decide) rfl (fun ls hl => ?_)
  refine lv_aload_n X.1 X.2.1 dX12_fail_102 rfl (lv_at hl 1 rfl) ?_
  refine x_getR X hW fd_Model_frames (fun w h => List.mem_cons_of_mem _ (gin_X12 w h)) (List.mem_cons_of_mem _ gw196) z_1 dX12_fail_103 ?_
  refine lv_iload_n X.1 X.2.1 dX12_fail_106 rfl (lv_at hl 0 rfl) ?_
  refine lv_iconst (v := 1) X.1 X.2.1 dX12_fail_107 rfl ?_
  refine lv_iadd X.1 X.2.1 dX12_fail_108 ?_
  refine lv_aload_n X.1 X.2.1 dX12_fail_109 rfl (lv_at hl 1 rfl) ?_
  refine x_getR X hW fd_Model_frames (fun w h => List.mem_cons_of_mem _ (gin_X12 w h)) (List.mem_cons_of_mem _ gw196) z_1 dX12_fail_110 ?_
  refine lv_iload_n X.1 X.2.1 dX12_fail_113 rfl (lv_at hl 0 rfl) ?_
  refine lv_iconst (v := 1) X.1 X.2.1 dX12_fail_114 rfl ?_
  refine lv_iadd X.1 X.2.1 dX12_fail_115 ?_
  refine x_iald X hW ar_245 dX12_fail_116 h (fun x20 h => ?_)
  refine lv_bipush (v := 8) X.1 X.2.1 dX12_fail_117 rfl ?_
  refine lv_ior X.1 X.2.1 dX12_fail_119 ?_
  refine x_iast X hW ar_245 dX12_fail_120 h (fun S21 H locs h hW => ?_)
  refine lv_aload_n X.1 X.2.1 dX12_fail_121 rfl (lv_at hl 1 rfl) ?_
  refine lv_aload_n X.1 X.2.1 dX12_fail_122 rfl (lv_at hl 1 rfl) ?_
  refine x_getR X hW fd_Model_frames (fun w h => List.mem_cons_of_mem _ (gin_X12 w h)) (List.mem_cons_of_mem _ gw196) z_1 dX12_fail_123 ?_
  refine lv_iload_n X.1 X.2.1 dX12_fail_126 rfl (lv_at hl 0 rfl) ?_
  refine lv_aload_n X.1 X.2.1 dX12_fail_127 rfl (lv_at hl 1 rfl) ?_
  refine x_getR X hW fd_Model_frameLen (fun w h => List.mem_cons_of_mem _ (gin_X12 w h)) (List.mem_cons_of_mem _ gw197) z_1 dX12_fail_128 ?_
  refine lv_iload_n X.1 X.2.1 dX12_fail_131 rfl (lv_at hl 2 rfl) ?_
  refine x_iald X hW ar_246 dX12_fail_132 h (fun x22 h => ?_)
  refine lv_iconst (v := 4) X.1 X.2.1 dX12_fail_133 rfl ?_
  refine lv_isub X.1 X.2.1 dX12_fail_134 ?_
  obtain ⟨r23, S24, h25, h⟩ := cl_some h
  refine x_aftV X hW (x_runV (C := RX12) (a := G.2.2 200 0) (As := [.ref (G.2.2 245 0), .int x19, .int (x22 - 4)]) (rest := []) X hW (c_X12_putCheck l G X.2.2.2.2.2.2.2.2.2.1 _ S21 245 0 x19 (x22 - 4) _ h25) (cwV 3 X.2.2.2.2.1 (gV gw1015 gw1016 gw1017 gw5 gw1018) rfl rfl rfl ⟨rfl, hd_X12_putCheck⟩ ⟨Nat.le_of_ble_eq_true rfl, Nat.le_of_ble_eq_true rfl⟩) (x_recv X hW ob_Model z_1) rfl hl.1 rfl (Nat.le_of_ble_eq_true rfl) dX12_fail_135 ⟨Nat.zero_le _, Nat.zero_le _⟩) (fun H locs hW => ?_)
  exact x_vret X hW h dX12_fail_138
set_option maxRecDepth 100000 in
set_option maxHeartbeats 4000000 in
theorem w_X12_fail_0 {p : Program} {l : Launch} {e : Env} {s : State} {m : MethodId} {args : Array Value} {below : List Frame} {meth : Method} {c : Code} {G : xG} {sz : Nat} {o : Unit × Mm} (X : xC G true sz p s m args c cX12_fail 3 wsX12_fail RX12 meth none) (v1 : Int32) {S : Mm} {H : Heap} {locs : List Loc} {ls : Array Slot} (hW : xW G true sz s H locs S) (hl : lv_has ls 3 [(0, .ref (G.2.2 200 0)), (1, .int v1)]) (h : F_X12_fail v1 S = some o) : wX p l e rmX12_fail s m args below meth c H locs (xQv G true sz o) (XA G true sz) 0 ls [] := by
  unfold F_X12_fail at h
  refine lv_aload_n X.1 X.2.1 dX12_fail_0 rfl (lv_at hl 0 rfl) ?_
  refine x_getR X hW fd_Model_waits (fun w h => List.mem_cons_of_mem _ (gin_X12 w h)) (List.mem_cons_of_mem _ gw209) z_1 dX12_fail_1 ?_
  refine lv_iload_n X.1 X.2.1 dX12_fail_4 rfl (lv_at hl 1 rfl) ?_
  refine lv_iconst (v := 0) X.1 X.2.1 dX12_fail_5 rfl ?_
  refine x_zast X hW ar_255 dX12_fail_6 h (fun S1 H locs h hW => ?_)
  refine lv_aload_n X.1 X.2.1 dX12_fail_7 rfl (lv_at hl 0 rfl) ?_
  refine lv_dup X.1 X.2.1 dX12_fail_8 rfl ?_
  refine x_getI X hW fd_Model_failed (fun w h => List.mem_cons_of_mem _ (gin_X12 w h)) (List.mem_cons_of_mem _ gw1241) z_1 dX12_fail_9 h (fun x2 h => ?_)
  refine lv_iconst (v := 1) X.1 X.2.1 dX12_fail_12 rfl ?_
  refine lv_iadd X.1 X.2.1 dX12_fail_13 ?_
  refine x_putI X hW fd_Model_failed (fun w h => List.mem_cons_of_mem _ (gin_X12 w h)) (List.mem_cons_of_mem _ gw1241) z_1 dX12_fail_14 tyX12 tyX12_ok nmX12 rfl rfl rfl h (fun S3 H locs h hW => ?_)
  refine lv_aload_n X.1 X.2.1 dX12_fail_17 rfl (lv_at hl 0 rfl) ?_
  refine x_getR X hW fd_Model_tries (fun w h => List.mem_cons_of_mem _ (gin_X12 w h)) (List.mem_cons_of_mem _ gw201) z_1 dX12_fail_18 ?_
  refine lv_iload_n X.1 X.2.1 dX12_fail_21 rfl (lv_at hl 1 rfl) ?_
  refine lv_dup2_11 X.1 X.2.1 dX12_fail_22 rfl rfl ?_
  refine x_iald X hW ar_250 dX12_fail_23 h (fun x4 h => ?_)
  refine lv_iconst (v := 1) X.1 X.2.1 dX12_fail_24 rfl ?_
  refine lv_iadd X.1 X.2.1 dX12_fail_25 ?_
  refine x_iast X hW ar_250 dX12_fail_26 h (fun S5 H locs h hW => ?_)
  refine lv_aload_n X.1 X.2.1 dX12_fail_27 rfl (lv_at hl 0 rfl) ?_
  refine x_getR X hW fd_Model_tries (fun w h => List.mem_cons_of_mem _ (gin_X12 w h)) (List.mem_cons_of_mem _ gw201) z_1 dX12_fail_28 ?_
  refine lv_iload_n X.1 X.2.1 dX12_fail_31 rfl (lv_at hl 1 rfl) ?_
  refine x_iald X hW ar_250 dX12_fail_32 h (fun x6 h => ?_)
  refine lv_aload_n X.1 X.2.1 dX12_fail_33 rfl (lv_at hl 0 rfl) ?_
  refine x_getI X hW fd_Model_limit (fun w h => List.mem_cons_of_mem _ (gin_X12 w h)) (List.mem_cons_of_mem _ gw203) z_1 dX12_fail_34 h (fun x7 h => ?_)
  refine x_icmp_lt X (tgt := 47) dX12_fail_37 (by decide) h (fun h => ?_) (fun h => ?_)
  · refine lv_aload_n X.1 X.2.1 dX12_fail_47 rfl (lv_at hl 0 rfl) ?_
    refine x_getR X hW fd_Model_cw (fun w h => List.mem_cons_of_mem _ (gin_X12 w h)) (List.mem_cons_of_mem _ gw200) z_1 dX12_fail_48 ?_
    refine lv_iload_n X.1 X.2.1 dX12_fail_51 rfl (lv_at hl 1 rfl) ?_
    refine lv_aload_n X.1 X.2.1 dX12_fail_52 rfl (lv_at hl 0 rfl) ?_
    refine x_getR X hW fd_Model_cw (fun w h => List.mem_cons_of_mem _ (gin_X12 w h)) (List.mem_cons_of_mem _ gw200) z_1 dX12_fail_53 ?_
    refine lv_iload_n X.1 X.2.1 dX12_fail_56 rfl (lv_at hl 1 rfl) ?_
    refine x_iald X hW ar_249 dX12_fail_57 h (fun x8 h => ?_)
    refine lv_bipush (v := 127) X.1 X.2.1 dX12_fail_58 rfl ?_
    refine x_icmp_ge X (tgt := 76) dX12_fail_60 (by decide) h (fun h => ?_) (fun h => ?_)
    · refine lv_bipush (v := 127) X.1 X.2.1 dX12_fail_76 rfl ?_
      exact w_X12_fail_78 X v1 v1 127   hW (lv_sub hl [0, 1] rfl) h
    · refine lv_iconst (v := 2) X.1 X.2.1 dX12_fail_63 rfl ?_
      refine lv_aload_n X.1 X.2.1 dX12_fail_64 rfl (lv_at hl 0 rfl) ?_
      refine x_getR X hW fd_Model_cw (fun w h => List.mem_cons_of_mem _ (gin_X12 w h)) (List.mem_cons_of_mem _ gw200) z_1 dX12_fail_65 ?_
      refine lv_iload_n X.1 X.2.1 dX12_fail_68 rfl (lv_at hl 1 rfl) ?_
      refine x_iald X hW ar_249 dX12_fail_69 h (fun x9 h => ?_)
      refine lv_imul X.1 X.2.1 dX12_fail_70 ?_
      refine lv_iconst (v := 1) X.1 X.2.1 dX12_fail_71 rfl ?_
      refine lv_iadd X.1 X.2.1 dX12_fail_72 ?_
      refine lv_goto (tgt := 78) X.1 X.2.1 dX12_fail_73 (by decide) ?_
      exact w_X12_fail_78 X v1 v1 ((2 * x9) + 1)   hW (lv_sub hl [0, 1] rfl) h
  · refine lv_aload_n X.1 X.2.1 dX12_fail_40 rfl (lv_at hl 0 rfl) ?_
    refine lv_iload_n X.1 X.2.1 dX12_fail_41 rfl (lv_at hl 1 rfl) ?_
    refine lv_iconst (v := 2) X.1 X.2.1 dX12_fail_42 rfl ?_
    obtain ⟨r10, S11, h12, h⟩ := cl_some h
    refine x_aftV X hW (x_runV (C := RX12) (a := G.2.2 200 0) (As := [.int v1, .int 2]) (rest := []) X hW (c_X12_leaves l G X.2.2.2.2.2.2.2.2.2.1 _ S5 v1 2 _ h12) (cwV 2 X.2.2.2.2.1 (gV gw1081 gw1082 gw1083 gw5 gw1084) rfl rfl rfl ⟨rfl, hd_X12_leaves⟩ ⟨Nat.le_of_ble_eq_true rfl, Nat.le_of_ble_eq_true rfl⟩) (x_recv X hW ob_Model z_1) rfl hl.1 rfl (Nat.le_of_ble_eq_true rfl) dX12_fail_43 ⟨Nat.zero_le _, Nat.zero_le _⟩) (fun H locs hW => ?_)
    exact x_vret X hW h dX12_fail_46
theorem c_X12_fail (l : Launch) (G : xG) (hD : xD G true) (sz : Nat) (S : Mm) (v1 : Int32) (o : Unit × Mm) (h : F_X12_fail v1 S = some o) : Met l yX12_fail wsX12_fail rmX12_fail (xPre G true S sz [.ref (G.2.2 200 0), .int v1]) (xQv G true sz o) 0 0 (XA G true sz) :=
  x_start hD (by decide) rfl (Nat.le_of_ble_eq_true rfl) (fun p e s m below meth c X hW ls hl => w_X12_fail_0 X v1 hW hl h)

/-! WirelessCellModel.goSlot()V -/
def rmX12_goSlot : Room := { frames := 11, cells := 0, slots := 0, locals := 268 }
def L_X12_goSlot_106 (k71 : Int32 → Mm → Option (Unit × Mm)) (v1 : Int32) (v3 : Int32) (S : Mm) : Option (Unit × Mm) :=
  k71 (v3 + 1) S
def L_X12_goSlot_178 (k114 : Int32 → Mm → Option (Unit × Mm)) (v1 : Int32) (v3 : Int32) (S : Mm) : Option (Unit × Mm) :=
  k114 (v3 + 1) S
def L_X12_goSlot_229  (s1 : Int32) (S : Mm) : Option (Unit × Mm) :=
  pf S 299 0 s1 fun S31 =>
  gf S31 298 0 fun x32 =>
  pf S31 298 0 (x32 + 1) fun S33 =>
  some ((), S33)
def L_X12_goSlot_198  (v1 : Int32) (s1 : Int32) (s2 : Int32) (S : Mm) : Option (Unit × Mm) :=
  pf S 300 0 (s1 + s2) fun S28 =>
  if v1 = 0 then (
  L_X12_goSlot_229  0 S28)
  else (
  gf S28 299 0 fun x29 =>
  if 3 ≤ x29 then (
  L_X12_goSlot_229  3 S28)
  else (
  gf S28 299 0 fun x30 =>
  L_X12_goSlot_229  (x30 + 1) S28))
def L_X12_goSlot_184  (v1 : Int32) (S : Mm) : Option (Unit × Mm) :=
  gf S 300 0 fun x27 =>
  if v1 = 0 then (
  L_X12_goSlot_198  v1 x27 0 S)
  else (
  L_X12_goSlot_198  v1 x27 1 S)
def L_X12_goSlot_114  (v1 : Int32) : Nat → Int32 → Mm → Option (Unit × Mm)
  | 0, _, _ => none
  | n + 1, v3, S => 
    if 9 ≤ v3 then (
    L_X12_goSlot_184  v1 S)
    else (
    if v1 = 0 then (
    L_X12_goSlot_184  v1 S)
    else (
    gf S 299 0 fun x20 =>
    if x20 < 3 then (
    L_X12_goSlot_184  v1 S)
    else (
    ldA S 257 0 9 1 v3 fun x21 =>
    if x21 = 0 then (
    ldA S 255 0 9 1 v3 fun x22 =>
    if x22 = 0 then (
    ldA S 234 0 9 1 v3 fun x23 =>
    if x23 ≤ 0 then (
    L_X12_goSlot_178 (L_X12_goSlot_114 v1 n) v1 v3 S)
    else (
    ldA S 248 0 9 1 v3 fun x24 =>
    if x24 ≤ 0 then (
    L_X12_goSlot_178 (L_X12_goSlot_114 v1 n) v1 v3 S)
    else (
    ldA S 248 0 9 1 v3 fun x25 =>
    stA S 248 0 9 1 v3 (x25 - 1) fun S26 =>
    L_X12_goSlot_178 (L_X12_goSlot_114 v1 n) v1 v3 S26)))
    else (
    L_X12_goSlot_178 (L_X12_goSlot_114 v1 n) v1 v3 S))
    else (
    L_X12_goSlot_178 (L_X12_goSlot_114 v1 n) v1 v3 S))))
def L_X12_goSlot_71  (v1 : Int32) : Nat → Int32 → Mm → Option (Unit × Mm)
  | 0, _, _ => none
  | n + 1, v3, S => 
    if 9 ≤ v3 then (
    L_X12_goSlot_114  v1 fu 0 S)
    else (
    ldA S 255 0 9 1 v3 fun x14 =>
    if x14 = 0 then (
    L_X12_goSlot_106 (L_X12_goSlot_71 v1 n) v1 v3 S)
    else (
    gf S 298 0 fun x15 =>
    ldA S 256 0 9 1 v3 fun x16 =>
    if (x15 - x16) = 4 then (
    cl (F_X12_fail v3 S) fun r17 S18 =>
    L_X12_goSlot_106 (L_X12_goSlot_71 v1 n) v1 v3 S18)
    else (
    L_X12_goSlot_106 (L_X12_goSlot_71 v1 n) v1 v3 S)))
def L_X12_goSlot_65  (v1 : Int32) (S : Mm) : Option (Unit × Mm) :=
  cl (F_X12_endAll S) fun r11 S12 =>
  L_X12_goSlot_71  v1 fu 0 S12
def L_X12_goSlot_40  (v1 : Int32) (v2 : Int32) : Nat → Int32 → Mm → Option (Unit × Mm)
  | 0, _, _ => none
  | n + 1, v3, S => 
    gf S 304 0 fun x9 =>
    if x9 ≤ v3 then (
    L_X12_goSlot_65  v1 S)
    else (
    if v2 = 0 then (
    L_X12_goSlot_65  v1 S)
    else (
    stA S 263 0 300 1 v3 (0 &&& 1) fun S10 =>
    (L_X12_goSlot_40 v1 v2 n) (v3 + 1) S10))
def L_X12_goSlot_37  (v1 : Int32) (s0 : Int32) (S : Mm) : Option (Unit × Mm) :=
  L_X12_goSlot_40  v1 s0 fu 0 S
def L_X12_goSlot_32  (v1 : Int32) (S : Mm) : Option (Unit × Mm) :=
  L_X12_goSlot_37  v1 1 S
def L_X12_goSlot_16  (s0 : Int32) (S : Mm) : Option (Unit × Mm) :=
  gf S 304 0 fun x5 =>
  if 1 < x5 then (
  L_X12_goSlot_32  s0 S)
  else (
  cl (F_X12_isNoisy S) fun r6 S7 =>
  if r6 = 0 then (
  L_X12_goSlot_37  s0 0 S7)
  else (
  L_X12_goSlot_32  s0 S7))
def F_X12_goSlot  (S : Mm) : Option (Unit × Mm) :=
  cl (F_X12_begin S) fun r1 S2 =>
  gf S2 304 0 fun x4 =>
  if x4 = 0 then (
  L_X12_goSlot_16  1 S2)
  else (
  L_X12_goSlot_16  0 S2)
set_option maxRecDepth 100000 in
set_option maxHeartbeats 4000000 in
theorem w_X12_goSlot_106 {p : Program} {l : Launch} {e : Env} {s : State} {m : MethodId} {args : Array Value} {below : List Frame} {meth : Method} {c : Code} {G : xG} {sz : Nat} {o : Unit × Mm} (X : xC G true sz p s m args c cX12_goSlot 4 wsX12_goSlot RX12 meth none) (v1 : Int32) (v3 : Int32)  (k71 : Int32 → Mm → Option (Unit × Mm)) (hk71 : ∀ (v3 : Int32) (S : Mm) (H : Heap) (locs : List Loc) (ls : Array Slot), k71 v3 S = some o → xW G true sz s H locs S → lv_has ls 4 [(0, .ref (G.2.2 200 0)), (1, .int v1), (3, .int v3)] → wX p l e rmX12_goSlot s m args below meth c H locs (xQv G true sz o) (XA G true sz) 71 ls []) {S : Mm} {H : Heap} {locs : List Loc} {ls : Array Slot} (hW : xW G true sz s H locs S) (hl : lv_has ls 4 [(0, .ref (G.2.2 200 0)), (1, .int v1), (3, .int v3)]) (h : L_X12_goSlot_106 k71 v1 v3 S = some o) : wX p l e rmX12_goSlot s m args below meth c H locs (xQv G true sz o) (XA G true sz) 106 ls [] := by
  unfold L_X12_goSlot_106 at h
  refine lv_iinc (v := (v3 + 1)) (lv' := [(3, .int (v3 + 1)), (0, .ref (G.2.2 200 0)), (1, .int v1)]) X.1 X.2.1 dX12_goSlot_106 hl (k := 2) rfl rfl (by decide) rfl (fun ls hl => ?_)
  refine lv_goto (tgt := 71) X.1 X.2.1 dX12_goSlot_109 (by decide) ?_
  exact hk71 (v3 + 1) S _ _ _ h hW  (lv_sub hl [1, 2, 0] rfl)
set_option maxRecDepth 100000 in
set_option maxHeartbeats 4000000 in
theorem w_X12_goSlot_178 {p : Program} {l : Launch} {e : Env} {s : State} {m : MethodId} {args : Array Value} {below : List Frame} {meth : Method} {c : Code} {G : xG} {sz : Nat} {o : Unit × Mm} (X : xC G true sz p s m args c cX12_goSlot 4 wsX12_goSlot RX12 meth none) (v1 : Int32) (v3 : Int32)  (k114 : Int32 → Mm → Option (Unit × Mm)) (hk114 : ∀ (v3 : Int32) (S : Mm) (H : Heap) (locs : List Loc) (ls : Array Slot), k114 v3 S = some o → xW G true sz s H locs S → lv_has ls 4 [(0, .ref (G.2.2 200 0)), (1, .int v1), (3, .int v3)] → wX p l e rmX12_goSlot s m args below meth c H locs (xQv G true sz o) (XA G true sz) 114 ls []) {S : Mm} {H : Heap} {locs : List Loc} {ls : Array Slot} (hW : xW G true sz s H locs S) (hl : lv_has ls 4 [(0, .ref (G.2.2 200 0)), (1, .int v1), (3, .int v3)]) (h : L_X12_goSlot_178 k114 v1 v3 S = some o) : wX p l e rmX12_goSlot s m args below meth c H locs (xQv G true sz o) (XA G true sz) 178 ls [] := by
  unfold L_X12_goSlot_178 at h
  refine lv_iinc (v := (v3 + 1)) (lv' := [(3, .int (v3 + 1)), (0, .ref (G.2.2 200 0)), (1, .int v1)]) X.1 X.2.1 dX12_goSlot_178 hl (k := 2) rfl rfl (by decide) rfl (fun ls hl => ?_)
  refine lv_goto (tgt := 114) X.1 X.2.1 dX12_goSlot_181 (by decide) ?_
  exact hk114 (v3 + 1) S _ _ _ h hW  (lv_sub hl [1, 2, 0] rfl)
set_option maxRecDepth 100000 in
set_option maxHeartbeats 4000000 in
theorem w_X12_goSlot_229 {p : Program} {l : Launch} {e : Env} {s : State} {m : MethodId} {args : Array Value} {below : List Frame} {meth : Method} {c : Code} {G : xG} {sz : Nat} {o : Unit × Mm} (X : xC G true sz p s m args c cX12_goSlot 4 wsX12_goSlot RX12 meth none) (s1 : Int32)   {S : Mm} {H : Heap} {locs : List Loc} {ls : Array Slot} (hW : xW G true sz s H locs S) (hl : lv_has ls 4 [(0, .ref (G.2.2 200 0))]) (h : L_X12_goSlot_229  s1 S = some o) : wX p l e rmX12_goSlot s m args below meth c H locs (xQv G true sz o) (XA G true sz) 229 ls [.int s1, .ref (G.2.2 200 0)] := by
  unfold L_X12_goSlot_229 at h
  refine x_putI X hW fd_Model_quiet (fun w h => List.mem_cons_of_mem _ (gin_X12 w h)) (List.mem_cons_of_mem _ gw207) z_1 dX12_goSlot_229 tyX12 tyX12_ok nmX12 rfl rfl rfl h (fun S31 H locs h hW => ?_)
  refine lv_aload_n X.1 X.2.1 dX12_goSlot_232 rfl (lv_at hl 0 rfl) ?_
  refine lv_dup X.1 X.2.1 dX12_goSlot_233 rfl ?_
  refine x_getI X hW fd_Model_slot (fun w h => List.mem_cons_of_mem _ (gin_X12 w h)) (List.mem_cons_of_mem _ gw451) z_1 dX12_goSlot_234 h (fun x32 h => ?_)
  refine lv_iconst (v := 1) X.1 X.2.1 dX12_goSlot_237 rfl ?_
  refine lv_iadd X.1 X.2.1 dX12_goSlot_238 ?_
  refine x_putI X hW fd_Model_slot (fun w h => List.mem_cons_of_mem _ (gin_X12 w h)) (List.mem_cons_of_mem _ gw451) z_1 dX12_goSlot_239 tyX12 tyX12_ok nmX12 rfl rfl rfl h (fun S33 H locs h hW => ?_)
  exact x_vret X hW h dX12_goSlot_242
set_option maxRecDepth 100000 in
set_option maxHeartbeats 4000000 in
theorem w_X12_goSlot_198 {p : Program} {l : Launch} {e : Env} {s : State} {m : MethodId} {args : Array Value} {below : List Frame} {meth : Method} {c : Code} {G : xG} {sz : Nat} {o : Unit × Mm} (X : xC G true sz p s m args c cX12_goSlot 4 wsX12_goSlot RX12 meth none) (v1 : Int32) (s1 : Int32) (s2 : Int32)   {S : Mm} {H : Heap} {locs : List Loc} {ls : Array Slot} (hW : xW G true sz s H locs S) (hl : lv_has ls 4 [(0, .ref (G.2.2 200 0)), (1, .int v1)]) (h : L_X12_goSlot_198  v1 s1 s2 S = some o) : wX p l e rmX12_goSlot s m args below meth c H locs (xQv G true sz o) (XA G true sz) 198 ls [.int s2, .int s1, .ref (G.2.2 200 0)] := by
  unfold L_X12_goSlot_198 at h
  refine lv_iadd X.1 X.2.1 dX12_goSlot_198 ?_
  refine x_putI X hW fd_Model_quietMany (fun w h => List.mem_cons_of_mem _ (gin_X12 w h)) (List.mem_cons_of_mem _ gw1006) z_1 dX12_goSlot_199 tyX12 tyX12_ok nmX12 rfl rfl rfl h (fun S28 H locs h hW => ?_)
  refine lv_aload_n X.1 X.2.1 dX12_goSlot_202 rfl (lv_at hl 0 rfl) ?_
  refine lv_iload_n X.1 X.2.1 dX12_goSlot_203 rfl (lv_at hl 1 rfl) ?_
  refine x_if_eq X (tgt := 228) dX12_goSlot_204 (by decide) h (fun h => ?_) (fun h => ?_)
  · refine lv_iconst (v := 0) X.1 X.2.1 dX12_goSlot_228 rfl ?_
    exact w_X12_goSlot_229 X 0   hW (lv_sub hl [0] rfl) h
  · refine lv_aload_n X.1 X.2.1 dX12_goSlot_207 rfl (lv_at hl 0 rfl) ?_
    refine x_getI X hW fd_Model_quiet (fun w h => List.mem_cons_of_mem _ (gin_X12 w h)) (List.mem_cons_of_mem _ gw207) z_1 dX12_goSlot_208 h (fun x29 h => ?_)
    refine lv_iconst (v := 3) X.1 X.2.1 dX12_goSlot_211 rfl ?_
    refine x_icmp_ge X (tgt := 224) dX12_goSlot_212 (by decide) h (fun h => ?_) (fun h => ?_)
    · refine lv_iconst (v := 3) X.1 X.2.1 dX12_goSlot_224 rfl ?_
      refine lv_goto (tgt := 229) X.1 X.2.1 dX12_goSlot_225 (by decide) ?_
      exact w_X12_goSlot_229 X 3   hW (lv_sub hl [0] rfl) h
    · refine lv_aload_n X.1 X.2.1 dX12_goSlot_215 rfl (lv_at hl 0 rfl) ?_
      refine x_getI X hW fd_Model_quiet (fun w h => List.mem_cons_of_mem _ (gin_X12 w h)) (List.mem_cons_of_mem _ gw207) z_1 dX12_goSlot_216 h (fun x30 h => ?_)
      refine lv_iconst (v := 1) X.1 X.2.1 dX12_goSlot_219 rfl ?_
      refine lv_iadd X.1 X.2.1 dX12_goSlot_220 ?_
      refine lv_goto (tgt := 229) X.1 X.2.1 dX12_goSlot_221 (by decide) ?_
      exact w_X12_goSlot_229 X (x30 + 1)   hW (lv_sub hl [0] rfl) h
set_option maxRecDepth 100000 in
set_option maxHeartbeats 4000000 in
theorem w_X12_goSlot_184 {p : Program} {l : Launch} {e : Env} {s : State} {m : MethodId} {args : Array Value} {below : List Frame} {meth : Method} {c : Code} {G : xG} {sz : Nat} {o : Unit × Mm} (X : xC G true sz p s m args c cX12_goSlot 4 wsX12_goSlot RX12 meth none) (v1 : Int32)   {S : Mm} {H : Heap} {locs : List Loc} {ls : Array Slot} (hW : xW G true sz s H locs S) (hl : lv_has ls 4 [(0, .ref (G.2.2 200 0)), (1, .int v1)]) (h : L_X12_goSlot_184  v1 S = some o) : wX p l e rmX12_goSlot s m args below meth c H locs (xQv G true sz o) (XA G true sz) 184 ls [] := by
  unfold L_X12_goSlot_184 at h
  refine lv_aload_n X.1 X.2.1 dX12_goSlot_184 rfl (lv_at hl 0 rfl) ?_
  refine lv_dup X.1 X.2.1 dX12_goSlot_185 rfl ?_
  refine x_getI X hW fd_Model_quietMany (fun w h => List.mem_cons_of_mem _ (gin_X12 w h)) (List.mem_cons_of_mem _ gw1006) z_1 dX12_goSlot_186 h (fun x27 h => ?_)
  refine lv_iload_n X.1 X.2.1 dX12_goSlot_189 rfl (lv_at hl 1 rfl) ?_
  refine x_if_eq X (tgt := 197) dX12_goSlot_190 (by decide) h (fun h => ?_) (fun h => ?_)
  · refine lv_iconst (v := 0) X.1 X.2.1 dX12_goSlot_197 rfl ?_
    exact w_X12_goSlot_198 X v1 x27 0   hW (lv_sub hl [0, 1] rfl) h
  · refine lv_iconst (v := 1) X.1 X.2.1 dX12_goSlot_193 rfl ?_
    refine lv_goto (tgt := 198) X.1 X.2.1 dX12_goSlot_194 (by decide) ?_
    exact w_X12_goSlot_198 X v1 x27 1   hW (lv_sub hl [0, 1] rfl) h
set_option maxRecDepth 100000 in
set_option maxHeartbeats 4000000 in
theorem w_X12_goSlot_114 {p : Program} {l : Launch} {e : Env} {s : State} {m : MethodId} {args : Array Value} {below : List Frame} {meth : Method} {c : Code} {G : xG} {sz : Nat} {o : Unit × Mm} (X : xC G true sz p s m args c cX12_goSlot 4 wsX12_goSlot RX12 meth none) (v1 : Int32)   : ∀ (n : Nat) (v3 : Int32) (S : Mm) (H : Heap) (locs : List Loc) (ls : Array Slot), L_X12_goSlot_114 v1 n v3 S = some o → xW G true sz s H locs S → lv_has ls 4 [(0, .ref (G.2.2 200 0)), (1, .int v1), (3, .int v3)] → wX p l e rmX12_goSlot s m args below meth c H locs (xQv G true sz o) (XA G true sz) 114 ls [] := by
  intro n
  induction n with
  | zero =>
    intro v3 S H locs ls h
    cases h
  | succ n ih =>
    intro v3 S H locs ls h hW  hl
    rw [L_X12_goSlot_114] at h
    refine lv_iload_n X.1 X.2.1 dX12_goSlot_114 rfl (lv_at hl 2 rfl) ?_
    refine lv_bipush (v := 9) X.1 X.2.1 dX12_goSlot_115 rfl ?_
    refine x_icmp_ge X (tgt := 184) dX12_goSlot_117 (by decide) h (fun h => ?_) (fun h => ?_)
    · exact w_X12_goSlot_184 X v1   hW (lv_sub hl [0, 1] rfl) h
    · refine lv_iload_n X.1 X.2.1 dX12_goSlot_120 rfl (lv_at hl 1 rfl) ?_
      refine x_if_eq X (tgt := 184) dX12_goSlot_121 (by decide) h (fun h => ?_) (fun h => ?_)
      · exact w_X12_goSlot_184 X v1   hW (lv_sub hl [0, 1] rfl) h
      · refine lv_aload_n X.1 X.2.1 dX12_goSlot_124 rfl (lv_at hl 0 rfl) ?_
        refine x_getI X hW fd_Model_quiet (fun w h => List.mem_cons_of_mem _ (gin_X12 w h)) (List.mem_cons_of_mem _ gw207) z_1 dX12_goSlot_125 h (fun x20 h => ?_)
        refine lv_iconst (v := 3) X.1 X.2.1 dX12_goSlot_128 rfl ?_
        refine x_icmp_lt X (tgt := 184) dX12_goSlot_129 (by decide) h (fun h => ?_) (fun h => ?_)
        · exact w_X12_goSlot_184 X v1   hW (lv_sub hl [0, 1] rfl) h
        · refine lv_aload_n X.1 X.2.1 dX12_goSlot_132 rfl (lv_at hl 0 rfl) ?_
          refine x_getR X hW fd_Model_due (fun w h => List.mem_cons_of_mem _ (gin_X12 w h)) (List.mem_cons_of_mem _ gw211) z_1 dX12_goSlot_133 ?_
          refine lv_iload_n X.1 X.2.1 dX12_goSlot_136 rfl (lv_at hl 2 rfl) ?_
          refine x_iald X hW ar_257 dX12_goSlot_137 h (fun x21 h => ?_)
          refine x_if_ne X (tgt := 178) dX12_goSlot_138 (by decide) h (fun h => ?_) (fun h => ?_)
          · exact w_X12_goSlot_178 X v1 v3  (L_X12_goSlot_114 v1 n) ih hW (lv_sub hl [0, 1, 2] rfl) h
          · refine lv_aload_n X.1 X.2.1 dX12_goSlot_141 rfl (lv_at hl 0 rfl) ?_
            refine x_getR X hW fd_Model_waits (fun w h => List.mem_cons_of_mem _ (gin_X12 w h)) (List.mem_cons_of_mem _ gw209) z_1 dX12_goSlot_142 ?_
            refine lv_iload_n X.1 X.2.1 dX12_goSlot_145 rfl (lv_at hl 2 rfl) ?_
            refine x_zald X hW ar_255 dX12_goSlot_146 h (fun x22 h => ?_)
            refine x_if_ne X (tgt := 178) dX12_goSlot_147 (by decide) h (fun h => ?_) (fun h => ?_)
            · exact w_X12_goSlot_178 X v1 v3  (L_X12_goSlot_114 v1 n) ih hW (lv_sub hl [0, 1, 2] rfl) h
            · refine lv_aload_n X.1 X.2.1 dX12_goSlot_150 rfl (lv_at hl 0 rfl) ?_
              refine x_getR X hW fd_Model_qMany (fun w h => List.mem_cons_of_mem _ (gin_X12 w h)) (List.mem_cons_of_mem _ gw185) z_1 dX12_goSlot_151 ?_
              refine lv_iload_n X.1 X.2.1 dX12_goSlot_154 rfl (lv_at hl 2 rfl) ?_
              refine x_iald X hW ar_234 dX12_goSlot_155 h (fun x23 h => ?_)
              refine x_if_le X (tgt := 178) dX12_goSlot_156 (by decide) h (fun h => ?_) (fun h => ?_)
              · exact w_X12_goSlot_178 X v1 v3  (L_X12_goSlot_114 v1 n) ih hW (lv_sub hl [0, 1, 2] rfl) h
              · refine lv_aload_n X.1 X.2.1 dX12_goSlot_159 rfl (lv_at hl 0 rfl) ?_
                refine x_getR X hW fd_Model_backoff (fun w h => List.mem_cons_of_mem _ (gin_X12 w h)) (List.mem_cons_of_mem _ gw199) z_1 dX12_goSlot_160 ?_
                refine lv_iload_n X.1 X.2.1 dX12_goSlot_163 rfl (lv_at hl 2 rfl) ?_
                refine x_iald X hW ar_248 dX12_goSlot_164 h (fun x24 h => ?_)
                refine x_if_le X (tgt := 178) dX12_goSlot_165 (by decide) h (fun h => ?_) (fun h => ?_)
                · exact w_X12_goSlot_178 X v1 v3  (L_X12_goSlot_114 v1 n) ih hW (lv_sub hl [0, 1, 2] rfl) h
                · refine lv_aload_n X.1 X.2.1 dX12_goSlot_168 rfl (lv_at hl 0 rfl) ?_
                  refine x_getR X hW fd_Model_backoff (fun w h => List.mem_cons_of_mem _ (gin_X12 w h)) (List.mem_cons_of_mem _ gw199) z_1 dX12_goSlot_169 ?_
                  refine lv_iload_n X.1 X.2.1 dX12_goSlot_172 rfl (lv_at hl 2 rfl) ?_
                  refine lv_dup2_11 X.1 X.2.1 dX12_goSlot_173 rfl rfl ?_
                  refine x_iald X hW ar_248 dX12_goSlot_174 h (fun x25 h => ?_)
                  refine lv_iconst (v := 1) X.1 X.2.1 dX12_goSlot_175 rfl ?_
                  refine lv_isub X.1 X.2.1 dX12_goSlot_176 ?_
                  refine x_iast X hW ar_248 dX12_goSlot_177 h (fun S26 H locs h hW => ?_)
                  exact w_X12_goSlot_178 X v1 v3  (L_X12_goSlot_114 v1 n) ih hW (lv_sub hl [0, 1, 2] rfl) h
set_option maxRecDepth 100000 in
set_option maxHeartbeats 4000000 in
theorem w_X12_goSlot_71 {p : Program} {l : Launch} {e : Env} {s : State} {m : MethodId} {args : Array Value} {below : List Frame} {meth : Method} {c : Code} {G : xG} {sz : Nat} {o : Unit × Mm} (X : xC G true sz p s m args c cX12_goSlot 4 wsX12_goSlot RX12 meth none) (v1 : Int32)   : ∀ (n : Nat) (v3 : Int32) (S : Mm) (H : Heap) (locs : List Loc) (ls : Array Slot), L_X12_goSlot_71 v1 n v3 S = some o → xW G true sz s H locs S → lv_has ls 4 [(0, .ref (G.2.2 200 0)), (1, .int v1), (3, .int v3)] → wX p l e rmX12_goSlot s m args below meth c H locs (xQv G true sz o) (XA G true sz) 71 ls [] := by
  intro n
  induction n with
  | zero =>
    intro v3 S H locs ls h
    cases h
  | succ n ih =>
    intro v3 S H locs ls h hW  hl
    rw [L_X12_goSlot_71] at h
    refine lv_iload_n X.1 X.2.1 dX12_goSlot_71 rfl (lv_at hl 2 rfl) ?_
    refine lv_bipush (v := 9) X.1 X.2.1 dX12_goSlot_72 rfl ?_
    refine x_icmp_ge X (tgt := 112) dX12_goSlot_74 (by decide) h (fun h => ?_) (fun h => ?_)
    · refine lv_iconst (v := 0) X.1 X.2.1 dX12_goSlot_112 rfl ?_
      refine lv_istore_n (lv' := [(3, .int 0), (0, .ref (G.2.2 200 0)), (1, .int v1)]) X.1 X.2.1 dX12_goSlot_113 rfl hl (by decide) rfl (fun ls hl => ?_)
      exact w_X12_goSlot_114 X v1   fu 0 S _ _ _ h hW  (lv_sub hl [1, 2, 0] rfl)
    · refine lv_aload_n X.1 X.2.1 dX12_goSlot_77 rfl (lv_at hl 0 rfl) ?_
      refine x_getR X hW fd_Model_waits (fun w h => List.mem_cons_of_mem _ (gin_X12 w h)) (List.mem_cons_of_mem _ gw209) z_1 dX12_goSlot_78 ?_
      refine lv_iload_n X.1 X.2.1 dX12_goSlot_81 rfl (lv_at hl 2 rfl) ?_
      refine x_zald X hW ar_255 dX12_goSlot_82 h (fun x14 h => ?_)
      refine x_if_eq X (tgt := 106) dX12_goSlot_83 (by decide) h (fun h => ?_) (fun h => ?_)
      · exact w_X12_goSlot_106 X v1 v3  (L_X12_goSlot_71 v1 n) ih hW (lv_sub hl [0, 1, 2] rfl) h
      · refine lv_aload_n X.1 X.2.1 dX12_goSlot_86 rfl (lv_at hl 0 rfl) ?_
        refine x_getI X hW fd_Model_slot (fun w h => List.mem_cons_of_mem _ (gin_X12 w h)) (List.mem_cons_of_mem _ gw451) z_1 dX12_goSlot_87 h (fun x15 h => ?_)
        refine lv_aload_n X.1 X.2.1 dX12_goSlot_90 rfl (lv_at hl 0 rfl) ?_
        refine x_getR X hW fd_Model_waitsFrom (fun w h => List.mem_cons_of_mem _ (gin_X12 w h)) (List.mem_cons_of_mem _ gw210) z_1 dX12_goSlot_91 ?_
        refine lv_iload_n X.1 X.2.1 dX12_goSlot_94 rfl (lv_at hl 2 rfl) ?_
        refine x_iald X hW ar_256 dX12_goSlot_95 h (fun x16 h => ?_)
        refine lv_isub X.1 X.2.1 dX12_goSlot_96 ?_
        refine lv_iconst (v := 4) X.1 X.2.1 dX12_goSlot_97 rfl ?_
        refine x_icmp_ne X (tgt := 106) dX12_goSlot_98 (by decide) h (fun h => ?_) (fun h => ?_)
        · exact w_X12_goSlot_106 X v1 v3  (L_X12_goSlot_71 v1 n) ih hW (lv_sub hl [0, 1, 2] rfl) h
        · refine lv_aload_n X.1 X.2.1 dX12_goSlot_101 rfl (lv_at hl 0 rfl) ?_
          refine lv_iload_n X.1 X.2.1 dX12_goSlot_102 rfl (lv_at hl 2 rfl) ?_
          obtain ⟨r17, S18, h19, h⟩ := cl_some h
          refine x_aftV X hW (x_runV (C := RX12) (a := G.2.2 200 0) (As := [.int v3]) (rest := []) X hW (c_X12_fail l G X.2.2.2.2.2.2.2.2.2.1 _ S v3 _ h19) (cwV 1 X.2.2.2.2.1 (gV gw1237 gw1238 gw1239 gw5 gw1240) rfl rfl rfl ⟨rfl, hd_X12_fail⟩ ⟨Nat.le_of_ble_eq_true rfl, Nat.le_of_ble_eq_true rfl⟩) (x_recv X hW ob_Model z_1) rfl hl.1 rfl (Nat.le_of_ble_eq_true rfl) dX12_goSlot_103 ⟨Nat.zero_le _, Nat.zero_le _⟩) (fun H locs hW => ?_)
          exact w_X12_goSlot_106 X v1 v3  (L_X12_goSlot_71 v1 n) ih hW (lv_sub hl [0, 1, 2] rfl) h
set_option maxRecDepth 100000 in
set_option maxHeartbeats 4000000 in
theorem w_X12_goSlot_65 {p : Program} {l : Launch} {e : Env} {s : State} {m : MethodId} {args : Array Value} {below : List Frame} {meth : Method} {c : Code} {G : xG} {sz : Nat} {o : Unit × Mm} (X : xC G true sz p s m args c cX12_goSlot 4 wsX12_goSlot RX12 meth none) (v1 : Int32)   {S : Mm} {H : Heap} {locs : List Loc} {ls : Array Slot} (hW : xW G true sz s H locs S) (hl : lv_has ls 4 [(0, .ref (G.2.2 200 0)), (1, .int v1)]) (h : L_X12_goSlot_65  v1 S = some o) : wX p l e rmX12_goSlot s m args below meth c H locs (xQv G true sz o) (XA G true sz) 65 ls [] := by
  unfold L_X12_goSlot_65 at h
  refine lv_aload_n X.1 X.2.1 dX12_goSlot_65 rfl (lv_at hl 0 rfl) ?_
  obtain ⟨r11, S12, h13, h⟩ := cl_some h
  refine x_aftV X hW (x_runV (C := RX12) (a := G.2.2 200 0) (As := []) (rest := []) X hW (c_X12_endAll l G X.2.2.2.2.2.2.2.2.2.1 _ S _ h13) (cwV 0 X.2.2.2.2.1 (gV gw1089 gw1090 gw1091 gw5 gw1092) rfl rfl rfl ⟨rfl, hd_X12_endAll⟩ ⟨Nat.le_of_ble_eq_true rfl, Nat.le_of_ble_eq_true rfl⟩) (x_recv X hW ob_Model z_1) rfl hl.1 rfl (Nat.le_of_ble_eq_true rfl) dX12_goSlot_66 ⟨Nat.zero_le _, Nat.zero_le _⟩) (fun H locs hW => ?_)
  refine lv_iconst (v := 0) X.1 X.2.1 dX12_goSlot_69 rfl ?_
  refine lv_istore_n (lv' := [(3, .int 0), (0, .ref (G.2.2 200 0)), (1, .int v1)]) X.1 X.2.1 dX12_goSlot_70 rfl hl (by decide) rfl (fun ls hl => ?_)
  exact w_X12_goSlot_71 X v1   fu 0 S12 _ _ _ h hW  (lv_sub hl [1, 2, 0] rfl)
set_option maxRecDepth 100000 in
set_option maxHeartbeats 4000000 in
theorem w_X12_goSlot_40 {p : Program} {l : Launch} {e : Env} {s : State} {m : MethodId} {args : Array Value} {below : List Frame} {meth : Method} {c : Code} {G : xG} {sz : Nat} {o : Unit × Mm} (X : xC G true sz p s m args c cX12_goSlot 4 wsX12_goSlot RX12 meth none) (v1 : Int32) (v2 : Int32)   : ∀ (n : Nat) (v3 : Int32) (S : Mm) (H : Heap) (locs : List Loc) (ls : Array Slot), L_X12_goSlot_40 v1 v2 n v3 S = some o → xW G true sz s H locs S → lv_has ls 4 [(0, .ref (G.2.2 200 0)), (1, .int v1), (2, .int v2), (3, .int v3)] → wX p l e rmX12_goSlot s m args below meth c H locs (xQv G true sz o) (XA G true sz) 40 ls [] := by
  intro n
  induction n with
  | zero =>
    intro v3 S H locs ls h
    cases h
  | succ n ih =>
    intro v3 S H locs ls h hW  hl
    rw [L_X12_goSlot_40] at h
    refine lv_iload_n X.1 X.2.1 dX12_goSlot_40 rfl (lv_at hl 3 rfl) ?_
    refine lv_aload_n X.1 X.2.1 dX12_goSlot_41 rfl (lv_at hl 0 rfl) ?_
    refine x_getI X hW fd_Model_live (fun w h => List.mem_cons_of_mem _ (gin_X12 w h)) (List.mem_cons_of_mem _ gw1005) z_1 dX12_goSlot_42 h (fun x9 h => ?_)
    refine x_icmp_ge X (tgt := 65) dX12_goSlot_45 (by decide) h (fun h => ?_) (fun h => ?_)
    · exact w_X12_goSlot_65 X v1   hW (lv_sub hl [0, 1] rfl) h
    · refine lv_iload_n X.1 X.2.1 dX12_goSlot_48 rfl (lv_at hl 2 rfl) ?_
      refine x_if_eq X (tgt := 65) dX12_goSlot_49 (by decide) h (fun h => ?_) (fun h => ?_)
      · exact w_X12_goSlot_65 X v1   hW (lv_sub hl [0, 1] rfl) h
      · refine lv_aload_n X.1 X.2.1 dX12_goSlot_52 rfl (lv_at hl 0 rfl) ?_
        refine x_getR X hW fd_Model_vClean (fun w h => List.mem_cons_of_mem _ (gin_X12 w h)) (List.mem_cons_of_mem _ gw217) z_1 dX12_goSlot_53 ?_
        refine lv_iload_n X.1 X.2.1 dX12_goSlot_56 rfl (lv_at hl 3 rfl) ?_
        refine lv_iconst (v := 0) X.1 X.2.1 dX12_goSlot_57 rfl ?_
        refine x_zast X hW ar_263 dX12_goSlot_58 h (fun S10 H locs h hW => ?_)
        refine lv_iinc (v := (v3 + 1)) (lv' := [(3, .int (v3 + 1)), (0, .ref (G.2.2 200 0)), (1, .int v1), (2, .int v2)]) X.1 X.2.1 dX12_goSlot_59 hl (k := 3) rfl rfl (by decide) rfl (fun ls hl => ?_)
        refine lv_goto (tgt := 40) X.1 X.2.1 dX12_goSlot_62 (by decide) ?_
        exact ih (v3 + 1) S10 _ _ _ h hW  (lv_sub hl [1, 2, 3, 0] rfl)
set_option maxRecDepth 100000 in
set_option maxHeartbeats 4000000 in
theorem w_X12_goSlot_37 {p : Program} {l : Launch} {e : Env} {s : State} {m : MethodId} {args : Array Value} {below : List Frame} {meth : Method} {c : Code} {G : xG} {sz : Nat} {o : Unit × Mm} (X : xC G true sz p s m args c cX12_goSlot 4 wsX12_goSlot RX12 meth none) (v1 : Int32) (s0 : Int32)   {S : Mm} {H : Heap} {locs : List Loc} {ls : Array Slot} (hW : xW G true sz s H locs S) (hl : lv_has ls 4 [(0, .ref (G.2.2 200 0)), (1, .int v1)]) (h : L_X12_goSlot_37  v1 s0 S = some o) : wX p l e rmX12_goSlot s m args below meth c H locs (xQv G true sz o) (XA G true sz) 37 ls [.int s0] := by
  unfold L_X12_goSlot_37 at h
  refine lv_istore_n (lv' := [(2, .int s0), (0, .ref (G.2.2 200 0)), (1, .int v1)]) X.1 X.2.1 dX12_goSlot_37 rfl hl (by decide) rfl (fun ls hl => ?_)
  refine lv_iconst (v := 0) X.1 X.2.1 dX12_goSlot_38 rfl ?_
  refine lv_istore_n (lv' := [(3, .int 0), (2, .int s0), (0, .ref (G.2.2 200 0)), (1, .int v1)]) X.1 X.2.1 dX12_goSlot_39 rfl hl (by decide) rfl (fun ls hl => ?_)
  exact w_X12_goSlot_40 X v1 s0   fu 0 S _ _ _ h hW  (lv_sub hl [2, 3, 1, 0] rfl)
set_option maxRecDepth 100000 in
set_option maxHeartbeats 4000000 in
theorem w_X12_goSlot_32 {p : Program} {l : Launch} {e : Env} {s : State} {m : MethodId} {args : Array Value} {below : List Frame} {meth : Method} {c : Code} {G : xG} {sz : Nat} {o : Unit × Mm} (X : xC G true sz p s m args c cX12_goSlot 4 wsX12_goSlot RX12 meth none) (v1 : Int32)   {S : Mm} {H : Heap} {locs : List Loc} {ls : Array Slot} (hW : xW G true sz s H locs S) (hl : lv_has ls 4 [(0, .ref (G.2.2 200 0)), (1, .int v1)]) (h : L_X12_goSlot_32  v1 S = some o) : wX p l e rmX12_goSlot s m args below meth c H locs (xQv G true sz o) (XA G true sz) 32 ls [] := by
  unfold L_X12_goSlot_32 at h
  refine lv_iconst (v := 1) X.1 X.2.1 dX12_goSlot_32 rfl ?_
  refine lv_goto (tgt := 37) X.1 X.2.1 dX12_goSlot_33 (by decide) ?_
  exact w_X12_goSlot_37 X v1 1   hW (lv_sub hl [0, 1] rfl) h
set_option maxRecDepth 100000 in
set_option maxHeartbeats 4000000 in
theorem w_X12_goSlot_16 {p : Program} {l : Launch} {e : Env} {s : State} {m : MethodId} {args : Array Value} {below : List Frame} {meth : Method} {c : Code} {G : xG} {sz : Nat} {o : Unit × Mm} (X : xC G true sz p s m args c cX12_goSlot 4 wsX12_goSlot RX12 meth none) (s0 : Int32)   {S : Mm} {H : Heap} {locs : List Loc} {ls : Array Slot} (hW : xW G true sz s H locs S) (hl : lv_has ls 4 [(0, .ref (G.2.2 200 0))]) (h : L_X12_goSlot_16  s0 S = some o) : wX p l e rmX12_goSlot s m args below meth c H locs (xQv G true sz o) (XA G true sz) 16 ls [.int s0] := by
  unfold L_X12_goSlot_16 at h
  refine lv_istore_n (lv' := [(1, .int s0), (0, .ref (G.2.2 200 0))]) X.1 X.2.1 dX12_goSlot_16 rfl hl (by decide) rfl (fun ls hl => ?_)
  refine lv_aload_n X.1 X.2.1 dX12_goSlot_17 rfl (lv_at hl 1 rfl) ?_
  refine x_getI X hW fd_Model_live (fun w h => List.mem_cons_of_mem _ (gin_X12 w h)) (List.mem_cons_of_mem _ gw1005) z_1 dX12_goSlot_18 h (fun x5 h => ?_)
  refine lv_iconst (v := 1) X.1 X.2.1 dX12_goSlot_21 rfl ?_
  refine x_icmp_gt X (tgt := 32) dX12_goSlot_22 (by decide) h (fun h => ?_) (fun h => ?_)
  · exact w_X12_goSlot_32 X s0   hW (lv_sub hl [1, 0] rfl) h
  · refine lv_aload_n X.1 X.2.1 dX12_goSlot_25 rfl (lv_at hl 1 rfl) ?_
    obtain ⟨r6, S7, h8, h⟩ := cl_some h
    refine x_aftI X hW (x_runV (C := RX12) (a := G.2.2 200 0) (As := []) (rest := []) X hW (c_X12_isNoisy l G X.2.2.2.2.2.2.2.2.2.1 _ S _ h8) (cwV 0 X.2.2.2.2.1 (gV gw1085 gw1086 gw1087 gw5 gw1088) rfl rfl rfl ⟨rfl, hd_X12_isNoisy⟩ ⟨Nat.le_of_ble_eq_true rfl, Nat.le_of_ble_eq_true rfl⟩) (x_recv X hW ob_Model z_1) rfl hl.1 rfl (Nat.le_of_ble_eq_true rfl) dX12_goSlot_26 ⟨Nat.zero_le _, Nat.zero_le _⟩) (fun H locs hW => ?_)
    refine x_if_eq X (tgt := 36) dX12_goSlot_29 (by decide) h (fun h => ?_) (fun h => ?_)
    · refine lv_iconst (v := 0) X.1 X.2.1 dX12_goSlot_36 rfl ?_
      exact w_X12_goSlot_37 X s0 0   hW (lv_sub hl [1, 0] rfl) h
    · exact w_X12_goSlot_32 X s0   hW (lv_sub hl [1, 0] rfl) h
set_option maxRecDepth 100000 in
set_option maxHeartbeats 4000000 in
theorem w_X12_goSlot_0 {p : Program} {l : Launch} {e : Env} {s : State} {m : MethodId} {args : Array Value} {below : List Frame} {meth : Method} {c : Code} {G : xG} {sz : Nat} {o : Unit × Mm} (X : xC G true sz p s m args c cX12_goSlot 4 wsX12_goSlot RX12 meth none)  {S : Mm} {H : Heap} {locs : List Loc} {ls : Array Slot} (hW : xW G true sz s H locs S) (hl : lv_has ls 4 [(0, .ref (G.2.2 200 0))]) (h : F_X12_goSlot  S = some o) : wX p l e rmX12_goSlot s m args below meth c H locs (xQv G true sz o) (XA G true sz) 0 ls [] := by
  unfold F_X12_goSlot at h
  refine lv_aload_n X.1 X.2.1 dX12_goSlot_0 rfl (lv_at hl 0 rfl) ?_
  obtain ⟨r1, S2, h3, h⟩ := cl_some h
  refine x_aftV X hW (x_runV (C := RX12) (a := G.2.2 200 0) (As := []) (rest := []) X hW (c_X12_begin l G X.2.2.2.2.2.2.2.2.2.1 _ S _ h3) (cwV 0 X.2.2.2.2.1 (gV gw1007 gw1008 gw1009 gw5 gw1010) rfl rfl rfl ⟨rfl, hd_X12_begin⟩ ⟨Nat.le_of_ble_eq_true rfl, Nat.le_of_ble_eq_true rfl⟩) (x_recv X hW ob_Model z_1) rfl hl.1 rfl (Nat.le_of_ble_eq_true rfl) dX12_goSlot_1 ⟨Nat.zero_le _, Nat.zero_le _⟩) (fun H locs hW => ?_)
  refine lv_aload_n X.1 X.2.1 dX12_goSlot_4 rfl (lv_at hl 0 rfl) ?_
  refine x_getI X hW fd_Model_live (fun w h => List.mem_cons_of_mem _ (gin_X12 w h)) (List.mem_cons_of_mem _ gw1005) z_1 dX12_goSlot_5 h (fun x4 h => ?_)
  refine x_if_ne X (tgt := 15) dX12_goSlot_8 (by decide) h (fun h => ?_) (fun h => ?_)
  · refine lv_iconst (v := 0) X.1 X.2.1 dX12_goSlot_15 rfl ?_
    exact w_X12_goSlot_16 X 0   hW (lv_sub hl [0] rfl) h
  · refine lv_iconst (v := 1) X.1 X.2.1 dX12_goSlot_11 rfl ?_
    refine lv_goto (tgt := 16) X.1 X.2.1 dX12_goSlot_12 (by decide) ?_
    exact w_X12_goSlot_16 X 1   hW (lv_sub hl [0] rfl) h
theorem c_X12_goSlot (l : Launch) (G : xG) (hD : xD G true) (sz : Nat) (S : Mm)  (o : Unit × Mm) (h : F_X12_goSlot  S = some o) : Met l yX12_goSlot wsX12_goSlot rmX12_goSlot (xPre G true S sz [.ref (G.2.2 200 0)]) (xQv G true sz o) 0 0 (XA G true sz) :=
  x_start hD (by decide) rfl (Nat.le_of_ble_eq_true rfl) (fun p e s m below meth c X hW ls hl => w_X12_goSlot_0 X  hW hl h)

/-! WirelessCellModel.isKept(I)Z -/
def rmX12_isKept : Room := { frames := 0, cells := 0, slots := 0, locals := 0 }
def L_X12_isKept_22   (S : Mm) : Option (Int32 × Mm) :=
  some (0, S)
def F_X12_isKept (v1 : Int32) (S : Mm) : Option (Int32 × Mm) :=
  if v1 < 0 then (
  L_X12_isKept_22  S)
  else (
  if 40 ≤ v1 then (
  L_X12_isKept_22  S)
  else (
  gf S 301 0 fun x1 =>
  if x1 ≤ v1 then (
  L_X12_isKept_22  S)
  else (
  some (1, S))))
set_option maxRecDepth 100000 in
set_option maxHeartbeats 4000000 in
theorem w_X12_isKept_22 {p : Program} {l : Launch} {e : Env} {s : State} {m : MethodId} {args : Array Value} {below : List Frame} {meth : Method} {c : Code} {G : xG} {sz : Nat} {o : Int32 × Mm} (X : xC G true sz p s m args c cX12_isKept 2 wsX12_isKept RX12 meth (some .boolean))    {S : Mm} {H : Heap} {locs : List Loc} {ls : Array Slot} (hW : xW G true sz s H locs S) (hl : lv_has ls 2 []) (h : L_X12_isKept_22   S = some o) : wX p l e rmX12_isKept s m args below meth c H locs (xQi G true sz o) (XA G true sz) 22 ls [] := by
  unfold L_X12_isKept_22 at h
  refine lv_iconst (v := 0) X.1 X.2.1 dX12_isKept_22 rfl ?_
  exact x_zret X hW h rfl dX12_isKept_23
set_option maxRecDepth 100000 in
set_option maxHeartbeats 4000000 in
theorem w_X12_isKept_0 {p : Program} {l : Launch} {e : Env} {s : State} {m : MethodId} {args : Array Value} {below : List Frame} {meth : Method} {c : Code} {G : xG} {sz : Nat} {o : Int32 × Mm} (X : xC G true sz p s m args c cX12_isKept 2 wsX12_isKept RX12 meth (some .boolean)) (v1 : Int32) {S : Mm} {H : Heap} {locs : List Loc} {ls : Array Slot} (hW : xW G true sz s H locs S) (hl : lv_has ls 2 [(0, .ref (G.2.2 200 0)), (1, .int v1)]) (h : F_X12_isKept v1 S = some o) : wX p l e rmX12_isKept s m args below meth c H locs (xQi G true sz o) (XA G true sz) 0 ls [] := by
  unfold F_X12_isKept at h
  refine lv_iload_n X.1 X.2.1 dX12_isKept_0 rfl (lv_at hl 1 rfl) ?_
  refine x_if_lt X (tgt := 22) dX12_isKept_1 (by decide) h (fun h => ?_) (fun h => ?_)
  · exact w_X12_isKept_22 X    hW (lv_sub hl [] rfl) h
  · refine lv_iload_n X.1 X.2.1 dX12_isKept_4 rfl (lv_at hl 1 rfl) ?_
    refine lv_bipush (v := 40) X.1 X.2.1 dX12_isKept_5 rfl ?_
    refine x_icmp_ge X (tgt := 22) dX12_isKept_7 (by decide) h (fun h => ?_) (fun h => ?_)
    · exact w_X12_isKept_22 X    hW (lv_sub hl [] rfl) h
    · refine lv_iload_n X.1 X.2.1 dX12_isKept_10 rfl (lv_at hl 1 rfl) ?_
      refine lv_aload_n X.1 X.2.1 dX12_isKept_11 rfl (lv_at hl 0 rfl) ?_
      refine x_getI X hW fd_Model_began (fun w h => List.mem_cons_of_mem _ (gin_X12 w h)) (List.mem_cons_of_mem _ gw341) z_1 dX12_isKept_12 h (fun x1 h => ?_)
      refine x_icmp_ge X (tgt := 22) dX12_isKept_15 (by decide) h (fun h => ?_) (fun h => ?_)
      · exact w_X12_isKept_22 X    hW (lv_sub hl [] rfl) h
      · refine lv_iconst (v := 1) X.1 X.2.1 dX12_isKept_18 rfl ?_
        refine lv_goto (tgt := 23) X.1 X.2.1 dX12_isKept_19 (by decide) ?_
        exact x_zret X hW h rfl dX12_isKept_23
theorem c_X12_isKept (l : Launch) (G : xG) (hD : xD G true) (sz : Nat) (S : Mm) (v1 : Int32) (o : Int32 × Mm) (h : F_X12_isKept v1 S = some o) : Met l yX12_isKept wsX12_isKept rmX12_isKept (xPre G true S sz [.ref (G.2.2 200 0), .int v1]) (xQi G true sz o) 0 0 (XA G true sz) :=
  x_start hD (by decide) rfl (Nat.le_of_ble_eq_true rfl) (fun p e s m below meth c X hW ls hl => w_X12_isKept_0 X v1 hW hl h)

/-! WirelessCellModel.copy(I)I -/
def rmX12_copy : Room := { frames := 1, cells := 0, slots := 0, locals := 21 }
def L_X12_copy_39  (v2 : Int32) : Nat → Int32 → Mm → Option (Int32 × Mm)
  | 0, _, _ => none
  | n + 1, v3, S => 
    gf S 291 0 fun x9 =>
    if x9 ≤ v3 then (
    gf S 291 0 fun x10 =>
    some (x10, S))
    else (
    ldA S 271 0 12000 1 ((300 * v2) + v3) fun x11 =>
    stA S 215 0 300 1 v3 x11 fun S12 =>
    (L_X12_copy_39 v2 n) (v3 + 1) S12)
def F_X12_copy (v1 : Int32) (S : Mm) : Option (Int32 × Mm) :=
  pf S 288 0 0 fun S1 =>
  cl (F_X12_isKept v1 S1) fun r2 S3 =>
  if r2 = 0 then (
  some ((-1), S3))
  else (
  gf S3 301 0 fun x5 =>
  tp (((x5 - 1) - v1) - ((x5 - 1) - v1) / 40 * 40) fun x6 =>
  ldA S3 268 0 40 1 x6 fun x7 =>
  pf S3 291 0 x7 fun S8 =>
  L_X12_copy_39  x6 fu 0 S8)
set_option maxRecDepth 100000 in
set_option maxHeartbeats 4000000 in
theorem w_X12_copy_39 {p : Program} {l : Launch} {e : Env} {s : State} {m : MethodId} {args : Array Value} {below : List Frame} {meth : Method} {c : Code} {G : xG} {sz : Nat} {o : Int32 × Mm} (X : xC G true sz p s m args c cX12_copy 4 wsX12_copy RX12 meth (some .int)) (v2 : Int32)   : ∀ (n : Nat) (v3 : Int32) (S : Mm) (H : Heap) (locs : List Loc) (ls : Array Slot), L_X12_copy_39 v2 n v3 S = some o → xW G true sz s H locs S → lv_has ls 4 [(0, .ref (G.2.2 200 0)), (2, .int v2), (3, .int v3)] → wX p l e rmX12_copy s m args below meth c H locs (xQi G true sz o) (XA G true sz) 39 ls [] := by
  intro n
  induction n with
  | zero =>
    intro v3 S H locs ls h
    cases h
  | succ n ih =>
    intro v3 S H locs ls h hW  hl
    rw [L_X12_copy_39] at h
    refine lv_iload_n X.1 X.2.1 dX12_copy_39 rfl (lv_at hl 2 rfl) ?_
    refine lv_aload_n X.1 X.2.1 dX12_copy_40 rfl (lv_at hl 0 rfl) ?_
    refine x_getI X hW fd_Model_taped (fun w h => List.mem_cons_of_mem _ (gin_X12 w h)) (List.mem_cons_of_mem _ gw274) z_1 dX12_copy_41 h (fun x9 h => ?_)
    refine x_icmp_ge X (tgt := 71) dX12_copy_44 (by decide) h (fun h => ?_) (fun h => ?_)
    · refine lv_aload_n X.1 X.2.1 dX12_copy_71 rfl (lv_at hl 0 rfl) ?_
      refine x_getI X hW fd_Model_taped (fun w h => List.mem_cons_of_mem _ (gin_X12 w h)) (List.mem_cons_of_mem _ gw274) z_1 dX12_copy_72 h (fun x10 h => ?_)
      exact x_iret X hW h dX12_copy_75
    · refine lv_aload_n X.1 X.2.1 dX12_copy_47 rfl (lv_at hl 0 rfl) ?_
      refine x_getR X hW fd_Model_tape (fun w h => List.mem_cons_of_mem _ (gin_X12 w h)) (List.mem_cons_of_mem _ gw165) z_1 dX12_copy_48 ?_
      refine lv_iload_n X.1 X.2.1 dX12_copy_51 rfl (lv_at hl 2 rfl) ?_
      refine lv_aload_n X.1 X.2.1 dX12_copy_52 rfl (lv_at hl 0 rfl) ?_
      refine x_getR X hW fd_Model_hBytes (fun w h => List.mem_cons_of_mem _ (gin_X12 w h)) (List.mem_cons_of_mem _ gw226) z_1 dX12_copy_53 ?_
      refine lv_sipush (v := 300) X.1 X.2.1 dX12_copy_56 rfl ?_
      refine lv_iload_n X.1 X.2.1 dX12_copy_59 rfl (lv_at hl 1 rfl) ?_
      refine lv_imul X.1 X.2.1 dX12_copy_60 ?_
      refine lv_iload_n X.1 X.2.1 dX12_copy_61 rfl (lv_at hl 2 rfl) ?_
      refine lv_iadd X.1 X.2.1 dX12_copy_62 ?_
      refine x_iald X hW ar_271 dX12_copy_63 h (fun x11 h => ?_)
      refine x_iast X hW ar_215 dX12_copy_64 h (fun S12 H locs h hW => ?_)
      refine lv_iinc (v := (v3 + 1)) (lv' := [(3, .int (v3 + 1)), (0, .ref (G.2.2 200 0)), (2, .int v2)]) X.1 X.2.1 dX12_copy_65 hl (k := 2) rfl rfl (by decide) rfl (fun ls hl => ?_)
      refine lv_goto (tgt := 39) X.1 X.2.1 dX12_copy_68 (by decide) ?_
      exact ih (v3 + 1) S12 _ _ _ h hW  (lv_sub hl [1, 2, 0] rfl)
set_option maxRecDepth 100000 in
set_option maxHeartbeats 4000000 in
theorem w_X12_copy_0 {p : Program} {l : Launch} {e : Env} {s : State} {m : MethodId} {args : Array Value} {below : List Frame} {meth : Method} {c : Code} {G : xG} {sz : Nat} {o : Int32 × Mm} (X : xC G true sz p s m args c cX12_copy 4 wsX12_copy RX12 meth (some .int)) (v1 : Int32) {S : Mm} {H : Heap} {locs : List Loc} {ls : Array Slot} (hW : xW G true sz s H locs S) (hl : lv_has ls 4 [(0, .ref (G.2.2 200 0)), (1, .int v1)]) (h : F_X12_copy v1 S = some o) : wX p l e rmX12_copy s m args below meth c H locs (xQi G true sz o) (XA G true sz) 0 ls [] := by
  unfold F_X12_copy at h
  refine lv_aload_n X.1 X.2.1 dX12_copy_0 rfl (lv_at hl 0 rfl) ?_
  refine lv_iconst (v := 0) X.1 X.2.1 dX12_copy_1 rfl ?_
  refine x_putI X hW fd_Model_thrown (fun w h => List.mem_cons_of_mem _ (gin_X12 w h)) (List.mem_cons_of_mem _ gw273) z_1 dX12_copy_2 tyX12 tyX12_ok nmX12 rfl rfl rfl h (fun S1 H locs h hW => ?_)
  refine lv_aload_n X.1 X.2.1 dX12_copy_5 rfl (lv_at hl 0 rfl) ?_
  refine lv_iload_n X.1 X.2.1 dX12_copy_6 rfl (lv_at hl 1 rfl) ?_
  obtain ⟨r2, S3, h4, h⟩ := cl_some h
  refine x_aftI X hW (x_runV (C := RX12) (a := G.2.2 200 0) (As := [.int v1]) (rest := []) X hW (c_X12_isKept l G X.2.2.2.2.2.2.2.2.2.1 _ S1 v1 _ h4) (cwV 1 X.2.2.2.2.1 (gV gw342 gw343 gw344 gw5 gw345) rfl rfl rfl ⟨rfl, hd_X12_isKept⟩ ⟨Nat.le_of_ble_eq_true rfl, Nat.le_of_ble_eq_true rfl⟩) (x_recv X hW ob_Model z_1) rfl hl.1 rfl (Nat.le_of_ble_eq_true rfl) dX12_copy_7 ⟨Nat.zero_le _, Nat.zero_le _⟩) (fun H locs hW => ?_)
  refine x_if_ne X (tgt := 15) dX12_copy_10 (by decide) h (fun h => ?_) (fun h => ?_)
  · refine lv_aload_n X.1 X.2.1 dX12_copy_15 rfl (lv_at hl 0 rfl) ?_
    refine x_getI X hW fd_Model_began (fun w h => List.mem_cons_of_mem _ (gin_X12 w h)) (List.mem_cons_of_mem _ gw341) z_1 dX12_copy_16 h (fun x5 h => ?_)
    refine lv_iconst (v := 1) X.1 X.2.1 dX12_copy_19 rfl ?_
    refine lv_isub X.1 X.2.1 dX12_copy_20 ?_
    refine lv_iload_n X.1 X.2.1 dX12_copy_21 rfl (lv_at hl 1 rfl) ?_
    refine lv_isub X.1 X.2.1 dX12_copy_22 ?_
    refine lv_bipush (v := 40) X.1 X.2.1 dX12_copy_23 rfl ?_
    refine lv_irem X.1 X.2.1 dX12_copy_25 (by decide) ?_
    refine x_top h (fun x6 h => ?_)
    refine lv_istore_n (lv' := [(2, .int x6), (0, .ref (G.2.2 200 0)), (1, .int v1)]) X.1 X.2.1 dX12_copy_26 rfl hl (by decide) rfl (fun ls hl => ?_)
    refine lv_aload_n X.1 X.2.1 dX12_copy_27 rfl (lv_at hl 1 rfl) ?_
    refine lv_aload_n X.1 X.2.1 dX12_copy_28 rfl (lv_at hl 1 rfl) ?_
    refine x_getR X hW fd_Model_hLen (fun w h => List.mem_cons_of_mem _ (gin_X12 w h)) (List.mem_cons_of_mem _ gw223) z_1 dX12_copy_29 ?_
    refine lv_iload_n X.1 X.2.1 dX12_copy_32 rfl (lv_at hl 0 rfl) ?_
    refine x_iald X hW ar_268 dX12_copy_33 h (fun x7 h => ?_)
    refine x_putI X hW fd_Model_taped (fun w h => List.mem_cons_of_mem _ (gin_X12 w h)) (List.mem_cons_of_mem _ gw274) z_1 dX12_copy_34 tyX12 tyX12_ok nmX12 rfl rfl rfl h (fun S8 H locs h hW => ?_)
    refine lv_iconst (v := 0) X.1 X.2.1 dX12_copy_37 rfl ?_
    refine lv_istore_n (lv' := [(3, .int 0), (2, .int x6), (0, .ref (G.2.2 200 0)), (1, .int v1)]) X.1 X.2.1 dX12_copy_38 rfl hl (by decide) rfl (fun ls hl => ?_)
    exact w_X12_copy_39 X x6   fu 0 S8 _ _ _ h hW  (lv_sub hl [2, 1, 0] rfl)
  · refine lv_iconst (v := (-1)) X.1 X.2.1 dX12_copy_13 rfl ?_
    exact x_iret X hW h dX12_copy_14
theorem c_X12_copy (l : Launch) (G : xG) (hD : xD G true) (sz : Nat) (S : Mm) (v1 : Int32) (o : Int32 × Mm) (h : F_X12_copy v1 S = some o) : Met l yX12_copy wsX12_copy rmX12_copy (xPre G true S sz [.ref (G.2.2 200 0), .int v1]) (xQi G true sz o) 0 0 (XA G true sz) :=
  x_start hD (by decide) rfl (Nat.le_of_ble_eq_true rfl) (fun p e s m below meth c X hW ls hl => w_X12_copy_0 X v1 hW hl h)

/-! WirelessCellModel.size(I)I -/
def rmX12_size : Room := { frames := 1, cells := 0, slots := 0, locals := 25 }
def F_X12_size (v1 : Int32) (S : Mm) : Option (Int32 × Mm) :=
  pf S 288 0 0 fun S1 =>
  cl (F_X12_in (Int32.toInt64 v1) 16 255 S1) fun r2 S3 =>
  if r2 = 0 then (
  some ((-1), S3))
  else (
  gf S3 292 0 fun x5 =>
  pf S3 292 0 v1 fun S6 =>
  some (x5, S6))
set_option maxRecDepth 100000 in
set_option maxHeartbeats 4000000 in
theorem w_X12_size_0 {p : Program} {l : Launch} {e : Env} {s : State} {m : MethodId} {args : Array Value} {below : List Frame} {meth : Method} {c : Code} {G : xG} {sz : Nat} {o : Int32 × Mm} (X : xC G true sz p s m args c cX12_size 3 wsX12_size RX12 meth (some .int)) (v1 : Int32) {S : Mm} {H : Heap} {locs : List Loc} {ls : Array Slot} (hW : xW G true sz s H locs S) (hl : lv_has ls 3 [(0, .ref (G.2.2 200 0)), (1, .int v1)]) (h : F_X12_size v1 S = some o) : wX p l e rmX12_size s m args below meth c H locs (xQi G true sz o) (XA G true sz) 0 ls [] := by
  unfold F_X12_size at h
  refine lv_aload_n X.1 X.2.1 dX12_size_0 rfl (lv_at hl 0 rfl) ?_
  refine lv_iconst (v := 0) X.1 X.2.1 dX12_size_1 rfl ?_
  refine x_putI X hW fd_Model_thrown (fun w h => List.mem_cons_of_mem _ (gin_X12 w h)) (List.mem_cons_of_mem _ gw273) z_1 dX12_size_2 tyX12 tyX12_ok nmX12 rfl rfl rfl h (fun S1 H locs h hW => ?_)
  refine lv_iload_n X.1 X.2.1 dX12_size_5 rfl (lv_at hl 1 rfl) ?_
  refine lv_i2l (v := (Int32.toInt64 v1)) X.1 X.2.1 dX12_size_6 rfl ?_
  refine lv_ldc2 (v := 16) X.1 X.2.1 X.2.2.2.1 (X.2.2.2.2.1 _ (List.mem_cons_of_mem _ gw407)) dX12_size_7 ?_
  refine lv_ldc2 (v := 255) X.1 X.2.1 X.2.2.2.1 (X.2.2.2.2.1 _ (List.mem_cons_of_mem _ gw295)) dX12_size_10 ?_
  obtain ⟨r2, S3, h4, h⟩ := cl_some h
  refine x_aftI X hW (x_runS (As := [.long (Int32.toInt64 v1), .long 16, .long 255]) (rest := []) X hW (c_X12_in l G X.2.2.2.2.2.2.2.2.2.1 _ S1 (Int32.toInt64 v1) 16 255 _ h4) (va_cwS 3 X.2.2.2.2.1 (gS gw296 gw297 gw5 gw298) rfl rfl rfl hd_X12_in ⟨Nat.le_of_ble_eq_true rfl, Nat.le_of_ble_eq_true rfl⟩) rfl hl.1 rfl (Nat.le_of_ble_eq_true rfl) dX12_size_13 ⟨Nat.zero_le _, Nat.zero_le _⟩) (fun H locs hW => ?_)
  refine x_if_ne X (tgt := 21) dX12_size_16 (by decide) h (fun h => ?_) (fun h => ?_)
  · refine lv_aload_n X.1 X.2.1 dX12_size_21 rfl (lv_at hl 0 rfl) ?_
    refine x_getI X hW fd_Model_sizeNow (fun w h => List.mem_cons_of_mem _ (gin_X12 w h)) (List.mem_cons_of_mem _ gw202) z_1 dX12_size_22 h (fun x5 h => ?_)
    refine lv_istore_n (lv' := [(2, .int x5), (0, .ref (G.2.2 200 0)), (1, .int v1)]) X.1 X.2.1 dX12_size_25 rfl hl (by decide) rfl (fun ls hl => ?_)
    refine lv_aload_n X.1 X.2.1 dX12_size_26 rfl (lv_at hl 1 rfl) ?_
    refine lv_iload_n X.1 X.2.1 dX12_size_27 rfl (lv_at hl 2 rfl) ?_
    refine x_putI X hW fd_Model_sizeNow (fun w h => List.mem_cons_of_mem _ (gin_X12 w h)) (List.mem_cons_of_mem _ gw202) z_1 dX12_size_28 tyX12 tyX12_ok nmX12 rfl rfl rfl h (fun S6 H locs h hW => ?_)
    refine lv_iload_n X.1 X.2.1 dX12_size_31 rfl (lv_at hl 0 rfl) ?_
    exact x_iret X hW h dX12_size_32
  · refine lv_iconst (v := (-1)) X.1 X.2.1 dX12_size_19 rfl ?_
    exact x_iret X hW h dX12_size_20
theorem c_X12_size (l : Launch) (G : xG) (hD : xD G true) (sz : Nat) (S : Mm) (v1 : Int32) (o : Int32 × Mm) (h : F_X12_size v1 S = some o) : Met l yX12_size wsX12_size rmX12_size (xPre G true S sz [.ref (G.2.2 200 0), .int v1]) (xQi G true sz o) 0 0 (XA G true sz) :=
  x_start hD (by decide) rfl (Nat.le_of_ble_eq_true rfl) (fun p e s m below meth c X hW ls hl => w_X12_size_0 X v1 hW hl h)

/-! WirelessCellModel.limit(I)I -/
def rmX12_limit : Room := { frames := 1, cells := 0, slots := 0, locals := 25 }
def F_X12_limit (v1 : Int32) (S : Mm) : Option (Int32 × Mm) :=
  pf S 288 0 0 fun S1 =>
  cl (F_X12_in (Int32.toInt64 v1) 1 15 S1) fun r2 S3 =>
  if r2 = 0 then (
  some ((-1), S3))
  else (
  gf S3 293 0 fun x5 =>
  pf S3 293 0 v1 fun S6 =>
  some (x5, S6))
set_option maxRecDepth 100000 in
set_option maxHeartbeats 4000000 in
theorem w_X12_limit_0 {p : Program} {l : Launch} {e : Env} {s : State} {m : MethodId} {args : Array Value} {below : List Frame} {meth : Method} {c : Code} {G : xG} {sz : Nat} {o : Int32 × Mm} (X : xC G true sz p s m args c cX12_limit 3 wsX12_limit RX12 meth (some .int)) (v1 : Int32) {S : Mm} {H : Heap} {locs : List Loc} {ls : Array Slot} (hW : xW G true sz s H locs S) (hl : lv_has ls 3 [(0, .ref (G.2.2 200 0)), (1, .int v1)]) (h : F_X12_limit v1 S = some o) : wX p l e rmX12_limit s m args below meth c H locs (xQi G true sz o) (XA G true sz) 0 ls [] := by
  unfold F_X12_limit at h
  refine lv_aload_n X.1 X.2.1 dX12_limit_0 rfl (lv_at hl 0 rfl) ?_
  refine lv_iconst (v := 0) X.1 X.2.1 dX12_limit_1 rfl ?_
  refine x_putI X hW fd_Model_thrown (fun w h => List.mem_cons_of_mem _ (gin_X12 w h)) (List.mem_cons_of_mem _ gw273) z_1 dX12_limit_2 tyX12 tyX12_ok nmX12 rfl rfl rfl h (fun S1 H locs h hW => ?_)
  refine lv_iload_n X.1 X.2.1 dX12_limit_5 rfl (lv_at hl 1 rfl) ?_
  refine lv_i2l (v := (Int32.toInt64 v1)) X.1 X.2.1 dX12_limit_6 rfl ?_
  refine lv_lconst (v := 1) X.1 X.2.1 dX12_limit_7 rfl ?_
  refine lv_ldc2 (v := 15) X.1 X.2.1 X.2.2.2.1 (X.2.2.2.2.1 _ (List.mem_cons_of_mem _ gw416)) dX12_limit_8 ?_
  obtain ⟨r2, S3, h4, h⟩ := cl_some h
  refine x_aftI X hW (x_runS (As := [.long (Int32.toInt64 v1), .long 1, .long 15]) (rest := []) X hW (c_X12_in l G X.2.2.2.2.2.2.2.2.2.1 _ S1 (Int32.toInt64 v1) 1 15 _ h4) (va_cwS 3 X.2.2.2.2.1 (gS gw296 gw297 gw5 gw298) rfl rfl rfl hd_X12_in ⟨Nat.le_of_ble_eq_true rfl, Nat.le_of_ble_eq_true rfl⟩) rfl hl.1 rfl (Nat.le_of_ble_eq_true rfl) dX12_limit_11 ⟨Nat.zero_le _, Nat.zero_le _⟩) (fun H locs hW => ?_)
  refine x_if_ne X (tgt := 19) dX12_limit_14 (by decide) h (fun h => ?_) (fun h => ?_)
  · refine lv_aload_n X.1 X.2.1 dX12_limit_19 rfl (lv_at hl 0 rfl) ?_
    refine x_getI X hW fd_Model_limit (fun w h => List.mem_cons_of_mem _ (gin_X12 w h)) (List.mem_cons_of_mem _ gw203) z_1 dX12_limit_20 h (fun x5 h => ?_)
    refine lv_istore_n (lv' := [(2, .int x5), (0, .ref (G.2.2 200 0)), (1, .int v1)]) X.1 X.2.1 dX12_limit_23 rfl hl (by decide) rfl (fun ls hl => ?_)
    refine lv_aload_n X.1 X.2.1 dX12_limit_24 rfl (lv_at hl 1 rfl) ?_
    refine lv_iload_n X.1 X.2.1 dX12_limit_25 rfl (lv_at hl 2 rfl) ?_
    refine x_putI X hW fd_Model_limit (fun w h => List.mem_cons_of_mem _ (gin_X12 w h)) (List.mem_cons_of_mem _ gw203) z_1 dX12_limit_26 tyX12 tyX12_ok nmX12 rfl rfl rfl h (fun S6 H locs h hW => ?_)
    refine lv_iload_n X.1 X.2.1 dX12_limit_29 rfl (lv_at hl 0 rfl) ?_
    exact x_iret X hW h dX12_limit_30
  · refine lv_iconst (v := (-1)) X.1 X.2.1 dX12_limit_17 rfl ?_
    exact x_iret X hW h dX12_limit_18
theorem c_X12_limit (l : Launch) (G : xG) (hD : xD G true) (sz : Nat) (S : Mm) (v1 : Int32) (o : Int32 × Mm) (h : F_X12_limit v1 S = some o) : Met l yX12_limit wsX12_limit rmX12_limit (xPre G true S sz [.ref (G.2.2 200 0), .int v1]) (xQi G true sz o) 0 0 (XA G true sz) :=
  x_start hD (by decide) rfl (Nat.le_of_ble_eq_true rfl) (fun p e s m below meth c X hW ls hl => w_X12_limit_0 X v1 hW hl h)

/-! WirelessCellModel.draw(I)I -/
def rmX12_draw : Room := { frames := 1, cells := 0, slots := 0, locals := 25 }
def L_X12_draw_32   (S : Mm) : Option (Int32 × Mm) :=
  some ((-1), S)
def L_X12_draw_95  (v1 : Int32) (S : Mm) : Option (Int32 × Mm) :=
  gf S 295 0 fun x17 =>
  stA S 251 0 200 1 x17 v1 fun S18 =>
  gf S18 295 0 fun x19 =>
  pf S18 295 0 (x19 + 1) fun S20 =>
  gf S20 295 0 fun x21 =>
  some (x21, S20)
def L_X12_draw_46  (v1 : Int32) : Nat → Int32 → Mm → Option (Int32 × Mm)
  | 0, _, _ => none
  | n + 1, v2, S => 
    gf S 295 0 fun x9 =>
    if x9 ≤ v2 then (
    gf S 295 0 fun x10 =>
    gf S 294 0 fun x11 =>
    pf S 295 0 (x10 - x11) fun S12 =>
    pf S12 294 0 0 fun S13 =>
    L_X12_draw_95  v1 S13)
    else (
    gf S 294 0 fun x14 =>
    ldA S 251 0 200 1 v2 fun x15 =>
    stA S 251 0 200 1 (v2 - x14) x15 fun S16 =>
    (L_X12_draw_46 v1 n) (v2 + 1) S16)
def F_X12_draw (v1 : Int32) (S : Mm) : Option (Int32 × Mm) :=
  pf S 288 0 0 fun S1 =>
  gf S1 295 0 fun x2 =>
  gf S1 294 0 fun x3 =>
  if (x2 - x3) = 200 then (
  L_X12_draw_32  S1)
  else (
  cl (F_X12_in (Int32.toInt64 v1) 0 127 S1) fun r4 S5 =>
  if r4 = 0 then (
  L_X12_draw_32  S5)
  else (
  gf S5 294 0 fun x7 =>
  if x7 ≤ 0 then (
  L_X12_draw_95  v1 S5)
  else (
  gf S5 294 0 fun x8 =>
  L_X12_draw_46  v1 fu x8 S5)))
set_option maxRecDepth 100000 in
set_option maxHeartbeats 4000000 in
theorem w_X12_draw_32 {p : Program} {l : Launch} {e : Env} {s : State} {m : MethodId} {args : Array Value} {below : List Frame} {meth : Method} {c : Code} {G : xG} {sz : Nat} {o : Int32 × Mm} (X : xC G true sz p s m args c cX12_draw 3 wsX12_draw RX12 meth (some .int))    {S : Mm} {H : Heap} {locs : List Loc} {ls : Array Slot} (hW : xW G true sz s H locs S) (hl : lv_has ls 3 []) (h : L_X12_draw_32   S = some o) : wX p l e rmX12_draw s m args below meth c H locs (xQi G true sz o) (XA G true sz) 32 ls [] := by
  unfold L_X12_draw_32 at h
  refine lv_iconst (v := (-1)) X.1 X.2.1 dX12_draw_32 rfl ?_
  exact x_iret X hW h dX12_draw_33
set_option maxRecDepth 100000 in
set_option maxHeartbeats 4000000 in
theorem w_X12_draw_95 {p : Program} {l : Launch} {e : Env} {s : State} {m : MethodId} {args : Array Value} {below : List Frame} {meth : Method} {c : Code} {G : xG} {sz : Nat} {o : Int32 × Mm} (X : xC G true sz p s m args c cX12_draw 3 wsX12_draw RX12 meth (some .int)) (v1 : Int32)   {S : Mm} {H : Heap} {locs : List Loc} {ls : Array Slot} (hW : xW G true sz s H locs S) (hl : lv_has ls 3 [(0, .ref (G.2.2 200 0)), (1, .int v1)]) (h : L_X12_draw_95  v1 S = some o) : wX p l e rmX12_draw s m args below meth c H locs (xQi G true sz o) (XA G true sz) 95 ls [] := by
  unfold L_X12_draw_95 at h
  refine lv_aload_n X.1 X.2.1 dX12_draw_95 rfl (lv_at hl 0 rfl) ?_
  refine x_getR X hW fd_Model_draws (fun w h => List.mem_cons_of_mem _ (gin_X12 w h)) (List.mem_cons_of_mem _ gw204) z_1 dX12_draw_96 ?_
  refine lv_aload_n X.1 X.2.1 dX12_draw_99 rfl (lv_at hl 0 rfl) ?_
  refine x_getI X hW fd_Model_drawTo (fun w h => List.mem_cons_of_mem _ (gin_X12 w h)) (List.mem_cons_of_mem _ gw432) z_1 dX12_draw_100 h (fun x17 h => ?_)
  refine lv_iload_n X.1 X.2.1 dX12_draw_103 rfl (lv_at hl 1 rfl) ?_
  refine x_iast X hW ar_251 dX12_draw_104 h (fun S18 H locs h hW => ?_)
  refine lv_aload_n X.1 X.2.1 dX12_draw_105 rfl (lv_at hl 0 rfl) ?_
  refine lv_dup X.1 X.2.1 dX12_draw_106 rfl ?_
  refine x_getI X hW fd_Model_drawTo (fun w h => List.mem_cons_of_mem _ (gin_X12 w h)) (List.mem_cons_of_mem _ gw432) z_1 dX12_draw_107 h (fun x19 h => ?_)
  refine lv_iconst (v := 1) X.1 X.2.1 dX12_draw_110 rfl ?_
  refine lv_iadd X.1 X.2.1 dX12_draw_111 ?_
  refine x_putI X hW fd_Model_drawTo (fun w h => List.mem_cons_of_mem _ (gin_X12 w h)) (List.mem_cons_of_mem _ gw432) z_1 dX12_draw_112 tyX12 tyX12_ok nmX12 rfl rfl rfl h (fun S20 H locs h hW => ?_)
  refine lv_aload_n X.1 X.2.1 dX12_draw_115 rfl (lv_at hl 0 rfl) ?_
  refine x_getI X hW fd_Model_drawTo (fun w h => List.mem_cons_of_mem _ (gin_X12 w h)) (List.mem_cons_of_mem _ gw432) z_1 dX12_draw_116 h (fun x21 h => ?_)
  exact x_iret X hW h dX12_draw_119
set_option maxRecDepth 100000 in
set_option maxHeartbeats 4000000 in
theorem w_X12_draw_46 {p : Program} {l : Launch} {e : Env} {s : State} {m : MethodId} {args : Array Value} {below : List Frame} {meth : Method} {c : Code} {G : xG} {sz : Nat} {o : Int32 × Mm} (X : xC G true sz p s m args c cX12_draw 3 wsX12_draw RX12 meth (some .int)) (v1 : Int32)   : ∀ (n : Nat) (v2 : Int32) (S : Mm) (H : Heap) (locs : List Loc) (ls : Array Slot), L_X12_draw_46 v1 n v2 S = some o → xW G true sz s H locs S → lv_has ls 3 [(0, .ref (G.2.2 200 0)), (1, .int v1), (2, .int v2)] → wX p l e rmX12_draw s m args below meth c H locs (xQi G true sz o) (XA G true sz) 46 ls [] := by
  intro n
  induction n with
  | zero =>
    intro v2 S H locs ls h
    cases h
  | succ n ih =>
    intro v2 S H locs ls h hW  hl
    rw [L_X12_draw_46] at h
    refine lv_iload_n X.1 X.2.1 dX12_draw_46 rfl (lv_at hl 2 rfl) ?_
    refine lv_aload_n X.1 X.2.1 dX12_draw_47 rfl (lv_at hl 0 rfl) ?_
    refine x_getI X hW fd_Model_drawTo (fun w h => List.mem_cons_of_mem _ (gin_X12 w h)) (List.mem_cons_of_mem _ gw432) z_1 dX12_draw_48 h (fun x9 h => ?_)
    refine x_icmp_ge X (tgt := 77) dX12_draw_51 (by decide) h (fun h => ?_) (fun h => ?_)
    · refine lv_aload_n X.1 X.2.1 dX12_draw_77 rfl (lv_at hl 0 rfl) ?_
      refine lv_dup X.1 X.2.1 dX12_draw_78 rfl ?_
      refine x_getI X hW fd_Model_drawTo (fun w h => List.mem_cons_of_mem _ (gin_X12 w h)) (List.mem_cons_of_mem _ gw432) z_1 dX12_draw_79 h (fun x10 h => ?_)
      refine lv_aload_n X.1 X.2.1 dX12_draw_82 rfl (lv_at hl 0 rfl) ?_
      refine x_getI X hW fd_Model_drawFrom (fun w h => List.mem_cons_of_mem _ (gin_X12 w h)) (List.mem_cons_of_mem _ gw433) z_1 dX12_draw_83 h (fun x11 h => ?_)
      refine lv_isub X.1 X.2.1 dX12_draw_86 ?_
      refine x_putI X hW fd_Model_drawTo (fun w h => List.mem_cons_of_mem _ (gin_X12 w h)) (List.mem_cons_of_mem _ gw432) z_1 dX12_draw_87 tyX12 tyX12_ok nmX12 rfl rfl rfl h (fun S12 H locs h hW => ?_)
      refine lv_aload_n X.1 X.2.1 dX12_draw_90 rfl (lv_at hl 0 rfl) ?_
      refine lv_iconst (v := 0) X.1 X.2.1 dX12_draw_91 rfl ?_
      refine x_putI X hW fd_Model_drawFrom (fun w h => List.mem_cons_of_mem _ (gin_X12 w h)) (List.mem_cons_of_mem _ gw433) z_1 dX12_draw_92 tyX12 tyX12_ok nmX12 rfl rfl rfl h (fun S13 H locs h hW => ?_)
      exact w_X12_draw_95 X v1   hW (lv_sub hl [0, 1] rfl) h
    · refine lv_aload_n X.1 X.2.1 dX12_draw_54 rfl (lv_at hl 0 rfl) ?_
      refine x_getR X hW fd_Model_draws (fun w h => List.mem_cons_of_mem _ (gin_X12 w h)) (List.mem_cons_of_mem _ gw204) z_1 dX12_draw_55 ?_
      refine lv_iload_n X.1 X.2.1 dX12_draw_58 rfl (lv_at hl 2 rfl) ?_
      refine lv_aload_n X.1 X.2.1 dX12_draw_59 rfl (lv_at hl 0 rfl) ?_
      refine x_getI X hW fd_Model_drawFrom (fun w h => List.mem_cons_of_mem _ (gin_X12 w h)) (List.mem_cons_of_mem _ gw433) z_1 dX12_draw_60 h (fun x14 h => ?_)
      refine lv_isub X.1 X.2.1 dX12_draw_63 ?_
      refine lv_aload_n X.1 X.2.1 dX12_draw_64 rfl (lv_at hl 0 rfl) ?_
      refine x_getR X hW fd_Model_draws (fun w h => List.mem_cons_of_mem _ (gin_X12 w h)) (List.mem_cons_of_mem _ gw204) z_1 dX12_draw_65 ?_
      refine lv_iload_n X.1 X.2.1 dX12_draw_68 rfl (lv_at hl 2 rfl) ?_
      refine x_iald X hW ar_251 dX12_draw_69 h (fun x15 h => ?_)
      refine x_iast X hW ar_251 dX12_draw_70 h (fun S16 H locs h hW => ?_)
      refine lv_iinc (v := (v2 + 1)) (lv' := [(2, .int (v2 + 1)), (0, .ref (G.2.2 200 0)), (1, .int v1)]) X.1 X.2.1 dX12_draw_71 hl (k := 2) rfl rfl (by decide) rfl (fun ls hl => ?_)
      refine lv_goto (tgt := 46) X.1 X.2.1 dX12_draw_74 (by decide) ?_
      exact ih (v2 + 1) S16 _ _ _ h hW  (lv_sub hl [1, 2, 0] rfl)
set_option maxRecDepth 100000 in
set_option maxHeartbeats 4000000 in
theorem w_X12_draw_0 {p : Program} {l : Launch} {e : Env} {s : State} {m : MethodId} {args : Array Value} {below : List Frame} {meth : Method} {c : Code} {G : xG} {sz : Nat} {o : Int32 × Mm} (X : xC G true sz p s m args c cX12_draw 3 wsX12_draw RX12 meth (some .int)) (v1 : Int32) {S : Mm} {H : Heap} {locs : List Loc} {ls : Array Slot} (hW : xW G true sz s H locs S) (hl : lv_has ls 3 [(0, .ref (G.2.2 200 0)), (1, .int v1)]) (h : F_X12_draw v1 S = some o) : wX p l e rmX12_draw s m args below meth c H locs (xQi G true sz o) (XA G true sz) 0 ls [] := by
  unfold F_X12_draw at h
  refine lv_aload_n X.1 X.2.1 dX12_draw_0 rfl (lv_at hl 0 rfl) ?_
  refine lv_iconst (v := 0) X.1 X.2.1 dX12_draw_1 rfl ?_
  refine x_putI X hW fd_Model_thrown (fun w h => List.mem_cons_of_mem _ (gin_X12 w h)) (List.mem_cons_of_mem _ gw273) z_1 dX12_draw_2 tyX12 tyX12_ok nmX12 rfl rfl rfl h (fun S1 H locs h hW => ?_)
  refine lv_aload_n X.1 X.2.1 dX12_draw_5 rfl (lv_at hl 0 rfl) ?_
  refine x_getI X hW fd_Model_drawTo (fun w h => List.mem_cons_of_mem _ (gin_X12 w h)) (List.mem_cons_of_mem _ gw432) z_1 dX12_draw_6 h (fun x2 h => ?_)
  refine lv_aload_n X.1 X.2.1 dX12_draw_9 rfl (lv_at hl 0 rfl) ?_
  refine x_getI X hW fd_Model_drawFrom (fun w h => List.mem_cons_of_mem _ (gin_X12 w h)) (List.mem_cons_of_mem _ gw433) z_1 dX12_draw_10 h (fun x3 h => ?_)
  refine lv_isub X.1 X.2.1 dX12_draw_13 ?_
  refine lv_sipush (v := 200) X.1 X.2.1 dX12_draw_14 rfl ?_
  refine x_icmp_eq X (tgt := 32) dX12_draw_17 (by decide) h (fun h => ?_) (fun h => ?_)
  · exact w_X12_draw_32 X    hW (lv_sub hl [] rfl) h
  · refine lv_iload_n X.1 X.2.1 dX12_draw_20 rfl (lv_at hl 1 rfl) ?_
    refine lv_i2l (v := (Int32.toInt64 v1)) X.1 X.2.1 dX12_draw_21 rfl ?_
    refine lv_lconst (v := 0) X.1 X.2.1 dX12_draw_22 rfl ?_
    refine lv_ldc2 (v := 127) X.1 X.2.1 X.2.2.2.1 (X.2.2.2.2.1 _ (List.mem_cons_of_mem _ gw434)) dX12_draw_23 ?_
    obtain ⟨r4, S5, h6, h⟩ := cl_some h
    refine x_aftI X hW (x_runS (As := [.long (Int32.toInt64 v1), .long 0, .long 127]) (rest := []) X hW (c_X12_in l G X.2.2.2.2.2.2.2.2.2.1 _ S1 (Int32.toInt64 v1) 0 127 _ h6) (va_cwS 3 X.2.2.2.2.1 (gS gw296 gw297 gw5 gw298) rfl rfl rfl hd_X12_in ⟨Nat.le_of_ble_eq_true rfl, Nat.le_of_ble_eq_true rfl⟩) rfl hl.1 rfl (Nat.le_of_ble_eq_true rfl) dX12_draw_26 ⟨Nat.zero_le _, Nat.zero_le _⟩) (fun H locs hW => ?_)
    refine x_if_ne X (tgt := 34) dX12_draw_29 (by decide) h (fun h => ?_) (fun h => ?_)
    · refine lv_aload_n X.1 X.2.1 dX12_draw_34 rfl (lv_at hl 0 rfl) ?_
      refine x_getI X hW fd_Model_drawFrom (fun w h => List.mem_cons_of_mem _ (gin_X12 w h)) (List.mem_cons_of_mem _ gw433) z_1 dX12_draw_35 h (fun x7 h => ?_)
      refine x_if_le X (tgt := 95) dX12_draw_38 (by decide) h (fun h => ?_) (fun h => ?_)
      · exact w_X12_draw_95 X v1   hW (lv_sub hl [0, 1] rfl) h
      · refine lv_aload_n X.1 X.2.1 dX12_draw_41 rfl (lv_at hl 0 rfl) ?_
        refine x_getI X hW fd_Model_drawFrom (fun w h => List.mem_cons_of_mem _ (gin_X12 w h)) (List.mem_cons_of_mem _ gw433) z_1 dX12_draw_42 h (fun x8 h => ?_)
        refine lv_istore_n (lv' := [(2, .int x8), (0, .ref (G.2.2 200 0)), (1, .int v1)]) X.1 X.2.1 dX12_draw_45 rfl hl (by decide) rfl (fun ls hl => ?_)
        exact w_X12_draw_46 X v1   fu x8 S5 _ _ _ h hW  (lv_sub hl [1, 2, 0] rfl)
    · exact w_X12_draw_32 X    hW (lv_sub hl [] rfl) h
theorem c_X12_draw (l : Launch) (G : xG) (hD : xD G true) (sz : Nat) (S : Mm) (v1 : Int32) (o : Int32 × Mm) (h : F_X12_draw v1 S = some o) : Met l yX12_draw wsX12_draw rmX12_draw (xPre G true S sz [.ref (G.2.2 200 0), .int v1]) (xQi G true sz o) 0 0 (XA G true sz) :=
  x_start hD (by decide) rfl (Nat.le_of_ble_eq_true rfl) (fun p e s m below meth c X hW ls hl => w_X12_draw_0 X v1 hW hl h)

/-! WirelessCellModel.noise(II)I -/
def rmX12_noise : Room := { frames := 0, cells := 0, slots := 0, locals := 0 }
def L_X12_noise_39   (S : Mm) : Option (Int32 × Mm) :=
  some ((-1), S)
def F_X12_noise (v1 : Int32) (v2 : Int32) (S : Mm) : Option (Int32 × Mm) :=
  pf S 288 0 0 fun S1 =>
  gf S1 305 0 fun x2 =>
  if x2 = 30 then (
  L_X12_noise_39  S1)
  else (
  gf S1 298 0 fun x3 =>
  if v1 < x3 then (
  L_X12_noise_39  S1)
  else (
  if v2 < v1 then (
  L_X12_noise_39  S1)
  else (
  if (lg_cmp ((Int32.toInt64 v2) - (Int32.toInt64 v1)) 2000) < 0 then (
  gf S1 305 0 fun x4 =>
  stA S1 272 0 30 1 x4 v1 fun S5 =>
  gf S5 305 0 fun x6 =>
  stA S5 273 0 30 1 x6 v2 fun S7 =>
  gf S7 305 0 fun x8 =>
  pf S7 305 0 (x8 + 1) fun S9 =>
  gf S9 305 0 fun x10 =>
  some (x10, S9))
  else (
  L_X12_noise_39  S1))))
set_option maxRecDepth 100000 in
set_option maxHeartbeats 4000000 in
theorem w_X12_noise_39 {p : Program} {l : Launch} {e : Env} {s : State} {m : MethodId} {args : Array Value} {below : List Frame} {meth : Method} {c : Code} {G : xG} {sz : Nat} {o : Int32 × Mm} (X : xC G true sz p s m args c cX12_noise 3 wsX12_noise RX12 meth (some .int))    {S : Mm} {H : Heap} {locs : List Loc} {ls : Array Slot} (hW : xW G true sz s H locs S) (hl : lv_has ls 3 []) (h : L_X12_noise_39   S = some o) : wX p l e rmX12_noise s m args below meth c H locs (xQi G true sz o) (XA G true sz) 39 ls [] := by
  unfold L_X12_noise_39 at h
  refine lv_iconst (v := (-1)) X.1 X.2.1 dX12_noise_39 rfl ?_
  exact x_iret X hW h dX12_noise_40
set_option maxRecDepth 100000 in
set_option maxHeartbeats 4000000 in
theorem w_X12_noise_0 {p : Program} {l : Launch} {e : Env} {s : State} {m : MethodId} {args : Array Value} {below : List Frame} {meth : Method} {c : Code} {G : xG} {sz : Nat} {o : Int32 × Mm} (X : xC G true sz p s m args c cX12_noise 3 wsX12_noise RX12 meth (some .int)) (v1 : Int32) (v2 : Int32) {S : Mm} {H : Heap} {locs : List Loc} {ls : Array Slot} (hW : xW G true sz s H locs S) (hl : lv_has ls 3 [(0, .ref (G.2.2 200 0)), (1, .int v1), (2, .int v2)]) (h : F_X12_noise v1 v2 S = some o) : wX p l e rmX12_noise s m args below meth c H locs (xQi G true sz o) (XA G true sz) 0 ls [] := by
  unfold F_X12_noise at h
  refine lv_aload_n X.1 X.2.1 dX12_noise_0 rfl (lv_at hl 0 rfl) ?_
  refine lv_iconst (v := 0) X.1 X.2.1 dX12_noise_1 rfl ?_
  refine x_putI X hW fd_Model_thrown (fun w h => List.mem_cons_of_mem _ (gin_X12 w h)) (List.mem_cons_of_mem _ gw273) z_1 dX12_noise_2 tyX12 tyX12_ok nmX12 rfl rfl rfl h (fun S1 H locs h hW => ?_)
  refine lv_aload_n X.1 X.2.1 dX12_noise_5 rfl (lv_at hl 0 rfl) ?_
  refine x_getI X hW fd_Model_noises (fun w h => List.mem_cons_of_mem _ (gin_X12 w h)) (List.mem_cons_of_mem _ gw450) z_1 dX12_noise_6 h (fun x2 h => ?_)
  refine lv_bipush (v := 30) X.1 X.2.1 dX12_noise_9 rfl ?_
  refine x_icmp_eq X (tgt := 39) dX12_noise_11 (by decide) h (fun h => ?_) (fun h => ?_)
  · exact w_X12_noise_39 X    hW (lv_sub hl [] rfl) h
  · refine lv_iload_n X.1 X.2.1 dX12_noise_14 rfl (lv_at hl 1 rfl) ?_
    refine lv_aload_n X.1 X.2.1 dX12_noise_15 rfl (lv_at hl 0 rfl) ?_
    refine x_getI X hW fd_Model_slot (fun w h => List.mem_cons_of_mem _ (gin_X12 w h)) (List.mem_cons_of_mem _ gw451) z_1 dX12_noise_16 h (fun x3 h => ?_)
    refine x_icmp_lt X (tgt := 39) dX12_noise_19 (by decide) h (fun h => ?_) (fun h => ?_)
    · exact w_X12_noise_39 X    hW (lv_sub hl [] rfl) h
    · refine lv_iload_n X.1 X.2.1 dX12_noise_22 rfl (lv_at hl 2 rfl) ?_
      refine lv_iload_n X.1 X.2.1 dX12_noise_23 rfl (lv_at hl 1 rfl) ?_
      refine x_icmp_lt X (tgt := 39) dX12_noise_24 (by decide) h (fun h => ?_) (fun h => ?_)
      · exact w_X12_noise_39 X    hW (lv_sub hl [] rfl) h
      · refine lv_iload_n X.1 X.2.1 dX12_noise_27 rfl (lv_at hl 2 rfl) ?_
        refine lv_i2l (v := (Int32.toInt64 v2)) X.1 X.2.1 dX12_noise_28 rfl ?_
        refine lv_iload_n X.1 X.2.1 dX12_noise_29 rfl (lv_at hl 1 rfl) ?_
        refine lv_i2l (v := (Int32.toInt64 v1)) X.1 X.2.1 dX12_noise_30 rfl ?_
        refine lv_lsub X.1 X.2.1 dX12_noise_31 ?_
        refine lv_ldc2 (v := 2000) X.1 X.2.1 X.2.2.2.1 (X.2.2.2.2.1 _ (List.mem_cons_of_mem _ gw452)) dX12_noise_32 ?_
        refine W.lcmp X.1 X.2.1 dX12_noise_35 ?_
        refine x_if_lt X (tgt := 41) dX12_noise_36 (by decide) h (fun h => ?_) (fun h => ?_)
        · refine lv_aload_n X.1 X.2.1 dX12_noise_41 rfl (lv_at hl 0 rfl) ?_
          refine x_getR X hW fd_Model_noiseFrom (fun w h => List.mem_cons_of_mem _ (gin_X12 w h)) (List.mem_cons_of_mem _ gw227) z_1 dX12_noise_42 ?_
          refine lv_aload_n X.1 X.2.1 dX12_noise_45 rfl (lv_at hl 0 rfl) ?_
          refine x_getI X hW fd_Model_noises (fun w h => List.mem_cons_of_mem _ (gin_X12 w h)) (List.mem_cons_of_mem _ gw450) z_1 dX12_noise_46 h (fun x4 h => ?_)
          refine lv_iload_n X.1 X.2.1 dX12_noise_49 rfl (lv_at hl 1 rfl) ?_
          refine x_iast X hW ar_272 dX12_noise_50 h (fun S5 H locs h hW => ?_)
          refine lv_aload_n X.1 X.2.1 dX12_noise_51 rfl (lv_at hl 0 rfl) ?_
          refine x_getR X hW fd_Model_noiseTo (fun w h => List.mem_cons_of_mem _ (gin_X12 w h)) (List.mem_cons_of_mem _ gw228) z_1 dX12_noise_52 ?_
          refine lv_aload_n X.1 X.2.1 dX12_noise_55 rfl (lv_at hl 0 rfl) ?_
          refine x_getI X hW fd_Model_noises (fun w h => List.mem_cons_of_mem _ (gin_X12 w h)) (List.mem_cons_of_mem _ gw450) z_1 dX12_noise_56 h (fun x6 h => ?_)
          refine lv_iload_n X.1 X.2.1 dX12_noise_59 rfl (lv_at hl 2 rfl) ?_
          refine x_iast X hW ar_273 dX12_noise_60 h (fun S7 H locs h hW => ?_)
          refine lv_aload_n X.1 X.2.1 dX12_noise_61 rfl (lv_at hl 0 rfl) ?_
          refine lv_dup X.1 X.2.1 dX12_noise_62 rfl ?_
          refine x_getI X hW fd_Model_noises (fun w h => List.mem_cons_of_mem _ (gin_X12 w h)) (List.mem_cons_of_mem _ gw450) z_1 dX12_noise_63 h (fun x8 h => ?_)
          refine lv_iconst (v := 1) X.1 X.2.1 dX12_noise_66 rfl ?_
          refine lv_iadd X.1 X.2.1 dX12_noise_67 ?_
          refine x_putI X hW fd_Model_noises (fun w h => List.mem_cons_of_mem _ (gin_X12 w h)) (List.mem_cons_of_mem _ gw450) z_1 dX12_noise_68 tyX12 tyX12_ok nmX12 rfl rfl rfl h (fun S9 H locs h hW => ?_)
          refine lv_aload_n X.1 X.2.1 dX12_noise_71 rfl (lv_at hl 0 rfl) ?_
          refine x_getI X hW fd_Model_noises (fun w h => List.mem_cons_of_mem _ (gin_X12 w h)) (List.mem_cons_of_mem _ gw450) z_1 dX12_noise_72 h (fun x10 h => ?_)
          exact x_iret X hW h dX12_noise_75
        · exact w_X12_noise_39 X    hW (lv_sub hl [] rfl) h
theorem c_X12_noise (l : Launch) (G : xG) (hD : xD G true) (sz : Nat) (S : Mm) (v1 : Int32) (v2 : Int32) (o : Int32 × Mm) (h : F_X12_noise v1 v2 S = some o) : Met l yX12_noise wsX12_noise rmX12_noise (xPre G true S sz [.ref (G.2.2 200 0), .int v1, .int v2]) (xQi G true sz o) 0 0 (XA G true sz) :=
  x_start hD (by decide) rfl (Nat.le_of_ble_eq_true rfl) (fun p e s m below meth c X hW ls hl => w_X12_noise_0 X v1 v2 hW hl h)

/-! WirelessCellModel.put(I)I -/
def rmX12_put : Room := { frames := 0, cells := 0, slots := 0, locals := 0 }
def L_X12_put_29   (S : Mm) : Option (Int32 × Mm) :=
  some ((-1), S)
def L_X12_put_56   : Nat → Int32 → Mm → Option (Int32 × Mm)
  | 0, _, _ => none
  | n + 1, v2, S => 
    gf S 291 0 fun x10 =>
    if x10 ≤ v2 then (
    gf S 306 0 fun x11 =>
    pf S 306 0 (x11 + 1) fun S12 =>
    pf S12 291 0 0 fun S13 =>
    gf S13 306 0 fun x14 =>
    some (x14, S13))
    else (
    gf S 306 0 fun x15 =>
    ldA S 215 0 300 1 v2 fun x16 =>
    stA S 276 0 6000 1 ((300 * x15) + v2) x16 fun S17 =>
    (L_X12_put_56  n) (v2 + 1) S17)
def F_X12_put (v1 : Int32) (S : Mm) : Option (Int32 × Mm) :=
  pf S 288 0 0 fun S1 =>
  gf S1 306 0 fun x2 =>
  if x2 = 20 then (
  L_X12_put_29  S1)
  else (
  gf S1 298 0 fun x3 =>
  if v1 < x3 then (
  L_X12_put_29  S1)
  else (
  gf S1 291 0 fun x4 =>
  if x4 = 0 then (
  L_X12_put_29  S1)
  else (
  gf S1 306 0 fun x5 =>
  stA S1 274 0 20 1 x5 v1 fun S6 =>
  gf S6 306 0 fun x7 =>
  gf S6 291 0 fun x8 =>
  stA S6 275 0 20 1 x7 x8 fun S9 =>
  L_X12_put_56   fu 0 S9)))
set_option maxRecDepth 100000 in
set_option maxHeartbeats 4000000 in
theorem w_X12_put_29 {p : Program} {l : Launch} {e : Env} {s : State} {m : MethodId} {args : Array Value} {below : List Frame} {meth : Method} {c : Code} {G : xG} {sz : Nat} {o : Int32 × Mm} (X : xC G true sz p s m args c cX12_put 3 wsX12_put RX12 meth (some .int))    {S : Mm} {H : Heap} {locs : List Loc} {ls : Array Slot} (hW : xW G true sz s H locs S) (hl : lv_has ls 3 []) (h : L_X12_put_29   S = some o) : wX p l e rmX12_put s m args below meth c H locs (xQi G true sz o) (XA G true sz) 29 ls [] := by
  unfold L_X12_put_29 at h
  refine lv_iconst (v := (-1)) X.1 X.2.1 dX12_put_29 rfl ?_
  exact x_iret X hW h dX12_put_30
set_option maxRecDepth 100000 in
set_option maxHeartbeats 4000000 in
theorem w_X12_put_56 {p : Program} {l : Launch} {e : Env} {s : State} {m : MethodId} {args : Array Value} {below : List Frame} {meth : Method} {c : Code} {G : xG} {sz : Nat} {o : Int32 × Mm} (X : xC G true sz p s m args c cX12_put 3 wsX12_put RX12 meth (some .int))    : ∀ (n : Nat) (v2 : Int32) (S : Mm) (H : Heap) (locs : List Loc) (ls : Array Slot), L_X12_put_56  n v2 S = some o → xW G true sz s H locs S → lv_has ls 3 [(0, .ref (G.2.2 200 0)), (2, .int v2)] → wX p l e rmX12_put s m args below meth c H locs (xQi G true sz o) (XA G true sz) 56 ls [] := by
  intro n
  induction n with
  | zero =>
    intro v2 S H locs ls h
    cases h
  | succ n ih =>
    intro v2 S H locs ls h hW  hl
    rw [L_X12_put_56] at h
    refine lv_iload_n X.1 X.2.1 dX12_put_56 rfl (lv_at hl 1 rfl) ?_
    refine lv_aload_n X.1 X.2.1 dX12_put_57 rfl (lv_at hl 0 rfl) ?_
    refine x_getI X hW fd_Model_taped (fun w h => List.mem_cons_of_mem _ (gin_X12 w h)) (List.mem_cons_of_mem _ gw274) z_1 dX12_put_58 h (fun x10 h => ?_)
    refine x_icmp_ge X (tgt := 91) dX12_put_61 (by decide) h (fun h => ?_) (fun h => ?_)
    · refine lv_aload_n X.1 X.2.1 dX12_put_91 rfl (lv_at hl 0 rfl) ?_
      refine lv_dup X.1 X.2.1 dX12_put_92 rfl ?_
      refine x_getI X hW fd_Model_putMany (fun w h => List.mem_cons_of_mem _ (gin_X12 w h)) (List.mem_cons_of_mem _ gw468) z_1 dX12_put_93 h (fun x11 h => ?_)
      refine lv_iconst (v := 1) X.1 X.2.1 dX12_put_96 rfl ?_
      refine lv_iadd X.1 X.2.1 dX12_put_97 ?_
      refine x_putI X hW fd_Model_putMany (fun w h => List.mem_cons_of_mem _ (gin_X12 w h)) (List.mem_cons_of_mem _ gw468) z_1 dX12_put_98 tyX12 tyX12_ok nmX12 rfl rfl rfl h (fun S12 H locs h hW => ?_)
      refine lv_aload_n X.1 X.2.1 dX12_put_101 rfl (lv_at hl 0 rfl) ?_
      refine lv_iconst (v := 0) X.1 X.2.1 dX12_put_102 rfl ?_
      refine x_putI X hW fd_Model_taped (fun w h => List.mem_cons_of_mem _ (gin_X12 w h)) (List.mem_cons_of_mem _ gw274) z_1 dX12_put_103 tyX12 tyX12_ok nmX12 rfl rfl rfl h (fun S13 H locs h hW => ?_)
      refine lv_aload_n X.1 X.2.1 dX12_put_106 rfl (lv_at hl 0 rfl) ?_
      refine x_getI X hW fd_Model_putMany (fun w h => List.mem_cons_of_mem _ (gin_X12 w h)) (List.mem_cons_of_mem _ gw468) z_1 dX12_put_107 h (fun x14 h => ?_)
      exact x_iret X hW h dX12_put_110
    · refine lv_aload_n X.1 X.2.1 dX12_put_64 rfl (lv_at hl 0 rfl) ?_
      refine x_getR X hW fd_Model_pBytes (fun w h => List.mem_cons_of_mem _ (gin_X12 w h)) (List.mem_cons_of_mem _ gw231) z_1 dX12_put_65 ?_
      refine lv_sipush (v := 300) X.1 X.2.1 dX12_put_68 rfl ?_
      refine lv_aload_n X.1 X.2.1 dX12_put_71 rfl (lv_at hl 0 rfl) ?_
      refine x_getI X hW fd_Model_putMany (fun w h => List.mem_cons_of_mem _ (gin_X12 w h)) (List.mem_cons_of_mem _ gw468) z_1 dX12_put_72 h (fun x15 h => ?_)
      refine lv_imul X.1 X.2.1 dX12_put_75 ?_
      refine lv_iload_n X.1 X.2.1 dX12_put_76 rfl (lv_at hl 1 rfl) ?_
      refine lv_iadd X.1 X.2.1 dX12_put_77 ?_
      refine lv_aload_n X.1 X.2.1 dX12_put_78 rfl (lv_at hl 0 rfl) ?_
      refine x_getR X hW fd_Model_tape (fun w h => List.mem_cons_of_mem _ (gin_X12 w h)) (List.mem_cons_of_mem _ gw165) z_1 dX12_put_79 ?_
      refine lv_iload_n X.1 X.2.1 dX12_put_82 rfl (lv_at hl 1 rfl) ?_
      refine x_iald X hW ar_215 dX12_put_83 h (fun x16 h => ?_)
      refine x_iast X hW ar_276 dX12_put_84 h (fun S17 H locs h hW => ?_)
      refine lv_iinc (v := (v2 + 1)) (lv' := [(2, .int (v2 + 1)), (0, .ref (G.2.2 200 0))]) X.1 X.2.1 dX12_put_85 hl (k := 1) rfl rfl (by decide) rfl (fun ls hl => ?_)
      refine lv_goto (tgt := 56) X.1 X.2.1 dX12_put_88 (by decide) ?_
      exact ih (v2 + 1) S17 _ _ _ h hW  (lv_sub hl [1, 0] rfl)
set_option maxRecDepth 100000 in
set_option maxHeartbeats 4000000 in
theorem w_X12_put_0 {p : Program} {l : Launch} {e : Env} {s : State} {m : MethodId} {args : Array Value} {below : List Frame} {meth : Method} {c : Code} {G : xG} {sz : Nat} {o : Int32 × Mm} (X : xC G true sz p s m args c cX12_put 3 wsX12_put RX12 meth (some .int)) (v1 : Int32) {S : Mm} {H : Heap} {locs : List Loc} {ls : Array Slot} (hW : xW G true sz s H locs S) (hl : lv_has ls 3 [(0, .ref (G.2.2 200 0)), (1, .int v1)]) (h : F_X12_put v1 S = some o) : wX p l e rmX12_put s m args below meth c H locs (xQi G true sz o) (XA G true sz) 0 ls [] := by
  unfold F_X12_put at h
  refine lv_aload_n X.1 X.2.1 dX12_put_0 rfl (lv_at hl 0 rfl) ?_
  refine lv_iconst (v := 0) X.1 X.2.1 dX12_put_1 rfl ?_
  refine x_putI X hW fd_Model_thrown (fun w h => List.mem_cons_of_mem _ (gin_X12 w h)) (List.mem_cons_of_mem _ gw273) z_1 dX12_put_2 tyX12 tyX12_ok nmX12 rfl rfl rfl h (fun S1 H locs h hW => ?_)
  refine lv_aload_n X.1 X.2.1 dX12_put_5 rfl (lv_at hl 0 rfl) ?_
  refine x_getI X hW fd_Model_putMany (fun w h => List.mem_cons_of_mem _ (gin_X12 w h)) (List.mem_cons_of_mem _ gw468) z_1 dX12_put_6 h (fun x2 h => ?_)
  refine lv_bipush (v := 20) X.1 X.2.1 dX12_put_9 rfl ?_
  refine x_icmp_eq X (tgt := 29) dX12_put_11 (by decide) h (fun h => ?_) (fun h => ?_)
  · exact w_X12_put_29 X    hW (lv_sub hl [] rfl) h
  · refine lv_iload_n X.1 X.2.1 dX12_put_14 rfl (lv_at hl 1 rfl) ?_
    refine lv_aload_n X.1 X.2.1 dX12_put_15 rfl (lv_at hl 0 rfl) ?_
    refine x_getI X hW fd_Model_slot (fun w h => List.mem_cons_of_mem _ (gin_X12 w h)) (List.mem_cons_of_mem _ gw451) z_1 dX12_put_16 h (fun x3 h => ?_)
    refine x_icmp_lt X (tgt := 29) dX12_put_19 (by decide) h (fun h => ?_) (fun h => ?_)
    · exact w_X12_put_29 X    hW (lv_sub hl [] rfl) h
    · refine lv_aload_n X.1 X.2.1 dX12_put_22 rfl (lv_at hl 0 rfl) ?_
      refine x_getI X hW fd_Model_taped (fun w h => List.mem_cons_of_mem _ (gin_X12 w h)) (List.mem_cons_of_mem _ gw274) z_1 dX12_put_23 h (fun x4 h => ?_)
      refine x_if_ne X (tgt := 31) dX12_put_26 (by decide) h (fun h => ?_) (fun h => ?_)
      · refine lv_aload_n X.1 X.2.1 dX12_put_31 rfl (lv_at hl 0 rfl) ?_
        refine x_getR X hW fd_Model_pSlot (fun w h => List.mem_cons_of_mem _ (gin_X12 w h)) (List.mem_cons_of_mem _ gw229) z_1 dX12_put_32 ?_
        refine lv_aload_n X.1 X.2.1 dX12_put_35 rfl (lv_at hl 0 rfl) ?_
        refine x_getI X hW fd_Model_putMany (fun w h => List.mem_cons_of_mem _ (gin_X12 w h)) (List.mem_cons_of_mem _ gw468) z_1 dX12_put_36 h (fun x5 h => ?_)
        refine lv_iload_n X.1 X.2.1 dX12_put_39 rfl (lv_at hl 1 rfl) ?_
        refine x_iast X hW ar_274 dX12_put_40 h (fun S6 H locs h hW => ?_)
        refine lv_aload_n X.1 X.2.1 dX12_put_41 rfl (lv_at hl 0 rfl) ?_
        refine x_getR X hW fd_Model_pLen (fun w h => List.mem_cons_of_mem _ (gin_X12 w h)) (List.mem_cons_of_mem _ gw230) z_1 dX12_put_42 ?_
        refine lv_aload_n X.1 X.2.1 dX12_put_45 rfl (lv_at hl 0 rfl) ?_
        refine x_getI X hW fd_Model_putMany (fun w h => List.mem_cons_of_mem _ (gin_X12 w h)) (List.mem_cons_of_mem _ gw468) z_1 dX12_put_46 h (fun x7 h => ?_)
        refine lv_aload_n X.1 X.2.1 dX12_put_49 rfl (lv_at hl 0 rfl) ?_
        refine x_getI X hW fd_Model_taped (fun w h => List.mem_cons_of_mem _ (gin_X12 w h)) (List.mem_cons_of_mem _ gw274) z_1 dX12_put_50 h (fun x8 h => ?_)
        refine x_iast X hW ar_275 dX12_put_53 h (fun S9 H locs h hW => ?_)
        refine lv_iconst (v := 0) X.1 X.2.1 dX12_put_54 rfl ?_
        refine lv_istore_n (lv' := [(2, .int 0), (0, .ref (G.2.2 200 0)), (1, .int v1)]) X.1 X.2.1 dX12_put_55 rfl hl (by decide) rfl (fun ls hl => ?_)
        exact w_X12_put_56 X    fu 0 S9 _ _ _ h hW  (lv_sub hl [1, 0] rfl)
      · exact w_X12_put_29 X    hW (lv_sub hl [] rfl) h
theorem c_X12_put (l : Launch) (G : xG) (hD : xD G true) (sz : Nat) (S : Mm) (v1 : Int32) (o : Int32 × Mm) (h : F_X12_put v1 S = some o) : Met l yX12_put wsX12_put rmX12_put (xPre G true S sz [.ref (G.2.2 200 0), .int v1]) (xQi G true sz o) 0 0 (XA G true sz) :=
  x_start hD (by decide) rfl (Nat.le_of_ble_eq_true rfl) (fun p e s m below meth c X hW ls hl => w_X12_put_0 X v1 hW hl h)

/-! WirelessCellModel.join(I)I -/
def rmX12_join : Room := { frames := 3, cells := 0, slots := 0, locals := 68 }
def L_X12_join_57 (k40 : Int32 → Mm → Option (Int32 × Mm)) (v1 : Int32) (v2 : Int32) (s1 : Int32) (S : Mm) : Option (Int32 × Mm) :=
  cl (F_X12_add s1 S) fun r14 S15 =>
  k40 (v2 + 1) S15
def L_X12_join_40  (v1 : Int32) : Nat → Int32 → Mm → Option (Int32 × Mm)
  | 0, _, _ => none
  | n + 1, v2, S => 
    if 6 ≤ v2 then (
    cl (F_X12_enqueue v1 176 0 0 (-1) S) fun r11 S12 =>
    some (0, S12))
    else (
    if v2 = 2 then (
    L_X12_join_57 (L_X12_join_40 v1 n) v1 v2 1 S)
    else (
    L_X12_join_57 (L_X12_join_40 v1 n) v1 v2 0 S))
def F_X12_join (v1 : Int32) (S : Mm) : Option (Int32 × Mm) :=
  pf S 288 0 0 fun S1 =>
  cl (F_X12_isStation v1 S1) fun r2 S3 =>
  if r2 = 0 then (
  some ((-1), S3))
  else (
  stA S3 218 0 9 1 v1 1 fun S5 =>
  cl (F_X12_unkey v1 S5) fun r6 S7 =>
  stA S7 220 0 9 1 v1 (1 &&& 1) fun S9 =>
  pf S9 297 0 0 fun S10 =>
  L_X12_join_40  v1 fu 0 S10)
set_option maxRecDepth 100000 in
set_option maxHeartbeats 4000000 in
theorem w_X12_join_57 {p : Program} {l : Launch} {e : Env} {s : State} {m : MethodId} {args : Array Value} {below : List Frame} {meth : Method} {c : Code} {G : xG} {sz : Nat} {o : Int32 × Mm} (X : xC G true sz p s m args c cX12_join 3 wsX12_join RX12 meth (some .int)) (v1 : Int32) (v2 : Int32) (s1 : Int32)  (k40 : Int32 → Mm → Option (Int32 × Mm)) (hk40 : ∀ (v2 : Int32) (S : Mm) (H : Heap) (locs : List Loc) (ls : Array Slot), k40 v2 S = some o → xW G true sz s H locs S → lv_has ls 3 [(0, .ref (G.2.2 200 0)), (1, .int v1), (2, .int v2)] → wX p l e rmX12_join s m args below meth c H locs (xQi G true sz o) (XA G true sz) 40 ls []) {S : Mm} {H : Heap} {locs : List Loc} {ls : Array Slot} (hW : xW G true sz s H locs S) (hl : lv_has ls 3 [(0, .ref (G.2.2 200 0)), (1, .int v1), (2, .int v2)]) (h : L_X12_join_57 k40 v1 v2 s1 S = some o) : wX p l e rmX12_join s m args below meth c H locs (xQi G true sz o) (XA G true sz) 57 ls [.int s1, .ref (G.2.2 200 0)] := by
  unfold L_X12_join_57 at h
  obtain ⟨r14, S15, h16, h⟩ := cl_some h
  refine x_aftV X hW (x_runV (C := RX12) (a := G.2.2 200 0) (As := [.int s1]) (rest := []) X hW (c_X12_add l G X.2.2.2.2.2.2.2.2.2.1 _ S s1 _ h16) (cwV 1 X.2.2.2.2.1 (gV gw530 gw531 gw532 gw5 gw533) rfl rfl rfl ⟨rfl, hd_X12_add⟩ ⟨Nat.le_of_ble_eq_true rfl, Nat.le_of_ble_eq_true rfl⟩) (x_recv X hW ob_Model z_1) rfl hl.1 rfl (Nat.le_of_ble_eq_true rfl) dX12_join_57 ⟨Nat.zero_le _, Nat.zero_le _⟩) (fun H locs hW => ?_)
  refine lv_iinc (v := (v2 + 1)) (lv' := [(2, .int (v2 + 1)), (0, .ref (G.2.2 200 0)), (1, .int v1)]) X.1 X.2.1 dX12_join_60 hl (k := 2) rfl rfl (by decide) rfl (fun ls hl => ?_)
  refine lv_goto (tgt := 40) X.1 X.2.1 dX12_join_63 (by decide) ?_
  exact hk40 (v2 + 1) S15 _ _ _ h hW  (lv_sub hl [1, 2, 0] rfl)
set_option maxRecDepth 100000 in
set_option maxHeartbeats 4000000 in
theorem w_X12_join_40 {p : Program} {l : Launch} {e : Env} {s : State} {m : MethodId} {args : Array Value} {below : List Frame} {meth : Method} {c : Code} {G : xG} {sz : Nat} {o : Int32 × Mm} (X : xC G true sz p s m args c cX12_join 3 wsX12_join RX12 meth (some .int)) (v1 : Int32)   : ∀ (n : Nat) (v2 : Int32) (S : Mm) (H : Heap) (locs : List Loc) (ls : Array Slot), L_X12_join_40 v1 n v2 S = some o → xW G true sz s H locs S → lv_has ls 3 [(0, .ref (G.2.2 200 0)), (1, .int v1), (2, .int v2)] → wX p l e rmX12_join s m args below meth c H locs (xQi G true sz o) (XA G true sz) 40 ls [] := by
  intro n
  induction n with
  | zero =>
    intro v2 S H locs ls h
    cases h
  | succ n ih =>
    intro v2 S H locs ls h hW  hl
    rw [L_X12_join_40] at h
    refine lv_iload_n X.1 X.2.1 dX12_join_40 rfl (lv_at hl 2 rfl) ?_
    refine lv_bipush (v := 6) X.1 X.2.1 dX12_join_41 rfl ?_
    refine x_icmp_ge X (tgt := 66) dX12_join_43 (by decide) h (fun h => ?_) (fun h => ?_)
    · refine lv_aload_n X.1 X.2.1 dX12_join_66 rfl (lv_at hl 0 rfl) ?_
      refine lv_iload_n X.1 X.2.1 dX12_join_67 rfl (lv_at hl 1 rfl) ?_
      refine lv_sipush (v := 176) X.1 X.2.1 dX12_join_68 rfl ?_
      refine lv_iconst (v := 0) X.1 X.2.1 dX12_join_71 rfl ?_
      refine lv_iconst (v := 0) X.1 X.2.1 dX12_join_72 rfl ?_
      refine lv_iconst (v := (-1)) X.1 X.2.1 dX12_join_73 rfl ?_
      obtain ⟨r11, S12, h13, h⟩ := cl_some h
      refine x_aftV X hW (x_runV (C := RX12) (a := G.2.2 200 0) (As := [.int v1, .int 176, .int 0, .int 0, .int (-1)]) (rest := []) X hW (c_X12_enqueue l G X.2.2.2.2.2.2.2.2.2.1 _ S v1 176 0 0 (-1) _ h13) (cwV 5 X.2.2.2.2.1 (gV gw534 gw535 gw536 gw5 gw537) rfl rfl rfl ⟨rfl, hd_X12_enqueue⟩ ⟨Nat.le_of_ble_eq_true rfl, Nat.le_of_ble_eq_true rfl⟩) (x_recv X hW ob_Model z_1) rfl hl.1 rfl (Nat.le_of_ble_eq_true rfl) dX12_join_74 ⟨Nat.zero_le _, Nat.zero_le _⟩) (fun H locs hW => ?_)
      refine lv_iconst (v := 0) X.1 X.2.1 dX12_join_77 rfl ?_
      exact x_iret X hW h dX12_join_78
    · refine lv_aload_n X.1 X.2.1 dX12_join_46 rfl (lv_at hl 0 rfl) ?_
      refine lv_iload_n X.1 X.2.1 dX12_join_47 rfl (lv_at hl 2 rfl) ?_
      refine lv_iconst (v := 2) X.1 X.2.1 dX12_join_48 rfl ?_
      refine x_icmp_ne X (tgt := 56) dX12_join_49 (by decide) h (fun h => ?_) (fun h => ?_)
      · refine lv_iconst (v := 0) X.1 X.2.1 dX12_join_56 rfl ?_
        exact w_X12_join_57 X v1 v2 0  (L_X12_join_40 v1 n) ih hW (lv_sub hl [0, 1, 2] rfl) h
      · refine lv_iconst (v := 1) X.1 X.2.1 dX12_join_52 rfl ?_
        refine lv_goto (tgt := 57) X.1 X.2.1 dX12_join_53 (by decide) ?_
        exact w_X12_join_57 X v1 v2 1  (L_X12_join_40 v1 n) ih hW (lv_sub hl [0, 1, 2] rfl) h
set_option maxRecDepth 100000 in
set_option maxHeartbeats 4000000 in
theorem w_X12_join_0 {p : Program} {l : Launch} {e : Env} {s : State} {m : MethodId} {args : Array Value} {below : List Frame} {meth : Method} {c : Code} {G : xG} {sz : Nat} {o : Int32 × Mm} (X : xC G true sz p s m args c cX12_join 3 wsX12_join RX12 meth (some .int)) (v1 : Int32) {S : Mm} {H : Heap} {locs : List Loc} {ls : Array Slot} (hW : xW G true sz s H locs S) (hl : lv_has ls 3 [(0, .ref (G.2.2 200 0)), (1, .int v1)]) (h : F_X12_join v1 S = some o) : wX p l e rmX12_join s m args below meth c H locs (xQi G true sz o) (XA G true sz) 0 ls [] := by
  unfold F_X12_join at h
  refine lv_aload_n X.1 X.2.1 dX12_join_0 rfl (lv_at hl 0 rfl) ?_
  refine lv_iconst (v := 0) X.1 X.2.1 dX12_join_1 rfl ?_
  refine x_putI X hW fd_Model_thrown (fun w h => List.mem_cons_of_mem _ (gin_X12 w h)) (List.mem_cons_of_mem _ gw273) z_1 dX12_join_2 tyX12 tyX12_ok nmX12 rfl rfl rfl h (fun S1 H locs h hW => ?_)
  refine lv_iload_n X.1 X.2.1 dX12_join_5 rfl (lv_at hl 1 rfl) ?_
  obtain ⟨r2, S3, h4, h⟩ := cl_some h
  refine x_aftI X hW (x_runS (As := [.int v1]) (rest := []) X hW (c_X12_isStation l G X.2.2.2.2.2.2.2.2.2.1 _ S1 v1 _ h4) (va_cwS 1 X.2.2.2.2.1 (gS gw369 gw370 gw5 gw371) rfl rfl rfl hd_X12_isStation ⟨Nat.le_of_ble_eq_true rfl, Nat.le_of_ble_eq_true rfl⟩) rfl hl.1 rfl (Nat.le_of_ble_eq_true rfl) dX12_join_6 ⟨Nat.zero_le _, Nat.zero_le _⟩) (fun H locs hW => ?_)
  refine x_if_ne X (tgt := 14) dX12_join_9 (by decide) h (fun h => ?_) (fun h => ?_)
  · refine lv_aload_n X.1 X.2.1 dX12_join_14 rfl (lv_at hl 0 rfl) ?_
    refine x_getR X hW fd_Model_state (fun w h => List.mem_cons_of_mem _ (gin_X12 w h)) (List.mem_cons_of_mem _ gw168) z_1 dX12_join_15 ?_
    refine lv_iload_n X.1 X.2.1 dX12_join_18 rfl (lv_at hl 1 rfl) ?_
    refine lv_iconst (v := 1) X.1 X.2.1 dX12_join_19 rfl ?_
    refine x_iast X hW ar_218 dX12_join_20 h (fun S5 H locs h hW => ?_)
    refine lv_aload_n X.1 X.2.1 dX12_join_21 rfl (lv_at hl 0 rfl) ?_
    refine lv_iload_n X.1 X.2.1 dX12_join_22 rfl (lv_at hl 1 rfl) ?_
    obtain ⟨r6, S7, h8, h⟩ := cl_some h
    refine x_aftV X hW (x_runV (C := RX12) (a := G.2.2 200 0) (As := [.int v1]) (rest := []) X hW (c_X12_unkey l G X.2.2.2.2.2.2.2.2.2.1 _ S5 v1 _ h8) (cwV 1 X.2.2.2.2.1 (gV gw526 gw527 gw528 gw5 gw529) rfl rfl rfl ⟨rfl, hd_X12_unkey⟩ ⟨Nat.le_of_ble_eq_true rfl, Nat.le_of_ble_eq_true rfl⟩) (x_recv X hW ob_Model z_1) rfl hl.1 rfl (Nat.le_of_ble_eq_true rfl) dX12_join_23 ⟨Nat.zero_le _, Nat.zero_le _⟩) (fun H locs hW => ?_)
    refine lv_aload_n X.1 X.2.1 dX12_join_26 rfl (lv_at hl 0 rfl) ?_
    refine x_getR X hW fd_Model_asked (fun w h => List.mem_cons_of_mem _ (gin_X12 w h)) (List.mem_cons_of_mem _ gw170) z_1 dX12_join_27 ?_
    refine lv_iload_n X.1 X.2.1 dX12_join_30 rfl (lv_at hl 1 rfl) ?_
    refine lv_iconst (v := 1) X.1 X.2.1 dX12_join_31 rfl ?_
    refine x_zast X hW ar_220 dX12_join_32 h (fun S9 H locs h hW => ?_)
    refine lv_aload_n X.1 X.2.1 dX12_join_33 rfl (lv_at hl 0 rfl) ?_
    refine lv_iconst (v := 0) X.1 X.2.1 dX12_join_34 rfl ?_
    refine x_putI X hW fd_Model_length (fun w h => List.mem_cons_of_mem _ (gin_X12 w h)) (List.mem_cons_of_mem _ gw525) z_1 dX12_join_35 tyX12 tyX12_ok nmX12 rfl rfl rfl h (fun S10 H locs h hW => ?_)
    refine lv_iconst (v := 0) X.1 X.2.1 dX12_join_38 rfl ?_
    refine lv_istore_n (lv' := [(2, .int 0), (0, .ref (G.2.2 200 0)), (1, .int v1)]) X.1 X.2.1 dX12_join_39 rfl hl (by decide) rfl (fun ls hl => ?_)
    exact w_X12_join_40 X v1   fu 0 S10 _ _ _ h hW  (lv_sub hl [1, 2, 0] rfl)
  · refine lv_iconst (v := (-1)) X.1 X.2.1 dX12_join_12 rfl ?_
    exact x_iret X hW h dX12_join_13
theorem c_X12_join (l : Launch) (G : xG) (hD : xD G true) (sz : Nat) (S : Mm) (v1 : Int32) (o : Int32 × Mm) (h : F_X12_join v1 S = some o) : Met l yX12_join wsX12_join rmX12_join (xPre G true S sz [.ref (G.2.2 200 0), .int v1]) (xQi G true sz o) 0 0 (XA G true sz) :=
  x_start hD (by decide) rfl (Nat.le_of_ble_eq_true rfl) (fun p e s m below meth c X hW ls hl => w_X12_join_0 X v1 hW hl h)

/-! WirelessCellModel.leave(II)I -/
def rmX12_leave : Room := { frames := 4, cells := 0, slots := 0, locals := 91 }
def L_X12_leave_24   (S : Mm) : Option (Int32 × Mm) :=
  some ((-1), S)
def F_X12_leave (v1 : Int32) (v2 : Int32) (S : Mm) : Option (Int32 × Mm) :=
  pf S 288 0 0 fun S1 =>
  cl (F_X12_isStation v1 S1) fun r2 S3 =>
  if r2 = 0 then (
  L_X12_leave_24  S3)
  else (
  cl (F_X12_in (Int32.toInt64 v2) 0 255 S3) fun r5 S6 =>
  if r5 = 0 then (
  L_X12_leave_24  S6)
  else (
  stA S6 218 0 9 1 v1 1 fun S8 =>
  cl (F_X12_unkey v1 S8) fun r9 S10 =>
  stA S10 220 0 9 1 v1 (0 &&& 1) fun S12 =>
  cl (F_X12_sendsEnd v1 0 v2 S12) fun r13 S14 =>
  some (0, S14)))
set_option maxRecDepth 100000 in
set_option maxHeartbeats 4000000 in
theorem w_X12_leave_24 {p : Program} {l : Launch} {e : Env} {s : State} {m : MethodId} {args : Array Value} {below : List Frame} {meth : Method} {c : Code} {G : xG} {sz : Nat} {o : Int32 × Mm} (X : xC G true sz p s m args c cX12_leave 3 wsX12_leave RX12 meth (some .int))    {S : Mm} {H : Heap} {locs : List Loc} {ls : Array Slot} (hW : xW G true sz s H locs S) (hl : lv_has ls 3 []) (h : L_X12_leave_24   S = some o) : wX p l e rmX12_leave s m args below meth c H locs (xQi G true sz o) (XA G true sz) 24 ls [] := by
  unfold L_X12_leave_24 at h
  refine lv_iconst (v := (-1)) X.1 X.2.1 dX12_leave_24 rfl ?_
  exact x_iret X hW h dX12_leave_25
set_option maxRecDepth 100000 in
set_option maxHeartbeats 4000000 in
theorem w_X12_leave_0 {p : Program} {l : Launch} {e : Env} {s : State} {m : MethodId} {args : Array Value} {below : List Frame} {meth : Method} {c : Code} {G : xG} {sz : Nat} {o : Int32 × Mm} (X : xC G true sz p s m args c cX12_leave 3 wsX12_leave RX12 meth (some .int)) (v1 : Int32) (v2 : Int32) {S : Mm} {H : Heap} {locs : List Loc} {ls : Array Slot} (hW : xW G true sz s H locs S) (hl : lv_has ls 3 [(0, .ref (G.2.2 200 0)), (1, .int v1), (2, .int v2)]) (h : F_X12_leave v1 v2 S = some o) : wX p l e rmX12_leave s m args below meth c H locs (xQi G true sz o) (XA G true sz) 0 ls [] := by
  unfold F_X12_leave at h
  refine lv_aload_n X.1 X.2.1 dX12_leave_0 rfl (lv_at hl 0 rfl) ?_
  refine lv_iconst (v := 0) X.1 X.2.1 dX12_leave_1 rfl ?_
  refine x_putI X hW fd_Model_thrown (fun w h => List.mem_cons_of_mem _ (gin_X12 w h)) (List.mem_cons_of_mem _ gw273) z_1 dX12_leave_2 tyX12 tyX12_ok nmX12 rfl rfl rfl h (fun S1 H locs h hW => ?_)
  refine lv_iload_n X.1 X.2.1 dX12_leave_5 rfl (lv_at hl 1 rfl) ?_
  obtain ⟨r2, S3, h4, h⟩ := cl_some h
  refine x_aftI X hW (x_runS (As := [.int v1]) (rest := []) X hW (c_X12_isStation l G X.2.2.2.2.2.2.2.2.2.1 _ S1 v1 _ h4) (va_cwS 1 X.2.2.2.2.1 (gS gw369 gw370 gw5 gw371) rfl rfl rfl hd_X12_isStation ⟨Nat.le_of_ble_eq_true rfl, Nat.le_of_ble_eq_true rfl⟩) rfl hl.1 rfl (Nat.le_of_ble_eq_true rfl) dX12_leave_6 ⟨Nat.zero_le _, Nat.zero_le _⟩) (fun H locs hW => ?_)
  refine x_if_eq X (tgt := 24) dX12_leave_9 (by decide) h (fun h => ?_) (fun h => ?_)
  · exact w_X12_leave_24 X    hW (lv_sub hl [] rfl) h
  · refine lv_iload_n X.1 X.2.1 dX12_leave_12 rfl (lv_at hl 2 rfl) ?_
    refine lv_i2l (v := (Int32.toInt64 v2)) X.1 X.2.1 dX12_leave_13 rfl ?_
    refine lv_lconst (v := 0) X.1 X.2.1 dX12_leave_14 rfl ?_
    refine lv_ldc2 (v := 255) X.1 X.2.1 X.2.2.2.1 (X.2.2.2.2.1 _ (List.mem_cons_of_mem _ gw295)) dX12_leave_15 ?_
    obtain ⟨r5, S6, h7, h⟩ := cl_some h
    refine x_aftI X hW (x_runS (As := [.long (Int32.toInt64 v2), .long 0, .long 255]) (rest := []) X hW (c_X12_in l G X.2.2.2.2.2.2.2.2.2.1 _ S3 (Int32.toInt64 v2) 0 255 _ h7) (va_cwS 3 X.2.2.2.2.1 (gS gw296 gw297 gw5 gw298) rfl rfl rfl hd_X12_in ⟨Nat.le_of_ble_eq_true rfl, Nat.le_of_ble_eq_true rfl⟩) rfl hl.1 rfl (Nat.le_of_ble_eq_true rfl) dX12_leave_18 ⟨Nat.zero_le _, Nat.zero_le _⟩) (fun H locs hW => ?_)
    refine x_if_ne X (tgt := 26) dX12_leave_21 (by decide) h (fun h => ?_) (fun h => ?_)
    · refine lv_aload_n X.1 X.2.1 dX12_leave_26 rfl (lv_at hl 0 rfl) ?_
      refine x_getR X hW fd_Model_state (fun w h => List.mem_cons_of_mem _ (gin_X12 w h)) (List.mem_cons_of_mem _ gw168) z_1 dX12_leave_27 ?_
      refine lv_iload_n X.1 X.2.1 dX12_leave_30 rfl (lv_at hl 1 rfl) ?_
      refine lv_iconst (v := 1) X.1 X.2.1 dX12_leave_31 rfl ?_
      refine x_iast X hW ar_218 dX12_leave_32 h (fun S8 H locs h hW => ?_)
      refine lv_aload_n X.1 X.2.1 dX12_leave_33 rfl (lv_at hl 0 rfl) ?_
      refine lv_iload_n X.1 X.2.1 dX12_leave_34 rfl (lv_at hl 1 rfl) ?_
      obtain ⟨r9, S10, h11, h⟩ := cl_some h
      refine x_aftV X hW (x_runV (C := RX12) (a := G.2.2 200 0) (As := [.int v1]) (rest := []) X hW (c_X12_unkey l G X.2.2.2.2.2.2.2.2.2.1 _ S8 v1 _ h11) (cwV 1 X.2.2.2.2.1 (gV gw526 gw527 gw528 gw5 gw529) rfl rfl rfl ⟨rfl, hd_X12_unkey⟩ ⟨Nat.le_of_ble_eq_true rfl, Nat.le_of_ble_eq_true rfl⟩) (x_recv X hW ob_Model z_1) rfl hl.1 rfl (Nat.le_of_ble_eq_true rfl) dX12_leave_35 ⟨Nat.zero_le _, Nat.zero_le _⟩) (fun H locs hW => ?_)
      refine lv_aload_n X.1 X.2.1 dX12_leave_38 rfl (lv_at hl 0 rfl) ?_
      refine x_getR X hW fd_Model_asked (fun w h => List.mem_cons_of_mem _ (gin_X12 w h)) (List.mem_cons_of_mem _ gw170) z_1 dX12_leave_39 ?_
      refine lv_iload_n X.1 X.2.1 dX12_leave_42 rfl (lv_at hl 1 rfl) ?_
      refine lv_iconst (v := 0) X.1 X.2.1 dX12_leave_43 rfl ?_
      refine x_zast X hW ar_220 dX12_leave_44 h (fun S12 H locs h hW => ?_)
      refine lv_aload_n X.1 X.2.1 dX12_leave_45 rfl (lv_at hl 0 rfl) ?_
      refine lv_iload_n X.1 X.2.1 dX12_leave_46 rfl (lv_at hl 1 rfl) ?_
      refine lv_iconst (v := 0) X.1 X.2.1 dX12_leave_47 rfl ?_
      refine lv_iload_n X.1 X.2.1 dX12_leave_48 rfl (lv_at hl 2 rfl) ?_
      obtain ⟨r13, S14, h15, h⟩ := cl_some h
      refine x_aftV X hW (x_runV (C := RX12) (a := G.2.2 200 0) (As := [.int v1, .int 0, .int v2]) (rest := []) X hW (c_X12_sendsEnd l G X.2.2.2.2.2.2.2.2.2.1 _ S12 v1 0 v2 _ h15) (cwV 3 X.2.2.2.2.1 (gV gw558 gw559 gw560 gw5 gw561) rfl rfl rfl ⟨rfl, hd_X12_sendsEnd⟩ ⟨Nat.le_of_ble_eq_true rfl, Nat.le_of_ble_eq_true rfl⟩) (x_recv X hW ob_Model z_1) rfl hl.1 rfl (Nat.le_of_ble_eq_true rfl) dX12_leave_49 ⟨Nat.zero_le _, Nat.zero_le _⟩) (fun H locs hW => ?_)
      refine lv_iconst (v := 0) X.1 X.2.1 dX12_leave_52 rfl ?_
      exact x_iret X hW h dX12_leave_53
    · exact w_X12_leave_24 X    hW (lv_sub hl [] rfl) h
theorem c_X12_leave (l : Launch) (G : xG) (hD : xD G true) (sz : Nat) (S : Mm) (v1 : Int32) (v2 : Int32) (o : Int32 × Mm) (h : F_X12_leave v1 v2 S = some o) : Met l yX12_leave wsX12_leave rmX12_leave (xPre G true S sz [.ref (G.2.2 200 0), .int v1, .int v2]) (xQi G true sz o) 0 0 (XA G true sz) :=
  x_start hD (by decide) rfl (Nat.le_of_ble_eq_true rfl) (fun p e s m below meth c X hW ls hl => w_X12_leave_0 X v1 v2 hW hl h)
