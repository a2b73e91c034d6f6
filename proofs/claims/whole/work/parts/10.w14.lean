/-! WirelessCellModel.handStation(I)V -/
def rmX12_handStation : Room := { frames := 6, cells := 0, slots := 0, locals := 148 }
def L_X12_handStation_36  (v1 : Int32) : Nat → Int32 → Mm → Option (Unit × Mm)
  | 0, _, _ => none
  | n + 1, v3, S => 
    if 32 ≤ v3 then (
    cl (F_X12_sendsHand v1 0 2 v1 v1 S) fun r11 S12 =>
    some ((), S12))
    else (
    ldA S 278 0 300 1 (33 + v3) fun x14 =>
    stA S 225 0 288 1 ((32 * v1) + v3) x14 fun S15 =>
    (L_X12_handStation_36 v1 n) (v3 + 1) S15)
def L_X12_handStation_140 (k99 : Int32 → Int32 → Mm → Option (Unit × Mm)) (v1 : Int32) (v4 : Int32) (s0 : Int32) (S : Mm) : Option (Unit × Mm) :=
  k99 s0 (v4 + 1) S
def L_X12_handStation_139 (k99 : Int32 → Int32 → Mm → Option (Unit × Mm)) (v1 : Int32) (v4 : Int32) (S : Mm) : Option (Unit × Mm) :=
  L_X12_handStation_140 k99 v1 v4 0 S
def L_X12_handStation_99  (v1 : Int32) : Nat → Int32 → Int32 → Mm → Option (Unit × Mm)
  | 0, _, _, _ => none
  | n + 1, v3, v4, S => 
    if 32 ≤ v4 then (
    if v3 = 0 then (
    some ((), S))
    else (
    cl (F_X12_isMac 223 0 (48 * v1) 278 0 32 33 S) fun r16 S17 =>
    if r16 = 0 then (
    some ((), S17))
    else (
    cl (F_X12_keyBy v1 S17) fun r19 S20 =>
    stA S20 218 0 9 1 v1 4 fun S22 =>
    cl (F_X12_sendsHand v1 0 4 (-1) v1 S22) fun r23 S24 =>
    some ((), S24))))
    else (
    if v3 = 0 then (
    L_X12_handStation_139 (L_X12_handStation_99 v1 n) v1 v4 S)
    else (
    ldA S 225 0 288 1 ((32 * v1) + v4) fun x26 =>
    ldA S 278 0 300 1 (33 + v4) fun x27 =>
    if x26 = x27 then (
    L_X12_handStation_140 (L_X12_handStation_99 v1 n) v1 v4 1 S)
    else (
    L_X12_handStation_139 (L_X12_handStation_99 v1 n) v1 v4 S)))
def F_X12_handStation (v1 : Int32) (S : Mm) : Option (Unit × Mm) :=
  cl (F_X12_handOf S) fun r1 S2 =>
  if r1 = 1 then (
  cl (F_X12_findTried v1 278 0 33 217 0 (32 * v1) S2) fun r5 S6 =>
  cl (F_X12_keepTried v1 S6) fun r8 S9 =>
  L_X12_handStation_36  v1 fu 0 S9)
  else (
  if r1 = 3 then (
  ldA S2 224 0 18 1 v1 fun x4 =>
  if x4 = 0 then (
  some ((), S2))
  else (
  L_X12_handStation_99  v1 fu 1 0 S2))
  else (
  some ((), S2)))
set_option maxRecDepth 100000 in
set_option maxHeartbeats 4000000 in
theorem w_X12_handStation_36 {p : Program} {l : Launch} {e : Env} {s : State} {m : MethodId} {args : Array Value} {below : List Frame} {meth : Method} {c : Code} {G : xG} {sz : Nat} {o : Unit × Mm} (X : xC G true sz p s m args c cX12_handStation 5 wsX12_handStation RX12 meth none) (v1 : Int32)   : ∀ (n : Nat) (v3 : Int32) (S : Mm) (H : Heap) (locs : List Loc) (ls : Array Slot), L_X12_handStation_36 v1 n v3 S = some o → xW G true sz s H locs S → lv_has ls 5 [(0, .ref (G.2.2 200 0)), (1, .int v1), (3, .int v3)] → wX p l e rmX12_handStation s m args below meth c H locs (xQv G true sz o) (XA G true sz) 36 ls [] := by
  intro n
  induction n with
  | zero =>
    intro v3 S H locs ls h
    cases h
  | succ n ih =>
    intro v3 S H locs ls h hW  hl
    rw [L_X12_handStation_36] at h
    refine lv_iload_n X.1 X.2.1 dX12_handStation_36 rfl (lv_at hl 2 rfl) ?_
    refine lv_bipush (v := 32) X.1 X.2.1 dX12_handStation_37 rfl ?_
    refine x_icmp_ge X (tgt := 68) dX12_handStation_39 (by decide) h (fun h => ?_) (fun h => ?_)
    · refine lv_aload_n X.1 X.2.1 dX12_handStation_68 rfl (lv_at hl 0 rfl) ?_
      refine lv_iload_n X.1 X.2.1 dX12_handStation_69 rfl (lv_at hl 1 rfl) ?_
      refine lv_iconst (v := 0) X.1 X.2.1 dX12_handStation_70 rfl ?_
      refine lv_iconst (v := 2) X.1 X.2.1 dX12_handStation_71 rfl ?_
      refine lv_iload_n X.1 X.2.1 dX12_handStation_72 rfl (lv_at hl 1 rfl) ?_
      refine lv_iload_n X.1 X.2.1 dX12_handStation_73 rfl (lv_at hl 1 rfl) ?_
      obtain ⟨r11, S12, h13, h⟩ := cl_some h
      refine x_aftV X hW (x_runV (C := RX12) (a := G.2.2 200 0) (As := [.int v1, .int 0, .int 2, .int v1, .int v1]) (rest := []) X hW (c_X12_sendsHand l G X.2.2.2.2.2.2.2.2.2.1 _ S v1 0 2 v1 v1 _ h13) (cwV 5 X.2.2.2.2.1 (gV gw1131 gw1132 gw1133 gw5 gw1134) rfl rfl rfl ⟨rfl, hd_X12_sendsHand⟩ ⟨Nat.le_of_ble_eq_true rfl, Nat.le_of_ble_eq_true rfl⟩) (x_recv X hW ob_Model z_1) rfl hl.1 rfl (Nat.le_of_ble_eq_true rfl) dX12_handStation_74 ⟨Nat.zero_le _, Nat.zero_le _⟩) (fun H locs hW => ?_)
      refine lv_goto (tgt := 195) X.1 X.2.1 dX12_handStation_77 (by decide) ?_
      exact x_vret X hW h dX12_handStation_195
    · refine lv_aload_n X.1 X.2.1 dX12_handStation_42 rfl (lv_at hl 0 rfl) ?_
      refine x_getR X hW fd_Model_triedNonce (fun w h => List.mem_cons_of_mem _ (gin_X12 w h)) (List.mem_cons_of_mem _ gw175) z_1 dX12_handStation_43 ?_
      refine lv_bipush (v := 32) X.1 X.2.1 dX12_handStation_46 rfl ?_
      refine lv_iload_n X.1 X.2.1 dX12_handStation_48 rfl (lv_at hl 1 rfl) ?_
      refine lv_imul X.1 X.2.1 dX12_handStation_49 ?_
      refine lv_iload_n X.1 X.2.1 dX12_handStation_50 rfl (lv_at hl 2 rfl) ?_
      refine lv_iadd X.1 X.2.1 dX12_handStation_51 ?_
      refine lv_aload_n X.1 X.2.1 dX12_handStation_52 rfl (lv_at hl 0 rfl) ?_
      refine x_getR X hW fd_Model_seen (fun w h => List.mem_cons_of_mem _ (gin_X12 w h)) (List.mem_cons_of_mem _ gw233) z_1 dX12_handStation_53 ?_
      refine lv_bipush (v := 33) X.1 X.2.1 dX12_handStation_56 rfl ?_
      refine lv_iload_n X.1 X.2.1 dX12_handStation_58 rfl (lv_at hl 2 rfl) ?_
      refine lv_iadd X.1 X.2.1 dX12_handStation_59 ?_
      refine x_iald X hW ar_278 dX12_handStation_60 h (fun x14 h => ?_)
      refine x_iast X hW ar_225 dX12_handStation_61 h (fun S15 H locs h hW => ?_)
      refine lv_iinc (v := (v3 + 1)) (lv' := [(3, .int (v3 + 1)), (0, .ref (G.2.2 200 0)), (1, .int v1)]) X.1 X.2.1 dX12_handStation_62 hl (k := 2) rfl rfl (by decide) rfl (fun ls hl => ?_)
      refine lv_goto (tgt := 36) X.1 X.2.1 dX12_handStation_65 (by decide) ?_
      exact ih (v3 + 1) S15 _ _ _ h hW  (lv_sub hl [1, 2, 0] rfl)
set_option maxRecDepth 100000 in
set_option maxHeartbeats 4000000 in
theorem w_X12_handStation_140 {p : Program} {l : Launch} {e : Env} {s : State} {m : MethodId} {args : Array Value} {below : List Frame} {meth : Method} {c : Code} {G : xG} {sz : Nat} {o : Unit × Mm} (X : xC G true sz p s m args c cX12_handStation 5 wsX12_handStation RX12 meth none) (v1 : Int32) (v4 : Int32) (s0 : Int32)  (k99 : Int32 → Int32 → Mm → Option (Unit × Mm)) (hk99 : ∀ (v3 : Int32) (v4 : Int32) (S : Mm) (H : Heap) (locs : List Loc) (ls : Array Slot), k99 v3 v4 S = some o → xW G true sz s H locs S → lv_has ls 5 [(0, .ref (G.2.2 200 0)), (1, .int v1), (3, .int v3), (4, .int v4)] → wX p l e rmX12_handStation s m args below meth c H locs (xQv G true sz o) (XA G true sz) 99 ls []) {S : Mm} {H : Heap} {locs : List Loc} {ls : Array Slot} (hW : xW G true sz s H locs S) (hl : lv_has ls 5 [(0, .ref (G.2.2 200 0)), (1, .int v1), (4, .int v4)]) (h : L_X12_handStation_140 k99 v1 v4 s0 S = some o) : wX p l e rmX12_handStation s m args below meth c H locs (xQv G true sz o) (XA G true sz) 140 ls [.int s0] := by
  unfold L_X12_handStation_140 at h
  refine lv_istore_n (lv' := [(3, .int s0), (0, .ref (G.2.2 200 0)), (1, .int v1), (4, .int v4)]) X.1 X.2.1 dX12_handStation_140 rfl hl (by decide) rfl (fun ls hl => ?_)
  refine lv_iinc (v := (v4 + 1)) (lv' := [(4, .int (v4 + 1)), (3, .int s0), (0, .ref (G.2.2 200 0)), (1, .int v1)]) X.1 X.2.1 dX12_handStation_141 hl (k := 3) rfl rfl (by decide) rfl (fun ls hl => ?_)
  refine lv_goto (tgt := 99) X.1 X.2.1 dX12_handStation_144 (by decide) ?_
  exact hk99 s0 (v4 + 1) S _ _ _ h hW  (lv_sub hl [2, 3, 1, 0] rfl)
set_option maxRecDepth 100000 in
set_option maxHeartbeats 4000000 in
theorem w_X12_handStation_139 {p : Program} {l : Launch} {e : Env} {s : State} {m : MethodId} {args : Array Value} {below : List Frame} {meth : Method} {c : Code} {G : xG} {sz : Nat} {o : Unit × Mm} (X : xC G true sz p s m args c cX12_handStation 5 wsX12_handStation RX12 meth none) (v1 : Int32) (v4 : Int32)  (k99 : Int32 → Int32 → Mm → Option (Unit × Mm)) (hk99 : ∀ (v3 : Int32) (v4 : Int32) (S : Mm) (H : Heap) (locs : List Loc) (ls : Array Slot), k99 v3 v4 S = some o → xW G true sz s H locs S → lv_has ls 5 [(0, .ref (G.2.2 200 0)), (1, .int v1), (3, .int v3), (4, .int v4)] → wX p l e rmX12_handStation s m args below meth c H locs (xQv G true sz o) (XA G true sz) 99 ls []) {S : Mm} {H : Heap} {locs : List Loc} {ls : Array Slot} (hW : xW G true sz s H locs S) (hl : lv_has ls 5 [(0, .ref (G.2.2 200 0)), (1, .int v1), (4, .int v4)]) (h : L_X12_handStation_139 k99 v1 v4 S = some o) : wX p l e rmX12_handStation s m args below meth c H locs (xQv G true sz o) (XA G true sz) 139 ls [] := by
  unfold L_X12_handStation_139 at h
  refine lv_iconst (v := 0) X.1 X.2.1 dX12_handStation_139 rfl ?_
  exact w_X12_handStation_140 X v1 v4 0  k99 hk99 hW (lv_sub hl [0, 1, 2] rfl) h
set_option maxRecDepth 100000 in
set_option maxHeartbeats 4000000 in
theorem w_X12_handStation_99 {p : Program} {l : Launch} {e : Env} {s : State} {m : MethodId} {args : Array Value} {below : List Frame} {meth : Method} {c : Code} {G : xG} {sz : Nat} {o : Unit × Mm} (X : xC G true sz p s m args c cX12_handStation 5 wsX12_handStation RX12 meth none) (v1 : Int32)   : ∀ (n : Nat) (v3 : Int32) (v4 : Int32) (S : Mm) (H : Heap) (locs : List Loc) (ls : Array Slot), L_X12_handStation_99 v1 n v3 v4 S = some o → xW G true sz s H locs S → lv_has ls 5 [(0, .ref (G.2.2 200 0)), (1, .int v1), (3, .int v3), (4, .int v4)] → wX p l e rmX12_handStation s m args below meth c H locs (xQv G true sz o) (XA G true sz) 99 ls [] := by
  intro n
  induction n with
  | zero =>
    intro v3 v4 S H locs ls h
    cases h
  | succ n ih =>
    intro v3 v4 S H locs ls h hW  hl
    rw [L_X12_handStation_99] at h
    refine lv_iload X.1 X.2.1 dX12_handStation_99 (lv_at hl 3 rfl) ?_
    refine lv_bipush (v := 32) X.1 X.2.1 dX12_handStation_101 rfl ?_
    refine x_icmp_ge X (tgt := 147) dX12_handStation_103 (by decide) h (fun h => ?_) (fun h => ?_)
    · refine lv_iload_n X.1 X.2.1 dX12_handStation_147 rfl (lv_at hl 2 rfl) ?_
      refine x_if_eq X (tgt := 195) dX12_handStation_148 (by decide) h (fun h => ?_) (fun h => ?_)
      · exact x_vret X hW h dX12_handStation_195
      · refine lv_aload_n X.1 X.2.1 dX12_handStation_151 rfl (lv_at hl 0 rfl) ?_
        refine lv_aload_n X.1 X.2.1 dX12_handStation_152 rfl (lv_at hl 0 rfl) ?_
        refine x_getR X hW fd_Model_tried (fun w h => List.mem_cons_of_mem _ (gin_X12 w h)) (List.mem_cons_of_mem _ gw173) z_1 dX12_handStation_153 ?_
        refine lv_bipush (v := 48) X.1 X.2.1 dX12_handStation_156 rfl ?_
        refine lv_iload_n X.1 X.2.1 dX12_handStation_158 rfl (lv_at hl 1 rfl) ?_
        refine lv_imul X.1 X.2.1 dX12_handStation_159 ?_
        refine lv_aload_n X.1 X.2.1 dX12_handStation_160 rfl (lv_at hl 0 rfl) ?_
        refine x_getR X hW fd_Model_seen (fun w h => List.mem_cons_of_mem _ (gin_X12 w h)) (List.mem_cons_of_mem _ gw233) z_1 dX12_handStation_161 ?_
        refine lv_bipush (v := 32) X.1 X.2.1 dX12_handStation_164 rfl ?_
        refine lv_bipush (v := 33) X.1 X.2.1 dX12_handStation_166 rfl ?_
        obtain ⟨r16, S17, h18, h⟩ := cl_some h
        refine x_aftI X hW (x_runV (C := RX12) (a := G.2.2 200 0) (As := [.ref (G.2.2 223 0), .int (48 * v1), .ref (G.2.2 278 0), .int 32, .int 33]) (rest := []) X hW (c_X12_isMac l G X.2.2.2.2.2.2.2.2.2.1 _ S 223 0 (48 * v1) 278 0 32 33 _ h18) (cwV 5 X.2.2.2.2.1 (gV gw1213 gw1214 gw1215 gw5 gw1216) rfl rfl rfl ⟨rfl, hd_X12_isMac⟩ ⟨Nat.le_of_ble_eq_true rfl, Nat.le_of_ble_eq_true rfl⟩) (x_recv X hW ob_Model z_1) rfl hl.1 rfl (Nat.le_of_ble_eq_true rfl) dX12_handStation_168 ⟨Nat.zero_le _, Nat.zero_le _⟩) (fun H locs hW => ?_)
        refine x_if_eq X (tgt := 195) dX12_handStation_171 (by decide) h (fun h => ?_) (fun h => ?_)
        · exact x_vret X hW h dX12_handStation_195
        · refine lv_aload_n X.1 X.2.1 dX12_handStation_174 rfl (lv_at hl 0 rfl) ?_
          refine lv_iload_n X.1 X.2.1 dX12_handStation_175 rfl (lv_at hl 1 rfl) ?_
          obtain ⟨r19, S20, h21, h⟩ := cl_some h
          refine x_aftV X hW (x_runV (C := RX12) (a := G.2.2 200 0) (As := [.int v1]) (rest := []) X hW (c_X12_keyBy l G X.2.2.2.2.2.2.2.2.2.1 _ S17 v1 _ h21) (cwV 1 X.2.2.2.2.1 (gV gw1221 gw1222 gw1223 gw5 gw1224) rfl rfl rfl ⟨rfl, hd_X12_keyBy⟩ ⟨Nat.le_of_ble_eq_true rfl, Nat.le_of_ble_eq_true rfl⟩) (x_recv X hW ob_Model z_1) rfl hl.1 rfl (Nat.le_of_ble_eq_true rfl) dX12_handStation_176 ⟨Nat.zero_le _, Nat.zero_le _⟩) (fun H locs hW => ?_)
          refine lv_aload_n X.1 X.2.1 dX12_handStation_179 rfl (lv_at hl 0 rfl) ?_
          refine x_getR X hW fd_Model_state (fun w h => List.mem_cons_of_mem _ (gin_X12 w h)) (List.mem_cons_of_mem _ gw168) z_1 dX12_handStation_180 ?_
          refine lv_iload_n X.1 X.2.1 dX12_handStation_183 rfl (lv_at hl 1 rfl) ?_
          refine lv_iconst (v := 4) X.1 X.2.1 dX12_handStation_184 rfl ?_
          refine x_iast X hW ar_218 dX12_handStation_185 h (fun S22 H locs h hW => ?_)
          refine lv_aload_n X.1 X.2.1 dX12_handStation_186 rfl (lv_at hl 0 rfl) ?_
          refine lv_iload_n X.1 X.2.1 dX12_handStation_187 rfl (lv_at hl 1 rfl) ?_
          refine lv_iconst (v := 0) X.1 X.2.1 dX12_handStation_188 rfl ?_
          refine lv_iconst (v := 4) X.1 X.2.1 dX12_handStation_189 rfl ?_
          refine lv_iconst (v := (-1)) X.1 X.2.1 dX12_handStation_190 rfl ?_
          refine lv_iload_n X.1 X.2.1 dX12_handStation_191 rfl (lv_at hl 1 rfl) ?_
          obtain ⟨r23, S24, h25, h⟩ := cl_some h
          refine x_aftV X hW (x_runV (C := RX12) (a := G.2.2 200 0) (As := [.int v1, .int 0, .int 4, .int (-1), .int v1]) (rest := []) X hW (c_X12_sendsHand l G X.2.2.2.2.2.2.2.2.2.1 _ S22 v1 0 4 (-1) v1 _ h25) (cwV 5 X.2.2.2.2.1 (gV gw1131 gw1132 gw1133 gw5 gw1134) rfl rfl rfl ⟨rfl, hd_X12_sendsHand⟩ ⟨Nat.le_of_ble_eq_true rfl, Nat.le_of_ble_eq_true rfl⟩) (x_recv X hW ob_Model z_1) rfl hl.1 rfl (Nat.le_of_ble_eq_true rfl) dX12_handStation_192 ⟨Nat.zero_le _, Nat.zero_le _⟩) (fun H locs hW => ?_)
          exact x_vret X hW h dX12_handStation_195
    · refine lv_iload_n X.1 X.2.1 dX12_handStation_106 rfl (lv_at hl 2 rfl) ?_
      refine x_if_eq X (tgt := 139) dX12_handStation_107 (by decide) h (fun h => ?_) (fun h => ?_)
      · exact w_X12_handStation_139 X v1 v4  (L_X12_handStation_99 v1 n) ih hW (lv_sub hl [0, 1, 3] rfl) h
      · refine lv_aload_n X.1 X.2.1 dX12_handStation_110 rfl (lv_at hl 0 rfl) ?_
        refine x_getR X hW fd_Model_triedNonce (fun w h => List.mem_cons_of_mem _ (gin_X12 w h)) (List.mem_cons_of_mem _ gw175) z_1 dX12_handStation_111 ?_
        refine lv_bipush (v := 32) X.1 X.2.1 dX12_handStation_114 rfl ?_
        refine lv_iload_n X.1 X.2.1 dX12_handStation_116 rfl (lv_at hl 1 rfl) ?_
        refine lv_imul X.1 X.2.1 dX12_handStation_117 ?_
        refine lv_iload X.1 X.2.1 dX12_handStation_118 (lv_at hl 3 rfl) ?_
        refine lv_iadd X.1 X.2.1 dX12_handStation_120 ?_
        refine x_iald X hW ar_225 dX12_handStation_121 h (fun x26 h => ?_)
        refine lv_aload_n X.1 X.2.1 dX12_handStation_122 rfl (lv_at hl 0 rfl) ?_
        refine x_getR X hW fd_Model_seen (fun w h => List.mem_cons_of_mem _ (gin_X12 w h)) (List.mem_cons_of_mem _ gw233) z_1 dX12_handStation_123 ?_
        refine lv_bipush (v := 33) X.1 X.2.1 dX12_handStation_126 rfl ?_
        refine lv_iload X.1 X.2.1 dX12_handStation_128 (lv_at hl 3 rfl) ?_
        refine lv_iadd X.1 X.2.1 dX12_handStation_130 ?_
        refine x_iald X hW ar_278 dX12_handStation_131 h (fun x27 h => ?_)
        refine x_icmp_ne X (tgt := 139) dX12_handStation_132 (by decide) h (fun h => ?_) (fun h => ?_)
        · exact w_X12_handStation_139 X v1 v4  (L_X12_handStation_99 v1 n) ih hW (lv_sub hl [0, 1, 3] rfl) h
        · refine lv_iconst (v := 1) X.1 X.2.1 dX12_handStation_135 rfl ?_
          refine lv_goto (tgt := 140) X.1 X.2.1 dX12_handStation_136 (by decide) ?_
          exact w_X12_handStation_140 X v1 v4 1  (L_X12_handStation_99 v1 n) ih hW (lv_sub hl [0, 1, 3] rfl) h
set_option maxRecDepth 100000 in
set_option maxHeartbeats 4000000 in
theorem w_X12_handStation_0 {p : Program} {l : Launch} {e : Env} {s : State} {m : MethodId} {args : Array Value} {below : List Frame} {meth : Method} {c : Code} {G : xG} {sz : Nat} {o : Unit × Mm} (X : xC G true sz p s m args c cX12_handStation 5 wsX12_handStation RX12 meth none) (v1 : Int32) {S : Mm} {H : Heap} {locs : List Loc} {ls : Array Slot} (hW : xW G true sz s H locs S) (hl : lv_has ls 5 [(0, .ref (G.2.2 200 0)), (1, .int v1)]) (h : F_X12_handStation v1 S = some o) : wX p l e rmX12_handStation s m args below meth c H locs (xQv G true sz o) (XA G true sz) 0 ls [] := by
  unfold F_X12_handStation at h
  refine lv_aload_n X.1 X.2.1 dX12_handStation_0 rfl (lv_at hl 0 rfl) ?_
  obtain ⟨r1, S2, h3, h⟩ := cl_some h
  refine x_aftI X hW (x_runV (C := RX12) (a := G.2.2 200 0) (As := []) (rest := []) X hW (c_X12_handOf l G X.2.2.2.2.2.2.2.2.2.1 _ S _ h3) (cwV 0 X.2.2.2.2.1 (gV gw1193 gw1194 gw1195 gw5 gw1196) rfl rfl rfl ⟨rfl, hd_X12_handOf⟩ ⟨Nat.le_of_ble_eq_true rfl, Nat.le_of_ble_eq_true rfl⟩) (x_recv X hW ob_Model z_1) rfl hl.1 rfl (Nat.le_of_ble_eq_true rfl) dX12_handStation_1 ⟨Nat.zero_le _, Nat.zero_le _⟩) (fun H locs hW => ?_)
  refine lv_istore_n (lv' := [(2, .int r1), (0, .ref (G.2.2 200 0)), (1, .int v1)]) X.1 X.2.1 dX12_handStation_4 rfl hl (by decide) rfl (fun ls hl => ?_)
  refine lv_iload_n X.1 X.2.1 dX12_handStation_5 rfl (lv_at hl 0 rfl) ?_
  refine lv_iconst (v := 1) X.1 X.2.1 dX12_handStation_6 rfl ?_
  refine x_icmp_ne X (tgt := 80) dX12_handStation_7 (by decide) h (fun h => ?_) (fun h => ?_)
  · refine lv_iload_n X.1 X.2.1 dX12_handStation_80 rfl (lv_at hl 0 rfl) ?_
    refine lv_iconst (v := 3) X.1 X.2.1 dX12_handStation_81 rfl ?_
    refine x_icmp_ne X (tgt := 195) dX12_handStation_82 (by decide) h (fun h => ?_) (fun h => ?_)
    · exact x_vret X hW h dX12_handStation_195
    · refine lv_aload_n X.1 X.2.1 dX12_handStation_85 rfl (lv_at hl 1 rfl) ?_
      refine x_getR X hW fd_Model_hasTried (fun w h => List.mem_cons_of_mem _ (gin_X12 w h)) (List.mem_cons_of_mem _ gw174) z_1 dX12_handStation_86 ?_
      refine lv_iload_n X.1 X.2.1 dX12_handStation_89 rfl (lv_at hl 2 rfl) ?_
      refine x_zald X hW ar_224 dX12_handStation_90 h (fun x4 h => ?_)
      refine x_if_eq X (tgt := 195) dX12_handStation_91 (by decide) h (fun h => ?_) (fun h => ?_)
      · exact x_vret X hW h dX12_handStation_195
      · refine lv_iconst (v := 1) X.1 X.2.1 dX12_handStation_94 rfl ?_
        refine lv_istore_n (lv' := [(3, .int 1), (2, .int r1), (0, .ref (G.2.2 200 0)), (1, .int v1)]) X.1 X.2.1 dX12_handStation_95 rfl hl (by decide) rfl (fun ls hl => ?_)
        refine lv_iconst (v := 0) X.1 X.2.1 dX12_handStation_96 rfl ?_
        refine lv_istore (lv' := [(4, .int 0), (3, .int 1), (2, .int r1), (0, .ref (G.2.2 200 0)), (1, .int v1)]) X.1 X.2.1 dX12_handStation_97 hl (by decide) rfl (fun ls hl => ?_)
        exact w_X12_handStation_99 X v1   fu 1 0 S2 _ _ _ h hW  (lv_sub hl [3, 4, 1, 0] rfl)
  · refine lv_aload_n X.1 X.2.1 dX12_handStation_10 rfl (lv_at hl 1 rfl) ?_
    refine lv_iload_n X.1 X.2.1 dX12_handStation_11 rfl (lv_at hl 2 rfl) ?_
    refine lv_aload_n X.1 X.2.1 dX12_handStation_12 rfl (lv_at hl 1 rfl) ?_
    refine x_getR X hW fd_Model_seen (fun w h => List.mem_cons_of_mem _ (gin_X12 w h)) (List.mem_cons_of_mem _ gw233) z_1 dX12_handStation_13 ?_
    refine lv_bipush (v := 33) X.1 X.2.1 dX12_handStation_16 rfl ?_
    refine lv_aload_n X.1 X.2.1 dX12_handStation_18 rfl (lv_at hl 1 rfl) ?_
    refine x_getR X hW fd_Model_nonces (fun w h => List.mem_cons_of_mem _ (gin_X12 w h)) (List.mem_cons_of_mem _ gw167) z_1 dX12_handStation_19 ?_
    refine lv_bipush (v := 32) X.1 X.2.1 dX12_handStation_22 rfl ?_
    refine lv_iload_n X.1 X.2.1 dX12_handStation_24 rfl (lv_at hl 2 rfl) ?_
    refine lv_imul X.1 X.2.1 dX12_handStation_25 ?_
    obtain ⟨r5, S6, h7, h⟩ := cl_some h
    refine x_aftV X hW (x_runV (C := RX12) (a := G.2.2 200 0) (As := [.int v1, .ref (G.2.2 278 0), .int 33, .ref (G.2.2 217 0), .int (32 * v1)]) (rest := []) X hW (c_X12_findTried l G X.2.2.2.2.2.2.2.2.2.1 _ S2 v1 278 0 33 217 0 (32 * v1) _ h7) (cwV 5 X.2.2.2.2.1 (gV gw1197 gw1198 gw1199 gw5 gw1200) rfl rfl rfl ⟨rfl, hd_X12_findTried⟩ ⟨Nat.le_of_ble_eq_true rfl, Nat.le_of_ble_eq_true rfl⟩) (x_recv X hW ob_Model z_1) rfl hl.1 rfl (Nat.le_of_ble_eq_true rfl) dX12_handStation_26 ⟨Nat.zero_le _, Nat.zero_le _⟩) (fun H locs hW => ?_)
    refine lv_aload_n X.1 X.2.1 dX12_handStation_29 rfl (lv_at hl 1 rfl) ?_
    refine lv_iload_n X.1 X.2.1 dX12_handStation_30 rfl (lv_at hl 2 rfl) ?_
    obtain ⟨r8, S9, h10, h⟩ := cl_some h
    refine x_aftV X hW (x_runV (C := RX12) (a := G.2.2 200 0) (As := [.int v1]) (rest := []) X hW (c_X12_keepTried l G X.2.2.2.2.2.2.2.2.2.1 _ S6 v1 _ h10) (cwV 1 X.2.2.2.2.1 (gV gw1217 gw1218 gw1219 gw5 gw1220) rfl rfl rfl ⟨rfl, hd_X12_keepTried⟩ ⟨Nat.le_of_ble_eq_true rfl, Nat.le_of_ble_eq_true rfl⟩) (x_recv X hW ob_Model z_1) rfl hl.1 rfl (Nat.le_of_ble_eq_true rfl) dX12_handStation_31 ⟨Nat.zero_le _, Nat.zero_le _⟩) (fun H locs hW => ?_)
    refine lv_iconst (v := 0) X.1 X.2.1 dX12_handStation_34 rfl ?_
    refine lv_istore_n (lv' := [(3, .int 0), (2, .int r1), (0, .ref (G.2.2 200 0)), (1, .int v1)]) X.1 X.2.1 dX12_handStation_35 rfl hl (by decide) rfl (fun ls hl => ?_)
    exact w_X12_handStation_36 X v1   fu 0 S9 _ _ _ h hW  (lv_sub hl [2, 3, 0] rfl)
theorem c_X12_handStation (l : Launch) (G : xG) (hD : xD G true) (sz : Nat) (S : Mm) (v1 : Int32) (o : Unit × Mm) (h : F_X12_handStation v1 S = some o) : Met l yX12_handStation wsX12_handStation rmX12_handStation (xPre G true S sz [.ref (G.2.2 200 0), .int v1]) (xQv G true sz o) 0 0 (XA G true sz) :=
  x_start hD (by decide) rfl (Nat.le_of_ble_eq_true rfl) (fun p e s m below meth c X hW ls hl => w_X12_handStation_0 X v1 hW hl h)

/-! WirelessCellModel.actsStation(I)V -/
def rmX12_actsStation : Room := { frames := 7, cells := 0, slots := 0, locals := 172 }
def F_X12_actsStation (v1 : Int32) (S : Mm) : Option (Unit × Mm) :=
  ldA S 278 0 300 1 0 fun x1 =>
  if x1 = 176 then (
  cl (F_X12_isBody 6 0 0 2 0 S) fun r25 S26 =>
  if r25 = 0 then (
  some ((), S26))
  else (
  ldA S26 278 0 300 1 28 fun x28 =>
  if x28 = 0 then (
  ldA S26 278 0 300 1 29 fun x29 =>
  if x29 = 0 then (
  ldA S26 220 0 9 1 v1 fun x30 =>
  if x30 = 0 then (
  some ((), S26))
  else (
  ldA S26 218 0 9 1 v1 fun x31 =>
  if x31 = 1 then (
  stA S26 218 0 9 1 v1 2 fun S32 =>
  pf S32 297 0 0 fun S33 =>
  cl (F_X12_add 1 S33) fun r34 S35 =>
  cl (F_X12_add 0 S35) fun r37 S38 =>
  cl (F_X12_add 10 S38) fun r40 S41 =>
  cl (F_X12_add 0 S41) fun r43 S44 =>
  cl (F_X12_enqueue v1 0 0 0 (-1) S44) fun r46 S47 =>
  some ((), S47))
  else (
  some ((), S26))))
  else (
  some ((), S26)))
  else (
  some ((), S26))))
  else (
  if x1 = 16 then (
  cl (F_X12_isBody 6 1 0 0 0 S) fun r18 S19 =>
  if r18 = 0 then (
  some ((), S19))
  else (
  ldA S19 278 0 300 1 28 fun x21 =>
  if x21 = v1 then (
  ldA S19 278 0 300 1 29 fun x22 =>
  if x22 = 192 then (
  ldA S19 218 0 9 1 v1 fun x23 =>
  if x23 = 2 then (
  stA S19 218 0 9 1 v1 3 fun S24 =>
  some ((), S24))
  else (
  some ((), S19)))
  else (
  some ((), S19)))
  else (
  some ((), S19))))
  else (
  if x1 = 192 then (
  gf S 307 0 fun x12 =>
  if x12 = 30 then (
  ldA S 278 0 300 1 25 fun x13 =>
  if x13 = 0 then (
  stA S 218 0 9 1 v1 1 fun S14 =>
  cl (F_X12_unkey v1 S14) fun r15 S16 =>
  some ((), S16))
  else (
  some ((), S)))
  else (
  some ((), S)))
  else (
  if x1 = 8 then (
  ldA S 278 0 300 1 1 fun x2 =>
  if (x2 &&& 3) = 2 then (
  ldA S 278 0 300 1 1 fun x3 =>
  if (x3 &&& 64) = 0 then (
  ldA S 218 0 9 1 v1 fun x4 =>
  if x4 < 3 then (
  some ((), S))
  else (
  cl (F_X12_handStation v1 S) fun r5 S6 =>
  some ((), S6)))
  else (
  ldA S 218 0 9 1 v1 fun x8 =>
  if x8 = 4 then (
  cl (F_X12_opens v1 v1 S) fun r9 S10 =>
  some ((), S10))
  else (
  some ((), S))))
  else (
  some ((), S)))
  else (
  some ((), S)))))
set_option maxRecDepth 100000 in
set_option maxHeartbeats 4000000 in
theorem w_X12_actsStation_0 {p : Program} {l : Launch} {e : Env} {s : State} {m : MethodId} {args : Array Value} {below : List Frame} {meth : Method} {c : Code} {G : xG} {sz : Nat} {o : Unit × Mm} (X : xC G true sz p s m args c cX12_actsStation 3 wsX12_actsStation RX12 meth none) (v1 : Int32) {S : Mm} {H : Heap} {locs : List Loc} {ls : Array Slot} (hW : xW G true sz s H locs S) (hl : lv_has ls 3 [(0, .ref (G.2.2 200 0)), (1, .int v1)]) (h : F_X12_actsStation v1 S = some o) : wX p l e rmX12_actsStation s m args below meth c H locs (xQv G true sz o) (XA G true sz) 0 ls [] := by
  unfold F_X12_actsStation at h
  refine lv_aload_n X.1 X.2.1 dX12_actsStation_0 rfl (lv_at hl 0 rfl) ?_
  refine x_getR X hW fd_Model_seen (fun w h => List.mem_cons_of_mem _ (gin_X12 w h)) (List.mem_cons_of_mem _ gw233) z_1 dX12_actsStation_1 ?_
  refine lv_iconst (v := 0) X.1 X.2.1 dX12_actsStation_4 rfl ?_
  refine x_iald X hW ar_278 dX12_actsStation_5 h (fun x1 h => ?_)
  refine lv_istore_n (lv' := [(2, .int x1), (0, .ref (G.2.2 200 0)), (1, .int v1)]) X.1 X.2.1 dX12_actsStation_6 rfl hl (by decide) rfl (fun ls hl => ?_)
  refine lv_iload_n X.1 X.2.1 dX12_actsStation_7 rfl (lv_at hl 0 rfl) ?_
  refine lv_sipush (v := 176) X.1 X.2.1 dX12_actsStation_8 rfl ?_
  refine x_icmp_ne X (tgt := 111) dX12_actsStation_11 (by decide) h (fun h => ?_) (fun h => ?_)
  · refine lv_iload_n X.1 X.2.1 dX12_actsStation_111 rfl (lv_at hl 0 rfl) ?_
    refine lv_bipush (v := 16) X.1 X.2.1 dX12_actsStation_112 rfl ?_
    refine x_icmp_ne X (tgt := 174) dX12_actsStation_114 (by decide) h (fun h => ?_) (fun h => ?_)
    · refine lv_iload_n X.1 X.2.1 dX12_actsStation_174 rfl (lv_at hl 0 rfl) ?_
      refine lv_sipush (v := 192) X.1 X.2.1 dX12_actsStation_175 rfl ?_
      refine x_icmp_ne X (tgt := 215) dX12_actsStation_178 (by decide) h (fun h => ?_) (fun h => ?_)
      · refine lv_iload_n X.1 X.2.1 dX12_actsStation_215 rfl (lv_at hl 0 rfl) ?_
        refine lv_bipush (v := 8) X.1 X.2.1 dX12_actsStation_216 rfl ?_
        refine x_icmp_ne X (tgt := 279) dX12_actsStation_218 (by decide) h (fun h => ?_) (fun h => ?_)
        · exact x_vret X hW h dX12_actsStation_279
        · refine lv_aload_n X.1 X.2.1 dX12_actsStation_221 rfl (lv_at hl 1 rfl) ?_
          refine x_getR X hW fd_Model_seen (fun w h => List.mem_cons_of_mem _ (gin_X12 w h)) (List.mem_cons_of_mem _ gw233) z_1 dX12_actsStation_222 ?_
          refine lv_iconst (v := 1) X.1 X.2.1 dX12_actsStation_225 rfl ?_
          refine x_iald X hW ar_278 dX12_actsStation_226 h (fun x2 h => ?_)
          refine lv_iconst (v := 3) X.1 X.2.1 dX12_actsStation_227 rfl ?_
          refine lv_iand X.1 X.2.1 dX12_actsStation_228 ?_
          refine lv_iconst (v := 2) X.1 X.2.1 dX12_actsStation_229 rfl ?_
          refine x_icmp_ne X (tgt := 279) dX12_actsStation_230 (by decide) h (fun h => ?_) (fun h => ?_)
          · exact x_vret X hW h dX12_actsStation_279
          · refine lv_aload_n X.1 X.2.1 dX12_actsStation_233 rfl (lv_at hl 1 rfl) ?_
            refine x_getR X hW fd_Model_seen (fun w h => List.mem_cons_of_mem _ (gin_X12 w h)) (List.mem_cons_of_mem _ gw233) z_1 dX12_actsStation_234 ?_
            refine lv_iconst (v := 1) X.1 X.2.1 dX12_actsStation_237 rfl ?_
            refine x_iald X hW ar_278 dX12_actsStation_238 h (fun x3 h => ?_)
            refine lv_bipush (v := 64) X.1 X.2.1 dX12_actsStation_239 rfl ?_
            refine lv_iand X.1 X.2.1 dX12_actsStation_241 ?_
            refine x_if_eq X (tgt := 264) dX12_actsStation_242 (by decide) h (fun h => ?_) (fun h => ?_)
            · refine lv_aload_n X.1 X.2.1 dX12_actsStation_264 rfl (lv_at hl 1 rfl) ?_
              refine x_getR X hW fd_Model_state (fun w h => List.mem_cons_of_mem _ (gin_X12 w h)) (List.mem_cons_of_mem _ gw168) z_1 dX12_actsStation_265 ?_
              refine lv_iload_n X.1 X.2.1 dX12_actsStation_268 rfl (lv_at hl 2 rfl) ?_
              refine x_iald X hW ar_218 dX12_actsStation_269 h (fun x4 h => ?_)
              refine lv_iconst (v := 3) X.1 X.2.1 dX12_actsStation_270 rfl ?_
              refine x_icmp_lt X (tgt := 279) dX12_actsStation_271 (by decide) h (fun h => ?_) (fun h => ?_)
              · exact x_vret X hW h dX12_actsStation_279
              · refine lv_aload_n X.1 X.2.1 dX12_actsStation_274 rfl (lv_at hl 1 rfl) ?_
                refine lv_iload_n X.1 X.2.1 dX12_actsStation_275 rfl (lv_at hl 2 rfl) ?_
                obtain ⟨r5, S6, h7, h⟩ := cl_some h
                refine x_aftV X hW (x_runV (C := RX12) (a := G.2.2 200 0) (As := [.int v1]) (rest := []) X hW (c_X12_handStation l G X.2.2.2.2.2.2.2.2.2.1 _ S v1 _ h7) (cwV 1 X.2.2.2.2.1 (gV gw1229 gw1230 gw1231 gw5 gw1232) rfl rfl rfl ⟨rfl, hd_X12_handStation⟩ ⟨Nat.le_of_ble_eq_true rfl, Nat.le_of_ble_eq_true rfl⟩) (x_recv X hW ob_Model z_1) rfl hl.1 rfl (Nat.le_of_ble_eq_true rfl) dX12_actsStation_276 ⟨Nat.zero_le _, Nat.zero_le _⟩) (fun H locs hW => ?_)
                exact x_vret X hW h dX12_actsStation_279
            · refine lv_aload_n X.1 X.2.1 dX12_actsStation_245 rfl (lv_at hl 1 rfl) ?_
              refine x_getR X hW fd_Model_state (fun w h => List.mem_cons_of_mem _ (gin_X12 w h)) (List.mem_cons_of_mem _ gw168) z_1 dX12_actsStation_246 ?_
              refine lv_iload_n X.1 X.2.1 dX12_actsStation_249 rfl (lv_at hl 2 rfl) ?_
              refine x_iald X hW ar_218 dX12_actsStation_250 h (fun x8 h => ?_)
              refine lv_iconst (v := 4) X.1 X.2.1 dX12_actsStation_251 rfl ?_
              refine x_icmp_ne X (tgt := 279) dX12_actsStation_252 (by decide) h (fun h => ?_) (fun h => ?_)
              · exact x_vret X hW h dX12_actsStation_279
              · refine lv_aload_n X.1 X.2.1 dX12_actsStation_255 rfl (lv_at hl 1 rfl) ?_
                refine lv_iload_n X.1 X.2.1 dX12_actsStation_256 rfl (lv_at hl 2 rfl) ?_
                refine lv_iload_n X.1 X.2.1 dX12_actsStation_257 rfl (lv_at hl 2 rfl) ?_
                obtain ⟨r9, S10, h11, h⟩ := cl_some h
                refine x_aftV X hW (x_runV (C := RX12) (a := G.2.2 200 0) (As := [.int v1, .int v1]) (rest := []) X hW (c_X12_opens l G X.2.2.2.2.2.2.2.2.2.1 _ S v1 v1 _ h11) (cwV 2 X.2.2.2.2.1 (gV gw1173 gw1174 gw1175 gw5 gw1176) rfl rfl rfl ⟨rfl, hd_X12_opens⟩ ⟨Nat.le_of_ble_eq_true rfl, Nat.le_of_ble_eq_true rfl⟩) (x_recv X hW ob_Model z_1) rfl hl.1 rfl (Nat.le_of_ble_eq_true rfl) dX12_actsStation_258 ⟨Nat.zero_le _, Nat.zero_le _⟩) (fun H locs hW => ?_)
                refine lv_goto (tgt := 279) X.1 X.2.1 dX12_actsStation_261 (by decide) ?_
                exact x_vret X hW h dX12_actsStation_279
      · refine lv_aload_n X.1 X.2.1 dX12_actsStation_181 rfl (lv_at hl 1 rfl) ?_
        refine x_getI X hW fd_Model_seenLen (fun w h => List.mem_cons_of_mem _ (gin_X12 w h)) (List.mem_cons_of_mem _ gw1097) z_1 dX12_actsStation_182 h (fun x12 h => ?_)
        refine lv_bipush (v := 30) X.1 X.2.1 dX12_actsStation_185 rfl ?_
        refine x_icmp_ne X (tgt := 279) dX12_actsStation_187 (by decide) h (fun h => ?_) (fun h => ?_)
        · exact x_vret X hW h dX12_actsStation_279
        · refine lv_aload_n X.1 X.2.1 dX12_actsStation_190 rfl (lv_at hl 1 rfl) ?_
          refine x_getR X hW fd_Model_seen (fun w h => List.mem_cons_of_mem _ (gin_X12 w h)) (List.mem_cons_of_mem _ gw233) z_1 dX12_actsStation_191 ?_
          refine lv_bipush (v := 25) X.1 X.2.1 dX12_actsStation_194 rfl ?_
          refine x_iald X hW ar_278 dX12_actsStation_196 h (fun x13 h => ?_)
          refine x_if_ne X (tgt := 279) dX12_actsStation_197 (by decide) h (fun h => ?_) (fun h => ?_)
          · exact x_vret X hW h dX12_actsStation_279
          · refine lv_aload_n X.1 X.2.1 dX12_actsStation_200 rfl (lv_at hl 1 rfl) ?_
            refine x_getR X hW fd_Model_state (fun w h => List.mem_cons_of_mem _ (gin_X12 w h)) (List.mem_cons_of_mem _ gw168) z_1 dX12_actsStation_201 ?_
            refine lv_iload_n X.1 X.2.1 dX12_actsStation_204 rfl (lv_at hl 2 rfl) ?_
            refine lv_iconst (v := 1) X.1 X.2.1 dX12_actsStation_205 rfl ?_
            refine x_iast X hW ar_218 dX12_actsStation_206 h (fun S14 H locs h hW => ?_)
            refine lv_aload_n X.1 X.2.1 dX12_actsStation_207 rfl (lv_at hl 1 rfl) ?_
            refine lv_iload_n X.1 X.2.1 dX12_actsStation_208 rfl (lv_at hl 2 rfl) ?_
            obtain ⟨r15, S16, h17, h⟩ := cl_some h
            refine x_aftV X hW (x_runV (C := RX12) (a := G.2.2 200 0) (As := [.int v1]) (rest := []) X hW (c_X12_unkey l G X.2.2.2.2.2.2.2.2.2.1 _ S14 v1 _ h17) (cwV 1 X.2.2.2.2.1 (gV gw526 gw527 gw528 gw5 gw529) rfl rfl rfl ⟨rfl, hd_X12_unkey⟩ ⟨Nat.le_of_ble_eq_true rfl, Nat.le_of_ble_eq_true rfl⟩) (x_recv X hW ob_Model z_1) rfl hl.1 rfl (Nat.le_of_ble_eq_true rfl) dX12_actsStation_209 ⟨Nat.zero_le _, Nat.zero_le _⟩) (fun H locs hW => ?_)
            refine lv_goto (tgt := 279) X.1 X.2.1 dX12_actsStation_212 (by decide) ?_
            exact x_vret X hW h dX12_actsStation_279
    · refine lv_aload_n X.1 X.2.1 dX12_actsStation_117 rfl (lv_at hl 1 rfl) ?_
      refine lv_bipush (v := 6) X.1 X.2.1 dX12_actsStation_118 rfl ?_
      refine lv_iconst (v := 1) X.1 X.2.1 dX12_actsStation_120 rfl ?_
      refine lv_iconst (v := 0) X.1 X.2.1 dX12_actsStation_121 rfl ?_
      refine lv_iconst (v := 0) X.1 X.2.1 dX12_actsStation_122 rfl ?_
      refine lv_iconst (v := 0) X.1 X.2.1 dX12_actsStation_123 rfl ?_
      obtain ⟨r18, S19, h20, h⟩ := cl_some h
      refine x_aftI X hW (x_runV (C := RX12) (a := G.2.2 200 0) (As := [.int 6, .int 1, .int 0, .int 0, .int 0]) (rest := []) X hW (c_X12_isBody l G X.2.2.2.2.2.2.2.2.2.1 _ S 6 1 0 0 0 _ h20) (cwV 5 X.2.2.2.2.1 (gV gw1123 gw1124 gw1125 gw5 gw1126) rfl rfl rfl ⟨rfl, hd_X12_isBody⟩ ⟨Nat.le_of_ble_eq_true rfl, Nat.le_of_ble_eq_true rfl⟩) (x_recv X hW ob_Model z_1) rfl hl.1 rfl (Nat.le_of_ble_eq_true rfl) dX12_actsStation_124 ⟨Nat.zero_le _, Nat.zero_le _⟩) (fun H locs hW => ?_)
      refine x_if_eq X (tgt := 279) dX12_actsStation_127 (by decide) h (fun h => ?_) (fun h => ?_)
      · exact x_vret X hW h dX12_actsStation_279
      · refine lv_aload_n X.1 X.2.1 dX12_actsStation_130 rfl (lv_at hl 1 rfl) ?_
        refine x_getR X hW fd_Model_seen (fun w h => List.mem_cons_of_mem _ (gin_X12 w h)) (List.mem_cons_of_mem _ gw233) z_1 dX12_actsStation_131 ?_
        refine lv_bipush (v := 28) X.1 X.2.1 dX12_actsStation_134 rfl ?_
        refine x_iald X hW ar_278 dX12_actsStation_136 h (fun x21 h => ?_)
        refine lv_iload_n X.1 X.2.1 dX12_actsStation_137 rfl (lv_at hl 2 rfl) ?_
        refine x_icmp_ne X (tgt := 279) dX12_actsStation_138 (by decide) h (fun h => ?_) (fun h => ?_)
        · exact x_vret X hW h dX12_actsStation_279
        · refine lv_aload_n X.1 X.2.1 dX12_actsStation_141 rfl (lv_at hl 1 rfl) ?_
          refine x_getR X hW fd_Model_seen (fun w h => List.mem_cons_of_mem _ (gin_X12 w h)) (List.mem_cons_of_mem _ gw233) z_1 dX12_actsStation_142 ?_
          refine lv_bipush (v := 29) X.1 X.2.1 dX12_actsStation_145 rfl ?_
          refine x_iald X hW ar_278 dX12_actsStation_147 h (fun x22 h => ?_)
          refine lv_sipush (v := 192) X.1 X.2.1 dX12_actsStation_148 rfl ?_
          refine x_icmp_ne X (tgt := 279) dX12_actsStation_151 (by decide) h (fun h => ?_) (fun h => ?_)
          · exact x_vret X hW h dX12_actsStation_279
          · refine lv_aload_n X.1 X.2.1 dX12_actsStation_154 rfl (lv_at hl 1 rfl) ?_
            refine x_getR X hW fd_Model_state (fun w h => List.mem_cons_of_mem _ (gin_X12 w h)) (List.mem_cons_of_mem _ gw168) z_1 dX12_actsStation_155 ?_
            refine lv_iload_n X.1 X.2.1 dX12_actsStation_158 rfl (lv_at hl 2 rfl) ?_
            refine x_iald X hW ar_218 dX12_actsStation_159 h (fun x23 h => ?_)
            refine lv_iconst (v := 2) X.1 X.2.1 dX12_actsStation_160 rfl ?_
            refine x_icmp_ne X (tgt := 279) dX12_actsStation_161 (by decide) h (fun h => ?_) (fun h => ?_)
            · exact x_vret X hW h dX12_actsStation_279
            · refine lv_aload_n X.1 X.2.1 dX12_actsStation_164 rfl (lv_at hl 1 rfl) ?_
              refine x_getR X hW fd_Model_state (fun w h => List.mem_cons_of_mem _ (gin_X12 w h)) (List.mem_cons_of_mem _ gw168) z_1 dX12_actsStation_165 ?_
              refine lv_iload_n X.1 X.2.1 dX12_actsStation_168 rfl (lv_at hl 2 rfl) ?_
              refine lv_iconst (v := 3) X.1 X.2.1 dX12_actsStation_169 rfl ?_
              refine x_iast X hW ar_218 dX12_actsStation_170 h (fun S24 H locs h hW => ?_)
              refine lv_goto (tgt := 279) X.1 X.2.1 dX12_actsStation_171 (by decide) ?_
              exact x_vret X hW h dX12_actsStation_279
  · refine lv_aload_n X.1 X.2.1 dX12_actsStation_14 rfl (lv_at hl 1 rfl) ?_
    refine lv_bipush (v := 6) X.1 X.2.1 dX12_actsStation_15 rfl ?_
    refine lv_iconst (v := 0) X.1 X.2.1 dX12_actsStation_17 rfl ?_
    refine lv_iconst (v := 0) X.1 X.2.1 dX12_actsStation_18 rfl ?_
    refine lv_iconst (v := 2) X.1 X.2.1 dX12_actsStation_19 rfl ?_
    refine lv_iconst (v := 0) X.1 X.2.1 dX12_actsStation_20 rfl ?_
    obtain ⟨r25, S26, h27, h⟩ := cl_some h
    refine x_aftI X hW (x_runV (C := RX12) (a := G.2.2 200 0) (As := [.int 6, .int 0, .int 0, .int 2, .int 0]) (rest := []) X hW (c_X12_isBody l G X.2.2.2.2.2.2.2.2.2.1 _ S 6 0 0 2 0 _ h27) (cwV 5 X.2.2.2.2.1 (gV gw1123 gw1124 gw1125 gw5 gw1126) rfl rfl rfl ⟨rfl, hd_X12_isBody⟩ ⟨Nat.le_of_ble_eq_true rfl, Nat.le_of_ble_eq_true rfl⟩) (x_recv X hW ob_Model z_1) rfl hl.1 rfl (Nat.le_of_ble_eq_true rfl) dX12_actsStation_21 ⟨Nat.zero_le _, Nat.zero_le _⟩) (fun H locs hW => ?_)
    refine x_if_eq X (tgt := 279) dX12_actsStation_24 (by decide) h (fun h => ?_) (fun h => ?_)
    · exact x_vret X hW h dX12_actsStation_279
    · refine lv_aload_n X.1 X.2.1 dX12_actsStation_27 rfl (lv_at hl 1 rfl) ?_
      refine x_getR X hW fd_Model_seen (fun w h => List.mem_cons_of_mem _ (gin_X12 w h)) (List.mem_cons_of_mem _ gw233) z_1 dX12_actsStation_28 ?_
      refine lv_bipush (v := 28) X.1 X.2.1 dX12_actsStation_31 rfl ?_
      refine x_iald X hW ar_278 dX12_actsStation_33 h (fun x28 h => ?_)
      refine x_if_ne X (tgt := 279) dX12_actsStation_34 (by decide) h (fun h => ?_) (fun h => ?_)
      · exact x_vret X hW h dX12_actsStation_279
      · refine lv_aload_n X.1 X.2.1 dX12_actsStation_37 rfl (lv_at hl 1 rfl) ?_
        refine x_getR X hW fd_Model_seen (fun w h => List.mem_cons_of_mem _ (gin_X12 w h)) (List.mem_cons_of_mem _ gw233) z_1 dX12_actsStation_38 ?_
        refine lv_bipush (v := 29) X.1 X.2.1 dX12_actsStation_41 rfl ?_
        refine x_iald X hW ar_278 dX12_actsStation_43 h (fun x29 h => ?_)
        refine x_if_ne X (tgt := 279) dX12_actsStation_44 (by decide) h (fun h => ?_) (fun h => ?_)
        · exact x_vret X hW h dX12_actsStation_279
        · refine lv_aload_n X.1 X.2.1 dX12_actsStation_47 rfl (lv_at hl 1 rfl) ?_
          refine x_getR X hW fd_Model_asked (fun w h => List.mem_cons_of_mem _ (gin_X12 w h)) (List.mem_cons_of_mem _ gw170) z_1 dX12_actsStation_48 ?_
          refine lv_iload_n X.1 X.2.1 dX12_actsStation_51 rfl (lv_at hl 2 rfl) ?_
          refine x_zald X hW ar_220 dX12_actsStation_52 h (fun x30 h => ?_)
          refine x_if_eq X (tgt := 279) dX12_actsStation_53 (by decide) h (fun h => ?_) (fun h => ?_)
          · exact x_vret X hW h dX12_actsStation_279
          · refine lv_aload_n X.1 X.2.1 dX12_actsStation_56 rfl (lv_at hl 1 rfl) ?_
            refine x_getR X hW fd_Model_state (fun w h => List.mem_cons_of_mem _ (gin_X12 w h)) (List.mem_cons_of_mem _ gw168) z_1 dX12_actsStation_57 ?_
            refine lv_iload_n X.1 X.2.1 dX12_actsStation_60 rfl (lv_at hl 2 rfl) ?_
            refine x_iald X hW ar_218 dX12_actsStation_61 h (fun x31 h => ?_)
            refine lv_iconst (v := 1) X.1 X.2.1 dX12_actsStation_62 rfl ?_
            refine x_icmp_ne X (tgt := 279) dX12_actsStation_63 (by decide) h (fun h => ?_) (fun h => ?_)
            · exact x_vret X hW h dX12_actsStation_279
            · refine lv_aload_n X.1 X.2.1 dX12_actsStation_66 rfl (lv_at hl 1 rfl) ?_
              refine x_getR X hW fd_Model_state (fun w h => List.mem_cons_of_mem _ (gin_X12 w h)) (List.mem_cons_of_mem _ gw168) z_1 dX12_actsStation_67 ?_
              refine lv_iload_n X.1 X.2.1 dX12_actsStation_70 rfl (lv_at hl 2 rfl) ?_
              refine lv_iconst (v := 2) X.1 X.2.1 dX12_actsStation_71 rfl ?_
              refine x_iast X hW ar_218 dX12_actsStation_72 h (fun S32 H locs h hW => ?_)
              refine lv_aload_n X.1 X.2.1 dX12_actsStation_73 rfl (lv_at hl 1 rfl) ?_
              refine lv_iconst (v := 0) X.1 X.2.1 dX12_actsStation_74 rfl ?_
              refine x_putI X hW fd_Model_length (fun w h => List.mem_cons_of_mem _ (gin_X12 w h)) (List.mem_cons_of_mem _ gw525) z_1 dX12_actsStation_75 tyX12 tyX12_ok nmX12 rfl rfl rfl h (fun S33 H locs h hW => ?_)
              refine lv_aload_n X.1 X.2.1 dX12_actsStation_78 rfl (lv_at hl 1 rfl) ?_
              refine lv_iconst (v := 1) X.1 X.2.1 dX12_actsStation_79 rfl ?_
              obtain ⟨r34, S35, h36, h⟩ := cl_some h
              refine x_aftV X hW (x_runV (C := RX12) (a := G.2.2 200 0) (As := [.int 1]) (rest := []) X hW (c_X12_add l G X.2.2.2.2.2.2.2.2.2.1 _ S33 1 _ h36) (cwV 1 X.2.2.2.2.1 (gV gw530 gw531 gw532 gw5 gw533) rfl rfl rfl ⟨rfl, hd_X12_add⟩ ⟨Nat.le_of_ble_eq_true rfl, Nat.le_of_ble_eq_true rfl⟩) (x_recv X hW ob_Model z_1) rfl hl.1 rfl (Nat.le_of_ble_eq_true rfl) dX12_actsStation_80 ⟨Nat.zero_le _, Nat.zero_le _⟩) (fun H locs hW => ?_)
              refine lv_aload_n X.1 X.2.1 dX12_actsStation_83 rfl (lv_at hl 1 rfl) ?_
              refine lv_iconst (v := 0) X.1 X.2.1 dX12_actsStation_84 rfl ?_
              obtain ⟨r37, S38, h39, h⟩ := cl_some h
              refine x_aftV X hW (x_runV (C := RX12) (a := G.2.2 200 0) (As := [.int 0]) (rest := []) X hW (c_X12_add l G X.2.2.2.2.2.2.2.2.2.1 _ S35 0 _ h39) (cwV 1 X.2.2.2.2.1 (gV gw530 gw531 gw532 gw5 gw533) rfl rfl rfl ⟨rfl, hd_X12_add⟩ ⟨Nat.le_of_ble_eq_true rfl, Nat.le_of_ble_eq_true rfl⟩) (x_recv X hW ob_Model z_1) rfl hl.1 rfl (Nat.le_of_ble_eq_true rfl) dX12_actsStation_85 ⟨Nat.zero_le _, Nat.zero_le _⟩) (fun H locs hW => ?_)
              refine lv_aload_n X.1 X.2.1 dX12_actsStation_88 rfl (lv_at hl 1 rfl) ?_
              refine lv_bipush (v := 10) X.1 X.2.1 dX12_actsStation_89 rfl ?_
              obtain ⟨r40, S41, h42, h⟩ := cl_some h
              refine x_aftV X hW (x_runV (C := RX12) (a := G.2.2 200 0) (As := [.int 10]) (rest := []) X hW (c_X12_add l G X.2.2.2.2.2.2.2.2.2.1 _ S38 10 _ h42) (cwV 1 X.2.2.2.2.1 (gV gw530 gw531 gw532 gw5 gw533) rfl rfl rfl ⟨rfl, hd_X12_add⟩ ⟨Nat.le_of_ble_eq_true rfl, Nat.le_of_ble_eq_true rfl⟩) (x_recv X hW ob_Model z_1) rfl hl.1 rfl (Nat.le_of_ble_eq_true rfl) dX12_actsStation_91 ⟨Nat.zero_le _, Nat.zero_le _⟩) (fun H locs hW => ?_)
              refine lv_aload_n X.1 X.2.1 dX12_actsStation_94 rfl (lv_at hl 1 rfl) ?_
              refine lv_iconst (v := 0) X.1 X.2.1 dX12_actsStation_95 rfl ?_
              obtain ⟨r43, S44, h45, h⟩ := cl_some h
              refine x_aftV X hW (x_runV (C := RX12) (a := G.2.2 200 0) (As := [.int 0]) (rest := []) X hW (c_X12_add l G X.2.2.2.2.2.2.2.2.2.1 _ S41 0 _ h45) (cwV 1 X.2.2.2.2.1 (gV gw530 gw531 gw532 gw5 gw533) rfl rfl rfl ⟨rfl, hd_X12_add⟩ ⟨Nat.le_of_ble_eq_true rfl, Nat.le_of_ble_eq_true rfl⟩) (x_recv X hW ob_Model z_1) rfl hl.1 rfl (Nat.le_of_ble_eq_true rfl) dX12_actsStation_96 ⟨Nat.zero_le _, Nat.zero_le _⟩) (fun H locs hW => ?_)
              refine lv_aload_n X.1 X.2.1 dX12_actsStation_99 rfl (lv_at hl 1 rfl) ?_
              refine lv_iload_n X.1 X.2.1 dX12_actsStation_100 rfl (lv_at hl 2 rfl) ?_
              refine lv_iconst (v := 0) X.1 X.2.1 dX12_actsStation_101 rfl ?_
              refine lv_iconst (v := 0) X.1 X.2.1 dX12_actsStation_102 rfl ?_
              refine lv_iconst (v := 0) X.1 X.2.1 dX12_actsStation_103 rfl ?_
              refine lv_iconst (v := (-1)) X.1 X.2.1 dX12_actsStation_104 rfl ?_
              obtain ⟨r46, S47, h48, h⟩ := cl_some h
              refine x_aftV X hW (x_runV (C := RX12) (a := G.2.2 200 0) (As := [.int v1, .int 0, .int 0, .int 0, .int (-1)]) (rest := []) X hW (c_X12_enqueue l G X.2.2.2.2.2.2.2.2.2.1 _ S44 v1 0 0 0 (-1) _ h48) (cwV 5 X.2.2.2.2.1 (gV gw534 gw535 gw536 gw5 gw537) rfl rfl rfl ⟨rfl, hd_X12_enqueue⟩ ⟨Nat.le_of_ble_eq_true rfl, Nat.le_of_ble_eq_true rfl⟩) (x_recv X hW ob_Model z_1) rfl hl.1 rfl (Nat.le_of_ble_eq_true rfl) dX12_actsStation_105 ⟨Nat.zero_le _, Nat.zero_le _⟩) (fun H locs hW => ?_)
              refine lv_goto (tgt := 279) X.1 X.2.1 dX12_actsStation_108 (by decide) ?_
              exact x_vret X hW h dX12_actsStation_279
theorem c_X12_actsStation (l : Launch) (G : xG) (hD : xD G true) (sz : Nat) (S : Mm) (v1 : Int32) (o : Unit × Mm) (h : F_X12_actsStation v1 S = some o) : Met l yX12_actsStation wsX12_actsStation rmX12_actsStation (xPre G true S sz [.ref (G.2.2 200 0), .int v1]) (xQv G true sz o) 0 0 (XA G true sz) :=
  x_start hD (by decide) rfl (Nat.le_of_ble_eq_true rfl) (fun p e s m below meth c X hW ls hl => w_X12_actsStation_0 X v1 hW hl h)

/-! WirelessCellModel.look(I)V -/
def rmX12_look : Room := { frames := 8, cells := 0, slots := 0, locals := 195 }
def L_X12_look_226  (v1 : Int32) (v4 : Int32) (S : Mm) : Option (Unit × Mm) :=
  if v1 ≤ 0 then (
  some ((), S))
  else (
  if v4 = 0 then (
  cl (F_X12_actsStation v1 S) fun r37 S38 =>
  some ((), S38))
  else (
  some ((), S)))
def L_X12_look_191  (v1 : Int32) (v4 : Int32) (v5 : Int32) (v6 : Int32) (S : Mm) : Option (Unit × Mm) :=
  stA S 280 0 81 1 v6 (1 &&& 1) fun S32 =>
  stA S32 279 0 81 1 v6 v5 fun S33 =>
  if v1 = 0 then (
  if v4 ≤ 0 then (
  L_X12_look_226  v1 v4 S33)
  else (
  cl (F_X12_actsAp v4 S33) fun r34 S35 =>
  some ((), S35)))
  else (
  L_X12_look_226  v1 v4 S33)
def L_X12_look_66  (v1 : Int32) : Nat → Int64 → Int32 → Mm → Option (Unit × Mm)
  | 0, _, _, _ => none
  | n + 1, v2, v4, S => 
    if 6 ≤ v4 then (
    stL S 259 0 9 1 v1 v2 fun S17 =>
    cl (F_X12_nodeAt 10 S17) fun r18 S19 =>
    if 0 ≤ r18 then (
    ldA S19 278 0 300 1 22 fun x21 =>
    ldA S19 278 0 300 1 23 fun x22 =>
    tp (x21 ||| (x22 <<< (8 &&& 31))) fun x23 =>
    tp ((9 * v1) + r18) fun x24 =>
    ldA S19 278 0 300 1 1 fun x25 =>
    if (x25 &&& 8) = 0 then (
    L_X12_look_191  v1 r18 x23 x24 S19)
    else (
    ldA S19 280 0 81 1 x24 fun x26 =>
    if x26 = 0 then (
    L_X12_look_191  v1 r18 x23 x24 S19)
    else (
    ldA S19 279 0 81 1 x24 fun x27 =>
    if x27 = x23 then (
    ldA S19 281 0 9 1 v1 fun x28 =>
    stA S19 281 0 9 1 v1 (x28 + 1) fun S29 =>
    some ((), S29))
    else (
    L_X12_look_191  v1 r18 x23 x24 S19))))
    else (
    some ((), S19)))
    else (
    ldA S 278 0 300 1 (10 + v4) fun x30 =>
    tp ((v2 <<< (Int32.toInt64 8 &&& 63)) ||| (Int32.toInt64 x30)) fun x31 =>
    (L_X12_look_66 v1 n) x31 (v4 + 1) S)
def F_X12_look (v1 : Int32) (S : Mm) : Option (Unit × Mm) :=
  cl (F_X12_isWhole S) fun r1 S2 =>
  if r1 = 0 then (
  some ((), S2))
  else (
  cl (F_X12_isTold S2) fun r4 S5 =>
  if r4 = 0 then (
  some ((), S5))
  else (
  cl (F_X12_nodeAt 4 S5) fun r7 S8 =>
  if r7 = v1 then (
  ldA S8 278 0 300 1 0 fun x10 =>
  if x10 = 212 then (
  cl (F_X12_acknowledged v1 S8) fun r14 S15 =>
  some ((), S15))
  else (
  stA S8 257 0 9 1 v1 1 fun S11 =>
  gf S11 298 0 fun x12 =>
  stA S11 258 0 9 1 v1 (x12 + 2) fun S13 =>
  L_X12_look_66  v1 fu 0 0 S13))
  else (
  some ((), S8))))
set_option maxRecDepth 100000 in
set_option maxHeartbeats 4000000 in
theorem w_X12_look_226 {p : Program} {l : Launch} {e : Env} {s : State} {m : MethodId} {args : Array Value} {below : List Frame} {meth : Method} {c : Code} {G : xG} {sz : Nat} {o : Unit × Mm} (X : xC G true sz p s m args c cX12_look 7 wsX12_look RX12 meth none) (v1 : Int32) (v4 : Int32)   {S : Mm} {H : Heap} {locs : List Loc} {ls : Array Slot} (hW : xW G true sz s H locs S) (hl : lv_has ls 7 [(0, .ref (G.2.2 200 0)), (1, .int v1), (4, .int v4)]) (h : L_X12_look_226  v1 v4 S = some o) : wX p l e rmX12_look s m args below meth c H locs (xQv G true sz o) (XA G true sz) 226 ls [] := by
  unfold L_X12_look_226 at h
  refine lv_iload_n X.1 X.2.1 dX12_look_226 rfl (lv_at hl 1 rfl) ?_
  refine x_if_le X (tgt := 240) dX12_look_227 (by decide) h (fun h => ?_) (fun h => ?_)
  · exact x_vret X hW h dX12_look_240
  · refine lv_iload X.1 X.2.1 dX12_look_230 (lv_at hl 2 rfl) ?_
    refine x_if_ne X (tgt := 240) dX12_look_232 (by decide) h (fun h => ?_) (fun h => ?_)
    · exact x_vret X hW h dX12_look_240
    · refine lv_aload_n X.1 X.2.1 dX12_look_235 rfl (lv_at hl 0 rfl) ?_
      refine lv_iload_n X.1 X.2.1 dX12_look_236 rfl (lv_at hl 1 rfl) ?_
      obtain ⟨r37, S38, h39, h⟩ := cl_some h
      refine x_aftV X hW (x_runV (C := RX12) (a := G.2.2 200 0) (As := [.int v1]) (rest := []) X hW (c_X12_actsStation l G X.2.2.2.2.2.2.2.2.2.1 _ S v1 _ h39) (cwV 1 X.2.2.2.2.1 (gV gw1225 gw1226 gw1227 gw5 gw1228) rfl rfl rfl ⟨rfl, hd_X12_actsStation⟩ ⟨Nat.le_of_ble_eq_true rfl, Nat.le_of_ble_eq_true rfl⟩) (x_recv X hW ob_Model z_1) rfl hl.1 rfl (Nat.le_of_ble_eq_true rfl) dX12_look_237 ⟨Nat.zero_le _, Nat.zero_le _⟩) (fun H locs hW => ?_)
      exact x_vret X hW h dX12_look_240
set_option maxRecDepth 100000 in
set_option maxHeartbeats 4000000 in
theorem w_X12_look_191 {p : Program} {l : Launch} {e : Env} {s : State} {m : MethodId} {args : Array Value} {below : List Frame} {meth : Method} {c : Code} {G : xG} {sz : Nat} {o : Unit × Mm} (X : xC G true sz p s m args c cX12_look 7 wsX12_look RX12 meth none) (v1 : Int32) (v4 : Int32) (v5 : Int32) (v6 : Int32)   {S : Mm} {H : Heap} {locs : List Loc} {ls : Array Slot} (hW : xW G true sz s H locs S) (hl : lv_has ls 7 [(0, .ref (G.2.2 200 0)), (1, .int v1), (4, .int v4), (5, .int v5), (6, .int v6)]) (h : L_X12_look_191  v1 v4 v5 v6 S = some o) : wX p l e rmX12_look s m args below meth c H locs (xQv G true sz o) (XA G true sz) 191 ls [] := by
  unfold L_X12_look_191 at h
  refine lv_aload_n X.1 X.2.1 dX12_look_191 rfl (lv_at hl 0 rfl) ?_
  refine x_getR X hW fd_Model_hasLatest (fun w h => List.mem_cons_of_mem _ (gin_X12 w h)) (List.mem_cons_of_mem _ gw235) z_1 dX12_look_192 ?_
  refine lv_iload X.1 X.2.1 dX12_look_195 (lv_at hl 4 rfl) ?_
  refine lv_iconst (v := 1) X.1 X.2.1 dX12_look_197 rfl ?_
  refine x_zast X hW ar_280 dX12_look_198 h (fun S32 H locs h hW => ?_)
  refine lv_aload_n X.1 X.2.1 dX12_look_199 rfl (lv_at hl 0 rfl) ?_
  refine x_getR X hW fd_Model_latest (fun w h => List.mem_cons_of_mem _ (gin_X12 w h)) (List.mem_cons_of_mem _ gw234) z_1 dX12_look_200 ?_
  refine lv_iload X.1 X.2.1 dX12_look_203 (lv_at hl 4 rfl) ?_
  refine lv_iload X.1 X.2.1 dX12_look_205 (lv_at hl 3 rfl) ?_
  refine x_iast X hW ar_279 dX12_look_207 h (fun S33 H locs h hW => ?_)
  refine lv_iload_n X.1 X.2.1 dX12_look_208 rfl (lv_at hl 1 rfl) ?_
  refine x_if_ne X (tgt := 226) dX12_look_209 (by decide) h (fun h => ?_) (fun h => ?_)
  · exact w_X12_look_226 X v1 v4   hW (lv_sub hl [0, 1, 2] rfl) h
  · refine lv_iload X.1 X.2.1 dX12_look_212 (lv_at hl 2 rfl) ?_
    refine x_if_le X (tgt := 226) dX12_look_214 (by decide) h (fun h => ?_) (fun h => ?_)
    · exact w_X12_look_226 X v1 v4   hW (lv_sub hl [0, 1, 2] rfl) h
    · refine lv_aload_n X.1 X.2.1 dX12_look_217 rfl (lv_at hl 0 rfl) ?_
      refine lv_iload X.1 X.2.1 dX12_look_218 (lv_at hl 2 rfl) ?_
      obtain ⟨r34, S35, h36, h⟩ := cl_some h
      refine x_aftV X hW (x_runV (C := RX12) (a := G.2.2 200 0) (As := [.int v4]) (rest := []) X hW (c_X12_actsAp l G X.2.2.2.2.2.2.2.2.2.1 _ S33 v4 _ h36) (cwV 1 X.2.2.2.2.1 (gV gw1119 gw1120 gw1121 gw5 gw1122) rfl rfl rfl ⟨rfl, hd_X12_actsAp⟩ ⟨Nat.le_of_ble_eq_true rfl, Nat.le_of_ble_eq_true rfl⟩) (x_recv X hW ob_Model z_1) rfl hl.1 rfl (Nat.le_of_ble_eq_true rfl) dX12_look_220 ⟨Nat.zero_le _, Nat.zero_le _⟩) (fun H locs hW => ?_)
      refine lv_goto (tgt := 240) X.1 X.2.1 dX12_look_223 (by decide) ?_
      exact x_vret X hW h dX12_look_240
set_option maxRecDepth 100000 in
set_option maxHeartbeats 4000000 in
theorem w_X12_look_66 {p : Program} {l : Launch} {e : Env} {s : State} {m : MethodId} {args : Array Value} {below : List Frame} {meth : Method} {c : Code} {G : xG} {sz : Nat} {o : Unit × Mm} (X : xC G true sz p s m args c cX12_look 7 wsX12_look RX12 meth none) (v1 : Int32)   : ∀ (n : Nat) (v2 : Int64) (v4 : Int32) (S : Mm) (H : Heap) (locs : List Loc) (ls : Array Slot), L_X12_look_66 v1 n v2 v4 S = some o → xW G true sz s H locs S → lv_has ls 7 [(0, .ref (G.2.2 200 0)), (1, .int v1), (2, .long v2), (4, .int v4)] → wX p l e rmX12_look s m args below meth c H locs (xQv G true sz o) (XA G true sz) 66 ls [] := by
  intro n
  induction n with
  | zero =>
    intro v2 v4 S H locs ls h
    cases h
  | succ n ih =>
    intro v2 v4 S H locs ls h hW  hl
    rw [L_X12_look_66] at h
    refine lv_iload X.1 X.2.1 dX12_look_66 (lv_at hl 3 rfl) ?_
    refine lv_bipush (v := 6) X.1 X.2.1 dX12_look_68 rfl ?_
    refine x_icmp_ge X (tgt := 96) dX12_look_70 (by decide) h (fun h => ?_) (fun h => ?_)
    · refine lv_aload_n X.1 X.2.1 dX12_look_96 rfl (lv_at hl 0 rfl) ?_
      refine x_getR X hW fd_Model_dueFor (fun w h => List.mem_cons_of_mem _ (gin_X12 w h)) (List.mem_cons_of_mem _ gw213) z_1 dX12_look_97 ?_
      refine lv_iload_n X.1 X.2.1 dX12_look_100 rfl (lv_at hl 1 rfl) ?_
      refine lv_lload_n X.1 X.2.1 dX12_look_101 rfl (lv_at hl 2 rfl) ?_
      refine x_last X hW ar_259 dX12_look_102 h (fun S17 H locs h hW => ?_)
      refine lv_aload_n X.1 X.2.1 dX12_look_103 rfl (lv_at hl 0 rfl) ?_
      refine lv_bipush (v := 10) X.1 X.2.1 dX12_look_104 rfl ?_
      obtain ⟨r18, S19, h20, h⟩ := cl_some h
      refine x_aftI X hW (x_runV (C := RX12) (a := G.2.2 200 0) (As := [.int 10]) (rest := []) X hW (c_X12_nodeAt l G X.2.2.2.2.2.2.2.2.2.1 _ S17 10 _ h20) (cwV 1 X.2.2.2.2.1 (gV gw1111 gw1112 gw1113 gw5 gw1114) rfl rfl rfl ⟨rfl, hd_X12_nodeAt⟩ ⟨Nat.le_of_ble_eq_true rfl, Nat.le_of_ble_eq_true rfl⟩) (x_recv X hW ob_Model z_1) rfl hl.1 rfl (Nat.le_of_ble_eq_true rfl) dX12_look_106 ⟨Nat.zero_le _, Nat.zero_le _⟩) (fun H locs hW => ?_)
      refine lv_istore (lv' := [(4, .int r18), (0, .ref (G.2.2 200 0)), (1, .int v1), (2, .long v2)]) X.1 X.2.1 dX12_look_109 hl (by decide) rfl (fun ls hl => ?_)
      refine lv_iload X.1 X.2.1 dX12_look_111 (lv_at hl 0 rfl) ?_
      refine x_if_ge X (tgt := 117) dX12_look_113 (by decide) h (fun h => ?_) (fun h => ?_)
      · refine lv_aload_n X.1 X.2.1 dX12_look_117 rfl (lv_at hl 1 rfl) ?_
        refine x_getR X hW fd_Model_seen (fun w h => List.mem_cons_of_mem _ (gin_X12 w h)) (List.mem_cons_of_mem _ gw233) z_1 dX12_look_118 ?_
        refine lv_bipush (v := 22) X.1 X.2.1 dX12_look_121 rfl ?_
        refine x_iald X hW ar_278 dX12_look_123 h (fun x21 h => ?_)
        refine lv_aload_n X.1 X.2.1 dX12_look_124 rfl (lv_at hl 1 rfl) ?_
        refine x_getR X hW fd_Model_seen (fun w h => List.mem_cons_of_mem _ (gin_X12 w h)) (List.mem_cons_of_mem _ gw233) z_1 dX12_look_125 ?_
        refine lv_bipush (v := 23) X.1 X.2.1 dX12_look_128 rfl ?_
        refine x_iald X hW ar_278 dX12_look_130 h (fun x22 h => ?_)
        refine lv_bipush (v := 8) X.1 X.2.1 dX12_look_131 rfl ?_
        refine lv_ishl X.1 X.2.1 dX12_look_133 ?_
        refine lv_ior X.1 X.2.1 dX12_look_134 ?_
        refine x_top h (fun x23 h => ?_)
        refine lv_istore (lv' := [(5, .int x23), (4, .int r18), (0, .ref (G.2.2 200 0)), (1, .int v1), (2, .long v2)]) X.1 X.2.1 dX12_look_135 hl (by decide) rfl (fun ls hl => ?_)
        refine lv_bipush (v := 9) X.1 X.2.1 dX12_look_137 rfl ?_
        refine lv_iload_n X.1 X.2.1 dX12_look_139 rfl (lv_at hl 3 rfl) ?_
        refine lv_imul X.1 X.2.1 dX12_look_140 ?_
        refine lv_iload X.1 X.2.1 dX12_look_141 (lv_at hl 1 rfl) ?_
        refine lv_iadd X.1 X.2.1 dX12_look_143 ?_
        refine x_top h (fun x24 h => ?_)
        refine lv_istore (lv' := [(6, .int x24), (5, .int x23), (4, .int r18), (0, .ref (G.2.2 200 0)), (1, .int v1), (2, .long v2)]) X.1 X.2.1 dX12_look_144 hl (by decide) rfl (fun ls hl => ?_)
        refine lv_aload_n X.1 X.2.1 dX12_look_146 rfl (lv_at hl 3 rfl) ?_
        refine x_getR X hW fd_Model_seen (fun w h => List.mem_cons_of_mem _ (gin_X12 w h)) (List.mem_cons_of_mem _ gw233) z_1 dX12_look_147 ?_
        refine lv_iconst (v := 1) X.1 X.2.1 dX12_look_150 rfl ?_
        refine x_iald X hW ar_278 dX12_look_151 h (fun x25 h => ?_)
        refine lv_bipush (v := 8) X.1 X.2.1 dX12_look_152 rfl ?_
        refine lv_iand X.1 X.2.1 dX12_look_154 ?_
        refine x_if_eq X (tgt := 191) dX12_look_155 (by decide) h (fun h => ?_) (fun h => ?_)
        · exact w_X12_look_191 X v1 r18 x23 x24   hW (lv_sub hl [3, 4, 2, 1, 0] rfl) h
        · refine lv_aload_n X.1 X.2.1 dX12_look_158 rfl (lv_at hl 3 rfl) ?_
          refine x_getR X hW fd_Model_hasLatest (fun w h => List.mem_cons_of_mem _ (gin_X12 w h)) (List.mem_cons_of_mem _ gw235) z_1 dX12_look_159 ?_
          refine lv_iload X.1 X.2.1 dX12_look_162 (lv_at hl 0 rfl) ?_
          refine x_zald X hW ar_280 dX12_look_164 h (fun x26 h => ?_)
          refine x_if_eq X (tgt := 191) dX12_look_165 (by decide) h (fun h => ?_) (fun h => ?_)
          · exact w_X12_look_191 X v1 r18 x23 x24   hW (lv_sub hl [3, 4, 2, 1, 0] rfl) h
          · refine lv_aload_n X.1 X.2.1 dX12_look_168 rfl (lv_at hl 3 rfl) ?_
            refine x_getR X hW fd_Model_latest (fun w h => List.mem_cons_of_mem _ (gin_X12 w h)) (List.mem_cons_of_mem _ gw234) z_1 dX12_look_169 ?_
            refine lv_iload X.1 X.2.1 dX12_look_172 (lv_at hl 0 rfl) ?_
            refine x_iald X hW ar_279 dX12_look_174 h (fun x27 h => ?_)
            refine lv_iload X.1 X.2.1 dX12_look_175 (lv_at hl 1 rfl) ?_
            refine x_icmp_ne X (tgt := 191) dX12_look_177 (by decide) h (fun h => ?_) (fun h => ?_)
            · exact w_X12_look_191 X v1 r18 x23 x24   hW (lv_sub hl [3, 4, 2, 1, 0] rfl) h
            · refine lv_aload_n X.1 X.2.1 dX12_look_180 rfl (lv_at hl 3 rfl) ?_
              refine x_getR X hW fd_Model_dropped (fun w h => List.mem_cons_of_mem _ (gin_X12 w h)) (List.mem_cons_of_mem _ gw236) z_1 dX12_look_181 ?_
              refine lv_iload_n X.1 X.2.1 dX12_look_184 rfl (lv_at hl 4 rfl) ?_
              refine lv_dup2_11 X.1 X.2.1 dX12_look_185 rfl rfl ?_
              refine x_iald X hW ar_281 dX12_look_186 h (fun x28 h => ?_)
              refine lv_iconst (v := 1) X.1 X.2.1 dX12_look_187 rfl ?_
              refine lv_iadd X.1 X.2.1 dX12_look_188 ?_
              refine x_iast X hW ar_281 dX12_look_189 h (fun S29 H locs h hW => ?_)
              exact x_vret X hW h dX12_look_190
      · exact x_vret X hW h dX12_look_116
    · refine lv_lload_n X.1 X.2.1 dX12_look_73 rfl (lv_at hl 2 rfl) ?_
      refine lv_bipush (v := 8) X.1 X.2.1 dX12_look_74 rfl ?_
      refine lv_lshl (v := (v2 <<< (Int32.toInt64 8 &&& 63))) X.1 X.2.1 dX12_look_76 rfl ?_
      refine lv_aload_n X.1 X.2.1 dX12_look_77 rfl (lv_at hl 0 rfl) ?_
      refine x_getR X hW fd_Model_seen (fun w h => List.mem_cons_of_mem _ (gin_X12 w h)) (List.mem_cons_of_mem _ gw233) z_1 dX12_look_78 ?_
      refine lv_bipush (v := 10) X.1 X.2.1 dX12_look_81 rfl ?_
      refine lv_iload X.1 X.2.1 dX12_look_83 (lv_at hl 3 rfl) ?_
      refine lv_iadd X.1 X.2.1 dX12_look_85 ?_
      refine x_iald X hW ar_278 dX12_look_86 h (fun x30 h => ?_)
      refine lv_i2l (v := (Int32.toInt64 x30)) X.1 X.2.1 dX12_look_87 rfl ?_
      refine lv_lor X.1 X.2.1 dX12_look_88 ?_
      refine x_topL h (fun x31 h => ?_)
      refine lv_lstore_n (lv' := [(2, .long x31), (0, .ref (G.2.2 200 0)), (1, .int v1), (4, .int v4)]) X.1 X.2.1 dX12_look_89 rfl hl (by decide) rfl (fun ls hl => ?_)
      refine lv_iinc (v := (v4 + 1)) (lv' := [(4, .int (v4 + 1)), (2, .long x31), (0, .ref (G.2.2 200 0)), (1, .int v1)]) X.1 X.2.1 dX12_look_90 hl (k := 3) rfl rfl (by decide) rfl (fun ls hl => ?_)
      refine lv_goto (tgt := 66) X.1 X.2.1 dX12_look_93 (by decide) ?_
      exact ih x31 (v4 + 1) S _ _ _ h hW  (lv_sub hl [2, 3, 1, 0] rfl)
set_option maxRecDepth 100000 in
set_option maxHeartbeats 4000000 in
theorem w_X12_look_0 {p : Program} {l : Launch} {e : Env} {s : State} {m : MethodId} {args : Array Value} {below : List Frame} {meth : Method} {c : Code} {G : xG} {sz : Nat} {o : Unit × Mm} (X : xC G true sz p s m args c cX12_look 7 wsX12_look RX12 meth none) (v1 : Int32) {S : Mm} {H : Heap} {locs : List Loc} {ls : Array Slot} (hW : xW G true sz s H locs S) (hl : lv_has ls 7 [(0, .ref (G.2.2 200 0)), (1, .int v1)]) (h : F_X12_look v1 S = some o) : wX p l e rmX12_look s m args below meth c H locs (xQv G true sz o) (XA G true sz) 0 ls [] := by
  unfold F_X12_look at h
  refine lv_aload_n X.1 X.2.1 dX12_look_0 rfl (lv_at hl 0 rfl) ?_
  obtain ⟨r1, S2, h3, h⟩ := cl_some h
  refine x_aftI X hW (x_runV (C := RX12) (a := G.2.2 200 0) (As := []) (rest := []) X hW (c_X12_isWhole l G X.2.2.2.2.2.2.2.2.2.1 _ S _ h3) (cwV 0 X.2.2.2.2.1 (gV gw1103 gw1104 gw1105 gw5 gw1106) rfl rfl rfl ⟨rfl, hd_X12_isWhole⟩ ⟨Nat.le_of_ble_eq_true rfl, Nat.le_of_ble_eq_true rfl⟩) (x_recv X hW ob_Model z_1) rfl hl.1 rfl (Nat.le_of_ble_eq_true rfl) dX12_look_1 ⟨Nat.zero_le _, Nat.zero_le _⟩) (fun H locs hW => ?_)
  refine x_if_eq X (tgt := 23) dX12_look_4 (by decide) h (fun h => ?_) (fun h => ?_)
  · exact x_vret X hW h dX12_look_23
  · refine lv_aload_n X.1 X.2.1 dX12_look_7 rfl (lv_at hl 0 rfl) ?_
    obtain ⟨r4, S5, h6, h⟩ := cl_some h
    refine x_aftI X hW (x_runV (C := RX12) (a := G.2.2 200 0) (As := []) (rest := []) X hW (c_X12_isTold l G X.2.2.2.2.2.2.2.2.2.1 _ S2 _ h6) (cwV 0 X.2.2.2.2.1 (gV gw1107 gw1108 gw1109 gw5 gw1110) rfl rfl rfl ⟨rfl, hd_X12_isTold⟩ ⟨Nat.le_of_ble_eq_true rfl, Nat.le_of_ble_eq_true rfl⟩) (x_recv X hW ob_Model z_1) rfl hl.1 rfl (Nat.le_of_ble_eq_true rfl) dX12_look_8 ⟨Nat.zero_le _, Nat.zero_le _⟩) (fun H locs hW => ?_)
    refine x_if_eq X (tgt := 23) dX12_look_11 (by decide) h (fun h => ?_) (fun h => ?_)
    · exact x_vret X hW h dX12_look_23
    · refine lv_aload_n X.1 X.2.1 dX12_look_14 rfl (lv_at hl 0 rfl) ?_
      refine lv_iconst (v := 4) X.1 X.2.1 dX12_look_15 rfl ?_
      obtain ⟨r7, S8, h9, h⟩ := cl_some h
      refine x_aftI X hW (x_runV (C := RX12) (a := G.2.2 200 0) (As := [.int 4]) (rest := []) X hW (c_X12_nodeAt l G X.2.2.2.2.2.2.2.2.2.1 _ S5 4 _ h9) (cwV 1 X.2.2.2.2.1 (gV gw1111 gw1112 gw1113 gw5 gw1114) rfl rfl rfl ⟨rfl, hd_X12_nodeAt⟩ ⟨Nat.le_of_ble_eq_true rfl, Nat.le_of_ble_eq_true rfl⟩) (x_recv X hW ob_Model z_1) rfl hl.1 rfl (Nat.le_of_ble_eq_true rfl) dX12_look_16 ⟨Nat.zero_le _, Nat.zero_le _⟩) (fun H locs hW => ?_)
      refine lv_iload_n X.1 X.2.1 dX12_look_19 rfl (lv_at hl 1 rfl) ?_
      refine x_icmp_eq X (tgt := 24) dX12_look_20 (by decide) h (fun h => ?_) (fun h => ?_)
      · refine lv_aload_n X.1 X.2.1 dX12_look_24 rfl (lv_at hl 0 rfl) ?_
        refine x_getR X hW fd_Model_seen (fun w h => List.mem_cons_of_mem _ (gin_X12 w h)) (List.mem_cons_of_mem _ gw233) z_1 dX12_look_25 ?_
        refine lv_iconst (v := 0) X.1 X.2.1 dX12_look_28 rfl ?_
        refine x_iald X hW ar_278 dX12_look_29 h (fun x10 h => ?_)
        refine lv_sipush (v := 212) X.1 X.2.1 dX12_look_30 rfl ?_
        refine x_icmp_ne X (tgt := 42) dX12_look_33 (by decide) h (fun h => ?_) (fun h => ?_)
        · refine lv_aload_n X.1 X.2.1 dX12_look_42 rfl (lv_at hl 0 rfl) ?_
          refine x_getR X hW fd_Model_due (fun w h => List.mem_cons_of_mem _ (gin_X12 w h)) (List.mem_cons_of_mem _ gw211) z_1 dX12_look_43 ?_
          refine lv_iload_n X.1 X.2.1 dX12_look_46 rfl (lv_at hl 1 rfl) ?_
          refine lv_iconst (v := 1) X.1 X.2.1 dX12_look_47 rfl ?_
          refine x_iast X hW ar_257 dX12_look_48 h (fun S11 H locs h hW => ?_)
          refine lv_aload_n X.1 X.2.1 dX12_look_49 rfl (lv_at hl 0 rfl) ?_
          refine x_getR X hW fd_Model_dueAt (fun w h => List.mem_cons_of_mem _ (gin_X12 w h)) (List.mem_cons_of_mem _ gw212) z_1 dX12_look_50 ?_
          refine lv_iload_n X.1 X.2.1 dX12_look_53 rfl (lv_at hl 1 rfl) ?_
          refine lv_aload_n X.1 X.2.1 dX12_look_54 rfl (lv_at hl 0 rfl) ?_
          refine x_getI X hW fd_Model_slot (fun w h => List.mem_cons_of_mem _ (gin_X12 w h)) (List.mem_cons_of_mem _ gw451) z_1 dX12_look_55 h (fun x12 h => ?_)
          refine lv_iconst (v := 2) X.1 X.2.1 dX12_look_58 rfl ?_
          refine lv_iadd X.1 X.2.1 dX12_look_59 ?_
          refine x_iast X hW ar_258 dX12_look_60 h (fun S13 H locs h hW => ?_)
          refine lv_lconst (v := 0) X.1 X.2.1 dX12_look_61 rfl ?_
          refine lv_lstore_n (lv' := [(2, .long 0), (0, .ref (G.2.2 200 0)), (1, .int v1)]) X.1 X.2.1 dX12_look_62 rfl hl (by decide) rfl (fun ls hl => ?_)
          refine lv_iconst (v := 0) X.1 X.2.1 dX12_look_63 rfl ?_
          refine lv_istore (lv' := [(4, .int 0), (2, .long 0), (0, .ref (G.2.2 200 0)), (1, .int v1)]) X.1 X.2.1 dX12_look_64 hl (by decide) rfl (fun ls hl => ?_)
          exact w_X12_look_66 X v1   fu 0 0 S13 _ _ _ h hW  (lv_sub hl [2, 3, 1, 0] rfl)
        · refine lv_aload_n X.1 X.2.1 dX12_look_36 rfl (lv_at hl 0 rfl) ?_
          refine lv_iload_n X.1 X.2.1 dX12_look_37 rfl (lv_at hl 1 rfl) ?_
          obtain ⟨r14, S15, h16, h⟩ := cl_some h
          refine x_aftV X hW (x_runV (C := RX12) (a := G.2.2 200 0) (As := [.int v1]) (rest := []) X hW (c_X12_acknowledged l G X.2.2.2.2.2.2.2.2.2.1 _ S8 v1 _ h16) (cwV 1 X.2.2.2.2.1 (gV gw1115 gw1116 gw1117 gw5 gw1118) rfl rfl rfl ⟨rfl, hd_X12_acknowledged⟩ ⟨Nat.le_of_ble_eq_true rfl, Nat.le_of_ble_eq_true rfl⟩) (x_recv X hW ob_Model z_1) rfl hl.1 rfl (Nat.le_of_ble_eq_true rfl) dX12_look_38 ⟨Nat.zero_le _, Nat.zero_le _⟩) (fun H locs hW => ?_)
          exact x_vret X hW h dX12_look_41
      · exact x_vret X hW h dX12_look_23
theorem c_X12_look (l : Launch) (G : xG) (hD : xD G true) (sz : Nat) (S : Mm) (v1 : Int32) (o : Unit × Mm) (h : F_X12_look v1 S = some o) : Met l yX12_look wsX12_look rmX12_look (xPre G true S sz [.ref (G.2.2 200 0), .int v1]) (xQv G true sz o) 0 0 (XA G true sz) :=
  x_start hD (by decide) rfl (Nat.le_of_ble_eq_true rfl) (fun p e s m below meth c X hW ls hl => w_X12_look_0 X v1 hW hl h)

/-! WirelessCellModel.over(I)V -/
def rmX12_over : Room := { frames := 9, cells := 0, slots := 0, locals := 221 }
def L_X12_over_196 (k173 : Int32 → Mm → Option (Unit × Mm)) (v2 : Int32) (v3 : Int32) (v5 : Int32) (S : Mm) : Option (Unit × Mm) :=
  k173 (v5 + 1) S
def L_X12_over_173  (v2 : Int32) (v3 : Int32) : Nat → Int32 → Mm → Option (Unit × Mm)
  | 0, _, _ => none
  | n + 1, v5, S => 
    if 9 ≤ v5 then (
    some ((), S))
    else (
    if v3 = 0 then (
    some ((), S))
    else (
    if v5 = v2 then (
    L_X12_over_196 (L_X12_over_173 v2 v3 n) v2 v3 v5 S)
    else (
    cl (F_X12_look v5 S) fun r19 S20 =>
    L_X12_over_196 (L_X12_over_173 v2 v3 n) v2 v3 v5 S20)))
def L_X12_over_170  (v2 : Int32) (v3 : Int32) (S : Mm) : Option (Unit × Mm) :=
  L_X12_over_173  v2 v3 fu 0 S
def L_X12_over_153  (v2 : Int32) (v3 : Int32) (S : Mm) : Option (Unit × Mm) :=
  stA S 255 0 9 1 v2 (1 &&& 1) fun S16 =>
  gf S16 298 0 fun x17 =>
  stA S16 256 0 9 1 v2 x17 fun S18 =>
  L_X12_over_170  v2 v3 S18
def L_X12_over_115  (v2 : Int32) (v3 : Int32) (s1 : Int32) (s2 : Int32) (S : Mm) : Option (Unit × Mm) :=
  pf S 302 0 (s1 + s2) fun S12 =>
  if 9 ≤ v2 then (
  L_X12_over_170  v2 v3 S12)
  else (
  stA S12 254 0 9 1 v2 (-1) fun S13 =>
  ldA S13 278 0 300 1 0 fun x14 =>
  if x14 = 212 then (
  gf S13 307 0 fun x15 =>
  if x15 = 14 then (
  L_X12_over_170  v2 v3 S13)
  else (
  L_X12_over_153  v2 v3 S13))
  else (
  L_X12_over_153  v2 v3 S13))
def L_X12_over_101  (v2 : Int32) (v3 : Int32) (S : Mm) : Option (Unit × Mm) :=
  gf S 302 0 fun x11 =>
  if v3 = 0 then (
  L_X12_over_115  v2 v3 x11 1 S)
  else (
  L_X12_over_115  v2 v3 x11 0 S)
def L_X12_over_100  (v2 : Int32) (v3 : Int32) (s1 : Int32) (s2 : Int32) (S : Mm) : Option (Unit × Mm) :=
  stA S 270 0 40 1 s1 s2 fun S10 =>
  L_X12_over_101  v2 v3 S10
def L_X12_over_35  (v1 : Int32) (v2 : Int32) (v3 : Int32) (v4 : Int32) : Nat → Int32 → Mm → Option (Unit × Mm)
  | 0, _, _ => none
  | n + 1, v5, S => 
    gf S 307 0 fun x6 =>
    if x6 ≤ v5 then (
    gf S 301 0 fun x7 =>
    if 40 < (x7 - v4) then (
    L_X12_over_101  v2 v3 S)
    else (
    if v3 = 0 then (
    L_X12_over_100  v2 v3 (v4 - v4 / 40 * 40) 0 S)
    else (
    L_X12_over_100  v2 v3 (v4 - v4 / 40 * 40) 1 S)))
    else (
    ldA S 265 0 90000 1 ((300 * v1) + v5) fun x8 =>
    stA S 278 0 300 1 v5 x8 fun S9 =>
    (L_X12_over_35 v1 v2 v3 v4 n) (v5 + 1) S9)
def F_X12_over (v1 : Int32) (S : Mm) : Option (Unit × Mm) :=
  ldA S 260 0 300 1 v1 fun x1 =>
  ldA S 263 0 300 1 v1 fun x2 =>
  ldA S 264 0 300 1 v1 fun x3 =>
  ldA S 262 0 300 1 v1 fun x4 =>
  pf S 307 0 x4 fun S5 =>
  L_X12_over_35  v1 x1 x2 x3 fu 0 S5
set_option maxRecDepth 100000 in
set_option maxHeartbeats 4000000 in
theorem w_X12_over_196 {p : Program} {l : Launch} {e : Env} {s : State} {m : MethodId} {args : Array Value} {below : List Frame} {meth : Method} {c : Code} {G : xG} {sz : Nat} {o : Unit × Mm} (X : xC G true sz p s m args c cX12_over 6 wsX12_over RX12 meth none) (v2 : Int32) (v3 : Int32) (v5 : Int32)  (k173 : Int32 → Mm → Option (Unit × Mm)) (hk173 : ∀ (v5 : Int32) (S : Mm) (H : Heap) (locs : List Loc) (ls : Array Slot), k173 v5 S = some o → xW G true sz s H locs S → lv_has ls 6 [(0, .ref (G.2.2 200 0)), (2, .int v2), (3, .int v3), (5, .int v5)] → wX p l e rmX12_over s m args below meth c H locs (xQv G true sz o) (XA G true sz) 173 ls []) {S : Mm} {H : Heap} {locs : List Loc} {ls : Array Slot} (hW : xW G true sz s H locs S) (hl : lv_has ls 6 [(0, .ref (G.2.2 200 0)), (2, .int v2), (3, .int v3), (5, .int v5)]) (h : L_X12_over_196 k173 v2 v3 v5 S = some o) : wX p l e rmX12_over s m args below meth c H locs (xQv G true sz o) (XA G true sz) 196 ls [] := by
  unfold L_X12_over_196 at h
  refine lv_iinc (v := (v5 + 1)) (lv' := [(5, .int (v5 + 1)), (0, .ref (G.2.2 200 0)), (2, .int v2), (3, .int v3)]) X.1 X.2.1 dX12_over_196 hl (k := 3) rfl rfl (by decide) rfl (fun ls hl => ?_)
  refine lv_goto (tgt := 173) X.1 X.2.1 dX12_over_199 (by decide) ?_
  exact hk173 (v5 + 1) S _ _ _ h hW  (lv_sub hl [1, 2, 3, 0] rfl)
set_option maxRecDepth 100000 in
set_option maxHeartbeats 4000000 in
theorem w_X12_over_173 {p : Program} {l : Launch} {e : Env} {s : State} {m : MethodId} {args : Array Value} {below : List Frame} {meth : Method} {c : Code} {G : xG} {sz : Nat} {o : Unit × Mm} (X : xC G true sz p s m args c cX12_over 6 wsX12_over RX12 meth none) (v2 : Int32) (v3 : Int32)   : ∀ (n : Nat) (v5 : Int32) (S : Mm) (H : Heap) (locs : List Loc) (ls : Array Slot), L_X12_over_173 v2 v3 n v5 S = some o → xW G true sz s H locs S → lv_has ls 6 [(0, .ref (G.2.2 200 0)), (2, .int v2), (3, .int v3), (5, .int v5)] → wX p l e rmX12_over s m args below meth c H locs (xQv G true sz o) (XA G true sz) 173 ls [] := by
  intro n
  induction n with
  | zero =>
    intro v5 S H locs ls h
    cases h
  | succ n ih =>
    intro v5 S H locs ls h hW  hl
    rw [L_X12_over_173] at h
    refine lv_iload X.1 X.2.1 dX12_over_173 (lv_at hl 3 rfl) ?_
    refine lv_bipush (v := 9) X.1 X.2.1 dX12_over_175 rfl ?_
    refine x_icmp_ge X (tgt := 202) dX12_over_177 (by decide) h (fun h => ?_) (fun h => ?_)
    · exact x_vret X hW h dX12_over_202
    · refine lv_iload_n X.1 X.2.1 dX12_over_180 rfl (lv_at hl 2 rfl) ?_
      refine x_if_eq X (tgt := 202) dX12_over_181 (by decide) h (fun h => ?_) (fun h => ?_)
      · exact x_vret X hW h dX12_over_202
      · refine lv_iload X.1 X.2.1 dX12_over_184 (lv_at hl 3 rfl) ?_
        refine lv_iload_n X.1 X.2.1 dX12_over_186 rfl (lv_at hl 1 rfl) ?_
        refine x_icmp_eq X (tgt := 196) dX12_over_187 (by decide) h (fun h => ?_) (fun h => ?_)
        · exact w_X12_over_196 X v2 v3 v5  (L_X12_over_173 v2 v3 n) ih hW (lv_sub hl [0, 1, 2, 3] rfl) h
        · refine lv_aload_n X.1 X.2.1 dX12_over_190 rfl (lv_at hl 0 rfl) ?_
          refine lv_iload X.1 X.2.1 dX12_over_191 (lv_at hl 3 rfl) ?_
          obtain ⟨r19, S20, h21, h⟩ := cl_some h
          refine x_aftV X hW (x_runV (C := RX12) (a := G.2.2 200 0) (As := [.int v5]) (rest := []) X hW (c_X12_look l G X.2.2.2.2.2.2.2.2.2.1 _ S v5 _ h21) (cwV 1 X.2.2.2.2.1 (gV gw1099 gw1100 gw1101 gw5 gw1102) rfl rfl rfl ⟨rfl, hd_X12_look⟩ ⟨Nat.le_of_ble_eq_true rfl, Nat.le_of_ble_eq_true rfl⟩) (x_recv X hW ob_Model z_1) rfl hl.1 rfl (Nat.le_of_ble_eq_true rfl) dX12_over_193 ⟨Nat.zero_le _, Nat.zero_le _⟩) (fun H locs hW => ?_)
          exact w_X12_over_196 X v2 v3 v5  (L_X12_over_173 v2 v3 n) ih hW (lv_sub hl [0, 1, 2, 3] rfl) h
set_option maxRecDepth 100000 in
set_option maxHeartbeats 4000000 in
theorem w_X12_over_170 {p : Program} {l : Launch} {e : Env} {s : State} {m : MethodId} {args : Array Value} {below : List Frame} {meth : Method} {c : Code} {G : xG} {sz : Nat} {o : Unit × Mm} (X : xC G true sz p s m args c cX12_over 6 wsX12_over RX12 meth none) (v2 : Int32) (v3 : Int32)   {S : Mm} {H : Heap} {locs : List Loc} {ls : Array Slot} (hW : xW G true sz s H locs S) (hl : lv_has ls 6 [(0, .ref (G.2.2 200 0)), (2, .int v2), (3, .int v3)]) (h : L_X12_over_170  v2 v3 S = some o) : wX p l e rmX12_over s m args below meth c H locs (xQv G true sz o) (XA G true sz) 170 ls [] := by
  unfold L_X12_over_170 at h
  refine lv_iconst (v := 0) X.1 X.2.1 dX12_over_170 rfl ?_
  refine lv_istore (lv' := [(5, .int 0), (0, .ref (G.2.2 200 0)), (2, .int v2), (3, .int v3)]) X.1 X.2.1 dX12_over_171 hl (by decide) rfl (fun ls hl => ?_)
  exact w_X12_over_173 X v2 v3   fu 0 S _ _ _ h hW  (lv_sub hl [1, 2, 3, 0] rfl)
set_option maxRecDepth 100000 in
set_option maxHeartbeats 4000000 in
theorem w_X12_over_153 {p : Program} {l : Launch} {e : Env} {s : State} {m : MethodId} {args : Array Value} {below : List Frame} {meth : Method} {c : Code} {G : xG} {sz : Nat} {o : Unit × Mm} (X : xC G true sz p s m args c cX12_over 6 wsX12_over RX12 meth none) (v2 : Int32) (v3 : Int32)   {S : Mm} {H : Heap} {locs : List Loc} {ls : Array Slot} (hW : xW G true sz s H locs S) (hl : lv_has ls 6 [(0, .ref (G.2.2 200 0)), (2, .int v2), (3, .int v3)]) (h : L_X12_over_153  v2 v3 S = some o) : wX p l e rmX12_over s m args below meth c H locs (xQv G true sz o) (XA G true sz) 153 ls [] := by
  unfold L_X12_over_153 at h
  refine lv_aload_n X.1 X.2.1 dX12_over_153 rfl (lv_at hl 0 rfl) ?_
  refine x_getR X hW fd_Model_waits (fun w h => List.mem_cons_of_mem _ (gin_X12 w h)) (List.mem_cons_of_mem _ gw209) z_1 dX12_over_154 ?_
  refine lv_iload_n X.1 X.2.1 dX12_over_157 rfl (lv_at hl 1 rfl) ?_
  refine lv_iconst (v := 1) X.1 X.2.1 dX12_over_158 rfl ?_
  refine x_zast X hW ar_255 dX12_over_159 h (fun S16 H locs h hW => ?_)
  refine lv_aload_n X.1 X.2.1 dX12_over_160 rfl (lv_at hl 0 rfl) ?_
  refine x_getR X hW fd_Model_waitsFrom (fun w h => List.mem_cons_of_mem _ (gin_X12 w h)) (List.mem_cons_of_mem _ gw210) z_1 dX12_over_161 ?_
  refine lv_iload_n X.1 X.2.1 dX12_over_164 rfl (lv_at hl 1 rfl) ?_
  refine lv_aload_n X.1 X.2.1 dX12_over_165 rfl (lv_at hl 0 rfl) ?_
  refine x_getI X hW fd_Model_slot (fun w h => List.mem_cons_of_mem _ (gin_X12 w h)) (List.mem_cons_of_mem _ gw451) z_1 dX12_over_166 h (fun x17 h => ?_)
  refine x_iast X hW ar_256 dX12_over_169 h (fun S18 H locs h hW => ?_)
  exact w_X12_over_170 X v2 v3   hW (lv_sub hl [0, 1, 2] rfl) h
set_option maxRecDepth 100000 in
set_option maxHeartbeats 4000000 in
theorem w_X12_over_115 {p : Program} {l : Launch} {e : Env} {s : State} {m : MethodId} {args : Array Value} {below : List Frame} {meth : Method} {c : Code} {G : xG} {sz : Nat} {o : Unit × Mm} (X : xC G true sz p s m args c cX12_over 6 wsX12_over RX12 meth none) (v2 : Int32) (v3 : Int32) (s1 : Int32) (s2 : Int32)   {S : Mm} {H : Heap} {locs : List Loc} {ls : Array Slot} (hW : xW G true sz s H locs S) (hl : lv_has ls 6 [(0, .ref (G.2.2 200 0)), (2, .int v2), (3, .int v3)]) (h : L_X12_over_115  v2 v3 s1 s2 S = some o) : wX p l e rmX12_over s m args below meth c H locs (xQv G true sz o) (XA G true sz) 115 ls [.int s2, .int s1, .ref (G.2.2 200 0)] := by
  unfold L_X12_over_115 at h
  refine lv_iadd X.1 X.2.1 dX12_over_115 ?_
  refine x_putI X hW fd_Model_unclean (fun w h => List.mem_cons_of_mem _ (gin_X12 w h)) (List.mem_cons_of_mem _ gw1098) z_1 dX12_over_116 tyX12 tyX12_ok nmX12 rfl rfl rfl h (fun S12 H locs h hW => ?_)
  refine lv_iload_n X.1 X.2.1 dX12_over_119 rfl (lv_at hl 1 rfl) ?_
  refine lv_bipush (v := 9) X.1 X.2.1 dX12_over_120 rfl ?_
  refine x_icmp_ge X (tgt := 170) dX12_over_122 (by decide) h (fun h => ?_) (fun h => ?_)
  · exact w_X12_over_170 X v2 v3   hW (lv_sub hl [0, 1, 2] rfl) h
  · refine lv_aload_n X.1 X.2.1 dX12_over_125 rfl (lv_at hl 0 rfl) ?_
    refine x_getR X hW fd_Model_sending (fun w h => List.mem_cons_of_mem _ (gin_X12 w h)) (List.mem_cons_of_mem _ gw208) z_1 dX12_over_126 ?_
    refine lv_iload_n X.1 X.2.1 dX12_over_129 rfl (lv_at hl 1 rfl) ?_
    refine lv_iconst (v := (-1)) X.1 X.2.1 dX12_over_130 rfl ?_
    refine x_iast X hW ar_254 dX12_over_131 h (fun S13 H locs h hW => ?_)
    refine lv_aload_n X.1 X.2.1 dX12_over_132 rfl (lv_at hl 0 rfl) ?_
    refine x_getR X hW fd_Model_seen (fun w h => List.mem_cons_of_mem _ (gin_X12 w h)) (List.mem_cons_of_mem _ gw233) z_1 dX12_over_133 ?_
    refine lv_iconst (v := 0) X.1 X.2.1 dX12_over_136 rfl ?_
    refine x_iald X hW ar_278 dX12_over_137 h (fun x14 h => ?_)
    refine lv_sipush (v := 212) X.1 X.2.1 dX12_over_138 rfl ?_
    refine x_icmp_ne X (tgt := 153) dX12_over_141 (by decide) h (fun h => ?_) (fun h => ?_)
    · exact w_X12_over_153 X v2 v3   hW (lv_sub hl [0, 1, 2] rfl) h
    · refine lv_aload_n X.1 X.2.1 dX12_over_144 rfl (lv_at hl 0 rfl) ?_
      refine x_getI X hW fd_Model_seenLen (fun w h => List.mem_cons_of_mem _ (gin_X12 w h)) (List.mem_cons_of_mem _ gw1097) z_1 dX12_over_145 h (fun x15 h => ?_)
      refine lv_bipush (v := 14) X.1 X.2.1 dX12_over_148 rfl ?_
      refine x_icmp_eq X (tgt := 170) dX12_over_150 (by decide) h (fun h => ?_) (fun h => ?_)
      · exact w_X12_over_170 X v2 v3   hW (lv_sub hl [0, 1, 2] rfl) h
      · exact w_X12_over_153 X v2 v3   hW (lv_sub hl [0, 1, 2] rfl) h
set_option maxRecDepth 100000 in
set_option maxHeartbeats 4000000 in
theorem w_X12_over_101 {p : Program} {l : Launch} {e : Env} {s : State} {m : MethodId} {args : Array Value} {below : List Frame} {meth : Method} {c : Code} {G : xG} {sz : Nat} {o : Unit × Mm} (X : xC G true sz p s m args c cX12_over 6 wsX12_over RX12 meth none) (v2 : Int32) (v3 : Int32)   {S : Mm} {H : Heap} {locs : List Loc} {ls : Array Slot} (hW : xW G true sz s H locs S) (hl : lv_has ls 6 [(0, .ref (G.2.2 200 0)), (2, .int v2), (3, .int v3)]) (h : L_X12_over_101  v2 v3 S = some o) : wX p l e rmX12_over s m args below meth c H locs (xQv G true sz o) (XA G true sz) 101 ls [] := by
  unfold L_X12_over_101 at h
  refine lv_aload_n X.1 X.2.1 dX12_over_101 rfl (lv_at hl 0 rfl) ?_
  refine lv_dup X.1 X.2.1 dX12_over_102 rfl ?_
  refine x_getI X hW fd_Model_unclean (fun w h => List.mem_cons_of_mem _ (gin_X12 w h)) (List.mem_cons_of_mem _ gw1098) z_1 dX12_over_103 h (fun x11 h => ?_)
  refine lv_iload_n X.1 X.2.1 dX12_over_106 rfl (lv_at hl 2 rfl) ?_
  refine x_if_eq X (tgt := 114) dX12_over_107 (by decide) h (fun h => ?_) (fun h => ?_)
  · refine lv_iconst (v := 1) X.1 X.2.1 dX12_over_114 rfl ?_
    exact w_X12_over_115 X v2 v3 x11 1   hW (lv_sub hl [0, 1, 2] rfl) h
  · refine lv_iconst (v := 0) X.1 X.2.1 dX12_over_110 rfl ?_
    refine lv_goto (tgt := 115) X.1 X.2.1 dX12_over_111 (by decide) ?_
    exact w_X12_over_115 X v2 v3 x11 0   hW (lv_sub hl [0, 1, 2] rfl) h
set_option maxRecDepth 100000 in
set_option maxHeartbeats 4000000 in
theorem w_X12_over_100 {p : Program} {l : Launch} {e : Env} {s : State} {m : MethodId} {args : Array Value} {below : List Frame} {meth : Method} {c : Code} {G : xG} {sz : Nat} {o : Unit × Mm} (X : xC G true sz p s m args c cX12_over 6 wsX12_over RX12 meth none) (v2 : Int32) (v3 : Int32) (s1 : Int32) (s2 : Int32)   {S : Mm} {H : Heap} {locs : List Loc} {ls : Array Slot} (hW : xW G true sz s H locs S) (hl : lv_has ls 6 [(0, .ref (G.2.2 200 0)), (2, .int v2), (3, .int v3)]) (h : L_X12_over_100  v2 v3 s1 s2 S = some o) : wX p l e rmX12_over s m args below meth c H locs (xQv G true sz o) (XA G true sz) 100 ls [.int s2, .int s1, .ref (G.2.2 270 0)] := by
  unfold L_X12_over_100 at h
  refine x_iast X hW ar_270 dX12_over_100 h (fun S10 H locs h hW => ?_)
  exact w_X12_over_101 X v2 v3   hW (lv_sub hl [0, 1, 2] rfl) h
set_option maxRecDepth 100000 in
set_option maxHeartbeats 4000000 in
theorem w_X12_over_35 {p : Program} {l : Launch} {e : Env} {s : State} {m : MethodId} {args : Array Value} {below : List Frame} {meth : Method} {c : Code} {G : xG} {sz : Nat} {o : Unit × Mm} (X : xC G true sz p s m args c cX12_over 6 wsX12_over RX12 meth none) (v1 : Int32) (v2 : Int32) (v3 : Int32) (v4 : Int32)   : ∀ (n : Nat) (v5 : Int32) (S : Mm) (H : Heap) (locs : List Loc) (ls : Array Slot), L_X12_over_35 v1 v2 v3 v4 n v5 S = some o → xW G true sz s H locs S → lv_has ls 6 [(0, .ref (G.2.2 200 0)), (1, .int v1), (2, .int v2), (3, .int v3), (4, .int v4), (5, .int v5)] → wX p l e rmX12_over s m args below meth c H locs (xQv G true sz o) (XA G true sz) 35 ls [] := by
  intro n
  induction n with
  | zero =>
    intro v5 S H locs ls h
    cases h
  | succ n ih =>
    intro v5 S H locs ls h hW  hl
    rw [L_X12_over_35] at h
    refine lv_iload X.1 X.2.1 dX12_over_35 (lv_at hl 5 rfl) ?_
    refine lv_aload_n X.1 X.2.1 dX12_over_37 rfl (lv_at hl 0 rfl) ?_
    refine x_getI X hW fd_Model_seenLen (fun w h => List.mem_cons_of_mem _ (gin_X12 w h)) (List.mem_cons_of_mem _ gw1097) z_1 dX12_over_38 h (fun x6 h => ?_)
    refine x_icmp_ge X (tgt := 70) dX12_over_41 (by decide) h (fun h => ?_) (fun h => ?_)
    · refine lv_aload_n X.1 X.2.1 dX12_over_70 rfl (lv_at hl 0 rfl) ?_
      refine x_getI X hW fd_Model_began (fun w h => List.mem_cons_of_mem _ (gin_X12 w h)) (List.mem_cons_of_mem _ gw341) z_1 dX12_over_71 h (fun x7 h => ?_)
      refine lv_iload X.1 X.2.1 dX12_over_74 (lv_at hl 4 rfl) ?_
      refine lv_isub X.1 X.2.1 dX12_over_76 ?_
      refine lv_bipush (v := 40) X.1 X.2.1 dX12_over_77 rfl ?_
      refine x_icmp_gt X (tgt := 101) dX12_over_79 (by decide) h (fun h => ?_) (fun h => ?_)
      · exact w_X12_over_101 X v2 v3   hW (lv_sub hl [0, 2, 3] rfl) h
      · refine lv_aload_n X.1 X.2.1 dX12_over_82 rfl (lv_at hl 0 rfl) ?_
        refine x_getR X hW fd_Model_hClean (fun w h => List.mem_cons_of_mem _ (gin_X12 w h)) (List.mem_cons_of_mem _ gw225) z_1 dX12_over_83 ?_
        refine lv_iload X.1 X.2.1 dX12_over_86 (lv_at hl 4 rfl) ?_
        refine lv_bipush (v := 40) X.1 X.2.1 dX12_over_88 rfl ?_
        refine lv_irem X.1 X.2.1 dX12_over_90 (by decide) ?_
        refine lv_iload_n X.1 X.2.1 dX12_over_91 rfl (lv_at hl 3 rfl) ?_
        refine x_if_eq X (tgt := 99) dX12_over_92 (by decide) h (fun h => ?_) (fun h => ?_)
        · refine lv_iconst (v := 0) X.1 X.2.1 dX12_over_99 rfl ?_
          exact w_X12_over_100 X v2 v3 (v4 - v4 / 40 * 40) 0   hW (lv_sub hl [0, 2, 3] rfl) h
        · refine lv_iconst (v := 1) X.1 X.2.1 dX12_over_95 rfl ?_
          refine lv_goto (tgt := 100) X.1 X.2.1 dX12_over_96 (by decide) ?_
          exact w_X12_over_100 X v2 v3 (v4 - v4 / 40 * 40) 1   hW (lv_sub hl [0, 2, 3] rfl) h
    · refine lv_aload_n X.1 X.2.1 dX12_over_44 rfl (lv_at hl 0 rfl) ?_
      refine x_getR X hW fd_Model_seen (fun w h => List.mem_cons_of_mem _ (gin_X12 w h)) (List.mem_cons_of_mem _ gw233) z_1 dX12_over_45 ?_
      refine lv_iload X.1 X.2.1 dX12_over_48 (lv_at hl 5 rfl) ?_
      refine lv_aload_n X.1 X.2.1 dX12_over_50 rfl (lv_at hl 0 rfl) ?_
      refine x_getR X hW fd_Model_vBytes (fun w h => List.mem_cons_of_mem _ (gin_X12 w h)) (List.mem_cons_of_mem _ gw220) z_1 dX12_over_51 ?_
      refine lv_sipush (v := 300) X.1 X.2.1 dX12_over_54 rfl ?_
      refine lv_iload_n X.1 X.2.1 dX12_over_57 rfl (lv_at hl 1 rfl) ?_
      refine lv_imul X.1 X.2.1 dX12_over_58 ?_
      refine lv_iload X.1 X.2.1 dX12_over_59 (lv_at hl 5 rfl) ?_
      refine lv_iadd X.1 X.2.1 dX12_over_61 ?_
      refine x_iald X hW ar_265 dX12_over_62 h (fun x8 h => ?_)
      refine x_iast X hW ar_278 dX12_over_63 h (fun S9 H locs h hW => ?_)
      refine lv_iinc (v := (v5 + 1)) (lv' := [(5, .int (v5 + 1)), (0, .ref (G.2.2 200 0)), (1, .int v1), (2, .int v2), (3, .int v3), (4, .int v4)]) X.1 X.2.1 dX12_over_64 hl (k := 5) rfl rfl (by decide) rfl (fun ls hl => ?_)
      refine lv_goto (tgt := 35) X.1 X.2.1 dX12_over_67 (by decide) ?_
      exact ih (v5 + 1) S9 _ _ _ h hW  (lv_sub hl [1, 2, 3, 4, 5, 0] rfl)
set_option maxRecDepth 100000 in
set_option maxHeartbeats 4000000 in
theorem w_X12_over_0 {p : Program} {l : Launch} {e : Env} {s : State} {m : MethodId} {args : Array Value} {below : List Frame} {meth : Method} {c : Code} {G : xG} {sz : Nat} {o : Unit × Mm} (X : xC G true sz p s m args c cX12_over 6 wsX12_over RX12 meth none) (v1 : Int32) {S : Mm} {H : Heap} {locs : List Loc} {ls : Array Slot} (hW : xW G true sz s H locs S) (hl : lv_has ls 6 [(0, .ref (G.2.2 200 0)), (1, .int v1)]) (h : F_X12_over v1 S = some o) : wX p l e rmX12_over s m args below meth c H locs (xQv G true sz o) (XA G true sz) 0 ls [] := by
  unfold F_X12_over at h
  refine lv_aload_n X.1 X.2.1 dX12_over_0 rfl (lv_at hl 0 rfl) ?_
  refine x_getR X hW fd_Model_vSender (fun w h => List.mem_cons_of_mem _ (gin_X12 w h)) (List.mem_cons_of_mem _ gw214) z_1 dX12_over_1 ?_
  refine lv_iload_n X.1 X.2.1 dX12_over_4 rfl (lv_at hl 1 rfl) ?_
  refine x_iald X hW ar_260 dX12_over_5 h (fun x1 h => ?_)
  refine lv_istore_n (lv' := [(2, .int x1), (0, .ref (G.2.2 200 0)), (1, .int v1)]) X.1 X.2.1 dX12_over_6 rfl hl (by decide) rfl (fun ls hl => ?_)
  refine lv_aload_n X.1 X.2.1 dX12_over_7 rfl (lv_at hl 1 rfl) ?_
  refine x_getR X hW fd_Model_vClean (fun w h => List.mem_cons_of_mem _ (gin_X12 w h)) (List.mem_cons_of_mem _ gw217) z_1 dX12_over_8 ?_
  refine lv_iload_n X.1 X.2.1 dX12_over_11 rfl (lv_at hl 2 rfl) ?_
  refine x_zald X hW ar_263 dX12_over_12 h (fun x2 h => ?_)
  refine lv_istore_n (lv' := [(3, .int x2), (2, .int x1), (0, .ref (G.2.2 200 0)), (1, .int v1)]) X.1 X.2.1 dX12_over_13 rfl hl (by decide) rfl (fun ls hl => ?_)
  refine lv_aload_n X.1 X.2.1 dX12_over_14 rfl (lv_at hl 2 rfl) ?_
  refine x_getR X hW fd_Model_vNumber (fun w h => List.mem_cons_of_mem _ (gin_X12 w h)) (List.mem_cons_of_mem _ gw218) z_1 dX12_over_15 ?_
  refine lv_iload_n X.1 X.2.1 dX12_over_18 rfl (lv_at hl 3 rfl) ?_
  refine x_iald X hW ar_264 dX12_over_19 h (fun x3 h => ?_)
  refine lv_istore (lv' := [(4, .int x3), (3, .int x2), (2, .int x1), (0, .ref (G.2.2 200 0)), (1, .int v1)]) X.1 X.2.1 dX12_over_20 hl (by decide) rfl (fun ls hl => ?_)
  refine lv_aload_n X.1 X.2.1 dX12_over_22 rfl (lv_at hl 3 rfl) ?_
  refine lv_aload_n X.1 X.2.1 dX12_over_23 rfl (lv_at hl 3 rfl) ?_
  refine x_getR X hW fd_Model_vLen (fun w h => List.mem_cons_of_mem _ (gin_X12 w h)) (List.mem_cons_of_mem _ gw216) z_1 dX12_over_24 ?_
  refine lv_iload_n X.1 X.2.1 dX12_over_27 rfl (lv_at hl 4 rfl) ?_
  refine x_iald X hW ar_262 dX12_over_28 h (fun x4 h => ?_)
  refine x_putI X hW fd_Model_seenLen (fun w h => List.mem_cons_of_mem _ (gin_X12 w h)) (List.mem_cons_of_mem _ gw1097) z_1 dX12_over_29 tyX12 tyX12_ok nmX12 rfl rfl rfl h (fun S5 H locs h hW => ?_)
  refine lv_iconst (v := 0) X.1 X.2.1 dX12_over_32 rfl ?_
  refine lv_istore (lv' := [(5, .int 0), (4, .int x3), (3, .int x2), (2, .int x1), (0, .ref (G.2.2 200 0)), (1, .int v1)]) X.1 X.2.1 dX12_over_33 hl (by decide) rfl (fun ls hl => ?_)
  exact w_X12_over_35 X v1 x1 x2 x3   fu 0 S5 _ _ _ h hW  (lv_sub hl [4, 5, 3, 2, 1, 0] rfl)
theorem c_X12_over (l : Launch) (G : xG) (hD : xD G true) (sz : Nat) (S : Mm) (v1 : Int32) (o : Unit × Mm) (h : F_X12_over v1 S = some o) : Met l yX12_over wsX12_over rmX12_over (xPre G true S sz [.ref (G.2.2 200 0), .int v1]) (xQv G true sz o) 0 0 (XA G true sz) :=
  x_start hD (by decide) rfl (Nat.le_of_ble_eq_true rfl) (fun p e s m below meth c X hW ls hl => w_X12_over_0 X v1 hW hl h)

/-! WirelessCellModel.moveLive(II)V -/
def rmX12_moveLive : Room := { frames := 0, cells := 0, slots := 0, locals := 0 }
def L_X12_moveLive_62  (v1 : Int32) (v2 : Int32) : Nat → Int32 → Mm → Option (Unit × Mm)
  | 0, _, _ => none
  | n + 1, v3, S => 
    ldA S 262 0 300 1 v1 fun x11 =>
    if x11 ≤ v3 then (
    ldA S 260 0 300 1 v2 fun x12 =>
    if 9 ≤ x12 then (
    some ((), S))
    else (
    ldA S 260 0 300 1 v2 fun x13 =>
    stA S 254 0 9 1 x13 v2 fun S14 =>
    some ((), S14)))
    else (
    ldA S 265 0 90000 1 ((300 * v1) + v3) fun x15 =>
    stA S 265 0 90000 1 ((300 * v2) + v3) x15 fun S16 =>
    (L_X12_moveLive_62 v1 v2 n) (v3 + 1) S16)
def F_X12_moveLive (v1 : Int32) (v2 : Int32) (S : Mm) : Option (Unit × Mm) :=
  ldA S 260 0 300 1 v1 fun x1 =>
  stA S 260 0 300 1 v2 x1 fun S2 =>
  ldA S2 261 0 300 1 v1 fun x3 =>
  stA S2 261 0 300 1 v2 x3 fun S4 =>
  ldA S4 262 0 300 1 v1 fun x5 =>
  stA S4 262 0 300 1 v2 x5 fun S6 =>
  ldA S6 263 0 300 1 v1 fun x7 =>
  stA S6 263 0 300 1 v2 (x7 &&& 1) fun S8 =>
  ldA S8 264 0 300 1 v1 fun x9 =>
  stA S8 264 0 300 1 v2 x9 fun S10 =>
  L_X12_moveLive_62  v1 v2 fu 0 S10
set_option maxRecDepth 100000 in
set_option maxHeartbeats 4000000 in
theorem w_X12_moveLive_62 {p : Program} {l : Launch} {e : Env} {s : State} {m : MethodId} {args : Array Value} {below : List Frame} {meth : Method} {c : Code} {G : xG} {sz : Nat} {o : Unit × Mm} (X : xC G true sz p s m args c cX12_moveLive 4 wsX12_moveLive RX12 meth none) (v1 : Int32) (v2 : Int32)   : ∀ (n : Nat) (v3 : Int32) (S : Mm) (H : Heap) (locs : List Loc) (ls : Array Slot), L_X12_moveLive_62 v1 v2 n v3 S = some o → xW G true sz s H locs S → lv_has ls 4 [(0, .ref (G.2.2 200 0)), (1, .int v1), (2, .int v2), (3, .int v3)] → wX p l e rmX12_moveLive s m args below meth c H locs (xQv G true sz o) (XA G true sz) 62 ls [] := by
  intro n
  induction n with
  | zero =>
    intro v3 S H locs ls h
    cases h
  | succ n ih =>
    intro v3 S H locs ls h hW  hl
    rw [L_X12_moveLive_62] at h
    refine lv_iload_n X.1 X.2.1 dX12_moveLive_62 rfl (lv_at hl 3 rfl) ?_
    refine lv_aload_n X.1 X.2.1 dX12_moveLive_63 rfl (lv_at hl 0 rfl) ?_
    refine x_getR X hW fd_Model_vLen (fun w h => List.mem_cons_of_mem _ (gin_X12 w h)) (List.mem_cons_of_mem _ gw216) z_1 dX12_moveLive_64 ?_
    refine lv_iload_n X.1 X.2.1 dX12_moveLive_67 rfl (lv_at hl 1 rfl) ?_
    refine x_iald X hW ar_262 dX12_moveLive_68 h (fun x11 h => ?_)
    refine x_icmp_ge X (tgt := 102) dX12_moveLive_69 (by decide) h (fun h => ?_) (fun h => ?_)
    · refine lv_aload_n X.1 X.2.1 dX12_moveLive_102 rfl (lv_at hl 0 rfl) ?_
      refine x_getR X hW fd_Model_vSender (fun w h => List.mem_cons_of_mem _ (gin_X12 w h)) (List.mem_cons_of_mem _ gw214) z_1 dX12_moveLive_103 ?_
      refine lv_iload_n X.1 X.2.1 dX12_moveLive_106 rfl (lv_at hl 2 rfl) ?_
      refine x_iald X hW ar_260 dX12_moveLive_107 h (fun x12 h => ?_)
      refine lv_bipush (v := 9) X.1 X.2.1 dX12_moveLive_108 rfl ?_
      refine x_icmp_ge X (tgt := 125) dX12_moveLive_110 (by decide) h (fun h => ?_) (fun h => ?_)
      · exact x_vret X hW h dX12_moveLive_125
      · refine lv_aload_n X.1 X.2.1 dX12_moveLive_113 rfl (lv_at hl 0 rfl) ?_
        refine x_getR X hW fd_Model_sending (fun w h => List.mem_cons_of_mem _ (gin_X12 w h)) (List.mem_cons_of_mem _ gw208) z_1 dX12_moveLive_114 ?_
        refine lv_aload_n X.1 X.2.1 dX12_moveLive_117 rfl (lv_at hl 0 rfl) ?_
        refine x_getR X hW fd_Model_vSender (fun w h => List.mem_cons_of_mem _ (gin_X12 w h)) (List.mem_cons_of_mem _ gw214) z_1 dX12_moveLive_118 ?_
        refine lv_iload_n X.1 X.2.1 dX12_moveLive_121 rfl (lv_at hl 2 rfl) ?_
        refine x_iald X hW ar_260 dX12_moveLive_122 h (fun x13 h => ?_)
        refine lv_iload_n X.1 X.2.1 dX12_moveLive_123 rfl (lv_at hl 2 rfl) ?_
        refine x_iast X hW ar_254 dX12_moveLive_124 h (fun S14 H locs h hW => ?_)
        exact x_vret X hW h dX12_moveLive_125
    · refine lv_aload_n X.1 X.2.1 dX12_moveLive_72 rfl (lv_at hl 0 rfl) ?_
      refine x_getR X hW fd_Model_vBytes (fun w h => List.mem_cons_of_mem _ (gin_X12 w h)) (List.mem_cons_of_mem _ gw220) z_1 dX12_moveLive_73 ?_
      refine lv_sipush (v := 300) X.1 X.2.1 dX12_moveLive_76 rfl ?_
      refine lv_iload_n X.1 X.2.1 dX12_moveLive_79 rfl (lv_at hl 2 rfl) ?_
      refine lv_imul X.1 X.2.1 dX12_moveLive_80 ?_
      refine lv_iload_n X.1 X.2.1 dX12_moveLive_81 rfl (lv_at hl 3 rfl) ?_
      refine lv_iadd X.1 X.2.1 dX12_moveLive_82 ?_
      refine lv_aload_n X.1 X.2.1 dX12_moveLive_83 rfl (lv_at hl 0 rfl) ?_
      refine x_getR X hW fd_Model_vBytes (fun w h => List.mem_cons_of_mem _ (gin_X12 w h)) (List.mem_cons_of_mem _ gw220) z_1 dX12_moveLive_84 ?_
      refine lv_sipush (v := 300) X.1 X.2.1 dX12_moveLive_87 rfl ?_
      refine lv_iload_n X.1 X.2.1 dX12_moveLive_90 rfl (lv_at hl 1 rfl) ?_
      refine lv_imul X.1 X.2.1 dX12_moveLive_91 ?_
      refine lv_iload_n X.1 X.2.1 dX12_moveLive_92 rfl (lv_at hl 3 rfl) ?_
      refine lv_iadd X.1 X.2.1 dX12_moveLive_93 ?_
      refine x_iald X hW ar_265 dX12_moveLive_94 h (fun x15 h => ?_)
      refine x_iast X hW ar_265 dX12_moveLive_95 h (fun S16 H locs h hW => ?_)
      refine lv_iinc (v := (v3 + 1)) (lv' := [(3, .int (v3 + 1)), (0, .ref (G.2.2 200 0)), (1, .int v1), (2, .int v2)]) X.1 X.2.1 dX12_moveLive_96 hl (k := 3) rfl rfl (by decide) rfl (fun ls hl => ?_)
      refine lv_goto (tgt := 62) X.1 X.2.1 dX12_moveLive_99 (by decide) ?_
      exact ih (v3 + 1) S16 _ _ _ h hW  (lv_sub hl [1, 2, 3, 0] rfl)
set_option maxRecDepth 100000 in
set_option maxHeartbeats 4000000 in
theorem w_X12_moveLive_0 {p : Program} {l : Launch} {e : Env} {s : State} {m : MethodId} {args : Array Value} {below : List Frame} {meth : Method} {c : Code} {G : xG} {sz : Nat} {o : Unit × Mm} (X : xC G true sz p s m args c cX12_moveLive 4 wsX12_moveLive RX12 meth none) (v1 : Int32) (v2 : Int32) {S : Mm} {H : Heap} {locs : List Loc} {ls : Array Slot} (hW : xW G true sz s H locs S) (hl : lv_has ls 4 [(0, .ref (G.2.2 200 0)), (1, .int v1), (2, .int v2)]) (h : F_X12_moveLive v1 v2 S = some o) : wX p l e rmX12_moveLive s m args below meth c H locs (xQv G true sz o) (XA G true sz) 0 ls [] := by
  unfold F_X12_moveLive at h
  refine lv_aload_n X.1 X.2.1 dX12_moveLive_0 rfl (lv_at hl 0 rfl) ?_
  refine x_getR X hW fd_Model_vSender (fun w h => List.mem_cons_of_mem _ (gin_X12 w h)) (List.mem_cons_of_mem _ gw214) z_1 dX12_moveLive_1 ?_
  refine lv_iload_n X.1 X.2.1 dX12_moveLive_4 rfl (lv_at hl 2 rfl) ?_
  refine lv_aload_n X.1 X.2.1 dX12_moveLive_5 rfl (lv_at hl 0 rfl) ?_
  refine x_getR X hW fd_Model_vSender (fun w h => List.mem_cons_of_mem _ (gin_X12 w h)) (List.mem_cons_of_mem _ gw214) z_1 dX12_moveLive_6 ?_
  refine lv_iload_n X.1 X.2.1 dX12_moveLive_9 rfl (lv_at hl 1 rfl) ?_
  refine x_iald X hW ar_260 dX12_moveLive_10 h (fun x1 h => ?_)
  refine x_iast X hW ar_260 dX12_moveLive_11 h (fun S2 H locs h hW => ?_)
  refine lv_aload_n X.1 X.2.1 dX12_moveLive_12 rfl (lv_at hl 0 rfl) ?_
  refine x_getR X hW fd_Model_vLast (fun w h => List.mem_cons_of_mem _ (gin_X12 w h)) (List.mem_cons_of_mem _ gw215) z_1 dX12_moveLive_13 ?_
  refine lv_iload_n X.1 X.2.1 dX12_moveLive_16 rfl (lv_at hl 2 rfl) ?_
  refine lv_aload_n X.1 X.2.1 dX12_moveLive_17 rfl (lv_at hl 0 rfl) ?_
  refine x_getR X hW fd_Model_vLast (fun w h => List.mem_cons_of_mem _ (gin_X12 w h)) (List.mem_cons_of_mem _ gw215) z_1 dX12_moveLive_18 ?_
  refine lv_iload_n X.1 X.2.1 dX12_moveLive_21 rfl (lv_at hl 1 rfl) ?_
  refine x_iald X hW ar_261 dX12_moveLive_22 h (fun x3 h => ?_)
  refine x_iast X hW ar_261 dX12_moveLive_23 h (fun S4 H locs h hW => ?_)
  refine lv_aload_n X.1 X.2.1 dX12_moveLive_24 rfl (lv_at hl 0 rfl) ?_
  refine x_getR X hW fd_Model_vLen (fun w h => List.mem_cons_of_mem _ (gin_X12 w h)) (List.mem_cons_of_mem _ gw216) z_1 dX12_moveLive_25 ?_
  refine lv_iload_n X.1 X.2.1 dX12_moveLive_28 rfl (lv_at hl 2 rfl) ?_
  refine lv_aload_n X.1 X.2.1 dX12_moveLive_29 rfl (lv_at hl 0 rfl) ?_
  refine x_getR X hW fd_Model_vLen (fun w h => List.mem_cons_of_mem _ (gin_X12 w h)) (List.mem_cons_of_mem _ gw216) z_1 dX12_moveLive_30 ?_
  refine lv_iload_n X.1 X.2.1 dX12_moveLive_33 rfl (lv_at hl 1 rfl) ?_
  refine x_iald X hW ar_262 dX12_moveLive_34 h (fun x5 h => ?_)
  refine x_iast X hW ar_262 dX12_moveLive_35 h (fun S6 H locs h hW => ?_)
  refine lv_aload_n X.1 X.2.1 dX12_moveLive_36 rfl (lv_at hl 0 rfl) ?_
  refine x_getR X hW fd_Model_vClean (fun w h => List.mem_cons_of_mem _ (gin_X12 w h)) (List.mem_cons_of_mem _ gw217) z_1 dX12_moveLive_37 ?_
  refine lv_iload_n X.1 X.2.1 dX12_moveLive_40 rfl (lv_at hl 2 rfl) ?_
  refine lv_aload_n X.1 X.2.1 dX12_moveLive_41 rfl (lv_at hl 0 rfl) ?_
  refine x_getR X hW fd_Model_vClean (fun w h => List.mem_cons_of_mem _ (gin_X12 w h)) (List.mem_cons_of_mem _ gw217) z_1 dX12_moveLive_42 ?_
  refine lv_iload_n X.1 X.2.1 dX12_moveLive_45 rfl (lv_at hl 1 rfl) ?_
  refine x_zald X hW ar_263 dX12_moveLive_46 h (fun x7 h => ?_)
  refine x_zast X hW ar_263 dX12_moveLive_47 h (fun S8 H locs h hW => ?_)
  refine lv_aload_n X.1 X.2.1 dX12_moveLive_48 rfl (lv_at hl 0 rfl) ?_
  refine x_getR X hW fd_Model_vNumber (fun w h => List.mem_cons_of_mem _ (gin_X12 w h)) (List.mem_cons_of_mem _ gw218) z_1 dX12_moveLive_49 ?_
  refine lv_iload_n X.1 X.2.1 dX12_moveLive_52 rfl (lv_at hl 2 rfl) ?_
  refine lv_aload_n X.1 X.2.1 dX12_moveLive_53 rfl (lv_at hl 0 rfl) ?_
  refine x_getR X hW fd_Model_vNumber (fun w h => List.mem_cons_of_mem _ (gin_X12 w h)) (List.mem_cons_of_mem _ gw218) z_1 dX12_moveLive_54 ?_
  refine lv_iload_n X.1 X.2.1 dX12_moveLive_57 rfl (lv_at hl 1 rfl) ?_
  refine x_iald X hW ar_264 dX12_moveLive_58 h (fun x9 h => ?_)
  refine x_iast X hW ar_264 dX12_moveLive_59 h (fun S10 H locs h hW => ?_)
  refine lv_iconst (v := 0) X.1 X.2.1 dX12_moveLive_60 rfl ?_
  refine lv_istore_n (lv' := [(3, .int 0), (0, .ref (G.2.2 200 0)), (1, .int v1), (2, .int v2)]) X.1 X.2.1 dX12_moveLive_61 rfl hl (by decide) rfl (fun ls hl => ?_)
  exact w_X12_moveLive_62 X v1 v2   fu 0 S10 _ _ _ h hW  (lv_sub hl [1, 2, 3, 0] rfl)
theorem c_X12_moveLive (l : Launch) (G : xG) (hD : xD G true) (sz : Nat) (S : Mm) (v1 : Int32) (v2 : Int32) (o : Unit × Mm) (h : F_X12_moveLive v1 v2 S = some o) : Met l yX12_moveLive wsX12_moveLive rmX12_moveLive (xPre G true S sz [.ref (G.2.2 200 0), .int v1, .int v2]) (xQv G true sz o) 0 0 (XA G true sz) :=
  x_start hD (by decide) rfl (Nat.le_of_ble_eq_true rfl) (fun p e s m below meth c X hW ls hl => w_X12_moveLive_0 X v1 v2 hW hl h)

/-! WirelessCellModel.endAll()V -/
def rmX12_endAll : Room := { frames := 10, cells := 0, slots := 0, locals := 246 }
def L_X12_endAll_45 (k2 : Int32 → Mm → Option (Unit × Mm)) (v1 : Int32) (S : Mm) : Option (Unit × Mm) :=
  k2 (v1 + 1) S
def L_X12_endAll_90 (k53 : Int32 → Mm → Option (Unit × Mm)) (v1 : Int32) (S : Mm) : Option (Unit × Mm) :=
  k53 (v1 + 1) S
def L_X12_endAll_138 (k100 : Int32 → Int32 → Mm → Option (Unit × Mm)) (v1 : Int32) (v2 : Int32) (S : Mm) : Option (Unit × Mm) :=
  k100 v1 (v2 + 1) S
def L_X12_endAll_135 (k100 : Int32 → Int32 → Mm → Option (Unit × Mm)) (v1 : Int32) (v2 : Int32) (S : Mm) : Option (Unit × Mm) :=
  L_X12_endAll_138 k100 (v1 + 1) v2 S
def L_X12_endAll_100   : Nat → Int32 → Int32 → Mm → Option (Unit × Mm)
  | 0, _, _, _ => none
  | n + 1, v1, v2, S => 
    gf S 304 0 fun x16 =>
    if x16 ≤ v2 then (
    pf S 304 0 v1 fun S17 =>
    some ((), S17))
    else (
    ldA S 261 0 300 1 v2 fun x18 =>
    gf S 298 0 fun x19 =>
    if x18 = x19 then (
    L_X12_endAll_138 (L_X12_endAll_100  n) v1 v2 S)
    else (
    if v1 = v2 then (
    L_X12_endAll_135 (L_X12_endAll_100  n) v1 v2 S)
    else (
    cl (F_X12_moveLive v2 v1 S) fun r20 S21 =>
    L_X12_endAll_135 (L_X12_endAll_100  n) v1 v2 S21)))
def L_X12_endAll_53   : Nat → Int32 → Mm → Option (Unit × Mm)
  | 0, _, _ => none
  | n + 1, v1, S => 
    gf S 304 0 fun x9 =>
    if x9 ≤ v1 then (
    L_X12_endAll_100   fu 0 0 S)
    else (
    ldA S 260 0 300 1 v1 fun x10 =>
    if x10 = 9 then (
    ldA S 261 0 300 1 v1 fun x11 =>
    gf S 298 0 fun x12 =>
    if x11 = x12 then (
    cl (F_X12_over v1 S) fun r13 S14 =>
    L_X12_endAll_90 (L_X12_endAll_53  n) v1 S14)
    else (
    L_X12_endAll_90 (L_X12_endAll_53  n) v1 S))
    else (
    L_X12_endAll_90 (L_X12_endAll_53  n) v1 S))
def L_X12_endAll_2   : Nat → Int32 → Mm → Option (Unit × Mm)
  | 0, _, _ => none
  | n + 1, v1, S => 
    if 9 ≤ v1 then (
    L_X12_endAll_53   fu 0 S)
    else (
    ldA S 254 0 9 1 v1 fun x1 =>
    if x1 < 0 then (
    L_X12_endAll_45 (L_X12_endAll_2  n) v1 S)
    else (
    ldA S 254 0 9 1 v1 fun x2 =>
    ldA S 261 0 300 1 x2 fun x3 =>
    gf S 298 0 fun x4 =>
    if x3 = x4 then (
    ldA S 254 0 9 1 v1 fun x5 =>
    cl (F_X12_over x5 S) fun r6 S7 =>
    L_X12_endAll_45 (L_X12_endAll_2  n) v1 S7)
    else (
    L_X12_endAll_45 (L_X12_endAll_2  n) v1 S)))
def F_X12_endAll  (S : Mm) : Option (Unit × Mm) :=
  L_X12_endAll_2   fu 0 S
set_option maxRecDepth 100000 in
set_option maxHeartbeats 4000000 in
theorem w_X12_endAll_45 {p : Program} {l : Launch} {e : Env} {s : State} {m : MethodId} {args : Array Value} {below : List Frame} {meth : Method} {c : Code} {G : xG} {sz : Nat} {o : Unit × Mm} (X : xC G true sz p s m args c cX12_endAll 3 wsX12_endAll RX12 meth none) (v1 : Int32)  (k2 : Int32 → Mm → Option (Unit × Mm)) (hk2 : ∀ (v1 : Int32) (S : Mm) (H : Heap) (locs : List Loc) (ls : Array Slot), k2 v1 S = some o → xW G true sz s H locs S → lv_has ls 3 [(0, .ref (G.2.2 200 0)), (1, .int v1)] → wX p l e rmX12_endAll s m args below meth c H locs (xQv G true sz o) (XA G true sz) 2 ls []) {S : Mm} {H : Heap} {locs : List Loc} {ls : Array Slot} (hW : xW G true sz s H locs S) (hl : lv_has ls 3 [(0, .ref (G.2.2 200 0)), (1, .int v1)]) (h : L_X12_endAll_45 k2 v1 S = some o) : wX p l e rmX12_endAll s m args below meth c H locs (xQv G true sz o) (XA G true sz) 45 ls [] := by
  unfold L_X12_endAll_45 at h
  refine lv_iinc (v := (v1 + 1)) (lv' := [(1, .int (v1 + 1)), (0, .ref (G.2.2 200 0))]) X.1 X.2.1 dX12_endAll_45 hl (k := 1) rfl rfl (by decide) rfl (fun ls hl => ?_)
  refine lv_goto (tgt := 2) X.1 X.2.1 dX12_endAll_48 (by decide) ?_
  exact hk2 (v1 + 1) S _ _ _ h hW  (lv_sub hl [1, 0] rfl)
set_option maxRecDepth 100000 in
set_option maxHeartbeats 4000000 in
theorem w_X12_endAll_90 {p : Program} {l : Launch} {e : Env} {s : State} {m : MethodId} {args : Array Value} {below : List Frame} {meth : Method} {c : Code} {G : xG} {sz : Nat} {o : Unit × Mm} (X : xC G true sz p s m args c cX12_endAll 3 wsX12_endAll RX12 meth none) (v1 : Int32)  (k53 : Int32 → Mm → Option (Unit × Mm)) (hk53 : ∀ (v1 : Int32) (S : Mm) (H : Heap) (locs : List Loc) (ls : Array Slot), k53 v1 S = some o → xW G true sz s H locs S → lv_has ls 3 [(0, .ref (G.2.2 200 0)), (1, .int v1)] → wX p l e rmX12_endAll s m args below meth c H locs (xQv G true sz o) (XA G true sz) 53 ls []) {S : Mm} {H : Heap} {locs : List Loc} {ls : Array Slot} (hW : xW G true sz s H locs S) (hl : lv_has ls 3 [(0, .ref (G.2.2 200 0)), (1, .int v1)]) (h : L_X12_endAll_90 k53 v1 S = some o) : wX p l e rmX12_endAll s m args below meth c H locs (xQv G true sz o) (XA G true sz) 90 ls [] := by
  unfold L_X12_endAll_90 at h
  refine lv_iinc (v := (v1 + 1)) (lv' := [(1, .int (v1 + 1)), (0, .ref (G.2.2 200 0))]) X.1 X.2.1 dX12_endAll_90 hl (k := 1) rfl rfl (by decide) rfl (fun ls hl => ?_)
  refine lv_goto (tgt := 53) X.1 X.2.1 dX12_endAll_93 (by decide) ?_
  exact hk53 (v1 + 1) S _ _ _ h hW  (lv_sub hl [1, 0] rfl)
set_option maxRecDepth 100000 in
set_option maxHeartbeats 4000000 in
theorem w_X12_endAll_138 {p : Program} {l : Launch} {e : Env} {s : State} {m : MethodId} {args : Array Value} {below : List Frame} {meth : Method} {c : Code} {G : xG} {sz : Nat} {o : Unit × Mm} (X : xC G true sz p s m args c cX12_endAll 3 wsX12_endAll RX12 meth none) (v1 : Int32) (v2 : Int32)  (k100 : Int32 → Int32 → Mm → Option (Unit × Mm)) (hk100 : ∀ (v1 : Int32) (v2 : Int32) (S : Mm) (H : Heap) (locs : List Loc) (ls : Array Slot), k100 v1 v2 S = some o → xW G true sz s H locs S → lv_has ls 3 [(0, .ref (G.2.2 200 0)), (1, .int v1), (2, .int v2)] → wX p l e rmX12_endAll s m args below meth c H locs (xQv G true sz o) (XA G true sz) 100 ls []) {S : Mm} {H : Heap} {locs : List Loc} {ls : Array Slot} (hW : xW G true sz s H locs S) (hl : lv_has ls 3 [(0, .ref (G.2.2 200 0)), (1, .int v1), (2, .int v2)]) (h : L_X12_endAll_138 k100 v1 v2 S = some o) : wX p l e rmX12_endAll s m args below meth c H locs (xQv G true sz o) (XA G true sz) 138 ls [] := by
  unfold L_X12_endAll_138 at h
  refine lv_iinc (v := (v2 + 1)) (lv' := [(2, .int (v2 + 1)), (0, .ref (G.2.2 200 0)), (1, .int v1)]) X.1 X.2.1 dX12_endAll_138 hl (k := 2) rfl rfl (by decide) rfl (fun ls hl => ?_)
  refine lv_goto (tgt := 100) X.1 X.2.1 dX12_endAll_141 (by decide) ?_
  exact hk100 v1 (v2 + 1) S _ _ _ h hW  (lv_sub hl [1, 2, 0] rfl)
set_option maxRecDepth 100000 in
set_option maxHeartbeats 4000000 in
theorem w_X12_endAll_135 {p : Program} {l : Launch} {e : Env} {s : State} {m : MethodId} {args : Array Value} {below : List Frame} {meth : Method} {c : Code} {G : xG} {sz : Nat} {o : Unit × Mm} (X : xC G true sz p s m args c cX12_endAll 3 wsX12_endAll RX12 meth none) (v1 : Int32) (v2 : Int32)  (k100 : Int32 → Int32 → Mm → Option (Unit × Mm)) (hk100 : ∀ (v1 : Int32) (v2 : Int32) (S : Mm) (H : Heap) (locs : List Loc) (ls : Array Slot), k100 v1 v2 S = some o → xW G true sz s H locs S → lv_has ls 3 [(0, .ref (G.2.2 200 0)), (1, .int v1), (2, .int v2)] → wX p l e rmX12_endAll s m args below meth c H locs (xQv G true sz o) (XA G true sz) 100 ls []) {S : Mm} {H : Heap} {locs : List Loc} {ls : Array Slot} (hW : xW G true sz s H locs S) (hl : lv_has ls 3 [(0, .ref (G.2.2 200 0)), (1, .int v1), (2, .int v2)]) (h : L_X12_endAll_135 k100 v1 v2 S = some o) : wX p l e rmX12_endAll s m args below meth c H locs (xQv G true sz o) (XA G true sz) 135 ls [] := by
  unfold L_X12_endAll_135 at h
  refine lv_iinc (v := (v1 + 1)) (lv' := [(1, .int (v1 + 1)), (0, .ref (G.2.2 200 0)), (2, .int v2)]) X.1 X.2.1 dX12_endAll_135 hl (k := 1) rfl rfl (by decide) rfl (fun ls hl => ?_)
  exact w_X12_endAll_138 X (v1 + 1) v2  k100 hk100 hW (lv_sub hl [1, 0, 2] rfl) h
set_option maxRecDepth 100000 in
set_option maxHeartbeats 4000000 in
theorem w_X12_endAll_100 {p : Program} {l : Launch} {e : Env} {s : State} {m : MethodId} {args : Array Value} {below : List Frame} {meth : Method} {c : Code} {G : xG} {sz : Nat} {o : Unit × Mm} (X : xC G true sz p s m args c cX12_endAll 3 wsX12_endAll RX12 meth none)    : ∀ (n : Nat) (v1 : Int32) (v2 : Int32) (S : Mm) (H : Heap) (locs : List Loc) (ls : Array Slot), L_X12_endAll_100  n v1 v2 S = some o → xW G true sz s H locs S → lv_has ls 3 [(0, .ref (G.2.2 200 0)), (1, .int v1), (2, .int v2)] → wX p l e rmX12_endAll s m args below meth c H locs (xQv G true sz o) (XA G true sz) 100 ls [] := by
  intro n
  induction n with
  | zero =>
    intro v1 v2 S H locs ls h
    cases h
  | succ n ih =>
    intro v1 v2 S H locs ls h hW  hl
    rw [L_X12_endAll_100] at h
    refine lv_iload_n X.1 X.2.1 dX12_endAll_100 rfl (lv_at hl 2 rfl) ?_
    refine lv_aload_n X.1 X.2.1 dX12_endAll_101 rfl (lv_at hl 0 rfl) ?_
    refine x_getI X hW fd_Model_live (fun w h => List.mem_cons_of_mem _ (gin_X12 w h)) (List.mem_cons_of_mem _ gw1005) z_1 dX12_endAll_102 h (fun x16 h => ?_)
    refine x_icmp_ge X (tgt := 144) dX12_endAll_105 (by decide) h (fun h => ?_) (fun h => ?_)
    · refine lv_aload_n X.1 X.2.1 dX12_endAll_144 rfl (lv_at hl 0 rfl) ?_
      refine lv_iload_n X.1 X.2.1 dX12_endAll_145 rfl (lv_at hl 1 rfl) ?_
      refine x_putI X hW fd_Model_live (fun w h => List.mem_cons_of_mem _ (gin_X12 w h)) (List.mem_cons_of_mem _ gw1005) z_1 dX12_endAll_146 tyX12 tyX12_ok nmX12 rfl rfl rfl h (fun S17 H locs h hW => ?_)
      exact x_vret X hW h dX12_endAll_149
    · refine lv_aload_n X.1 X.2.1 dX12_endAll_108 rfl (lv_at hl 0 rfl) ?_
      refine x_getR X hW fd_Model_vLast (fun w h => List.mem_cons_of_mem _ (gin_X12 w h)) (List.mem_cons_of_mem _ gw215) z_1 dX12_endAll_109 ?_
      refine lv_iload_n X.1 X.2.1 dX12_endAll_112 rfl (lv_at hl 2 rfl) ?_
      refine x_iald X hW ar_261 dX12_endAll_113 h (fun x18 h => ?_)
      refine lv_aload_n X.1 X.2.1 dX12_endAll_114 rfl (lv_at hl 0 rfl) ?_
      refine x_getI X hW fd_Model_slot (fun w h => List.mem_cons_of_mem _ (gin_X12 w h)) (List.mem_cons_of_mem _ gw451) z_1 dX12_endAll_115 h (fun x19 h => ?_)
      refine x_icmp_ne X (tgt := 124) dX12_endAll_118 (by decide) h (fun h => ?_) (fun h => ?_)
      · refine lv_iload_n X.1 X.2.1 dX12_endAll_124 rfl (lv_at hl 1 rfl) ?_
        refine lv_iload_n X.1 X.2.1 dX12_endAll_125 rfl (lv_at hl 2 rfl) ?_
        refine x_icmp_eq X (tgt := 135) dX12_endAll_126 (by decide) h (fun h => ?_) (fun h => ?_)
        · exact w_X12_endAll_135 X v1 v2  (L_X12_endAll_100  n) ih hW (lv_sub hl [0, 1, 2] rfl) h
        · refine lv_aload_n X.1 X.2.1 dX12_endAll_129 rfl (lv_at hl 0 rfl) ?_
          refine lv_iload_n X.1 X.2.1 dX12_endAll_130 rfl (lv_at hl 2 rfl) ?_
          refine lv_iload_n X.1 X.2.1 dX12_endAll_131 rfl (lv_at hl 1 rfl) ?_
          obtain ⟨r20, S21, h22, h⟩ := cl_some h
          refine x_aftV X hW (x_runV (C := RX12) (a := G.2.2 200 0) (As := [.int v2, .int v1]) (rest := []) X hW (c_X12_moveLive l G X.2.2.2.2.2.2.2.2.2.1 _ S v2 v1 _ h22) (cwV 2 X.2.2.2.2.1 (gV gw1233 gw1234 gw1235 gw5 gw1236) rfl rfl rfl ⟨rfl, hd_X12_moveLive⟩ ⟨Nat.le_of_ble_eq_true rfl, Nat.le_of_ble_eq_true rfl⟩) (x_recv X hW ob_Model z_1) rfl hl.1 rfl (Nat.le_of_ble_eq_true rfl) dX12_endAll_132 ⟨Nat.zero_le _, Nat.zero_le _⟩) (fun H locs hW => ?_)
          exact w_X12_endAll_135 X v1 v2  (L_X12_endAll_100  n) ih hW (lv_sub hl [0, 1, 2] rfl) h
      · refine lv_goto (tgt := 138) X.1 X.2.1 dX12_endAll_121 (by decide) ?_
        exact w_X12_endAll_138 X v1 v2  (L_X12_endAll_100  n) ih hW (lv_sub hl [0, 1, 2] rfl) h
set_option maxRecDepth 100000 in
set_option maxHeartbeats 4000000 in
theorem w_X12_endAll_53 {p : Program} {l : Launch} {e : Env} {s : State} {m : MethodId} {args : Array Value} {below : List Frame} {meth : Method} {c : Code} {G : xG} {sz : Nat} {o : Unit × Mm} (X : xC G true sz p s m args c cX12_endAll 3 wsX12_endAll RX12 meth none)    : ∀ (n : Nat) (v1 : Int32) (S : Mm) (H : Heap) (locs : List Loc) (ls : Array Slot), L_X12_endAll_53  n v1 S = some o → xW G true sz s H locs S → lv_has ls 3 [(0, .ref (G.2.2 200 0)), (1, .int v1)] → wX p l e rmX12_endAll s m args below meth c H locs (xQv G true sz o) (XA G true sz) 53 ls [] := by
  intro n
  induction n with
  | zero =>
    intro v1 S H locs ls h
    cases h
  | succ n ih =>
    intro v1 S H locs ls h hW  hl
    rw [L_X12_endAll_53] at h
    refine lv_iload_n X.1 X.2.1 dX12_endAll_53 rfl (lv_at hl 1 rfl) ?_
    refine lv_aload_n X.1 X.2.1 dX12_endAll_54 rfl (lv_at hl 0 rfl) ?_
    refine x_getI X hW fd_Model_live (fun w h => List.mem_cons_of_mem _ (gin_X12 w h)) (List.mem_cons_of_mem _ gw1005) z_1 dX12_endAll_55 h (fun x9 h => ?_)
    refine x_icmp_ge X (tgt := 96) dX12_endAll_58 (by decide) h (fun h => ?_) (fun h => ?_)
    · refine lv_iconst (v := 0) X.1 X.2.1 dX12_endAll_96 rfl ?_
      refine lv_istore_n (lv' := [(1, .int 0), (0, .ref (G.2.2 200 0))]) X.1 X.2.1 dX12_endAll_97 rfl hl (by decide) rfl (fun ls hl => ?_)
      refine lv_iconst (v := 0) X.1 X.2.1 dX12_endAll_98 rfl ?_
      refine lv_istore_n (lv' := [(2, .int 0), (1, .int 0), (0, .ref (G.2.2 200 0))]) X.1 X.2.1 dX12_endAll_99 rfl hl (by decide) rfl (fun ls hl => ?_)
      exact w_X12_endAll_100 X    fu 0 0 S _ _ _ h hW  (lv_sub hl [2, 1, 0] rfl)
    · refine lv_aload_n X.1 X.2.1 dX12_endAll_61 rfl (lv_at hl 0 rfl) ?_
      refine x_getR X hW fd_Model_vSender (fun w h => List.mem_cons_of_mem _ (gin_X12 w h)) (List.mem_cons_of_mem _ gw214) z_1 dX12_endAll_62 ?_
      refine lv_iload_n X.1 X.2.1 dX12_endAll_65 rfl (lv_at hl 1 rfl) ?_
      refine x_iald X hW ar_260 dX12_endAll_66 h (fun x10 h => ?_)
      refine lv_bipush (v := 9) X.1 X.2.1 dX12_endAll_67 rfl ?_
      refine x_icmp_ne X (tgt := 90) dX12_endAll_69 (by decide) h (fun h => ?_) (fun h => ?_)
      · exact w_X12_endAll_90 X v1  (L_X12_endAll_53  n) ih hW (lv_sub hl [0, 1] rfl) h
      · refine lv_aload_n X.1 X.2.1 dX12_endAll_72 rfl (lv_at hl 0 rfl) ?_
        refine x_getR X hW fd_Model_vLast (fun w h => List.mem_cons_of_mem _ (gin_X12 w h)) (List.mem_cons_of_mem _ gw215) z_1 dX12_endAll_73 ?_
        refine lv_iload_n X.1 X.2.1 dX12_endAll_76 rfl (lv_at hl 1 rfl) ?_
        refine x_iald X hW ar_261 dX12_endAll_77 h (fun x11 h => ?_)
        refine lv_aload_n X.1 X.2.1 dX12_endAll_78 rfl (lv_at hl 0 rfl) ?_
        refine x_getI X hW fd_Model_slot (fun w h => List.mem_cons_of_mem _ (gin_X12 w h)) (List.mem_cons_of_mem _ gw451) z_1 dX12_endAll_79 h (fun x12 h => ?_)
        refine x_icmp_ne X (tgt := 90) dX12_endAll_82 (by decide) h (fun h => ?_) (fun h => ?_)
        · exact w_X12_endAll_90 X v1  (L_X12_endAll_53  n) ih hW (lv_sub hl [0, 1] rfl) h
        · refine lv_aload_n X.1 X.2.1 dX12_endAll_85 rfl (lv_at hl 0 rfl) ?_
          refine lv_iload_n X.1 X.2.1 dX12_endAll_86 rfl (lv_at hl 1 rfl) ?_
          obtain ⟨r13, S14, h15, h⟩ := cl_some h
          refine x_aftV X hW (x_runV (C := RX12) (a := G.2.2 200 0) (As := [.int v1]) (rest := []) X hW (c_X12_over l G X.2.2.2.2.2.2.2.2.2.1 _ S v1 _ h15) (cwV 1 X.2.2.2.2.1 (gV gw1093 gw1094 gw1095 gw5 gw1096) rfl rfl rfl ⟨rfl, hd_X12_over⟩ ⟨Nat.le_of_ble_eq_true rfl, Nat.le_of_ble_eq_true rfl⟩) (x_recv X hW ob_Model z_1) rfl hl.1 rfl (Nat.le_of_ble_eq_true rfl) dX12_endAll_87 ⟨Nat.zero_le _, Nat.zero_le _⟩) (fun H locs hW => ?_)
          exact w_X12_endAll_90 X v1  (L_X12_endAll_53  n) ih hW (lv_sub hl [0, 1] rfl) h
set_option maxRecDepth 100000 in
set_option maxHeartbeats 4000000 in
theorem w_X12_endAll_2 {p : Program} {l : Launch} {e : Env} {s : State} {m : MethodId} {args : Array Value} {below : List Frame} {meth : Method} {c : Code} {G : xG} {sz : Nat} {o : Unit × Mm} (X : xC G true sz p s m args c cX12_endAll 3 wsX12_endAll RX12 meth none)    : ∀ (n : Nat) (v1 : Int32) (S : Mm) (H : Heap) (locs : List Loc) (ls : Array Slot), L_X12_endAll_2  n v1 S = some o → xW G true sz s H locs S → lv_has ls 3 [(0, .ref (G.2.2 200 0)), (1, .int v1)] → wX p l e rmX12_endAll s m args below meth c H locs (xQv G true sz o) (XA G true sz) 2 ls [] := by
  intro n
  induction n with
  | zero =>
    intro v1 S H locs ls h
    cases h
  | succ n ih =>
    intro v1 S H locs ls h hW  hl
    rw [L_X12_endAll_2] at h
    refine lv_iload_n X.1 X.2.1 dX12_endAll_2 rfl (lv_at hl 1 rfl) ?_
    refine lv_bipush (v := 9) X.1 X.2.1 dX12_endAll_3 rfl ?_
    refine x_icmp_ge X (tgt := 51) dX12_endAll_5 (by decide) h (fun h => ?_) (fun h => ?_)
    · refine lv_iconst (v := 0) X.1 X.2.1 dX12_endAll_51 rfl ?_
      refine lv_istore_n (lv' := [(1, .int 0), (0, .ref (G.2.2 200 0))]) X.1 X.2.1 dX12_endAll_52 rfl hl (by decide) rfl (fun ls hl => ?_)
      exact w_X12_endAll_53 X    fu 0 S _ _ _ h hW  (lv_sub hl [1, 0] rfl)
    · refine lv_aload_n X.1 X.2.1 dX12_endAll_8 rfl (lv_at hl 0 rfl) ?_
      refine x_getR X hW fd_Model_sending (fun w h => List.mem_cons_of_mem _ (gin_X12 w h)) (List.mem_cons_of_mem _ gw208) z_1 dX12_endAll_9 ?_
      refine lv_iload_n X.1 X.2.1 dX12_endAll_12 rfl (lv_at hl 1 rfl) ?_
      refine x_iald X hW ar_254 dX12_endAll_13 h (fun x1 h => ?_)
      refine x_if_lt X (tgt := 45) dX12_endAll_14 (by decide) h (fun h => ?_) (fun h => ?_)
      · exact w_X12_endAll_45 X v1  (L_X12_endAll_2  n) ih hW (lv_sub hl [0, 1] rfl) h
      · refine lv_aload_n X.1 X.2.1 dX12_endAll_17 rfl (lv_at hl 0 rfl) ?_
        refine x_getR X hW fd_Model_vLast (fun w h => List.mem_cons_of_mem _ (gin_X12 w h)) (List.mem_cons_of_mem _ gw215) z_1 dX12_endAll_18 ?_
        refine lv_aload_n X.1 X.2.1 dX12_endAll_21 rfl (lv_at hl 0 rfl) ?_
        refine x_getR X hW fd_Model_sending (fun w h => List.mem_cons_of_mem _ (gin_X12 w h)) (List.mem_cons_of_mem _ gw208) z_1 dX12_endAll_22 ?_
        refine lv_iload_n X.1 X.2.1 dX12_endAll_25 rfl (lv_at hl 1 rfl) ?_
        refine x_iald X hW ar_254 dX12_endAll_26 h (fun x2 h => ?_)
        refine x_iald X hW ar_261 dX12_endAll_27 h (fun x3 h => ?_)
        refine lv_aload_n X.1 X.2.1 dX12_endAll_28 rfl (lv_at hl 0 rfl) ?_
        refine x_getI X hW fd_Model_slot (fun w h => List.mem_cons_of_mem _ (gin_X12 w h)) (List.mem_cons_of_mem _ gw451) z_1 dX12_endAll_29 h (fun x4 h => ?_)
        refine x_icmp_ne X (tgt := 45) dX12_endAll_32 (by decide) h (fun h => ?_) (fun h => ?_)
        · exact w_X12_endAll_45 X v1  (L_X12_endAll_2  n) ih hW (lv_sub hl [0, 1] rfl) h
        · refine lv_aload_n X.1 X.2.1 dX12_endAll_35 rfl (lv_at hl 0 rfl) ?_
          refine lv_aload_n X.1 X.2.1 dX12_endAll_36 rfl (lv_at hl 0 rfl) ?_
          refine x_getR X hW fd_Model_sending (fun w h => List.mem_cons_of_mem _ (gin_X12 w h)) (List.mem_cons_of_mem _ gw208) z_1 dX12_endAll_37 ?_
          refine lv_iload_n X.1 X.2.1 dX12_endAll_40 rfl (lv_at hl 1 rfl) ?_
          refine x_iald X hW ar_254 dX12_endAll_41 h (fun x5 h => ?_)
          obtain ⟨r6, S7, h8, h⟩ := cl_some h
          refine x_aftV X hW (x_runV (C := RX12) (a := G.2.2 200 0) (As := [.int x5]) (rest := []) X hW (c_X12_over l G X.2.2.2.2.2.2.2.2.2.1 _ S x5 _ h8) (cwV 1 X.2.2.2.2.1 (gV gw1093 gw1094 gw1095 gw5 gw1096) rfl rfl rfl ⟨rfl, hd_X12_over⟩ ⟨Nat.le_of_ble_eq_true rfl, Nat.le_of_ble_eq_true rfl⟩) (x_recv X hW ob_Model z_1) rfl hl.1 rfl (Nat.le_of_ble_eq_true rfl) dX12_endAll_42 ⟨Nat.zero_le _, Nat.zero_le _⟩) (fun H locs hW => ?_)
          exact w_X12_endAll_45 X v1  (L_X12_endAll_2  n) ih hW (lv_sub hl [0, 1] rfl) h
set_option maxRecDepth 100000 in
set_option maxHeartbeats 4000000 in
theorem w_X12_endAll_0 {p : Program} {l : Launch} {e : Env} {s : State} {m : MethodId} {args : Array Value} {below : List Frame} {meth : Method} {c : Code} {G : xG} {sz : Nat} {o : Unit × Mm} (X : xC G true sz p s m args c cX12_endAll 3 wsX12_endAll RX12 meth none)  {S : Mm} {H : Heap} {locs : List Loc} {ls : Array Slot} (hW : xW G true sz s H locs S) (hl : lv_has ls 3 [(0, .ref (G.2.2 200 0))]) (h : F_X12_endAll  S = some o) : wX p l e rmX12_endAll s m args below meth c H locs (xQv G true sz o) (XA G true sz) 0 ls [] := by
  unfold F_X12_endAll at h
  refine lv_iconst (v := 0) X.1 X.2.1 dX12_endAll_0 rfl ?_
  refine lv_istore_n (lv' := [(1, .int 0), (0, .ref (G.2.2 200 0))]) X.1 X.2.1 dX12_endAll_1 rfl hl (by decide) rfl (fun ls hl => ?_)
  exact w_X12_endAll_2 X    fu 0 S _ _ _ h hW  (lv_sub hl [1, 0] rfl)
theorem c_X12_endAll (l : Launch) (G : xG) (hD : xD G true) (sz : Nat) (S : Mm)  (o : Unit × Mm) (h : F_X12_endAll  S = some o) : Met l yX12_endAll wsX12_endAll rmX12_endAll (xPre G true S sz [.ref (G.2.2 200 0)]) (xQv G true sz o) 0 0 (XA G true sz) :=
  x_start hD (by decide) rfl (Nat.le_of_ble_eq_true rfl) (fun p e s m below meth c X hW ls hl => w_X12_endAll_0 X  hW hl h)
