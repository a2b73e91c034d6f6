/-! WirelessCellModel.whole(III)V -/
def rmX12_whole : Room := { frames := 3, cells := 0, slots := 0, locals := 68 }
def L_X12_whole_215  (v2 : Int32) (v4 : Int32) (v5 : Int32) (v7 : Int32) : Nat → Int32 → Mm → Option (Unit × Mm)
  | 0, _, _ => none
  | n + 1, v8, S => 
    if v5 ≤ v8 then (
    cl (F_X12_enqueue 0 8 v7 v2 (-1) S) fun r22 S23 =>
    some ((), S23))
    else (
    ldA S 232 0 3744 1 (v4 + v8) fun x25 =>
    stA S 253 0 208 1 v8 x25 fun S26 =>
    (L_X12_whole_215 v2 v4 v5 v7 n) (v8 + 1) S26)
def L_X12_whole_132  (v2 : Int32) (v3 : Int32) (v4 : Int32) (v5 : Int32) (s0 : Int32) (S : Mm) : Option (Unit × Mm) :=
  cl (F_X12_nodeAt 16 S) fun r11 S12 =>
  if s0 = 0 then (
  some ((), S12))
  else (
  if 0 ≤ r11 then (
  if v3 ≤ 0 then (
  if r11 = 0 then (
  cl (F_X12_deliver 0 v2 v4 v5 S12) fun r16 S17 =>
  some ((), S17))
  else (
  if r11 = v2 then (
  some ((), S12))
  else (
  ldA S12 219 0 9 1 r11 fun x14 =>
  if x14 = 4 then (
  pf S12 297 0 v5 fun S15 =>
  L_X12_whole_215  v2 v4 v5 r11 fu 0 S15)
  else (
  some ((), S12)))))
  else (
  cl (F_X12_deliver v3 r11 v4 v5 S12) fun r19 S20 =>
  some ((), S20)))
  else (
  some ((), S12)))
def L_X12_whole_131  (v2 : Int32) (v3 : Int32) (v4 : Int32) (v5 : Int32) (S : Mm) : Option (Unit × Mm) :=
  L_X12_whole_132  v2 v3 v4 v5 0 S
def F_X12_whole (v1 : Int32) (v2 : Int32) (v3 : Int32) (S : Mm) : Option (Unit × Mm) :=
  tp (208 * v1) fun x1 =>
  ldA S 231 0 18 1 v1 fun x2 =>
  if x2 < 8 then (
  L_X12_whole_131  v2 v3 x1 x2 S)
  else (
  ldA S 232 0 3744 1 x1 fun x3 =>
  if x3 = 170 then (
  ldA S 232 0 3744 1 (x1 + 1) fun x4 =>
  if x4 = 170 then (
  ldA S 232 0 3744 1 (x1 + 2) fun x5 =>
  if x5 = 3 then (
  ldA S 232 0 3744 1 (x1 + 3) fun x6 =>
  if x6 = 0 then (
  ldA S 232 0 3744 1 (x1 + 4) fun x7 =>
  if x7 = 0 then (
  ldA S 232 0 3744 1 (x1 + 5) fun x8 =>
  if x8 = 0 then (
  ldA S 232 0 3744 1 (x1 + 6) fun x9 =>
  if x9 = 8 then (
  ldA S 232 0 3744 1 (x1 + 7) fun x10 =>
  if x10 = 0 then (
  L_X12_whole_132  v2 v3 x1 x2 1 S)
  else (
  L_X12_whole_131  v2 v3 x1 x2 S))
  else (
  L_X12_whole_131  v2 v3 x1 x2 S))
  else (
  L_X12_whole_131  v2 v3 x1 x2 S))
  else (
  L_X12_whole_131  v2 v3 x1 x2 S))
  else (
  L_X12_whole_131  v2 v3 x1 x2 S))
  else (
  L_X12_whole_131  v2 v3 x1 x2 S))
  else (
  L_X12_whole_131  v2 v3 x1 x2 S))
  else (
  L_X12_whole_131  v2 v3 x1 x2 S))
set_option maxRecDepth 100000 in
set_option maxHeartbeats 4000000 in
theorem w_X12_whole_215 {p : Program} {l : Launch} {e : Env} {s : State} {m : MethodId} {args : Array Value} {below : List Frame} {meth : Method} {c : Code} {G : xG} {sz : Nat} {o : Unit × Mm} (X : xC G true sz p s m args c cX12_whole 9 wsX12_whole RX12 meth none) (v2 : Int32) (v4 : Int32) (v5 : Int32) (v7 : Int32)   : ∀ (n : Nat) (v8 : Int32) (S : Mm) (H : Heap) (locs : List Loc) (ls : Array Slot), L_X12_whole_215 v2 v4 v5 v7 n v8 S = some o → xW G true sz s H locs S → lv_has ls 9 [(0, .ref (G.2.2 200 0)), (2, .int v2), (4, .int v4), (5, .int v5), (7, .int v7), (8, .int v8)] → wX p l e rmX12_whole s m args below meth c H locs (xQv G true sz o) (XA G true sz) 215 ls [] := by
  intro n
  induction n with
  | zero =>
    intro v8 S H locs ls h
    cases h
  | succ n ih =>
    intro v8 S H locs ls h hW  hl
    rw [L_X12_whole_215] at h
    refine lv_iload X.1 X.2.1 dX12_whole_215 (lv_at hl 5 rfl) ?_
    refine lv_iload X.1 X.2.1 dX12_whole_217 (lv_at hl 3 rfl) ?_
    refine x_icmp_ge X (tgt := 245) dX12_whole_219 (by decide) h (fun h => ?_) (fun h => ?_)
    · refine lv_aload_n X.1 X.2.1 dX12_whole_245 rfl (lv_at hl 0 rfl) ?_
      refine lv_iconst (v := 0) X.1 X.2.1 dX12_whole_246 rfl ?_
      refine lv_bipush (v := 8) X.1 X.2.1 dX12_whole_247 rfl ?_
      refine lv_iload X.1 X.2.1 dX12_whole_249 (lv_at hl 4 rfl) ?_
      refine lv_iload_n X.1 X.2.1 dX12_whole_251 rfl (lv_at hl 1 rfl) ?_
      refine lv_iconst (v := (-1)) X.1 X.2.1 dX12_whole_252 rfl ?_
      obtain ⟨r22, S23, h24, h⟩ := cl_some h
      refine x_aftV X hW (x_runV (C := RX12) (a := G.2.2 200 0) (As := [.int 0, .int 8, .int v7, .int v2, .int (-1)]) (rest := []) X hW (c_X12_enqueue l G X.2.2.2.2.2.2.2.2.2.1 _ S 0 8 v7 v2 (-1) _ h24) (cwV 5 X.2.2.2.2.1 (gV gw534 gw535 gw536 gw5 gw537) rfl rfl rfl ⟨rfl, hd_X12_enqueue⟩ ⟨Nat.le_of_ble_eq_true rfl, Nat.le_of_ble_eq_true rfl⟩) (x_recv X hW ob_Model z_1) rfl hl.1 rfl (Nat.le_of_ble_eq_true rfl) dX12_whole_253 ⟨Nat.zero_le _, Nat.zero_le _⟩) (fun H locs hW => ?_)
      exact x_vret X hW h dX12_whole_256
    · refine lv_aload_n X.1 X.2.1 dX12_whole_222 rfl (lv_at hl 0 rfl) ?_
      refine x_getR X hW fd_Model_message (fun w h => List.mem_cons_of_mem _ (gin_X12 w h)) (List.mem_cons_of_mem _ gw206) z_1 dX12_whole_223 ?_
      refine lv_iload X.1 X.2.1 dX12_whole_226 (lv_at hl 5 rfl) ?_
      refine lv_aload_n X.1 X.2.1 dX12_whole_228 rfl (lv_at hl 0 rfl) ?_
      refine x_getR X hW fd_Model_begunBytes (fun w h => List.mem_cons_of_mem _ (gin_X12 w h)) (List.mem_cons_of_mem _ gw183) z_1 dX12_whole_229 ?_
      refine lv_iload X.1 X.2.1 dX12_whole_232 (lv_at hl 2 rfl) ?_
      refine lv_iload X.1 X.2.1 dX12_whole_234 (lv_at hl 5 rfl) ?_
      refine lv_iadd X.1 X.2.1 dX12_whole_236 ?_
      refine x_iald X hW ar_232 dX12_whole_237 h (fun x25 h => ?_)
      refine x_iast X hW ar_253 dX12_whole_238 h (fun S26 H locs h hW => ?_)
      refine lv_iinc (v := (v8 + 1)) (lv' := [(8, .int (v8 + 1)), (0, .ref (G.2.2 200 0)), (2, .int v2), (4, .int v4), (5, .int v5), (7, .int v7)]) X.1 X.2.1 dX12_whole_239 hl (k := 5) rfl rfl (by decide) rfl (fun ls hl => ?_)
      refine lv_goto (tgt := 215) X.1 X.2.1 dX12_whole_242 (by decide) ?_
      exact ih (v8 + 1) S26 _ _ _ h hW  (lv_sub hl [1, 2, 3, 4, 5, 0] rfl)
set_option maxRecDepth 100000 in
set_option maxHeartbeats 4000000 in
theorem w_X12_whole_132 {p : Program} {l : Launch} {e : Env} {s : State} {m : MethodId} {args : Array Value} {below : List Frame} {meth : Method} {c : Code} {G : xG} {sz : Nat} {o : Unit × Mm} (X : xC G true sz p s m args c cX12_whole 9 wsX12_whole RX12 meth none) (v2 : Int32) (v3 : Int32) (v4 : Int32) (v5 : Int32) (s0 : Int32)   {S : Mm} {H : Heap} {locs : List Loc} {ls : Array Slot} (hW : xW G true sz s H locs S) (hl : lv_has ls 9 [(0, .ref (G.2.2 200 0)), (2, .int v2), (3, .int v3), (4, .int v4), (5, .int v5)]) (h : L_X12_whole_132  v2 v3 v4 v5 s0 S = some o) : wX p l e rmX12_whole s m args below meth c H locs (xQv G true sz o) (XA G true sz) 132 ls [.int s0] := by
  unfold L_X12_whole_132 at h
  refine lv_istore (lv' := [(6, .int s0), (0, .ref (G.2.2 200 0)), (2, .int v2), (3, .int v3), (4, .int v4), (5, .int v5)]) X.1 X.2.1 dX12_whole_132 hl (by decide) rfl (fun ls hl => ?_)
  refine lv_aload_n X.1 X.2.1 dX12_whole_134 rfl (lv_at hl 1 rfl) ?_
  refine lv_bipush (v := 16) X.1 X.2.1 dX12_whole_135 rfl ?_
  obtain ⟨r11, S12, h13, h⟩ := cl_some h
  refine x_aftI X hW (x_runV (C := RX12) (a := G.2.2 200 0) (As := [.int 16]) (rest := []) X hW (c_X12_nodeAt l G X.2.2.2.2.2.2.2.2.2.1 _ S 16 _ h13) (cwV 1 X.2.2.2.2.1 (gV gw1111 gw1112 gw1113 gw5 gw1114) rfl rfl rfl ⟨rfl, hd_X12_nodeAt⟩ ⟨Nat.le_of_ble_eq_true rfl, Nat.le_of_ble_eq_true rfl⟩) (x_recv X hW ob_Model z_1) rfl hl.1 rfl (Nat.le_of_ble_eq_true rfl) dX12_whole_137 ⟨Nat.zero_le _, Nat.zero_le _⟩) (fun H locs hW => ?_)
  refine lv_istore (lv' := [(7, .int r11), (6, .int s0), (0, .ref (G.2.2 200 0)), (2, .int v2), (3, .int v3), (4, .int v4), (5, .int v5)]) X.1 X.2.1 dX12_whole_140 hl (by decide) rfl (fun ls hl => ?_)
  refine lv_iload X.1 X.2.1 dX12_whole_142 (lv_at hl 1 rfl) ?_
  refine x_if_eq X (tgt := 152) dX12_whole_144 (by decide) h (fun h => ?_) (fun h => ?_)
  · exact x_vret X hW h dX12_whole_152
  · refine lv_iload X.1 X.2.1 dX12_whole_147 (lv_at hl 0 rfl) ?_
    refine x_if_ge X (tgt := 153) dX12_whole_149 (by decide) h (fun h => ?_) (fun h => ?_)
    · refine lv_iload_n X.1 X.2.1 dX12_whole_153 rfl (lv_at hl 4 rfl) ?_
      refine x_if_le X (tgt := 171) dX12_whole_154 (by decide) h (fun h => ?_) (fun h => ?_)
      · refine lv_iload X.1 X.2.1 dX12_whole_171 (lv_at hl 0 rfl) ?_
        refine x_if_ne X (tgt := 189) dX12_whole_173 (by decide) h (fun h => ?_) (fun h => ?_)
        · refine lv_iload X.1 X.2.1 dX12_whole_189 (lv_at hl 0 rfl) ?_
          refine lv_iload_n X.1 X.2.1 dX12_whole_191 rfl (lv_at hl 3 rfl) ?_
          refine x_icmp_eq X (tgt := 256) dX12_whole_192 (by decide) h (fun h => ?_) (fun h => ?_)
          · exact x_vret X hW h dX12_whole_256
          · refine lv_aload_n X.1 X.2.1 dX12_whole_195 rfl (lv_at hl 2 rfl) ?_
            refine x_getR X hW fd_Model_asState (fun w h => List.mem_cons_of_mem _ (gin_X12 w h)) (List.mem_cons_of_mem _ gw169) z_1 dX12_whole_196 ?_
            refine lv_iload X.1 X.2.1 dX12_whole_199 (lv_at hl 0 rfl) ?_
            refine x_iald X hW ar_219 dX12_whole_201 h (fun x14 h => ?_)
            refine lv_iconst (v := 4) X.1 X.2.1 dX12_whole_202 rfl ?_
            refine x_icmp_ne X (tgt := 256) dX12_whole_203 (by decide) h (fun h => ?_) (fun h => ?_)
            · exact x_vret X hW h dX12_whole_256
            · refine lv_aload_n X.1 X.2.1 dX12_whole_206 rfl (lv_at hl 2 rfl) ?_
              refine lv_iload X.1 X.2.1 dX12_whole_207 (lv_at hl 6 rfl) ?_
              refine x_putI X hW fd_Model_length (fun w h => List.mem_cons_of_mem _ (gin_X12 w h)) (List.mem_cons_of_mem _ gw525) z_1 dX12_whole_209 tyX12 tyX12_ok nmX12 rfl rfl rfl h (fun S15 H locs h hW => ?_)
              refine lv_iconst (v := 0) X.1 X.2.1 dX12_whole_212 rfl ?_
              refine lv_istore (lv' := [(8, .int 0), (7, .int r11), (6, .int s0), (0, .ref (G.2.2 200 0)), (2, .int v2), (3, .int v3), (4, .int v4), (5, .int v5)]) X.1 X.2.1 dX12_whole_213 hl (by decide) rfl (fun ls hl => ?_)
              exact w_X12_whole_215 X v2 v4 v5 r11   fu 0 S15 _ _ _ h hW  (lv_sub hl [3, 4, 6, 7, 1, 0] rfl)
        · refine lv_aload_n X.1 X.2.1 dX12_whole_176 rfl (lv_at hl 2 rfl) ?_
          refine lv_iconst (v := 0) X.1 X.2.1 dX12_whole_177 rfl ?_
          refine lv_iload_n X.1 X.2.1 dX12_whole_178 rfl (lv_at hl 3 rfl) ?_
          refine lv_iload X.1 X.2.1 dX12_whole_179 (lv_at hl 5 rfl) ?_
          refine lv_iload X.1 X.2.1 dX12_whole_181 (lv_at hl 6 rfl) ?_
          obtain ⟨r16, S17, h18, h⟩ := cl_some h
          refine x_aftV X hW (x_runV (C := RX12) (a := G.2.2 200 0) (As := [.int 0, .int v2, .int v4, .int v5]) (rest := []) X hW (c_X12_deliver l G X.2.2.2.2.2.2.2.2.2.1 _ S12 0 v2 v4 v5 _ h18) (cwV 4 X.2.2.2.2.1 (gV gw1185 gw1186 gw1187 gw5 gw1188) rfl rfl rfl ⟨rfl, hd_X12_deliver⟩ ⟨Nat.le_of_ble_eq_true rfl, Nat.le_of_ble_eq_true rfl⟩) (x_recv X hW ob_Model z_1) rfl hl.1 rfl (Nat.le_of_ble_eq_true rfl) dX12_whole_183 ⟨Nat.zero_le _, Nat.zero_le _⟩) (fun H locs hW => ?_)
          refine lv_goto (tgt := 256) X.1 X.2.1 dX12_whole_186 (by decide) ?_
          exact x_vret X hW h dX12_whole_256
      · refine lv_aload_n X.1 X.2.1 dX12_whole_157 rfl (lv_at hl 2 rfl) ?_
        refine lv_iload_n X.1 X.2.1 dX12_whole_158 rfl (lv_at hl 4 rfl) ?_
        refine lv_iload X.1 X.2.1 dX12_whole_159 (lv_at hl 0 rfl) ?_
        refine lv_iload X.1 X.2.1 dX12_whole_161 (lv_at hl 5 rfl) ?_
        refine lv_iload X.1 X.2.1 dX12_whole_163 (lv_at hl 6 rfl) ?_
        obtain ⟨r19, S20, h21, h⟩ := cl_some h
        refine x_aftV X hW (x_runV (C := RX12) (a := G.2.2 200 0) (As := [.int v3, .int r11, .int v4, .int v5]) (rest := []) X hW (c_X12_deliver l G X.2.2.2.2.2.2.2.2.2.1 _ S12 v3 r11 v4 v5 _ h21) (cwV 4 X.2.2.2.2.1 (gV gw1185 gw1186 gw1187 gw5 gw1188) rfl rfl rfl ⟨rfl, hd_X12_deliver⟩ ⟨Nat.le_of_ble_eq_true rfl, Nat.le_of_ble_eq_true rfl⟩) (x_recv X hW ob_Model z_1) rfl hl.1 rfl (Nat.le_of_ble_eq_true rfl) dX12_whole_165 ⟨Nat.zero_le _, Nat.zero_le _⟩) (fun H locs hW => ?_)
        refine lv_goto (tgt := 256) X.1 X.2.1 dX12_whole_168 (by decide) ?_
        exact x_vret X hW h dX12_whole_256
    · exact x_vret X hW h dX12_whole_152
set_option maxRecDepth 100000 in
set_option maxHeartbeats 4000000 in
theorem w_X12_whole_131 {p : Program} {l : Launch} {e : Env} {s : State} {m : MethodId} {args : Array Value} {below : List Frame} {meth : Method} {c : Code} {G : xG} {sz : Nat} {o : Unit × Mm} (X : xC G true sz p s m args c cX12_whole 9 wsX12_whole RX12 meth none) (v2 : Int32) (v3 : Int32) (v4 : Int32) (v5 : Int32)   {S : Mm} {H : Heap} {locs : List Loc} {ls : Array Slot} (hW : xW G true sz s H locs S) (hl : lv_has ls 9 [(0, .ref (G.2.2 200 0)), (2, .int v2), (3, .int v3), (4, .int v4), (5, .int v5)]) (h : L_X12_whole_131  v2 v3 v4 v5 S = some o) : wX p l e rmX12_whole s m args below meth c H locs (xQv G true sz o) (XA G true sz) 131 ls [] := by
  unfold L_X12_whole_131 at h
  refine lv_iconst (v := 0) X.1 X.2.1 dX12_whole_131 rfl ?_
  exact w_X12_whole_132 X v2 v3 v4 v5 0   hW (lv_sub hl [0, 1, 2, 3, 4] rfl) h
set_option maxRecDepth 100000 in
set_option maxHeartbeats 4000000 in
theorem w_X12_whole_0 {p : Program} {l : Launch} {e : Env} {s : State} {m : MethodId} {args : Array Value} {below : List Frame} {meth : Method} {c : Code} {G : xG} {sz : Nat} {o : Unit × Mm} (X : xC G true sz p s m args c cX12_whole 9 wsX12_whole RX12 meth none) (v1 : Int32) (v2 : Int32) (v3 : Int32) {S : Mm} {H : Heap} {locs : List Loc} {ls : Array Slot} (hW : xW G true sz s H locs S) (hl : lv_has ls 9 [(0, .ref (G.2.2 200 0)), (1, .int v1), (2, .int v2), (3, .int v3)]) (h : F_X12_whole v1 v2 v3 S = some o) : wX p l e rmX12_whole s m args below meth c H locs (xQv G true sz o) (XA G true sz) 0 ls [] := by
  unfold F_X12_whole at h
  refine lv_sipush (v := 208) X.1 X.2.1 dX12_whole_0 rfl ?_
  refine lv_iload_n X.1 X.2.1 dX12_whole_3 rfl (lv_at hl 1 rfl) ?_
  refine lv_imul X.1 X.2.1 dX12_whole_4 ?_
  refine x_top h (fun x1 h => ?_)
  refine lv_istore (lv' := [(4, .int x1), (0, .ref (G.2.2 200 0)), (1, .int v1), (2, .int v2), (3, .int v3)]) X.1 X.2.1 dX12_whole_5 hl (by decide) rfl (fun ls hl => ?_)
  refine lv_aload_n X.1 X.2.1 dX12_whole_7 rfl (lv_at hl 1 rfl) ?_
  refine x_getR X hW fd_Model_begunLen (fun w h => List.mem_cons_of_mem _ (gin_X12 w h)) (List.mem_cons_of_mem _ gw182) z_1 dX12_whole_8 ?_
  refine lv_iload_n X.1 X.2.1 dX12_whole_11 rfl (lv_at hl 2 rfl) ?_
  refine x_iald X hW ar_231 dX12_whole_12 h (fun x2 h => ?_)
  refine lv_istore (lv' := [(5, .int x2), (4, .int x1), (0, .ref (G.2.2 200 0)), (1, .int v1), (2, .int v2), (3, .int v3)]) X.1 X.2.1 dX12_whole_13 hl (by decide) rfl (fun ls hl => ?_)
  refine lv_iload X.1 X.2.1 dX12_whole_15 (lv_at hl 0 rfl) ?_
  refine lv_bipush (v := 8) X.1 X.2.1 dX12_whole_17 rfl ?_
  refine x_icmp_lt X (tgt := 131) dX12_whole_19 (by decide) h (fun h => ?_) (fun h => ?_)
  · exact w_X12_whole_131 X v2 v3 x1 x2   hW (lv_sub hl [2, 4, 5, 1, 0] rfl) h
  · refine lv_aload_n X.1 X.2.1 dX12_whole_22 rfl (lv_at hl 2 rfl) ?_
    refine x_getR X hW fd_Model_begunBytes (fun w h => List.mem_cons_of_mem _ (gin_X12 w h)) (List.mem_cons_of_mem _ gw183) z_1 dX12_whole_23 ?_
    refine lv_iload X.1 X.2.1 dX12_whole_26 (lv_at hl 1 rfl) ?_
    refine x_iald X hW ar_232 dX12_whole_28 h (fun x3 h => ?_)
    refine lv_sipush (v := 170) X.1 X.2.1 dX12_whole_29 rfl ?_
    refine x_icmp_ne X (tgt := 131) dX12_whole_32 (by decide) h (fun h => ?_) (fun h => ?_)
    · exact w_X12_whole_131 X v2 v3 x1 x2   hW (lv_sub hl [2, 4, 5, 1, 0] rfl) h
    · refine lv_aload_n X.1 X.2.1 dX12_whole_35 rfl (lv_at hl 2 rfl) ?_
      refine x_getR X hW fd_Model_begunBytes (fun w h => List.mem_cons_of_mem _ (gin_X12 w h)) (List.mem_cons_of_mem _ gw183) z_1 dX12_whole_36 ?_
      refine lv_iload X.1 X.2.1 dX12_whole_39 (lv_at hl 1 rfl) ?_
      refine lv_iconst (v := 1) X.1 X.2.1 dX12_whole_41 rfl ?_
      refine lv_iadd X.1 X.2.1 dX12_whole_42 ?_
      refine x_iald X hW ar_232 dX12_whole_43 h (fun x4 h => ?_)
      refine lv_sipush (v := 170) X.1 X.2.1 dX12_whole_44 rfl ?_
      refine x_icmp_ne X (tgt := 131) dX12_whole_47 (by decide) h (fun h => ?_) (fun h => ?_)
      · exact w_X12_whole_131 X v2 v3 x1 x2   hW (lv_sub hl [2, 4, 5, 1, 0] rfl) h
      · refine lv_aload_n X.1 X.2.1 dX12_whole_50 rfl (lv_at hl 2 rfl) ?_
        refine x_getR X hW fd_Model_begunBytes (fun w h => List.mem_cons_of_mem _ (gin_X12 w h)) (List.mem_cons_of_mem _ gw183) z_1 dX12_whole_51 ?_
        refine lv_iload X.1 X.2.1 dX12_whole_54 (lv_at hl 1 rfl) ?_
        refine lv_iconst (v := 2) X.1 X.2.1 dX12_whole_56 rfl ?_
        refine lv_iadd X.1 X.2.1 dX12_whole_57 ?_
        refine x_iald X hW ar_232 dX12_whole_58 h (fun x5 h => ?_)
        refine lv_iconst (v := 3) X.1 X.2.1 dX12_whole_59 rfl ?_
        refine x_icmp_ne X (tgt := 131) dX12_whole_60 (by decide) h (fun h => ?_) (fun h => ?_)
        · exact w_X12_whole_131 X v2 v3 x1 x2   hW (lv_sub hl [2, 4, 5, 1, 0] rfl) h
        · refine lv_aload_n X.1 X.2.1 dX12_whole_63 rfl (lv_at hl 2 rfl) ?_
          refine x_getR X hW fd_Model_begunBytes (fun w h => List.mem_cons_of_mem _ (gin_X12 w h)) (List.mem_cons_of_mem _ gw183) z_1 dX12_whole_64 ?_
          refine lv_iload X.1 X.2.1 dX12_whole_67 (lv_at hl 1 rfl) ?_
          refine lv_iconst (v := 3) X.1 X.2.1 dX12_whole_69 rfl ?_
          refine lv_iadd X.1 X.2.1 dX12_whole_70 ?_
          refine x_iald X hW ar_232 dX12_whole_71 h (fun x6 h => ?_)
          refine x_if_ne X (tgt := 131) dX12_whole_72 (by decide) h (fun h => ?_) (fun h => ?_)
          · exact w_X12_whole_131 X v2 v3 x1 x2   hW (lv_sub hl [2, 4, 5, 1, 0] rfl) h
          · refine lv_aload_n X.1 X.2.1 dX12_whole_75 rfl (lv_at hl 2 rfl) ?_
            refine x_getR X hW fd_Model_begunBytes (fun w h => List.mem_cons_of_mem _ (gin_X12 w h)) (List.mem_cons_of_mem _ gw183) z_1 dX12_whole_76 ?_
            refine lv_iload X.1 X.2.1 dX12_whole_79 (lv_at hl 1 rfl) ?_
            refine lv_iconst (v := 4) X.1 X.2.1 dX12_whole_81 rfl ?_
            refine lv_iadd X.1 X.2.1 dX12_whole_82 ?_
            refine x_iald X hW ar_232 dX12_whole_83 h (fun x7 h => ?_)
            refine x_if_ne X (tgt := 131) dX12_whole_84 (by decide) h (fun h => ?_) (fun h => ?_)
            · exact w_X12_whole_131 X v2 v3 x1 x2   hW (lv_sub hl [2, 4, 5, 1, 0] rfl) h
            · refine lv_aload_n X.1 X.2.1 dX12_whole_87 rfl (lv_at hl 2 rfl) ?_
              refine x_getR X hW fd_Model_begunBytes (fun w h => List.mem_cons_of_mem _ (gin_X12 w h)) (List.mem_cons_of_mem _ gw183) z_1 dX12_whole_88 ?_
              refine lv_iload X.1 X.2.1 dX12_whole_91 (lv_at hl 1 rfl) ?_
              refine lv_iconst (v := 5) X.1 X.2.1 dX12_whole_93 rfl ?_
              refine lv_iadd X.1 X.2.1 dX12_whole_94 ?_
              refine x_iald X hW ar_232 dX12_whole_95 h (fun x8 h => ?_)
              refine x_if_ne X (tgt := 131) dX12_whole_96 (by decide) h (fun h => ?_) (fun h => ?_)
              · exact w_X12_whole_131 X v2 v3 x1 x2   hW (lv_sub hl [2, 4, 5, 1, 0] rfl) h
              · refine lv_aload_n X.1 X.2.1 dX12_whole_99 rfl (lv_at hl 2 rfl) ?_
                refine x_getR X hW fd_Model_begunBytes (fun w h => List.mem_cons_of_mem _ (gin_X12 w h)) (List.mem_cons_of_mem _ gw183) z_1 dX12_whole_100 ?_
                refine lv_iload X.1 X.2.1 dX12_whole_103 (lv_at hl 1 rfl) ?_
                refine lv_bipush (v := 6) X.1 X.2.1 dX12_whole_105 rfl ?_
                refine lv_iadd X.1 X.2.1 dX12_whole_107 ?_
                refine x_iald X hW ar_232 dX12_whole_108 h (fun x9 h => ?_)
                refine lv_bipush (v := 8) X.1 X.2.1 dX12_whole_109 rfl ?_
                refine x_icmp_ne X (tgt := 131) dX12_whole_111 (by decide) h (fun h => ?_) (fun h => ?_)
                · exact w_X12_whole_131 X v2 v3 x1 x2   hW (lv_sub hl [2, 4, 5, 1, 0] rfl) h
                · refine lv_aload_n X.1 X.2.1 dX12_whole_114 rfl (lv_at hl 2 rfl) ?_
                  refine x_getR X hW fd_Model_begunBytes (fun w h => List.mem_cons_of_mem _ (gin_X12 w h)) (List.mem_cons_of_mem _ gw183) z_1 dX12_whole_115 ?_
                  refine lv_iload X.1 X.2.1 dX12_whole_118 (lv_at hl 1 rfl) ?_
                  refine lv_bipush (v := 7) X.1 X.2.1 dX12_whole_120 rfl ?_
                  refine lv_iadd X.1 X.2.1 dX12_whole_122 ?_
                  refine x_iald X hW ar_232 dX12_whole_123 h (fun x10 h => ?_)
                  refine x_if_ne X (tgt := 131) dX12_whole_124 (by decide) h (fun h => ?_) (fun h => ?_)
                  · exact w_X12_whole_131 X v2 v3 x1 x2   hW (lv_sub hl [2, 4, 5, 1, 0] rfl) h
                  · refine lv_iconst (v := 1) X.1 X.2.1 dX12_whole_127 rfl ?_
                    refine lv_goto (tgt := 132) X.1 X.2.1 dX12_whole_128 (by decide) ?_
                    exact w_X12_whole_132 X v2 v3 x1 x2 1   hW (lv_sub hl [2, 4, 5, 1, 0] rfl) h
theorem c_X12_whole (l : Launch) (G : xG) (hD : xD G true) (sz : Nat) (S : Mm) (v1 : Int32) (v2 : Int32) (v3 : Int32) (o : Unit × Mm) (h : F_X12_whole v1 v2 v3 S = some o) : Met l yX12_whole wsX12_whole rmX12_whole (xPre G true S sz [.ref (G.2.2 200 0), .int v1, .int v2, .int v3]) (xQv G true sz o) 0 0 (XA G true sz) :=
  x_start hD (by decide) rfl (Nat.le_of_ble_eq_true rfl) (fun p e s m below meth c X hW ls hl => w_X12_whole_0 X v1 v2 v3 hW hl h)

/-! WirelessCellModel.opens(II)V -/
def rmX12_opens : Room := { frames := 5, cells := 0, slots := 0, locals := 122 }
def L_X12_opens_184  (v1 : Int32) (v2 : Int32) (v3 : Int32) (v4 : Int32) : Nat → Int32 → Mm → Option (Unit × Mm)
  | 0, _, _ => none
  | n + 1, v8, S => 
    if v4 ≤ v8 then (
    ldA S 231 0 18 1 v1 fun x23 =>
    stA S 231 0 18 1 v1 (x23 + v4) fun S24 =>
    ldA S24 230 0 18 1 v1 fun x25 =>
    stA S24 230 0 18 1 v1 (x25 + 1) fun S26 =>
    ldA S26 278 0 300 1 1 fun x27 =>
    if (x27 &&& 4) = 0 then (
    stA S26 228 0 18 1 v1 (0 &&& 1) fun S28 =>
    cl (F_X12_whole v1 v2 v3 S28) fun r29 S30 =>
    some ((), S30))
    else (
    some ((), S26)))
    else (
    ldA S 231 0 18 1 v1 fun x32 =>
    ldA S 283 0 300 1 v8 fun x33 =>
    stA S 232 0 3744 1 (((208 * v1) + x32) + v8) x33 fun S34 =>
    (L_X12_opens_184 v1 v2 v3 v4 n) (v8 + 1) S34)
def L_X12_opens_156  (v1 : Int32) (v2 : Int32) (v3 : Int32) (v4 : Int32) (s0 : Int32) (S : Mm) : Option (Unit × Mm) :=
  if s0 = 0 then (
  stA S 228 0 18 1 v1 (0 &&& 1) fun S20 =>
  ldA S20 282 0 9 1 v3 fun x21 =>
  stA S20 282 0 9 1 v3 (x21 + 1) fun S22 =>
  some ((), S22))
  else (
  L_X12_opens_184  v1 v2 v3 v4 fu 0 S)
def L_X12_opens_155  (v1 : Int32) (v2 : Int32) (v3 : Int32) (v4 : Int32) (S : Mm) : Option (Unit × Mm) :=
  L_X12_opens_156  v1 v2 v3 v4 0 S
def L_X12_opens_103  (v1 : Int32) (v2 : Int32) (v3 : Int32) (v4 : Int32) (v5 : Int32) (v6 : Int32) (S : Mm) : Option (Unit × Mm) :=
  ldA S 228 0 18 1 v1 fun x16 =>
  if x16 = 0 then (
  L_X12_opens_155  v1 v2 v3 v4 S)
  else (
  ldA S 229 0 18 1 v1 fun x17 =>
  if x17 = (v5 >>> (4 &&& 31)) then (
  ldA S 230 0 18 1 v1 fun x18 =>
  if x18 = v6 then (
  ldA S 231 0 18 1 v1 fun x19 =>
  if 208 < (x19 + v4) then (
  L_X12_opens_155  v1 v2 v3 v4 S)
  else (
  L_X12_opens_156  v1 v2 v3 v4 1 S))
  else (
  L_X12_opens_155  v1 v2 v3 v4 S))
  else (
  L_X12_opens_155  v1 v2 v3 v4 S))
def L_X12_opens_11  (v1 : Int32) (v2 : Int32) (s0 : Int32) (S : Mm) : Option (Unit × Mm) :=
  cl (F_X12_isRight v1 S) fun r1 S2 =>
  if r1 = 0 then (
  ldA S2 282 0 9 1 s0 fun x14 =>
  stA S2 282 0 9 1 s0 (x14 + 1) fun S15 =>
  some ((), S15))
  else (
  gf S2 307 0 fun x4 =>
  tp (x4 - 44) fun x5 =>
  ldA S2 278 0 300 1 22 fun x6 =>
  ldA S2 278 0 300 1 23 fun x7 =>
  tp (x6 ||| (x7 <<< (8 &&& 31))) fun x8 =>
  tp (x8 &&& 15) fun x9 =>
  if x9 = 0 then (
  stA S2 228 0 18 1 v1 (1 &&& 1) fun S10 =>
  stA S10 229 0 18 1 v1 (x8 >>> (4 &&& 31)) fun S11 =>
  stA S11 230 0 18 1 v1 0 fun S12 =>
  stA S12 231 0 18 1 v1 0 fun S13 =>
  L_X12_opens_103  v1 v2 s0 x5 x8 x9 S13)
  else (
  L_X12_opens_103  v1 v2 s0 x5 x8 x9 S2))
def F_X12_opens (v1 : Int32) (v2 : Int32) (S : Mm) : Option (Unit × Mm) :=
  if 9 ≤ v1 then (
  L_X12_opens_11  v1 v2 0 S)
  else (
  L_X12_opens_11  v1 v2 v2 S)
set_option maxRecDepth 100000 in
set_option maxHeartbeats 4000000 in
theorem w_X12_opens_184 {p : Program} {l : Launch} {e : Env} {s : State} {m : MethodId} {args : Array Value} {below : List Frame} {meth : Method} {c : Code} {G : xG} {sz : Nat} {o : Unit × Mm} (X : xC G true sz p s m args c cX12_opens 9 wsX12_opens RX12 meth none) (v1 : Int32) (v2 : Int32) (v3 : Int32) (v4 : Int32)   : ∀ (n : Nat) (v8 : Int32) (S : Mm) (H : Heap) (locs : List Loc) (ls : Array Slot), L_X12_opens_184 v1 v2 v3 v4 n v8 S = some o → xW G true sz s H locs S → lv_has ls 9 [(0, .ref (G.2.2 200 0)), (1, .int v1), (2, .int v2), (3, .int v3), (4, .int v4), (8, .int v8)] → wX p l e rmX12_opens s m args below meth c H locs (xQv G true sz o) (XA G true sz) 184 ls [] := by
  intro n
  induction n with
  | zero =>
    intro v8 S H locs ls h
    cases h
  | succ n ih =>
    intro v8 S H locs ls h hW  hl
    rw [L_X12_opens_184] at h
    refine lv_iload X.1 X.2.1 dX12_opens_184 (lv_at hl 5 rfl) ?_
    refine lv_iload X.1 X.2.1 dX12_opens_186 (lv_at hl 4 rfl) ?_
    refine x_icmp_ge X (tgt := 224) dX12_opens_188 (by decide) h (fun h => ?_) (fun h => ?_)
    · refine lv_aload_n X.1 X.2.1 dX12_opens_224 rfl (lv_at hl 0 rfl) ?_
      refine x_getR X hW fd_Model_begunLen (fun w h => List.mem_cons_of_mem _ (gin_X12 w h)) (List.mem_cons_of_mem _ gw182) z_1 dX12_opens_225 ?_
      refine lv_iload_n X.1 X.2.1 dX12_opens_228 rfl (lv_at hl 1 rfl) ?_
      refine lv_dup2_11 X.1 X.2.1 dX12_opens_229 rfl rfl ?_
      refine x_iald X hW ar_231 dX12_opens_230 h (fun x23 h => ?_)
      refine lv_iload X.1 X.2.1 dX12_opens_231 (lv_at hl 4 rfl) ?_
      refine lv_iadd X.1 X.2.1 dX12_opens_233 ?_
      refine x_iast X hW ar_231 dX12_opens_234 h (fun S24 H locs h hW => ?_)
      refine lv_aload_n X.1 X.2.1 dX12_opens_235 rfl (lv_at hl 0 rfl) ?_
      refine x_getR X hW fd_Model_begunNext (fun w h => List.mem_cons_of_mem _ (gin_X12 w h)) (List.mem_cons_of_mem _ gw181) z_1 dX12_opens_236 ?_
      refine lv_iload_n X.1 X.2.1 dX12_opens_239 rfl (lv_at hl 1 rfl) ?_
      refine lv_dup2_11 X.1 X.2.1 dX12_opens_240 rfl rfl ?_
      refine x_iald X hW ar_230 dX12_opens_241 h (fun x25 h => ?_)
      refine lv_iconst (v := 1) X.1 X.2.1 dX12_opens_242 rfl ?_
      refine lv_iadd X.1 X.2.1 dX12_opens_243 ?_
      refine x_iast X hW ar_230 dX12_opens_244 h (fun S26 H locs h hW => ?_)
      refine lv_aload_n X.1 X.2.1 dX12_opens_245 rfl (lv_at hl 0 rfl) ?_
      refine x_getR X hW fd_Model_seen (fun w h => List.mem_cons_of_mem _ (gin_X12 w h)) (List.mem_cons_of_mem _ gw233) z_1 dX12_opens_246 ?_
      refine lv_iconst (v := 1) X.1 X.2.1 dX12_opens_249 rfl ?_
      refine x_iald X hW ar_278 dX12_opens_250 h (fun x27 h => ?_)
      refine lv_iconst (v := 4) X.1 X.2.1 dX12_opens_251 rfl ?_
      refine lv_iand X.1 X.2.1 dX12_opens_252 ?_
      refine x_if_ne X (tgt := 270) dX12_opens_253 (by decide) h (fun h => ?_) (fun h => ?_)
      · exact x_vret X hW h dX12_opens_270
      · refine lv_aload_n X.1 X.2.1 dX12_opens_256 rfl (lv_at hl 0 rfl) ?_
        refine x_getR X hW fd_Model_begun (fun w h => List.mem_cons_of_mem _ (gin_X12 w h)) (List.mem_cons_of_mem _ gw179) z_1 dX12_opens_257 ?_
        refine lv_iload_n X.1 X.2.1 dX12_opens_260 rfl (lv_at hl 1 rfl) ?_
        refine lv_iconst (v := 0) X.1 X.2.1 dX12_opens_261 rfl ?_
        refine x_zast X hW ar_228 dX12_opens_262 h (fun S28 H locs h hW => ?_)
        refine lv_aload_n X.1 X.2.1 dX12_opens_263 rfl (lv_at hl 0 rfl) ?_
        refine lv_iload_n X.1 X.2.1 dX12_opens_264 rfl (lv_at hl 1 rfl) ?_
        refine lv_iload_n X.1 X.2.1 dX12_opens_265 rfl (lv_at hl 2 rfl) ?_
        refine lv_iload_n X.1 X.2.1 dX12_opens_266 rfl (lv_at hl 3 rfl) ?_
        obtain ⟨r29, S30, h31, h⟩ := cl_some h
        refine x_aftV X hW (x_runV (C := RX12) (a := G.2.2 200 0) (As := [.int v1, .int v2, .int v3]) (rest := []) X hW (c_X12_whole l G X.2.2.2.2.2.2.2.2.2.1 _ S28 v1 v2 v3 _ h31) (cwV 3 X.2.2.2.2.1 (gV gw1181 gw1182 gw1183 gw5 gw1184) rfl rfl rfl ⟨rfl, hd_X12_whole⟩ ⟨Nat.le_of_ble_eq_true rfl, Nat.le_of_ble_eq_true rfl⟩) (x_recv X hW ob_Model z_1) rfl hl.1 rfl (Nat.le_of_ble_eq_true rfl) dX12_opens_267 ⟨Nat.zero_le _, Nat.zero_le _⟩) (fun H locs hW => ?_)
        exact x_vret X hW h dX12_opens_270
    · refine lv_aload_n X.1 X.2.1 dX12_opens_191 rfl (lv_at hl 0 rfl) ?_
      refine x_getR X hW fd_Model_begunBytes (fun w h => List.mem_cons_of_mem _ (gin_X12 w h)) (List.mem_cons_of_mem _ gw183) z_1 dX12_opens_192 ?_
      refine lv_sipush (v := 208) X.1 X.2.1 dX12_opens_195 rfl ?_
      refine lv_iload_n X.1 X.2.1 dX12_opens_198 rfl (lv_at hl 1 rfl) ?_
      refine lv_imul X.1 X.2.1 dX12_opens_199 ?_
      refine lv_aload_n X.1 X.2.1 dX12_opens_200 rfl (lv_at hl 0 rfl) ?_
      refine x_getR X hW fd_Model_begunLen (fun w h => List.mem_cons_of_mem _ (gin_X12 w h)) (List.mem_cons_of_mem _ gw182) z_1 dX12_opens_201 ?_
      refine lv_iload_n X.1 X.2.1 dX12_opens_204 rfl (lv_at hl 1 rfl) ?_
      refine x_iald X hW ar_231 dX12_opens_205 h (fun x32 h => ?_)
      refine lv_iadd X.1 X.2.1 dX12_opens_206 ?_
      refine lv_iload X.1 X.2.1 dX12_opens_207 (lv_at hl 5 rfl) ?_
      refine lv_iadd X.1 X.2.1 dX12_opens_209 ?_
      refine lv_aload_n X.1 X.2.1 dX12_opens_210 rfl (lv_at hl 0 rfl) ?_
      refine x_getR X hW fd_Model_plain (fun w h => List.mem_cons_of_mem _ (gin_X12 w h)) (List.mem_cons_of_mem _ gw238) z_1 dX12_opens_211 ?_
      refine lv_iload X.1 X.2.1 dX12_opens_214 (lv_at hl 5 rfl) ?_
      refine x_iald X hW ar_283 dX12_opens_216 h (fun x33 h => ?_)
      refine x_iast X hW ar_232 dX12_opens_217 h (fun S34 H locs h hW => ?_)
      refine lv_iinc (v := (v8 + 1)) (lv' := [(8, .int (v8 + 1)), (0, .ref (G.2.2 200 0)), (1, .int v1), (2, .int v2), (3, .int v3), (4, .int v4)]) X.1 X.2.1 dX12_opens_218 hl (k := 5) rfl rfl (by decide) rfl (fun ls hl => ?_)
      refine lv_goto (tgt := 184) X.1 X.2.1 dX12_opens_221 (by decide) ?_
      exact ih (v8 + 1) S34 _ _ _ h hW  (lv_sub hl [1, 2, 3, 4, 5, 0] rfl)
set_option maxRecDepth 100000 in
set_option maxHeartbeats 4000000 in
theorem w_X12_opens_156 {p : Program} {l : Launch} {e : Env} {s : State} {m : MethodId} {args : Array Value} {below : List Frame} {meth : Method} {c : Code} {G : xG} {sz : Nat} {o : Unit × Mm} (X : xC G true sz p s m args c cX12_opens 9 wsX12_opens RX12 meth none) (v1 : Int32) (v2 : Int32) (v3 : Int32) (v4 : Int32) (s0 : Int32)   {S : Mm} {H : Heap} {locs : List Loc} {ls : Array Slot} (hW : xW G true sz s H locs S) (hl : lv_has ls 9 [(0, .ref (G.2.2 200 0)), (1, .int v1), (2, .int v2), (3, .int v3), (4, .int v4)]) (h : L_X12_opens_156  v1 v2 v3 v4 s0 S = some o) : wX p l e rmX12_opens s m args below meth c H locs (xQv G true sz o) (XA G true sz) 156 ls [.int s0] := by
  unfold L_X12_opens_156 at h
  refine lv_istore (lv' := [(7, .int s0), (0, .ref (G.2.2 200 0)), (1, .int v1), (2, .int v2), (3, .int v3), (4, .int v4)]) X.1 X.2.1 dX12_opens_156 hl (by decide) rfl (fun ls hl => ?_)
  refine lv_iload X.1 X.2.1 dX12_opens_158 (lv_at hl 0 rfl) ?_
  refine x_if_ne X (tgt := 181) dX12_opens_160 (by decide) h (fun h => ?_) (fun h => ?_)
  · refine lv_iconst (v := 0) X.1 X.2.1 dX12_opens_181 rfl ?_
    refine lv_istore (lv' := [(8, .int 0), (7, .int s0), (0, .ref (G.2.2 200 0)), (1, .int v1), (2, .int v2), (3, .int v3), (4, .int v4)]) X.1 X.2.1 dX12_opens_182 hl (by decide) rfl (fun ls hl => ?_)
    exact w_X12_opens_184 X v1 v2 v3 v4   fu 0 S _ _ _ h hW  (lv_sub hl [2, 3, 4, 5, 6, 0] rfl)
  · refine lv_aload_n X.1 X.2.1 dX12_opens_163 rfl (lv_at hl 1 rfl) ?_
    refine x_getR X hW fd_Model_begun (fun w h => List.mem_cons_of_mem _ (gin_X12 w h)) (List.mem_cons_of_mem _ gw179) z_1 dX12_opens_164 ?_
    refine lv_iload_n X.1 X.2.1 dX12_opens_167 rfl (lv_at hl 2 rfl) ?_
    refine lv_iconst (v := 0) X.1 X.2.1 dX12_opens_168 rfl ?_
    refine x_zast X hW ar_228 dX12_opens_169 h (fun S20 H locs h hW => ?_)
    refine lv_aload_n X.1 X.2.1 dX12_opens_170 rfl (lv_at hl 1 rfl) ?_
    refine x_getR X hW fd_Model_unsealed (fun w h => List.mem_cons_of_mem _ (gin_X12 w h)) (List.mem_cons_of_mem _ gw237) z_1 dX12_opens_171 ?_
    refine lv_iload_n X.1 X.2.1 dX12_opens_174 rfl (lv_at hl 4 rfl) ?_
    refine lv_dup2_11 X.1 X.2.1 dX12_opens_175 rfl rfl ?_
    refine x_iald X hW ar_282 dX12_opens_176 h (fun x21 h => ?_)
    refine lv_iconst (v := 1) X.1 X.2.1 dX12_opens_177 rfl ?_
    refine lv_iadd X.1 X.2.1 dX12_opens_178 ?_
    refine x_iast X hW ar_282 dX12_opens_179 h (fun S22 H locs h hW => ?_)
    exact x_vret X hW h dX12_opens_180
set_option maxRecDepth 100000 in
set_option maxHeartbeats 4000000 in
theorem w_X12_opens_155 {p : Program} {l : Launch} {e : Env} {s : State} {m : MethodId} {args : Array Value} {below : List Frame} {meth : Method} {c : Code} {G : xG} {sz : Nat} {o : Unit × Mm} (X : xC G true sz p s m args c cX12_opens 9 wsX12_opens RX12 meth none) (v1 : Int32) (v2 : Int32) (v3 : Int32) (v4 : Int32)   {S : Mm} {H : Heap} {locs : List Loc} {ls : Array Slot} (hW : xW G true sz s H locs S) (hl : lv_has ls 9 [(0, .ref (G.2.2 200 0)), (1, .int v1), (2, .int v2), (3, .int v3), (4, .int v4)]) (h : L_X12_opens_155  v1 v2 v3 v4 S = some o) : wX p l e rmX12_opens s m args below meth c H locs (xQv G true sz o) (XA G true sz) 155 ls [] := by
  unfold L_X12_opens_155 at h
  refine lv_iconst (v := 0) X.1 X.2.1 dX12_opens_155 rfl ?_
  exact w_X12_opens_156 X v1 v2 v3 v4 0   hW (lv_sub hl [0, 1, 2, 3, 4] rfl) h
set_option maxRecDepth 100000 in
set_option maxHeartbeats 4000000 in
theorem w_X12_opens_103 {p : Program} {l : Launch} {e : Env} {s : State} {m : MethodId} {args : Array Value} {below : List Frame} {meth : Method} {c : Code} {G : xG} {sz : Nat} {o : Unit × Mm} (X : xC G true sz p s m args c cX12_opens 9 wsX12_opens RX12 meth none) (v1 : Int32) (v2 : Int32) (v3 : Int32) (v4 : Int32) (v5 : Int32) (v6 : Int32)   {S : Mm} {H : Heap} {locs : List Loc} {ls : Array Slot} (hW : xW G true sz s H locs S) (hl : lv_has ls 9 [(0, .ref (G.2.2 200 0)), (1, .int v1), (2, .int v2), (3, .int v3), (4, .int v4), (5, .int v5), (6, .int v6)]) (h : L_X12_opens_103  v1 v2 v3 v4 v5 v6 S = some o) : wX p l e rmX12_opens s m args below meth c H locs (xQv G true sz o) (XA G true sz) 103 ls [] := by
  unfold L_X12_opens_103 at h
  refine lv_aload_n X.1 X.2.1 dX12_opens_103 rfl (lv_at hl 0 rfl) ?_
  refine x_getR X hW fd_Model_begun (fun w h => List.mem_cons_of_mem _ (gin_X12 w h)) (List.mem_cons_of_mem _ gw179) z_1 dX12_opens_104 ?_
  refine lv_iload_n X.1 X.2.1 dX12_opens_107 rfl (lv_at hl 1 rfl) ?_
  refine x_zald X hW ar_228 dX12_opens_108 h (fun x16 h => ?_)
  refine x_if_eq X (tgt := 155) dX12_opens_109 (by decide) h (fun h => ?_) (fun h => ?_)
  · exact w_X12_opens_155 X v1 v2 v3 v4   hW (lv_sub hl [0, 1, 2, 3, 4] rfl) h
  · refine lv_aload_n X.1 X.2.1 dX12_opens_112 rfl (lv_at hl 0 rfl) ?_
    refine x_getR X hW fd_Model_begunSeq (fun w h => List.mem_cons_of_mem _ (gin_X12 w h)) (List.mem_cons_of_mem _ gw180) z_1 dX12_opens_113 ?_
    refine lv_iload_n X.1 X.2.1 dX12_opens_116 rfl (lv_at hl 1 rfl) ?_
    refine x_iald X hW ar_229 dX12_opens_117 h (fun x17 h => ?_)
    refine lv_iload X.1 X.2.1 dX12_opens_118 (lv_at hl 5 rfl) ?_
    refine lv_iconst (v := 4) X.1 X.2.1 dX12_opens_120 rfl ?_
    refine lv_ishr X.1 X.2.1 dX12_opens_121 ?_
    refine x_icmp_ne X (tgt := 155) dX12_opens_122 (by decide) h (fun h => ?_) (fun h => ?_)
    · exact w_X12_opens_155 X v1 v2 v3 v4   hW (lv_sub hl [0, 1, 2, 3, 4] rfl) h
    · refine lv_aload_n X.1 X.2.1 dX12_opens_125 rfl (lv_at hl 0 rfl) ?_
      refine x_getR X hW fd_Model_begunNext (fun w h => List.mem_cons_of_mem _ (gin_X12 w h)) (List.mem_cons_of_mem _ gw181) z_1 dX12_opens_126 ?_
      refine lv_iload_n X.1 X.2.1 dX12_opens_129 rfl (lv_at hl 1 rfl) ?_
      refine x_iald X hW ar_230 dX12_opens_130 h (fun x18 h => ?_)
      refine lv_iload X.1 X.2.1 dX12_opens_131 (lv_at hl 6 rfl) ?_
      refine x_icmp_ne X (tgt := 155) dX12_opens_133 (by decide) h (fun h => ?_) (fun h => ?_)
      · exact w_X12_opens_155 X v1 v2 v3 v4   hW (lv_sub hl [0, 1, 2, 3, 4] rfl) h
      · refine lv_aload_n X.1 X.2.1 dX12_opens_136 rfl (lv_at hl 0 rfl) ?_
        refine x_getR X hW fd_Model_begunLen (fun w h => List.mem_cons_of_mem _ (gin_X12 w h)) (List.mem_cons_of_mem _ gw182) z_1 dX12_opens_137 ?_
        refine lv_iload_n X.1 X.2.1 dX12_opens_140 rfl (lv_at hl 1 rfl) ?_
        refine x_iald X hW ar_231 dX12_opens_141 h (fun x19 h => ?_)
        refine lv_iload X.1 X.2.1 dX12_opens_142 (lv_at hl 4 rfl) ?_
        refine lv_iadd X.1 X.2.1 dX12_opens_144 ?_
        refine lv_sipush (v := 208) X.1 X.2.1 dX12_opens_145 rfl ?_
        refine x_icmp_gt X (tgt := 155) dX12_opens_148 (by decide) h (fun h => ?_) (fun h => ?_)
        · exact w_X12_opens_155 X v1 v2 v3 v4   hW (lv_sub hl [0, 1, 2, 3, 4] rfl) h
        · refine lv_iconst (v := 1) X.1 X.2.1 dX12_opens_151 rfl ?_
          refine lv_goto (tgt := 156) X.1 X.2.1 dX12_opens_152 (by decide) ?_
          exact w_X12_opens_156 X v1 v2 v3 v4 1   hW (lv_sub hl [0, 1, 2, 3, 4] rfl) h
set_option maxRecDepth 100000 in
set_option maxHeartbeats 4000000 in
theorem w_X12_opens_11 {p : Program} {l : Launch} {e : Env} {s : State} {m : MethodId} {args : Array Value} {below : List Frame} {meth : Method} {c : Code} {G : xG} {sz : Nat} {o : Unit × Mm} (X : xC G true sz p s m args c cX12_opens 9 wsX12_opens RX12 meth none) (v1 : Int32) (v2 : Int32) (s0 : Int32)   {S : Mm} {H : Heap} {locs : List Loc} {ls : Array Slot} (hW : xW G true sz s H locs S) (hl : lv_has ls 9 [(0, .ref (G.2.2 200 0)), (1, .int v1), (2, .int v2)]) (h : L_X12_opens_11  v1 v2 s0 S = some o) : wX p l e rmX12_opens s m args below meth c H locs (xQv G true sz o) (XA G true sz) 11 ls [.int s0] := by
  unfold L_X12_opens_11 at h
  refine lv_istore_n (lv' := [(3, .int s0), (0, .ref (G.2.2 200 0)), (1, .int v1), (2, .int v2)]) X.1 X.2.1 dX12_opens_11 rfl hl (by decide) rfl (fun ls hl => ?_)
  refine lv_aload_n X.1 X.2.1 dX12_opens_12 rfl (lv_at hl 1 rfl) ?_
  refine lv_iload_n X.1 X.2.1 dX12_opens_13 rfl (lv_at hl 2 rfl) ?_
  obtain ⟨r1, S2, h3, h⟩ := cl_some h
  refine x_aftI X hW (x_runV (C := RX12) (a := G.2.2 200 0) (As := [.int v1]) (rest := []) X hW (c_X12_isRight l G X.2.2.2.2.2.2.2.2.2.1 _ S v1 _ h3) (cwV 1 X.2.2.2.2.1 (gV gw1177 gw1178 gw1179 gw5 gw1180) rfl rfl rfl ⟨rfl, hd_X12_isRight⟩ ⟨Nat.le_of_ble_eq_true rfl, Nat.le_of_ble_eq_true rfl⟩) (x_recv X hW ob_Model z_1) rfl hl.1 rfl (Nat.le_of_ble_eq_true rfl) dX12_opens_14 ⟨Nat.zero_le _, Nat.zero_le _⟩) (fun H locs hW => ?_)
  refine x_if_ne X (tgt := 31) dX12_opens_17 (by decide) h (fun h => ?_) (fun h => ?_)
  · refine lv_aload_n X.1 X.2.1 dX12_opens_31 rfl (lv_at hl 1 rfl) ?_
    refine x_getI X hW fd_Model_seenLen (fun w h => List.mem_cons_of_mem _ (gin_X12 w h)) (List.mem_cons_of_mem _ gw1097) z_1 dX12_opens_32 h (fun x4 h => ?_)
    refine lv_bipush (v := 44) X.1 X.2.1 dX12_opens_35 rfl ?_
    refine lv_isub X.1 X.2.1 dX12_opens_37 ?_
    refine x_top h (fun x5 h => ?_)
    refine lv_istore (lv' := [(4, .int x5), (3, .int s0), (0, .ref (G.2.2 200 0)), (1, .int v1), (2, .int v2)]) X.1 X.2.1 dX12_opens_38 hl (by decide) rfl (fun ls hl => ?_)
    refine lv_aload_n X.1 X.2.1 dX12_opens_40 rfl (lv_at hl 2 rfl) ?_
    refine x_getR X hW fd_Model_seen (fun w h => List.mem_cons_of_mem _ (gin_X12 w h)) (List.mem_cons_of_mem _ gw233) z_1 dX12_opens_41 ?_
    refine lv_bipush (v := 22) X.1 X.2.1 dX12_opens_44 rfl ?_
    refine x_iald X hW ar_278 dX12_opens_46 h (fun x6 h => ?_)
    refine lv_aload_n X.1 X.2.1 dX12_opens_47 rfl (lv_at hl 2 rfl) ?_
    refine x_getR X hW fd_Model_seen (fun w h => List.mem_cons_of_mem _ (gin_X12 w h)) (List.mem_cons_of_mem _ gw233) z_1 dX12_opens_48 ?_
    refine lv_bipush (v := 23) X.1 X.2.1 dX12_opens_51 rfl ?_
    refine x_iald X hW ar_278 dX12_opens_53 h (fun x7 h => ?_)
    refine lv_bipush (v := 8) X.1 X.2.1 dX12_opens_54 rfl ?_
    refine lv_ishl X.1 X.2.1 dX12_opens_56 ?_
    refine lv_ior X.1 X.2.1 dX12_opens_57 ?_
    refine x_top h (fun x8 h => ?_)
    refine lv_istore (lv' := [(5, .int x8), (4, .int x5), (3, .int s0), (0, .ref (G.2.2 200 0)), (1, .int v1), (2, .int v2)]) X.1 X.2.1 dX12_opens_58 hl (by decide) rfl (fun ls hl => ?_)
    refine lv_iload X.1 X.2.1 dX12_opens_60 (lv_at hl 0 rfl) ?_
    refine lv_bipush (v := 15) X.1 X.2.1 dX12_opens_62 rfl ?_
    refine lv_iand X.1 X.2.1 dX12_opens_64 ?_
    refine x_top h (fun x9 h => ?_)
    refine lv_istore (lv' := [(6, .int x9), (5, .int x8), (4, .int x5), (3, .int s0), (0, .ref (G.2.2 200 0)), (1, .int v1), (2, .int v2)]) X.1 X.2.1 dX12_opens_65 hl (by decide) rfl (fun ls hl => ?_)
    refine lv_iload X.1 X.2.1 dX12_opens_67 (lv_at hl 0 rfl) ?_
    refine x_if_ne X (tgt := 103) dX12_opens_69 (by decide) h (fun h => ?_) (fun h => ?_)
    · exact w_X12_opens_103 X v1 v2 s0 x5 x8 x9   hW (lv_sub hl [4, 5, 6, 3, 2, 1, 0] rfl) h
    · refine lv_aload_n X.1 X.2.1 dX12_opens_72 rfl (lv_at hl 4 rfl) ?_
      refine x_getR X hW fd_Model_begun (fun w h => List.mem_cons_of_mem _ (gin_X12 w h)) (List.mem_cons_of_mem _ gw179) z_1 dX12_opens_73 ?_
      refine lv_iload_n X.1 X.2.1 dX12_opens_76 rfl (lv_at hl 5 rfl) ?_
      refine lv_iconst (v := 1) X.1 X.2.1 dX12_opens_77 rfl ?_
      refine x_zast X hW ar_228 dX12_opens_78 h (fun S10 H locs h hW => ?_)
      refine lv_aload_n X.1 X.2.1 dX12_opens_79 rfl (lv_at hl 4 rfl) ?_
      refine x_getR X hW fd_Model_begunSeq (fun w h => List.mem_cons_of_mem _ (gin_X12 w h)) (List.mem_cons_of_mem _ gw180) z_1 dX12_opens_80 ?_
      refine lv_iload_n X.1 X.2.1 dX12_opens_83 rfl (lv_at hl 5 rfl) ?_
      refine lv_iload X.1 X.2.1 dX12_opens_84 (lv_at hl 1 rfl) ?_
      refine lv_iconst (v := 4) X.1 X.2.1 dX12_opens_86 rfl ?_
      refine lv_ishr X.1 X.2.1 dX12_opens_87 ?_
      refine x_iast X hW ar_229 dX12_opens_88 h (fun S11 H locs h hW => ?_)
      refine lv_aload_n X.1 X.2.1 dX12_opens_89 rfl (lv_at hl 4 rfl) ?_
      refine x_getR X hW fd_Model_begunNext (fun w h => List.mem_cons_of_mem _ (gin_X12 w h)) (List.mem_cons_of_mem _ gw181) z_1 dX12_opens_90 ?_
      refine lv_iload_n X.1 X.2.1 dX12_opens_93 rfl (lv_at hl 5 rfl) ?_
      refine lv_iconst (v := 0) X.1 X.2.1 dX12_opens_94 rfl ?_
      refine x_iast X hW ar_230 dX12_opens_95 h (fun S12 H locs h hW => ?_)
      refine lv_aload_n X.1 X.2.1 dX12_opens_96 rfl (lv_at hl 4 rfl) ?_
      refine x_getR X hW fd_Model_begunLen (fun w h => List.mem_cons_of_mem _ (gin_X12 w h)) (List.mem_cons_of_mem _ gw182) z_1 dX12_opens_97 ?_
      refine lv_iload_n X.1 X.2.1 dX12_opens_100 rfl (lv_at hl 5 rfl) ?_
      refine lv_iconst (v := 0) X.1 X.2.1 dX12_opens_101 rfl ?_
      refine x_iast X hW ar_231 dX12_opens_102 h (fun S13 H locs h hW => ?_)
      exact w_X12_opens_103 X v1 v2 s0 x5 x8 x9   hW (lv_sub hl [4, 5, 6, 3, 2, 1, 0] rfl) h
  · refine lv_aload_n X.1 X.2.1 dX12_opens_20 rfl (lv_at hl 1 rfl) ?_
    refine x_getR X hW fd_Model_unsealed (fun w h => List.mem_cons_of_mem _ (gin_X12 w h)) (List.mem_cons_of_mem _ gw237) z_1 dX12_opens_21 ?_
    refine lv_iload_n X.1 X.2.1 dX12_opens_24 rfl (lv_at hl 0 rfl) ?_
    refine lv_dup2_11 X.1 X.2.1 dX12_opens_25 rfl rfl ?_
    refine x_iald X hW ar_282 dX12_opens_26 h (fun x14 h => ?_)
    refine lv_iconst (v := 1) X.1 X.2.1 dX12_opens_27 rfl ?_
    refine lv_iadd X.1 X.2.1 dX12_opens_28 ?_
    refine x_iast X hW ar_282 dX12_opens_29 h (fun S15 H locs h hW => ?_)
    exact x_vret X hW h dX12_opens_30
set_option maxRecDepth 100000 in
set_option maxHeartbeats 4000000 in
theorem w_X12_opens_0 {p : Program} {l : Launch} {e : Env} {s : State} {m : MethodId} {args : Array Value} {below : List Frame} {meth : Method} {c : Code} {G : xG} {sz : Nat} {o : Unit × Mm} (X : xC G true sz p s m args c cX12_opens 9 wsX12_opens RX12 meth none) (v1 : Int32) (v2 : Int32) {S : Mm} {H : Heap} {locs : List Loc} {ls : Array Slot} (hW : xW G true sz s H locs S) (hl : lv_has ls 9 [(0, .ref (G.2.2 200 0)), (1, .int v1), (2, .int v2)]) (h : F_X12_opens v1 v2 S = some o) : wX p l e rmX12_opens s m args below meth c H locs (xQv G true sz o) (XA G true sz) 0 ls [] := by
  unfold F_X12_opens at h
  refine lv_iload_n X.1 X.2.1 dX12_opens_0 rfl (lv_at hl 1 rfl) ?_
  refine lv_bipush (v := 9) X.1 X.2.1 dX12_opens_1 rfl ?_
  refine x_icmp_ge X (tgt := 10) dX12_opens_3 (by decide) h (fun h => ?_) (fun h => ?_)
  · refine lv_iconst (v := 0) X.1 X.2.1 dX12_opens_10 rfl ?_
    exact w_X12_opens_11 X v1 v2 0   hW (lv_sub hl [0, 1, 2] rfl) h
  · refine lv_iload_n X.1 X.2.1 dX12_opens_6 rfl (lv_at hl 2 rfl) ?_
    refine lv_goto (tgt := 11) X.1 X.2.1 dX12_opens_7 (by decide) ?_
    exact w_X12_opens_11 X v1 v2 v2   hW (lv_sub hl [0, 1, 2] rfl) h
theorem c_X12_opens (l : Launch) (G : xG) (hD : xD G true) (sz : Nat) (S : Mm) (v1 : Int32) (v2 : Int32) (o : Unit × Mm) (h : F_X12_opens v1 v2 S = some o) : Met l yX12_opens wsX12_opens rmX12_opens (xPre G true S sz [.ref (G.2.2 200 0), .int v1, .int v2]) (xQv G true sz o) 0 0 (XA G true sz) :=
  x_start hD (by decide) rfl (Nat.le_of_ble_eq_true rfl) (fun p e s m below meth c X hW ls hl => w_X12_opens_0 X v1 v2 hW hl h)

/-! WirelessCellModel.handOf()I -/
def rmX12_handOf : Room := { frames := 0, cells := 0, slots := 0, locals := 0 }
def L_X12_handOf_34   (S : Mm) : Option (Int32 × Mm) :=
  some (0, S)
def L_X12_handOf_199   (S : Mm) : Option (Int32 × Mm) :=
  some (0, S)
def L_X12_handOf_179  (v1 : Int32) (v2 : Int32) (s0 : Int32) (S : Mm) : Option (Int32 × Mm) :=
  if v1 = 0 then (
  L_X12_handOf_199  S)
  else (
  gf S 307 0 fun x13 =>
  if (x13 - 28) = s0 then (
  some (v2, S))
  else (
  L_X12_handOf_199  S))
def L_X12_handOf_163  (v1 : Int32) (v2 : Int32) (S : Mm) : Option (Int32 × Mm) :=
  L_X12_handOf_179  v1 v2 57 S
def L_X12_handOf_134  (s0 : Int32) (S : Mm) : Option (Int32 × Mm) :=
  ldA S 278 0 300 1 32 fun x12 =>
  if x12 = 1 then (
  L_X12_handOf_179  s0 x12 41 S)
  else (
  if x12 = 2 then (
  L_X12_handOf_163  s0 x12 S)
  else (
  if x12 = 3 then (
  L_X12_handOf_163  s0 x12 S)
  else (
  if x12 = 4 then (
  L_X12_handOf_179  s0 x12 25 S)
  else (
  L_X12_handOf_179  s0 x12 (-1) S))))
def L_X12_handOf_133   (S : Mm) : Option (Int32 × Mm) :=
  L_X12_handOf_134  0 S
def F_X12_handOf  (S : Mm) : Option (Int32 × Mm) :=
  ldA S 278 0 300 1 22 fun x1 =>
  if (x1 &&& 15) = 0 then (
  ldA S 278 0 300 1 1 fun x2 =>
  if (x2 &&& 68) = 0 then (
  gf S 307 0 fun x3 =>
  if 37 ≤ x3 then (
  ldA S 278 0 300 1 24 fun x4 =>
  if x4 = 170 then (
  ldA S 278 0 300 1 25 fun x5 =>
  if x5 = 170 then (
  ldA S 278 0 300 1 26 fun x6 =>
  if x6 = 3 then (
  ldA S 278 0 300 1 27 fun x7 =>
  if x7 = 0 then (
  ldA S 278 0 300 1 28 fun x8 =>
  if x8 = 0 then (
  ldA S 278 0 300 1 29 fun x9 =>
  if x9 = 0 then (
  ldA S 278 0 300 1 30 fun x10 =>
  if x10 = 136 then (
  ldA S 278 0 300 1 31 fun x11 =>
  if x11 = 142 then (
  L_X12_handOf_134  1 S)
  else (
  L_X12_handOf_133  S))
  else (
  L_X12_handOf_133  S))
  else (
  L_X12_handOf_133  S))
  else (
  L_X12_handOf_133  S))
  else (
  L_X12_handOf_133  S))
  else (
  L_X12_handOf_133  S))
  else (
  L_X12_handOf_133  S))
  else (
  L_X12_handOf_133  S))
  else (
  L_X12_handOf_34  S))
  else (
  L_X12_handOf_34  S))
  else (
  L_X12_handOf_34  S)
set_option maxRecDepth 100000 in
set_option maxHeartbeats 4000000 in
theorem w_X12_handOf_34 {p : Program} {l : Launch} {e : Env} {s : State} {m : MethodId} {args : Array Value} {below : List Frame} {meth : Method} {c : Code} {G : xG} {sz : Nat} {o : Int32 × Mm} (X : xC G true sz p s m args c cX12_handOf 4 wsX12_handOf RX12 meth (some .int))    {S : Mm} {H : Heap} {locs : List Loc} {ls : Array Slot} (hW : xW G true sz s H locs S) (hl : lv_has ls 4 []) (h : L_X12_handOf_34   S = some o) : wX p l e rmX12_handOf s m args below meth c H locs (xQi G true sz o) (XA G true sz) 34 ls [] := by
  unfold L_X12_handOf_34 at h
  refine lv_iconst (v := 0) X.1 X.2.1 dX12_handOf_34 rfl ?_
  exact x_iret X hW h dX12_handOf_35
set_option maxRecDepth 100000 in
set_option maxHeartbeats 4000000 in
theorem w_X12_handOf_199 {p : Program} {l : Launch} {e : Env} {s : State} {m : MethodId} {args : Array Value} {below : List Frame} {meth : Method} {c : Code} {G : xG} {sz : Nat} {o : Int32 × Mm} (X : xC G true sz p s m args c cX12_handOf 4 wsX12_handOf RX12 meth (some .int))    {S : Mm} {H : Heap} {locs : List Loc} {ls : Array Slot} (hW : xW G true sz s H locs S) (hl : lv_has ls 4 []) (h : L_X12_handOf_199   S = some o) : wX p l e rmX12_handOf s m args below meth c H locs (xQi G true sz o) (XA G true sz) 199 ls [] := by
  unfold L_X12_handOf_199 at h
  refine lv_iconst (v := 0) X.1 X.2.1 dX12_handOf_199 rfl ?_
  exact x_iret X hW h dX12_handOf_200
set_option maxRecDepth 100000 in
set_option maxHeartbeats 4000000 in
theorem w_X12_handOf_179 {p : Program} {l : Launch} {e : Env} {s : State} {m : MethodId} {args : Array Value} {below : List Frame} {meth : Method} {c : Code} {G : xG} {sz : Nat} {o : Int32 × Mm} (X : xC G true sz p s m args c cX12_handOf 4 wsX12_handOf RX12 meth (some .int)) (v1 : Int32) (v2 : Int32) (s0 : Int32)   {S : Mm} {H : Heap} {locs : List Loc} {ls : Array Slot} (hW : xW G true sz s H locs S) (hl : lv_has ls 4 [(0, .ref (G.2.2 200 0)), (1, .int v1), (2, .int v2)]) (h : L_X12_handOf_179  v1 v2 s0 S = some o) : wX p l e rmX12_handOf s m args below meth c H locs (xQi G true sz o) (XA G true sz) 179 ls [.int s0] := by
  unfold L_X12_handOf_179 at h
  refine lv_istore_n (lv' := [(3, .int s0), (0, .ref (G.2.2 200 0)), (1, .int v1), (2, .int v2)]) X.1 X.2.1 dX12_handOf_179 rfl hl (by decide) rfl (fun ls hl => ?_)
  refine lv_iload_n X.1 X.2.1 dX12_handOf_180 rfl (lv_at hl 2 rfl) ?_
  refine x_if_eq X (tgt := 199) dX12_handOf_181 (by decide) h (fun h => ?_) (fun h => ?_)
  · exact w_X12_handOf_199 X    hW (lv_sub hl [] rfl) h
  · refine lv_aload_n X.1 X.2.1 dX12_handOf_184 rfl (lv_at hl 1 rfl) ?_
    refine x_getI X hW fd_Model_seenLen (fun w h => List.mem_cons_of_mem _ (gin_X12 w h)) (List.mem_cons_of_mem _ gw1097) z_1 dX12_handOf_185 h (fun x13 h => ?_)
    refine lv_bipush (v := 28) X.1 X.2.1 dX12_handOf_188 rfl ?_
    refine lv_isub X.1 X.2.1 dX12_handOf_190 ?_
    refine lv_iload_n X.1 X.2.1 dX12_handOf_191 rfl (lv_at hl 0 rfl) ?_
    refine x_icmp_ne X (tgt := 199) dX12_handOf_192 (by decide) h (fun h => ?_) (fun h => ?_)
    · exact w_X12_handOf_199 X    hW (lv_sub hl [] rfl) h
    · refine lv_iload_n X.1 X.2.1 dX12_handOf_195 rfl (lv_at hl 3 rfl) ?_
      refine lv_goto (tgt := 200) X.1 X.2.1 dX12_handOf_196 (by decide) ?_
      exact x_iret X hW h dX12_handOf_200
set_option maxRecDepth 100000 in
set_option maxHeartbeats 4000000 in
theorem w_X12_handOf_163 {p : Program} {l : Launch} {e : Env} {s : State} {m : MethodId} {args : Array Value} {below : List Frame} {meth : Method} {c : Code} {G : xG} {sz : Nat} {o : Int32 × Mm} (X : xC G true sz p s m args c cX12_handOf 4 wsX12_handOf RX12 meth (some .int)) (v1 : Int32) (v2 : Int32)   {S : Mm} {H : Heap} {locs : List Loc} {ls : Array Slot} (hW : xW G true sz s H locs S) (hl : lv_has ls 4 [(0, .ref (G.2.2 200 0)), (1, .int v1), (2, .int v2)]) (h : L_X12_handOf_163  v1 v2 S = some o) : wX p l e rmX12_handOf s m args below meth c H locs (xQi G true sz o) (XA G true sz) 163 ls [] := by
  unfold L_X12_handOf_163 at h
  refine lv_bipush (v := 57) X.1 X.2.1 dX12_handOf_163 rfl ?_
  refine lv_goto (tgt := 179) X.1 X.2.1 dX12_handOf_165 (by decide) ?_
  exact w_X12_handOf_179 X v1 v2 57   hW (lv_sub hl [0, 1, 2] rfl) h
set_option maxRecDepth 100000 in
set_option maxHeartbeats 4000000 in
theorem w_X12_handOf_134 {p : Program} {l : Launch} {e : Env} {s : State} {m : MethodId} {args : Array Value} {below : List Frame} {meth : Method} {c : Code} {G : xG} {sz : Nat} {o : Int32 × Mm} (X : xC G true sz p s m args c cX12_handOf 4 wsX12_handOf RX12 meth (some .int)) (s0 : Int32)   {S : Mm} {H : Heap} {locs : List Loc} {ls : Array Slot} (hW : xW G true sz s H locs S) (hl : lv_has ls 4 [(0, .ref (G.2.2 200 0))]) (h : L_X12_handOf_134  s0 S = some o) : wX p l e rmX12_handOf s m args below meth c H locs (xQi G true sz o) (XA G true sz) 134 ls [.int s0] := by
  unfold L_X12_handOf_134 at h
  refine lv_istore_n (lv' := [(1, .int s0), (0, .ref (G.2.2 200 0))]) X.1 X.2.1 dX12_handOf_134 rfl hl (by decide) rfl (fun ls hl => ?_)
  refine lv_aload_n X.1 X.2.1 dX12_handOf_135 rfl (lv_at hl 1 rfl) ?_
  refine x_getR X hW fd_Model_seen (fun w h => List.mem_cons_of_mem _ (gin_X12 w h)) (List.mem_cons_of_mem _ gw233) z_1 dX12_handOf_136 ?_
  refine lv_bipush (v := 32) X.1 X.2.1 dX12_handOf_139 rfl ?_
  refine x_iald X hW ar_278 dX12_handOf_141 h (fun x12 h => ?_)
  refine lv_istore_n (lv' := [(2, .int x12), (1, .int s0), (0, .ref (G.2.2 200 0))]) X.1 X.2.1 dX12_handOf_142 rfl hl (by decide) rfl (fun ls hl => ?_)
  refine lv_iload_n X.1 X.2.1 dX12_handOf_143 rfl (lv_at hl 0 rfl) ?_
  refine lv_iconst (v := 1) X.1 X.2.1 dX12_handOf_144 rfl ?_
  refine x_icmp_ne X (tgt := 153) dX12_handOf_145 (by decide) h (fun h => ?_) (fun h => ?_)
  · refine lv_iload_n X.1 X.2.1 dX12_handOf_153 rfl (lv_at hl 0 rfl) ?_
    refine lv_iconst (v := 2) X.1 X.2.1 dX12_handOf_154 rfl ?_
    refine x_icmp_eq X (tgt := 163) dX12_handOf_155 (by decide) h (fun h => ?_) (fun h => ?_)
    · exact w_X12_handOf_163 X s0 x12   hW (lv_sub hl [2, 1, 0] rfl) h
    · refine lv_iload_n X.1 X.2.1 dX12_handOf_158 rfl (lv_at hl 0 rfl) ?_
      refine lv_iconst (v := 3) X.1 X.2.1 dX12_handOf_159 rfl ?_
      refine x_icmp_ne X (tgt := 168) dX12_handOf_160 (by decide) h (fun h => ?_) (fun h => ?_)
      · refine lv_iload_n X.1 X.2.1 dX12_handOf_168 rfl (lv_at hl 0 rfl) ?_
        refine lv_iconst (v := 4) X.1 X.2.1 dX12_handOf_169 rfl ?_
        refine x_icmp_ne X (tgt := 178) dX12_handOf_170 (by decide) h (fun h => ?_) (fun h => ?_)
        · refine lv_iconst (v := (-1)) X.1 X.2.1 dX12_handOf_178 rfl ?_
          exact w_X12_handOf_179 X s0 x12 (-1)   hW (lv_sub hl [2, 1, 0] rfl) h
        · refine lv_bipush (v := 25) X.1 X.2.1 dX12_handOf_173 rfl ?_
          refine lv_goto (tgt := 179) X.1 X.2.1 dX12_handOf_175 (by decide) ?_
          exact w_X12_handOf_179 X s0 x12 25   hW (lv_sub hl [2, 1, 0] rfl) h
      · exact w_X12_handOf_163 X s0 x12   hW (lv_sub hl [2, 1, 0] rfl) h
  · refine lv_bipush (v := 41) X.1 X.2.1 dX12_handOf_148 rfl ?_
    refine lv_goto (tgt := 179) X.1 X.2.1 dX12_handOf_150 (by decide) ?_
    exact w_X12_handOf_179 X s0 x12 41   hW (lv_sub hl [2, 1, 0] rfl) h
set_option maxRecDepth 100000 in
set_option maxHeartbeats 4000000 in
theorem w_X12_handOf_133 {p : Program} {l : Launch} {e : Env} {s : State} {m : MethodId} {args : Array Value} {below : List Frame} {meth : Method} {c : Code} {G : xG} {sz : Nat} {o : Int32 × Mm} (X : xC G true sz p s m args c cX12_handOf 4 wsX12_handOf RX12 meth (some .int))    {S : Mm} {H : Heap} {locs : List Loc} {ls : Array Slot} (hW : xW G true sz s H locs S) (hl : lv_has ls 4 [(0, .ref (G.2.2 200 0))]) (h : L_X12_handOf_133   S = some o) : wX p l e rmX12_handOf s m args below meth c H locs (xQi G true sz o) (XA G true sz) 133 ls [] := by
  unfold L_X12_handOf_133 at h
  refine lv_iconst (v := 0) X.1 X.2.1 dX12_handOf_133 rfl ?_
  exact w_X12_handOf_134 X 0   hW (lv_sub hl [0] rfl) h
set_option maxRecDepth 100000 in
set_option maxHeartbeats 4000000 in
theorem w_X12_handOf_0 {p : Program} {l : Launch} {e : Env} {s : State} {m : MethodId} {args : Array Value} {below : List Frame} {meth : Method} {c : Code} {G : xG} {sz : Nat} {o : Int32 × Mm} (X : xC G true sz p s m args c cX12_handOf 4 wsX12_handOf RX12 meth (some .int))  {S : Mm} {H : Heap} {locs : List Loc} {ls : Array Slot} (hW : xW G true sz s H locs S) (hl : lv_has ls 4 [(0, .ref (G.2.2 200 0))]) (h : F_X12_handOf  S = some o) : wX p l e rmX12_handOf s m args below meth c H locs (xQi G true sz o) (XA G true sz) 0 ls [] := by
  unfold F_X12_handOf at h
  refine lv_aload_n X.1 X.2.1 dX12_handOf_0 rfl (lv_at hl 0 rfl) ?_
  refine x_getR X hW fd_Model_seen (fun w h => List.mem_cons_of_mem _ (gin_X12 w h)) (List.mem_cons_of_mem _ gw233) z_1 dX12_handOf_1 ?_
  refine lv_bipush (v := 22) X.1 X.2.1 dX12_handOf_4 rfl ?_
  refine x_iald X hW ar_278 dX12_handOf_6 h (fun x1 h => ?_)
  refine lv_bipush (v := 15) X.1 X.2.1 dX12_handOf_7 rfl ?_
  refine lv_iand X.1 X.2.1 dX12_handOf_9 ?_
  refine x_if_ne X (tgt := 34) dX12_handOf_10 (by decide) h (fun h => ?_) (fun h => ?_)
  · exact w_X12_handOf_34 X    hW (lv_sub hl [] rfl) h
  · refine lv_aload_n X.1 X.2.1 dX12_handOf_13 rfl (lv_at hl 0 rfl) ?_
    refine x_getR X hW fd_Model_seen (fun w h => List.mem_cons_of_mem _ (gin_X12 w h)) (List.mem_cons_of_mem _ gw233) z_1 dX12_handOf_14 ?_
    refine lv_iconst (v := 1) X.1 X.2.1 dX12_handOf_17 rfl ?_
    refine x_iald X hW ar_278 dX12_handOf_18 h (fun x2 h => ?_)
    refine lv_bipush (v := 68) X.1 X.2.1 dX12_handOf_19 rfl ?_
    refine lv_iand X.1 X.2.1 dX12_handOf_21 ?_
    refine x_if_ne X (tgt := 34) dX12_handOf_22 (by decide) h (fun h => ?_) (fun h => ?_)
    · exact w_X12_handOf_34 X    hW (lv_sub hl [] rfl) h
    · refine lv_aload_n X.1 X.2.1 dX12_handOf_25 rfl (lv_at hl 0 rfl) ?_
      refine x_getI X hW fd_Model_seenLen (fun w h => List.mem_cons_of_mem _ (gin_X12 w h)) (List.mem_cons_of_mem _ gw1097) z_1 dX12_handOf_26 h (fun x3 h => ?_)
      refine lv_bipush (v := 37) X.1 X.2.1 dX12_handOf_29 rfl ?_
      refine x_icmp_ge X (tgt := 36) dX12_handOf_31 (by decide) h (fun h => ?_) (fun h => ?_)
      · refine lv_aload_n X.1 X.2.1 dX12_handOf_36 rfl (lv_at hl 0 rfl) ?_
        refine x_getR X hW fd_Model_seen (fun w h => List.mem_cons_of_mem _ (gin_X12 w h)) (List.mem_cons_of_mem _ gw233) z_1 dX12_handOf_37 ?_
        refine lv_bipush (v := 24) X.1 X.2.1 dX12_handOf_40 rfl ?_
        refine x_iald X hW ar_278 dX12_handOf_42 h (fun x4 h => ?_)
        refine lv_sipush (v := 170) X.1 X.2.1 dX12_handOf_43 rfl ?_
        refine x_icmp_ne X (tgt := 133) dX12_handOf_46 (by decide) h (fun h => ?_) (fun h => ?_)
        · exact w_X12_handOf_133 X    hW (lv_sub hl [0] rfl) h
        · refine lv_aload_n X.1 X.2.1 dX12_handOf_49 rfl (lv_at hl 0 rfl) ?_
          refine x_getR X hW fd_Model_seen (fun w h => List.mem_cons_of_mem _ (gin_X12 w h)) (List.mem_cons_of_mem _ gw233) z_1 dX12_handOf_50 ?_
          refine lv_bipush (v := 25) X.1 X.2.1 dX12_handOf_53 rfl ?_
          refine x_iald X hW ar_278 dX12_handOf_55 h (fun x5 h => ?_)
          refine lv_sipush (v := 170) X.1 X.2.1 dX12_handOf_56 rfl ?_
          refine x_icmp_ne X (tgt := 133) dX12_handOf_59 (by decide) h (fun h => ?_) (fun h => ?_)
          · exact w_X12_handOf_133 X    hW (lv_sub hl [0] rfl) h
          · refine lv_aload_n X.1 X.2.1 dX12_handOf_62 rfl (lv_at hl 0 rfl) ?_
            refine x_getR X hW fd_Model_seen (fun w h => List.mem_cons_of_mem _ (gin_X12 w h)) (List.mem_cons_of_mem _ gw233) z_1 dX12_handOf_63 ?_
            refine lv_bipush (v := 26) X.1 X.2.1 dX12_handOf_66 rfl ?_
            refine x_iald X hW ar_278 dX12_handOf_68 h (fun x6 h => ?_)
            refine lv_iconst (v := 3) X.1 X.2.1 dX12_handOf_69 rfl ?_
            refine x_icmp_ne X (tgt := 133) dX12_handOf_70 (by decide) h (fun h => ?_) (fun h => ?_)
            · exact w_X12_handOf_133 X    hW (lv_sub hl [0] rfl) h
            · refine lv_aload_n X.1 X.2.1 dX12_handOf_73 rfl (lv_at hl 0 rfl) ?_
              refine x_getR X hW fd_Model_seen (fun w h => List.mem_cons_of_mem _ (gin_X12 w h)) (List.mem_cons_of_mem _ gw233) z_1 dX12_handOf_74 ?_
              refine lv_bipush (v := 27) X.1 X.2.1 dX12_handOf_77 rfl ?_
              refine x_iald X hW ar_278 dX12_handOf_79 h (fun x7 h => ?_)
              refine x_if_ne X (tgt := 133) dX12_handOf_80 (by decide) h (fun h => ?_) (fun h => ?_)
              · exact w_X12_handOf_133 X    hW (lv_sub hl [0] rfl) h
              · refine lv_aload_n X.1 X.2.1 dX12_handOf_83 rfl (lv_at hl 0 rfl) ?_
                refine x_getR X hW fd_Model_seen (fun w h => List.mem_cons_of_mem _ (gin_X12 w h)) (List.mem_cons_of_mem _ gw233) z_1 dX12_handOf_84 ?_
                refine lv_bipush (v := 28) X.1 X.2.1 dX12_handOf_87 rfl ?_
                refine x_iald X hW ar_278 dX12_handOf_89 h (fun x8 h => ?_)
                refine x_if_ne X (tgt := 133) dX12_handOf_90 (by decide) h (fun h => ?_) (fun h => ?_)
                · exact w_X12_handOf_133 X    hW (lv_sub hl [0] rfl) h
                · refine lv_aload_n X.1 X.2.1 dX12_handOf_93 rfl (lv_at hl 0 rfl) ?_
                  refine x_getR X hW fd_Model_seen (fun w h => List.mem_cons_of_mem _ (gin_X12 w h)) (List.mem_cons_of_mem _ gw233) z_1 dX12_handOf_94 ?_
                  refine lv_bipush (v := 29) X.1 X.2.1 dX12_handOf_97 rfl ?_
                  refine x_iald X hW ar_278 dX12_handOf_99 h (fun x9 h => ?_)
                  refine x_if_ne X (tgt := 133) dX12_handOf_100 (by decide) h (fun h => ?_) (fun h => ?_)
                  · exact w_X12_handOf_133 X    hW (lv_sub hl [0] rfl) h
                  · refine lv_aload_n X.1 X.2.1 dX12_handOf_103 rfl (lv_at hl 0 rfl) ?_
                    refine x_getR X hW fd_Model_seen (fun w h => List.mem_cons_of_mem _ (gin_X12 w h)) (List.mem_cons_of_mem _ gw233) z_1 dX12_handOf_104 ?_
                    refine lv_bipush (v := 30) X.1 X.2.1 dX12_handOf_107 rfl ?_
                    refine x_iald X hW ar_278 dX12_handOf_109 h (fun x10 h => ?_)
                    refine lv_sipush (v := 136) X.1 X.2.1 dX12_handOf_110 rfl ?_
                    refine x_icmp_ne X (tgt := 133) dX12_handOf_113 (by decide) h (fun h => ?_) (fun h => ?_)
                    · exact w_X12_handOf_133 X    hW (lv_sub hl [0] rfl) h
                    · refine lv_aload_n X.1 X.2.1 dX12_handOf_116 rfl (lv_at hl 0 rfl) ?_
                      refine x_getR X hW fd_Model_seen (fun w h => List.mem_cons_of_mem _ (gin_X12 w h)) (List.mem_cons_of_mem _ gw233) z_1 dX12_handOf_117 ?_
                      refine lv_bipush (v := 31) X.1 X.2.1 dX12_handOf_120 rfl ?_
                      refine x_iald X hW ar_278 dX12_handOf_122 h (fun x11 h => ?_)
                      refine lv_sipush (v := 142) X.1 X.2.1 dX12_handOf_123 rfl ?_
                      refine x_icmp_ne X (tgt := 133) dX12_handOf_126 (by decide) h (fun h => ?_) (fun h => ?_)
                      · exact w_X12_handOf_133 X    hW (lv_sub hl [0] rfl) h
                      · refine lv_iconst (v := 1) X.1 X.2.1 dX12_handOf_129 rfl ?_
                        refine lv_goto (tgt := 134) X.1 X.2.1 dX12_handOf_130 (by decide) ?_
                        exact w_X12_handOf_134 X 1   hW (lv_sub hl [0] rfl) h
      · exact w_X12_handOf_34 X    hW (lv_sub hl [] rfl) h
theorem c_X12_handOf (l : Launch) (G : xG) (hD : xD G true) (sz : Nat) (S : Mm)  (o : Int32 × Mm) (h : F_X12_handOf  S = some o) : Met l yX12_handOf wsX12_handOf rmX12_handOf (xPre G true S sz [.ref (G.2.2 200 0)]) (xQi G true sz o) 0 0 (XA G true sz) :=
  x_start hD (by decide) rfl (Nat.le_of_ble_eq_true rfl) (fun p e s m below meth c X hW ls hl => w_X12_handOf_0 X  hW hl h)

/-! WirelessCellModel.handAp(I)V -/
def rmX12_handAp : Room := { frames := 6, cells := 0, slots := 0, locals := 148 }
def F_X12_handAp (v1 : Int32) (S : Mm) : Option (Unit × Mm) :=
  cl (F_X12_handOf S) fun r1 S2 =>
  tp (9 + v1) fun x4 =>
  if r1 = 2 then (
  cl (F_X12_findTried x4 217 0 0 278 0 33 S2) fun r13 S14 =>
  cl (F_X12_isMac 233 0 0 278 0 32 33 S14) fun r16 S17 =>
  if r16 = 0 then (
  some ((), S17))
  else (
  cl (F_X12_keepTried x4 S17) fun r19 S20 =>
  cl (F_X12_sendsHand 0 v1 3 0 x4 S20) fun r22 S23 =>
  some ((), S23)))
  else (
  if r1 = 4 then (
  ldA S2 224 0 18 1 x4 fun x5 =>
  if x5 = 0 then (
  some ((), S2))
  else (
  cl (F_X12_isMac 223 0 (48 * x4) 278 0 32 1 S2) fun r6 S7 =>
  if r6 = 0 then (
  some ((), S7))
  else (
  cl (F_X12_keyBy x4 S7) fun r9 S10 =>
  stA S10 219 0 9 1 v1 4 fun S12 =>
  some ((), S12))))
  else (
  some ((), S2)))
set_option maxRecDepth 100000 in
set_option maxHeartbeats 4000000 in
theorem w_X12_handAp_0 {p : Program} {l : Launch} {e : Env} {s : State} {m : MethodId} {args : Array Value} {below : List Frame} {meth : Method} {c : Code} {G : xG} {sz : Nat} {o : Unit × Mm} (X : xC G true sz p s m args c cX12_handAp 4 wsX12_handAp RX12 meth none) (v1 : Int32) {S : Mm} {H : Heap} {locs : List Loc} {ls : Array Slot} (hW : xW G true sz s H locs S) (hl : lv_has ls 4 [(0, .ref (G.2.2 200 0)), (1, .int v1)]) (h : F_X12_handAp v1 S = some o) : wX p l e rmX12_handAp s m args below meth c H locs (xQv G true sz o) (XA G true sz) 0 ls [] := by
  unfold F_X12_handAp at h
  refine lv_aload_n X.1 X.2.1 dX12_handAp_0 rfl (lv_at hl 0 rfl) ?_
  obtain ⟨r1, S2, h3, h⟩ := cl_some h
  refine x_aftI X hW (x_runV (C := RX12) (a := G.2.2 200 0) (As := []) (rest := []) X hW (c_X12_handOf l G X.2.2.2.2.2.2.2.2.2.1 _ S _ h3) (cwV 0 X.2.2.2.2.1 (gV gw1193 gw1194 gw1195 gw5 gw1196) rfl rfl rfl ⟨rfl, hd_X12_handOf⟩ ⟨Nat.le_of_ble_eq_true rfl, Nat.le_of_ble_eq_true rfl⟩) (x_recv X hW ob_Model z_1) rfl hl.1 rfl (Nat.le_of_ble_eq_true rfl) dX12_handAp_1 ⟨Nat.zero_le _, Nat.zero_le _⟩) (fun H locs hW => ?_)
  refine lv_istore_n (lv' := [(2, .int r1), (0, .ref (G.2.2 200 0)), (1, .int v1)]) X.1 X.2.1 dX12_handAp_4 rfl hl (by decide) rfl (fun ls hl => ?_)
  refine lv_bipush (v := 9) X.1 X.2.1 dX12_handAp_5 rfl ?_
  refine lv_iload_n X.1 X.2.1 dX12_handAp_7 rfl (lv_at hl 2 rfl) ?_
  refine lv_iadd X.1 X.2.1 dX12_handAp_8 ?_
  refine x_top h (fun x4 h => ?_)
  refine lv_istore_n (lv' := [(3, .int x4), (2, .int r1), (0, .ref (G.2.2 200 0)), (1, .int v1)]) X.1 X.2.1 dX12_handAp_9 rfl hl (by decide) rfl (fun ls hl => ?_)
  refine lv_iload_n X.1 X.2.1 dX12_handAp_10 rfl (lv_at hl 1 rfl) ?_
  refine lv_iconst (v := 2) X.1 X.2.1 dX12_handAp_11 rfl ?_
  refine x_icmp_ne X (tgt := 68) dX12_handAp_12 (by decide) h (fun h => ?_) (fun h => ?_)
  · refine lv_iload_n X.1 X.2.1 dX12_handAp_68 rfl (lv_at hl 1 rfl) ?_
    refine lv_iconst (v := 4) X.1 X.2.1 dX12_handAp_69 rfl ?_
    refine x_icmp_ne X (tgt := 116) dX12_handAp_70 (by decide) h (fun h => ?_) (fun h => ?_)
    · exact x_vret X hW h dX12_handAp_116
    · refine lv_aload_n X.1 X.2.1 dX12_handAp_73 rfl (lv_at hl 2 rfl) ?_
      refine x_getR X hW fd_Model_hasTried (fun w h => List.mem_cons_of_mem _ (gin_X12 w h)) (List.mem_cons_of_mem _ gw174) z_1 dX12_handAp_74 ?_
      refine lv_iload_n X.1 X.2.1 dX12_handAp_77 rfl (lv_at hl 0 rfl) ?_
      refine x_zald X hW ar_224 dX12_handAp_78 h (fun x5 h => ?_)
      refine x_if_eq X (tgt := 116) dX12_handAp_79 (by decide) h (fun h => ?_) (fun h => ?_)
      · exact x_vret X hW h dX12_handAp_116
      · refine lv_aload_n X.1 X.2.1 dX12_handAp_82 rfl (lv_at hl 2 rfl) ?_
        refine lv_aload_n X.1 X.2.1 dX12_handAp_83 rfl (lv_at hl 2 rfl) ?_
        refine x_getR X hW fd_Model_tried (fun w h => List.mem_cons_of_mem _ (gin_X12 w h)) (List.mem_cons_of_mem _ gw173) z_1 dX12_handAp_84 ?_
        refine lv_bipush (v := 48) X.1 X.2.1 dX12_handAp_87 rfl ?_
        refine lv_iload_n X.1 X.2.1 dX12_handAp_89 rfl (lv_at hl 0 rfl) ?_
        refine lv_imul X.1 X.2.1 dX12_handAp_90 ?_
        refine lv_aload_n X.1 X.2.1 dX12_handAp_91 rfl (lv_at hl 2 rfl) ?_
        refine x_getR X hW fd_Model_seen (fun w h => List.mem_cons_of_mem _ (gin_X12 w h)) (List.mem_cons_of_mem _ gw233) z_1 dX12_handAp_92 ?_
        refine lv_bipush (v := 32) X.1 X.2.1 dX12_handAp_95 rfl ?_
        refine lv_iconst (v := 1) X.1 X.2.1 dX12_handAp_97 rfl ?_
        obtain ⟨r6, S7, h8, h⟩ := cl_some h
        refine x_aftI X hW (x_runV (C := RX12) (a := G.2.2 200 0) (As := [.ref (G.2.2 223 0), .int (48 * x4), .ref (G.2.2 278 0), .int 32, .int 1]) (rest := []) X hW (c_X12_isMac l G X.2.2.2.2.2.2.2.2.2.1 _ S2 223 0 (48 * x4) 278 0 32 1 _ h8) (cwV 5 X.2.2.2.2.1 (gV gw1213 gw1214 gw1215 gw5 gw1216) rfl rfl rfl ⟨rfl, hd_X12_isMac⟩ ⟨Nat.le_of_ble_eq_true rfl, Nat.le_of_ble_eq_true rfl⟩) (x_recv X hW ob_Model z_1) rfl hl.1 rfl (Nat.le_of_ble_eq_true rfl) dX12_handAp_98 ⟨Nat.zero_le _, Nat.zero_le _⟩) (fun H locs hW => ?_)
        refine x_if_eq X (tgt := 116) dX12_handAp_101 (by decide) h (fun h => ?_) (fun h => ?_)
        · exact x_vret X hW h dX12_handAp_116
        · refine lv_aload_n X.1 X.2.1 dX12_handAp_104 rfl (lv_at hl 2 rfl) ?_
          refine lv_iload_n X.1 X.2.1 dX12_handAp_105 rfl (lv_at hl 0 rfl) ?_
          obtain ⟨r9, S10, h11, h⟩ := cl_some h
          refine x_aftV X hW (x_runV (C := RX12) (a := G.2.2 200 0) (As := [.int x4]) (rest := []) X hW (c_X12_keyBy l G X.2.2.2.2.2.2.2.2.2.1 _ S7 x4 _ h11) (cwV 1 X.2.2.2.2.1 (gV gw1221 gw1222 gw1223 gw5 gw1224) rfl rfl rfl ⟨rfl, hd_X12_keyBy⟩ ⟨Nat.le_of_ble_eq_true rfl, Nat.le_of_ble_eq_true rfl⟩) (x_recv X hW ob_Model z_1) rfl hl.1 rfl (Nat.le_of_ble_eq_true rfl) dX12_handAp_106 ⟨Nat.zero_le _, Nat.zero_le _⟩) (fun H locs hW => ?_)
          refine lv_aload_n X.1 X.2.1 dX12_handAp_109 rfl (lv_at hl 2 rfl) ?_
          refine x_getR X hW fd_Model_asState (fun w h => List.mem_cons_of_mem _ (gin_X12 w h)) (List.mem_cons_of_mem _ gw169) z_1 dX12_handAp_110 ?_
          refine lv_iload_n X.1 X.2.1 dX12_handAp_113 rfl (lv_at hl 3 rfl) ?_
          refine lv_iconst (v := 4) X.1 X.2.1 dX12_handAp_114 rfl ?_
          refine x_iast X hW ar_219 dX12_handAp_115 h (fun S12 H locs h hW => ?_)
          exact x_vret X hW h dX12_handAp_116
  · refine lv_aload_n X.1 X.2.1 dX12_handAp_15 rfl (lv_at hl 2 rfl) ?_
    refine lv_iload_n X.1 X.2.1 dX12_handAp_16 rfl (lv_at hl 0 rfl) ?_
    refine lv_aload_n X.1 X.2.1 dX12_handAp_17 rfl (lv_at hl 2 rfl) ?_
    refine x_getR X hW fd_Model_nonces (fun w h => List.mem_cons_of_mem _ (gin_X12 w h)) (List.mem_cons_of_mem _ gw167) z_1 dX12_handAp_18 ?_
    refine lv_iconst (v := 0) X.1 X.2.1 dX12_handAp_21 rfl ?_
    refine lv_aload_n X.1 X.2.1 dX12_handAp_22 rfl (lv_at hl 2 rfl) ?_
    refine x_getR X hW fd_Model_seen (fun w h => List.mem_cons_of_mem _ (gin_X12 w h)) (List.mem_cons_of_mem _ gw233) z_1 dX12_handAp_23 ?_
    refine lv_bipush (v := 33) X.1 X.2.1 dX12_handAp_26 rfl ?_
    obtain ⟨r13, S14, h15, h⟩ := cl_some h
    refine x_aftV X hW (x_runV (C := RX12) (a := G.2.2 200 0) (As := [.int x4, .ref (G.2.2 217 0), .int 0, .ref (G.2.2 278 0), .int 33]) (rest := []) X hW (c_X12_findTried l G X.2.2.2.2.2.2.2.2.2.1 _ S2 x4 217 0 0 278 0 33 _ h15) (cwV 5 X.2.2.2.2.1 (gV gw1197 gw1198 gw1199 gw5 gw1200) rfl rfl rfl ⟨rfl, hd_X12_findTried⟩ ⟨Nat.le_of_ble_eq_true rfl, Nat.le_of_ble_eq_true rfl⟩) (x_recv X hW ob_Model z_1) rfl hl.1 rfl (Nat.le_of_ble_eq_true rfl) dX12_handAp_28 ⟨Nat.zero_le _, Nat.zero_le _⟩) (fun H locs hW => ?_)
    refine lv_aload_n X.1 X.2.1 dX12_handAp_31 rfl (lv_at hl 2 rfl) ?_
    refine lv_aload_n X.1 X.2.1 dX12_handAp_32 rfl (lv_at hl 2 rfl) ?_
    refine x_getR X hW fd_Model_fresh (fun w h => List.mem_cons_of_mem _ (gin_X12 w h)) (List.mem_cons_of_mem _ gw184) z_1 dX12_handAp_33 ?_
    refine lv_iconst (v := 0) X.1 X.2.1 dX12_handAp_36 rfl ?_
    refine lv_aload_n X.1 X.2.1 dX12_handAp_37 rfl (lv_at hl 2 rfl) ?_
    refine x_getR X hW fd_Model_seen (fun w h => List.mem_cons_of_mem _ (gin_X12 w h)) (List.mem_cons_of_mem _ gw233) z_1 dX12_handAp_38 ?_
    refine lv_bipush (v := 32) X.1 X.2.1 dX12_handAp_41 rfl ?_
    refine lv_bipush (v := 33) X.1 X.2.1 dX12_handAp_43 rfl ?_
    obtain ⟨r16, S17, h18, h⟩ := cl_some h
    refine x_aftI X hW (x_runV (C := RX12) (a := G.2.2 200 0) (As := [.ref (G.2.2 233 0), .int 0, .ref (G.2.2 278 0), .int 32, .int 33]) (rest := []) X hW (c_X12_isMac l G X.2.2.2.2.2.2.2.2.2.1 _ S14 233 0 0 278 0 32 33 _ h18) (cwV 5 X.2.2.2.2.1 (gV gw1213 gw1214 gw1215 gw5 gw1216) rfl rfl rfl ⟨rfl, hd_X12_isMac⟩ ⟨Nat.le_of_ble_eq_true rfl, Nat.le_of_ble_eq_true rfl⟩) (x_recv X hW ob_Model z_1) rfl hl.1 rfl (Nat.le_of_ble_eq_true rfl) dX12_handAp_45 ⟨Nat.zero_le _, Nat.zero_le _⟩) (fun H locs hW => ?_)
    refine x_if_eq X (tgt := 116) dX12_handAp_48 (by decide) h (fun h => ?_) (fun h => ?_)
    · exact x_vret X hW h dX12_handAp_116
    · refine lv_aload_n X.1 X.2.1 dX12_handAp_51 rfl (lv_at hl 2 rfl) ?_
      refine lv_iload_n X.1 X.2.1 dX12_handAp_52 rfl (lv_at hl 0 rfl) ?_
      obtain ⟨r19, S20, h21, h⟩ := cl_some h
      refine x_aftV X hW (x_runV (C := RX12) (a := G.2.2 200 0) (As := [.int x4]) (rest := []) X hW (c_X12_keepTried l G X.2.2.2.2.2.2.2.2.2.1 _ S17 x4 _ h21) (cwV 1 X.2.2.2.2.1 (gV gw1217 gw1218 gw1219 gw5 gw1220) rfl rfl rfl ⟨rfl, hd_X12_keepTried⟩ ⟨Nat.le_of_ble_eq_true rfl, Nat.le_of_ble_eq_true rfl⟩) (x_recv X hW ob_Model z_1) rfl hl.1 rfl (Nat.le_of_ble_eq_true rfl) dX12_handAp_53 ⟨Nat.zero_le _, Nat.zero_le _⟩) (fun H locs hW => ?_)
      refine lv_aload_n X.1 X.2.1 dX12_handAp_56 rfl (lv_at hl 2 rfl) ?_
      refine lv_iconst (v := 0) X.1 X.2.1 dX12_handAp_57 rfl ?_
      refine lv_iload_n X.1 X.2.1 dX12_handAp_58 rfl (lv_at hl 3 rfl) ?_
      refine lv_iconst (v := 3) X.1 X.2.1 dX12_handAp_59 rfl ?_
      refine lv_iconst (v := 0) X.1 X.2.1 dX12_handAp_60 rfl ?_
      refine lv_iload_n X.1 X.2.1 dX12_handAp_61 rfl (lv_at hl 0 rfl) ?_
      obtain ⟨r22, S23, h24, h⟩ := cl_some h
      refine x_aftV X hW (x_runV (C := RX12) (a := G.2.2 200 0) (As := [.int 0, .int v1, .int 3, .int 0, .int x4]) (rest := []) X hW (c_X12_sendsHand l G X.2.2.2.2.2.2.2.2.2.1 _ S20 0 v1 3 0 x4 _ h24) (cwV 5 X.2.2.2.2.1 (gV gw1131 gw1132 gw1133 gw5 gw1134) rfl rfl rfl ⟨rfl, hd_X12_sendsHand⟩ ⟨Nat.le_of_ble_eq_true rfl, Nat.le_of_ble_eq_true rfl⟩) (x_recv X hW ob_Model z_1) rfl hl.1 rfl (Nat.le_of_ble_eq_true rfl) dX12_handAp_62 ⟨Nat.zero_le _, Nat.zero_le _⟩) (fun H locs hW => ?_)
      refine lv_goto (tgt := 116) X.1 X.2.1 dX12_handAp_65 (by decide) ?_
      exact x_vret X hW h dX12_handAp_116
theorem c_X12_handAp (l : Launch) (G : xG) (hD : xD G true) (sz : Nat) (S : Mm) (v1 : Int32) (o : Unit × Mm) (h : F_X12_handAp v1 S = some o) : Met l yX12_handAp wsX12_handAp rmX12_handAp (xPre G true S sz [.ref (G.2.2 200 0), .int v1]) (xQv G true sz o) 0 0 (XA G true sz) :=
  x_start hD (by decide) rfl (Nat.le_of_ble_eq_true rfl) (fun p e s m below meth c X hW ls hl => w_X12_handAp_0 X v1 hW hl h)

/-! WirelessCellModel.actsAp(I)V -/
def rmX12_actsAp : Room := { frames := 7, cells := 0, slots := 0, locals := 171 }
def L_X12_actsAp_91 (k72 : Int32 → Mm → Option (Unit × Mm)) (v1 : Int32) (v4 : Int32) (s1 : Int32) (S : Mm) : Option (Unit × Mm) :=
  cl (F_X12_add s1 S) fun r41 S42 =>
  k72 (v4 + 1) S42
def L_X12_actsAp_72  (v1 : Int32) : Nat → Int32 → Mm → Option (Unit × Mm)
  | 0, _, _ => none
  | n + 1, v4, S => 
    if 6 ≤ v4 then (
    cl (F_X12_enqueue 0 176 v1 0 (-1) S) fun r38 S39 =>
    some ((), S39))
    else (
    if v4 = 2 then (
    L_X12_actsAp_91 (L_X12_actsAp_72 v1 n) v1 v4 2 S)
    else (
    L_X12_actsAp_91 (L_X12_actsAp_72 v1 n) v1 v4 0 S))
def F_X12_actsAp (v1 : Int32) (S : Mm) : Option (Unit × Mm) :=
  ldA S 278 0 300 1 0 fun x1 =>
  tp (9 + v1) fun x2 =>
  if x1 = 176 then (
  cl (F_X12_isBody 6 0 0 1 0 S) fun r28 S29 =>
  if r28 = 0 then (
  some ((), S29))
  else (
  ldA S29 278 0 300 1 28 fun x31 =>
  if x31 = 0 then (
  ldA S29 278 0 300 1 29 fun x32 =>
  if x32 = 0 then (
  stA S29 219 0 9 1 v1 2 fun S33 =>
  cl (F_X12_unkey x2 S33) fun r34 S35 =>
  pf S35 297 0 0 fun S37 =>
  L_X12_actsAp_72  v1 fu 0 S37)
  else (
  some ((), S29)))
  else (
  some ((), S29))))
  else (
  if x1 = 0 then (
  cl (F_X12_isBody 4 1 0 10 0 S) fun r22 S23 =>
  if r22 = 0 then (
  some ((), S23))
  else (
  cl (F_X12_asks v1 S23) fun r25 S26 =>
  some ((), S26)))
  else (
  if x1 = 192 then (
  gf S 307 0 fun x16 =>
  if x16 = 30 then (
  ldA S 278 0 300 1 25 fun x17 =>
  if x17 = 0 then (
  stA S 219 0 9 1 v1 1 fun S18 =>
  cl (F_X12_unkey x2 S18) fun r19 S20 =>
  some ((), S20))
  else (
  some ((), S)))
  else (
  some ((), S)))
  else (
  if x1 = 8 then (
  ldA S 278 0 300 1 1 fun x3 =>
  if (x3 &&& 3) = 1 then (
  ldA S 278 0 300 1 1 fun x4 =>
  if (x4 &&& 64) = 0 then (
  ldA S 219 0 9 1 v1 fun x5 =>
  if x5 < 3 then (
  some ((), S))
  else (
  cl (F_X12_handAp v1 S) fun r6 S7 =>
  some ((), S7)))
  else (
  ldA S 219 0 9 1 v1 fun x9 =>
  if x9 = 4 then (
  cl (F_X12_opens x2 v1 S) fun r13 S14 =>
  some ((), S14))
  else (
  cl (F_X12_sendsEnd 0 v1 7 S) fun r10 S11 =>
  some ((), S11))))
  else (
  some ((), S)))
  else (
  some ((), S)))))
set_option maxRecDepth 100000 in
set_option maxHeartbeats 4000000 in
theorem w_X12_actsAp_91 {p : Program} {l : Launch} {e : Env} {s : State} {m : MethodId} {args : Array Value} {below : List Frame} {meth : Method} {c : Code} {G : xG} {sz : Nat} {o : Unit × Mm} (X : xC G true sz p s m args c cX12_actsAp 5 wsX12_actsAp RX12 meth none) (v1 : Int32) (v4 : Int32) (s1 : Int32)  (k72 : Int32 → Mm → Option (Unit × Mm)) (hk72 : ∀ (v4 : Int32) (S : Mm) (H : Heap) (locs : List Loc) (ls : Array Slot), k72 v4 S = some o → xW G true sz s H locs S → lv_has ls 5 [(0, .ref (G.2.2 200 0)), (1, .int v1), (4, .int v4)] → wX p l e rmX12_actsAp s m args below meth c H locs (xQv G true sz o) (XA G true sz) 72 ls []) {S : Mm} {H : Heap} {locs : List Loc} {ls : Array Slot} (hW : xW G true sz s H locs S) (hl : lv_has ls 5 [(0, .ref (G.2.2 200 0)), (1, .int v1), (4, .int v4)]) (h : L_X12_actsAp_91 k72 v1 v4 s1 S = some o) : wX p l e rmX12_actsAp s m args below meth c H locs (xQv G true sz o) (XA G true sz) 91 ls [.int s1, .ref (G.2.2 200 0)] := by
  unfold L_X12_actsAp_91 at h
  obtain ⟨r41, S42, h43, h⟩ := cl_some h
  refine x_aftV X hW (x_runV (C := RX12) (a := G.2.2 200 0) (As := [.int s1]) (rest := []) X hW (c_X12_add l G X.2.2.2.2.2.2.2.2.2.1 _ S s1 _ h43) (cwV 1 X.2.2.2.2.1 (gV gw530 gw531 gw532 gw5 gw533) rfl rfl rfl ⟨rfl, hd_X12_add⟩ ⟨Nat.le_of_ble_eq_true rfl, Nat.le_of_ble_eq_true rfl⟩) (x_recv X hW ob_Model z_1) rfl hl.1 rfl (Nat.le_of_ble_eq_true rfl) dX12_actsAp_91 ⟨Nat.zero_le _, Nat.zero_le _⟩) (fun H locs hW => ?_)
  refine lv_iinc (v := (v4 + 1)) (lv' := [(4, .int (v4 + 1)), (0, .ref (G.2.2 200 0)), (1, .int v1)]) X.1 X.2.1 dX12_actsAp_94 hl (k := 2) rfl rfl (by decide) rfl (fun ls hl => ?_)
  refine lv_goto (tgt := 72) X.1 X.2.1 dX12_actsAp_97 (by decide) ?_
  exact hk72 (v4 + 1) S42 _ _ _ h hW  (lv_sub hl [1, 2, 0] rfl)
set_option maxRecDepth 100000 in
set_option maxHeartbeats 4000000 in
theorem w_X12_actsAp_72 {p : Program} {l : Launch} {e : Env} {s : State} {m : MethodId} {args : Array Value} {below : List Frame} {meth : Method} {c : Code} {G : xG} {sz : Nat} {o : Unit × Mm} (X : xC G true sz p s m args c cX12_actsAp 5 wsX12_actsAp RX12 meth none) (v1 : Int32)   : ∀ (n : Nat) (v4 : Int32) (S : Mm) (H : Heap) (locs : List Loc) (ls : Array Slot), L_X12_actsAp_72 v1 n v4 S = some o → xW G true sz s H locs S → lv_has ls 5 [(0, .ref (G.2.2 200 0)), (1, .int v1), (4, .int v4)] → wX p l e rmX12_actsAp s m args below meth c H locs (xQv G true sz o) (XA G true sz) 72 ls [] := by
  intro n
  induction n with
  | zero =>
    intro v4 S H locs ls h
    cases h
  | succ n ih =>
    intro v4 S H locs ls h hW  hl
    rw [L_X12_actsAp_72] at h
    refine lv_iload X.1 X.2.1 dX12_actsAp_72 (lv_at hl 2 rfl) ?_
    refine lv_bipush (v := 6) X.1 X.2.1 dX12_actsAp_74 rfl ?_
    refine x_icmp_ge X (tgt := 100) dX12_actsAp_76 (by decide) h (fun h => ?_) (fun h => ?_)
    · refine lv_aload_n X.1 X.2.1 dX12_actsAp_100 rfl (lv_at hl 0 rfl) ?_
      refine lv_iconst (v := 0) X.1 X.2.1 dX12_actsAp_101 rfl ?_
      refine lv_sipush (v := 176) X.1 X.2.1 dX12_actsAp_102 rfl ?_
      refine lv_iload_n X.1 X.2.1 dX12_actsAp_105 rfl (lv_at hl 1 rfl) ?_
      refine lv_iconst (v := 0) X.1 X.2.1 dX12_actsAp_106 rfl ?_
      refine lv_iconst (v := (-1)) X.1 X.2.1 dX12_actsAp_107 rfl ?_
      obtain ⟨r38, S39, h40, h⟩ := cl_some h
      refine x_aftV X hW (x_runV (C := RX12) (a := G.2.2 200 0) (As := [.int 0, .int 176, .int v1, .int 0, .int (-1)]) (rest := []) X hW (c_X12_enqueue l G X.2.2.2.2.2.2.2.2.2.1 _ S 0 176 v1 0 (-1) _ h40) (cwV 5 X.2.2.2.2.1 (gV gw534 gw535 gw536 gw5 gw537) rfl rfl rfl ⟨rfl, hd_X12_enqueue⟩ ⟨Nat.le_of_ble_eq_true rfl, Nat.le_of_ble_eq_true rfl⟩) (x_recv X hW ob_Model z_1) rfl hl.1 rfl (Nat.le_of_ble_eq_true rfl) dX12_actsAp_108 ⟨Nat.zero_le _, Nat.zero_le _⟩) (fun H locs hW => ?_)
      refine lv_goto (tgt := 255) X.1 X.2.1 dX12_actsAp_111 (by decide) ?_
      exact x_vret X hW h dX12_actsAp_255
    · refine lv_aload_n X.1 X.2.1 dX12_actsAp_79 rfl (lv_at hl 0 rfl) ?_
      refine lv_iload X.1 X.2.1 dX12_actsAp_80 (lv_at hl 2 rfl) ?_
      refine lv_iconst (v := 2) X.1 X.2.1 dX12_actsAp_82 rfl ?_
      refine x_icmp_ne X (tgt := 90) dX12_actsAp_83 (by decide) h (fun h => ?_) (fun h => ?_)
      · refine lv_iconst (v := 0) X.1 X.2.1 dX12_actsAp_90 rfl ?_
        exact w_X12_actsAp_91 X v1 v4 0  (L_X12_actsAp_72 v1 n) ih hW (lv_sub hl [0, 1, 2] rfl) h
      · refine lv_iconst (v := 2) X.1 X.2.1 dX12_actsAp_86 rfl ?_
        refine lv_goto (tgt := 91) X.1 X.2.1 dX12_actsAp_87 (by decide) ?_
        exact w_X12_actsAp_91 X v1 v4 2  (L_X12_actsAp_72 v1 n) ih hW (lv_sub hl [0, 1, 2] rfl) h
set_option maxRecDepth 100000 in
set_option maxHeartbeats 4000000 in
theorem w_X12_actsAp_0 {p : Program} {l : Launch} {e : Env} {s : State} {m : MethodId} {args : Array Value} {below : List Frame} {meth : Method} {c : Code} {G : xG} {sz : Nat} {o : Unit × Mm} (X : xC G true sz p s m args c cX12_actsAp 5 wsX12_actsAp RX12 meth none) (v1 : Int32) {S : Mm} {H : Heap} {locs : List Loc} {ls : Array Slot} (hW : xW G true sz s H locs S) (hl : lv_has ls 5 [(0, .ref (G.2.2 200 0)), (1, .int v1)]) (h : F_X12_actsAp v1 S = some o) : wX p l e rmX12_actsAp s m args below meth c H locs (xQv G true sz o) (XA G true sz) 0 ls [] := by
  unfold F_X12_actsAp at h
  refine lv_aload_n X.1 X.2.1 dX12_actsAp_0 rfl (lv_at hl 0 rfl) ?_
  refine x_getR X hW fd_Model_seen (fun w h => List.mem_cons_of_mem _ (gin_X12 w h)) (List.mem_cons_of_mem _ gw233) z_1 dX12_actsAp_1 ?_
  refine lv_iconst (v := 0) X.1 X.2.1 dX12_actsAp_4 rfl ?_
  refine x_iald X hW ar_278 dX12_actsAp_5 h (fun x1 h => ?_)
  refine lv_istore_n (lv' := [(2, .int x1), (0, .ref (G.2.2 200 0)), (1, .int v1)]) X.1 X.2.1 dX12_actsAp_6 rfl hl (by decide) rfl (fun ls hl => ?_)
  refine lv_bipush (v := 9) X.1 X.2.1 dX12_actsAp_7 rfl ?_
  refine lv_iload_n X.1 X.2.1 dX12_actsAp_9 rfl (lv_at hl 2 rfl) ?_
  refine lv_iadd X.1 X.2.1 dX12_actsAp_10 ?_
  refine x_top h (fun x2 h => ?_)
  refine lv_istore_n (lv' := [(3, .int x2), (2, .int x1), (0, .ref (G.2.2 200 0)), (1, .int v1)]) X.1 X.2.1 dX12_actsAp_11 rfl hl (by decide) rfl (fun ls hl => ?_)
  refine lv_iload_n X.1 X.2.1 dX12_actsAp_12 rfl (lv_at hl 1 rfl) ?_
  refine lv_sipush (v := 176) X.1 X.2.1 dX12_actsAp_13 rfl ?_
  refine x_icmp_ne X (tgt := 114) dX12_actsAp_16 (by decide) h (fun h => ?_) (fun h => ?_)
  · refine lv_iload_n X.1 X.2.1 dX12_actsAp_114 rfl (lv_at hl 1 rfl) ?_
    refine x_if_ne X (tgt := 139) dX12_actsAp_115 (by decide) h (fun h => ?_) (fun h => ?_)
    · refine lv_iload_n X.1 X.2.1 dX12_actsAp_139 rfl (lv_at hl 1 rfl) ?_
      refine lv_sipush (v := 192) X.1 X.2.1 dX12_actsAp_140 rfl ?_
      refine x_icmp_ne X (tgt := 180) dX12_actsAp_143 (by decide) h (fun h => ?_) (fun h => ?_)
      · refine lv_iload_n X.1 X.2.1 dX12_actsAp_180 rfl (lv_at hl 1 rfl) ?_
        refine lv_bipush (v := 8) X.1 X.2.1 dX12_actsAp_181 rfl ?_
        refine x_icmp_ne X (tgt := 255) dX12_actsAp_183 (by decide) h (fun h => ?_) (fun h => ?_)
        · exact x_vret X hW h dX12_actsAp_255
        · refine lv_aload_n X.1 X.2.1 dX12_actsAp_186 rfl (lv_at hl 2 rfl) ?_
          refine x_getR X hW fd_Model_seen (fun w h => List.mem_cons_of_mem _ (gin_X12 w h)) (List.mem_cons_of_mem _ gw233) z_1 dX12_actsAp_187 ?_
          refine lv_iconst (v := 1) X.1 X.2.1 dX12_actsAp_190 rfl ?_
          refine x_iald X hW ar_278 dX12_actsAp_191 h (fun x3 h => ?_)
          refine lv_iconst (v := 3) X.1 X.2.1 dX12_actsAp_192 rfl ?_
          refine lv_iand X.1 X.2.1 dX12_actsAp_193 ?_
          refine lv_iconst (v := 1) X.1 X.2.1 dX12_actsAp_194 rfl ?_
          refine x_icmp_ne X (tgt := 255) dX12_actsAp_195 (by decide) h (fun h => ?_) (fun h => ?_)
          · exact x_vret X hW h dX12_actsAp_255
          · refine lv_aload_n X.1 X.2.1 dX12_actsAp_198 rfl (lv_at hl 2 rfl) ?_
            refine x_getR X hW fd_Model_seen (fun w h => List.mem_cons_of_mem _ (gin_X12 w h)) (List.mem_cons_of_mem _ gw233) z_1 dX12_actsAp_199 ?_
            refine lv_iconst (v := 1) X.1 X.2.1 dX12_actsAp_202 rfl ?_
            refine x_iald X hW ar_278 dX12_actsAp_203 h (fun x4 h => ?_)
            refine lv_bipush (v := 64) X.1 X.2.1 dX12_actsAp_204 rfl ?_
            refine lv_iand X.1 X.2.1 dX12_actsAp_206 ?_
            refine x_if_eq X (tgt := 240) dX12_actsAp_207 (by decide) h (fun h => ?_) (fun h => ?_)
            · refine lv_aload_n X.1 X.2.1 dX12_actsAp_240 rfl (lv_at hl 2 rfl) ?_
              refine x_getR X hW fd_Model_asState (fun w h => List.mem_cons_of_mem _ (gin_X12 w h)) (List.mem_cons_of_mem _ gw169) z_1 dX12_actsAp_241 ?_
              refine lv_iload_n X.1 X.2.1 dX12_actsAp_244 rfl (lv_at hl 3 rfl) ?_
              refine x_iald X hW ar_219 dX12_actsAp_245 h (fun x5 h => ?_)
              refine lv_iconst (v := 3) X.1 X.2.1 dX12_actsAp_246 rfl ?_
              refine x_icmp_lt X (tgt := 255) dX12_actsAp_247 (by decide) h (fun h => ?_) (fun h => ?_)
              · exact x_vret X hW h dX12_actsAp_255
              · refine lv_aload_n X.1 X.2.1 dX12_actsAp_250 rfl (lv_at hl 2 rfl) ?_
                refine lv_iload_n X.1 X.2.1 dX12_actsAp_251 rfl (lv_at hl 3 rfl) ?_
                obtain ⟨r6, S7, h8, h⟩ := cl_some h
                refine x_aftV X hW (x_runV (C := RX12) (a := G.2.2 200 0) (As := [.int v1]) (rest := []) X hW (c_X12_handAp l G X.2.2.2.2.2.2.2.2.2.1 _ S v1 _ h8) (cwV 1 X.2.2.2.2.1 (gV gw1189 gw1190 gw1191 gw5 gw1192) rfl rfl rfl ⟨rfl, hd_X12_handAp⟩ ⟨Nat.le_of_ble_eq_true rfl, Nat.le_of_ble_eq_true rfl⟩) (x_recv X hW ob_Model z_1) rfl hl.1 rfl (Nat.le_of_ble_eq_true rfl) dX12_actsAp_252 ⟨Nat.zero_le _, Nat.zero_le _⟩) (fun H locs hW => ?_)
                exact x_vret X hW h dX12_actsAp_255
            · refine lv_aload_n X.1 X.2.1 dX12_actsAp_210 rfl (lv_at hl 2 rfl) ?_
              refine x_getR X hW fd_Model_asState (fun w h => List.mem_cons_of_mem _ (gin_X12 w h)) (List.mem_cons_of_mem _ gw169) z_1 dX12_actsAp_211 ?_
              refine lv_iload_n X.1 X.2.1 dX12_actsAp_214 rfl (lv_at hl 3 rfl) ?_
              refine x_iald X hW ar_219 dX12_actsAp_215 h (fun x9 h => ?_)
              refine lv_iconst (v := 4) X.1 X.2.1 dX12_actsAp_216 rfl ?_
              refine x_icmp_ne X (tgt := 229) dX12_actsAp_217 (by decide) h (fun h => ?_) (fun h => ?_)
              · refine lv_aload_n X.1 X.2.1 dX12_actsAp_229 rfl (lv_at hl 2 rfl) ?_
                refine lv_iconst (v := 0) X.1 X.2.1 dX12_actsAp_230 rfl ?_
                refine lv_iload_n X.1 X.2.1 dX12_actsAp_231 rfl (lv_at hl 3 rfl) ?_
                refine lv_bipush (v := 7) X.1 X.2.1 dX12_actsAp_232 rfl ?_
                obtain ⟨r10, S11, h12, h⟩ := cl_some h
                refine x_aftV X hW (x_runV (C := RX12) (a := G.2.2 200 0) (As := [.int 0, .int v1, .int 7]) (rest := []) X hW (c_X12_sendsEnd l G X.2.2.2.2.2.2.2.2.2.1 _ S 0 v1 7 _ h12) (cwV 3 X.2.2.2.2.1 (gV gw558 gw559 gw560 gw5 gw561) rfl rfl rfl ⟨rfl, hd_X12_sendsEnd⟩ ⟨Nat.le_of_ble_eq_true rfl, Nat.le_of_ble_eq_true rfl⟩) (x_recv X hW ob_Model z_1) rfl hl.1 rfl (Nat.le_of_ble_eq_true rfl) dX12_actsAp_234 ⟨Nat.zero_le _, Nat.zero_le _⟩) (fun H locs hW => ?_)
                refine lv_goto (tgt := 255) X.1 X.2.1 dX12_actsAp_237 (by decide) ?_
                exact x_vret X hW h dX12_actsAp_255
              · refine lv_aload_n X.1 X.2.1 dX12_actsAp_220 rfl (lv_at hl 2 rfl) ?_
                refine lv_iload_n X.1 X.2.1 dX12_actsAp_221 rfl (lv_at hl 0 rfl) ?_
                refine lv_iload_n X.1 X.2.1 dX12_actsAp_222 rfl (lv_at hl 3 rfl) ?_
                obtain ⟨r13, S14, h15, h⟩ := cl_some h
                refine x_aftV X hW (x_runV (C := RX12) (a := G.2.2 200 0) (As := [.int x2, .int v1]) (rest := []) X hW (c_X12_opens l G X.2.2.2.2.2.2.2.2.2.1 _ S x2 v1 _ h15) (cwV 2 X.2.2.2.2.1 (gV gw1173 gw1174 gw1175 gw5 gw1176) rfl rfl rfl ⟨rfl, hd_X12_opens⟩ ⟨Nat.le_of_ble_eq_true rfl, Nat.le_of_ble_eq_true rfl⟩) (x_recv X hW ob_Model z_1) rfl hl.1 rfl (Nat.le_of_ble_eq_true rfl) dX12_actsAp_223 ⟨Nat.zero_le _, Nat.zero_le _⟩) (fun H locs hW => ?_)
                refine lv_goto (tgt := 255) X.1 X.2.1 dX12_actsAp_226 (by decide) ?_
                exact x_vret X hW h dX12_actsAp_255
      · refine lv_aload_n X.1 X.2.1 dX12_actsAp_146 rfl (lv_at hl 2 rfl) ?_
        refine x_getI X hW fd_Model_seenLen (fun w h => List.mem_cons_of_mem _ (gin_X12 w h)) (List.mem_cons_of_mem _ gw1097) z_1 dX12_actsAp_147 h (fun x16 h => ?_)
        refine lv_bipush (v := 30) X.1 X.2.1 dX12_actsAp_150 rfl ?_
        refine x_icmp_ne X (tgt := 255) dX12_actsAp_152 (by decide) h (fun h => ?_) (fun h => ?_)
        · exact x_vret X hW h dX12_actsAp_255
        · refine lv_aload_n X.1 X.2.1 dX12_actsAp_155 rfl (lv_at hl 2 rfl) ?_
          refine x_getR X hW fd_Model_seen (fun w h => List.mem_cons_of_mem _ (gin_X12 w h)) (List.mem_cons_of_mem _ gw233) z_1 dX12_actsAp_156 ?_
          refine lv_bipush (v := 25) X.1 X.2.1 dX12_actsAp_159 rfl ?_
          refine x_iald X hW ar_278 dX12_actsAp_161 h (fun x17 h => ?_)
          refine x_if_ne X (tgt := 255) dX12_actsAp_162 (by decide) h (fun h => ?_) (fun h => ?_)
          · exact x_vret X hW h dX12_actsAp_255
          · refine lv_aload_n X.1 X.2.1 dX12_actsAp_165 rfl (lv_at hl 2 rfl) ?_
            refine x_getR X hW fd_Model_asState (fun w h => List.mem_cons_of_mem _ (gin_X12 w h)) (List.mem_cons_of_mem _ gw169) z_1 dX12_actsAp_166 ?_
            refine lv_iload_n X.1 X.2.1 dX12_actsAp_169 rfl (lv_at hl 3 rfl) ?_
            refine lv_iconst (v := 1) X.1 X.2.1 dX12_actsAp_170 rfl ?_
            refine x_iast X hW ar_219 dX12_actsAp_171 h (fun S18 H locs h hW => ?_)
            refine lv_aload_n X.1 X.2.1 dX12_actsAp_172 rfl (lv_at hl 2 rfl) ?_
            refine lv_iload_n X.1 X.2.1 dX12_actsAp_173 rfl (lv_at hl 0 rfl) ?_
            obtain ⟨r19, S20, h21, h⟩ := cl_some h
            refine x_aftV X hW (x_runV (C := RX12) (a := G.2.2 200 0) (As := [.int x2]) (rest := []) X hW (c_X12_unkey l G X.2.2.2.2.2.2.2.2.2.1 _ S18 x2 _ h21) (cwV 1 X.2.2.2.2.1 (gV gw526 gw527 gw528 gw5 gw529) rfl rfl rfl ⟨rfl, hd_X12_unkey⟩ ⟨Nat.le_of_ble_eq_true rfl, Nat.le_of_ble_eq_true rfl⟩) (x_recv X hW ob_Model z_1) rfl hl.1 rfl (Nat.le_of_ble_eq_true rfl) dX12_actsAp_174 ⟨Nat.zero_le _, Nat.zero_le _⟩) (fun H locs hW => ?_)
            refine lv_goto (tgt := 255) X.1 X.2.1 dX12_actsAp_177 (by decide) ?_
            exact x_vret X hW h dX12_actsAp_255
    · refine lv_aload_n X.1 X.2.1 dX12_actsAp_118 rfl (lv_at hl 2 rfl) ?_
      refine lv_iconst (v := 4) X.1 X.2.1 dX12_actsAp_119 rfl ?_
      refine lv_iconst (v := 1) X.1 X.2.1 dX12_actsAp_120 rfl ?_
      refine lv_iconst (v := 0) X.1 X.2.1 dX12_actsAp_121 rfl ?_
      refine lv_bipush (v := 10) X.1 X.2.1 dX12_actsAp_122 rfl ?_
      refine lv_iconst (v := 0) X.1 X.2.1 dX12_actsAp_124 rfl ?_
      obtain ⟨r22, S23, h24, h⟩ := cl_some h
      refine x_aftI X hW (x_runV (C := RX12) (a := G.2.2 200 0) (As := [.int 4, .int 1, .int 0, .int 10, .int 0]) (rest := []) X hW (c_X12_isBody l G X.2.2.2.2.2.2.2.2.2.1 _ S 4 1 0 10 0 _ h24) (cwV 5 X.2.2.2.2.1 (gV gw1123 gw1124 gw1125 gw5 gw1126) rfl rfl rfl ⟨rfl, hd_X12_isBody⟩ ⟨Nat.le_of_ble_eq_true rfl, Nat.le_of_ble_eq_true rfl⟩) (x_recv X hW ob_Model z_1) rfl hl.1 rfl (Nat.le_of_ble_eq_true rfl) dX12_actsAp_125 ⟨Nat.zero_le _, Nat.zero_le _⟩) (fun H locs hW => ?_)
      refine x_if_eq X (tgt := 255) dX12_actsAp_128 (by decide) h (fun h => ?_) (fun h => ?_)
      · exact x_vret X hW h dX12_actsAp_255
      · refine lv_aload_n X.1 X.2.1 dX12_actsAp_131 rfl (lv_at hl 2 rfl) ?_
        refine lv_iload_n X.1 X.2.1 dX12_actsAp_132 rfl (lv_at hl 3 rfl) ?_
        obtain ⟨r25, S26, h27, h⟩ := cl_some h
        refine x_aftV X hW (x_runV (C := RX12) (a := G.2.2 200 0) (As := [.int v1]) (rest := []) X hW (c_X12_asks l G X.2.2.2.2.2.2.2.2.2.1 _ S23 v1 _ h27) (cwV 1 X.2.2.2.2.1 (gV gw1127 gw1128 gw1129 gw5 gw1130) rfl rfl rfl ⟨rfl, hd_X12_asks⟩ ⟨Nat.le_of_ble_eq_true rfl, Nat.le_of_ble_eq_true rfl⟩) (x_recv X hW ob_Model z_1) rfl hl.1 rfl (Nat.le_of_ble_eq_true rfl) dX12_actsAp_133 ⟨Nat.zero_le _, Nat.zero_le _⟩) (fun H locs hW => ?_)
        refine lv_goto (tgt := 255) X.1 X.2.1 dX12_actsAp_136 (by decide) ?_
        exact x_vret X hW h dX12_actsAp_255
  · refine lv_aload_n X.1 X.2.1 dX12_actsAp_19 rfl (lv_at hl 2 rfl) ?_
    refine lv_bipush (v := 6) X.1 X.2.1 dX12_actsAp_20 rfl ?_
    refine lv_iconst (v := 0) X.1 X.2.1 dX12_actsAp_22 rfl ?_
    refine lv_iconst (v := 0) X.1 X.2.1 dX12_actsAp_23 rfl ?_
    refine lv_iconst (v := 1) X.1 X.2.1 dX12_actsAp_24 rfl ?_
    refine lv_iconst (v := 0) X.1 X.2.1 dX12_actsAp_25 rfl ?_
    obtain ⟨r28, S29, h30, h⟩ := cl_some h
    refine x_aftI X hW (x_runV (C := RX12) (a := G.2.2 200 0) (As := [.int 6, .int 0, .int 0, .int 1, .int 0]) (rest := []) X hW (c_X12_isBody l G X.2.2.2.2.2.2.2.2.2.1 _ S 6 0 0 1 0 _ h30) (cwV 5 X.2.2.2.2.1 (gV gw1123 gw1124 gw1125 gw5 gw1126) rfl rfl rfl ⟨rfl, hd_X12_isBody⟩ ⟨Nat.le_of_ble_eq_true rfl, Nat.le_of_ble_eq_true rfl⟩) (x_recv X hW ob_Model z_1) rfl hl.1 rfl (Nat.le_of_ble_eq_true rfl) dX12_actsAp_26 ⟨Nat.zero_le _, Nat.zero_le _⟩) (fun H locs hW => ?_)
    refine x_if_eq X (tgt := 255) dX12_actsAp_29 (by decide) h (fun h => ?_) (fun h => ?_)
    · exact x_vret X hW h dX12_actsAp_255
    · refine lv_aload_n X.1 X.2.1 dX12_actsAp_32 rfl (lv_at hl 2 rfl) ?_
      refine x_getR X hW fd_Model_seen (fun w h => List.mem_cons_of_mem _ (gin_X12 w h)) (List.mem_cons_of_mem _ gw233) z_1 dX12_actsAp_33 ?_
      refine lv_bipush (v := 28) X.1 X.2.1 dX12_actsAp_36 rfl ?_
      refine x_iald X hW ar_278 dX12_actsAp_38 h (fun x31 h => ?_)
      refine x_if_ne X (tgt := 255) dX12_actsAp_39 (by decide) h (fun h => ?_) (fun h => ?_)
      · exact x_vret X hW h dX12_actsAp_255
      · refine lv_aload_n X.1 X.2.1 dX12_actsAp_42 rfl (lv_at hl 2 rfl) ?_
        refine x_getR X hW fd_Model_seen (fun w h => List.mem_cons_of_mem _ (gin_X12 w h)) (List.mem_cons_of_mem _ gw233) z_1 dX12_actsAp_43 ?_
        refine lv_bipush (v := 29) X.1 X.2.1 dX12_actsAp_46 rfl ?_
        refine x_iald X hW ar_278 dX12_actsAp_48 h (fun x32 h => ?_)
        refine x_if_ne X (tgt := 255) dX12_actsAp_49 (by decide) h (fun h => ?_) (fun h => ?_)
        · exact x_vret X hW h dX12_actsAp_255
        · refine lv_aload_n X.1 X.2.1 dX12_actsAp_52 rfl (lv_at hl 2 rfl) ?_
          refine x_getR X hW fd_Model_asState (fun w h => List.mem_cons_of_mem _ (gin_X12 w h)) (List.mem_cons_of_mem _ gw169) z_1 dX12_actsAp_53 ?_
          refine lv_iload_n X.1 X.2.1 dX12_actsAp_56 rfl (lv_at hl 3 rfl) ?_
          refine lv_iconst (v := 2) X.1 X.2.1 dX12_actsAp_57 rfl ?_
          refine x_iast X hW ar_219 dX12_actsAp_58 h (fun S33 H locs h hW => ?_)
          refine lv_aload_n X.1 X.2.1 dX12_actsAp_59 rfl (lv_at hl 2 rfl) ?_
          refine lv_iload_n X.1 X.2.1 dX12_actsAp_60 rfl (lv_at hl 0 rfl) ?_
          obtain ⟨r34, S35, h36, h⟩ := cl_some h
          refine x_aftV X hW (x_runV (C := RX12) (a := G.2.2 200 0) (As := [.int x2]) (rest := []) X hW (c_X12_unkey l G X.2.2.2.2.2.2.2.2.2.1 _ S33 x2 _ h36) (cwV 1 X.2.2.2.2.1 (gV gw526 gw527 gw528 gw5 gw529) rfl rfl rfl ⟨rfl, hd_X12_unkey⟩ ⟨Nat.le_of_ble_eq_true rfl, Nat.le_of_ble_eq_true rfl⟩) (x_recv X hW ob_Model z_1) rfl hl.1 rfl (Nat.le_of_ble_eq_true rfl) dX12_actsAp_61 ⟨Nat.zero_le _, Nat.zero_le _⟩) (fun H locs hW => ?_)
          refine lv_aload_n X.1 X.2.1 dX12_actsAp_64 rfl (lv_at hl 2 rfl) ?_
          refine lv_iconst (v := 0) X.1 X.2.1 dX12_actsAp_65 rfl ?_
          refine x_putI X hW fd_Model_length (fun w h => List.mem_cons_of_mem _ (gin_X12 w h)) (List.mem_cons_of_mem _ gw525) z_1 dX12_actsAp_66 tyX12 tyX12_ok nmX12 rfl rfl rfl h (fun S37 H locs h hW => ?_)
          refine lv_iconst (v := 0) X.1 X.2.1 dX12_actsAp_69 rfl ?_
          refine lv_istore (lv' := [(4, .int 0), (3, .int x2), (2, .int x1), (0, .ref (G.2.2 200 0)), (1, .int v1)]) X.1 X.2.1 dX12_actsAp_70 hl (by decide) rfl (fun ls hl => ?_)
          exact w_X12_actsAp_72 X v1   fu 0 S37 _ _ _ h hW  (lv_sub hl [3, 4, 0] rfl)
theorem c_X12_actsAp (l : Launch) (G : xG) (hD : xD G true) (sz : Nat) (S : Mm) (v1 : Int32) (o : Unit × Mm) (h : F_X12_actsAp v1 S = some o) : Met l yX12_actsAp wsX12_actsAp rmX12_actsAp (xPre G true S sz [.ref (G.2.2 200 0), .int v1]) (xQv G true sz o) 0 0 (XA G true sz) :=
  x_start hD (by decide) rfl (Nat.le_of_ble_eq_true rfl) (fun p e s m below meth c X hW ls hl => w_X12_actsAp_0 X v1 hW hl h)
