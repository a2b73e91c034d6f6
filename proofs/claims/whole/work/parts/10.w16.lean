/-! WirelessCellModel.submit(II)I -/
def rmX12_submit : Room := { frames := 3, cells := 0, slots := 0, locals := 68 }
def L_X12_submit_44   (S : Mm) : Option (Int32 × Mm) :=
  some ((-1), S)
def L_X12_submit_183  (v3 : Int32) (S : Mm) : Option (Int32 × Mm) :=
  pf S 291 0 0 fun S27 =>
  some (v3, S27)
def L_X12_submit_179  (v3 : Int32) (s1 : Int32) (s2 : Int32) (s3 : Int32) (s4 : Int32) (S : Mm) : Option (Int32 × Mm) :=
  cl (F_X12_enqueue s1 s2 s3 s4 v3 S) fun r24 S25 =>
  L_X12_submit_183  v3 S25
def L_X12_submit_170  (v1 : Int32) (v2 : Int32) (v3 : Int32) (s1 : Int32) (s2 : Int32) (s3 : Int32) (S : Mm) : Option (Int32 × Mm) :=
  if v1 ≤ 0 then (
  L_X12_submit_179  v3 s1 s2 s3 0 S)
  else (
  L_X12_submit_179  v3 s1 s2 s3 v2 S)
def L_X12_submit_131  (v1 : Int32) (v2 : Int32) (v3 : Int32) : Nat → Int32 → Mm → Option (Int32 × Mm)
  | 0, _, _ => none
  | n + 1, v5, S => 
    gf S 291 0 fun x19 =>
    if x19 ≤ v5 then (
    if v1 ≤ 0 then (
    L_X12_submit_170  v1 v2 v3 v1 8 v2 S)
    else (
    L_X12_submit_170  v1 v2 v3 v1 8 0 S))
    else (
    ldA S 215 0 300 1 v5 fun x20 =>
    cl (F_X12_add x20 S) fun r21 S22 =>
    (L_X12_submit_131 v1 v2 v3 n) (v5 + 1) S22)
def L_X12_submit_115  (v1 : Int32) (v2 : Int32) (v3 : Int32) (v4 : Int32) (s1 : Int32) (s2 : Int32) (S : Mm) : Option (Int32 × Mm) :=
  stA S 252 0 200 1 s1 s2 fun S15 =>
  if v4 = 0 then (
  L_X12_submit_183  v3 S15)
  else (
  cl (F_X12_beginsMessage 8 0 S15) fun r16 S17 =>
  L_X12_submit_131  v1 v2 v3 fu 0 S17)
def L_X12_submit_98  (v1 : Int32) (v2 : Int32) (v3 : Int32) (s0 : Int32) (S : Mm) : Option (Int32 × Mm) :=
  if s0 = 0 then (
  L_X12_submit_115  v1 v2 v3 s0 v3 4 S)
  else (
  L_X12_submit_115  v1 v2 v3 s0 v3 0 S)
def F_X12_submit (v1 : Int32) (v2 : Int32) (S : Mm) : Option (Int32 × Mm) :=
  pf S 288 0 0 fun S1 =>
  cl (F_X12_isNode v1 S1) fun r2 S3 =>
  if r2 = 0 then (
  L_X12_submit_44  S3)
  else (
  cl (F_X12_isNode v2 S3) fun r5 S6 =>
  if r5 = 0 then (
  L_X12_submit_44  S6)
  else (
  if v1 = v2 then (
  L_X12_submit_44  S6)
  else (
  gf S6 291 0 fun x8 =>
  if 200 < x8 then (
  L_X12_submit_44  S6)
  else (
  gf S6 296 0 fun x9 =>
  if x9 = 200 then (
  L_X12_submit_44  S6)
  else (
  gf S6 296 0 fun x10 =>
  gf S6 296 0 fun x11 =>
  pf S6 296 0 (x11 + 1) fun S12 =>
  if v1 ≤ 0 then (
  ldA S12 219 0 9 1 v2 fun x13 =>
  if x13 = 4 then (
  L_X12_submit_98  v1 v2 x10 1 S12)
  else (
  L_X12_submit_98  v1 v2 x10 0 S12))
  else (
  ldA S12 218 0 9 1 v1 fun x14 =>
  if x14 = 4 then (
  L_X12_submit_98  v1 v2 x10 1 S12)
  else (
  L_X12_submit_98  v1 v2 x10 0 S12)))))))
set_option maxRecDepth 100000 in
set_option maxHeartbeats 4000000 in
theorem w_X12_submit_44 {p : Program} {l : Launch} {e : Env} {s : State} {m : MethodId} {args : Array Value} {below : List Frame} {meth : Method} {c : Code} {G : xG} {sz : Nat} {o : Int32 × Mm} (X : xC G true sz p s m args c cX12_submit 6 wsX12_submit RX12 meth (some .int))    {S : Mm} {H : Heap} {locs : List Loc} {ls : Array Slot} (hW : xW G true sz s H locs S) (hl : lv_has ls 6 []) (h : L_X12_submit_44   S = some o) : wX p l e rmX12_submit s m args below meth c H locs (xQi G true sz o) (XA G true sz) 44 ls [] := by
  unfold L_X12_submit_44 at h
  refine lv_iconst (v := (-1)) X.1 X.2.1 dX12_submit_44 rfl ?_
  exact x_iret X hW h dX12_submit_45
set_option maxRecDepth 100000 in
set_option maxHeartbeats 4000000 in
theorem w_X12_submit_183 {p : Program} {l : Launch} {e : Env} {s : State} {m : MethodId} {args : Array Value} {below : List Frame} {meth : Method} {c : Code} {G : xG} {sz : Nat} {o : Int32 × Mm} (X : xC G true sz p s m args c cX12_submit 6 wsX12_submit RX12 meth (some .int)) (v3 : Int32)   {S : Mm} {H : Heap} {locs : List Loc} {ls : Array Slot} (hW : xW G true sz s H locs S) (hl : lv_has ls 6 [(0, .ref (G.2.2 200 0)), (3, .int v3)]) (h : L_X12_submit_183  v3 S = some o) : wX p l e rmX12_submit s m args below meth c H locs (xQi G true sz o) (XA G true sz) 183 ls [] := by
  unfold L_X12_submit_183 at h
  refine lv_aload_n X.1 X.2.1 dX12_submit_183 rfl (lv_at hl 0 rfl) ?_
  refine lv_iconst (v := 0) X.1 X.2.1 dX12_submit_184 rfl ?_
  refine x_putI X hW fd_Model_taped (fun w h => List.mem_cons_of_mem _ (gin_X12 w h)) (List.mem_cons_of_mem _ gw274) z_1 dX12_submit_185 tyX12 tyX12_ok nmX12 rfl rfl rfl h (fun S27 H locs h hW => ?_)
  refine lv_iload_n X.1 X.2.1 dX12_submit_188 rfl (lv_at hl 1 rfl) ?_
  exact x_iret X hW h dX12_submit_189
set_option maxRecDepth 100000 in
set_option maxHeartbeats 4000000 in
theorem w_X12_submit_179 {p : Program} {l : Launch} {e : Env} {s : State} {m : MethodId} {args : Array Value} {below : List Frame} {meth : Method} {c : Code} {G : xG} {sz : Nat} {o : Int32 × Mm} (X : xC G true sz p s m args c cX12_submit 6 wsX12_submit RX12 meth (some .int)) (v3 : Int32) (s1 : Int32) (s2 : Int32) (s3 : Int32) (s4 : Int32)   {S : Mm} {H : Heap} {locs : List Loc} {ls : Array Slot} (hW : xW G true sz s H locs S) (hl : lv_has ls 6 [(0, .ref (G.2.2 200 0)), (3, .int v3)]) (h : L_X12_submit_179  v3 s1 s2 s3 s4 S = some o) : wX p l e rmX12_submit s m args below meth c H locs (xQi G true sz o) (XA G true sz) 179 ls [.int s4, .int s3, .int s2, .int s1, .ref (G.2.2 200 0)] := by
  unfold L_X12_submit_179 at h
  refine lv_iload_n X.1 X.2.1 dX12_submit_179 rfl (lv_at hl 1 rfl) ?_
  obtain ⟨r24, S25, h26, h⟩ := cl_some h
  refine x_aftV X hW (x_runV (C := RX12) (a := G.2.2 200 0) (As := [.int s1, .int s2, .int s3, .int s4, .int v3]) (rest := []) X hW (c_X12_enqueue l G X.2.2.2.2.2.2.2.2.2.1 _ S s1 s2 s3 s4 v3 _ h26) (cwV 5 X.2.2.2.2.1 (gV gw534 gw535 gw536 gw5 gw537) rfl rfl rfl ⟨rfl, hd_X12_enqueue⟩ ⟨Nat.le_of_ble_eq_true rfl, Nat.le_of_ble_eq_true rfl⟩) (x_recv X hW ob_Model z_1) rfl hl.1 rfl (Nat.le_of_ble_eq_true rfl) dX12_submit_180 ⟨Nat.zero_le _, Nat.zero_le _⟩) (fun H locs hW => ?_)
  exact w_X12_submit_183 X v3   hW (lv_sub hl [0, 1] rfl) h
set_option maxRecDepth 100000 in
set_option maxHeartbeats 4000000 in
theorem w_X12_submit_170 {p : Program} {l : Launch} {e : Env} {s : State} {m : MethodId} {args : Array Value} {below : List Frame} {meth : Method} {c : Code} {G : xG} {sz : Nat} {o : Int32 × Mm} (X : xC G true sz p s m args c cX12_submit 6 wsX12_submit RX12 meth (some .int)) (v1 : Int32) (v2 : Int32) (v3 : Int32) (s1 : Int32) (s2 : Int32) (s3 : Int32)   {S : Mm} {H : Heap} {locs : List Loc} {ls : Array Slot} (hW : xW G true sz s H locs S) (hl : lv_has ls 6 [(0, .ref (G.2.2 200 0)), (1, .int v1), (2, .int v2), (3, .int v3)]) (h : L_X12_submit_170  v1 v2 v3 s1 s2 s3 S = some o) : wX p l e rmX12_submit s m args below meth c H locs (xQi G true sz o) (XA G true sz) 170 ls [.int s3, .int s2, .int s1, .ref (G.2.2 200 0)] := by
  unfold L_X12_submit_170 at h
  refine lv_iload_n X.1 X.2.1 dX12_submit_170 rfl (lv_at hl 1 rfl) ?_
  refine x_if_le X (tgt := 178) dX12_submit_171 (by decide) h (fun h => ?_) (fun h => ?_)
  · refine lv_iconst (v := 0) X.1 X.2.1 dX12_submit_178 rfl ?_
    exact w_X12_submit_179 X v3 s1 s2 s3 0   hW (lv_sub hl [0, 3] rfl) h
  · refine lv_iload_n X.1 X.2.1 dX12_submit_174 rfl (lv_at hl 2 rfl) ?_
    refine lv_goto (tgt := 179) X.1 X.2.1 dX12_submit_175 (by decide) ?_
    exact w_X12_submit_179 X v3 s1 s2 s3 v2   hW (lv_sub hl [0, 3] rfl) h
set_option maxRecDepth 100000 in
set_option maxHeartbeats 4000000 in
theorem w_X12_submit_131 {p : Program} {l : Launch} {e : Env} {s : State} {m : MethodId} {args : Array Value} {below : List Frame} {meth : Method} {c : Code} {G : xG} {sz : Nat} {o : Int32 × Mm} (X : xC G true sz p s m args c cX12_submit 6 wsX12_submit RX12 meth (some .int)) (v1 : Int32) (v2 : Int32) (v3 : Int32)   : ∀ (n : Nat) (v5 : Int32) (S : Mm) (H : Heap) (locs : List Loc) (ls : Array Slot), L_X12_submit_131 v1 v2 v3 n v5 S = some o → xW G true sz s H locs S → lv_has ls 6 [(0, .ref (G.2.2 200 0)), (1, .int v1), (2, .int v2), (3, .int v3), (5, .int v5)] → wX p l e rmX12_submit s m args below meth c H locs (xQi G true sz o) (XA G true sz) 131 ls [] := by
  intro n
  induction n with
  | zero =>
    intro v5 S H locs ls h
    cases h
  | succ n ih =>
    intro v5 S H locs ls h hW  hl
    rw [L_X12_submit_131] at h
    refine lv_iload X.1 X.2.1 dX12_submit_131 (lv_at hl 4 rfl) ?_
    refine lv_aload_n X.1 X.2.1 dX12_submit_133 rfl (lv_at hl 0 rfl) ?_
    refine x_getI X hW fd_Model_taped (fun w h => List.mem_cons_of_mem _ (gin_X12 w h)) (List.mem_cons_of_mem _ gw274) z_1 dX12_submit_134 h (fun x19 h => ?_)
    refine x_icmp_ge X (tgt := 157) dX12_submit_137 (by decide) h (fun h => ?_) (fun h => ?_)
    · refine lv_aload_n X.1 X.2.1 dX12_submit_157 rfl (lv_at hl 0 rfl) ?_
      refine lv_iload_n X.1 X.2.1 dX12_submit_158 rfl (lv_at hl 1 rfl) ?_
      refine lv_bipush (v := 8) X.1 X.2.1 dX12_submit_159 rfl ?_
      refine lv_iload_n X.1 X.2.1 dX12_submit_161 rfl (lv_at hl 1 rfl) ?_
      refine x_if_le X (tgt := 169) dX12_submit_162 (by decide) h (fun h => ?_) (fun h => ?_)
      · refine lv_iload_n X.1 X.2.1 dX12_submit_169 rfl (lv_at hl 2 rfl) ?_
        exact w_X12_submit_170 X v1 v2 v3 v1 8 v2   hW (lv_sub hl [0, 1, 2, 3] rfl) h
      · refine lv_iconst (v := 0) X.1 X.2.1 dX12_submit_165 rfl ?_
        refine lv_goto (tgt := 170) X.1 X.2.1 dX12_submit_166 (by decide) ?_
        exact w_X12_submit_170 X v1 v2 v3 v1 8 0   hW (lv_sub hl [0, 1, 2, 3] rfl) h
    · refine lv_aload_n X.1 X.2.1 dX12_submit_140 rfl (lv_at hl 0 rfl) ?_
      refine lv_aload_n X.1 X.2.1 dX12_submit_141 rfl (lv_at hl 0 rfl) ?_
      refine x_getR X hW fd_Model_tape (fun w h => List.mem_cons_of_mem _ (gin_X12 w h)) (List.mem_cons_of_mem _ gw165) z_1 dX12_submit_142 ?_
      refine lv_iload X.1 X.2.1 dX12_submit_145 (lv_at hl 4 rfl) ?_
      refine x_iald X hW ar_215 dX12_submit_147 h (fun x20 h => ?_)
      obtain ⟨r21, S22, h23, h⟩ := cl_some h
      refine x_aftV X hW (x_runV (C := RX12) (a := G.2.2 200 0) (As := [.int x20]) (rest := []) X hW (c_X12_add l G X.2.2.2.2.2.2.2.2.2.1 _ S x20 _ h23) (cwV 1 X.2.2.2.2.1 (gV gw530 gw531 gw532 gw5 gw533) rfl rfl rfl ⟨rfl, hd_X12_add⟩ ⟨Nat.le_of_ble_eq_true rfl, Nat.le_of_ble_eq_true rfl⟩) (x_recv X hW ob_Model z_1) rfl hl.1 rfl (Nat.le_of_ble_eq_true rfl) dX12_submit_148 ⟨Nat.zero_le _, Nat.zero_le _⟩) (fun H locs hW => ?_)
      refine lv_iinc (v := (v5 + 1)) (lv' := [(5, .int (v5 + 1)), (0, .ref (G.2.2 200 0)), (1, .int v1), (2, .int v2), (3, .int v3)]) X.1 X.2.1 dX12_submit_151 hl (k := 4) rfl rfl (by decide) rfl (fun ls hl => ?_)
      refine lv_goto (tgt := 131) X.1 X.2.1 dX12_submit_154 (by decide) ?_
      exact ih (v5 + 1) S22 _ _ _ h hW  (lv_sub hl [1, 2, 3, 4, 0] rfl)
set_option maxRecDepth 100000 in
set_option maxHeartbeats 4000000 in
theorem w_X12_submit_115 {p : Program} {l : Launch} {e : Env} {s : State} {m : MethodId} {args : Array Value} {below : List Frame} {meth : Method} {c : Code} {G : xG} {sz : Nat} {o : Int32 × Mm} (X : xC G true sz p s m args c cX12_submit 6 wsX12_submit RX12 meth (some .int)) (v1 : Int32) (v2 : Int32) (v3 : Int32) (v4 : Int32) (s1 : Int32) (s2 : Int32)   {S : Mm} {H : Heap} {locs : List Loc} {ls : Array Slot} (hW : xW G true sz s H locs S) (hl : lv_has ls 6 [(0, .ref (G.2.2 200 0)), (1, .int v1), (2, .int v2), (3, .int v3), (4, .int v4)]) (h : L_X12_submit_115  v1 v2 v3 v4 s1 s2 S = some o) : wX p l e rmX12_submit s m args below meth c H locs (xQi G true sz o) (XA G true sz) 115 ls [.int s2, .int s1, .ref (G.2.2 252 0)] := by
  unfold L_X12_submit_115 at h
  refine x_iast X hW ar_252 dX12_submit_115 h (fun S15 H locs h hW => ?_)
  refine lv_iload X.1 X.2.1 dX12_submit_116 (lv_at hl 4 rfl) ?_
  refine x_if_eq X (tgt := 183) dX12_submit_118 (by decide) h (fun h => ?_) (fun h => ?_)
  · exact w_X12_submit_183 X v3   hW (lv_sub hl [0, 3] rfl) h
  · refine lv_aload_n X.1 X.2.1 dX12_submit_121 rfl (lv_at hl 0 rfl) ?_
    refine lv_bipush (v := 8) X.1 X.2.1 dX12_submit_122 rfl ?_
    refine lv_iconst (v := 0) X.1 X.2.1 dX12_submit_124 rfl ?_
    obtain ⟨r16, S17, h18, h⟩ := cl_some h
    refine x_aftV X hW (x_runV (C := RX12) (a := G.2.2 200 0) (As := [.int 8, .int 0]) (rest := []) X hW (c_X12_beginsMessage l G X.2.2.2.2.2.2.2.2.2.1 _ S15 8 0 _ h18) (cwV 2 X.2.2.2.2.1 (gV gw586 gw587 gw588 gw5 gw589) rfl rfl rfl ⟨rfl, hd_X12_beginsMessage⟩ ⟨Nat.le_of_ble_eq_true rfl, Nat.le_of_ble_eq_true rfl⟩) (x_recv X hW ob_Model z_1) rfl hl.1 rfl (Nat.le_of_ble_eq_true rfl) dX12_submit_125 ⟨Nat.zero_le _, Nat.zero_le _⟩) (fun H locs hW => ?_)
    refine lv_iconst (v := 0) X.1 X.2.1 dX12_submit_128 rfl ?_
    refine lv_istore (lv' := [(5, .int 0), (0, .ref (G.2.2 200 0)), (1, .int v1), (2, .int v2), (3, .int v3), (4, .int v4)]) X.1 X.2.1 dX12_submit_129 hl (by decide) rfl (fun ls hl => ?_)
    exact w_X12_submit_131 X v1 v2 v3   fu 0 S17 _ _ _ h hW  (lv_sub hl [1, 2, 3, 4, 0] rfl)
set_option maxRecDepth 100000 in
set_option maxHeartbeats 4000000 in
theorem w_X12_submit_98 {p : Program} {l : Launch} {e : Env} {s : State} {m : MethodId} {args : Array Value} {below : List Frame} {meth : Method} {c : Code} {G : xG} {sz : Nat} {o : Int32 × Mm} (X : xC G true sz p s m args c cX12_submit 6 wsX12_submit RX12 meth (some .int)) (v1 : Int32) (v2 : Int32) (v3 : Int32) (s0 : Int32)   {S : Mm} {H : Heap} {locs : List Loc} {ls : Array Slot} (hW : xW G true sz s H locs S) (hl : lv_has ls 6 [(0, .ref (G.2.2 200 0)), (1, .int v1), (2, .int v2), (3, .int v3)]) (h : L_X12_submit_98  v1 v2 v3 s0 S = some o) : wX p l e rmX12_submit s m args below meth c H locs (xQi G true sz o) (XA G true sz) 98 ls [.int s0] := by
  unfold L_X12_submit_98 at h
  refine lv_istore (lv' := [(4, .int s0), (0, .ref (G.2.2 200 0)), (1, .int v1), (2, .int v2), (3, .int v3)]) X.1 X.2.1 dX12_submit_98 hl (by decide) rfl (fun ls hl => ?_)
  refine lv_aload_n X.1 X.2.1 dX12_submit_100 rfl (lv_at hl 1 rfl) ?_
  refine x_getR X hW fd_Model_ends (fun w h => List.mem_cons_of_mem _ (gin_X12 w h)) (List.mem_cons_of_mem _ gw205) z_1 dX12_submit_101 ?_
  refine lv_iload_n X.1 X.2.1 dX12_submit_104 rfl (lv_at hl 4 rfl) ?_
  refine lv_iload X.1 X.2.1 dX12_submit_105 (lv_at hl 0 rfl) ?_
  refine x_if_eq X (tgt := 114) dX12_submit_107 (by decide) h (fun h => ?_) (fun h => ?_)
  · refine lv_iconst (v := 4) X.1 X.2.1 dX12_submit_114 rfl ?_
    exact w_X12_submit_115 X v1 v2 v3 s0 v3 4   hW (lv_sub hl [1, 2, 3, 4, 0] rfl) h
  · refine lv_iconst (v := 0) X.1 X.2.1 dX12_submit_110 rfl ?_
    refine lv_goto (tgt := 115) X.1 X.2.1 dX12_submit_111 (by decide) ?_
    exact w_X12_submit_115 X v1 v2 v3 s0 v3 0   hW (lv_sub hl [1, 2, 3, 4, 0] rfl) h
set_option maxRecDepth 100000 in
set_option maxHeartbeats 4000000 in
theorem w_X12_submit_0 {p : Program} {l : Launch} {e : Env} {s : State} {m : MethodId} {args : Array Value} {below : List Frame} {meth : Method} {c : Code} {G : xG} {sz : Nat} {o : Int32 × Mm} (X : xC G true sz p s m args c cX12_submit 6 wsX12_submit RX12 meth (some .int)) (v1 : Int32) (v2 : Int32) {S : Mm} {H : Heap} {locs : List Loc} {ls : Array Slot} (hW : xW G true sz s H locs S) (hl : lv_has ls 6 [(0, .ref (G.2.2 200 0)), (1, .int v1), (2, .int v2)]) (h : F_X12_submit v1 v2 S = some o) : wX p l e rmX12_submit s m args below meth c H locs (xQi G true sz o) (XA G true sz) 0 ls [] := by
  unfold F_X12_submit at h
  refine lv_aload_n X.1 X.2.1 dX12_submit_0 rfl (lv_at hl 0 rfl) ?_
  refine lv_iconst (v := 0) X.1 X.2.1 dX12_submit_1 rfl ?_
  refine x_putI X hW fd_Model_thrown (fun w h => List.mem_cons_of_mem _ (gin_X12 w h)) (List.mem_cons_of_mem _ gw273) z_1 dX12_submit_2 tyX12 tyX12_ok nmX12 rfl rfl rfl h (fun S1 H locs h hW => ?_)
  refine lv_iload_n X.1 X.2.1 dX12_submit_5 rfl (lv_at hl 1 rfl) ?_
  obtain ⟨r2, S3, h4, h⟩ := cl_some h
  refine x_aftI X hW (x_runS (As := [.int v1]) (rest := []) X hW (c_X12_isNode l G X.2.2.2.2.2.2.2.2.2.1 _ S1 v1 _ h4) (va_cwS 1 X.2.2.2.2.1 (gS gw396 gw397 gw5 gw398) rfl rfl rfl hd_X12_isNode ⟨Nat.le_of_ble_eq_true rfl, Nat.le_of_ble_eq_true rfl⟩) rfl hl.1 rfl (Nat.le_of_ble_eq_true rfl) dX12_submit_6 ⟨Nat.zero_le _, Nat.zero_le _⟩) (fun H locs hW => ?_)
  refine x_if_eq X (tgt := 44) dX12_submit_9 (by decide) h (fun h => ?_) (fun h => ?_)
  · exact w_X12_submit_44 X    hW (lv_sub hl [] rfl) h
  · refine lv_iload_n X.1 X.2.1 dX12_submit_12 rfl (lv_at hl 2 rfl) ?_
    obtain ⟨r5, S6, h7, h⟩ := cl_some h
    refine x_aftI X hW (x_runS (As := [.int v2]) (rest := []) X hW (c_X12_isNode l G X.2.2.2.2.2.2.2.2.2.1 _ S3 v2 _ h7) (va_cwS 1 X.2.2.2.2.1 (gS gw396 gw397 gw5 gw398) rfl rfl rfl hd_X12_isNode ⟨Nat.le_of_ble_eq_true rfl, Nat.le_of_ble_eq_true rfl⟩) rfl hl.1 rfl (Nat.le_of_ble_eq_true rfl) dX12_submit_13 ⟨Nat.zero_le _, Nat.zero_le _⟩) (fun H locs hW => ?_)
    refine x_if_eq X (tgt := 44) dX12_submit_16 (by decide) h (fun h => ?_) (fun h => ?_)
    · exact w_X12_submit_44 X    hW (lv_sub hl [] rfl) h
    · refine lv_iload_n X.1 X.2.1 dX12_submit_19 rfl (lv_at hl 1 rfl) ?_
      refine lv_iload_n X.1 X.2.1 dX12_submit_20 rfl (lv_at hl 2 rfl) ?_
      refine x_icmp_eq X (tgt := 44) dX12_submit_21 (by decide) h (fun h => ?_) (fun h => ?_)
      · exact w_X12_submit_44 X    hW (lv_sub hl [] rfl) h
      · refine lv_aload_n X.1 X.2.1 dX12_submit_24 rfl (lv_at hl 0 rfl) ?_
        refine x_getI X hW fd_Model_taped (fun w h => List.mem_cons_of_mem _ (gin_X12 w h)) (List.mem_cons_of_mem _ gw274) z_1 dX12_submit_25 h (fun x8 h => ?_)
        refine lv_sipush (v := 200) X.1 X.2.1 dX12_submit_28 rfl ?_
        refine x_icmp_gt X (tgt := 44) dX12_submit_31 (by decide) h (fun h => ?_) (fun h => ?_)
        · exact w_X12_submit_44 X    hW (lv_sub hl [] rfl) h
        · refine lv_aload_n X.1 X.2.1 dX12_submit_34 rfl (lv_at hl 0 rfl) ?_
          refine x_getI X hW fd_Model_submissions (fun w h => List.mem_cons_of_mem _ (gin_X12 w h)) (List.mem_cons_of_mem _ gw585) z_1 dX12_submit_35 h (fun x9 h => ?_)
          refine lv_sipush (v := 200) X.1 X.2.1 dX12_submit_38 rfl ?_
          refine x_icmp_ne X (tgt := 46) dX12_submit_41 (by decide) h (fun h => ?_) (fun h => ?_)
          · refine lv_aload_n X.1 X.2.1 dX12_submit_46 rfl (lv_at hl 0 rfl) ?_
            refine x_getI X hW fd_Model_submissions (fun w h => List.mem_cons_of_mem _ (gin_X12 w h)) (List.mem_cons_of_mem _ gw585) z_1 dX12_submit_47 h (fun x10 h => ?_)
            refine lv_istore_n (lv' := [(3, .int x10), (0, .ref (G.2.2 200 0)), (1, .int v1), (2, .int v2)]) X.1 X.2.1 dX12_submit_50 rfl hl (by decide) rfl (fun ls hl => ?_)
            refine lv_aload_n X.1 X.2.1 dX12_submit_51 rfl (lv_at hl 1 rfl) ?_
            refine lv_dup X.1 X.2.1 dX12_submit_52 rfl ?_
            refine x_getI X hW fd_Model_submissions (fun w h => List.mem_cons_of_mem _ (gin_X12 w h)) (List.mem_cons_of_mem _ gw585) z_1 dX12_submit_53 h (fun x11 h => ?_)
            refine lv_iconst (v := 1) X.1 X.2.1 dX12_submit_56 rfl ?_
            refine lv_iadd X.1 X.2.1 dX12_submit_57 ?_
            refine x_putI X hW fd_Model_submissions (fun w h => List.mem_cons_of_mem _ (gin_X12 w h)) (List.mem_cons_of_mem _ gw585) z_1 dX12_submit_58 tyX12 tyX12_ok nmX12 rfl rfl rfl h (fun S12 H locs h hW => ?_)
            refine lv_iload_n X.1 X.2.1 dX12_submit_61 rfl (lv_at hl 2 rfl) ?_
            refine x_if_le X (tgt := 83) dX12_submit_62 (by decide) h (fun h => ?_) (fun h => ?_)
            · refine lv_aload_n X.1 X.2.1 dX12_submit_83 rfl (lv_at hl 1 rfl) ?_
              refine x_getR X hW fd_Model_asState (fun w h => List.mem_cons_of_mem _ (gin_X12 w h)) (List.mem_cons_of_mem _ gw169) z_1 dX12_submit_84 ?_
              refine lv_iload_n X.1 X.2.1 dX12_submit_87 rfl (lv_at hl 3 rfl) ?_
              refine x_iald X hW ar_219 dX12_submit_88 h (fun x13 h => ?_)
              refine lv_iconst (v := 4) X.1 X.2.1 dX12_submit_89 rfl ?_
              refine x_icmp_ne X (tgt := 97) dX12_submit_90 (by decide) h (fun h => ?_) (fun h => ?_)
              · refine lv_iconst (v := 0) X.1 X.2.1 dX12_submit_97 rfl ?_
                exact w_X12_submit_98 X v1 v2 x10 0   hW (lv_sub hl [1, 2, 3, 0] rfl) h
              · refine lv_iconst (v := 1) X.1 X.2.1 dX12_submit_93 rfl ?_
                refine lv_goto (tgt := 98) X.1 X.2.1 dX12_submit_94 (by decide) ?_
                exact w_X12_submit_98 X v1 v2 x10 1   hW (lv_sub hl [1, 2, 3, 0] rfl) h
            · refine lv_aload_n X.1 X.2.1 dX12_submit_65 rfl (lv_at hl 1 rfl) ?_
              refine x_getR X hW fd_Model_state (fun w h => List.mem_cons_of_mem _ (gin_X12 w h)) (List.mem_cons_of_mem _ gw168) z_1 dX12_submit_66 ?_
              refine lv_iload_n X.1 X.2.1 dX12_submit_69 rfl (lv_at hl 2 rfl) ?_
              refine x_iald X hW ar_218 dX12_submit_70 h (fun x14 h => ?_)
              refine lv_iconst (v := 4) X.1 X.2.1 dX12_submit_71 rfl ?_
              refine x_icmp_ne X (tgt := 79) dX12_submit_72 (by decide) h (fun h => ?_) (fun h => ?_)
              · refine lv_iconst (v := 0) X.1 X.2.1 dX12_submit_79 rfl ?_
                refine lv_goto (tgt := 98) X.1 X.2.1 dX12_submit_80 (by decide) ?_
                exact w_X12_submit_98 X v1 v2 x10 0   hW (lv_sub hl [1, 2, 3, 0] rfl) h
              · refine lv_iconst (v := 1) X.1 X.2.1 dX12_submit_75 rfl ?_
                refine lv_goto (tgt := 98) X.1 X.2.1 dX12_submit_76 (by decide) ?_
                exact w_X12_submit_98 X v1 v2 x10 1   hW (lv_sub hl [1, 2, 3, 0] rfl) h
          · exact w_X12_submit_44 X    hW (lv_sub hl [] rfl) h
theorem c_X12_submit (l : Launch) (G : xG) (hD : xD G true) (sz : Nat) (S : Mm) (v1 : Int32) (v2 : Int32) (o : Int32 × Mm) (h : F_X12_submit v1 v2 S = some o) : Met l yX12_submit wsX12_submit rmX12_submit (xPre G true S sz [.ref (G.2.2 200 0), .int v1, .int v2]) (xQi G true sz o) 0 0 (XA G true sz) :=
  x_start hD (by decide) rfl (Nat.le_of_ble_eq_true rfl) (fun p e s m below meth c X hW ls hl => w_X12_submit_0 X v1 v2 hW hl h)

/-! WirelessCellModel.go(I)I -/
def rmX12_go : Room := { frames := 12, cells := 0, slots := 0, locals := 291 }
def L_X12_go_26  (v1 : Int32) (v2 : Int32) : Nat → Int32 → Mm → Option (Int32 × Mm)
  | 0, _, _ => none
  | n + 1, v3, S => 
    if v1 ≤ v3 then (
    gf S 301 0 fun x6 =>
    some ((x6 - v2), S))
    else (
    cl (F_X12_goSlot S) fun r7 S8 =>
    (L_X12_go_26 v1 v2 n) (v3 + 1) S8)
def F_X12_go (v1 : Int32) (S : Mm) : Option (Int32 × Mm) :=
  pf S 288 0 0 fun S1 =>
  cl (F_X12_in (Int32.toInt64 v1) 0 3000 S1) fun r2 S3 =>
  if r2 = 0 then (
  some ((-1), S3))
  else (
  gf S3 301 0 fun x5 =>
  L_X12_go_26  v1 x5 fu 0 S3)
set_option maxRecDepth 100000 in
set_option maxHeartbeats 4000000 in
theorem w_X12_go_26 {p : Program} {l : Launch} {e : Env} {s : State} {m : MethodId} {args : Array Value} {below : List Frame} {meth : Method} {c : Code} {G : xG} {sz : Nat} {o : Int32 × Mm} (X : xC G true sz p s m args c cX12_go 4 wsX12_go RX12 meth (some .int)) (v1 : Int32) (v2 : Int32)   : ∀ (n : Nat) (v3 : Int32) (S : Mm) (H : Heap) (locs : List Loc) (ls : Array Slot), L_X12_go_26 v1 v2 n v3 S = some o → xW G true sz s H locs S → lv_has ls 4 [(0, .ref (G.2.2 200 0)), (1, .int v1), (2, .int v2), (3, .int v3)] → wX p l e rmX12_go s m args below meth c H locs (xQi G true sz o) (XA G true sz) 26 ls [] := by
  intro n
  induction n with
  | zero =>
    intro v3 S H locs ls h
    cases h
  | succ n ih =>
    intro v3 S H locs ls h hW  hl
    rw [L_X12_go_26] at h
    refine lv_iload_n X.1 X.2.1 dX12_go_26 rfl (lv_at hl 3 rfl) ?_
    refine lv_iload_n X.1 X.2.1 dX12_go_27 rfl (lv_at hl 1 rfl) ?_
    refine x_icmp_ge X (tgt := 41) dX12_go_28 (by decide) h (fun h => ?_) (fun h => ?_)
    · refine lv_aload_n X.1 X.2.1 dX12_go_41 rfl (lv_at hl 0 rfl) ?_
      refine x_getI X hW fd_Model_began (fun w h => List.mem_cons_of_mem _ (gin_X12 w h)) (List.mem_cons_of_mem _ gw341) z_1 dX12_go_42 h (fun x6 h => ?_)
      refine lv_iload_n X.1 X.2.1 dX12_go_45 rfl (lv_at hl 2 rfl) ?_
      refine lv_isub X.1 X.2.1 dX12_go_46 ?_
      exact x_iret X hW h dX12_go_47
    · refine lv_aload_n X.1 X.2.1 dX12_go_31 rfl (lv_at hl 0 rfl) ?_
      obtain ⟨r7, S8, h9, h⟩ := cl_some h
      refine x_aftV X hW (x_runV (C := RX12) (a := G.2.2 200 0) (As := []) (rest := []) X hW (c_X12_goSlot l G X.2.2.2.2.2.2.2.2.2.1 _ S _ h9) (cwV 0 X.2.2.2.2.1 (gV gw1001 gw1002 gw1003 gw5 gw1004) rfl rfl rfl ⟨rfl, hd_X12_goSlot⟩ ⟨Nat.le_of_ble_eq_true rfl, Nat.le_of_ble_eq_true rfl⟩) (x_recv X hW ob_Model z_1) rfl hl.1 rfl (Nat.le_of_ble_eq_true rfl) dX12_go_32 ⟨Nat.zero_le _, Nat.zero_le _⟩) (fun H locs hW => ?_)
      refine lv_iinc (v := (v3 + 1)) (lv' := [(3, .int (v3 + 1)), (0, .ref (G.2.2 200 0)), (1, .int v1), (2, .int v2)]) X.1 X.2.1 dX12_go_35 hl (k := 3) rfl rfl (by decide) rfl (fun ls hl => ?_)
      refine lv_goto (tgt := 26) X.1 X.2.1 dX12_go_38 (by decide) ?_
      exact ih (v3 + 1) S8 _ _ _ h hW  (lv_sub hl [1, 2, 3, 0] rfl)
set_option maxRecDepth 100000 in
set_option maxHeartbeats 4000000 in
theorem w_X12_go_0 {p : Program} {l : Launch} {e : Env} {s : State} {m : MethodId} {args : Array Value} {below : List Frame} {meth : Method} {c : Code} {G : xG} {sz : Nat} {o : Int32 × Mm} (X : xC G true sz p s m args c cX12_go 4 wsX12_go RX12 meth (some .int)) (v1 : Int32) {S : Mm} {H : Heap} {locs : List Loc} {ls : Array Slot} (hW : xW G true sz s H locs S) (hl : lv_has ls 4 [(0, .ref (G.2.2 200 0)), (1, .int v1)]) (h : F_X12_go v1 S = some o) : wX p l e rmX12_go s m args below meth c H locs (xQi G true sz o) (XA G true sz) 0 ls [] := by
  unfold F_X12_go at h
  refine lv_aload_n X.1 X.2.1 dX12_go_0 rfl (lv_at hl 0 rfl) ?_
  refine lv_iconst (v := 0) X.1 X.2.1 dX12_go_1 rfl ?_
  refine x_putI X hW fd_Model_thrown (fun w h => List.mem_cons_of_mem _ (gin_X12 w h)) (List.mem_cons_of_mem _ gw273) z_1 dX12_go_2 tyX12 tyX12_ok nmX12 rfl rfl rfl h (fun S1 H locs h hW => ?_)
  refine lv_iload_n X.1 X.2.1 dX12_go_5 rfl (lv_at hl 1 rfl) ?_
  refine lv_i2l (v := (Int32.toInt64 v1)) X.1 X.2.1 dX12_go_6 rfl ?_
  refine lv_lconst (v := 0) X.1 X.2.1 dX12_go_7 rfl ?_
  refine lv_ldc2 (v := 3000) X.1 X.2.1 X.2.2.2.1 (X.2.2.2.2.1 _ (List.mem_cons_of_mem _ gw1000)) dX12_go_8 ?_
  obtain ⟨r2, S3, h4, h⟩ := cl_some h
  refine x_aftI X hW (x_runS (As := [.long (Int32.toInt64 v1), .long 0, .long 3000]) (rest := []) X hW (c_X12_in l G X.2.2.2.2.2.2.2.2.2.1 _ S1 (Int32.toInt64 v1) 0 3000 _ h4) (va_cwS 3 X.2.2.2.2.1 (gS gw296 gw297 gw5 gw298) rfl rfl rfl hd_X12_in ⟨Nat.le_of_ble_eq_true rfl, Nat.le_of_ble_eq_true rfl⟩) rfl hl.1 rfl (Nat.le_of_ble_eq_true rfl) dX12_go_11 ⟨Nat.zero_le _, Nat.zero_le _⟩) (fun H locs hW => ?_)
  refine x_if_ne X (tgt := 19) dX12_go_14 (by decide) h (fun h => ?_) (fun h => ?_)
  · refine lv_aload_n X.1 X.2.1 dX12_go_19 rfl (lv_at hl 0 rfl) ?_
    refine x_getI X hW fd_Model_began (fun w h => List.mem_cons_of_mem _ (gin_X12 w h)) (List.mem_cons_of_mem _ gw341) z_1 dX12_go_20 h (fun x5 h => ?_)
    refine lv_istore_n (lv' := [(2, .int x5), (0, .ref (G.2.2 200 0)), (1, .int v1)]) X.1 X.2.1 dX12_go_23 rfl hl (by decide) rfl (fun ls hl => ?_)
    refine lv_iconst (v := 0) X.1 X.2.1 dX12_go_24 rfl ?_
    refine lv_istore_n (lv' := [(3, .int 0), (2, .int x5), (0, .ref (G.2.2 200 0)), (1, .int v1)]) X.1 X.2.1 dX12_go_25 rfl hl (by decide) rfl (fun ls hl => ?_)
    exact w_X12_go_26 X v1 x5   fu 0 S3 _ _ _ h hW  (lv_sub hl [2, 3, 1, 0] rfl)
  · refine lv_iconst (v := (-1)) X.1 X.2.1 dX12_go_17 rfl ?_
    exact x_iret X hW h dX12_go_18
theorem c_X12_go (l : Launch) (G : xG) (hD : xD G true) (sz : Nat) (S : Mm) (v1 : Int32) (o : Int32 × Mm) (h : F_X12_go v1 S = some o) : Met l yX12_go wsX12_go rmX12_go (xPre G true S sz [.ref (G.2.2 200 0), .int v1]) (xQi G true sz o) 0 0 (XA G true sz) :=
  x_start hD (by decide) rfl (Nat.le_of_ble_eq_true rfl) (fun p e s m below meth c X hW ls hl => w_X12_go_0 X v1 hW hl h)

/-! WirelessCellModel.ended(I)I -/
def rmX12_ended : Room := { frames := 1, cells := 0, slots := 0, locals := 25 }
def F_X12_ended (v1 : Int32) (S : Mm) : Option (Int32 × Mm) :=
  pf S 288 0 0 fun S1 =>
  gf S1 296 0 fun x2 =>
  cl (F_X12_in (Int32.toInt64 v1) 0 ((Int32.toInt64 x2) - 1) S1) fun r3 S4 =>
  if r3 = 0 then (
  some ((-1), S4))
  else (
  ldA S4 252 0 200 1 v1 fun x6 =>
  some (x6, S4))
set_option maxRecDepth 100000 in
set_option maxHeartbeats 4000000 in
theorem w_X12_ended_0 {p : Program} {l : Launch} {e : Env} {s : State} {m : MethodId} {args : Array Value} {below : List Frame} {meth : Method} {c : Code} {G : xG} {sz : Nat} {o : Int32 × Mm} (X : xC G true sz p s m args c cX12_ended 2 wsX12_ended RX12 meth (some .int)) (v1 : Int32) {S : Mm} {H : Heap} {locs : List Loc} {ls : Array Slot} (hW : xW G true sz s H locs S) (hl : lv_has ls 2 [(0, .ref (G.2.2 200 0)), (1, .int v1)]) (h : F_X12_ended v1 S = some o) : wX p l e rmX12_ended s m args below meth c H locs (xQi G true sz o) (XA G true sz) 0 ls [] := by
  unfold F_X12_ended at h
  refine lv_aload_n X.1 X.2.1 dX12_ended_0 rfl (lv_at hl 0 rfl) ?_
  refine lv_iconst (v := 0) X.1 X.2.1 dX12_ended_1 rfl ?_
  refine x_putI X hW fd_Model_thrown (fun w h => List.mem_cons_of_mem _ (gin_X12 w h)) (List.mem_cons_of_mem _ gw273) z_1 dX12_ended_2 tyX12 tyX12_ok nmX12 rfl rfl rfl h (fun S1 H locs h hW => ?_)
  refine lv_iload_n X.1 X.2.1 dX12_ended_5 rfl (lv_at hl 1 rfl) ?_
  refine lv_i2l (v := (Int32.toInt64 v1)) X.1 X.2.1 dX12_ended_6 rfl ?_
  refine lv_lconst (v := 0) X.1 X.2.1 dX12_ended_7 rfl ?_
  refine lv_aload_n X.1 X.2.1 dX12_ended_8 rfl (lv_at hl 0 rfl) ?_
  refine x_getI X hW fd_Model_submissions (fun w h => List.mem_cons_of_mem _ (gin_X12 w h)) (List.mem_cons_of_mem _ gw585) z_1 dX12_ended_9 h (fun x2 h => ?_)
  refine lv_i2l (v := (Int32.toInt64 x2)) X.1 X.2.1 dX12_ended_12 rfl ?_
  refine lv_lconst (v := 1) X.1 X.2.1 dX12_ended_13 rfl ?_
  refine lv_lsub X.1 X.2.1 dX12_ended_14 ?_
  obtain ⟨r3, S4, h5, h⟩ := cl_some h
  refine x_aftI X hW (x_runS (As := [.long (Int32.toInt64 v1), .long 0, .long ((Int32.toInt64 x2) - 1)]) (rest := []) X hW (c_X12_in l G X.2.2.2.2.2.2.2.2.2.1 _ S1 (Int32.toInt64 v1) 0 ((Int32.toInt64 x2) - 1) _ h5) (va_cwS 3 X.2.2.2.2.1 (gS gw296 gw297 gw5 gw298) rfl rfl rfl hd_X12_in ⟨Nat.le_of_ble_eq_true rfl, Nat.le_of_ble_eq_true rfl⟩) rfl hl.1 rfl (Nat.le_of_ble_eq_true rfl) dX12_ended_15 ⟨Nat.zero_le _, Nat.zero_le _⟩) (fun H locs hW => ?_)
  refine x_if_eq X (tgt := 30) dX12_ended_18 (by decide) h (fun h => ?_) (fun h => ?_)
  · refine lv_iconst (v := (-1)) X.1 X.2.1 dX12_ended_30 rfl ?_
    exact x_iret X hW h dX12_ended_31
  · refine lv_aload_n X.1 X.2.1 dX12_ended_21 rfl (lv_at hl 0 rfl) ?_
    refine x_getR X hW fd_Model_ends (fun w h => List.mem_cons_of_mem _ (gin_X12 w h)) (List.mem_cons_of_mem _ gw205) z_1 dX12_ended_22 ?_
    refine lv_iload_n X.1 X.2.1 dX12_ended_25 rfl (lv_at hl 1 rfl) ?_
    refine x_iald X hW ar_252 dX12_ended_26 h (fun x6 h => ?_)
    refine lv_goto (tgt := 31) X.1 X.2.1 dX12_ended_27 (by decide) ?_
    exact x_iret X hW h dX12_ended_31
theorem c_X12_ended (l : Launch) (G : xG) (hD : xD G true) (sz : Nat) (S : Mm) (v1 : Int32) (o : Int32 × Mm) (h : F_X12_ended v1 S = some o) : Met l yX12_ended wsX12_ended rmX12_ended (xPre G true S sz [.ref (G.2.2 200 0), .int v1]) (xQi G true sz o) 0 0 (XA G true sz) :=
  x_start hD (by decide) rfl (Nat.le_of_ble_eq_true rfl) (fun p e s m below meth c X hW ls hl => w_X12_ended_0 X v1 hW hl h)

/-! WirelessCellModel.keyedMany()I -/
def rmX12_keyedMany : Room := { frames := 0, cells := 0, slots := 0, locals := 0 }
def L_X12_keyedMany_26 (k4 : Int32 → Int32 → Mm → Option (Int32 × Mm)) (v2 : Int32) (s0 : Int32) (s1 : Int32) (S : Mm) : Option (Int32 × Mm) :=
  tp (s0 + s1) fun x2 =>
  k4 x2 (v2 + 1) S
def L_X12_keyedMany_4   : Nat → Int32 → Int32 → Mm → Option (Int32 × Mm)
  | 0, _, _, _ => none
  | n + 1, v1, v2, S => 
    if 9 ≤ v2 then (
    some (v1, S))
    else (
    ldA S 219 0 9 1 v2 fun x1 =>
    if x1 = 4 then (
    L_X12_keyedMany_26 (L_X12_keyedMany_4  n) v2 v1 1 S)
    else (
    L_X12_keyedMany_26 (L_X12_keyedMany_4  n) v2 v1 0 S))
def F_X12_keyedMany  (S : Mm) : Option (Int32 × Mm) :=
  L_X12_keyedMany_4   fu 0 1 S
set_option maxRecDepth 100000 in
set_option maxHeartbeats 4000000 in
theorem w_X12_keyedMany_26 {p : Program} {l : Launch} {e : Env} {s : State} {m : MethodId} {args : Array Value} {below : List Frame} {meth : Method} {c : Code} {G : xG} {sz : Nat} {o : Int32 × Mm} (X : xC G true sz p s m args c cX12_keyedMany 3 wsX12_keyedMany RX12 meth (some .int)) (v2 : Int32) (s0 : Int32) (s1 : Int32)  (k4 : Int32 → Int32 → Mm → Option (Int32 × Mm)) (hk4 : ∀ (v1 : Int32) (v2 : Int32) (S : Mm) (H : Heap) (locs : List Loc) (ls : Array Slot), k4 v1 v2 S = some o → xW G true sz s H locs S → lv_has ls 3 [(0, .ref (G.2.2 200 0)), (1, .int v1), (2, .int v2)] → wX p l e rmX12_keyedMany s m args below meth c H locs (xQi G true sz o) (XA G true sz) 4 ls []) {S : Mm} {H : Heap} {locs : List Loc} {ls : Array Slot} (hW : xW G true sz s H locs S) (hl : lv_has ls 3 [(0, .ref (G.2.2 200 0)), (2, .int v2)]) (h : L_X12_keyedMany_26 k4 v2 s0 s1 S = some o) : wX p l e rmX12_keyedMany s m args below meth c H locs (xQi G true sz o) (XA G true sz) 26 ls [.int s1, .int s0] := by
  unfold L_X12_keyedMany_26 at h
  refine lv_iadd X.1 X.2.1 dX12_keyedMany_26 ?_
  refine x_top h (fun x2 h => ?_)
  refine lv_istore_n (lv' := [(1, .int x2), (0, .ref (G.2.2 200 0)), (2, .int v2)]) X.1 X.2.1 dX12_keyedMany_27 rfl hl (by decide) rfl (fun ls hl => ?_)
  refine lv_iinc (v := (v2 + 1)) (lv' := [(2, .int (v2 + 1)), (1, .int x2), (0, .ref (G.2.2 200 0))]) X.1 X.2.1 dX12_keyedMany_28 hl (k := 2) rfl rfl (by decide) rfl (fun ls hl => ?_)
  refine lv_goto (tgt := 4) X.1 X.2.1 dX12_keyedMany_31 (by decide) ?_
  exact hk4 x2 (v2 + 1) S _ _ _ h hW  (lv_sub hl [2, 1, 0] rfl)
set_option maxRecDepth 100000 in
set_option maxHeartbeats 4000000 in
theorem w_X12_keyedMany_4 {p : Program} {l : Launch} {e : Env} {s : State} {m : MethodId} {args : Array Value} {below : List Frame} {meth : Method} {c : Code} {G : xG} {sz : Nat} {o : Int32 × Mm} (X : xC G true sz p s m args c cX12_keyedMany 3 wsX12_keyedMany RX12 meth (some .int))    : ∀ (n : Nat) (v1 : Int32) (v2 : Int32) (S : Mm) (H : Heap) (locs : List Loc) (ls : Array Slot), L_X12_keyedMany_4  n v1 v2 S = some o → xW G true sz s H locs S → lv_has ls 3 [(0, .ref (G.2.2 200 0)), (1, .int v1), (2, .int v2)] → wX p l e rmX12_keyedMany s m args below meth c H locs (xQi G true sz o) (XA G true sz) 4 ls [] := by
  intro n
  induction n with
  | zero =>
    intro v1 v2 S H locs ls h
    cases h
  | succ n ih =>
    intro v1 v2 S H locs ls h hW  hl
    rw [L_X12_keyedMany_4] at h
    refine lv_iload_n X.1 X.2.1 dX12_keyedMany_4 rfl (lv_at hl 2 rfl) ?_
    refine lv_bipush (v := 9) X.1 X.2.1 dX12_keyedMany_5 rfl ?_
    refine x_icmp_ge X (tgt := 34) dX12_keyedMany_7 (by decide) h (fun h => ?_) (fun h => ?_)
    · refine lv_iload_n X.1 X.2.1 dX12_keyedMany_34 rfl (lv_at hl 1 rfl) ?_
      exact x_iret X hW h dX12_keyedMany_35
    · refine lv_iload_n X.1 X.2.1 dX12_keyedMany_10 rfl (lv_at hl 1 rfl) ?_
      refine lv_aload_n X.1 X.2.1 dX12_keyedMany_11 rfl (lv_at hl 0 rfl) ?_
      refine x_getR X hW fd_Model_asState (fun w h => List.mem_cons_of_mem _ (gin_X12 w h)) (List.mem_cons_of_mem _ gw169) z_1 dX12_keyedMany_12 ?_
      refine lv_iload_n X.1 X.2.1 dX12_keyedMany_15 rfl (lv_at hl 2 rfl) ?_
      refine x_iald X hW ar_219 dX12_keyedMany_16 h (fun x1 h => ?_)
      refine lv_iconst (v := 4) X.1 X.2.1 dX12_keyedMany_17 rfl ?_
      refine x_icmp_ne X (tgt := 25) dX12_keyedMany_18 (by decide) h (fun h => ?_) (fun h => ?_)
      · refine lv_iconst (v := 0) X.1 X.2.1 dX12_keyedMany_25 rfl ?_
        exact w_X12_keyedMany_26 X v2 v1 0  (L_X12_keyedMany_4  n) ih hW (lv_sub hl [0, 2] rfl) h
      · refine lv_iconst (v := 1) X.1 X.2.1 dX12_keyedMany_21 rfl ?_
        refine lv_goto (tgt := 26) X.1 X.2.1 dX12_keyedMany_22 (by decide) ?_
        exact w_X12_keyedMany_26 X v2 v1 1  (L_X12_keyedMany_4  n) ih hW (lv_sub hl [0, 2] rfl) h
set_option maxRecDepth 100000 in
set_option maxHeartbeats 4000000 in
theorem w_X12_keyedMany_0 {p : Program} {l : Launch} {e : Env} {s : State} {m : MethodId} {args : Array Value} {below : List Frame} {meth : Method} {c : Code} {G : xG} {sz : Nat} {o : Int32 × Mm} (X : xC G true sz p s m args c cX12_keyedMany 3 wsX12_keyedMany RX12 meth (some .int))  {S : Mm} {H : Heap} {locs : List Loc} {ls : Array Slot} (hW : xW G true sz s H locs S) (hl : lv_has ls 3 [(0, .ref (G.2.2 200 0))]) (h : F_X12_keyedMany  S = some o) : wX p l e rmX12_keyedMany s m args below meth c H locs (xQi G true sz o) (XA G true sz) 0 ls [] := by
  unfold F_X12_keyedMany at h
  refine lv_iconst (v := 0) X.1 X.2.1 dX12_keyedMany_0 rfl ?_
  refine lv_istore_n (lv' := [(1, .int 0), (0, .ref (G.2.2 200 0))]) X.1 X.2.1 dX12_keyedMany_1 rfl hl (by decide) rfl (fun ls hl => ?_)
  refine lv_iconst (v := 1) X.1 X.2.1 dX12_keyedMany_2 rfl ?_
  refine lv_istore_n (lv' := [(2, .int 1), (1, .int 0), (0, .ref (G.2.2 200 0))]) X.1 X.2.1 dX12_keyedMany_3 rfl hl (by decide) rfl (fun ls hl => ?_)
  exact w_X12_keyedMany_4 X    fu 0 1 S _ _ _ h hW  (lv_sub hl [2, 1, 0] rfl)
theorem c_X12_keyedMany (l : Launch) (G : xG) (hD : xD G true) (sz : Nat) (S : Mm)  (o : Int32 × Mm) (h : F_X12_keyedMany  S = some o) : Met l yX12_keyedMany wsX12_keyedMany rmX12_keyedMany (xPre G true S sz [.ref (G.2.2 200 0)]) (xQi G true sz o) 0 0 (XA G true sz) :=
  x_start hD (by decide) rfl (Nat.le_of_ble_eq_true rfl) (fun p e s m below meth c X hW ls hl => w_X12_keyedMany_0 X  hW hl h)

/-! WirelessCellModel.node(II)I -/
def rmX12_node : Room := { frames := 2, cells := 0, slots := 0, locals := 45 }
def F_X12_node (v1 : Int32) (v2 : Int32) (S : Mm) : Option (Int32 × Mm) :=
  pf S 288 0 0 fun S1 =>
  cl (F_X12_isNode v1 S1) fun r2 S3 =>
  if r2 = 0 then (
  some ((-1), S3))
  else (
  if v2 = 0 then (
  if v1 = 0 then (
  cl (F_X12_keyedMany S3) fun r6 S7 =>
  some (r6, S7))
  else (
  ldA S3 218 0 9 1 v1 fun x5 =>
  some (x5, S3)))
  else (
  if v2 = 1 then (
  if v1 = 0 then (
  some (0, S3))
  else (
  ldA S3 219 0 9 1 v1 fun x10 =>
  some (x10, S3)))
  else (
  if v2 = 2 then (
  ldA S3 234 0 9 1 v1 fun x12 =>
  some (x12, S3))
  else (
  if v2 = 3 then (
  ldA S3 248 0 9 1 v1 fun x14 =>
  some (x14, S3))
  else (
  if v2 = 4 then (
  ldA S3 249 0 9 1 v1 fun x16 =>
  some (x16, S3))
  else (
  if v2 = 5 then (
  ldA S3 250 0 9 1 v1 fun x18 =>
  some (x18, S3))
  else (
  if v2 = 6 then (
  ldA S3 255 0 9 1 v1 fun x20 =>
  if x20 = 0 then (
  some (0, S3))
  else (
  some (1, S3)))
  else (
  if v2 = 7 then (
  ldA S3 247 0 9 1 v1 fun x22 =>
  some (x22, S3))
  else (
  if v2 = 8 then (
  ldA S3 284 0 9 1 v1 fun x24 =>
  some (x24, S3))
  else (
  if v2 = 9 then (
  ldA S3 281 0 9 1 v1 fun x26 =>
  some (x26, S3))
  else (
  if v2 = 10 then (
  ldA S3 282 0 9 1 v1 fun x28 =>
  some (x28, S3))
  else (
  some ((-1), S3)))))))))))))
set_option maxRecDepth 100000 in
set_option maxHeartbeats 4000000 in
theorem w_X12_node_0 {p : Program} {l : Launch} {e : Env} {s : State} {m : MethodId} {args : Array Value} {below : List Frame} {meth : Method} {c : Code} {G : xG} {sz : Nat} {o : Int32 × Mm} (X : xC G true sz p s m args c cX12_node 3 wsX12_node RX12 meth (some .int)) (v1 : Int32) (v2 : Int32) {S : Mm} {H : Heap} {locs : List Loc} {ls : Array Slot} (hW : xW G true sz s H locs S) (hl : lv_has ls 3 [(0, .ref (G.2.2 200 0)), (1, .int v1), (2, .int v2)]) (h : F_X12_node v1 v2 S = some o) : wX p l e rmX12_node s m args below meth c H locs (xQi G true sz o) (XA G true sz) 0 ls [] := by
  unfold F_X12_node at h
  refine lv_aload_n X.1 X.2.1 dX12_node_0 rfl (lv_at hl 0 rfl) ?_
  refine lv_iconst (v := 0) X.1 X.2.1 dX12_node_1 rfl ?_
  refine x_putI X hW fd_Model_thrown (fun w h => List.mem_cons_of_mem _ (gin_X12 w h)) (List.mem_cons_of_mem _ gw273) z_1 dX12_node_2 tyX12 tyX12_ok nmX12 rfl rfl rfl h (fun S1 H locs h hW => ?_)
  refine lv_iload_n X.1 X.2.1 dX12_node_5 rfl (lv_at hl 1 rfl) ?_
  obtain ⟨r2, S3, h4, h⟩ := cl_some h
  refine x_aftI X hW (x_runS (As := [.int v1]) (rest := []) X hW (c_X12_isNode l G X.2.2.2.2.2.2.2.2.2.1 _ S1 v1 _ h4) (va_cwS 1 X.2.2.2.2.1 (gS gw396 gw397 gw5 gw398) rfl rfl rfl hd_X12_isNode ⟨Nat.le_of_ble_eq_true rfl, Nat.le_of_ble_eq_true rfl⟩) rfl hl.1 rfl (Nat.le_of_ble_eq_true rfl) dX12_node_6 ⟨Nat.zero_le _, Nat.zero_le _⟩) (fun H locs hW => ?_)
  refine x_if_ne X (tgt := 14) dX12_node_9 (by decide) h (fun h => ?_) (fun h => ?_)
  · refine lv_iload_n X.1 X.2.1 dX12_node_14 rfl (lv_at hl 2 rfl) ?_
    refine x_ite h (fun g9 h => ?_) (fun g9 h => ?_)
    · refine lv_tableIn (off := 57) (tgt := 72) X.1 X.2.1 dX12_node_15 (by rw [g9]; decide) (by rw [g9]; decide) (by rw [g9]; try rfl) (by decide) ?_
      refine lv_iload_n X.1 X.2.1 dX12_node_72 rfl (lv_at hl 1 rfl) ?_
      refine x_if_ne X (tgt := 83) dX12_node_73 (by decide) h (fun h => ?_) (fun h => ?_)
      · refine lv_aload_n X.1 X.2.1 dX12_node_83 rfl (lv_at hl 0 rfl) ?_
        refine x_getR X hW fd_Model_state (fun w h => List.mem_cons_of_mem _ (gin_X12 w h)) (List.mem_cons_of_mem _ gw168) z_1 dX12_node_84 ?_
        refine lv_iload_n X.1 X.2.1 dX12_node_87 rfl (lv_at hl 1 rfl) ?_
        refine x_iald X hW ar_218 dX12_node_88 h (fun x5 h => ?_)
        exact x_iret X hW h dX12_node_89
      · refine lv_aload_n X.1 X.2.1 dX12_node_76 rfl (lv_at hl 0 rfl) ?_
        obtain ⟨r6, S7, h8, h⟩ := cl_some h
        refine x_aftI X hW (x_runV (C := RX12) (a := G.2.2 200 0) (As := []) (rest := []) X hW (c_X12_keyedMany l G X.2.2.2.2.2.2.2.2.2.1 _ S3 _ h8) (cwV 0 X.2.2.2.2.1 (gV gw1265 gw1266 gw1267 gw5 gw1268) rfl rfl rfl ⟨rfl, hd_X12_keyedMany⟩ ⟨Nat.le_of_ble_eq_true rfl, Nat.le_of_ble_eq_true rfl⟩) (x_recv X hW ob_Model z_1) rfl hl.1 rfl (Nat.le_of_ble_eq_true rfl) dX12_node_77 ⟨Nat.zero_le _, Nat.zero_le _⟩) (fun H locs hW => ?_)
        refine lv_goto (tgt := 89) X.1 X.2.1 dX12_node_80 (by decide) ?_
        exact x_iret X hW h dX12_node_89
    · refine x_ite h (fun g11 h => ?_) (fun g11 h => ?_)
      · refine lv_tableIn (off := 75) (tgt := 90) X.1 X.2.1 dX12_node_15 (by rw [g11]; decide) (by rw [g11]; decide) (by rw [g11]; try rfl) (by decide) ?_
        refine lv_iload_n X.1 X.2.1 dX12_node_90 rfl (lv_at hl 1 rfl) ?_
        refine x_if_ne X (tgt := 98) dX12_node_91 (by decide) h (fun h => ?_) (fun h => ?_)
        · refine lv_aload_n X.1 X.2.1 dX12_node_98 rfl (lv_at hl 0 rfl) ?_
          refine x_getR X hW fd_Model_asState (fun w h => List.mem_cons_of_mem _ (gin_X12 w h)) (List.mem_cons_of_mem _ gw169) z_1 dX12_node_99 ?_
          refine lv_iload_n X.1 X.2.1 dX12_node_102 rfl (lv_at hl 1 rfl) ?_
          refine x_iald X hW ar_219 dX12_node_103 h (fun x10 h => ?_)
          exact x_iret X hW h dX12_node_104
        · refine lv_iconst (v := 0) X.1 X.2.1 dX12_node_94 rfl ?_
          refine lv_goto (tgt := 104) X.1 X.2.1 dX12_node_95 (by decide) ?_
          exact x_iret X hW h dX12_node_104
      · refine x_ite h (fun g13 h => ?_) (fun g13 h => ?_)
        · refine lv_tableIn (off := 90) (tgt := 105) X.1 X.2.1 dX12_node_15 (by rw [g13]; decide) (by rw [g13]; decide) (by rw [g13]; try rfl) (by decide) ?_
          refine lv_aload_n X.1 X.2.1 dX12_node_105 rfl (lv_at hl 0 rfl) ?_
          refine x_getR X hW fd_Model_qMany (fun w h => List.mem_cons_of_mem _ (gin_X12 w h)) (List.mem_cons_of_mem _ gw185) z_1 dX12_node_106 ?_
          refine lv_iload_n X.1 X.2.1 dX12_node_109 rfl (lv_at hl 1 rfl) ?_
          refine x_iald X hW ar_234 dX12_node_110 h (fun x12 h => ?_)
          exact x_iret X hW h dX12_node_111
        · refine x_ite h (fun g15 h => ?_) (fun g15 h => ?_)
          · refine lv_tableIn (off := 97) (tgt := 112) X.1 X.2.1 dX12_node_15 (by rw [g15]; decide) (by rw [g15]; decide) (by rw [g15]; try rfl) (by decide) ?_
            refine lv_aload_n X.1 X.2.1 dX12_node_112 rfl (lv_at hl 0 rfl) ?_
            refine x_getR X hW fd_Model_backoff (fun w h => List.mem_cons_of_mem _ (gin_X12 w h)) (List.mem_cons_of_mem _ gw199) z_1 dX12_node_113 ?_
            refine lv_iload_n X.1 X.2.1 dX12_node_116 rfl (lv_at hl 1 rfl) ?_
            refine x_iald X hW ar_248 dX12_node_117 h (fun x14 h => ?_)
            exact x_iret X hW h dX12_node_118
          · refine x_ite h (fun g17 h => ?_) (fun g17 h => ?_)
            · refine lv_tableIn (off := 104) (tgt := 119) X.1 X.2.1 dX12_node_15 (by rw [g17]; decide) (by rw [g17]; decide) (by rw [g17]; try rfl) (by decide) ?_
              refine lv_aload_n X.1 X.2.1 dX12_node_119 rfl (lv_at hl 0 rfl) ?_
              refine x_getR X hW fd_Model_cw (fun w h => List.mem_cons_of_mem _ (gin_X12 w h)) (List.mem_cons_of_mem _ gw200) z_1 dX12_node_120 ?_
              refine lv_iload_n X.1 X.2.1 dX12_node_123 rfl (lv_at hl 1 rfl) ?_
              refine x_iald X hW ar_249 dX12_node_124 h (fun x16 h => ?_)
              exact x_iret X hW h dX12_node_125
            · refine x_ite h (fun g19 h => ?_) (fun g19 h => ?_)
              · refine lv_tableIn (off := 111) (tgt := 126) X.1 X.2.1 dX12_node_15 (by rw [g19]; decide) (by rw [g19]; decide) (by rw [g19]; try rfl) (by decide) ?_
                refine lv_aload_n X.1 X.2.1 dX12_node_126 rfl (lv_at hl 0 rfl) ?_
                refine x_getR X hW fd_Model_tries (fun w h => List.mem_cons_of_mem _ (gin_X12 w h)) (List.mem_cons_of_mem _ gw201) z_1 dX12_node_127 ?_
                refine lv_iload_n X.1 X.2.1 dX12_node_130 rfl (lv_at hl 1 rfl) ?_
                refine x_iald X hW ar_250 dX12_node_131 h (fun x18 h => ?_)
                exact x_iret X hW h dX12_node_132
              · refine x_ite h (fun g21 h => ?_) (fun g21 h => ?_)
                · refine lv_tableIn (off := 118) (tgt := 133) X.1 X.2.1 dX12_node_15 (by rw [g21]; decide) (by rw [g21]; decide) (by rw [g21]; try rfl) (by decide) ?_
                  refine lv_aload_n X.1 X.2.1 dX12_node_133 rfl (lv_at hl 0 rfl) ?_
                  refine x_getR X hW fd_Model_waits (fun w h => List.mem_cons_of_mem _ (gin_X12 w h)) (List.mem_cons_of_mem _ gw209) z_1 dX12_node_134 ?_
                  refine lv_iload_n X.1 X.2.1 dX12_node_137 rfl (lv_at hl 1 rfl) ?_
                  refine x_zald X hW ar_255 dX12_node_138 h (fun x20 h => ?_)
                  refine x_if_eq X (tgt := 146) dX12_node_139 (by decide) h (fun h => ?_) (fun h => ?_)
                  · refine lv_iconst (v := 0) X.1 X.2.1 dX12_node_146 rfl ?_
                    exact x_iret X hW h dX12_node_147
                  · refine lv_iconst (v := 1) X.1 X.2.1 dX12_node_142 rfl ?_
                    refine lv_goto (tgt := 147) X.1 X.2.1 dX12_node_143 (by decide) ?_
                    exact x_iret X hW h dX12_node_147
                · refine x_ite h (fun g23 h => ?_) (fun g23 h => ?_)
                  · refine lv_tableIn (off := 133) (tgt := 148) X.1 X.2.1 dX12_node_15 (by rw [g23]; decide) (by rw [g23]; decide) (by rw [g23]; try rfl) (by decide) ?_
                    refine lv_aload_n X.1 X.2.1 dX12_node_148 rfl (lv_at hl 0 rfl) ?_
                    refine x_getR X hW fd_Model_seq (fun w h => List.mem_cons_of_mem _ (gin_X12 w h)) (List.mem_cons_of_mem _ gw198) z_1 dX12_node_149 ?_
                    refine lv_iload_n X.1 X.2.1 dX12_node_152 rfl (lv_at hl 1 rfl) ?_
                    refine x_iald X hW ar_247 dX12_node_153 h (fun x22 h => ?_)
                    exact x_iret X hW h dX12_node_154
                  · refine x_ite h (fun g25 h => ?_) (fun g25 h => ?_)
                    · refine lv_tableIn (off := 140) (tgt := 155) X.1 X.2.1 dX12_node_15 (by rw [g25]; decide) (by rw [g25]; decide) (by rw [g25]; try rfl) (by decide) ?_
                      refine lv_aload_n X.1 X.2.1 dX12_node_155 rfl (lv_at hl 0 rfl) ?_
                      refine x_getR X hW fd_Model_deliveredMany (fun w h => List.mem_cons_of_mem _ (gin_X12 w h)) (List.mem_cons_of_mem _ gw239) z_1 dX12_node_156 ?_
                      refine lv_iload_n X.1 X.2.1 dX12_node_159 rfl (lv_at hl 1 rfl) ?_
                      refine x_iald X hW ar_284 dX12_node_160 h (fun x24 h => ?_)
                      exact x_iret X hW h dX12_node_161
                    · refine x_ite h (fun g27 h => ?_) (fun g27 h => ?_)
                      · refine lv_tableIn (off := 147) (tgt := 162) X.1 X.2.1 dX12_node_15 (by rw [g27]; decide) (by rw [g27]; decide) (by rw [g27]; try rfl) (by decide) ?_
                        refine lv_aload_n X.1 X.2.1 dX12_node_162 rfl (lv_at hl 0 rfl) ?_
                        refine x_getR X hW fd_Model_dropped (fun w h => List.mem_cons_of_mem _ (gin_X12 w h)) (List.mem_cons_of_mem _ gw236) z_1 dX12_node_163 ?_
                        refine lv_iload_n X.1 X.2.1 dX12_node_166 rfl (lv_at hl 1 rfl) ?_
                        refine x_iald X hW ar_281 dX12_node_167 h (fun x26 h => ?_)
                        exact x_iret X hW h dX12_node_168
                      · refine x_ite h (fun g29 h => ?_) (fun g29 h => ?_)
                        · refine lv_tableIn (off := 154) (tgt := 169) X.1 X.2.1 dX12_node_15 (by rw [g29]; decide) (by rw [g29]; decide) (by rw [g29]; try rfl) (by decide) ?_
                          refine lv_aload_n X.1 X.2.1 dX12_node_169 rfl (lv_at hl 0 rfl) ?_
                          refine x_getR X hW fd_Model_unsealed (fun w h => List.mem_cons_of_mem _ (gin_X12 w h)) (List.mem_cons_of_mem _ gw237) z_1 dX12_node_170 ?_
                          refine lv_iload_n X.1 X.2.1 dX12_node_173 rfl (lv_at hl 1 rfl) ?_
                          refine x_iald X hW ar_282 dX12_node_174 h (fun x28 h => ?_)
                          exact x_iret X hW h dX12_node_175
                        · have zg9 := lv_neT g9 (show Int32.toInt 0 = 0 from rfl)
                          have zg11 := lv_neT g11 (show Int32.toInt 1 = 1 from rfl)
                          have zg13 := lv_neT g13 (show Int32.toInt 2 = 2 from rfl)
                          have zg15 := lv_neT g15 (show Int32.toInt 3 = 3 from rfl)
                          have zg17 := lv_neT g17 (show Int32.toInt 4 = 4 from rfl)
                          have zg19 := lv_neT g19 (show Int32.toInt 5 = 5 from rfl)
                          have zg21 := lv_neT g21 (show Int32.toInt 6 = 6 from rfl)
                          have zg23 := lv_neT g23 (show Int32.toInt 7 = 7 from rfl)
                          have zg25 := lv_neT g25 (show Int32.toInt 8 = 8 from rfl)
                          have zg27 := lv_neT g27 (show Int32.toInt 9 = 9 from rfl)
                          have zg29 := lv_neT g29 (show Int32.toInt 10 = 10 from rfl)
                          refine lv_tableOut (tgt := 176) X.1 X.2.1 dX12_node_15 (by omega) (by decide) ?_
                          refine lv_iconst (v := (-1)) X.1 X.2.1 dX12_node_176 rfl ?_
                          exact x_iret X hW h dX12_node_177
  · refine lv_iconst (v := (-1)) X.1 X.2.1 dX12_node_12 rfl ?_
    exact x_iret X hW h dX12_node_13
theorem c_X12_node (l : Launch) (G : xG) (hD : xD G true) (sz : Nat) (S : Mm) (v1 : Int32) (v2 : Int32) (o : Int32 × Mm) (h : F_X12_node v1 v2 S = some o) : Met l yX12_node wsX12_node rmX12_node (xPre G true S sz [.ref (G.2.2 200 0), .int v1, .int v2]) (xQi G true sz o) 0 0 (XA G true sz) :=
  x_start hD (by decide) rfl (Nat.le_of_ble_eq_true rfl) (fun p e s m below meth c X hW ls hl => w_X12_node_0 X v1 v2 hW hl h)

/-! WirelessCellModel.key(III)I -/
def rmX12_key : Room := { frames := 2, cells := 0, slots := 0, locals := 45 }
def L_X12_key_34   (S : Mm) : Option (Int32 × Mm) :=
  some ((-1), S)
def F_X12_key (v1 : Int32) (v2 : Int32) (v3 : Int32) (S : Mm) : Option (Int32 × Mm) :=
  pf S 288 0 0 fun S1 =>
  cl (F_X12_isStation v1 S1) fun r2 S3 =>
  if r2 = 0 then (
  L_X12_key_34  S3)
  else (
  cl (F_X12_in (Int32.toInt64 v2) 0 1 S3) fun r5 S6 =>
  if r5 = 0 then (
  L_X12_key_34  S6)
  else (
  cl (F_X12_in (Int32.toInt64 v3) 0 15 S6) fun r8 S9 =>
  if r8 = 0 then (
  L_X12_key_34  S9)
  else (
  tp (v1 + (9 * v2)) fun x11 =>
  ldA S9 222 0 18 1 x11 fun x12 =>
  if x12 = 0 then (
  some ((-1), S9))
  else (
  ldA S9 221 0 288 1 ((16 * x11) + v3) fun x13 =>
  some (x13, S9)))))
set_option maxRecDepth 100000 in
set_option maxHeartbeats 4000000 in
theorem w_X12_key_34 {p : Program} {l : Launch} {e : Env} {s : State} {m : MethodId} {args : Array Value} {below : List Frame} {meth : Method} {c : Code} {G : xG} {sz : Nat} {o : Int32 × Mm} (X : xC G true sz p s m args c cX12_key 5 wsX12_key RX12 meth (some .int))    {S : Mm} {H : Heap} {locs : List Loc} {ls : Array Slot} (hW : xW G true sz s H locs S) (hl : lv_has ls 5 []) (h : L_X12_key_34   S = some o) : wX p l e rmX12_key s m args below meth c H locs (xQi G true sz o) (XA G true sz) 34 ls [] := by
  unfold L_X12_key_34 at h
  refine lv_iconst (v := (-1)) X.1 X.2.1 dX12_key_34 rfl ?_
  exact x_iret X hW h dX12_key_35
set_option maxRecDepth 100000 in
set_option maxHeartbeats 4000000 in
theorem w_X12_key_0 {p : Program} {l : Launch} {e : Env} {s : State} {m : MethodId} {args : Array Value} {below : List Frame} {meth : Method} {c : Code} {G : xG} {sz : Nat} {o : Int32 × Mm} (X : xC G true sz p s m args c cX12_key 5 wsX12_key RX12 meth (some .int)) (v1 : Int32) (v2 : Int32) (v3 : Int32) {S : Mm} {H : Heap} {locs : List Loc} {ls : Array Slot} (hW : xW G true sz s H locs S) (hl : lv_has ls 5 [(0, .ref (G.2.2 200 0)), (1, .int v1), (2, .int v2), (3, .int v3)]) (h : F_X12_key v1 v2 v3 S = some o) : wX p l e rmX12_key s m args below meth c H locs (xQi G true sz o) (XA G true sz) 0 ls [] := by
  unfold F_X12_key at h
  refine lv_aload_n X.1 X.2.1 dX12_key_0 rfl (lv_at hl 0 rfl) ?_
  refine lv_iconst (v := 0) X.1 X.2.1 dX12_key_1 rfl ?_
  refine x_putI X hW fd_Model_thrown (fun w h => List.mem_cons_of_mem _ (gin_X12 w h)) (List.mem_cons_of_mem _ gw273) z_1 dX12_key_2 tyX12 tyX12_ok nmX12 rfl rfl rfl h (fun S1 H locs h hW => ?_)
  refine lv_iload_n X.1 X.2.1 dX12_key_5 rfl (lv_at hl 1 rfl) ?_
  obtain ⟨r2, S3, h4, h⟩ := cl_some h
  refine x_aftI X hW (x_runS (As := [.int v1]) (rest := []) X hW (c_X12_isStation l G X.2.2.2.2.2.2.2.2.2.1 _ S1 v1 _ h4) (va_cwS 1 X.2.2.2.2.1 (gS gw369 gw370 gw5 gw371) rfl rfl rfl hd_X12_isStation ⟨Nat.le_of_ble_eq_true rfl, Nat.le_of_ble_eq_true rfl⟩) rfl hl.1 rfl (Nat.le_of_ble_eq_true rfl) dX12_key_6 ⟨Nat.zero_le _, Nat.zero_le _⟩) (fun H locs hW => ?_)
  refine x_if_eq X (tgt := 34) dX12_key_9 (by decide) h (fun h => ?_) (fun h => ?_)
  · exact w_X12_key_34 X    hW (lv_sub hl [] rfl) h
  · refine lv_iload_n X.1 X.2.1 dX12_key_12 rfl (lv_at hl 2 rfl) ?_
    refine lv_i2l (v := (Int32.toInt64 v2)) X.1 X.2.1 dX12_key_13 rfl ?_
    refine lv_lconst (v := 0) X.1 X.2.1 dX12_key_14 rfl ?_
    refine lv_lconst (v := 1) X.1 X.2.1 dX12_key_15 rfl ?_
    obtain ⟨r5, S6, h7, h⟩ := cl_some h
    refine x_aftI X hW (x_runS (As := [.long (Int32.toInt64 v2), .long 0, .long 1]) (rest := []) X hW (c_X12_in l G X.2.2.2.2.2.2.2.2.2.1 _ S3 (Int32.toInt64 v2) 0 1 _ h7) (va_cwS 3 X.2.2.2.2.1 (gS gw296 gw297 gw5 gw298) rfl rfl rfl hd_X12_in ⟨Nat.le_of_ble_eq_true rfl, Nat.le_of_ble_eq_true rfl⟩) rfl hl.1 rfl (Nat.le_of_ble_eq_true rfl) dX12_key_16 ⟨Nat.zero_le _, Nat.zero_le _⟩) (fun H locs hW => ?_)
    refine x_if_eq X (tgt := 34) dX12_key_19 (by decide) h (fun h => ?_) (fun h => ?_)
    · exact w_X12_key_34 X    hW (lv_sub hl [] rfl) h
    · refine lv_iload_n X.1 X.2.1 dX12_key_22 rfl (lv_at hl 3 rfl) ?_
      refine lv_i2l (v := (Int32.toInt64 v3)) X.1 X.2.1 dX12_key_23 rfl ?_
      refine lv_lconst (v := 0) X.1 X.2.1 dX12_key_24 rfl ?_
      refine lv_ldc2 (v := 15) X.1 X.2.1 X.2.2.2.1 (X.2.2.2.2.1 _ (List.mem_cons_of_mem _ gw416)) dX12_key_25 ?_
      obtain ⟨r8, S9, h10, h⟩ := cl_some h
      refine x_aftI X hW (x_runS (As := [.long (Int32.toInt64 v3), .long 0, .long 15]) (rest := []) X hW (c_X12_in l G X.2.2.2.2.2.2.2.2.2.1 _ S6 (Int32.toInt64 v3) 0 15 _ h10) (va_cwS 3 X.2.2.2.2.1 (gS gw296 gw297 gw5 gw298) rfl rfl rfl hd_X12_in ⟨Nat.le_of_ble_eq_true rfl, Nat.le_of_ble_eq_true rfl⟩) rfl hl.1 rfl (Nat.le_of_ble_eq_true rfl) dX12_key_28 ⟨Nat.zero_le _, Nat.zero_le _⟩) (fun H locs hW => ?_)
      refine x_if_ne X (tgt := 36) dX12_key_31 (by decide) h (fun h => ?_) (fun h => ?_)
      · refine lv_iload_n X.1 X.2.1 dX12_key_36 rfl (lv_at hl 1 rfl) ?_
        refine lv_bipush (v := 9) X.1 X.2.1 dX12_key_37 rfl ?_
        refine lv_iload_n X.1 X.2.1 dX12_key_39 rfl (lv_at hl 2 rfl) ?_
        refine lv_imul X.1 X.2.1 dX12_key_40 ?_
        refine lv_iadd X.1 X.2.1 dX12_key_41 ?_
        refine x_top h (fun x11 h => ?_)
        refine lv_istore (lv' := [(4, .int x11), (0, .ref (G.2.2 200 0)), (1, .int v1), (2, .int v2), (3, .int v3)]) X.1 X.2.1 dX12_key_42 hl (by decide) rfl (fun ls hl => ?_)
        refine lv_aload_n X.1 X.2.1 dX12_key_44 rfl (lv_at hl 1 rfl) ?_
        refine x_getR X hW fd_Model_hasKey (fun w h => List.mem_cons_of_mem _ (gin_X12 w h)) (List.mem_cons_of_mem _ gw172) z_1 dX12_key_45 ?_
        refine lv_iload X.1 X.2.1 dX12_key_48 (lv_at hl 0 rfl) ?_
        refine x_zald X hW ar_222 dX12_key_50 h (fun x12 h => ?_)
        refine x_if_eq X (tgt := 69) dX12_key_51 (by decide) h (fun h => ?_) (fun h => ?_)
        · refine lv_iconst (v := (-1)) X.1 X.2.1 dX12_key_69 rfl ?_
          exact x_iret X hW h dX12_key_70
        · refine lv_aload_n X.1 X.2.1 dX12_key_54 rfl (lv_at hl 1 rfl) ?_
          refine x_getR X hW fd_Model_tk (fun w h => List.mem_cons_of_mem _ (gin_X12 w h)) (List.mem_cons_of_mem _ gw171) z_1 dX12_key_55 ?_
          refine lv_bipush (v := 16) X.1 X.2.1 dX12_key_58 rfl ?_
          refine lv_iload X.1 X.2.1 dX12_key_60 (lv_at hl 0 rfl) ?_
          refine lv_imul X.1 X.2.1 dX12_key_62 ?_
          refine lv_iload_n X.1 X.2.1 dX12_key_63 rfl (lv_at hl 4 rfl) ?_
          refine lv_iadd X.1 X.2.1 dX12_key_64 ?_
          refine x_iald X hW ar_221 dX12_key_65 h (fun x13 h => ?_)
          refine lv_goto (tgt := 70) X.1 X.2.1 dX12_key_66 (by decide) ?_
          exact x_iret X hW h dX12_key_70
      · exact w_X12_key_34 X    hW (lv_sub hl [] rfl) h
theorem c_X12_key (l : Launch) (G : xG) (hD : xD G true) (sz : Nat) (S : Mm) (v1 : Int32) (v2 : Int32) (v3 : Int32) (o : Int32 × Mm) (h : F_X12_key v1 v2 v3 S = some o) : Met l yX12_key wsX12_key rmX12_key (xPre G true S sz [.ref (G.2.2 200 0), .int v1, .int v2, .int v3]) (xQi G true sz o) 0 0 (XA G true sz) :=
  x_start hD (by decide) rfl (Nat.le_of_ble_eq_true rfl) (fun p e s m below meth c X hW ls hl => w_X12_key_0 X v1 v2 v3 hW hl h)

/-! WirelessCellModel.delivered(III)I -/
def rmX12_delivered : Room := { frames := 2, cells := 0, slots := 0, locals := 45 }
def L_X12_delivered_32   (S : Mm) : Option (Int32 × Mm) :=
  some ((-1), S)
def F_X12_delivered (v1 : Int32) (v2 : Int32) (v3 : Int32) (S : Mm) : Option (Int32 × Mm) :=
  pf S 288 0 0 fun S1 =>
  cl (F_X12_isNode v1 S1) fun r2 S3 =>
  if r2 = 0 then (
  L_X12_delivered_32  S3)
  else (
  if v2 < 0 then (
  L_X12_delivered_32  S3)
  else (
  if 12 ≤ v2 then (
  L_X12_delivered_32  S3)
  else (
  ldA S3 284 0 9 1 v1 fun x5 =>
  if v2 < x5 then (
  tp ((12 * v1) + v2) fun x6 =>
  if v3 = 0 then (
  ldA S3 285 0 108 1 x6 fun x7 =>
  some (x7, S3))
  else (
  if v3 = 1 then (
  ldA S3 286 0 108 1 x6 fun x9 =>
  some (x9, S3))
  else (
  ldA S3 286 0 108 1 x6 fun x11 =>
  cl (F_X12_in (Int32.toInt64 v3) 10 (9 + (Int32.toInt64 x11)) S3) fun r12 S13 =>
  if r12 = 0 then (
  some ((-1), S13))
  else (
  ldA S13 287 0 21600 1 (((200 * x6) + v3) - 10) fun x15 =>
  some (x15, S13)))))
  else (
  L_X12_delivered_32  S3))))
set_option maxRecDepth 100000 in
set_option maxHeartbeats 4000000 in
theorem w_X12_delivered_32 {p : Program} {l : Launch} {e : Env} {s : State} {m : MethodId} {args : Array Value} {below : List Frame} {meth : Method} {c : Code} {G : xG} {sz : Nat} {o : Int32 × Mm} (X : xC G true sz p s m args c cX12_delivered 5 wsX12_delivered RX12 meth (some .int))    {S : Mm} {H : Heap} {locs : List Loc} {ls : Array Slot} (hW : xW G true sz s H locs S) (hl : lv_has ls 5 []) (h : L_X12_delivered_32   S = some o) : wX p l e rmX12_delivered s m args below meth c H locs (xQi G true sz o) (XA G true sz) 32 ls [] := by
  unfold L_X12_delivered_32 at h
  refine lv_iconst (v := (-1)) X.1 X.2.1 dX12_delivered_32 rfl ?_
  exact x_iret X hW h dX12_delivered_33
set_option maxRecDepth 100000 in
set_option maxHeartbeats 4000000 in
theorem w_X12_delivered_0 {p : Program} {l : Launch} {e : Env} {s : State} {m : MethodId} {args : Array Value} {below : List Frame} {meth : Method} {c : Code} {G : xG} {sz : Nat} {o : Int32 × Mm} (X : xC G true sz p s m args c cX12_delivered 5 wsX12_delivered RX12 meth (some .int)) (v1 : Int32) (v2 : Int32) (v3 : Int32) {S : Mm} {H : Heap} {locs : List Loc} {ls : Array Slot} (hW : xW G true sz s H locs S) (hl : lv_has ls 5 [(0, .ref (G.2.2 200 0)), (1, .int v1), (2, .int v2), (3, .int v3)]) (h : F_X12_delivered v1 v2 v3 S = some o) : wX p l e rmX12_delivered s m args below meth c H locs (xQi G true sz o) (XA G true sz) 0 ls [] := by
  unfold F_X12_delivered at h
  refine lv_aload_n X.1 X.2.1 dX12_delivered_0 rfl (lv_at hl 0 rfl) ?_
  refine lv_iconst (v := 0) X.1 X.2.1 dX12_delivered_1 rfl ?_
  refine x_putI X hW fd_Model_thrown (fun w h => List.mem_cons_of_mem _ (gin_X12 w h)) (List.mem_cons_of_mem _ gw273) z_1 dX12_delivered_2 tyX12 tyX12_ok nmX12 rfl rfl rfl h (fun S1 H locs h hW => ?_)
  refine lv_iload_n X.1 X.2.1 dX12_delivered_5 rfl (lv_at hl 1 rfl) ?_
  obtain ⟨r2, S3, h4, h⟩ := cl_some h
  refine x_aftI X hW (x_runS (As := [.int v1]) (rest := []) X hW (c_X12_isNode l G X.2.2.2.2.2.2.2.2.2.1 _ S1 v1 _ h4) (va_cwS 1 X.2.2.2.2.1 (gS gw396 gw397 gw5 gw398) rfl rfl rfl hd_X12_isNode ⟨Nat.le_of_ble_eq_true rfl, Nat.le_of_ble_eq_true rfl⟩) rfl hl.1 rfl (Nat.le_of_ble_eq_true rfl) dX12_delivered_6 ⟨Nat.zero_le _, Nat.zero_le _⟩) (fun H locs hW => ?_)
  refine x_if_eq X (tgt := 32) dX12_delivered_9 (by decide) h (fun h => ?_) (fun h => ?_)
  · exact w_X12_delivered_32 X    hW (lv_sub hl [] rfl) h
  · refine lv_iload_n X.1 X.2.1 dX12_delivered_12 rfl (lv_at hl 2 rfl) ?_
    refine x_if_lt X (tgt := 32) dX12_delivered_13 (by decide) h (fun h => ?_) (fun h => ?_)
    · exact w_X12_delivered_32 X    hW (lv_sub hl [] rfl) h
    · refine lv_iload_n X.1 X.2.1 dX12_delivered_16 rfl (lv_at hl 2 rfl) ?_
      refine lv_bipush (v := 12) X.1 X.2.1 dX12_delivered_17 rfl ?_
      refine x_icmp_ge X (tgt := 32) dX12_delivered_19 (by decide) h (fun h => ?_) (fun h => ?_)
      · exact w_X12_delivered_32 X    hW (lv_sub hl [] rfl) h
      · refine lv_iload_n X.1 X.2.1 dX12_delivered_22 rfl (lv_at hl 2 rfl) ?_
        refine lv_aload_n X.1 X.2.1 dX12_delivered_23 rfl (lv_at hl 0 rfl) ?_
        refine x_getR X hW fd_Model_deliveredMany (fun w h => List.mem_cons_of_mem _ (gin_X12 w h)) (List.mem_cons_of_mem _ gw239) z_1 dX12_delivered_24 ?_
        refine lv_iload_n X.1 X.2.1 dX12_delivered_27 rfl (lv_at hl 1 rfl) ?_
        refine x_iald X hW ar_284 dX12_delivered_28 h (fun x5 h => ?_)
        refine x_icmp_lt X (tgt := 34) dX12_delivered_29 (by decide) h (fun h => ?_) (fun h => ?_)
        · refine lv_bipush (v := 12) X.1 X.2.1 dX12_delivered_34 rfl ?_
          refine lv_iload_n X.1 X.2.1 dX12_delivered_36 rfl (lv_at hl 1 rfl) ?_
          refine lv_imul X.1 X.2.1 dX12_delivered_37 ?_
          refine lv_iload_n X.1 X.2.1 dX12_delivered_38 rfl (lv_at hl 2 rfl) ?_
          refine lv_iadd X.1 X.2.1 dX12_delivered_39 ?_
          refine x_top h (fun x6 h => ?_)
          refine lv_istore (lv' := [(4, .int x6), (0, .ref (G.2.2 200 0)), (1, .int v1), (2, .int v2), (3, .int v3)]) X.1 X.2.1 dX12_delivered_40 hl (by decide) rfl (fun ls hl => ?_)
          refine lv_iload_n X.1 X.2.1 dX12_delivered_42 rfl (lv_at hl 4 rfl) ?_
          refine x_ite h (fun g8 h => ?_) (fun g8 h => ?_)
          · refine lv_lookup (off := 25) (tgt := 68) X.1 X.2.1 dX12_delivered_43 (by decide) (by rw [g8]; try rfl) (by decide) ?_
            refine lv_aload_n X.1 X.2.1 dX12_delivered_68 rfl (lv_at hl 1 rfl) ?_
            refine x_getR X hW fd_Model_deliveredFrom (fun w h => List.mem_cons_of_mem _ (gin_X12 w h)) (List.mem_cons_of_mem _ gw240) z_1 dX12_delivered_69 ?_
            refine lv_iload X.1 X.2.1 dX12_delivered_72 (lv_at hl 0 rfl) ?_
            refine x_iald X hW ar_285 dX12_delivered_74 h (fun x7 h => ?_)
            exact x_iret X hW h dX12_delivered_75
          · refine x_ite h (fun g10 h => ?_) (fun g10 h => ?_)
            · refine lv_lookup (off := 33) (tgt := 76) X.1 X.2.1 dX12_delivered_43 (by decide) (by rw [g10]; try rfl) (by decide) ?_
              refine lv_aload_n X.1 X.2.1 dX12_delivered_76 rfl (lv_at hl 1 rfl) ?_
              refine x_getR X hW fd_Model_deliveredLen (fun w h => List.mem_cons_of_mem _ (gin_X12 w h)) (List.mem_cons_of_mem _ gw241) z_1 dX12_delivered_77 ?_
              refine lv_iload X.1 X.2.1 dX12_delivered_80 (lv_at hl 0 rfl) ?_
              refine x_iald X hW ar_286 dX12_delivered_82 h (fun x9 h => ?_)
              exact x_iret X hW h dX12_delivered_83
            · refine lv_lookup (off := 41) (tgt := 84) X.1 X.2.1 dX12_delivered_43 (by decide) (by rw [lv_osw g8 (show Int32.toInt 0 = 0 from rfl), lv_osw g10 (show Int32.toInt 1 = 1 from rfl)]; try rfl) (by decide) ?_
              refine lv_iload_n X.1 X.2.1 dX12_delivered_84 rfl (lv_at hl 4 rfl) ?_
              refine lv_i2l (v := (Int32.toInt64 v3)) X.1 X.2.1 dX12_delivered_85 rfl ?_
              refine lv_ldc2 (v := 10) X.1 X.2.1 X.2.2.2.1 (X.2.2.2.2.1 _ (List.mem_cons_of_mem _ gw1289)) dX12_delivered_86 ?_
              refine lv_ldc2 (v := 9) X.1 X.2.1 X.2.2.2.1 (X.2.2.2.2.1 _ (List.mem_cons_of_mem _ gw1290)) dX12_delivered_89 ?_
              refine lv_aload_n X.1 X.2.1 dX12_delivered_92 rfl (lv_at hl 1 rfl) ?_
              refine x_getR X hW fd_Model_deliveredLen (fun w h => List.mem_cons_of_mem _ (gin_X12 w h)) (List.mem_cons_of_mem _ gw241) z_1 dX12_delivered_93 ?_
              refine lv_iload X.1 X.2.1 dX12_delivered_96 (lv_at hl 0 rfl) ?_
              refine x_iald X hW ar_286 dX12_delivered_98 h (fun x11 h => ?_)
              refine lv_i2l (v := (Int32.toInt64 x11)) X.1 X.2.1 dX12_delivered_99 rfl ?_
              refine lv_ladd X.1 X.2.1 dX12_delivered_100 ?_
              obtain ⟨r12, S13, h14, h⟩ := cl_some h
              refine x_aftI X hW (x_runS (As := [.long (Int32.toInt64 v3), .long 10, .long (9 + (Int32.toInt64 x11))]) (rest := []) X hW (c_X12_in l G X.2.2.2.2.2.2.2.2.2.1 _ S3 (Int32.toInt64 v3) 10 (9 + (Int32.toInt64 x11)) _ h14) (va_cwS 3 X.2.2.2.2.1 (gS gw296 gw297 gw5 gw298) rfl rfl rfl hd_X12_in ⟨Nat.le_of_ble_eq_true rfl, Nat.le_of_ble_eq_true rfl⟩) rfl hl.1 rfl (Nat.le_of_ble_eq_true rfl) dX12_delivered_101 ⟨Nat.zero_le _, Nat.zero_le _⟩) (fun H locs hW => ?_)
              refine x_if_eq X (tgt := 126) dX12_delivered_104 (by decide) h (fun h => ?_) (fun h => ?_)
              · refine lv_iconst (v := (-1)) X.1 X.2.1 dX12_delivered_126 rfl ?_
                exact x_iret X hW h dX12_delivered_127
              · refine lv_aload_n X.1 X.2.1 dX12_delivered_107 rfl (lv_at hl 1 rfl) ?_
                refine x_getR X hW fd_Model_deliveredBytes (fun w h => List.mem_cons_of_mem _ (gin_X12 w h)) (List.mem_cons_of_mem _ gw242) z_1 dX12_delivered_108 ?_
                refine lv_sipush (v := 200) X.1 X.2.1 dX12_delivered_111 rfl ?_
                refine lv_iload X.1 X.2.1 dX12_delivered_114 (lv_at hl 0 rfl) ?_
                refine lv_imul X.1 X.2.1 dX12_delivered_116 ?_
                refine lv_iload_n X.1 X.2.1 dX12_delivered_117 rfl (lv_at hl 4 rfl) ?_
                refine lv_iadd X.1 X.2.1 dX12_delivered_118 ?_
                refine lv_bipush (v := 10) X.1 X.2.1 dX12_delivered_119 rfl ?_
                refine lv_isub X.1 X.2.1 dX12_delivered_121 ?_
                refine x_iald X hW ar_287 dX12_delivered_122 h (fun x15 h => ?_)
                refine lv_goto (tgt := 127) X.1 X.2.1 dX12_delivered_123 (by decide) ?_
                exact x_iret X hW h dX12_delivered_127
        · exact w_X12_delivered_32 X    hW (lv_sub hl [] rfl) h
theorem c_X12_delivered (l : Launch) (G : xG) (hD : xD G true) (sz : Nat) (S : Mm) (v1 : Int32) (v2 : Int32) (v3 : Int32) (o : Int32 × Mm) (h : F_X12_delivered v1 v2 v3 S = some o) : Met l yX12_delivered wsX12_delivered rmX12_delivered (xPre G true S sz [.ref (G.2.2 200 0), .int v1, .int v2, .int v3]) (xQi G true sz o) 0 0 (XA G true sz) :=
  x_start hD (by decide) rfl (Nat.le_of_ble_eq_true rfl) (fun p e s m below meth c X hW ls hl => w_X12_delivered_0 X v1 v2 v3 hW hl h)

/-! WirelessCellModel.air(II)I -/
def rmX12_air : Room := { frames := 1, cells := 0, slots := 0, locals := 25 }
def F_X12_air (v1 : Int32) (v2 : Int32) (S : Mm) : Option (Int32 × Mm) :=
  pf S 288 0 0 fun S1 =>
  cl (F_X12_isKept v1 S1) fun r2 S3 =>
  if r2 = 0 then (
  some ((-1), S3))
  else (
  gf S3 301 0 fun x5 =>
  tp (((x5 - 1) - v1) - ((x5 - 1) - v1) / 40 * 40) fun x6 =>
  if v2 = 0 then (
  ldA S3 267 0 40 1 x6 fun x7 =>
  some (x7, S3))
  else (
  if v2 = 1 then (
  ldA S3 266 0 40 1 x6 fun x9 =>
  some (x9, S3))
  else (
  if v2 = 2 then (
  ldA S3 268 0 40 1 x6 fun x11 =>
  some (x11, S3))
  else (
  if v2 = 3 then (
  ldA S3 269 0 40 1 x6 fun x13 =>
  some (x13, S3))
  else (
  if v2 = 4 then (
  ldA S3 270 0 40 1 x6 fun x15 =>
  some (x15, S3))
  else (
  ldA S3 268 0 40 1 x6 fun x17 =>
  cl (F_X12_in (Int32.toInt64 v2) 10 (9 + (Int32.toInt64 x17)) S3) fun r18 S19 =>
  if r18 = 0 then (
  some ((-1), S19))
  else (
  ldA S19 271 0 12000 1 (((300 * x6) + v2) - 10) fun x21 =>
  some (x21, S19))))))))
set_option maxRecDepth 100000 in
set_option maxHeartbeats 4000000 in
theorem w_X12_air_0 {p : Program} {l : Launch} {e : Env} {s : State} {m : MethodId} {args : Array Value} {below : List Frame} {meth : Method} {c : Code} {G : xG} {sz : Nat} {o : Int32 × Mm} (X : xC G true sz p s m args c cX12_air 4 wsX12_air RX12 meth (some .int)) (v1 : Int32) (v2 : Int32) {S : Mm} {H : Heap} {locs : List Loc} {ls : Array Slot} (hW : xW G true sz s H locs S) (hl : lv_has ls 4 [(0, .ref (G.2.2 200 0)), (1, .int v1), (2, .int v2)]) (h : F_X12_air v1 v2 S = some o) : wX p l e rmX12_air s m args below meth c H locs (xQi G true sz o) (XA G true sz) 0 ls [] := by
  unfold F_X12_air at h
  refine lv_aload_n X.1 X.2.1 dX12_air_0 rfl (lv_at hl 0 rfl) ?_
  refine lv_iconst (v := 0) X.1 X.2.1 dX12_air_1 rfl ?_
  refine x_putI X hW fd_Model_thrown (fun w h => List.mem_cons_of_mem _ (gin_X12 w h)) (List.mem_cons_of_mem _ gw273) z_1 dX12_air_2 tyX12 tyX12_ok nmX12 rfl rfl rfl h (fun S1 H locs h hW => ?_)
  refine lv_aload_n X.1 X.2.1 dX12_air_5 rfl (lv_at hl 0 rfl) ?_
  refine lv_iload_n X.1 X.2.1 dX12_air_6 rfl (lv_at hl 1 rfl) ?_
  obtain ⟨r2, S3, h4, h⟩ := cl_some h
  refine x_aftI X hW (x_runV (C := RX12) (a := G.2.2 200 0) (As := [.int v1]) (rest := []) X hW (c_X12_isKept l G X.2.2.2.2.2.2.2.2.2.1 _ S1 v1 _ h4) (cwV 1 X.2.2.2.2.1 (gV gw342 gw343 gw344 gw5 gw345) rfl rfl rfl ⟨rfl, hd_X12_isKept⟩ ⟨Nat.le_of_ble_eq_true rfl, Nat.le_of_ble_eq_true rfl⟩) (x_recv X hW ob_Model z_1) rfl hl.1 rfl (Nat.le_of_ble_eq_true rfl) dX12_air_7 ⟨Nat.zero_le _, Nat.zero_le _⟩) (fun H locs hW => ?_)
  refine x_if_ne X (tgt := 15) dX12_air_10 (by decide) h (fun h => ?_) (fun h => ?_)
  · refine lv_aload_n X.1 X.2.1 dX12_air_15 rfl (lv_at hl 0 rfl) ?_
    refine x_getI X hW fd_Model_began (fun w h => List.mem_cons_of_mem _ (gin_X12 w h)) (List.mem_cons_of_mem _ gw341) z_1 dX12_air_16 h (fun x5 h => ?_)
    refine lv_iconst (v := 1) X.1 X.2.1 dX12_air_19 rfl ?_
    refine lv_isub X.1 X.2.1 dX12_air_20 ?_
    refine lv_iload_n X.1 X.2.1 dX12_air_21 rfl (lv_at hl 1 rfl) ?_
    refine lv_isub X.1 X.2.1 dX12_air_22 ?_
    refine lv_bipush (v := 40) X.1 X.2.1 dX12_air_23 rfl ?_
    refine lv_irem X.1 X.2.1 dX12_air_25 (by decide) ?_
    refine x_top h (fun x6 h => ?_)
    refine lv_istore_n (lv' := [(3, .int x6), (0, .ref (G.2.2 200 0)), (1, .int v1), (2, .int v2)]) X.1 X.2.1 dX12_air_26 rfl hl (by decide) rfl (fun ls hl => ?_)
    refine lv_iload_n X.1 X.2.1 dX12_air_27 rfl (lv_at hl 3 rfl) ?_
    refine x_ite h (fun g8 h => ?_) (fun g8 h => ?_)
    · refine lv_tableIn (off := 36) (tgt := 64) X.1 X.2.1 dX12_air_28 (by rw [g8]; decide) (by rw [g8]; decide) (by rw [g8]; try rfl) (by decide) ?_
      refine lv_aload_n X.1 X.2.1 dX12_air_64 rfl (lv_at hl 1 rfl) ?_
      refine x_getR X hW fd_Model_hFirst (fun w h => List.mem_cons_of_mem _ (gin_X12 w h)) (List.mem_cons_of_mem _ gw222) z_1 dX12_air_65 ?_
      refine lv_iload_n X.1 X.2.1 dX12_air_68 rfl (lv_at hl 0 rfl) ?_
      refine x_iald X hW ar_267 dX12_air_69 h (fun x7 h => ?_)
      exact x_iret X hW h dX12_air_70
    · refine x_ite h (fun g10 h => ?_) (fun g10 h => ?_)
      · refine lv_tableIn (off := 43) (tgt := 71) X.1 X.2.1 dX12_air_28 (by rw [g10]; decide) (by rw [g10]; decide) (by rw [g10]; try rfl) (by decide) ?_
        refine lv_aload_n X.1 X.2.1 dX12_air_71 rfl (lv_at hl 1 rfl) ?_
        refine x_getR X hW fd_Model_hSender (fun w h => List.mem_cons_of_mem _ (gin_X12 w h)) (List.mem_cons_of_mem _ gw221) z_1 dX12_air_72 ?_
        refine lv_iload_n X.1 X.2.1 dX12_air_75 rfl (lv_at hl 0 rfl) ?_
        refine x_iald X hW ar_266 dX12_air_76 h (fun x9 h => ?_)
        exact x_iret X hW h dX12_air_77
      · refine x_ite h (fun g12 h => ?_) (fun g12 h => ?_)
        · refine lv_tableIn (off := 50) (tgt := 78) X.1 X.2.1 dX12_air_28 (by rw [g12]; decide) (by rw [g12]; decide) (by rw [g12]; try rfl) (by decide) ?_
          refine lv_aload_n X.1 X.2.1 dX12_air_78 rfl (lv_at hl 1 rfl) ?_
          refine x_getR X hW fd_Model_hLen (fun w h => List.mem_cons_of_mem _ (gin_X12 w h)) (List.mem_cons_of_mem _ gw223) z_1 dX12_air_79 ?_
          refine lv_iload_n X.1 X.2.1 dX12_air_82 rfl (lv_at hl 0 rfl) ?_
          refine x_iald X hW ar_268 dX12_air_83 h (fun x11 h => ?_)
          exact x_iret X hW h dX12_air_84
        · refine x_ite h (fun g14 h => ?_) (fun g14 h => ?_)
          · refine lv_tableIn (off := 57) (tgt := 85) X.1 X.2.1 dX12_air_28 (by rw [g14]; decide) (by rw [g14]; decide) (by rw [g14]; try rfl) (by decide) ?_
            refine lv_aload_n X.1 X.2.1 dX12_air_85 rfl (lv_at hl 1 rfl) ?_
            refine x_getR X hW fd_Model_hSlots (fun w h => List.mem_cons_of_mem _ (gin_X12 w h)) (List.mem_cons_of_mem _ gw224) z_1 dX12_air_86 ?_
            refine lv_iload_n X.1 X.2.1 dX12_air_89 rfl (lv_at hl 0 rfl) ?_
            refine x_iald X hW ar_269 dX12_air_90 h (fun x13 h => ?_)
            exact x_iret X hW h dX12_air_91
          · refine x_ite h (fun g16 h => ?_) (fun g16 h => ?_)
            · refine lv_tableIn (off := 64) (tgt := 92) X.1 X.2.1 dX12_air_28 (by rw [g16]; decide) (by rw [g16]; decide) (by rw [g16]; try rfl) (by decide) ?_
              refine lv_aload_n X.1 X.2.1 dX12_air_92 rfl (lv_at hl 1 rfl) ?_
              refine x_getR X hW fd_Model_hClean (fun w h => List.mem_cons_of_mem _ (gin_X12 w h)) (List.mem_cons_of_mem _ gw225) z_1 dX12_air_93 ?_
              refine lv_iload_n X.1 X.2.1 dX12_air_96 rfl (lv_at hl 0 rfl) ?_
              refine x_iald X hW ar_270 dX12_air_97 h (fun x15 h => ?_)
              exact x_iret X hW h dX12_air_98
            · have zg8 := lv_neT g8 (show Int32.toInt 0 = 0 from rfl)
              have zg10 := lv_neT g10 (show Int32.toInt 1 = 1 from rfl)
              have zg12 := lv_neT g12 (show Int32.toInt 2 = 2 from rfl)
              have zg14 := lv_neT g14 (show Int32.toInt 3 = 3 from rfl)
              have zg16 := lv_neT g16 (show Int32.toInt 4 = 4 from rfl)
              refine lv_tableOut (tgt := 99) X.1 X.2.1 dX12_air_28 (by omega) (by decide) ?_
              refine lv_iload_n X.1 X.2.1 dX12_air_99 rfl (lv_at hl 3 rfl) ?_
              refine lv_i2l (v := (Int32.toInt64 v2)) X.1 X.2.1 dX12_air_100 rfl ?_
              refine lv_ldc2 (v := 10) X.1 X.2.1 X.2.2.2.1 (X.2.2.2.2.1 _ (List.mem_cons_of_mem _ gw1289)) dX12_air_101 ?_
              refine lv_ldc2 (v := 9) X.1 X.2.1 X.2.2.2.1 (X.2.2.2.2.1 _ (List.mem_cons_of_mem _ gw1290)) dX12_air_104 ?_
              refine lv_aload_n X.1 X.2.1 dX12_air_107 rfl (lv_at hl 1 rfl) ?_
              refine x_getR X hW fd_Model_hLen (fun w h => List.mem_cons_of_mem _ (gin_X12 w h)) (List.mem_cons_of_mem _ gw223) z_1 dX12_air_108 ?_
              refine lv_iload_n X.1 X.2.1 dX12_air_111 rfl (lv_at hl 0 rfl) ?_
              refine x_iald X hW ar_268 dX12_air_112 h (fun x17 h => ?_)
              refine lv_i2l (v := (Int32.toInt64 x17)) X.1 X.2.1 dX12_air_113 rfl ?_
              refine lv_ladd X.1 X.2.1 dX12_air_114 ?_
              obtain ⟨r18, S19, h20, h⟩ := cl_some h
              refine x_aftI X hW (x_runS (As := [.long (Int32.toInt64 v2), .long 10, .long (9 + (Int32.toInt64 x17))]) (rest := []) X hW (c_X12_in l G X.2.2.2.2.2.2.2.2.2.1 _ S3 (Int32.toInt64 v2) 10 (9 + (Int32.toInt64 x17)) _ h20) (va_cwS 3 X.2.2.2.2.1 (gS gw296 gw297 gw5 gw298) rfl rfl rfl hd_X12_in ⟨Nat.le_of_ble_eq_true rfl, Nat.le_of_ble_eq_true rfl⟩) rfl hl.1 rfl (Nat.le_of_ble_eq_true rfl) dX12_air_115 ⟨Nat.zero_le _, Nat.zero_le _⟩) (fun H locs hW => ?_)
              refine x_if_eq X (tgt := 139) dX12_air_118 (by decide) h (fun h => ?_) (fun h => ?_)
              · refine lv_iconst (v := (-1)) X.1 X.2.1 dX12_air_139 rfl ?_
                exact x_iret X hW h dX12_air_140
              · refine lv_aload_n X.1 X.2.1 dX12_air_121 rfl (lv_at hl 1 rfl) ?_
                refine x_getR X hW fd_Model_hBytes (fun w h => List.mem_cons_of_mem _ (gin_X12 w h)) (List.mem_cons_of_mem _ gw226) z_1 dX12_air_122 ?_
                refine lv_sipush (v := 300) X.1 X.2.1 dX12_air_125 rfl ?_
                refine lv_iload_n X.1 X.2.1 dX12_air_128 rfl (lv_at hl 0 rfl) ?_
                refine lv_imul X.1 X.2.1 dX12_air_129 ?_
                refine lv_iload_n X.1 X.2.1 dX12_air_130 rfl (lv_at hl 3 rfl) ?_
                refine lv_iadd X.1 X.2.1 dX12_air_131 ?_
                refine lv_bipush (v := 10) X.1 X.2.1 dX12_air_132 rfl ?_
                refine lv_isub X.1 X.2.1 dX12_air_134 ?_
                refine x_iald X hW ar_271 dX12_air_135 h (fun x21 h => ?_)
                refine lv_goto (tgt := 140) X.1 X.2.1 dX12_air_136 (by decide) ?_
                exact x_iret X hW h dX12_air_140
  · refine lv_iconst (v := (-1)) X.1 X.2.1 dX12_air_13 rfl ?_
    exact x_iret X hW h dX12_air_14
theorem c_X12_air (l : Launch) (G : xG) (hD : xD G true) (sz : Nat) (S : Mm) (v1 : Int32) (v2 : Int32) (o : Int32 × Mm) (h : F_X12_air v1 v2 S = some o) : Met l yX12_air wsX12_air rmX12_air (xPre G true S sz [.ref (G.2.2 200 0), .int v1, .int v2]) (xQi G true sz o) 0 0 (XA G true sz) :=
  x_start hD (by decide) rfl (Nat.le_of_ble_eq_true rfl) (fun p e s m below meth c X hW ls hl => w_X12_air_0 X v1 v2 hW hl h)

/-! WirelessCellModel.count(I)I -/
def rmX12_count : Room := { frames := 0, cells := 0, slots := 0, locals := 0 }
def F_X12_count (v1 : Int32) (S : Mm) : Option (Int32 × Mm) :=
  pf S 288 0 0 fun S1 =>
  if v1 = 0 then (
  gf S1 298 0 fun x2 =>
  some (x2, S1))
  else (
  if v1 = 1 then (
  gf S1 301 0 fun x4 =>
  some (x4, S1))
  else (
  if v1 = 2 then (
  gf S1 302 0 fun x6 =>
  some (x6, S1))
  else (
  if v1 = 3 then (
  gf S1 295 0 fun x8 =>
  gf S1 294 0 fun x9 =>
  some ((x8 - x9), S1))
  else (
  if v1 = 4 then (
  gf S1 291 0 fun x11 =>
  some (x11, S1))
  else (
  if v1 = 5 then (
  gf S1 296 0 fun x13 =>
  some (x13, S1))
  else (
  if v1 = 6 then (
  gf S1 300 0 fun x15 =>
  some (x15, S1))
  else (
  if v1 = 7 then (
  gf S1 303 0 fun x17 =>
  some (x17, S1))
  else (
  if v1 = 8 then (
  gf S1 306 0 fun x19 =>
  some (x19, S1))
  else (
  some ((-1), S1))))))))))
set_option maxRecDepth 100000 in
set_option maxHeartbeats 4000000 in
theorem w_X12_count_0 {p : Program} {l : Launch} {e : Env} {s : State} {m : MethodId} {args : Array Value} {below : List Frame} {meth : Method} {c : Code} {G : xG} {sz : Nat} {o : Int32 × Mm} (X : xC G true sz p s m args c cX12_count 2 wsX12_count RX12 meth (some .int)) (v1 : Int32) {S : Mm} {H : Heap} {locs : List Loc} {ls : Array Slot} (hW : xW G true sz s H locs S) (hl : lv_has ls 2 [(0, .ref (G.2.2 200 0)), (1, .int v1)]) (h : F_X12_count v1 S = some o) : wX p l e rmX12_count s m args below meth c H locs (xQi G true sz o) (XA G true sz) 0 ls [] := by
  unfold F_X12_count at h
  refine lv_aload_n X.1 X.2.1 dX12_count_0 rfl (lv_at hl 0 rfl) ?_
  refine lv_iconst (v := 0) X.1 X.2.1 dX12_count_1 rfl ?_
  refine x_putI X hW fd_Model_thrown (fun w h => List.mem_cons_of_mem _ (gin_X12 w h)) (List.mem_cons_of_mem _ gw273) z_1 dX12_count_2 tyX12 tyX12_ok nmX12 rfl rfl rfl h (fun S1 H locs h hW => ?_)
  refine lv_iload_n X.1 X.2.1 dX12_count_5 rfl (lv_at hl 1 rfl) ?_
  refine x_ite h (fun g3 h => ?_) (fun g3 h => ?_)
  · refine lv_tableIn (off := 50) (tgt := 56) X.1 X.2.1 dX12_count_6 (by rw [g3]; decide) (by rw [g3]; decide) (by rw [g3]; try rfl) (by decide) ?_
    refine lv_aload_n X.1 X.2.1 dX12_count_56 rfl (lv_at hl 0 rfl) ?_
    refine x_getI X hW fd_Model_slot (fun w h => List.mem_cons_of_mem _ (gin_X12 w h)) (List.mem_cons_of_mem _ gw451) z_1 dX12_count_57 h (fun x2 h => ?_)
    exact x_iret X hW h dX12_count_60
  · refine x_ite h (fun g5 h => ?_) (fun g5 h => ?_)
    · refine lv_tableIn (off := 55) (tgt := 61) X.1 X.2.1 dX12_count_6 (by rw [g5]; decide) (by rw [g5]; decide) (by rw [g5]; try rfl) (by decide) ?_
      refine lv_aload_n X.1 X.2.1 dX12_count_61 rfl (lv_at hl 0 rfl) ?_
      refine x_getI X hW fd_Model_began (fun w h => List.mem_cons_of_mem _ (gin_X12 w h)) (List.mem_cons_of_mem _ gw341) z_1 dX12_count_62 h (fun x4 h => ?_)
      exact x_iret X hW h dX12_count_65
    · refine x_ite h (fun g7 h => ?_) (fun g7 h => ?_)
      · refine lv_tableIn (off := 60) (tgt := 66) X.1 X.2.1 dX12_count_6 (by rw [g7]; decide) (by rw [g7]; decide) (by rw [g7]; try rfl) (by decide) ?_
        refine lv_aload_n X.1 X.2.1 dX12_count_66 rfl (lv_at hl 0 rfl) ?_
        refine x_getI X hW fd_Model_unclean (fun w h => List.mem_cons_of_mem _ (gin_X12 w h)) (List.mem_cons_of_mem _ gw1098) z_1 dX12_count_67 h (fun x6 h => ?_)
        exact x_iret X hW h dX12_count_70
      · refine x_ite h (fun g10 h => ?_) (fun g10 h => ?_)
        · refine lv_tableIn (off := 65) (tgt := 71) X.1 X.2.1 dX12_count_6 (by rw [g10]; decide) (by rw [g10]; decide) (by rw [g10]; try rfl) (by decide) ?_
          refine lv_aload_n X.1 X.2.1 dX12_count_71 rfl (lv_at hl 0 rfl) ?_
          refine x_getI X hW fd_Model_drawTo (fun w h => List.mem_cons_of_mem _ (gin_X12 w h)) (List.mem_cons_of_mem _ gw432) z_1 dX12_count_72 h (fun x8 h => ?_)
          refine lv_aload_n X.1 X.2.1 dX12_count_75 rfl (lv_at hl 0 rfl) ?_
          refine x_getI X hW fd_Model_drawFrom (fun w h => List.mem_cons_of_mem _ (gin_X12 w h)) (List.mem_cons_of_mem _ gw433) z_1 dX12_count_76 h (fun x9 h => ?_)
          refine lv_isub X.1 X.2.1 dX12_count_79 ?_
          exact x_iret X hW h dX12_count_80
        · refine x_ite h (fun g12 h => ?_) (fun g12 h => ?_)
          · refine lv_tableIn (off := 75) (tgt := 81) X.1 X.2.1 dX12_count_6 (by rw [g12]; decide) (by rw [g12]; decide) (by rw [g12]; try rfl) (by decide) ?_
            refine lv_aload_n X.1 X.2.1 dX12_count_81 rfl (lv_at hl 0 rfl) ?_
            refine x_getI X hW fd_Model_taped (fun w h => List.mem_cons_of_mem _ (gin_X12 w h)) (List.mem_cons_of_mem _ gw274) z_1 dX12_count_82 h (fun x11 h => ?_)
            exact x_iret X hW h dX12_count_85
          · refine x_ite h (fun g14 h => ?_) (fun g14 h => ?_)
            · refine lv_tableIn (off := 80) (tgt := 86) X.1 X.2.1 dX12_count_6 (by rw [g14]; decide) (by rw [g14]; decide) (by rw [g14]; try rfl) (by decide) ?_
              refine lv_aload_n X.1 X.2.1 dX12_count_86 rfl (lv_at hl 0 rfl) ?_
              refine x_getI X hW fd_Model_submissions (fun w h => List.mem_cons_of_mem _ (gin_X12 w h)) (List.mem_cons_of_mem _ gw585) z_1 dX12_count_87 h (fun x13 h => ?_)
              exact x_iret X hW h dX12_count_90
            · refine x_ite h (fun g16 h => ?_) (fun g16 h => ?_)
              · refine lv_tableIn (off := 85) (tgt := 91) X.1 X.2.1 dX12_count_6 (by rw [g16]; decide) (by rw [g16]; decide) (by rw [g16]; try rfl) (by decide) ?_
                refine lv_aload_n X.1 X.2.1 dX12_count_91 rfl (lv_at hl 0 rfl) ?_
                refine x_getI X hW fd_Model_quietMany (fun w h => List.mem_cons_of_mem _ (gin_X12 w h)) (List.mem_cons_of_mem _ gw1006) z_1 dX12_count_92 h (fun x15 h => ?_)
                exact x_iret X hW h dX12_count_95
              · refine x_ite h (fun g18 h => ?_) (fun g18 h => ?_)
                · refine lv_tableIn (off := 90) (tgt := 96) X.1 X.2.1 dX12_count_6 (by rw [g18]; decide) (by rw [g18]; decide) (by rw [g18]; try rfl) (by decide) ?_
                  refine lv_aload_n X.1 X.2.1 dX12_count_96 rfl (lv_at hl 0 rfl) ?_
                  refine x_getI X hW fd_Model_failed (fun w h => List.mem_cons_of_mem _ (gin_X12 w h)) (List.mem_cons_of_mem _ gw1241) z_1 dX12_count_97 h (fun x17 h => ?_)
                  exact x_iret X hW h dX12_count_100
                · refine x_ite h (fun g20 h => ?_) (fun g20 h => ?_)
                  · refine lv_tableIn (off := 95) (tgt := 101) X.1 X.2.1 dX12_count_6 (by rw [g20]; decide) (by rw [g20]; decide) (by rw [g20]; try rfl) (by decide) ?_
                    refine lv_aload_n X.1 X.2.1 dX12_count_101 rfl (lv_at hl 0 rfl) ?_
                    refine x_getI X hW fd_Model_putMany (fun w h => List.mem_cons_of_mem _ (gin_X12 w h)) (List.mem_cons_of_mem _ gw468) z_1 dX12_count_102 h (fun x19 h => ?_)
                    exact x_iret X hW h dX12_count_105
                  · have zg3 := lv_neT g3 (show Int32.toInt 0 = 0 from rfl)
                    have zg5 := lv_neT g5 (show Int32.toInt 1 = 1 from rfl)
                    have zg7 := lv_neT g7 (show Int32.toInt 2 = 2 from rfl)
                    have zg10 := lv_neT g10 (show Int32.toInt 3 = 3 from rfl)
                    have zg12 := lv_neT g12 (show Int32.toInt 4 = 4 from rfl)
                    have zg14 := lv_neT g14 (show Int32.toInt 5 = 5 from rfl)
                    have zg16 := lv_neT g16 (show Int32.toInt 6 = 6 from rfl)
                    have zg18 := lv_neT g18 (show Int32.toInt 7 = 7 from rfl)
                    have zg20 := lv_neT g20 (show Int32.toInt 8 = 8 from rfl)
                    refine lv_tableOut (tgt := 106) X.1 X.2.1 dX12_count_6 (by omega) (by decide) ?_
                    refine lv_iconst (v := (-1)) X.1 X.2.1 dX12_count_106 rfl ?_
                    exact x_iret X hW h dX12_count_107
theorem c_X12_count (l : Launch) (G : xG) (hD : xD G true) (sz : Nat) (S : Mm) (v1 : Int32) (o : Int32 × Mm) (h : F_X12_count v1 S = some o) : Met l yX12_count wsX12_count rmX12_count (xPre G true S sz [.ref (G.2.2 200 0), .int v1]) (xQi G true sz o) 0 0 (XA G true sz) :=
  x_start hD (by decide) rfl (Nat.le_of_ble_eq_true rfl) (fun p e s m below meth c X hW ls hl => w_X12_count_0 X v1 hW hl h)
