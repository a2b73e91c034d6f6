/-! WirelessCell$Ccm.expandKey([I)V -/
def rmX0_expandKey : Room := { frames := 1, cells := 0, slots := 0, locals := 18 }
def L_X0_expandKey_120 (k17 : Int32 → Int32 → Mm → Option (Unit × Mm)) (k43 : Int32 → Mm → Option (Unit × Mm)) (v2 : Int32) (v3 : Int32) (v4 : Int32) (v5 : Int32) (s1 : Int32) (s2 : Int32) (s3 : Int32) (S : Mm) : Option (Unit × Mm) :=
  stA S 15 0 176 1 s1 (s2 ^^^ s3) fun S9 =>
  k43 (v5 + 1) S9
def L_X0_expandKey_156 (k17 : Int32 → Int32 → Mm → Option (Unit × Mm)) (v2 : Int32) (v3 : Int32) (S : Mm) : Option (Unit × Mm) :=
  k17 v2 (v3 + 4) S
def L_X0_expandKey_77 (k17 : Int32 → Int32 → Mm → Option (Unit × Mm)) (k43 : Int32 → Mm → Option (Unit × Mm)) (v2 : Int32) (v3 : Int32) (v4 : Int32) (v5 : Int32) (s1 : Int32) (S : Mm) : Option (Unit × Mm) :=
  ldA S 15 0 176 1 s1 fun x6 =>
  ldA S 15 0 176 1 ((v3 - 16) + v5) fun x7 =>
  if v4 = 0 then (
  L_X0_expandKey_120 k17 k43 v2 v3 v4 v5 (v3 + v5) x7 x6 S)
  else (
  ldP false S 193 0 (x6 &&& 255) fun x8 =>
  L_X0_expandKey_120 k17 k43 v2 v3 v4 v5 (v3 + v5) x7 x8 S)
def L_X0_expandKey_43 (k17 : Int32 → Int32 → Mm → Option (Unit × Mm)) (v2 : Int32) (v3 : Int32) (v4 : Int32) : Nat → Int32 → Mm → Option (Unit × Mm)
  | 0, _, _ => none
  | n + 1, v5, S => 
    if 4 ≤ v5 then (
    if v4 = 0 then (
    L_X0_expandKey_156 k17 v2 v3 S)
    else (
    ldA S 15 0 176 1 v3 fun x3 =>
    stA S 15 0 176 1 v3 (x3 ^^^ v2) fun S4 =>
    tp ((v2 <<< (1 &&& 31)) ^^^ ((v2 >>> (7 &&& 31)) * 283)) fun x5 =>
    L_X0_expandKey_156 k17 x5 v3 S4))
    else (
    if v4 = 0 then (
    L_X0_expandKey_77 k17 (L_X0_expandKey_43 k17 v2 v3 v4 n) v2 v3 v4 v5 ((v3 - 4) + v5) S)
    else (
    L_X0_expandKey_77 k17 (L_X0_expandKey_43 k17 v2 v3 v4 n) v2 v3 v4 v5 ((v3 - 4) + ((v5 + 1) - (v5 + 1) / 4 * 4)) S))
def L_X0_expandKey_38 (k17 : Int32 → Int32 → Mm → Option (Unit × Mm)) (v2 : Int32) (v3 : Int32) (s0 : Int32) (S : Mm) : Option (Unit × Mm) :=
  L_X0_expandKey_43 k17 v2 v3 s0 fu 0 S
def L_X0_expandKey_17   : Nat → Int32 → Int32 → Mm → Option (Unit × Mm)
  | 0, _, _, _ => none
  | n + 1, v2, v3, S => 
    lnP false 15 0 fun x2 =>
    if x2 ≤ v3 then (
    some ((), S))
    else (
    if (v3 - v3 / 16 * 16) = 0 then (
    L_X0_expandKey_38 (L_X0_expandKey_17  n) v2 v3 1 S)
    else (
    L_X0_expandKey_38 (L_X0_expandKey_17  n) v2 v3 0 S))
def F_X0_expandKey (cv1 : Nat) (v1 : Nat) (S : Mm) : Option (Unit × Mm) :=
  cpP false S cv1 v1 0 15 0 0 16 fun S1 =>
  L_X0_expandKey_17   fu 1 16 S1
set_option maxRecDepth 100000 in
set_option maxHeartbeats 4000000 in
theorem w_X0_expandKey_120 {p : Program} {l : Launch} {e : Env} {s : State} {m : MethodId} {args : Array Value} {below : List Frame} {meth : Method} {c : Code} {G : xG} {sz : Nat} {o : Unit × Mm} (X : xC G false sz p s m args c cX0_expandKey 7 wsX0_expandKey RX0 meth none) (v2 : Int32) (v3 : Int32) (v4 : Int32) (v5 : Int32) (s1 : Int32) (s2 : Int32) (s3 : Int32)  (k17 : Int32 → Int32 → Mm → Option (Unit × Mm)) (hk17 : ∀ (v2 : Int32) (v3 : Int32) (S : Mm) (H : Heap) (locs : List Loc) (ls : Array Slot), k17 v2 v3 S = some o → xW G false sz s H locs S → lv_has ls 7 [(0, .ref (G.2.2 0 0)), (2, .int v2), (3, .int v3)] → wX p l e rmX0_expandKey s m args below meth c H locs (xQv G false sz o) (XA G false sz) 17 ls []) (k43 : Int32 → Mm → Option (Unit × Mm)) (hk43 : ∀ (v5 : Int32) (S : Mm) (H : Heap) (locs : List Loc) (ls : Array Slot), k43 v5 S = some o → xW G false sz s H locs S → lv_has ls 7 [(0, .ref (G.2.2 0 0)), (2, .int v2), (3, .int v3), (4, .int v4), (5, .int v5)] → wX p l e rmX0_expandKey s m args below meth c H locs (xQv G false sz o) (XA G false sz) 43 ls []) {S : Mm} {H : Heap} {locs : List Loc} {ls : Array Slot} (hW : xW G false sz s H locs S) (hl : lv_has ls 7 [(0, .ref (G.2.2 0 0)), (2, .int v2), (3, .int v3), (4, .int v4), (5, .int v5)]) (h : L_X0_expandKey_120 k17 k43 v2 v3 v4 v5 s1 s2 s3 S = some o) : wX p l e rmX0_expandKey s m args below meth c H locs (xQv G false sz o) (XA G false sz) 120 ls [.int s3, .int s2, .int s1, .ref (G.2.2 15 0)] := by
  unfold L_X0_expandKey_120 at h
  refine lv_ixor X.1 X.2.1 dX0_expandKey_120 ?_
  refine x_iast X hW ar_15 dX0_expandKey_121 h (fun S9 H locs h hW => ?_)
  refine lv_iinc (v := (v5 + 1)) (lv' := [(5, .int (v5 + 1)), (0, .ref (G.2.2 0 0)), (2, .int v2), (3, .int v3), (4, .int v4)]) X.1 X.2.1 dX0_expandKey_122 hl (k := 4) rfl rfl (by decide) rfl (fun ls hl => ?_)
  refine lv_goto (tgt := 43) X.1 X.2.1 dX0_expandKey_125 (by decide) ?_
  exact hk43 (v5 + 1) S9 _ _ _ h hW  (lv_sub hl [1, 2, 3, 4, 0] rfl)
set_option maxRecDepth 100000 in
set_option maxHeartbeats 4000000 in
theorem w_X0_expandKey_156 {p : Program} {l : Launch} {e : Env} {s : State} {m : MethodId} {args : Array Value} {below : List Frame} {meth : Method} {c : Code} {G : xG} {sz : Nat} {o : Unit × Mm} (X : xC G false sz p s m args c cX0_expandKey 7 wsX0_expandKey RX0 meth none) (v2 : Int32) (v3 : Int32)  (k17 : Int32 → Int32 → Mm → Option (Unit × Mm)) (hk17 : ∀ (v2 : Int32) (v3 : Int32) (S : Mm) (H : Heap) (locs : List Loc) (ls : Array Slot), k17 v2 v3 S = some o → xW G false sz s H locs S → lv_has ls 7 [(0, .ref (G.2.2 0 0)), (2, .int v2), (3, .int v3)] → wX p l e rmX0_expandKey s m args below meth c H locs (xQv G false sz o) (XA G false sz) 17 ls []) {S : Mm} {H : Heap} {locs : List Loc} {ls : Array Slot} (hW : xW G false sz s H locs S) (hl : lv_has ls 7 [(0, .ref (G.2.2 0 0)), (2, .int v2), (3, .int v3)]) (h : L_X0_expandKey_156 k17 v2 v3 S = some o) : wX p l e rmX0_expandKey s m args below meth c H locs (xQv G false sz o) (XA G false sz) 156 ls [] := by
  unfold L_X0_expandKey_156 at h
  refine lv_iinc (v := (v3 + 4)) (lv' := [(3, .int (v3 + 4)), (0, .ref (G.2.2 0 0)), (2, .int v2)]) X.1 X.2.1 dX0_expandKey_156 hl (k := 2) rfl rfl (by decide) rfl (fun ls hl => ?_)
  refine lv_goto (tgt := 17) X.1 X.2.1 dX0_expandKey_159 (by decide) ?_
  exact hk17 v2 (v3 + 4) S _ _ _ h hW  (lv_sub hl [1, 2, 0] rfl)
set_option maxRecDepth 100000 in
set_option maxHeartbeats 4000000 in
theorem w_X0_expandKey_77 {p : Program} {l : Launch} {e : Env} {s : State} {m : MethodId} {args : Array Value} {below : List Frame} {meth : Method} {c : Code} {G : xG} {sz : Nat} {o : Unit × Mm} (X : xC G false sz p s m args c cX0_expandKey 7 wsX0_expandKey RX0 meth none) (v2 : Int32) (v3 : Int32) (v4 : Int32) (v5 : Int32) (s1 : Int32)  (k17 : Int32 → Int32 → Mm → Option (Unit × Mm)) (hk17 : ∀ (v2 : Int32) (v3 : Int32) (S : Mm) (H : Heap) (locs : List Loc) (ls : Array Slot), k17 v2 v3 S = some o → xW G false sz s H locs S → lv_has ls 7 [(0, .ref (G.2.2 0 0)), (2, .int v2), (3, .int v3)] → wX p l e rmX0_expandKey s m args below meth c H locs (xQv G false sz o) (XA G false sz) 17 ls []) (k43 : Int32 → Mm → Option (Unit × Mm)) (hk43 : ∀ (v5 : Int32) (S : Mm) (H : Heap) (locs : List Loc) (ls : Array Slot), k43 v5 S = some o → xW G false sz s H locs S → lv_has ls 7 [(0, .ref (G.2.2 0 0)), (2, .int v2), (3, .int v3), (4, .int v4), (5, .int v5)] → wX p l e rmX0_expandKey s m args below meth c H locs (xQv G false sz o) (XA G false sz) 43 ls []) {S : Mm} {H : Heap} {locs : List Loc} {ls : Array Slot} (hW : xW G false sz s H locs S) (hl : lv_has ls 7 [(0, .ref (G.2.2 0 0)), (2, .int v2), (3, .int v3), (4, .int v4), (5, .int v5)]) (h : L_X0_expandKey_77 k17 k43 v2 v3 v4 v5 s1 S = some o) : wX p l e rmX0_expandKey s m args below meth c H locs (xQv G false sz o) (XA G false sz) 77 ls [.int s1, .ref (G.2.2 15 0)] := by
  unfold L_X0_expandKey_77 at h
  refine x_iald X hW ar_15 dX0_expandKey_77 h (fun x6 h => ?_)
  refine lv_istore (lv' := [(6, .int x6), (0, .ref (G.2.2 0 0)), (2, .int v2), (3, .int v3), (4, .int v4), (5, .int v5)]) X.1 X.2.1 dX0_expandKey_78 hl (by decide) rfl (fun ls hl => ?_)
  refine lv_aload_n X.1 X.2.1 dX0_expandKey_80 rfl (lv_at hl 1 rfl) ?_
  refine x_getR X hW fd_Ccm_roundKeys (fun w h => List.mem_cons_of_mem _ (gin_X0 w h)) (List.mem_cons_of_mem _ gw92) z_1 dX0_expandKey_81 ?_
  refine lv_iload_n X.1 X.2.1 dX0_expandKey_84 rfl (lv_at hl 3 rfl) ?_
  refine lv_iload X.1 X.2.1 dX0_expandKey_85 (lv_at hl 5 rfl) ?_
  refine lv_iadd X.1 X.2.1 dX0_expandKey_87 ?_
  refine lv_aload_n X.1 X.2.1 dX0_expandKey_88 rfl (lv_at hl 1 rfl) ?_
  refine x_getR X hW fd_Ccm_roundKeys (fun w h => List.mem_cons_of_mem _ (gin_X0 w h)) (List.mem_cons_of_mem _ gw92) z_1 dX0_expandKey_89 ?_
  refine lv_iload_n X.1 X.2.1 dX0_expandKey_92 rfl (lv_at hl 3 rfl) ?_
  refine lv_bipush (v := 16) X.1 X.2.1 dX0_expandKey_93 rfl ?_
  refine lv_isub X.1 X.2.1 dX0_expandKey_95 ?_
  refine lv_iload X.1 X.2.1 dX0_expandKey_96 (lv_at hl 5 rfl) ?_
  refine lv_iadd X.1 X.2.1 dX0_expandKey_98 ?_
  refine x_iald X hW ar_15 dX0_expandKey_99 h (fun x7 h => ?_)
  refine lv_iload X.1 X.2.1 dX0_expandKey_100 (lv_at hl 4 rfl) ?_
  refine x_if_eq X (tgt := 118) dX0_expandKey_102 (by decide) h (fun h => ?_) (fun h => ?_)
  · refine lv_iload X.1 X.2.1 dX0_expandKey_118 (lv_at hl 0 rfl) ?_
    exact w_X0_expandKey_120 X v2 v3 v4 v5 (v3 + v5) x7 x6  k17 hk17 k43 hk43 hW (lv_sub hl [1, 2, 3, 4, 5] rfl) h
  · refine x_gets X hW X.2.2.2.2.2.2.2.2.2.2.2.1.2.2.2 (List.mem_cons_of_mem _ gw699) dX0_expandKey_105 ?_
    refine lv_iload X.1 X.2.1 dX0_expandKey_108 (lv_at hl 0 rfl) ?_
    refine lv_sipush (v := 255) X.1 X.2.1 dX0_expandKey_110 rfl ?_
    refine lv_iand X.1 X.2.1 dX0_expandKey_113 ?_
    refine x_ialdP X hW dX0_expandKey_114 h (fun x8 h => ?_)
    refine lv_goto (tgt := 120) X.1 X.2.1 dX0_expandKey_115 (by decide) ?_
    exact w_X0_expandKey_120 X v2 v3 v4 v5 (v3 + v5) x7 x8  k17 hk17 k43 hk43 hW (lv_sub hl [1, 2, 3, 4, 5] rfl) h
set_option maxRecDepth 100000 in
set_option maxHeartbeats 4000000 in
theorem w_X0_expandKey_43 {p : Program} {l : Launch} {e : Env} {s : State} {m : MethodId} {args : Array Value} {below : List Frame} {meth : Method} {c : Code} {G : xG} {sz : Nat} {o : Unit × Mm} (X : xC G false sz p s m args c cX0_expandKey 7 wsX0_expandKey RX0 meth none) (v2 : Int32) (v3 : Int32) (v4 : Int32)  (k17 : Int32 → Int32 → Mm → Option (Unit × Mm)) (hk17 : ∀ (v2 : Int32) (v3 : Int32) (S : Mm) (H : Heap) (locs : List Loc) (ls : Array Slot), k17 v2 v3 S = some o → xW G false sz s H locs S → lv_has ls 7 [(0, .ref (G.2.2 0 0)), (2, .int v2), (3, .int v3)] → wX p l e rmX0_expandKey s m args below meth c H locs (xQv G false sz o) (XA G false sz) 17 ls []) : ∀ (n : Nat) (v5 : Int32) (S : Mm) (H : Heap) (locs : List Loc) (ls : Array Slot), L_X0_expandKey_43 k17 v2 v3 v4 n v5 S = some o → xW G false sz s H locs S → lv_has ls 7 [(0, .ref (G.2.2 0 0)), (2, .int v2), (3, .int v3), (4, .int v4), (5, .int v5)] → wX p l e rmX0_expandKey s m args below meth c H locs (xQv G false sz o) (XA G false sz) 43 ls [] := by
  intro n
  induction n with
  | zero =>
    intro v5 S H locs ls h
    cases h
  | succ n ih =>
    intro v5 S H locs ls h hW  hl
    rw [L_X0_expandKey_43] at h
    refine lv_iload X.1 X.2.1 dX0_expandKey_43 (lv_at hl 4 rfl) ?_
    refine lv_iconst (v := 4) X.1 X.2.1 dX0_expandKey_45 rfl ?_
    refine x_icmp_ge X (tgt := 128) dX0_expandKey_46 (by decide) h (fun h => ?_) (fun h => ?_)
    · refine lv_iload X.1 X.2.1 dX0_expandKey_128 (lv_at hl 3 rfl) ?_
      refine x_if_eq X (tgt := 156) dX0_expandKey_130 (by decide) h (fun h => ?_) (fun h => ?_)
      · exact w_X0_expandKey_156 X v2 v3  k17 hk17 hW (lv_sub hl [0, 1, 2] rfl) h
      · refine lv_aload_n X.1 X.2.1 dX0_expandKey_133 rfl (lv_at hl 0 rfl) ?_
        refine x_getR X hW fd_Ccm_roundKeys (fun w h => List.mem_cons_of_mem _ (gin_X0 w h)) (List.mem_cons_of_mem _ gw92) z_1 dX0_expandKey_134 ?_
        refine lv_iload_n X.1 X.2.1 dX0_expandKey_137 rfl (lv_at hl 2 rfl) ?_
        refine lv_dup2_11 X.1 X.2.1 dX0_expandKey_138 rfl rfl ?_
        refine x_iald X hW ar_15 dX0_expandKey_139 h (fun x3 h => ?_)
        refine lv_iload_n X.1 X.2.1 dX0_expandKey_140 rfl (lv_at hl 1 rfl) ?_
        refine lv_ixor X.1 X.2.1 dX0_expandKey_141 ?_
        refine x_iast X hW ar_15 dX0_expandKey_142 h (fun S4 H locs h hW => ?_)
        refine lv_iload_n X.1 X.2.1 dX0_expandKey_143 rfl (lv_at hl 1 rfl) ?_
        refine lv_iconst (v := 1) X.1 X.2.1 dX0_expandKey_144 rfl ?_
        refine lv_ishl X.1 X.2.1 dX0_expandKey_145 ?_
        refine lv_iload_n X.1 X.2.1 dX0_expandKey_146 rfl (lv_at hl 1 rfl) ?_
        refine lv_bipush (v := 7) X.1 X.2.1 dX0_expandKey_147 rfl ?_
        refine lv_ishr X.1 X.2.1 dX0_expandKey_149 ?_
        refine lv_sipush (v := 283) X.1 X.2.1 dX0_expandKey_150 rfl ?_
        refine lv_imul X.1 X.2.1 dX0_expandKey_153 ?_
        refine lv_ixor X.1 X.2.1 dX0_expandKey_154 ?_
        refine x_top h (fun x5 h => ?_)
        refine lv_istore_n (lv' := [(2, .int x5), (0, .ref (G.2.2 0 0)), (3, .int v3), (4, .int v4), (5, .int v5)]) X.1 X.2.1 dX0_expandKey_155 rfl hl (by decide) rfl (fun ls hl => ?_)
        exact w_X0_expandKey_156 X x5 v3  k17 hk17 hW (lv_sub hl [1, 0, 2] rfl) h
    · refine lv_aload_n X.1 X.2.1 dX0_expandKey_49 rfl (lv_at hl 0 rfl) ?_
      refine x_getR X hW fd_Ccm_roundKeys (fun w h => List.mem_cons_of_mem _ (gin_X0 w h)) (List.mem_cons_of_mem _ gw92) z_1 dX0_expandKey_50 ?_
      refine lv_iload X.1 X.2.1 dX0_expandKey_53 (lv_at hl 3 rfl) ?_
      refine x_if_eq X (tgt := 71) dX0_expandKey_55 (by decide) h (fun h => ?_) (fun h => ?_)
      · refine lv_iload_n X.1 X.2.1 dX0_expandKey_71 rfl (lv_at hl 2 rfl) ?_
        refine lv_iconst (v := 4) X.1 X.2.1 dX0_expandKey_72 rfl ?_
        refine lv_isub X.1 X.2.1 dX0_expandKey_73 ?_
        refine lv_iload X.1 X.2.1 dX0_expandKey_74 (lv_at hl 4 rfl) ?_
        refine lv_iadd X.1 X.2.1 dX0_expandKey_76 ?_
        exact w_X0_expandKey_77 X v2 v3 v4 v5 ((v3 - 4) + v5)  k17 hk17 (L_X0_expandKey_43 k17 v2 v3 v4 n) ih hW (lv_sub hl [0, 1, 2, 3, 4] rfl) h
      · refine lv_iload_n X.1 X.2.1 dX0_expandKey_58 rfl (lv_at hl 2 rfl) ?_
        refine lv_iconst (v := 4) X.1 X.2.1 dX0_expandKey_59 rfl ?_
        refine lv_isub X.1 X.2.1 dX0_expandKey_60 ?_
        refine lv_iload X.1 X.2.1 dX0_expandKey_61 (lv_at hl 4 rfl) ?_
        refine lv_iconst (v := 1) X.1 X.2.1 dX0_expandKey_63 rfl ?_
        refine lv_iadd X.1 X.2.1 dX0_expandKey_64 ?_
        refine lv_iconst (v := 4) X.1 X.2.1 dX0_expandKey_65 rfl ?_
        refine lv_irem X.1 X.2.1 dX0_expandKey_66 (by decide) ?_
        refine lv_iadd X.1 X.2.1 dX0_expandKey_67 ?_
        refine lv_goto (tgt := 77) X.1 X.2.1 dX0_expandKey_68 (by decide) ?_
        exact w_X0_expandKey_77 X v2 v3 v4 v5 ((v3 - 4) + ((v5 + 1) - (v5 + 1) / 4 * 4))  k17 hk17 (L_X0_expandKey_43 k17 v2 v3 v4 n) ih hW (lv_sub hl [0, 1, 2, 3, 4] rfl) h
set_option maxRecDepth 100000 in
set_option maxHeartbeats 4000000 in
theorem w_X0_expandKey_38 {p : Program} {l : Launch} {e : Env} {s : State} {m : MethodId} {args : Array Value} {below : List Frame} {meth : Method} {c : Code} {G : xG} {sz : Nat} {o : Unit × Mm} (X : xC G false sz p s m args c cX0_expandKey 7 wsX0_expandKey RX0 meth none) (v2 : Int32) (v3 : Int32) (s0 : Int32)  (k17 : Int32 → Int32 → Mm → Option (Unit × Mm)) (hk17 : ∀ (v2 : Int32) (v3 : Int32) (S : Mm) (H : Heap) (locs : List Loc) (ls : Array Slot), k17 v2 v3 S = some o → xW G false sz s H locs S → lv_has ls 7 [(0, .ref (G.2.2 0 0)), (2, .int v2), (3, .int v3)] → wX p l e rmX0_expandKey s m args below meth c H locs (xQv G false sz o) (XA G false sz) 17 ls []) {S : Mm} {H : Heap} {locs : List Loc} {ls : Array Slot} (hW : xW G false sz s H locs S) (hl : lv_has ls 7 [(0, .ref (G.2.2 0 0)), (2, .int v2), (3, .int v3)]) (h : L_X0_expandKey_38 k17 v2 v3 s0 S = some o) : wX p l e rmX0_expandKey s m args below meth c H locs (xQv G false sz o) (XA G false sz) 38 ls [.int s0] := by
  unfold L_X0_expandKey_38 at h
  refine lv_istore (lv' := [(4, .int s0), (0, .ref (G.2.2 0 0)), (2, .int v2), (3, .int v3)]) X.1 X.2.1 dX0_expandKey_38 hl (by decide) rfl (fun ls hl => ?_)
  refine lv_iconst (v := 0) X.1 X.2.1 dX0_expandKey_40 rfl ?_
  refine lv_istore (lv' := [(5, .int 0), (4, .int s0), (0, .ref (G.2.2 0 0)), (2, .int v2), (3, .int v3)]) X.1 X.2.1 dX0_expandKey_41 hl (by decide) rfl (fun ls hl => ?_)
  exact w_X0_expandKey_43 X v2 v3 s0  k17 hk17 fu 0 S _ _ _ h hW  (lv_sub hl [2, 3, 4, 1, 0] rfl)
set_option maxRecDepth 100000 in
set_option maxHeartbeats 4000000 in
theorem w_X0_expandKey_17 {p : Program} {l : Launch} {e : Env} {s : State} {m : MethodId} {args : Array Value} {below : List Frame} {meth : Method} {c : Code} {G : xG} {sz : Nat} {o : Unit × Mm} (X : xC G false sz p s m args c cX0_expandKey 7 wsX0_expandKey RX0 meth none)    : ∀ (n : Nat) (v2 : Int32) (v3 : Int32) (S : Mm) (H : Heap) (locs : List Loc) (ls : Array Slot), L_X0_expandKey_17  n v2 v3 S = some o → xW G false sz s H locs S → lv_has ls 7 [(0, .ref (G.2.2 0 0)), (2, .int v2), (3, .int v3)] → wX p l e rmX0_expandKey s m args below meth c H locs (xQv G false sz o) (XA G false sz) 17 ls [] := by
  intro n
  induction n with
  | zero =>
    intro v2 v3 S H locs ls h
    cases h
  | succ n ih =>
    intro v2 v3 S H locs ls h hW  hl
    rw [L_X0_expandKey_17] at h
    refine lv_iload_n X.1 X.2.1 dX0_expandKey_17 rfl (lv_at hl 2 rfl) ?_
    refine lv_aload_n X.1 X.2.1 dX0_expandKey_18 rfl (lv_at hl 0 rfl) ?_
    refine x_getR X hW fd_Ccm_roundKeys (fun w h => List.mem_cons_of_mem _ (gin_X0 w h)) (List.mem_cons_of_mem _ gw92) z_1 dX0_expandKey_19 ?_
    refine x_lenP X hW dX0_expandKey_22 h (fun x2 h => ?_)
    refine x_icmp_ge X (tgt := 162) dX0_expandKey_23 (by decide) h (fun h => ?_) (fun h => ?_)
    · exact x_vret X hW h dX0_expandKey_162
    · refine lv_iload_n X.1 X.2.1 dX0_expandKey_26 rfl (lv_at hl 2 rfl) ?_
      refine lv_bipush (v := 16) X.1 X.2.1 dX0_expandKey_27 rfl ?_
      refine lv_irem X.1 X.2.1 dX0_expandKey_29 (by decide) ?_
      refine x_if_ne X (tgt := 37) dX0_expandKey_30 (by decide) h (fun h => ?_) (fun h => ?_)
      · refine lv_iconst (v := 0) X.1 X.2.1 dX0_expandKey_37 rfl ?_
        exact w_X0_expandKey_38 X v2 v3 0  (L_X0_expandKey_17  n) ih hW (lv_sub hl [0, 1, 2] rfl) h
      · refine lv_iconst (v := 1) X.1 X.2.1 dX0_expandKey_33 rfl ?_
        refine lv_goto (tgt := 38) X.1 X.2.1 dX0_expandKey_34 (by decide) ?_
        exact w_X0_expandKey_38 X v2 v3 1  (L_X0_expandKey_17  n) ih hW (lv_sub hl [0, 1, 2] rfl) h
set_option maxRecDepth 100000 in
set_option maxHeartbeats 4000000 in
theorem w_X0_expandKey_0 {p : Program} {l : Launch} {e : Env} {s : State} {m : MethodId} {args : Array Value} {below : List Frame} {meth : Method} {c : Code} {G : xG} {sz : Nat} {o : Unit × Mm} (X : xC G false sz p s m args c cX0_expandKey 7 wsX0_expandKey RX0 meth none) (cv1 : Nat) (v1 : Nat) {S : Mm} {H : Heap} {locs : List Loc} {ls : Array Slot} (hW : xW G false sz s H locs S) (hl : lv_has ls 7 [(0, .ref (G.2.2 0 0)), (1, .ref (G.2.2 cv1 v1))]) (h : F_X0_expandKey cv1 v1 S = some o) : wX p l e rmX0_expandKey s m args below meth c H locs (xQv G false sz o) (XA G false sz) 0 ls [] := by
  unfold F_X0_expandKey at h
  refine lv_aload_n X.1 X.2.1 dX0_expandKey_0 rfl (lv_at hl 1 rfl) ?_
  refine lv_iconst (v := 0) X.1 X.2.1 dX0_expandKey_1 rfl ?_
  refine lv_aload_n X.1 X.2.1 dX0_expandKey_2 rfl (lv_at hl 0 rfl) ?_
  refine x_getR X hW fd_Ccm_roundKeys (fun w h => List.mem_cons_of_mem _ (gin_X0 w h)) (List.mem_cons_of_mem _ gw92) z_1 dX0_expandKey_3 ?_
  refine lv_iconst (v := 0) X.1 X.2.1 dX0_expandKey_6 rfl ?_
  refine lv_bipush (v := 16) X.1 X.2.1 dX0_expandKey_7 rfl ?_
  refine x_acopy X hW hl.1 (List.mem_cons_of_mem _ gw694) (List.mem_cons_of_mem _ gw325) (List.mem_cons_of_mem _ gw326) (List.mem_cons_of_mem _ gw327) (Nat.le_of_ble_eq_true rfl) (Nat.le_of_ble_eq_true rfl) dX0_expandKey_9 h (fun S1 H locs h hW => ?_)
  refine lv_iconst (v := 1) X.1 X.2.1 dX0_expandKey_12 rfl ?_
  refine lv_istore_n (lv' := [(2, .int 1), (0, .ref (G.2.2 0 0)), (1, .ref (G.2.2 cv1 v1))]) X.1 X.2.1 dX0_expandKey_13 rfl hl (by decide) rfl (fun ls hl => ?_)
  refine lv_bipush (v := 16) X.1 X.2.1 dX0_expandKey_14 rfl ?_
  refine lv_istore_n (lv' := [(3, .int 16), (2, .int 1), (0, .ref (G.2.2 0 0)), (1, .ref (G.2.2 cv1 v1))]) X.1 X.2.1 dX0_expandKey_16 rfl hl (by decide) rfl (fun ls hl => ?_)
  exact w_X0_expandKey_17 X    fu 1 16 S1 _ _ _ h hW  (lv_sub hl [2, 1, 0] rfl)
theorem c_X0_expandKey (l : Launch) (G : xG) (hD : xD G false) (sz : Nat) (S : Mm) (cv1 : Nat) (v1 : Nat) (o : Unit × Mm) (h : F_X0_expandKey cv1 v1 S = some o) : Met l yX0_expandKey wsX0_expandKey rmX0_expandKey (xPre G false S sz [.ref (G.2.2 0 0), .ref (G.2.2 cv1 v1)]) (xQv G false sz o) 0 0 (XA G false sz) :=
  x_start hD (by decide) rfl (Nat.le_of_ble_eq_true rfl) (fun p e s m below meth c X hW ls hl => w_X0_expandKey_0 X cv1 v1 hW hl h)

/-! WirelessCell$Ccm.setFirstBlock([I[III)V -/
def rmX0_setFirstBlock : Room := { frames := 0, cells := 0, slots := 0, locals := 0 }
def L_X0_setFirstBlock_40  (cv0 : Nat) (v0 : Nat) (cv1 : Nat) (v1 : Nat) (v3 : Int32) : Nat → Int32 → Mm → Option (Unit × Mm)
  | 0, _, _ => none
  | n + 1, v4, S => 
    if 4 ≤ v4 then (
    ldP false S cv1 v1 25 fun x5 =>
    stP false S cv0 v0 12 x5 fun S6 =>
    ldP false S6 cv1 v1 24 fun x7 =>
    stP false S6 cv0 v0 13 x7 fun S8 =>
    stP false S8 cv0 v0 14 ((v3 >>> (8 &&& 31)) &&& 255) fun S9 =>
    stP false S9 cv0 v0 15 (v3 &&& 255) fun S10 =>
    some ((), S10))
    else (
    ldP false S cv1 v1 (31 - v4) fun x11 =>
    stP false S cv0 v0 (8 + v4) x11 fun S12 =>
    (L_X0_setFirstBlock_40 cv0 v0 cv1 v1 v3 n) (v4 + 1) S12)
def L_X0_setFirstBlock_11  (cv0 : Nat) (v0 : Nat) (cv1 : Nat) (v1 : Nat) (v3 : Int32) : Nat → Int32 → Mm → Option (Unit × Mm)
  | 0, _, _ => none
  | n + 1, v4, S => 
    if 6 ≤ v4 then (
    L_X0_setFirstBlock_40  cv0 v0 cv1 v1 v3 fu 0 S)
    else (
    ldP false S cv1 v1 (10 + v4) fun x3 =>
    stP false S cv0 v0 (2 + v4) x3 fun S4 =>
    (L_X0_setFirstBlock_11 cv0 v0 cv1 v1 v3 n) (v4 + 1) S4)
def F_X0_setFirstBlock (cv0 : Nat) (v0 : Nat) (cv1 : Nat) (v1 : Nat) (v2 : Int32) (v3 : Int32) (S : Mm) : Option (Unit × Mm) :=
  stP false S cv0 v0 0 v2 fun S1 =>
  stP false S1 cv0 v0 1 0 fun S2 =>
  L_X0_setFirstBlock_11  cv0 v0 cv1 v1 v3 fu 0 S2
set_option maxRecDepth 100000 in
set_option maxHeartbeats 4000000 in
theorem w_X0_setFirstBlock_40 {p : Program} {l : Launch} {e : Env} {s : State} {m : MethodId} {args : Array Value} {below : List Frame} {meth : Method} {c : Code} {G : xG} {sz : Nat} {o : Unit × Mm} (X : xC G false sz p s m args c cX0_setFirstBlock 5 wsX0_setFirstBlock RX0 meth none) (cv0 : Nat) (v0 : Nat) (cv1 : Nat) (v1 : Nat) (v3 : Int32)   : ∀ (n : Nat) (v4 : Int32) (S : Mm) (H : Heap) (locs : List Loc) (ls : Array Slot), L_X0_setFirstBlock_40 cv0 v0 cv1 v1 v3 n v4 S = some o → xW G false sz s H locs S → lv_has ls 5 [(0, .ref (G.2.2 cv0 v0)), (1, .ref (G.2.2 cv1 v1)), (3, .int v3), (4, .int v4)] → wX p l e rmX0_setFirstBlock s m args below meth c H locs (xQv G false sz o) (XA G false sz) 40 ls [] := by
  intro n
  induction n with
  | zero =>
    intro v4 S H locs ls h
    cases h
  | succ n ih =>
    intro v4 S H locs ls h hW  hl
    rw [L_X0_setFirstBlock_40] at h
    refine lv_iload X.1 X.2.1 dX0_setFirstBlock_40 (lv_at hl 3 rfl) ?_
    refine lv_iconst (v := 4) X.1 X.2.1 dX0_setFirstBlock_42 rfl ?_
    refine x_icmp_ge X (tgt := 66) dX0_setFirstBlock_43 (by decide) h (fun h => ?_) (fun h => ?_)
    · refine lv_aload_n X.1 X.2.1 dX0_setFirstBlock_66 rfl (lv_at hl 0 rfl) ?_
      refine lv_bipush (v := 12) X.1 X.2.1 dX0_setFirstBlock_67 rfl ?_
      refine lv_aload_n X.1 X.2.1 dX0_setFirstBlock_69 rfl (lv_at hl 1 rfl) ?_
      refine lv_bipush (v := 25) X.1 X.2.1 dX0_setFirstBlock_70 rfl ?_
      refine x_ialdP X hW dX0_setFirstBlock_72 h (fun x5 h => ?_)
      refine x_iastP X hW dX0_setFirstBlock_73 h (fun S6 H locs h hW => ?_)
      refine lv_aload_n X.1 X.2.1 dX0_setFirstBlock_74 rfl (lv_at hl 0 rfl) ?_
      refine lv_bipush (v := 13) X.1 X.2.1 dX0_setFirstBlock_75 rfl ?_
      refine lv_aload_n X.1 X.2.1 dX0_setFirstBlock_77 rfl (lv_at hl 1 rfl) ?_
      refine lv_bipush (v := 24) X.1 X.2.1 dX0_setFirstBlock_78 rfl ?_
      refine x_ialdP X hW dX0_setFirstBlock_80 h (fun x7 h => ?_)
      refine x_iastP X hW dX0_setFirstBlock_81 h (fun S8 H locs h hW => ?_)
      refine lv_aload_n X.1 X.2.1 dX0_setFirstBlock_82 rfl (lv_at hl 0 rfl) ?_
      refine lv_bipush (v := 14) X.1 X.2.1 dX0_setFirstBlock_83 rfl ?_
      refine lv_iload_n X.1 X.2.1 dX0_setFirstBlock_85 rfl (lv_at hl 2 rfl) ?_
      refine lv_bipush (v := 8) X.1 X.2.1 dX0_setFirstBlock_86 rfl ?_
      refine lv_ishr X.1 X.2.1 dX0_setFirstBlock_88 ?_
      refine lv_sipush (v := 255) X.1 X.2.1 dX0_setFirstBlock_89 rfl ?_
      refine lv_iand X.1 X.2.1 dX0_setFirstBlock_92 ?_
      refine x_iastP X hW dX0_setFirstBlock_93 h (fun S9 H locs h hW => ?_)
      refine lv_aload_n X.1 X.2.1 dX0_setFirstBlock_94 rfl (lv_at hl 0 rfl) ?_
      refine lv_bipush (v := 15) X.1 X.2.1 dX0_setFirstBlock_95 rfl ?_
      refine lv_iload_n X.1 X.2.1 dX0_setFirstBlock_97 rfl (lv_at hl 2 rfl) ?_
      refine lv_sipush (v := 255) X.1 X.2.1 dX0_setFirstBlock_98 rfl ?_
      refine lv_iand X.1 X.2.1 dX0_setFirstBlock_101 ?_
      refine x_iastP X hW dX0_setFirstBlock_102 h (fun S10 H locs h hW => ?_)
      exact x_vret X hW h dX0_setFirstBlock_103
    · refine lv_aload_n X.1 X.2.1 dX0_setFirstBlock_46 rfl (lv_at hl 0 rfl) ?_
      refine lv_bipush (v := 8) X.1 X.2.1 dX0_setFirstBlock_47 rfl ?_
      refine lv_iload X.1 X.2.1 dX0_setFirstBlock_49 (lv_at hl 3 rfl) ?_
      refine lv_iadd X.1 X.2.1 dX0_setFirstBlock_51 ?_
      refine lv_aload_n X.1 X.2.1 dX0_setFirstBlock_52 rfl (lv_at hl 1 rfl) ?_
      refine lv_bipush (v := 31) X.1 X.2.1 dX0_setFirstBlock_53 rfl ?_
      refine lv_iload X.1 X.2.1 dX0_setFirstBlock_55 (lv_at hl 3 rfl) ?_
      refine lv_isub X.1 X.2.1 dX0_setFirstBlock_57 ?_
      refine x_ialdP X hW dX0_setFirstBlock_58 h (fun x11 h => ?_)
      refine x_iastP X hW dX0_setFirstBlock_59 h (fun S12 H locs h hW => ?_)
      refine lv_iinc (v := (v4 + 1)) (lv' := [(4, .int (v4 + 1)), (0, .ref (G.2.2 cv0 v0)), (1, .ref (G.2.2 cv1 v1)), (3, .int v3)]) X.1 X.2.1 dX0_setFirstBlock_60 hl (k := 3) rfl rfl (by decide) rfl (fun ls hl => ?_)
      refine lv_goto (tgt := 40) X.1 X.2.1 dX0_setFirstBlock_63 (by decide) ?_
      exact ih (v4 + 1) S12 _ _ _ h hW  (lv_sub hl [1, 2, 3, 0] rfl)
set_option maxRecDepth 100000 in
set_option maxHeartbeats 4000000 in
theorem w_X0_setFirstBlock_11 {p : Program} {l : Launch} {e : Env} {s : State} {m : MethodId} {args : Array Value} {below : List Frame} {meth : Method} {c : Code} {G : xG} {sz : Nat} {o : Unit × Mm} (X : xC G false sz p s m args c cX0_setFirstBlock 5 wsX0_setFirstBlock RX0 meth none) (cv0 : Nat) (v0 : Nat) (cv1 : Nat) (v1 : Nat) (v3 : Int32)   : ∀ (n : Nat) (v4 : Int32) (S : Mm) (H : Heap) (locs : List Loc) (ls : Array Slot), L_X0_setFirstBlock_11 cv0 v0 cv1 v1 v3 n v4 S = some o → xW G false sz s H locs S → lv_has ls 5 [(0, .ref (G.2.2 cv0 v0)), (1, .ref (G.2.2 cv1 v1)), (3, .int v3), (4, .int v4)] → wX p l e rmX0_setFirstBlock s m args below meth c H locs (xQv G false sz o) (XA G false sz) 11 ls [] := by
  intro n
  induction n with
  | zero =>
    intro v4 S H locs ls h
    cases h
  | succ n ih =>
    intro v4 S H locs ls h hW  hl
    rw [L_X0_setFirstBlock_11] at h
    refine lv_iload X.1 X.2.1 dX0_setFirstBlock_11 (lv_at hl 3 rfl) ?_
    refine lv_bipush (v := 6) X.1 X.2.1 dX0_setFirstBlock_13 rfl ?_
    refine x_icmp_ge X (tgt := 37) dX0_setFirstBlock_15 (by decide) h (fun h => ?_) (fun h => ?_)
    · refine lv_iconst (v := 0) X.1 X.2.1 dX0_setFirstBlock_37 rfl ?_
      refine lv_istore (lv' := [(4, .int 0), (0, .ref (G.2.2 cv0 v0)), (1, .ref (G.2.2 cv1 v1)), (3, .int v3)]) X.1 X.2.1 dX0_setFirstBlock_38 hl (by decide) rfl (fun ls hl => ?_)
      exact w_X0_setFirstBlock_40 X cv0 v0 cv1 v1 v3   fu 0 S _ _ _ h hW  (lv_sub hl [1, 2, 3, 0] rfl)
    · refine lv_aload_n X.1 X.2.1 dX0_setFirstBlock_18 rfl (lv_at hl 0 rfl) ?_
      refine lv_iconst (v := 2) X.1 X.2.1 dX0_setFirstBlock_19 rfl ?_
      refine lv_iload X.1 X.2.1 dX0_setFirstBlock_20 (lv_at hl 3 rfl) ?_
      refine lv_iadd X.1 X.2.1 dX0_setFirstBlock_22 ?_
      refine lv_aload_n X.1 X.2.1 dX0_setFirstBlock_23 rfl (lv_at hl 1 rfl) ?_
      refine lv_bipush (v := 10) X.1 X.2.1 dX0_setFirstBlock_24 rfl ?_
      refine lv_iload X.1 X.2.1 dX0_setFirstBlock_26 (lv_at hl 3 rfl) ?_
      refine lv_iadd X.1 X.2.1 dX0_setFirstBlock_28 ?_
      refine x_ialdP X hW dX0_setFirstBlock_29 h (fun x3 h => ?_)
      refine x_iastP X hW dX0_setFirstBlock_30 h (fun S4 H locs h hW => ?_)
      refine lv_iinc (v := (v4 + 1)) (lv' := [(4, .int (v4 + 1)), (0, .ref (G.2.2 cv0 v0)), (1, .ref (G.2.2 cv1 v1)), (3, .int v3)]) X.1 X.2.1 dX0_setFirstBlock_31 hl (k := 3) rfl rfl (by decide) rfl (fun ls hl => ?_)
      refine lv_goto (tgt := 11) X.1 X.2.1 dX0_setFirstBlock_34 (by decide) ?_
      exact ih (v4 + 1) S4 _ _ _ h hW  (lv_sub hl [1, 2, 3, 0] rfl)
set_option maxRecDepth 100000 in
set_option maxHeartbeats 4000000 in
theorem w_X0_setFirstBlock_0 {p : Program} {l : Launch} {e : Env} {s : State} {m : MethodId} {args : Array Value} {below : List Frame} {meth : Method} {c : Code} {G : xG} {sz : Nat} {o : Unit × Mm} (X : xC G false sz p s m args c cX0_setFirstBlock 5 wsX0_setFirstBlock RX0 meth none) (cv0 : Nat) (v0 : Nat) (cv1 : Nat) (v1 : Nat) (v2 : Int32) (v3 : Int32) {S : Mm} {H : Heap} {locs : List Loc} {ls : Array Slot} (hW : xW G false sz s H locs S) (hl : lv_has ls 5 [(0, .ref (G.2.2 cv0 v0)), (1, .ref (G.2.2 cv1 v1)), (2, .int v2), (3, .int v3)]) (h : F_X0_setFirstBlock cv0 v0 cv1 v1 v2 v3 S = some o) : wX p l e rmX0_setFirstBlock s m args below meth c H locs (xQv G false sz o) (XA G false sz) 0 ls [] := by
  unfold F_X0_setFirstBlock at h
  refine lv_aload_n X.1 X.2.1 dX0_setFirstBlock_0 rfl (lv_at hl 0 rfl) ?_
  refine lv_iconst (v := 0) X.1 X.2.1 dX0_setFirstBlock_1 rfl ?_
  refine lv_iload_n X.1 X.2.1 dX0_setFirstBlock_2 rfl (lv_at hl 2 rfl) ?_
  refine x_iastP X hW dX0_setFirstBlock_3 h (fun S1 H locs h hW => ?_)
  refine lv_aload_n X.1 X.2.1 dX0_setFirstBlock_4 rfl (lv_at hl 0 rfl) ?_
  refine lv_iconst (v := 1) X.1 X.2.1 dX0_setFirstBlock_5 rfl ?_
  refine lv_iconst (v := 0) X.1 X.2.1 dX0_setFirstBlock_6 rfl ?_
  refine x_iastP X hW dX0_setFirstBlock_7 h (fun S2 H locs h hW => ?_)
  refine lv_iconst (v := 0) X.1 X.2.1 dX0_setFirstBlock_8 rfl ?_
  refine lv_istore (lv' := [(4, .int 0), (0, .ref (G.2.2 cv0 v0)), (1, .ref (G.2.2 cv1 v1)), (2, .int v2), (3, .int v3)]) X.1 X.2.1 dX0_setFirstBlock_9 hl (by decide) rfl (fun ls hl => ?_)
  exact w_X0_setFirstBlock_11 X cv0 v0 cv1 v1 v3   fu 0 S2 _ _ _ h hW  (lv_sub hl [1, 2, 4, 0] rfl)
theorem c_X0_setFirstBlock (l : Launch) (G : xG) (hD : xD G false) (sz : Nat) (S : Mm) (cv0 : Nat) (v0 : Nat) (cv1 : Nat) (v1 : Nat) (v2 : Int32) (v3 : Int32) (o : Unit × Mm) (h : F_X0_setFirstBlock cv0 v0 cv1 v1 v2 v3 S = some o) : Met l yX0_setFirstBlock wsX0_setFirstBlock rmX0_setFirstBlock (xPre G false S sz [.ref (G.2.2 cv0 v0), .ref (G.2.2 cv1 v1), .int v2, .int v3]) (xQv G false sz o) 0 0 (XA G false sz) :=
  x_start hD (by decide) rfl (Nat.le_of_ble_eq_true rfl) (fun p e s m below meth c X hW ls hl => w_X0_setFirstBlock_0 X cv0 v0 cv1 v1 v2 v3 hW hl h)

/-! WirelessCell$Ccm.encrypt([I)V -/
def rmX0_encrypt : Room := { frames := 0, cells := 0, slots := 0, locals := 0 }
def L_X0_encrypt_181 (k28 : Int32 → Mm → Option (Unit × Mm)) (k76 : Int32 → Mm → Option (Unit × Mm)) (cv1 : Nat) (v1 : Nat) (v2 : Int32) (v3 : Int32) (v4 : Int32) (S : Mm) : Option (Unit × Mm) :=
  ldA S 15 0 176 1 ((16 * v2) + v3) fun x17 =>
  stP false S cv1 v1 v3 (v4 ^^^ x17) fun S18 =>
  k76 (v3 + 1) S18
def L_X0_encrypt_76 (k28 : Int32 → Mm → Option (Unit × Mm)) (cv1 : Nat) (v1 : Nat) (v2 : Int32) : Nat → Int32 → Mm → Option (Unit × Mm)
  | 0, _, _ => none
  | n + 1, v3, S => 
    if 16 ≤ v3 then (
    k28 (v2 + 1) S)
    else (
    ldA S 14 0 16 1 v3 fun x7 =>
    if 10 ≤ v2 then (
    L_X0_encrypt_181 k28 (L_X0_encrypt_76 k28 cv1 v1 v2 n) cv1 v1 v2 v3 x7 S)
    else (
    tp (v3 &&& 12) fun x8 =>
    ldA S 14 0 16 1 (x8 ||| ((v3 + 1) &&& 3)) fun x9 =>
    tp (x7 ^^^ x9) fun x10 =>
    ldA S 14 0 16 1 x8 fun x11 =>
    ldA S 14 0 16 1 (x8 + 1) fun x12 =>
    ldA S 14 0 16 1 (x8 + 2) fun x13 =>
    ldA S 14 0 16 1 (x8 + 3) fun x14 =>
    tp (x7 ^^^ (((x11 ^^^ x12) ^^^ x13) ^^^ x14)) fun x15 =>
    tp (x15 ^^^ ((x10 <<< (1 &&& 31)) ^^^ ((x10 >>> (7 &&& 31)) * 283))) fun x16 =>
    L_X0_encrypt_181 k28 (L_X0_encrypt_76 k28 cv1 v1 v2 n) cv1 v1 v2 v3 x16 S))
def L_X0_encrypt_36 (k28 : Int32 → Mm → Option (Unit × Mm)) (cv1 : Nat) (v1 : Nat) (v2 : Int32) : Nat → Int32 → Mm → Option (Unit × Mm)
  | 0, _, _ => none
  | n + 1, v3, S => 
    if 16 ≤ v3 then (
    L_X0_encrypt_76 k28 cv1 v1 v2 fu 0 S)
    else (
    ldP false S cv1 v1 ((v3 + (4 * (v3 &&& 3))) &&& 15) fun x4 =>
    ldP false S 193 0 (x4 &&& 255) fun x5 =>
    stA S 14 0 16 1 v3 x5 fun S6 =>
    (L_X0_encrypt_36 k28 cv1 v1 v2 n) (v3 + 1) S6)
def L_X0_encrypt_28  (cv1 : Nat) (v1 : Nat) : Nat → Int32 → Mm → Option (Unit × Mm)
  | 0, _, _ => none
  | n + 1, v2, S => 
    if 10 < v2 then (
    some ((), S))
    else (
    L_X0_encrypt_36 (L_X0_encrypt_28 cv1 v1 n) cv1 v1 v2 fu 0 S)
def L_X0_encrypt_2  (cv1 : Nat) (v1 : Nat) : Nat → Int32 → Mm → Option (Unit × Mm)
  | 0, _, _ => none
  | n + 1, v2, S => 
    if 16 ≤ v2 then (
    L_X0_encrypt_28  cv1 v1 fu 1 S)
    else (
    ldP false S cv1 v1 v2 fun x1 =>
    ldA S 15 0 176 1 v2 fun x2 =>
    stP false S cv1 v1 v2 (x1 ^^^ x2) fun S3 =>
    (L_X0_encrypt_2 cv1 v1 n) (v2 + 1) S3)
def F_X0_encrypt (cv1 : Nat) (v1 : Nat) (S : Mm) : Option (Unit × Mm) :=
  L_X0_encrypt_2  cv1 v1 fu 0 S
set_option maxRecDepth 100000 in
set_option maxHeartbeats 4000000 in
theorem w_X0_encrypt_181 {p : Program} {l : Launch} {e : Env} {s : State} {m : MethodId} {args : Array Value} {below : List Frame} {meth : Method} {c : Code} {G : xG} {sz : Nat} {o : Unit × Mm} (X : xC G false sz p s m args c cX0_encrypt 7 wsX0_encrypt RX0 meth none) (cv1 : Nat) (v1 : Nat) (v2 : Int32) (v3 : Int32) (v4 : Int32)  (k28 : Int32 → Mm → Option (Unit × Mm)) (hk28 : ∀ (v2 : Int32) (S : Mm) (H : Heap) (locs : List Loc) (ls : Array Slot), k28 v2 S = some o → xW G false sz s H locs S → lv_has ls 7 [(0, .ref (G.2.2 0 0)), (1, .ref (G.2.2 cv1 v1)), (2, .int v2)] → wX p l e rmX0_encrypt s m args below meth c H locs (xQv G false sz o) (XA G false sz) 28 ls []) (k76 : Int32 → Mm → Option (Unit × Mm)) (hk76 : ∀ (v3 : Int32) (S : Mm) (H : Heap) (locs : List Loc) (ls : Array Slot), k76 v3 S = some o → xW G false sz s H locs S → lv_has ls 7 [(0, .ref (G.2.2 0 0)), (1, .ref (G.2.2 cv1 v1)), (2, .int v2), (3, .int v3)] → wX p l e rmX0_encrypt s m args below meth c H locs (xQv G false sz o) (XA G false sz) 76 ls []) {S : Mm} {H : Heap} {locs : List Loc} {ls : Array Slot} (hW : xW G false sz s H locs S) (hl : lv_has ls 7 [(0, .ref (G.2.2 0 0)), (1, .ref (G.2.2 cv1 v1)), (2, .int v2), (3, .int v3), (4, .int v4)]) (h : L_X0_encrypt_181 k28 k76 cv1 v1 v2 v3 v4 S = some o) : wX p l e rmX0_encrypt s m args below meth c H locs (xQv G false sz o) (XA G false sz) 181 ls [] := by
  unfold L_X0_encrypt_181 at h
  refine lv_aload_n X.1 X.2.1 dX0_encrypt_181 rfl (lv_at hl 1 rfl) ?_
  refine lv_iload_n X.1 X.2.1 dX0_encrypt_182 rfl (lv_at hl 3 rfl) ?_
  refine lv_iload X.1 X.2.1 dX0_encrypt_183 (lv_at hl 4 rfl) ?_
  refine lv_aload_n X.1 X.2.1 dX0_encrypt_185 rfl (lv_at hl 0 rfl) ?_
  refine x_getR X hW fd_Ccm_roundKeys (fun w h => List.mem_cons_of_mem _ (gin_X0 w h)) (List.mem_cons_of_mem _ gw92) z_1 dX0_encrypt_186 ?_
  refine lv_bipush (v := 16) X.1 X.2.1 dX0_encrypt_189 rfl ?_
  refine lv_iload_n X.1 X.2.1 dX0_encrypt_191 rfl (lv_at hl 2 rfl) ?_
  refine lv_imul X.1 X.2.1 dX0_encrypt_192 ?_
  refine lv_iload_n X.1 X.2.1 dX0_encrypt_193 rfl (lv_at hl 3 rfl) ?_
  refine lv_iadd X.1 X.2.1 dX0_encrypt_194 ?_
  refine x_iald X hW ar_15 dX0_encrypt_195 h (fun x17 h => ?_)
  refine lv_ixor X.1 X.2.1 dX0_encrypt_196 ?_
  refine x_iastP X hW dX0_encrypt_197 h (fun S18 H locs h hW => ?_)
  refine lv_iinc (v := (v3 + 1)) (lv' := [(3, .int (v3 + 1)), (0, .ref (G.2.2 0 0)), (1, .ref (G.2.2 cv1 v1)), (2, .int v2), (4, .int v4)]) X.1 X.2.1 dX0_encrypt_198 hl (k := 3) rfl rfl (by decide) rfl (fun ls hl => ?_)
  refine lv_goto (tgt := 76) X.1 X.2.1 dX0_encrypt_201 (by decide) ?_
  exact hk76 (v3 + 1) S18 _ _ _ h hW  (lv_sub hl [1, 2, 3, 0] rfl)
set_option maxRecDepth 100000 in
set_option maxHeartbeats 4000000 in
theorem w_X0_encrypt_76 {p : Program} {l : Launch} {e : Env} {s : State} {m : MethodId} {args : Array Value} {below : List Frame} {meth : Method} {c : Code} {G : xG} {sz : Nat} {o : Unit × Mm} (X : xC G false sz p s m args c cX0_encrypt 7 wsX0_encrypt RX0 meth none) (cv1 : Nat) (v1 : Nat) (v2 : Int32)  (k28 : Int32 → Mm → Option (Unit × Mm)) (hk28 : ∀ (v2 : Int32) (S : Mm) (H : Heap) (locs : List Loc) (ls : Array Slot), k28 v2 S = some o → xW G false sz s H locs S → lv_has ls 7 [(0, .ref (G.2.2 0 0)), (1, .ref (G.2.2 cv1 v1)), (2, .int v2)] → wX p l e rmX0_encrypt s m args below meth c H locs (xQv G false sz o) (XA G false sz) 28 ls []) : ∀ (n : Nat) (v3 : Int32) (S : Mm) (H : Heap) (locs : List Loc) (ls : Array Slot), L_X0_encrypt_76 k28 cv1 v1 v2 n v3 S = some o → xW G false sz s H locs S → lv_has ls 7 [(0, .ref (G.2.2 0 0)), (1, .ref (G.2.2 cv1 v1)), (2, .int v2), (3, .int v3)] → wX p l e rmX0_encrypt s m args below meth c H locs (xQv G false sz o) (XA G false sz) 76 ls [] := by
  intro n
  induction n with
  | zero =>
    intro v3 S H locs ls h
    cases h
  | succ n ih =>
    intro v3 S H locs ls h hW  hl
    rw [L_X0_encrypt_76] at h
    refine lv_iload_n X.1 X.2.1 dX0_encrypt_76 rfl (lv_at hl 3 rfl) ?_
    refine lv_bipush (v := 16) X.1 X.2.1 dX0_encrypt_77 rfl ?_
    refine x_icmp_ge X (tgt := 204) dX0_encrypt_79 (by decide) h (fun h => ?_) (fun h => ?_)
    · refine lv_iinc (v := (v2 + 1)) (lv' := [(2, .int (v2 + 1)), (0, .ref (G.2.2 0 0)), (1, .ref (G.2.2 cv1 v1)), (3, .int v3)]) X.1 X.2.1 dX0_encrypt_204 hl (k := 2) rfl rfl (by decide) rfl (fun ls hl => ?_)
      refine lv_goto (tgt := 28) X.1 X.2.1 dX0_encrypt_207 (by decide) ?_
      exact hk28 (v2 + 1) S _ _ _ h hW  (lv_sub hl [1, 2, 0] rfl)
    · refine lv_aload_n X.1 X.2.1 dX0_encrypt_82 rfl (lv_at hl 0 rfl) ?_
      refine x_getR X hW fd_Ccm_turned (fun w h => List.mem_cons_of_mem _ (gin_X0 w h)) (List.mem_cons_of_mem _ gw91) z_1 dX0_encrypt_83 ?_
      refine lv_iload_n X.1 X.2.1 dX0_encrypt_86 rfl (lv_at hl 3 rfl) ?_
      refine x_iald X hW ar_14 dX0_encrypt_87 h (fun x7 h => ?_)
      refine lv_istore (lv' := [(4, .int x7), (0, .ref (G.2.2 0 0)), (1, .ref (G.2.2 cv1 v1)), (2, .int v2), (3, .int v3)]) X.1 X.2.1 dX0_encrypt_88 hl (by decide) rfl (fun ls hl => ?_)
      refine lv_iload_n X.1 X.2.1 dX0_encrypt_90 rfl (lv_at hl 3 rfl) ?_
      refine lv_bipush (v := 10) X.1 X.2.1 dX0_encrypt_91 rfl ?_
      refine x_icmp_ge X (tgt := 181) dX0_encrypt_93 (by decide) h (fun h => ?_) (fun h => ?_)
      · exact w_X0_encrypt_181 X cv1 v1 v2 v3 x7  k28 hk28 (L_X0_encrypt_76 k28 cv1 v1 v2 n) ih hW (lv_sub hl [1, 2, 3, 4, 0] rfl) h
      · refine lv_iload_n X.1 X.2.1 dX0_encrypt_96 rfl (lv_at hl 4 rfl) ?_
        refine lv_bipush (v := 12) X.1 X.2.1 dX0_encrypt_97 rfl ?_
        refine lv_iand X.1 X.2.1 dX0_encrypt_99 ?_
        refine x_top h (fun x8 h => ?_)
        refine lv_istore (lv' := [(5, .int x8), (4, .int x7), (0, .ref (G.2.2 0 0)), (1, .ref (G.2.2 cv1 v1)), (2, .int v2), (3, .int v3)]) X.1 X.2.1 dX0_encrypt_100 hl (by decide) rfl (fun ls hl => ?_)
        refine lv_iload X.1 X.2.1 dX0_encrypt_102 (lv_at hl 1 rfl) ?_
        refine lv_aload_n X.1 X.2.1 dX0_encrypt_104 rfl (lv_at hl 2 rfl) ?_
        refine x_getR X hW fd_Ccm_turned (fun w h => List.mem_cons_of_mem _ (gin_X0 w h)) (List.mem_cons_of_mem _ gw91) z_1 dX0_encrypt_105 ?_
        refine lv_iload X.1 X.2.1 dX0_encrypt_108 (lv_at hl 0 rfl) ?_
        refine lv_iload_n X.1 X.2.1 dX0_encrypt_110 rfl (lv_at hl 5 rfl) ?_
        refine lv_iconst (v := 1) X.1 X.2.1 dX0_encrypt_111 rfl ?_
        refine lv_iadd X.1 X.2.1 dX0_encrypt_112 ?_
        refine lv_iconst (v := 3) X.1 X.2.1 dX0_encrypt_113 rfl ?_
        refine lv_iand X.1 X.2.1 dX0_encrypt_114 ?_
        refine lv_ior X.1 X.2.1 dX0_encrypt_115 ?_
        refine x_iald X hW ar_14 dX0_encrypt_116 h (fun x9 h => ?_)
        refine lv_ixor X.1 X.2.1 dX0_encrypt_117 ?_
        refine x_top h (fun x10 h => ?_)
        refine lv_istore (lv' := [(6, .int x10), (5, .int x8), (4, .int x7), (0, .ref (G.2.2 0 0)), (1, .ref (G.2.2 cv1 v1)), (2, .int v2), (3, .int v3)]) X.1 X.2.1 dX0_encrypt_118 hl (by decide) rfl (fun ls hl => ?_)
        refine lv_iload X.1 X.2.1 dX0_encrypt_120 (lv_at hl 2 rfl) ?_
        refine lv_aload_n X.1 X.2.1 dX0_encrypt_122 rfl (lv_at hl 3 rfl) ?_
        refine x_getR X hW fd_Ccm_turned (fun w h => List.mem_cons_of_mem _ (gin_X0 w h)) (List.mem_cons_of_mem _ gw91) z_1 dX0_encrypt_123 ?_
        refine lv_iload X.1 X.2.1 dX0_encrypt_126 (lv_at hl 1 rfl) ?_
        refine x_iald X hW ar_14 dX0_encrypt_128 h (fun x11 h => ?_)
        refine lv_aload_n X.1 X.2.1 dX0_encrypt_129 rfl (lv_at hl 3 rfl) ?_
        refine x_getR X hW fd_Ccm_turned (fun w h => List.mem_cons_of_mem _ (gin_X0 w h)) (List.mem_cons_of_mem _ gw91) z_1 dX0_encrypt_130 ?_
        refine lv_iload X.1 X.2.1 dX0_encrypt_133 (lv_at hl 1 rfl) ?_
        refine lv_iconst (v := 1) X.1 X.2.1 dX0_encrypt_135 rfl ?_
        refine lv_iadd X.1 X.2.1 dX0_encrypt_136 ?_
        refine x_iald X hW ar_14 dX0_encrypt_137 h (fun x12 h => ?_)
        refine lv_ixor X.1 X.2.1 dX0_encrypt_138 ?_
        refine lv_aload_n X.1 X.2.1 dX0_encrypt_139 rfl (lv_at hl 3 rfl) ?_
        refine x_getR X hW fd_Ccm_turned (fun w h => List.mem_cons_of_mem _ (gin_X0 w h)) (List.mem_cons_of_mem _ gw91) z_1 dX0_encrypt_140 ?_
        refine lv_iload X.1 X.2.1 dX0_encrypt_143 (lv_at hl 1 rfl) ?_
        refine lv_iconst (v := 2) X.1 X.2.1 dX0_encrypt_145 rfl ?_
        refine lv_iadd X.1 X.2.1 dX0_encrypt_146 ?_
        refine x_iald X hW ar_14 dX0_encrypt_147 h (fun x13 h => ?_)
        refine lv_ixor X.1 X.2.1 dX0_encrypt_148 ?_
        refine lv_aload_n X.1 X.2.1 dX0_encrypt_149 rfl (lv_at hl 3 rfl) ?_
        refine x_getR X hW fd_Ccm_turned (fun w h => List.mem_cons_of_mem _ (gin_X0 w h)) (List.mem_cons_of_mem _ gw91) z_1 dX0_encrypt_150 ?_
        refine lv_iload X.1 X.2.1 dX0_encrypt_153 (lv_at hl 1 rfl) ?_
        refine lv_iconst (v := 3) X.1 X.2.1 dX0_encrypt_155 rfl ?_
        refine lv_iadd X.1 X.2.1 dX0_encrypt_156 ?_
        refine x_iald X hW ar_14 dX0_encrypt_157 h (fun x14 h => ?_)
        refine lv_ixor X.1 X.2.1 dX0_encrypt_158 ?_
        refine lv_ixor X.1 X.2.1 dX0_encrypt_159 ?_
        refine x_top h (fun x15 h => ?_)
        refine lv_istore (lv' := [(4, .int x15), (6, .int x10), (5, .int x8), (0, .ref (G.2.2 0 0)), (1, .ref (G.2.2 cv1 v1)), (2, .int v2), (3, .int v3)]) X.1 X.2.1 dX0_encrypt_160 hl (by decide) rfl (fun ls hl => ?_)
        refine lv_iload X.1 X.2.1 dX0_encrypt_162 (lv_at hl 0 rfl) ?_
        refine lv_iload X.1 X.2.1 dX0_encrypt_164 (lv_at hl 1 rfl) ?_
        refine lv_iconst (v := 1) X.1 X.2.1 dX0_encrypt_166 rfl ?_
        refine lv_ishl X.1 X.2.1 dX0_encrypt_167 ?_
        refine lv_iload X.1 X.2.1 dX0_encrypt_168 (lv_at hl 1 rfl) ?_
        refine lv_bipush (v := 7) X.1 X.2.1 dX0_encrypt_170 rfl ?_
        refine lv_ishr X.1 X.2.1 dX0_encrypt_172 ?_
        refine lv_sipush (v := 283) X.1 X.2.1 dX0_encrypt_173 rfl ?_
        refine lv_imul X.1 X.2.1 dX0_encrypt_176 ?_
        refine lv_ixor X.1 X.2.1 dX0_encrypt_177 ?_
        refine lv_ixor X.1 X.2.1 dX0_encrypt_178 ?_
        refine x_top h (fun x16 h => ?_)
        refine lv_istore (lv' := [(4, .int x16), (6, .int x10), (5, .int x8), (0, .ref (G.2.2 0 0)), (1, .ref (G.2.2 cv1 v1)), (2, .int v2), (3, .int v3)]) X.1 X.2.1 dX0_encrypt_179 hl (by decide) rfl (fun ls hl => ?_)
        exact w_X0_encrypt_181 X cv1 v1 v2 v3 x16  k28 hk28 (L_X0_encrypt_76 k28 cv1 v1 v2 n) ih hW (lv_sub hl [3, 4, 5, 6, 0] rfl) h
set_option maxRecDepth 100000 in
set_option maxHeartbeats 4000000 in
theorem w_X0_encrypt_36 {p : Program} {l : Launch} {e : Env} {s : State} {m : MethodId} {args : Array Value} {below : List Frame} {meth : Method} {c : Code} {G : xG} {sz : Nat} {o : Unit × Mm} (X : xC G false sz p s m args c cX0_encrypt 7 wsX0_encrypt RX0 meth none) (cv1 : Nat) (v1 : Nat) (v2 : Int32)  (k28 : Int32 → Mm → Option (Unit × Mm)) (hk28 : ∀ (v2 : Int32) (S : Mm) (H : Heap) (locs : List Loc) (ls : Array Slot), k28 v2 S = some o → xW G false sz s H locs S → lv_has ls 7 [(0, .ref (G.2.2 0 0)), (1, .ref (G.2.2 cv1 v1)), (2, .int v2)] → wX p l e rmX0_encrypt s m args below meth c H locs (xQv G false sz o) (XA G false sz) 28 ls []) : ∀ (n : Nat) (v3 : Int32) (S : Mm) (H : Heap) (locs : List Loc) (ls : Array Slot), L_X0_encrypt_36 k28 cv1 v1 v2 n v3 S = some o → xW G false sz s H locs S → lv_has ls 7 [(0, .ref (G.2.2 0 0)), (1, .ref (G.2.2 cv1 v1)), (2, .int v2), (3, .int v3)] → wX p l e rmX0_encrypt s m args below meth c H locs (xQv G false sz o) (XA G false sz) 36 ls [] := by
  intro n
  induction n with
  | zero =>
    intro v3 S H locs ls h
    cases h
  | succ n ih =>
    intro v3 S H locs ls h hW  hl
    rw [L_X0_encrypt_36] at h
    refine lv_iload_n X.1 X.2.1 dX0_encrypt_36 rfl (lv_at hl 3 rfl) ?_
    refine lv_bipush (v := 16) X.1 X.2.1 dX0_encrypt_37 rfl ?_
    refine x_icmp_ge X (tgt := 74) dX0_encrypt_39 (by decide) h (fun h => ?_) (fun h => ?_)
    · refine lv_iconst (v := 0) X.1 X.2.1 dX0_encrypt_74 rfl ?_
      refine lv_istore_n (lv' := [(3, .int 0), (0, .ref (G.2.2 0 0)), (1, .ref (G.2.2 cv1 v1)), (2, .int v2)]) X.1 X.2.1 dX0_encrypt_75 rfl hl (by decide) rfl (fun ls hl => ?_)
      exact w_X0_encrypt_76 X cv1 v1 v2  k28 hk28 fu 0 S _ _ _ h hW  (lv_sub hl [1, 2, 3, 0] rfl)
    · refine lv_aload_n X.1 X.2.1 dX0_encrypt_42 rfl (lv_at hl 0 rfl) ?_
      refine x_getR X hW fd_Ccm_turned (fun w h => List.mem_cons_of_mem _ (gin_X0 w h)) (List.mem_cons_of_mem _ gw91) z_1 dX0_encrypt_43 ?_
      refine lv_iload_n X.1 X.2.1 dX0_encrypt_46 rfl (lv_at hl 3 rfl) ?_
      refine x_gets X hW X.2.2.2.2.2.2.2.2.2.2.2.1.2.2.2 (List.mem_cons_of_mem _ gw699) dX0_encrypt_47 ?_
      refine lv_aload_n X.1 X.2.1 dX0_encrypt_50 rfl (lv_at hl 1 rfl) ?_
      refine lv_iload_n X.1 X.2.1 dX0_encrypt_51 rfl (lv_at hl 3 rfl) ?_
      refine lv_iconst (v := 4) X.1 X.2.1 dX0_encrypt_52 rfl ?_
      refine lv_iload_n X.1 X.2.1 dX0_encrypt_53 rfl (lv_at hl 3 rfl) ?_
      refine lv_iconst (v := 3) X.1 X.2.1 dX0_encrypt_54 rfl ?_
      refine lv_iand X.1 X.2.1 dX0_encrypt_55 ?_
      refine lv_imul X.1 X.2.1 dX0_encrypt_56 ?_
      refine lv_iadd X.1 X.2.1 dX0_encrypt_57 ?_
      refine lv_bipush (v := 15) X.1 X.2.1 dX0_encrypt_58 rfl ?_
      refine lv_iand X.1 X.2.1 dX0_encrypt_60 ?_
      refine x_ialdP X hW dX0_encrypt_61 h (fun x4 h => ?_)
      refine lv_sipush (v := 255) X.1 X.2.1 dX0_encrypt_62 rfl ?_
      refine lv_iand X.1 X.2.1 dX0_encrypt_65 ?_
      refine x_ialdP X hW dX0_encrypt_66 h (fun x5 h => ?_)
      refine x_iast X hW ar_14 dX0_encrypt_67 h (fun S6 H locs h hW => ?_)
      refine lv_iinc (v := (v3 + 1)) (lv' := [(3, .int (v3 + 1)), (0, .ref (G.2.2 0 0)), (1, .ref (G.2.2 cv1 v1)), (2, .int v2)]) X.1 X.2.1 dX0_encrypt_68 hl (k := 3) rfl rfl (by decide) rfl (fun ls hl => ?_)
      refine lv_goto (tgt := 36) X.1 X.2.1 dX0_encrypt_71 (by decide) ?_
      exact ih (v3 + 1) S6 _ _ _ h hW  (lv_sub hl [1, 2, 3, 0] rfl)
set_option maxRecDepth 100000 in
set_option maxHeartbeats 4000000 in
theorem w_X0_encrypt_28 {p : Program} {l : Launch} {e : Env} {s : State} {m : MethodId} {args : Array Value} {below : List Frame} {meth : Method} {c : Code} {G : xG} {sz : Nat} {o : Unit × Mm} (X : xC G false sz p s m args c cX0_encrypt 7 wsX0_encrypt RX0 meth none) (cv1 : Nat) (v1 : Nat)   : ∀ (n : Nat) (v2 : Int32) (S : Mm) (H : Heap) (locs : List Loc) (ls : Array Slot), L_X0_encrypt_28 cv1 v1 n v2 S = some o → xW G false sz s H locs S → lv_has ls 7 [(0, .ref (G.2.2 0 0)), (1, .ref (G.2.2 cv1 v1)), (2, .int v2)] → wX p l e rmX0_encrypt s m args below meth c H locs (xQv G false sz o) (XA G false sz) 28 ls [] := by
  intro n
  induction n with
  | zero =>
    intro v2 S H locs ls h
    cases h
  | succ n ih =>
    intro v2 S H locs ls h hW  hl
    rw [L_X0_encrypt_28] at h
    refine lv_iload_n X.1 X.2.1 dX0_encrypt_28 rfl (lv_at hl 2 rfl) ?_
    refine lv_bipush (v := 10) X.1 X.2.1 dX0_encrypt_29 rfl ?_
    refine x_icmp_gt X (tgt := 210) dX0_encrypt_31 (by decide) h (fun h => ?_) (fun h => ?_)
    · exact x_vret X hW h dX0_encrypt_210
    · refine lv_iconst (v := 0) X.1 X.2.1 dX0_encrypt_34 rfl ?_
      refine lv_istore_n (lv' := [(3, .int 0), (0, .ref (G.2.2 0 0)), (1, .ref (G.2.2 cv1 v1)), (2, .int v2)]) X.1 X.2.1 dX0_encrypt_35 rfl hl (by decide) rfl (fun ls hl => ?_)
      exact w_X0_encrypt_36 X cv1 v1 v2  (L_X0_encrypt_28 cv1 v1 n) ih fu 0 S _ _ _ h hW  (lv_sub hl [1, 2, 3, 0] rfl)
set_option maxRecDepth 100000 in
set_option maxHeartbeats 4000000 in
theorem w_X0_encrypt_2 {p : Program} {l : Launch} {e : Env} {s : State} {m : MethodId} {args : Array Value} {below : List Frame} {meth : Method} {c : Code} {G : xG} {sz : Nat} {o : Unit × Mm} (X : xC G false sz p s m args c cX0_encrypt 7 wsX0_encrypt RX0 meth none) (cv1 : Nat) (v1 : Nat)   : ∀ (n : Nat) (v2 : Int32) (S : Mm) (H : Heap) (locs : List Loc) (ls : Array Slot), L_X0_encrypt_2 cv1 v1 n v2 S = some o → xW G false sz s H locs S → lv_has ls 7 [(0, .ref (G.2.2 0 0)), (1, .ref (G.2.2 cv1 v1)), (2, .int v2)] → wX p l e rmX0_encrypt s m args below meth c H locs (xQv G false sz o) (XA G false sz) 2 ls [] := by
  intro n
  induction n with
  | zero =>
    intro v2 S H locs ls h
    cases h
  | succ n ih =>
    intro v2 S H locs ls h hW  hl
    rw [L_X0_encrypt_2] at h
    refine lv_iload_n X.1 X.2.1 dX0_encrypt_2 rfl (lv_at hl 2 rfl) ?_
    refine lv_bipush (v := 16) X.1 X.2.1 dX0_encrypt_3 rfl ?_
    refine x_icmp_ge X (tgt := 26) dX0_encrypt_5 (by decide) h (fun h => ?_) (fun h => ?_)
    · refine lv_iconst (v := 1) X.1 X.2.1 dX0_encrypt_26 rfl ?_
      refine lv_istore_n (lv' := [(2, .int 1), (0, .ref (G.2.2 0 0)), (1, .ref (G.2.2 cv1 v1))]) X.1 X.2.1 dX0_encrypt_27 rfl hl (by decide) rfl (fun ls hl => ?_)
      exact w_X0_encrypt_28 X cv1 v1   fu 1 S _ _ _ h hW  (lv_sub hl [1, 2, 0] rfl)
    · refine lv_aload_n X.1 X.2.1 dX0_encrypt_8 rfl (lv_at hl 1 rfl) ?_
      refine lv_iload_n X.1 X.2.1 dX0_encrypt_9 rfl (lv_at hl 2 rfl) ?_
      refine lv_dup2_11 X.1 X.2.1 dX0_encrypt_10 rfl rfl ?_
      refine x_ialdP X hW dX0_encrypt_11 h (fun x1 h => ?_)
      refine lv_aload_n X.1 X.2.1 dX0_encrypt_12 rfl (lv_at hl 0 rfl) ?_
      refine x_getR X hW fd_Ccm_roundKeys (fun w h => List.mem_cons_of_mem _ (gin_X0 w h)) (List.mem_cons_of_mem _ gw92) z_1 dX0_encrypt_13 ?_
      refine lv_iload_n X.1 X.2.1 dX0_encrypt_16 rfl (lv_at hl 2 rfl) ?_
      refine x_iald X hW ar_15 dX0_encrypt_17 h (fun x2 h => ?_)
      refine lv_ixor X.1 X.2.1 dX0_encrypt_18 ?_
      refine x_iastP X hW dX0_encrypt_19 h (fun S3 H locs h hW => ?_)
      refine lv_iinc (v := (v2 + 1)) (lv' := [(2, .int (v2 + 1)), (0, .ref (G.2.2 0 0)), (1, .ref (G.2.2 cv1 v1))]) X.1 X.2.1 dX0_encrypt_20 hl (k := 2) rfl rfl (by decide) rfl (fun ls hl => ?_)
      refine lv_goto (tgt := 2) X.1 X.2.1 dX0_encrypt_23 (by decide) ?_
      exact ih (v2 + 1) S3 _ _ _ h hW  (lv_sub hl [1, 2, 0] rfl)
set_option maxRecDepth 100000 in
set_option maxHeartbeats 4000000 in
theorem w_X0_encrypt_0 {p : Program} {l : Launch} {e : Env} {s : State} {m : MethodId} {args : Array Value} {below : List Frame} {meth : Method} {c : Code} {G : xG} {sz : Nat} {o : Unit × Mm} (X : xC G false sz p s m args c cX0_encrypt 7 wsX0_encrypt RX0 meth none) (cv1 : Nat) (v1 : Nat) {S : Mm} {H : Heap} {locs : List Loc} {ls : Array Slot} (hW : xW G false sz s H locs S) (hl : lv_has ls 7 [(0, .ref (G.2.2 0 0)), (1, .ref (G.2.2 cv1 v1))]) (h : F_X0_encrypt cv1 v1 S = some o) : wX p l e rmX0_encrypt s m args below meth c H locs (xQv G false sz o) (XA G false sz) 0 ls [] := by
  unfold F_X0_encrypt at h
  refine lv_iconst (v := 0) X.1 X.2.1 dX0_encrypt_0 rfl ?_
  refine lv_istore_n (lv' := [(2, .int 0), (0, .ref (G.2.2 0 0)), (1, .ref (G.2.2 cv1 v1))]) X.1 X.2.1 dX0_encrypt_1 rfl hl (by decide) rfl (fun ls hl => ?_)
  exact w_X0_encrypt_2 X cv1 v1   fu 0 S _ _ _ h hW  (lv_sub hl [1, 2, 0] rfl)
theorem c_X0_encrypt (l : Launch) (G : xG) (hD : xD G false) (sz : Nat) (S : Mm) (cv1 : Nat) (v1 : Nat) (o : Unit × Mm) (h : F_X0_encrypt cv1 v1 S = some o) : Met l yX0_encrypt wsX0_encrypt rmX0_encrypt (xPre G false S sz [.ref (G.2.2 0 0), .ref (G.2.2 cv1 v1)]) (xQv G false sz o) 0 0 (XA G false sz) :=
  x_start hD (by decide) rfl (Nat.le_of_ble_eq_true rfl) (fun p e s m below meth c X hW ls hl => w_X0_encrypt_0 X cv1 v1 hW hl h)

/-! WirelessCell$Ccm.additional([II)I -/
def rmX0_additional : Room := { frames := 0, cells := 0, slots := 0, locals := 0 }
def F_X0_additional (cv0 : Nat) (v0 : Nat) (v1 : Int32) (S : Mm) : Option (Int32 × Mm) :=
  if v1 = 0 then (
  ldP false S cv0 v0 0 fun x1 =>
  some (x1, S))
  else (
  if v1 = 1 then (
  ldP false S cv0 v0 1 fun x3 =>
  some ((x3 &&& (-9)), S))
  else (
  if v1 = 20 then (
  ldP false S cv0 v0 22 fun x5 =>
  some ((x5 &&& 15), S))
  else (
  if v1 = 21 then (
  some (0, S))
  else (
  ldP false S cv0 v0 ((4 + v1) - 2) fun x8 =>
  some (x8, S)))))
set_option maxRecDepth 100000 in
set_option maxHeartbeats 4000000 in
theorem w_X0_additional_0 {p : Program} {l : Launch} {e : Env} {s : State} {m : MethodId} {args : Array Value} {below : List Frame} {meth : Method} {c : Code} {G : xG} {sz : Nat} {o : Int32 × Mm} (X : xC G false sz p s m args c cX0_additional 2 wsX0_additional RX0 meth (some .int)) (cv0 : Nat) (v0 : Nat) (v1 : Int32) {S : Mm} {H : Heap} {locs : List Loc} {ls : Array Slot} (hW : xW G false sz s H locs S) (hl : lv_has ls 2 [(0, .ref (G.2.2 cv0 v0)), (1, .int v1)]) (h : F_X0_additional cv0 v0 v1 S = some o) : wX p l e rmX0_additional s m args below meth c H locs (xQi G false sz o) (XA G false sz) 0 ls [] := by
  unfold F_X0_additional at h
  refine lv_iload_n X.1 X.2.1 dX0_additional_0 rfl (lv_at hl 1 rfl) ?_
  refine x_ite h (fun g2 h => ?_) (fun g2 h => ?_)
  · refine lv_lookup (off := 43) (tgt := 44) X.1 X.2.1 dX0_additional_1 (by decide) (by rw [g2]; try rfl) (by decide) ?_
    refine lv_aload_n X.1 X.2.1 dX0_additional_44 rfl (lv_at hl 0 rfl) ?_
    refine lv_iconst (v := 0) X.1 X.2.1 dX0_additional_45 rfl ?_
    refine x_ialdP X hW dX0_additional_46 h (fun x1 h => ?_)
    exact x_iret X hW h dX0_additional_47
  · refine x_ite h (fun g4 h => ?_) (fun g4 h => ?_)
    · refine lv_lookup (off := 47) (tgt := 48) X.1 X.2.1 dX0_additional_1 (by decide) (by rw [g4]; try rfl) (by decide) ?_
      refine lv_aload_n X.1 X.2.1 dX0_additional_48 rfl (lv_at hl 0 rfl) ?_
      refine lv_iconst (v := 1) X.1 X.2.1 dX0_additional_49 rfl ?_
      refine x_ialdP X hW dX0_additional_50 h (fun x3 h => ?_)
      refine lv_bipush (v := (-9)) X.1 X.2.1 dX0_additional_51 rfl ?_
      refine lv_iand X.1 X.2.1 dX0_additional_53 ?_
      exact x_iret X hW h dX0_additional_54
    · refine x_ite h (fun g6 h => ?_) (fun g6 h => ?_)
      · refine lv_lookup (off := 54) (tgt := 55) X.1 X.2.1 dX0_additional_1 (by decide) (by rw [g6]; try rfl) (by decide) ?_
        refine lv_aload_n X.1 X.2.1 dX0_additional_55 rfl (lv_at hl 0 rfl) ?_
        refine lv_bipush (v := 22) X.1 X.2.1 dX0_additional_56 rfl ?_
        refine x_ialdP X hW dX0_additional_58 h (fun x5 h => ?_)
        refine lv_bipush (v := 15) X.1 X.2.1 dX0_additional_59 rfl ?_
        refine lv_iand X.1 X.2.1 dX0_additional_61 ?_
        exact x_iret X hW h dX0_additional_62
      · refine x_ite h (fun g7 h => ?_) (fun g7 h => ?_)
        · refine lv_lookup (off := 62) (tgt := 63) X.1 X.2.1 dX0_additional_1 (by decide) (by rw [g7]; try rfl) (by decide) ?_
          refine lv_iconst (v := 0) X.1 X.2.1 dX0_additional_63 rfl ?_
          exact x_iret X hW h dX0_additional_64
        · refine lv_lookup (off := 64) (tgt := 65) X.1 X.2.1 dX0_additional_1 (by decide) (by rw [lv_osw g2 (show Int32.toInt 0 = 0 from rfl), lv_osw g4 (show Int32.toInt 1 = 1 from rfl), lv_osw g6 (show Int32.toInt 20 = 20 from rfl), lv_osw g7 (show Int32.toInt 21 = 21 from rfl)]; try rfl) (by decide) ?_
          refine lv_aload_n X.1 X.2.1 dX0_additional_65 rfl (lv_at hl 0 rfl) ?_
          refine lv_iconst (v := 4) X.1 X.2.1 dX0_additional_66 rfl ?_
          refine lv_iload_n X.1 X.2.1 dX0_additional_67 rfl (lv_at hl 1 rfl) ?_
          refine lv_iadd X.1 X.2.1 dX0_additional_68 ?_
          refine lv_iconst (v := 2) X.1 X.2.1 dX0_additional_69 rfl ?_
          refine lv_isub X.1 X.2.1 dX0_additional_70 ?_
          refine x_ialdP X hW dX0_additional_71 h (fun x8 h => ?_)
          exact x_iret X hW h dX0_additional_72
theorem c_X0_additional (l : Launch) (G : xG) (hD : xD G false) (sz : Nat) (S : Mm) (cv0 : Nat) (v0 : Nat) (v1 : Int32) (o : Int32 × Mm) (h : F_X0_additional cv0 v0 v1 S = some o) : Met l yX0_additional wsX0_additional rmX0_additional (xPre G false S sz [.ref (G.2.2 cv0 v0), .int v1]) (xQi G false sz o) 0 0 (XA G false sz) :=
  x_start hD (by decide) rfl (Nat.le_of_ble_eq_true rfl) (fun p e s m below meth c X hW ls hl => w_X0_additional_0 X cv0 v0 v1 hW hl h)

/-! WirelessCell$Ccm.addUp([II)V -/
def rmX0_addUp : Room := { frames := 1, cells := 0, slots := 0, locals := 26 }
def L_X0_addUp_59 (k32 : Int32 → Mm → Option (Unit × Mm)) (cv1 : Nat) (v1 : Nat) (v2 : Int32) (v3 : Int32) (v4 : Int32) (S : Mm) : Option (Unit × Mm) :=
  ldA S 12 0 16 1 v4 fun x16 =>
  cl (F_X0_additional cv1 v1 v3 S) fun r17 S18 =>
  stA S18 12 0 16 1 v4 (x16 ^^^ r17) fun S20 =>
  k32 (v3 + 1) S20
def L_X0_addUp_137 (k90 : Int32 → Mm → Option (Unit × Mm)) (v2 : Int32) (v3 : Int32) (S : Mm) : Option (Unit × Mm) :=
  k90 (v3 + 1) S
def L_X0_addUp_129 (k90 : Int32 → Mm → Option (Unit × Mm)) (v2 : Int32) (v3 : Int32) (S : Mm) : Option (Unit × Mm) :=
  cl (F_X0_encrypt 12 0 S) fun r24 S25 =>
  L_X0_addUp_137 k90 v2 v3 S25
def L_X0_addUp_90  (v2 : Int32) : Nat → Int32 → Mm → Option (Unit × Mm)
  | 0, _, _ => none
  | n + 1, v3, S => 
    if v2 ≤ v3 then (
    some ((), S))
    else (
    ldA S 12 0 16 1 (v3 - v3 / 16 * 16) fun x21 =>
    ldA S 11 0 300 1 v3 fun x22 =>
    stA S 12 0 16 1 (v3 - v3 / 16 * 16) (x21 ^^^ x22) fun S23 =>
    if (v3 - v3 / 16 * 16) = 15 then (
    L_X0_addUp_129 (L_X0_addUp_90 v2 n) v2 v3 S23)
    else (
    if v3 = (v2 - 1) then (
    L_X0_addUp_129 (L_X0_addUp_90 v2 n) v2 v3 S23)
    else (
    L_X0_addUp_137 (L_X0_addUp_90 v2 n) v2 v3 S23)))
def L_X0_addUp_32  (cv1 : Nat) (v1 : Nat) (v2 : Int32) : Nat → Int32 → Mm → Option (Unit × Mm)
  | 0, _, _ => none
  | n + 1, v3, S => 
    if 22 ≤ v3 then (
    cl (F_X0_encrypt 12 0 S) fun r9 S10 =>
    L_X0_addUp_90  v2 fu 0 S10)
    else (
    tp ((v3 + 2) - (v3 + 2) / 16 * 16) fun x12 =>
    if x12 = 0 then (
    cl (F_X0_encrypt 12 0 S) fun r13 S14 =>
    L_X0_addUp_59 (L_X0_addUp_32 cv1 v1 v2 n) cv1 v1 v2 v3 x12 S14)
    else (
    L_X0_addUp_59 (L_X0_addUp_32 cv1 v1 v2 n) cv1 v1 v2 v3 x12 S))
def F_X0_addUp (cv1 : Nat) (v1 : Nat) (v2 : Int32) (S : Mm) : Option (Unit × Mm) :=
  cl (F_X0_setFirstBlock 12 0 cv1 v1 89 v2 S) fun r1 S2 =>
  cl (F_X0_encrypt 12 0 S2) fun r4 S5 =>
  ldA S5 12 0 16 1 1 fun x7 =>
  stA S5 12 0 16 1 1 (x7 ^^^ 22) fun S8 =>
  L_X0_addUp_32  cv1 v1 v2 fu 0 S8
set_option maxRecDepth 100000 in
set_option maxHeartbeats 4000000 in
theorem w_X0_addUp_59 {p : Program} {l : Launch} {e : Env} {s : State} {m : MethodId} {args : Array Value} {below : List Frame} {meth : Method} {c : Code} {G : xG} {sz : Nat} {o : Unit × Mm} (X : xC G false sz p s m args c cX0_addUp 5 wsX0_addUp RX0 meth none) (cv1 : Nat) (v1 : Nat) (v2 : Int32) (v3 : Int32) (v4 : Int32)  (k32 : Int32 → Mm → Option (Unit × Mm)) (hk32 : ∀ (v3 : Int32) (S : Mm) (H : Heap) (locs : List Loc) (ls : Array Slot), k32 v3 S = some o → xW G false sz s H locs S → lv_has ls 5 [(0, .ref (G.2.2 0 0)), (1, .ref (G.2.2 cv1 v1)), (2, .int v2), (3, .int v3)] → wX p l e rmX0_addUp s m args below meth c H locs (xQv G false sz o) (XA G false sz) 32 ls []) {S : Mm} {H : Heap} {locs : List Loc} {ls : Array Slot} (hW : xW G false sz s H locs S) (hl : lv_has ls 5 [(0, .ref (G.2.2 0 0)), (1, .ref (G.2.2 cv1 v1)), (2, .int v2), (3, .int v3), (4, .int v4)]) (h : L_X0_addUp_59 k32 cv1 v1 v2 v3 v4 S = some o) : wX p l e rmX0_addUp s m args below meth c H locs (xQv G false sz o) (XA G false sz) 59 ls [] := by
  unfold L_X0_addUp_59 at h
  refine lv_aload_n X.1 X.2.1 dX0_addUp_59 rfl (lv_at hl 0 rfl) ?_
  refine x_getR X hW fd_Ccm_mac (fun w h => List.mem_cons_of_mem _ (gin_X0 w h)) (List.mem_cons_of_mem _ gw89) z_1 dX0_addUp_60 ?_
  refine lv_iload X.1 X.2.1 dX0_addUp_63 (lv_at hl 4 rfl) ?_
  refine lv_dup2_11 X.1 X.2.1 dX0_addUp_65 rfl rfl ?_
  refine x_iald X hW ar_12 dX0_addUp_66 h (fun x16 h => ?_)
  refine lv_aload_n X.1 X.2.1 dX0_addUp_67 rfl (lv_at hl 1 rfl) ?_
  refine lv_iload_n X.1 X.2.1 dX0_addUp_68 rfl (lv_at hl 3 rfl) ?_
  obtain ⟨r17, S18, h19, h⟩ := cl_some h
  refine x_aftI X hW (x_runS (As := [.ref (G.2.2 cv1 v1), .int v3]) (rest := [.int x16, .int v4, .ref (G.2.2 12 0)]) X hW (c_X0_additional l G X.2.2.2.2.2.2.2.2.2.1 _ S cv1 v1 v3 _ h19) (va_cwS 2 X.2.2.2.2.1 (gS gw711 gw712 gw36 gw713) rfl rfl rfl hd_X0_additional ⟨Nat.le_of_ble_eq_true rfl, Nat.le_of_ble_eq_true rfl⟩) rfl hl.1 rfl (Nat.le_of_ble_eq_true rfl) dX0_addUp_69 ⟨Nat.zero_le _, Nat.zero_le _⟩) (fun H locs hW => ?_)
  refine lv_ixor X.1 X.2.1 dX0_addUp_72 ?_
  refine x_iast X hW ar_12 dX0_addUp_73 h (fun S20 H locs h hW => ?_)
  refine lv_iinc (v := (v3 + 1)) (lv' := [(3, .int (v3 + 1)), (0, .ref (G.2.2 0 0)), (1, .ref (G.2.2 cv1 v1)), (2, .int v2), (4, .int v4)]) X.1 X.2.1 dX0_addUp_74 hl (k := 3) rfl rfl (by decide) rfl (fun ls hl => ?_)
  refine lv_goto (tgt := 32) X.1 X.2.1 dX0_addUp_77 (by decide) ?_
  exact hk32 (v3 + 1) S20 _ _ _ h hW  (lv_sub hl [1, 2, 3, 0] rfl)
set_option maxRecDepth 100000 in
set_option maxHeartbeats 4000000 in
theorem w_X0_addUp_137 {p : Program} {l : Launch} {e : Env} {s : State} {m : MethodId} {args : Array Value} {below : List Frame} {meth : Method} {c : Code} {G : xG} {sz : Nat} {o : Unit × Mm} (X : xC G false sz p s m args c cX0_addUp 5 wsX0_addUp RX0 meth none) (v2 : Int32) (v3 : Int32)  (k90 : Int32 → Mm → Option (Unit × Mm)) (hk90 : ∀ (v3 : Int32) (S : Mm) (H : Heap) (locs : List Loc) (ls : Array Slot), k90 v3 S = some o → xW G false sz s H locs S → lv_has ls 5 [(0, .ref (G.2.2 0 0)), (2, .int v2), (3, .int v3)] → wX p l e rmX0_addUp s m args below meth c H locs (xQv G false sz o) (XA G false sz) 90 ls []) {S : Mm} {H : Heap} {locs : List Loc} {ls : Array Slot} (hW : xW G false sz s H locs S) (hl : lv_has ls 5 [(0, .ref (G.2.2 0 0)), (2, .int v2), (3, .int v3)]) (h : L_X0_addUp_137 k90 v2 v3 S = some o) : wX p l e rmX0_addUp s m args below meth c H locs (xQv G false sz o) (XA G false sz) 137 ls [] := by
  unfold L_X0_addUp_137 at h
  refine lv_iinc (v := (v3 + 1)) (lv' := [(3, .int (v3 + 1)), (0, .ref (G.2.2 0 0)), (2, .int v2)]) X.1 X.2.1 dX0_addUp_137 hl (k := 2) rfl rfl (by decide) rfl (fun ls hl => ?_)
  refine lv_goto (tgt := 90) X.1 X.2.1 dX0_addUp_140 (by decide) ?_
  exact hk90 (v3 + 1) S _ _ _ h hW  (lv_sub hl [1, 2, 0] rfl)
set_option maxRecDepth 100000 in
set_option maxHeartbeats 4000000 in
theorem w_X0_addUp_129 {p : Program} {l : Launch} {e : Env} {s : State} {m : MethodId} {args : Array Value} {below : List Frame} {meth : Method} {c : Code} {G : xG} {sz : Nat} {o : Unit × Mm} (X : xC G false sz p s m args c cX0_addUp 5 wsX0_addUp RX0 meth none) (v2 : Int32) (v3 : Int32)  (k90 : Int32 → Mm → Option (Unit × Mm)) (hk90 : ∀ (v3 : Int32) (S : Mm) (H : Heap) (locs : List Loc) (ls : Array Slot), k90 v3 S = some o → xW G false sz s H locs S → lv_has ls 5 [(0, .ref (G.2.2 0 0)), (2, .int v2), (3, .int v3)] → wX p l e rmX0_addUp s m args below meth c H locs (xQv G false sz o) (XA G false sz) 90 ls []) {S : Mm} {H : Heap} {locs : List Loc} {ls : Array Slot} (hW : xW G false sz s H locs S) (hl : lv_has ls 5 [(0, .ref (G.2.2 0 0)), (2, .int v2), (3, .int v3)]) (h : L_X0_addUp_129 k90 v2 v3 S = some o) : wX p l e rmX0_addUp s m args below meth c H locs (xQv G false sz o) (XA G false sz) 129 ls [] := by
  unfold L_X0_addUp_129 at h
  refine lv_aload_n X.1 X.2.1 dX0_addUp_129 rfl (lv_at hl 0 rfl) ?_
  refine lv_aload_n X.1 X.2.1 dX0_addUp_130 rfl (lv_at hl 0 rfl) ?_
  refine x_getR X hW fd_Ccm_mac (fun w h => List.mem_cons_of_mem _ (gin_X0 w h)) (List.mem_cons_of_mem _ gw89) z_1 dX0_addUp_131 ?_
  obtain ⟨r24, S25, h26, h⟩ := cl_some h
  refine x_aftV X hW (x_runV (C := RX0) (a := G.2.2 0 0) (As := [.ref (G.2.2 12 0)]) (rest := []) X hW (c_X0_encrypt l G X.2.2.2.2.2.2.2.2.2.1 _ S 12 0 _ h26) (cwV 1 X.2.2.2.2.1 (gV gw707 gw708 gw709 gw36 gw710) rfl rfl rfl ⟨rfl, hd_X0_encrypt⟩ ⟨Nat.le_of_ble_eq_true rfl, Nat.le_of_ble_eq_true rfl⟩) (x_recv X hW ob_Ccm z_1) rfl hl.1 rfl (Nat.le_of_ble_eq_true rfl) dX0_addUp_134 ⟨Nat.zero_le _, Nat.zero_le _⟩) (fun H locs hW => ?_)
  exact w_X0_addUp_137 X v2 v3  k90 hk90 hW (lv_sub hl [0, 1, 2] rfl) h
set_option maxRecDepth 100000 in
set_option maxHeartbeats 4000000 in
theorem w_X0_addUp_90 {p : Program} {l : Launch} {e : Env} {s : State} {m : MethodId} {args : Array Value} {below : List Frame} {meth : Method} {c : Code} {G : xG} {sz : Nat} {o : Unit × Mm} (X : xC G false sz p s m args c cX0_addUp 5 wsX0_addUp RX0 meth none) (v2 : Int32)   : ∀ (n : Nat) (v3 : Int32) (S : Mm) (H : Heap) (locs : List Loc) (ls : Array Slot), L_X0_addUp_90 v2 n v3 S = some o → xW G false sz s H locs S → lv_has ls 5 [(0, .ref (G.2.2 0 0)), (2, .int v2), (3, .int v3)] → wX p l e rmX0_addUp s m args below meth c H locs (xQv G false sz o) (XA G false sz) 90 ls [] := by
  intro n
  induction n with
  | zero =>
    intro v3 S H locs ls h
    cases h
  | succ n ih =>
    intro v3 S H locs ls h hW  hl
    rw [L_X0_addUp_90] at h
    refine lv_iload_n X.1 X.2.1 dX0_addUp_90 rfl (lv_at hl 2 rfl) ?_
    refine lv_iload_n X.1 X.2.1 dX0_addUp_91 rfl (lv_at hl 1 rfl) ?_
    refine x_icmp_ge X (tgt := 143) dX0_addUp_92 (by decide) h (fun h => ?_) (fun h => ?_)
    · exact x_vret X hW h dX0_addUp_143
    · refine lv_aload_n X.1 X.2.1 dX0_addUp_95 rfl (lv_at hl 0 rfl) ?_
      refine x_getR X hW fd_Ccm_mac (fun w h => List.mem_cons_of_mem _ (gin_X0 w h)) (List.mem_cons_of_mem _ gw89) z_1 dX0_addUp_96 ?_
      refine lv_iload_n X.1 X.2.1 dX0_addUp_99 rfl (lv_at hl 2 rfl) ?_
      refine lv_bipush (v := 16) X.1 X.2.1 dX0_addUp_100 rfl ?_
      refine lv_irem X.1 X.2.1 dX0_addUp_102 (by decide) ?_
      refine lv_dup2_11 X.1 X.2.1 dX0_addUp_103 rfl rfl ?_
      refine x_iald X hW ar_12 dX0_addUp_104 h (fun x21 h => ?_)
      refine lv_aload_n X.1 X.2.1 dX0_addUp_105 rfl (lv_at hl 0 rfl) ?_
      refine x_getR X hW fd_Ccm_plain (fun w h => List.mem_cons_of_mem _ (gin_X0 w h)) (List.mem_cons_of_mem _ gw88) z_1 dX0_addUp_106 ?_
      refine lv_iload_n X.1 X.2.1 dX0_addUp_109 rfl (lv_at hl 2 rfl) ?_
      refine x_iald X hW ar_11 dX0_addUp_110 h (fun x22 h => ?_)
      refine lv_ixor X.1 X.2.1 dX0_addUp_111 ?_
      refine x_iast X hW ar_12 dX0_addUp_112 h (fun S23 H locs h hW => ?_)
      refine lv_iload_n X.1 X.2.1 dX0_addUp_113 rfl (lv_at hl 2 rfl) ?_
      refine lv_bipush (v := 16) X.1 X.2.1 dX0_addUp_114 rfl ?_
      refine lv_irem X.1 X.2.1 dX0_addUp_116 (by decide) ?_
      refine lv_bipush (v := 15) X.1 X.2.1 dX0_addUp_117 rfl ?_
      refine x_icmp_eq X (tgt := 129) dX0_addUp_119 (by decide) h (fun h => ?_) (fun h => ?_)
      · exact w_X0_addUp_129 X v2 v3  (L_X0_addUp_90 v2 n) ih hW (lv_sub hl [0, 1, 2] rfl) h
      · refine lv_iload_n X.1 X.2.1 dX0_addUp_122 rfl (lv_at hl 2 rfl) ?_
        refine lv_iload_n X.1 X.2.1 dX0_addUp_123 rfl (lv_at hl 1 rfl) ?_
        refine lv_iconst (v := 1) X.1 X.2.1 dX0_addUp_124 rfl ?_
        refine lv_isub X.1 X.2.1 dX0_addUp_125 ?_
        refine x_icmp_ne X (tgt := 137) dX0_addUp_126 (by decide) h (fun h => ?_) (fun h => ?_)
        · exact w_X0_addUp_137 X v2 v3  (L_X0_addUp_90 v2 n) ih hW (lv_sub hl [0, 1, 2] rfl) h
        · exact w_X0_addUp_129 X v2 v3  (L_X0_addUp_90 v2 n) ih hW (lv_sub hl [0, 1, 2] rfl) h
set_option maxRecDepth 100000 in
set_option maxHeartbeats 4000000 in
theorem w_X0_addUp_32 {p : Program} {l : Launch} {e : Env} {s : State} {m : MethodId} {args : Array Value} {below : List Frame} {meth : Method} {c : Code} {G : xG} {sz : Nat} {o : Unit × Mm} (X : xC G false sz p s m args c cX0_addUp 5 wsX0_addUp RX0 meth none) (cv1 : Nat) (v1 : Nat) (v2 : Int32)   : ∀ (n : Nat) (v3 : Int32) (S : Mm) (H : Heap) (locs : List Loc) (ls : Array Slot), L_X0_addUp_32 cv1 v1 v2 n v3 S = some o → xW G false sz s H locs S → lv_has ls 5 [(0, .ref (G.2.2 0 0)), (1, .ref (G.2.2 cv1 v1)), (2, .int v2), (3, .int v3)] → wX p l e rmX0_addUp s m args below meth c H locs (xQv G false sz o) (XA G false sz) 32 ls [] := by
  intro n
  induction n with
  | zero =>
    intro v3 S H locs ls h
    cases h
  | succ n ih =>
    intro v3 S H locs ls h hW  hl
    rw [L_X0_addUp_32] at h
    refine lv_iload_n X.1 X.2.1 dX0_addUp_32 rfl (lv_at hl 3 rfl) ?_
    refine lv_bipush (v := 22) X.1 X.2.1 dX0_addUp_33 rfl ?_
    refine x_icmp_ge X (tgt := 80) dX0_addUp_35 (by decide) h (fun h => ?_) (fun h => ?_)
    · refine lv_aload_n X.1 X.2.1 dX0_addUp_80 rfl (lv_at hl 0 rfl) ?_
      refine lv_aload_n X.1 X.2.1 dX0_addUp_81 rfl (lv_at hl 0 rfl) ?_
      refine x_getR X hW fd_Ccm_mac (fun w h => List.mem_cons_of_mem _ (gin_X0 w h)) (List.mem_cons_of_mem _ gw89) z_1 dX0_addUp_82 ?_
      obtain ⟨r9, S10, h11, h⟩ := cl_some h
      refine x_aftV X hW (x_runV (C := RX0) (a := G.2.2 0 0) (As := [.ref (G.2.2 12 0)]) (rest := []) X hW (c_X0_encrypt l G X.2.2.2.2.2.2.2.2.2.1 _ S 12 0 _ h11) (cwV 1 X.2.2.2.2.1 (gV gw707 gw708 gw709 gw36 gw710) rfl rfl rfl ⟨rfl, hd_X0_encrypt⟩ ⟨Nat.le_of_ble_eq_true rfl, Nat.le_of_ble_eq_true rfl⟩) (x_recv X hW ob_Ccm z_1) rfl hl.1 rfl (Nat.le_of_ble_eq_true rfl) dX0_addUp_85 ⟨Nat.zero_le _, Nat.zero_le _⟩) (fun H locs hW => ?_)
      refine lv_iconst (v := 0) X.1 X.2.1 dX0_addUp_88 rfl ?_
      refine lv_istore_n (lv' := [(3, .int 0), (0, .ref (G.2.2 0 0)), (1, .ref (G.2.2 cv1 v1)), (2, .int v2)]) X.1 X.2.1 dX0_addUp_89 rfl hl (by decide) rfl (fun ls hl => ?_)
      exact w_X0_addUp_90 X v2   fu 0 S10 _ _ _ h hW  (lv_sub hl [1, 3, 0] rfl)
    · refine lv_iload_n X.1 X.2.1 dX0_addUp_38 rfl (lv_at hl 3 rfl) ?_
      refine lv_iconst (v := 2) X.1 X.2.1 dX0_addUp_39 rfl ?_
      refine lv_iadd X.1 X.2.1 dX0_addUp_40 ?_
      refine lv_bipush (v := 16) X.1 X.2.1 dX0_addUp_41 rfl ?_
      refine lv_irem X.1 X.2.1 dX0_addUp_43 (by decide) ?_
      refine x_top h (fun x12 h => ?_)
      refine lv_istore (lv' := [(4, .int x12), (0, .ref (G.2.2 0 0)), (1, .ref (G.2.2 cv1 v1)), (2, .int v2), (3, .int v3)]) X.1 X.2.1 dX0_addUp_44 hl (by decide) rfl (fun ls hl => ?_)
      refine lv_iload X.1 X.2.1 dX0_addUp_46 (lv_at hl 0 rfl) ?_
      refine x_if_ne X (tgt := 59) dX0_addUp_48 (by decide) h (fun h => ?_) (fun h => ?_)
      · exact w_X0_addUp_59 X cv1 v1 v2 v3 x12  (L_X0_addUp_32 cv1 v1 v2 n) ih hW (lv_sub hl [1, 2, 3, 4, 0] rfl) h
      · refine lv_aload_n X.1 X.2.1 dX0_addUp_51 rfl (lv_at hl 1 rfl) ?_
        refine lv_aload_n X.1 X.2.1 dX0_addUp_52 rfl (lv_at hl 1 rfl) ?_
        refine x_getR X hW fd_Ccm_mac (fun w h => List.mem_cons_of_mem _ (gin_X0 w h)) (List.mem_cons_of_mem _ gw89) z_1 dX0_addUp_53 ?_
        obtain ⟨r13, S14, h15, h⟩ := cl_some h
        refine x_aftV X hW (x_runV (C := RX0) (a := G.2.2 0 0) (As := [.ref (G.2.2 12 0)]) (rest := []) X hW (c_X0_encrypt l G X.2.2.2.2.2.2.2.2.2.1 _ S 12 0 _ h15) (cwV 1 X.2.2.2.2.1 (gV gw707 gw708 gw709 gw36 gw710) rfl rfl rfl ⟨rfl, hd_X0_encrypt⟩ ⟨Nat.le_of_ble_eq_true rfl, Nat.le_of_ble_eq_true rfl⟩) (x_recv X hW ob_Ccm z_1) rfl hl.1 rfl (Nat.le_of_ble_eq_true rfl) dX0_addUp_56 ⟨Nat.zero_le _, Nat.zero_le _⟩) (fun H locs hW => ?_)
        exact w_X0_addUp_59 X cv1 v1 v2 v3 x12  (L_X0_addUp_32 cv1 v1 v2 n) ih hW (lv_sub hl [1, 2, 3, 4, 0] rfl) h
set_option maxRecDepth 100000 in
set_option maxHeartbeats 4000000 in
theorem w_X0_addUp_0 {p : Program} {l : Launch} {e : Env} {s : State} {m : MethodId} {args : Array Value} {below : List Frame} {meth : Method} {c : Code} {G : xG} {sz : Nat} {o : Unit × Mm} (X : xC G false sz p s m args c cX0_addUp 5 wsX0_addUp RX0 meth none) (cv1 : Nat) (v1 : Nat) (v2 : Int32) {S : Mm} {H : Heap} {locs : List Loc} {ls : Array Slot} (hW : xW G false sz s H locs S) (hl : lv_has ls 5 [(0, .ref (G.2.2 0 0)), (1, .ref (G.2.2 cv1 v1)), (2, .int v2)]) (h : F_X0_addUp cv1 v1 v2 S = some o) : wX p l e rmX0_addUp s m args below meth c H locs (xQv G false sz o) (XA G false sz) 0 ls [] := by
  unfold F_X0_addUp at h
  refine lv_aload_n X.1 X.2.1 dX0_addUp_0 rfl (lv_at hl 0 rfl) ?_
  refine x_getR X hW fd_Ccm_mac (fun w h => List.mem_cons_of_mem _ (gin_X0 w h)) (List.mem_cons_of_mem _ gw89) z_1 dX0_addUp_1 ?_
  refine lv_aload_n X.1 X.2.1 dX0_addUp_4 rfl (lv_at hl 1 rfl) ?_
  refine lv_bipush (v := 89) X.1 X.2.1 dX0_addUp_5 rfl ?_
  refine lv_iload_n X.1 X.2.1 dX0_addUp_7 rfl (lv_at hl 2 rfl) ?_
  obtain ⟨r1, S2, h3, h⟩ := cl_some h
  refine x_aftV X hW (x_runS (As := [.ref (G.2.2 12 0), .ref (G.2.2 cv1 v1), .int 89, .int v2]) (rest := []) X hW (c_X0_setFirstBlock l G X.2.2.2.2.2.2.2.2.2.1 _ S 12 0 cv1 v1 89 v2 _ h3) (va_cwS 4 X.2.2.2.2.1 (gS gw704 gw705 gw36 gw706) rfl rfl rfl hd_X0_setFirstBlock ⟨Nat.le_of_ble_eq_true rfl, Nat.le_of_ble_eq_true rfl⟩) rfl hl.1 rfl (Nat.le_of_ble_eq_true rfl) dX0_addUp_8 ⟨Nat.zero_le _, Nat.zero_le _⟩) (fun H locs hW => ?_)
  refine lv_aload_n X.1 X.2.1 dX0_addUp_11 rfl (lv_at hl 0 rfl) ?_
  refine lv_aload_n X.1 X.2.1 dX0_addUp_12 rfl (lv_at hl 0 rfl) ?_
  refine x_getR X hW fd_Ccm_mac (fun w h => List.mem_cons_of_mem _ (gin_X0 w h)) (List.mem_cons_of_mem _ gw89) z_1 dX0_addUp_13 ?_
  obtain ⟨r4, S5, h6, h⟩ := cl_some h
  refine x_aftV X hW (x_runV (C := RX0) (a := G.2.2 0 0) (As := [.ref (G.2.2 12 0)]) (rest := []) X hW (c_X0_encrypt l G X.2.2.2.2.2.2.2.2.2.1 _ S2 12 0 _ h6) (cwV 1 X.2.2.2.2.1 (gV gw707 gw708 gw709 gw36 gw710) rfl rfl rfl ⟨rfl, hd_X0_encrypt⟩ ⟨Nat.le_of_ble_eq_true rfl, Nat.le_of_ble_eq_true rfl⟩) (x_recv X hW ob_Ccm z_1) rfl hl.1 rfl (Nat.le_of_ble_eq_true rfl) dX0_addUp_16 ⟨Nat.zero_le _, Nat.zero_le _⟩) (fun H locs hW => ?_)
  refine lv_aload_n X.1 X.2.1 dX0_addUp_19 rfl (lv_at hl 0 rfl) ?_
  refine x_getR X hW fd_Ccm_mac (fun w h => List.mem_cons_of_mem _ (gin_X0 w h)) (List.mem_cons_of_mem _ gw89) z_1 dX0_addUp_20 ?_
  refine lv_iconst (v := 1) X.1 X.2.1 dX0_addUp_23 rfl ?_
  refine lv_dup2_11 X.1 X.2.1 dX0_addUp_24 rfl rfl ?_
  refine x_iald X hW ar_12 dX0_addUp_25 h (fun x7 h => ?_)
  refine lv_bipush (v := 22) X.1 X.2.1 dX0_addUp_26 rfl ?_
  refine lv_ixor X.1 X.2.1 dX0_addUp_28 ?_
  refine x_iast X hW ar_12 dX0_addUp_29 h (fun S8 H locs h hW => ?_)
  refine lv_iconst (v := 0) X.1 X.2.1 dX0_addUp_30 rfl ?_
  refine lv_istore_n (lv' := [(3, .int 0), (0, .ref (G.2.2 0 0)), (1, .ref (G.2.2 cv1 v1)), (2, .int v2)]) X.1 X.2.1 dX0_addUp_31 rfl hl (by decide) rfl (fun ls hl => ?_)
  exact w_X0_addUp_32 X cv1 v1 v2   fu 0 S8 _ _ _ h hW  (lv_sub hl [1, 2, 3, 0] rfl)
theorem c_X0_addUp (l : Launch) (G : xG) (hD : xD G false) (sz : Nat) (S : Mm) (cv1 : Nat) (v1 : Nat) (v2 : Int32) (o : Unit × Mm) (h : F_X0_addUp cv1 v1 v2 S = some o) : Met l yX0_addUp wsX0_addUp rmX0_addUp (xPre G false S sz [.ref (G.2.2 0 0), .ref (G.2.2 cv1 v1), .int v2]) (xQv G false sz o) 0 0 (XA G false sz) :=
  x_start hD (by decide) rfl (Nat.le_of_ble_eq_true rfl) (fun p e s m below meth c X hW ls hl => w_X0_addUp_0 X cv1 v1 v2 hW hl h)

/-! WirelessCell$Ccm.crypt([I[III)V -/
def rmX0_crypt : Room := { frames := 1, cells := 0, slots := 0, locals := 26 }
def L_X0_crypt_42 (k3 : Int32 → Mm → Option (Unit × Mm)) (cv1 : Nat) (v1 : Nat) (cv2 : Nat) (v2 : Nat) (v3 : Int32) (v4 : Int32) (v5 : Int32) (S : Mm) : Option (Unit × Mm) :=
  ldP false S cv1 v1 (32 + v5) fun x7 =>
  ldA S 13 0 16 1 (v5 - v5 / 16 * 16) fun x8 =>
  stP false S cv2 v2 (v3 + v5) (x7 ^^^ x8) fun S9 =>
  k3 (v5 + 1) S9
def L_X0_crypt_3  (cv1 : Nat) (v1 : Nat) (cv2 : Nat) (v2 : Nat) (v3 : Int32) (v4 : Int32) : Nat → Int32 → Mm → Option (Unit × Mm)
  | 0, _, _ => none
  | n + 1, v5, S => 
    if v4 ≤ v5 then (
    some ((), S))
    else (
    if (v5 - v5 / 16 * 16) = 0 then (
    cl (F_X0_setFirstBlock 13 0 cv1 v1 1 ((v5 / 16) + 1) S) fun r1 S2 =>
    cl (F_X0_encrypt 13 0 S2) fun r4 S5 =>
    L_X0_crypt_42 (L_X0_crypt_3 cv1 v1 cv2 v2 v3 v4 n) cv1 v1 cv2 v2 v3 v4 v5 S5)
    else (
    L_X0_crypt_42 (L_X0_crypt_3 cv1 v1 cv2 v2 v3 v4 n) cv1 v1 cv2 v2 v3 v4 v5 S))
def F_X0_crypt (cv1 : Nat) (v1 : Nat) (cv2 : Nat) (v2 : Nat) (v3 : Int32) (v4 : Int32) (S : Mm) : Option (Unit × Mm) :=
  L_X0_crypt_3  cv1 v1 cv2 v2 v3 v4 fu 0 S
set_option maxRecDepth 100000 in
set_option maxHeartbeats 4000000 in
theorem w_X0_crypt_42 {p : Program} {l : Launch} {e : Env} {s : State} {m : MethodId} {args : Array Value} {below : List Frame} {meth : Method} {c : Code} {G : xG} {sz : Nat} {o : Unit × Mm} (X : xC G false sz p s m args c cX0_crypt 6 wsX0_crypt RX0 meth none) (cv1 : Nat) (v1 : Nat) (cv2 : Nat) (v2 : Nat) (v3 : Int32) (v4 : Int32) (v5 : Int32)  (k3 : Int32 → Mm → Option (Unit × Mm)) (hk3 : ∀ (v5 : Int32) (S : Mm) (H : Heap) (locs : List Loc) (ls : Array Slot), k3 v5 S = some o → xW G false sz s H locs S → lv_has ls 6 [(0, .ref (G.2.2 0 0)), (1, .ref (G.2.2 cv1 v1)), (2, .ref (G.2.2 cv2 v2)), (3, .int v3), (4, .int v4), (5, .int v5)] → wX p l e rmX0_crypt s m args below meth c H locs (xQv G false sz o) (XA G false sz) 3 ls []) {S : Mm} {H : Heap} {locs : List Loc} {ls : Array Slot} (hW : xW G false sz s H locs S) (hl : lv_has ls 6 [(0, .ref (G.2.2 0 0)), (1, .ref (G.2.2 cv1 v1)), (2, .ref (G.2.2 cv2 v2)), (3, .int v3), (4, .int v4), (5, .int v5)]) (h : L_X0_crypt_42 k3 cv1 v1 cv2 v2 v3 v4 v5 S = some o) : wX p l e rmX0_crypt s m args below meth c H locs (xQv G false sz o) (XA G false sz) 42 ls [] := by
  unfold L_X0_crypt_42 at h
  refine lv_aload_n X.1 X.2.1 dX0_crypt_42 rfl (lv_at hl 2 rfl) ?_
  refine lv_iload_n X.1 X.2.1 dX0_crypt_43 rfl (lv_at hl 3 rfl) ?_
  refine lv_iload X.1 X.2.1 dX0_crypt_44 (lv_at hl 5 rfl) ?_
  refine lv_iadd X.1 X.2.1 dX0_crypt_46 ?_
  refine lv_aload_n X.1 X.2.1 dX0_crypt_47 rfl (lv_at hl 1 rfl) ?_
  refine lv_bipush (v := 32) X.1 X.2.1 dX0_crypt_48 rfl ?_
  refine lv_iload X.1 X.2.1 dX0_crypt_50 (lv_at hl 5 rfl) ?_
  refine lv_iadd X.1 X.2.1 dX0_crypt_52 ?_
  refine x_ialdP X hW dX0_crypt_53 h (fun x7 h => ?_)
  refine lv_aload_n X.1 X.2.1 dX0_crypt_54 rfl (lv_at hl 0 rfl) ?_
  refine x_getR X hW fd_Ccm_stream (fun w h => List.mem_cons_of_mem _ (gin_X0 w h)) (List.mem_cons_of_mem _ gw90) z_1 dX0_crypt_55 ?_
  refine lv_iload X.1 X.2.1 dX0_crypt_58 (lv_at hl 5 rfl) ?_
  refine lv_bipush (v := 16) X.1 X.2.1 dX0_crypt_60 rfl ?_
  refine lv_irem X.1 X.2.1 dX0_crypt_62 (by decide) ?_
  refine x_iald X hW ar_13 dX0_crypt_63 h (fun x8 h => ?_)
  refine lv_ixor X.1 X.2.1 dX0_crypt_64 ?_
  refine x_iastP X hW dX0_crypt_65 h (fun S9 H locs h hW => ?_)
  refine lv_iinc (v := (v5 + 1)) (lv' := [(5, .int (v5 + 1)), (0, .ref (G.2.2 0 0)), (1, .ref (G.2.2 cv1 v1)), (2, .ref (G.2.2 cv2 v2)), (3, .int v3), (4, .int v4)]) X.1 X.2.1 dX0_crypt_66 hl (k := 5) rfl rfl (by decide) rfl (fun ls hl => ?_)
  refine lv_goto (tgt := 3) X.1 X.2.1 dX0_crypt_69 (by decide) ?_
  exact hk3 (v5 + 1) S9 _ _ _ h hW  (lv_sub hl [1, 2, 3, 4, 5, 0] rfl)
set_option maxRecDepth 100000 in
set_option maxHeartbeats 4000000 in
theorem w_X0_crypt_3 {p : Program} {l : Launch} {e : Env} {s : State} {m : MethodId} {args : Array Value} {below : List Frame} {meth : Method} {c : Code} {G : xG} {sz : Nat} {o : Unit × Mm} (X : xC G false sz p s m args c cX0_crypt 6 wsX0_crypt RX0 meth none) (cv1 : Nat) (v1 : Nat) (cv2 : Nat) (v2 : Nat) (v3 : Int32) (v4 : Int32)   : ∀ (n : Nat) (v5 : Int32) (S : Mm) (H : Heap) (locs : List Loc) (ls : Array Slot), L_X0_crypt_3 cv1 v1 cv2 v2 v3 v4 n v5 S = some o → xW G false sz s H locs S → lv_has ls 6 [(0, .ref (G.2.2 0 0)), (1, .ref (G.2.2 cv1 v1)), (2, .ref (G.2.2 cv2 v2)), (3, .int v3), (4, .int v4), (5, .int v5)] → wX p l e rmX0_crypt s m args below meth c H locs (xQv G false sz o) (XA G false sz) 3 ls [] := by
  intro n
  induction n with
  | zero =>
    intro v5 S H locs ls h
    cases h
  | succ n ih =>
    intro v5 S H locs ls h hW  hl
    rw [L_X0_crypt_3] at h
    refine lv_iload X.1 X.2.1 dX0_crypt_3 (lv_at hl 5 rfl) ?_
    refine lv_iload X.1 X.2.1 dX0_crypt_5 (lv_at hl 4 rfl) ?_
    refine x_icmp_ge X (tgt := 72) dX0_crypt_7 (by decide) h (fun h => ?_) (fun h => ?_)
    · exact x_vret X hW h dX0_crypt_72
    · refine lv_iload X.1 X.2.1 dX0_crypt_10 (lv_at hl 5 rfl) ?_
      refine lv_bipush (v := 16) X.1 X.2.1 dX0_crypt_12 rfl ?_
      refine lv_irem X.1 X.2.1 dX0_crypt_14 (by decide) ?_
      refine x_if_ne X (tgt := 42) dX0_crypt_15 (by decide) h (fun h => ?_) (fun h => ?_)
      · exact w_X0_crypt_42 X cv1 v1 cv2 v2 v3 v4 v5  (L_X0_crypt_3 cv1 v1 cv2 v2 v3 v4 n) ih hW (lv_sub hl [0, 1, 2, 3, 4, 5] rfl) h
      · refine lv_aload_n X.1 X.2.1 dX0_crypt_18 rfl (lv_at hl 0 rfl) ?_
        refine x_getR X hW fd_Ccm_stream (fun w h => List.mem_cons_of_mem _ (gin_X0 w h)) (List.mem_cons_of_mem _ gw90) z_1 dX0_crypt_19 ?_
        refine lv_aload_n X.1 X.2.1 dX0_crypt_22 rfl (lv_at hl 1 rfl) ?_
        refine lv_iconst (v := 1) X.1 X.2.1 dX0_crypt_23 rfl ?_
        refine lv_iload X.1 X.2.1 dX0_crypt_24 (lv_at hl 5 rfl) ?_
        refine lv_bipush (v := 16) X.1 X.2.1 dX0_crypt_26 rfl ?_
        refine lv_idiv X.1 X.2.1 dX0_crypt_28 (by decide) ?_
        refine lv_iconst (v := 1) X.1 X.2.1 dX0_crypt_29 rfl ?_
        refine lv_iadd X.1 X.2.1 dX0_crypt_30 ?_
        obtain ⟨r1, S2, h3, h⟩ := cl_some h
        refine x_aftV X hW (x_runS (As := [.ref (G.2.2 13 0), .ref (G.2.2 cv1 v1), .int 1, .int ((v5 / 16) + 1)]) (rest := []) X hW (c_X0_setFirstBlock l G X.2.2.2.2.2.2.2.2.2.1 _ S 13 0 cv1 v1 1 ((v5 / 16) + 1) _ h3) (va_cwS 4 X.2.2.2.2.1 (gS gw704 gw705 gw36 gw706) rfl rfl rfl hd_X0_setFirstBlock ⟨Nat.le_of_ble_eq_true rfl, Nat.le_of_ble_eq_true rfl⟩) rfl hl.1 rfl (Nat.le_of_ble_eq_true rfl) dX0_crypt_31 ⟨Nat.zero_le _, Nat.zero_le _⟩) (fun H locs hW => ?_)
        refine lv_aload_n X.1 X.2.1 dX0_crypt_34 rfl (lv_at hl 0 rfl) ?_
        refine lv_aload_n X.1 X.2.1 dX0_crypt_35 rfl (lv_at hl 0 rfl) ?_
        refine x_getR X hW fd_Ccm_stream (fun w h => List.mem_cons_of_mem _ (gin_X0 w h)) (List.mem_cons_of_mem _ gw90) z_1 dX0_crypt_36 ?_
        obtain ⟨r4, S5, h6, h⟩ := cl_some h
        refine x_aftV X hW (x_runV (C := RX0) (a := G.2.2 0 0) (As := [.ref (G.2.2 13 0)]) (rest := []) X hW (c_X0_encrypt l G X.2.2.2.2.2.2.2.2.2.1 _ S2 13 0 _ h6) (cwV 1 X.2.2.2.2.1 (gV gw707 gw708 gw709 gw36 gw710) rfl rfl rfl ⟨rfl, hd_X0_encrypt⟩ ⟨Nat.le_of_ble_eq_true rfl, Nat.le_of_ble_eq_true rfl⟩) (x_recv X hW ob_Ccm z_1) rfl hl.1 rfl (Nat.le_of_ble_eq_true rfl) dX0_crypt_39 ⟨Nat.zero_le _, Nat.zero_le _⟩) (fun H locs hW => ?_)
        exact w_X0_crypt_42 X cv1 v1 cv2 v2 v3 v4 v5  (L_X0_crypt_3 cv1 v1 cv2 v2 v3 v4 n) ih hW (lv_sub hl [0, 1, 2, 3, 4, 5] rfl) h
set_option maxRecDepth 100000 in
set_option maxHeartbeats 4000000 in
theorem w_X0_crypt_0 {p : Program} {l : Launch} {e : Env} {s : State} {m : MethodId} {args : Array Value} {below : List Frame} {meth : Method} {c : Code} {G : xG} {sz : Nat} {o : Unit × Mm} (X : xC G false sz p s m args c cX0_crypt 6 wsX0_crypt RX0 meth none) (cv1 : Nat) (v1 : Nat) (cv2 : Nat) (v2 : Nat) (v3 : Int32) (v4 : Int32) {S : Mm} {H : Heap} {locs : List Loc} {ls : Array Slot} (hW : xW G false sz s H locs S) (hl : lv_has ls 6 [(0, .ref (G.2.2 0 0)), (1, .ref (G.2.2 cv1 v1)), (2, .ref (G.2.2 cv2 v2)), (3, .int v3), (4, .int v4)]) (h : F_X0_crypt cv1 v1 cv2 v2 v3 v4 S = some o) : wX p l e rmX0_crypt s m args below meth c H locs (xQv G false sz o) (XA G false sz) 0 ls [] := by
  unfold F_X0_crypt at h
  refine lv_iconst (v := 0) X.1 X.2.1 dX0_crypt_0 rfl ?_
  refine lv_istore (lv' := [(5, .int 0), (0, .ref (G.2.2 0 0)), (1, .ref (G.2.2 cv1 v1)), (2, .ref (G.2.2 cv2 v2)), (3, .int v3), (4, .int v4)]) X.1 X.2.1 dX0_crypt_1 hl (by decide) rfl (fun ls hl => ?_)
  exact w_X0_crypt_3 X cv1 v1 cv2 v2 v3 v4   fu 0 S _ _ _ h hW  (lv_sub hl [1, 2, 3, 4, 5, 0] rfl)
theorem c_X0_crypt (l : Launch) (G : xG) (hD : xD G false) (sz : Nat) (S : Mm) (cv1 : Nat) (v1 : Nat) (cv2 : Nat) (v2 : Nat) (v3 : Int32) (v4 : Int32) (o : Unit × Mm) (h : F_X0_crypt cv1 v1 cv2 v2 v3 v4 S = some o) : Met l yX0_crypt wsX0_crypt rmX0_crypt (xPre G false S sz [.ref (G.2.2 0 0), .ref (G.2.2 cv1 v1), .ref (G.2.2 cv2 v2), .int v3, .int v4]) (xQv G false sz o) 0 0 (XA G false sz) :=
  x_start hD (by decide) rfl (Nat.le_of_ble_eq_true rfl) (fun p e s m below meth c X hW ls hl => w_X0_crypt_0 X cv1 v1 cv2 v2 v3 v4 hW hl h)

/-! WirelessCell$Ccm.seal([II[I)V -/
def rmX0_seal : Room := { frames := 2, cells := 0, slots := 0, locals := 51 }
def L_X0_seal_53  (cv1 : Nat) (v1 : Nat) (v2 : Int32) : Nat → Int32 → Mm → Option (Unit × Mm)
  | 0, _, _ => none
  | n + 1, v4, S => 
    if 8 ≤ v4 then (
    some ((), S))
    else (
    ldA S 12 0 16 1 v4 fun x17 =>
    ldA S 13 0 16 1 v4 fun x18 =>
    stP false S cv1 v1 ((32 + v2) + v4) (x17 ^^^ x18) fun S19 =>
    (L_X0_seal_53 cv1 v1 v2 n) (v4 + 1) S19)
def F_X0_seal (cv1 : Nat) (v1 : Nat) (v2 : Int32) (cv3 : Nat) (v3 : Nat) (S : Mm) : Option (Unit × Mm) :=
  cl (F_X0_expandKey cv3 v3 S) fun r1 S2 =>
  cpP false S2 cv1 v1 32 11 0 0 v2 fun S4 =>
  cl (F_X0_addUp cv1 v1 v2 S4) fun r5 S6 =>
  cl (F_X0_crypt cv1 v1 cv1 v1 32 v2 S6) fun r8 S9 =>
  cl (F_X0_setFirstBlock 13 0 cv1 v1 1 0 S9) fun r11 S12 =>
  cl (F_X0_encrypt 13 0 S12) fun r14 S15 =>
  L_X0_seal_53  cv1 v1 v2 fu 0 S15
set_option maxRecDepth 100000 in
set_option maxHeartbeats 4000000 in
theorem w_X0_seal_53 {p : Program} {l : Launch} {e : Env} {s : State} {m : MethodId} {args : Array Value} {below : List Frame} {meth : Method} {c : Code} {G : xG} {sz : Nat} {o : Unit × Mm} (X : xC G false sz p s m args c cX0_seal 5 wsX0_seal RX0 meth none) (cv1 : Nat) (v1 : Nat) (v2 : Int32)   : ∀ (n : Nat) (v4 : Int32) (S : Mm) (H : Heap) (locs : List Loc) (ls : Array Slot), L_X0_seal_53 cv1 v1 v2 n v4 S = some o → xW G false sz s H locs S → lv_has ls 5 [(0, .ref (G.2.2 0 0)), (1, .ref (G.2.2 cv1 v1)), (2, .int v2), (4, .int v4)] → wX p l e rmX0_seal s m args below meth c H locs (xQv G false sz o) (XA G false sz) 53 ls [] := by
  intro n
  induction n with
  | zero =>
    intro v4 S H locs ls h
    cases h
  | succ n ih =>
    intro v4 S H locs ls h hW  hl
    rw [L_X0_seal_53] at h
    refine lv_iload X.1 X.2.1 dX0_seal_53 (lv_at hl 3 rfl) ?_
    refine lv_bipush (v := 8) X.1 X.2.1 dX0_seal_55 rfl ?_
    refine x_icmp_ge X (tgt := 90) dX0_seal_57 (by decide) h (fun h => ?_) (fun h => ?_)
    · exact x_vret X hW h dX0_seal_90
    · refine lv_aload_n X.1 X.2.1 dX0_seal_60 rfl (lv_at hl 1 rfl) ?_
      refine lv_bipush (v := 32) X.1 X.2.1 dX0_seal_61 rfl ?_
      refine lv_iload_n X.1 X.2.1 dX0_seal_63 rfl (lv_at hl 2 rfl) ?_
      refine lv_iadd X.1 X.2.1 dX0_seal_64 ?_
      refine lv_iload X.1 X.2.1 dX0_seal_65 (lv_at hl 3 rfl) ?_
      refine lv_iadd X.1 X.2.1 dX0_seal_67 ?_
      refine lv_aload_n X.1 X.2.1 dX0_seal_68 rfl (lv_at hl 0 rfl) ?_
      refine x_getR X hW fd_Ccm_mac (fun w h => List.mem_cons_of_mem _ (gin_X0 w h)) (List.mem_cons_of_mem _ gw89) z_1 dX0_seal_69 ?_
      refine lv_iload X.1 X.2.1 dX0_seal_72 (lv_at hl 3 rfl) ?_
      refine x_iald X hW ar_12 dX0_seal_74 h (fun x17 h => ?_)
      refine lv_aload_n X.1 X.2.1 dX0_seal_75 rfl (lv_at hl 0 rfl) ?_
      refine x_getR X hW fd_Ccm_stream (fun w h => List.mem_cons_of_mem _ (gin_X0 w h)) (List.mem_cons_of_mem _ gw90) z_1 dX0_seal_76 ?_
      refine lv_iload X.1 X.2.1 dX0_seal_79 (lv_at hl 3 rfl) ?_
      refine x_iald X hW ar_13 dX0_seal_81 h (fun x18 h => ?_)
      refine lv_ixor X.1 X.2.1 dX0_seal_82 ?_
      refine x_iastP X hW dX0_seal_83 h (fun S19 H locs h hW => ?_)
      refine lv_iinc (v := (v4 + 1)) (lv' := [(4, .int (v4 + 1)), (0, .ref (G.2.2 0 0)), (1, .ref (G.2.2 cv1 v1)), (2, .int v2)]) X.1 X.2.1 dX0_seal_84 hl (k := 3) rfl rfl (by decide) rfl (fun ls hl => ?_)
      refine lv_goto (tgt := 53) X.1 X.2.1 dX0_seal_87 (by decide) ?_
      exact ih (v4 + 1) S19 _ _ _ h hW  (lv_sub hl [1, 2, 3, 0] rfl)
set_option maxRecDepth 100000 in
set_option maxHeartbeats 4000000 in
theorem w_X0_seal_0 {p : Program} {l : Launch} {e : Env} {s : State} {m : MethodId} {args : Array Value} {below : List Frame} {meth : Method} {c : Code} {G : xG} {sz : Nat} {o : Unit × Mm} (X : xC G false sz p s m args c cX0_seal 5 wsX0_seal RX0 meth none) (cv1 : Nat) (v1 : Nat) (v2 : Int32) (cv3 : Nat) (v3 : Nat) {S : Mm} {H : Heap} {locs : List Loc} {ls : Array Slot} (hW : xW G false sz s H locs S) (hl : lv_has ls 5 [(0, .ref (G.2.2 0 0)), (1, .ref (G.2.2 cv1 v1)), (2, .int v2), (3, .ref (G.2.2 cv3 v3))]) (h : F_X0_seal cv1 v1 v2 cv3 v3 S = some o) : wX p l e rmX0_seal s m args below meth c H locs (xQv G false sz o) (XA G false sz) 0 ls [] := by
  unfold F_X0_seal at h
  refine lv_aload_n X.1 X.2.1 dX0_seal_0 rfl (lv_at hl 0 rfl) ?_
  refine lv_aload_n X.1 X.2.1 dX0_seal_1 rfl (lv_at hl 3 rfl) ?_
  obtain ⟨r1, S2, h3, h⟩ := cl_some h
  refine x_aftV X hW (x_runV (C := RX0) (a := G.2.2 0 0) (As := [.ref (G.2.2 cv3 v3)]) (rest := []) X hW (c_X0_expandKey l G X.2.2.2.2.2.2.2.2.2.1 _ S cv3 v3 _ h3) (cwV 1 X.2.2.2.2.1 (gV gw695 gw696 gw697 gw36 gw698) rfl rfl rfl ⟨rfl, hd_X0_expandKey⟩ ⟨Nat.le_of_ble_eq_true rfl, Nat.le_of_ble_eq_true rfl⟩) (x_recv X hW ob_Ccm z_1) rfl hl.1 rfl (Nat.le_of_ble_eq_true rfl) dX0_seal_2 ⟨Nat.zero_le _, Nat.zero_le _⟩) (fun H locs hW => ?_)
  refine lv_aload_n X.1 X.2.1 dX0_seal_5 rfl (lv_at hl 1 rfl) ?_
  refine lv_bipush (v := 32) X.1 X.2.1 dX0_seal_6 rfl ?_
  refine lv_aload_n X.1 X.2.1 dX0_seal_8 rfl (lv_at hl 0 rfl) ?_
  refine x_getR X hW fd_Ccm_plain (fun w h => List.mem_cons_of_mem _ (gin_X0 w h)) (List.mem_cons_of_mem _ gw88) z_1 dX0_seal_9 ?_
  refine lv_iconst (v := 0) X.1 X.2.1 dX0_seal_12 rfl ?_
  refine lv_iload_n X.1 X.2.1 dX0_seal_13 rfl (lv_at hl 2 rfl) ?_
  refine x_acopy X hW hl.1 (List.mem_cons_of_mem _ gw694) (List.mem_cons_of_mem _ gw325) (List.mem_cons_of_mem _ gw326) (List.mem_cons_of_mem _ gw327) (Nat.le_of_ble_eq_true rfl) (Nat.le_of_ble_eq_true rfl) dX0_seal_14 h (fun S4 H locs h hW => ?_)
  refine lv_aload_n X.1 X.2.1 dX0_seal_17 rfl (lv_at hl 0 rfl) ?_
  refine lv_aload_n X.1 X.2.1 dX0_seal_18 rfl (lv_at hl 1 rfl) ?_
  refine lv_iload_n X.1 X.2.1 dX0_seal_19 rfl (lv_at hl 2 rfl) ?_
  obtain ⟨r5, S6, h7, h⟩ := cl_some h
  refine x_aftV X hW (x_runV (C := RX0) (a := G.2.2 0 0) (As := [.ref (G.2.2 cv1 v1), .int v2]) (rest := []) X hW (c_X0_addUp l G X.2.2.2.2.2.2.2.2.2.1 _ S4 cv1 v1 v2 _ h7) (cwV 2 X.2.2.2.2.1 (gV gw700 gw701 gw702 gw36 gw703) rfl rfl rfl ⟨rfl, hd_X0_addUp⟩ ⟨Nat.le_of_ble_eq_true rfl, Nat.le_of_ble_eq_true rfl⟩) (x_recv X hW ob_Ccm z_1) rfl hl.1 rfl (Nat.le_of_ble_eq_true rfl) dX0_seal_20 ⟨Nat.zero_le _, Nat.zero_le _⟩) (fun H locs hW => ?_)
  refine lv_aload_n X.1 X.2.1 dX0_seal_23 rfl (lv_at hl 0 rfl) ?_
  refine lv_aload_n X.1 X.2.1 dX0_seal_24 rfl (lv_at hl 1 rfl) ?_
  refine lv_aload_n X.1 X.2.1 dX0_seal_25 rfl (lv_at hl 1 rfl) ?_
  refine lv_bipush (v := 32) X.1 X.2.1 dX0_seal_26 rfl ?_
  refine lv_iload_n X.1 X.2.1 dX0_seal_28 rfl (lv_at hl 2 rfl) ?_
  obtain ⟨r8, S9, h10, h⟩ := cl_some h
  refine x_aftV X hW (x_runV (C := RX0) (a := G.2.2 0 0) (As := [.ref (G.2.2 cv1 v1), .ref (G.2.2 cv1 v1), .int 32, .int v2]) (rest := []) X hW (c_X0_crypt l G X.2.2.2.2.2.2.2.2.2.1 _ S6 cv1 v1 cv1 v1 32 v2 _ h10) (cwV 4 X.2.2.2.2.1 (gV gw714 gw715 gw716 gw36 gw717) rfl rfl rfl ⟨rfl, hd_X0_crypt⟩ ⟨Nat.le_of_ble_eq_true rfl, Nat.le_of_ble_eq_true rfl⟩) (x_recv X hW ob_Ccm z_1) rfl hl.1 rfl (Nat.le_of_ble_eq_true rfl) dX0_seal_29 ⟨Nat.zero_le _, Nat.zero_le _⟩) (fun H locs hW => ?_)
  refine lv_aload_n X.1 X.2.1 dX0_seal_32 rfl (lv_at hl 0 rfl) ?_
  refine x_getR X hW fd_Ccm_stream (fun w h => List.mem_cons_of_mem _ (gin_X0 w h)) (List.mem_cons_of_mem _ gw90) z_1 dX0_seal_33 ?_
  refine lv_aload_n X.1 X.2.1 dX0_seal_36 rfl (lv_at hl 1 rfl) ?_
  refine lv_iconst (v := 1) X.1 X.2.1 dX0_seal_37 rfl ?_
  refine lv_iconst (v := 0) X.1 X.2.1 dX0_seal_38 rfl ?_
  obtain ⟨r11, S12, h13, h⟩ := cl_some h
  refine x_aftV X hW (x_runS (As := [.ref (G.2.2 13 0), .ref (G.2.2 cv1 v1), .int 1, .int 0]) (rest := []) X hW (c_X0_setFirstBlock l G X.2.2.2.2.2.2.2.2.2.1 _ S9 13 0 cv1 v1 1 0 _ h13) (va_cwS 4 X.2.2.2.2.1 (gS gw704 gw705 gw36 gw706) rfl rfl rfl hd_X0_setFirstBlock ⟨Nat.le_of_ble_eq_true rfl, Nat.le_of_ble_eq_true rfl⟩) rfl hl.1 rfl (Nat.le_of_ble_eq_true rfl) dX0_seal_39 ⟨Nat.zero_le _, Nat.zero_le _⟩) (fun H locs hW => ?_)
  refine lv_aload_n X.1 X.2.1 dX0_seal_42 rfl (lv_at hl 0 rfl) ?_
  refine lv_aload_n X.1 X.2.1 dX0_seal_43 rfl (lv_at hl 0 rfl) ?_
  refine x_getR X hW fd_Ccm_stream (fun w h => List.mem_cons_of_mem _ (gin_X0 w h)) (List.mem_cons_of_mem _ gw90) z_1 dX0_seal_44 ?_
  obtain ⟨r14, S15, h16, h⟩ := cl_some h
  refine x_aftV X hW (x_runV (C := RX0) (a := G.2.2 0 0) (As := [.ref (G.2.2 13 0)]) (rest := []) X hW (c_X0_encrypt l G X.2.2.2.2.2.2.2.2.2.1 _ S12 13 0 _ h16) (cwV 1 X.2.2.2.2.1 (gV gw707 gw708 gw709 gw36 gw710) rfl rfl rfl ⟨rfl, hd_X0_encrypt⟩ ⟨Nat.le_of_ble_eq_true rfl, Nat.le_of_ble_eq_true rfl⟩) (x_recv X hW ob_Ccm z_1) rfl hl.1 rfl (Nat.le_of_ble_eq_true rfl) dX0_seal_47 ⟨Nat.zero_le _, Nat.zero_le _⟩) (fun H locs hW => ?_)
  refine lv_iconst (v := 0) X.1 X.2.1 dX0_seal_50 rfl ?_
  refine lv_istore (lv' := [(4, .int 0), (0, .ref (G.2.2 0 0)), (1, .ref (G.2.2 cv1 v1)), (2, .int v2), (3, .ref (G.2.2 cv3 v3))]) X.1 X.2.1 dX0_seal_51 hl (by decide) rfl (fun ls hl => ?_)
  exact w_X0_seal_53 X cv1 v1 v2   fu 0 S15 _ _ _ h hW  (lv_sub hl [1, 2, 3, 0] rfl)
theorem c_X0_seal (l : Launch) (G : xG) (hD : xD G false) (sz : Nat) (S : Mm) (cv1 : Nat) (v1 : Nat) (v2 : Int32) (cv3 : Nat) (v3 : Nat) (o : Unit × Mm) (h : F_X0_seal cv1 v1 v2 cv3 v3 S = some o) : Met l yX0_seal wsX0_seal rmX0_seal (xPre G false S sz [.ref (G.2.2 0 0), .ref (G.2.2 cv1 v1), .int v2, .ref (G.2.2 cv3 v3)]) (xQv G false sz o) 0 0 (XA G false sz) :=
  x_start hD (by decide) rfl (Nat.le_of_ble_eq_true rfl) (fun p e s m below meth c X hW ls hl => w_X0_seal_0 X cv1 v1 v2 cv3 v3 hW hl h)

/-! WirelessCell$Ccm.open([II[I)Z -/
def rmX0_open : Room := { frames := 2, cells := 0, slots := 0, locals := 51 }
def L_X0_open_46  (cv1 : Nat) (v1 : Nat) (v2 : Int32) : Nat → Int32 → Int32 → Mm → Option (Int32 × Mm)
  | 0, _, _, _ => none
  | n + 1, v4, v5, S => 
    if 8 ≤ v5 then (
    if v4 = 0 then (
    some (1, S))
    else (
    some (0, S)))
    else (
    ldP false S cv1 v1 ((32 + v2) + v5) fun x16 =>
    ldA S 12 0 16 1 v5 fun x17 =>
    ldA S 13 0 16 1 v5 fun x18 =>
    tp (v4 ||| ((x16 ^^^ x17) ^^^ x18)) fun x19 =>
    (L_X0_open_46 cv1 v1 v2 n) x19 (v5 + 1) S)
def F_X0_open (cv1 : Nat) (v1 : Nat) (v2 : Int32) (cv3 : Nat) (v3 : Nat) (S : Mm) : Option (Int32 × Mm) :=
  cl (F_X0_expandKey cv3 v3 S) fun r1 S2 =>
  cl (F_X0_crypt cv1 v1 11 0 0 v2 S2) fun r4 S5 =>
  cl (F_X0_addUp cv1 v1 v2 S5) fun r7 S8 =>
  cl (F_X0_setFirstBlock 13 0 cv1 v1 1 0 S8) fun r10 S11 =>
  cl (F_X0_encrypt 13 0 S11) fun r13 S14 =>
  L_X0_open_46  cv1 v1 v2 fu 0 0 S14
set_option maxRecDepth 100000 in
set_option maxHeartbeats 4000000 in
theorem w_X0_open_46 {p : Program} {l : Launch} {e : Env} {s : State} {m : MethodId} {args : Array Value} {below : List Frame} {meth : Method} {c : Code} {G : xG} {sz : Nat} {o : Int32 × Mm} (X : xC G false sz p s m args c cX0_open 6 wsX0_open RX0 meth (some .boolean)) (cv1 : Nat) (v1 : Nat) (v2 : Int32)   : ∀ (n : Nat) (v4 : Int32) (v5 : Int32) (S : Mm) (H : Heap) (locs : List Loc) (ls : Array Slot), L_X0_open_46 cv1 v1 v2 n v4 v5 S = some o → xW G false sz s H locs S → lv_has ls 6 [(0, .ref (G.2.2 0 0)), (1, .ref (G.2.2 cv1 v1)), (2, .int v2), (4, .int v4), (5, .int v5)] → wX p l e rmX0_open s m args below meth c H locs (xQi G false sz o) (XA G false sz) 46 ls [] := by
  intro n
  induction n with
  | zero =>
    intro v4 v5 S H locs ls h
    cases h
  | succ n ih =>
    intro v4 v5 S H locs ls h hW  hl
    rw [L_X0_open_46] at h
    refine lv_iload X.1 X.2.1 dX0_open_46 (lv_at hl 4 rfl) ?_
    refine lv_bipush (v := 8) X.1 X.2.1 dX0_open_48 rfl ?_
    refine x_icmp_ge X (tgt := 89) dX0_open_50 (by decide) h (fun h => ?_) (fun h => ?_)
    · refine lv_iload X.1 X.2.1 dX0_open_89 (lv_at hl 3 rfl) ?_
      refine x_if_ne X (tgt := 98) dX0_open_91 (by decide) h (fun h => ?_) (fun h => ?_)
      · refine lv_iconst (v := 0) X.1 X.2.1 dX0_open_98 rfl ?_
        exact x_zret X hW h rfl dX0_open_99
      · refine lv_iconst (v := 1) X.1 X.2.1 dX0_open_94 rfl ?_
        refine lv_goto (tgt := 99) X.1 X.2.1 dX0_open_95 (by decide) ?_
        exact x_zret X hW h rfl dX0_open_99
    · refine lv_iload X.1 X.2.1 dX0_open_53 (lv_at hl 3 rfl) ?_
      refine lv_aload_n X.1 X.2.1 dX0_open_55 rfl (lv_at hl 1 rfl) ?_
      refine lv_bipush (v := 32) X.1 X.2.1 dX0_open_56 rfl ?_
      refine lv_iload_n X.1 X.2.1 dX0_open_58 rfl (lv_at hl 2 rfl) ?_
      refine lv_iadd X.1 X.2.1 dX0_open_59 ?_
      refine lv_iload X.1 X.2.1 dX0_open_60 (lv_at hl 4 rfl) ?_
      refine lv_iadd X.1 X.2.1 dX0_open_62 ?_
      refine x_ialdP X hW dX0_open_63 h (fun x16 h => ?_)
      refine lv_aload_n X.1 X.2.1 dX0_open_64 rfl (lv_at hl 0 rfl) ?_
      refine x_getR X hW fd_Ccm_mac (fun w h => List.mem_cons_of_mem _ (gin_X0 w h)) (List.mem_cons_of_mem _ gw89) z_1 dX0_open_65 ?_
      refine lv_iload X.1 X.2.1 dX0_open_68 (lv_at hl 4 rfl) ?_
      refine x_iald X hW ar_12 dX0_open_70 h (fun x17 h => ?_)
      refine lv_ixor X.1 X.2.1 dX0_open_71 ?_
      refine lv_aload_n X.1 X.2.1 dX0_open_72 rfl (lv_at hl 0 rfl) ?_
      refine x_getR X hW fd_Ccm_stream (fun w h => List.mem_cons_of_mem _ (gin_X0 w h)) (List.mem_cons_of_mem _ gw90) z_1 dX0_open_73 ?_
      refine lv_iload X.1 X.2.1 dX0_open_76 (lv_at hl 4 rfl) ?_
      refine x_iald X hW ar_13 dX0_open_78 h (fun x18 h => ?_)
      refine lv_ixor X.1 X.2.1 dX0_open_79 ?_
      refine lv_ior X.1 X.2.1 dX0_open_80 ?_
      refine x_top h (fun x19 h => ?_)
      refine lv_istore (lv' := [(4, .int x19), (0, .ref (G.2.2 0 0)), (1, .ref (G.2.2 cv1 v1)), (2, .int v2), (5, .int v5)]) X.1 X.2.1 dX0_open_81 hl (by decide) rfl (fun ls hl => ?_)
      refine lv_iinc (v := (v5 + 1)) (lv' := [(5, .int (v5 + 1)), (4, .int x19), (0, .ref (G.2.2 0 0)), (1, .ref (G.2.2 cv1 v1)), (2, .int v2)]) X.1 X.2.1 dX0_open_83 hl (k := 4) rfl rfl (by decide) rfl (fun ls hl => ?_)
      refine lv_goto (tgt := 46) X.1 X.2.1 dX0_open_86 (by decide) ?_
      exact ih x19 (v5 + 1) S _ _ _ h hW  (lv_sub hl [2, 3, 4, 1, 0] rfl)
set_option maxRecDepth 100000 in
set_option maxHeartbeats 4000000 in
theorem w_X0_open_0 {p : Program} {l : Launch} {e : Env} {s : State} {m : MethodId} {args : Array Value} {below : List Frame} {meth : Method} {c : Code} {G : xG} {sz : Nat} {o : Int32 × Mm} (X : xC G false sz p s m args c cX0_open 6 wsX0_open RX0 meth (some .boolean)) (cv1 : Nat) (v1 : Nat) (v2 : Int32) (cv3 : Nat) (v3 : Nat) {S : Mm} {H : Heap} {locs : List Loc} {ls : Array Slot} (hW : xW G false sz s H locs S) (hl : lv_has ls 6 [(0, .ref (G.2.2 0 0)), (1, .ref (G.2.2 cv1 v1)), (2, .int v2), (3, .ref (G.2.2 cv3 v3))]) (h : F_X0_open cv1 v1 v2 cv3 v3 S = some o) : wX p l e rmX0_open s m args below meth c H locs (xQi G false sz o) (XA G false sz) 0 ls [] := by
  unfold F_X0_open at h
  refine lv_aload_n X.1 X.2.1 dX0_open_0 rfl (lv_at hl 0 rfl) ?_
  refine lv_aload_n X.1 X.2.1 dX0_open_1 rfl (lv_at hl 3 rfl) ?_
  obtain ⟨r1, S2, h3, h⟩ := cl_some h
  refine x_aftV X hW (x_runV (C := RX0) (a := G.2.2 0 0) (As := [.ref (G.2.2 cv3 v3)]) (rest := []) X hW (c_X0_expandKey l G X.2.2.2.2.2.2.2.2.2.1 _ S cv3 v3 _ h3) (cwV 1 X.2.2.2.2.1 (gV gw695 gw696 gw697 gw36 gw698) rfl rfl rfl ⟨rfl, hd_X0_expandKey⟩ ⟨Nat.le_of_ble_eq_true rfl, Nat.le_of_ble_eq_true rfl⟩) (x_recv X hW ob_Ccm z_1) rfl hl.1 rfl (Nat.le_of_ble_eq_true rfl) dX0_open_2 ⟨Nat.zero_le _, Nat.zero_le _⟩) (fun H locs hW => ?_)
  refine lv_aload_n X.1 X.2.1 dX0_open_5 rfl (lv_at hl 0 rfl) ?_
  refine lv_aload_n X.1 X.2.1 dX0_open_6 rfl (lv_at hl 1 rfl) ?_
  refine lv_aload_n X.1 X.2.1 dX0_open_7 rfl (lv_at hl 0 rfl) ?_
  refine x_getR X hW fd_Ccm_plain (fun w h => List.mem_cons_of_mem _ (gin_X0 w h)) (List.mem_cons_of_mem _ gw88) z_1 dX0_open_8 ?_
  refine lv_iconst (v := 0) X.1 X.2.1 dX0_open_11 rfl ?_
  refine lv_iload_n X.1 X.2.1 dX0_open_12 rfl (lv_at hl 2 rfl) ?_
  obtain ⟨r4, S5, h6, h⟩ := cl_some h
  refine x_aftV X hW (x_runV (C := RX0) (a := G.2.2 0 0) (As := [.ref (G.2.2 cv1 v1), .ref (G.2.2 11 0), .int 0, .int v2]) (rest := []) X hW (c_X0_crypt l G X.2.2.2.2.2.2.2.2.2.1 _ S2 cv1 v1 11 0 0 v2 _ h6) (cwV 4 X.2.2.2.2.1 (gV gw714 gw715 gw716 gw36 gw717) rfl rfl rfl ⟨rfl, hd_X0_crypt⟩ ⟨Nat.le_of_ble_eq_true rfl, Nat.le_of_ble_eq_true rfl⟩) (x_recv X hW ob_Ccm z_1) rfl hl.1 rfl (Nat.le_of_ble_eq_true rfl) dX0_open_13 ⟨Nat.zero_le _, Nat.zero_le _⟩) (fun H locs hW => ?_)
  refine lv_aload_n X.1 X.2.1 dX0_open_16 rfl (lv_at hl 0 rfl) ?_
  refine lv_aload_n X.1 X.2.1 dX0_open_17 rfl (lv_at hl 1 rfl) ?_
  refine lv_iload_n X.1 X.2.1 dX0_open_18 rfl (lv_at hl 2 rfl) ?_
  obtain ⟨r7, S8, h9, h⟩ := cl_some h
  refine x_aftV X hW (x_runV (C := RX0) (a := G.2.2 0 0) (As := [.ref (G.2.2 cv1 v1), .int v2]) (rest := []) X hW (c_X0_addUp l G X.2.2.2.2.2.2.2.2.2.1 _ S5 cv1 v1 v2 _ h9) (cwV 2 X.2.2.2.2.1 (gV gw700 gw701 gw702 gw36 gw703) rfl rfl rfl ⟨rfl, hd_X0_addUp⟩ ⟨Nat.le_of_ble_eq_true rfl, Nat.le_of_ble_eq_true rfl⟩) (x_recv X hW ob_Ccm z_1) rfl hl.1 rfl (Nat.le_of_ble_eq_true rfl) dX0_open_19 ⟨Nat.zero_le _, Nat.zero_le _⟩) (fun H locs hW => ?_)
  refine lv_aload_n X.1 X.2.1 dX0_open_22 rfl (lv_at hl 0 rfl) ?_
  refine x_getR X hW fd_Ccm_stream (fun w h => List.mem_cons_of_mem _ (gin_X0 w h)) (List.mem_cons_of_mem _ gw90) z_1 dX0_open_23 ?_
  refine lv_aload_n X.1 X.2.1 dX0_open_26 rfl (lv_at hl 1 rfl) ?_
  refine lv_iconst (v := 1) X.1 X.2.1 dX0_open_27 rfl ?_
  refine lv_iconst (v := 0) X.1 X.2.1 dX0_open_28 rfl ?_
  obtain ⟨r10, S11, h12, h⟩ := cl_some h
  refine x_aftV X hW (x_runS (As := [.ref (G.2.2 13 0), .ref (G.2.2 cv1 v1), .int 1, .int 0]) (rest := []) X hW (c_X0_setFirstBlock l G X.2.2.2.2.2.2.2.2.2.1 _ S8 13 0 cv1 v1 1 0 _ h12) (va_cwS 4 X.2.2.2.2.1 (gS gw704 gw705 gw36 gw706) rfl rfl rfl hd_X0_setFirstBlock ⟨Nat.le_of_ble_eq_true rfl, Nat.le_of_ble_eq_true rfl⟩) rfl hl.1 rfl (Nat.le_of_ble_eq_true rfl) dX0_open_29 ⟨Nat.zero_le _, Nat.zero_le _⟩) (fun H locs hW => ?_)
  refine lv_aload_n X.1 X.2.1 dX0_open_32 rfl (lv_at hl 0 rfl) ?_
  refine lv_aload_n X.1 X.2.1 dX0_open_33 rfl (lv_at hl 0 rfl) ?_
  refine x_getR X hW fd_Ccm_stream (fun w h => List.mem_cons_of_mem _ (gin_X0 w h)) (List.mem_cons_of_mem _ gw90) z_1 dX0_open_34 ?_
  obtain ⟨r13, S14, h15, h⟩ := cl_some h
  refine x_aftV X hW (x_runV (C := RX0) (a := G.2.2 0 0) (As := [.ref (G.2.2 13 0)]) (rest := []) X hW (c_X0_encrypt l G X.2.2.2.2.2.2.2.2.2.1 _ S11 13 0 _ h15) (cwV 1 X.2.2.2.2.1 (gV gw707 gw708 gw709 gw36 gw710) rfl rfl rfl ⟨rfl, hd_X0_encrypt⟩ ⟨Nat.le_of_ble_eq_true rfl, Nat.le_of_ble_eq_true rfl⟩) (x_recv X hW ob_Ccm z_1) rfl hl.1 rfl (Nat.le_of_ble_eq_true rfl) dX0_open_37 ⟨Nat.zero_le _, Nat.zero_le _⟩) (fun H locs hW => ?_)
  refine lv_iconst (v := 0) X.1 X.2.1 dX0_open_40 rfl ?_
  refine lv_istore (lv' := [(4, .int 0), (0, .ref (G.2.2 0 0)), (1, .ref (G.2.2 cv1 v1)), (2, .int v2), (3, .ref (G.2.2 cv3 v3))]) X.1 X.2.1 dX0_open_41 hl (by decide) rfl (fun ls hl => ?_)
  refine lv_iconst (v := 0) X.1 X.2.1 dX0_open_43 rfl ?_
  refine lv_istore (lv' := [(5, .int 0), (4, .int 0), (0, .ref (G.2.2 0 0)), (1, .ref (G.2.2 cv1 v1)), (2, .int v2), (3, .ref (G.2.2 cv3 v3))]) X.1 X.2.1 dX0_open_44 hl (by decide) rfl (fun ls hl => ?_)
  exact w_X0_open_46 X cv1 v1 v2   fu 0 0 S14 _ _ _ h hW  (lv_sub hl [2, 3, 4, 1, 0] rfl)
theorem c_X0_open (l : Launch) (G : xG) (hD : xD G false) (sz : Nat) (S : Mm) (cv1 : Nat) (v1 : Nat) (v2 : Int32) (cv3 : Nat) (v3 : Nat) (o : Int32 × Mm) (h : F_X0_open cv1 v1 v2 cv3 v3 S = some o) : Met l yX0_open wsX0_open rmX0_open (xPre G false S sz [.ref (G.2.2 0 0), .ref (G.2.2 cv1 v1), .int v2, .ref (G.2.2 cv3 v3)]) (xQi G false sz o) 0 0 (XA G false sz) :=
  x_start hD (by decide) rfl (Nat.le_of_ble_eq_true rfl) (fun p e s m below meth c X hW ls hl => w_X0_open_0 X cv1 v1 v2 cv3 v3 hW hl h)

/-! WirelessCell$Draws.addLast(I)Z -/
def rmX1_addLast : Room := { frames := 0, cells := 0, slots := 0, locals := 0 }
def F_X1_addLast (v1 : Int32) (S : Mm) : Option (Int32 × Mm) :=
  gf S 60 0 fun x1 =>
  if x1 < 200 then (
  gf S 59 0 fun x2 =>
  gf S 60 0 fun x3 =>
  stA S 16 0 200 1 ((x2 + x3) - (x2 + x3) / 200 * 200) v1 fun S4 =>
  gf S4 60 0 fun x5 =>
  pf S4 60 0 (x5 + 1) fun S6 =>
  some (1, S6))
  else (
  some (0, S))
set_option maxRecDepth 100000 in
set_option maxHeartbeats 4000000 in
theorem w_X1_addLast_0 {p : Program} {l : Launch} {e : Env} {s : State} {m : MethodId} {args : Array Value} {below : List Frame} {meth : Method} {c : Code} {G : xG} {sz : Nat} {o : Int32 × Mm} (X : xC G false sz p s m args c cX1_addLast 2 wsX1_addLast RX1 meth (some .boolean)) (v1 : Int32) {S : Mm} {H : Heap} {locs : List Loc} {ls : Array Slot} (hW : xW G false sz s H locs S) (hl : lv_has ls 2 [(0, .ref (G.2.2 1 0)), (1, .int v1)]) (h : F_X1_addLast v1 S = some o) : wX p l e rmX1_addLast s m args below meth c H locs (xQi G false sz o) (XA G false sz) 0 ls [] := by
  unfold F_X1_addLast at h
  refine lv_aload_n X.1 X.2.1 dX1_addLast_0 rfl (lv_at hl 0 rfl) ?_
  refine x_getI X hW fd_Draws_left (fun w h => List.mem_cons_of_mem _ (gin_X1 w h)) (List.mem_cons_of_mem _ gw426) z_1 dX1_addLast_1 h (fun x1 h => ?_)
  refine lv_sipush (v := 200) X.1 X.2.1 dX1_addLast_4 rfl ?_
  refine x_icmp_lt X (tgt := 12) dX1_addLast_7 (by decide) h (fun h => ?_) (fun h => ?_)
  · refine lv_aload_n X.1 X.2.1 dX1_addLast_12 rfl (lv_at hl 0 rfl) ?_
    refine x_getR X hW fd_Draws_values (fun w h => List.mem_cons_of_mem _ (gin_X1 w h)) (List.mem_cons_of_mem _ gw75) z_1 dX1_addLast_13 ?_
    refine lv_aload_n X.1 X.2.1 dX1_addLast_16 rfl (lv_at hl 0 rfl) ?_
    refine x_getI X hW fd_Draws_first (fun w h => List.mem_cons_of_mem _ (gin_X1 w h)) (List.mem_cons_of_mem _ gw427) z_1 dX1_addLast_17 h (fun x2 h => ?_)
    refine lv_aload_n X.1 X.2.1 dX1_addLast_20 rfl (lv_at hl 0 rfl) ?_
    refine x_getI X hW fd_Draws_left (fun w h => List.mem_cons_of_mem _ (gin_X1 w h)) (List.mem_cons_of_mem _ gw426) z_1 dX1_addLast_21 h (fun x3 h => ?_)
    refine lv_iadd X.1 X.2.1 dX1_addLast_24 ?_
    refine lv_sipush (v := 200) X.1 X.2.1 dX1_addLast_25 rfl ?_
    refine lv_irem X.1 X.2.1 dX1_addLast_28 (by decide) ?_
    refine lv_iload_n X.1 X.2.1 dX1_addLast_29 rfl (lv_at hl 1 rfl) ?_
    refine x_iast X hW ar_16 dX1_addLast_30 h (fun S4 H locs h hW => ?_)
    refine lv_aload_n X.1 X.2.1 dX1_addLast_31 rfl (lv_at hl 0 rfl) ?_
    refine lv_dup X.1 X.2.1 dX1_addLast_32 rfl ?_
    refine x_getI X hW fd_Draws_left (fun w h => List.mem_cons_of_mem _ (gin_X1 w h)) (List.mem_cons_of_mem _ gw426) z_1 dX1_addLast_33 h (fun x5 h => ?_)
    refine lv_iconst (v := 1) X.1 X.2.1 dX1_addLast_36 rfl ?_
    refine lv_iadd X.1 X.2.1 dX1_addLast_37 ?_
    refine x_putI X hW fd_Draws_left (fun w h => List.mem_cons_of_mem _ (gin_X1 w h)) (List.mem_cons_of_mem _ gw426) z_1 dX1_addLast_38 tyX1 tyX1_ok nmX1 rfl rfl rfl h (fun S6 H locs h hW => ?_)
    refine lv_iconst (v := 1) X.1 X.2.1 dX1_addLast_41 rfl ?_
    exact x_zret X hW h rfl dX1_addLast_42
  · refine lv_iconst (v := 0) X.1 X.2.1 dX1_addLast_10 rfl ?_
    exact x_zret X hW h rfl dX1_addLast_11
theorem c_X1_addLast (l : Launch) (G : xG) (hD : xD G false) (sz : Nat) (S : Mm) (v1 : Int32) (o : Int32 × Mm) (h : F_X1_addLast v1 S = some o) : Met l yX1_addLast wsX1_addLast rmX1_addLast (xPre G false S sz [.ref (G.2.2 1 0), .int v1]) (xQi G false sz o) 0 0 (XA G false sz) :=
  x_start hD (by decide) rfl (Nat.le_of_ble_eq_true rfl) (fun p e s m below meth c X hW ls hl => w_X1_addLast_0 X v1 hW hl h)

/-! WirelessCell$Draws.takeFirst()I -/
def rmX1_takeFirst : Room := { frames := 0, cells := 0, slots := 0, locals := 0 }
def F_X1_takeFirst  (S : Mm) : Option (Int32 × Mm) :=
  gf S 60 0 fun x1 =>
  if x1 = 0 then (
  some (0, S))
  else (
  gf S 59 0 fun x2 =>
  ldA S 16 0 200 1 x2 fun x3 =>
  gf S 59 0 fun x4 =>
  pf S 59 0 ((x4 + 1) - (x4 + 1) / 200 * 200) fun S5 =>
  gf S5 60 0 fun x6 =>
  pf S5 60 0 (x6 - 1) fun S7 =>
  some (x3, S7))
set_option maxRecDepth 100000 in
set_option maxHeartbeats 4000000 in
theorem w_X1_takeFirst_0 {p : Program} {l : Launch} {e : Env} {s : State} {m : MethodId} {args : Array Value} {below : List Frame} {meth : Method} {c : Code} {G : xG} {sz : Nat} {o : Int32 × Mm} (X : xC G false sz p s m args c cX1_takeFirst 2 wsX1_takeFirst RX1 meth (some .int))  {S : Mm} {H : Heap} {locs : List Loc} {ls : Array Slot} (hW : xW G false sz s H locs S) (hl : lv_has ls 2 [(0, .ref (G.2.2 1 0))]) (h : F_X1_takeFirst  S = some o) : wX p l e rmX1_takeFirst s m args below meth c H locs (xQi G false sz o) (XA G false sz) 0 ls [] := by
  unfold F_X1_takeFirst at h
  refine lv_aload_n X.1 X.2.1 dX1_takeFirst_0 rfl (lv_at hl 0 rfl) ?_
  refine x_getI X hW fd_Draws_left (fun w h => List.mem_cons_of_mem _ (gin_X1 w h)) (List.mem_cons_of_mem _ gw426) z_1 dX1_takeFirst_1 h (fun x1 h => ?_)
  refine x_if_ne X (tgt := 9) dX1_takeFirst_4 (by decide) h (fun h => ?_) (fun h => ?_)
  · refine lv_aload_n X.1 X.2.1 dX1_takeFirst_9 rfl (lv_at hl 0 rfl) ?_
    refine x_getR X hW fd_Draws_values (fun w h => List.mem_cons_of_mem _ (gin_X1 w h)) (List.mem_cons_of_mem _ gw75) z_1 dX1_takeFirst_10 ?_
    refine lv_aload_n X.1 X.2.1 dX1_takeFirst_13 rfl (lv_at hl 0 rfl) ?_
    refine x_getI X hW fd_Draws_first (fun w h => List.mem_cons_of_mem _ (gin_X1 w h)) (List.mem_cons_of_mem _ gw427) z_1 dX1_takeFirst_14 h (fun x2 h => ?_)
    refine x_iald X hW ar_16 dX1_takeFirst_17 h (fun x3 h => ?_)
    refine lv_istore_n (lv' := [(1, .int x3), (0, .ref (G.2.2 1 0))]) X.1 X.2.1 dX1_takeFirst_18 rfl hl (by decide) rfl (fun ls hl => ?_)
    refine lv_aload_n X.1 X.2.1 dX1_takeFirst_19 rfl (lv_at hl 1 rfl) ?_
    refine lv_aload_n X.1 X.2.1 dX1_takeFirst_20 rfl (lv_at hl 1 rfl) ?_
    refine x_getI X hW fd_Draws_first (fun w h => List.mem_cons_of_mem _ (gin_X1 w h)) (List.mem_cons_of_mem _ gw427) z_1 dX1_takeFirst_21 h (fun x4 h => ?_)
    refine lv_iconst (v := 1) X.1 X.2.1 dX1_takeFirst_24 rfl ?_
    refine lv_iadd X.1 X.2.1 dX1_takeFirst_25 ?_
    refine lv_sipush (v := 200) X.1 X.2.1 dX1_takeFirst_26 rfl ?_
    refine lv_irem X.1 X.2.1 dX1_takeFirst_29 (by decide) ?_
    refine x_putI X hW fd_Draws_first (fun w h => List.mem_cons_of_mem _ (gin_X1 w h)) (List.mem_cons_of_mem _ gw427) z_1 dX1_takeFirst_30 tyX1 tyX1_ok nmX1 rfl rfl rfl h (fun S5 H locs h hW => ?_)
    refine lv_aload_n X.1 X.2.1 dX1_takeFirst_33 rfl (lv_at hl 1 rfl) ?_
    refine lv_dup X.1 X.2.1 dX1_takeFirst_34 rfl ?_
    refine x_getI X hW fd_Draws_left (fun w h => List.mem_cons_of_mem _ (gin_X1 w h)) (List.mem_cons_of_mem _ gw426) z_1 dX1_takeFirst_35 h (fun x6 h => ?_)
    refine lv_iconst (v := 1) X.1 X.2.1 dX1_takeFirst_38 rfl ?_
    refine lv_isub X.1 X.2.1 dX1_takeFirst_39 ?_
    refine x_putI X hW fd_Draws_left (fun w h => List.mem_cons_of_mem _ (gin_X1 w h)) (List.mem_cons_of_mem _ gw426) z_1 dX1_takeFirst_40 tyX1 tyX1_ok nmX1 rfl rfl rfl h (fun S7 H locs h hW => ?_)
    refine lv_iload_n X.1 X.2.1 dX1_takeFirst_43 rfl (lv_at hl 0 rfl) ?_
    exact x_iret X hW h dX1_takeFirst_44
  · refine lv_iconst (v := 0) X.1 X.2.1 dX1_takeFirst_7 rfl ?_
    exact x_iret X hW h dX1_takeFirst_8
theorem c_X1_takeFirst (l : Launch) (G : xG) (hD : xD G false) (sz : Nat) (S : Mm)  (o : Int32 × Mm) (h : F_X1_takeFirst  S = some o) : Met l yX1_takeFirst wsX1_takeFirst rmX1_takeFirst (xPre G false S sz [.ref (G.2.2 1 0)]) (xQi G false sz o) 0 0 (XA G false sz) :=
  x_start hD (by decide) rfl (Nat.le_of_ble_eq_true rfl) (fun p e s m below meth c X hW ls hl => w_X1_takeFirst_0 X  hW hl h)

/-! WirelessCell$Frames.writeHighestFirst([IIIJ)V -/
def rmX2_writeHighestFirst : Room := { frames := 0, cells := 0, slots := 0, locals := 0 }
def L_X2_writeHighestFirst_3  (cv0 : Nat) (v0 : Nat) (v1 : Int32) (v2 : Int32) (v3 : Int64) : Nat → Int32 → Mm → Option (Unit × Mm)
  | 0, _, _ => none
  | n + 1, v5, S => 
    if v2 ≤ v5 then (
    some ((), S))
    else (
    stP false S cv0 v0 (v1 + v5) ((Int64.toInt32 (v3 >>> (Int32.toInt64 (8 * ((v2 - 1) - v5)) &&& 63))) &&& 255) fun S1 =>
    (L_X2_writeHighestFirst_3 cv0 v0 v1 v2 v3 n) (v5 + 1) S1)
def F_X2_writeHighestFirst (cv0 : Nat) (v0 : Nat) (v1 : Int32) (v2 : Int32) (v3 : Int64) (S : Mm) : Option (Unit × Mm) :=
  L_X2_writeHighestFirst_3  cv0 v0 v1 v2 v3 fu 0 S
set_option maxRecDepth 100000 in
set_option maxHeartbeats 4000000 in
theorem w_X2_writeHighestFirst_3 {p : Program} {l : Launch} {e : Env} {s : State} {m : MethodId} {args : Array Value} {below : List Frame} {meth : Method} {c : Code} {G : xG} {sz : Nat} {o : Unit × Mm} (X : xC G false sz p s m args c cX2_writeHighestFirst 6 wsX2_writeHighestFirst RX2 meth none) (cv0 : Nat) (v0 : Nat) (v1 : Int32) (v2 : Int32) (v3 : Int64)   : ∀ (n : Nat) (v5 : Int32) (S : Mm) (H : Heap) (locs : List Loc) (ls : Array Slot), L_X2_writeHighestFirst_3 cv0 v0 v1 v2 v3 n v5 S = some o → xW G false sz s H locs S → lv_has ls 6 [(0, .ref (G.2.2 cv0 v0)), (1, .int v1), (2, .int v2), (3, .long v3), (5, .int v5)] → wX p l e rmX2_writeHighestFirst s m args below meth c H locs (xQv G false sz o) (XA G false sz) 3 ls [] := by
  intro n
  induction n with
  | zero =>
    intro v5 S H locs ls h
    cases h
  | succ n ih =>
    intro v5 S H locs ls h hW  hl
    rw [L_X2_writeHighestFirst_3] at h
    refine lv_iload X.1 X.2.1 dX2_writeHighestFirst_3 (lv_at hl 4 rfl) ?_
    refine lv_iload_n X.1 X.2.1 dX2_writeHighestFirst_5 rfl (lv_at hl 2 rfl) ?_
    refine x_icmp_ge X (tgt := 37) dX2_writeHighestFirst_6 (by decide) h (fun h => ?_) (fun h => ?_)
    · exact x_vret X hW h dX2_writeHighestFirst_37
    · refine lv_aload_n X.1 X.2.1 dX2_writeHighestFirst_9 rfl (lv_at hl 0 rfl) ?_
      refine lv_iload_n X.1 X.2.1 dX2_writeHighestFirst_10 rfl (lv_at hl 1 rfl) ?_
      refine lv_iload X.1 X.2.1 dX2_writeHighestFirst_11 (lv_at hl 4 rfl) ?_
      refine lv_iadd X.1 X.2.1 dX2_writeHighestFirst_13 ?_
      refine lv_lload_n X.1 X.2.1 dX2_writeHighestFirst_14 rfl (lv_at hl 3 rfl) ?_
      refine lv_bipush (v := 8) X.1 X.2.1 dX2_writeHighestFirst_15 rfl ?_
      refine lv_iload_n X.1 X.2.1 dX2_writeHighestFirst_17 rfl (lv_at hl 2 rfl) ?_
      refine lv_iconst (v := 1) X.1 X.2.1 dX2_writeHighestFirst_18 rfl ?_
      refine lv_isub X.1 X.2.1 dX2_writeHighestFirst_19 ?_
      refine lv_iload X.1 X.2.1 dX2_writeHighestFirst_20 (lv_at hl 4 rfl) ?_
      refine lv_isub X.1 X.2.1 dX2_writeHighestFirst_22 ?_
      refine lv_imul X.1 X.2.1 dX2_writeHighestFirst_23 ?_
      refine lv_lshr (v := (v3 >>> (Int32.toInt64 (8 * ((v2 - 1) - v5)) &&& 63))) X.1 X.2.1 dX2_writeHighestFirst_24 rfl ?_
      refine lv_l2i (v := (Int64.toInt32 (v3 >>> (Int32.toInt64 (8 * ((v2 - 1) - v5)) &&& 63)))) X.1 X.2.1 dX2_writeHighestFirst_25 rfl ?_
      refine lv_sipush (v := 255) X.1 X.2.1 dX2_writeHighestFirst_26 rfl ?_
      refine lv_iand X.1 X.2.1 dX2_writeHighestFirst_29 ?_
      refine x_iastP X hW dX2_writeHighestFirst_30 h (fun S1 H locs h hW => ?_)
      refine lv_iinc (v := (v5 + 1)) (lv' := [(5, .int (v5 + 1)), (0, .ref (G.2.2 cv0 v0)), (1, .int v1), (2, .int v2), (3, .long v3)]) X.1 X.2.1 dX2_writeHighestFirst_31 hl (k := 4) rfl rfl (by decide) rfl (fun ls hl => ?_)
      refine lv_goto (tgt := 3) X.1 X.2.1 dX2_writeHighestFirst_34 (by decide) ?_
      exact ih (v5 + 1) S1 _ _ _ h hW  (lv_sub hl [1, 2, 3, 4, 0] rfl)
set_option maxRecDepth 100000 in
set_option maxHeartbeats 4000000 in
theorem w_X2_writeHighestFirst_0 {p : Program} {l : Launch} {e : Env} {s : State} {m : MethodId} {args : Array Value} {below : List Frame} {meth : Method} {c : Code} {G : xG} {sz : Nat} {o : Unit × Mm} (X : xC G false sz p s m args c cX2_writeHighestFirst 6 wsX2_writeHighestFirst RX2 meth none) (cv0 : Nat) (v0 : Nat) (v1 : Int32) (v2 : Int32) (v3 : Int64) {S : Mm} {H : Heap} {locs : List Loc} {ls : Array Slot} (hW : xW G false sz s H locs S) (hl : lv_has ls 6 [(0, .ref (G.2.2 cv0 v0)), (1, .int v1), (2, .int v2), (3, .long v3)]) (h : F_X2_writeHighestFirst cv0 v0 v1 v2 v3 S = some o) : wX p l e rmX2_writeHighestFirst s m args below meth c H locs (xQv G false sz o) (XA G false sz) 0 ls [] := by
  unfold F_X2_writeHighestFirst at h
  refine lv_iconst (v := 0) X.1 X.2.1 dX2_writeHighestFirst_0 rfl ?_
  refine lv_istore (lv' := [(5, .int 0), (0, .ref (G.2.2 cv0 v0)), (1, .int v1), (2, .int v2), (3, .long v3)]) X.1 X.2.1 dX2_writeHighestFirst_1 hl (by decide) rfl (fun ls hl => ?_)
  exact w_X2_writeHighestFirst_3 X cv0 v0 v1 v2 v3   fu 0 S _ _ _ h hW  (lv_sub hl [1, 2, 3, 4, 0] rfl)
theorem c_X2_writeHighestFirst (l : Launch) (G : xG) (hD : xD G false) (sz : Nat) (S : Mm) (cv0 : Nat) (v0 : Nat) (v1 : Int32) (v2 : Int32) (v3 : Int64) (o : Unit × Mm) (h : F_X2_writeHighestFirst cv0 v0 v1 v2 v3 S = some o) : Met l yX2_writeHighestFirst wsX2_writeHighestFirst rmX2_writeHighestFirst (xPre G false S sz [.ref (G.2.2 cv0 v0), .int v1, .int v2, .long v3]) (xQv G false sz o) 0 0 (XA G false sz) :=
  x_start hD (by decide) rfl (Nat.le_of_ble_eq_true rfl) (fun p e s m below meth c X hW ls hl => w_X2_writeHighestFirst_0 X cv0 v0 v1 v2 v3 hW hl h)

/-! WirelessCell$Frames.crcOf([II)I -/
def rmX2_crcOf : Room := { frames := 0, cells := 0, slots := 0, locals := 0 }
def L_X2_crcOf_4  (cv0 : Nat) (v0 : Nat) (v1 : Int32) : Nat → Int32 → Int32 → Mm → Option (Int32 × Mm)
  | 0, _, _, _ => none
  | n + 1, v2, v3, S => 
    if v1 ≤ v3 then (
    some ((v2 ^^^ (-1)), S))
    else (
    ldP false S cv0 v0 v3 fun x1 =>
    tp (v2 ^^^ x1) fun x2 =>
    ldP false S 190 0 (x2 &&& 15) fun x3 =>
    tp ((iu x2 4) ^^^ x3) fun x4 =>
    ldP false S 190 0 (x4 &&& 15) fun x5 =>
    tp ((iu x4 4) ^^^ x5) fun x6 =>
    (L_X2_crcOf_4 cv0 v0 v1 n) x6 (v3 + 1) S)
def F_X2_crcOf (cv0 : Nat) (v0 : Nat) (v1 : Int32) (S : Mm) : Option (Int32 × Mm) :=
  L_X2_crcOf_4  cv0 v0 v1 fu (-1) 0 S
set_option maxRecDepth 100000 in
set_option maxHeartbeats 4000000 in
theorem w_X2_crcOf_4 {p : Program} {l : Launch} {e : Env} {s : State} {m : MethodId} {args : Array Value} {below : List Frame} {meth : Method} {c : Code} {G : xG} {sz : Nat} {o : Int32 × Mm} (X : xC G false sz p s m args c cX2_crcOf 4 wsX2_crcOf RX2 meth (some .int)) (cv0 : Nat) (v0 : Nat) (v1 : Int32)   : ∀ (n : Nat) (v2 : Int32) (v3 : Int32) (S : Mm) (H : Heap) (locs : List Loc) (ls : Array Slot), L_X2_crcOf_4 cv0 v0 v1 n v2 v3 S = some o → xW G false sz s H locs S → lv_has ls 4 [(0, .ref (G.2.2 cv0 v0)), (1, .int v1), (2, .int v2), (3, .int v3)] → wX p l e rmX2_crcOf s m args below meth c H locs (xQi G false sz o) (XA G false sz) 4 ls [] := by
  intro n
  induction n with
  | zero =>
    intro v2 v3 S H locs ls h
    cases h
  | succ n ih =>
    intro v2 v3 S H locs ls h hW  hl
    rw [L_X2_crcOf_4] at h
    refine lv_iload_n X.1 X.2.1 dX2_crcOf_4 rfl (lv_at hl 3 rfl) ?_
    refine lv_iload_n X.1 X.2.1 dX2_crcOf_5 rfl (lv_at hl 1 rfl) ?_
    refine x_icmp_ge X (tgt := 47) dX2_crcOf_6 (by decide) h (fun h => ?_) (fun h => ?_)
    · refine lv_iload_n X.1 X.2.1 dX2_crcOf_47 rfl (lv_at hl 2 rfl) ?_
      refine lv_iconst (v := (-1)) X.1 X.2.1 dX2_crcOf_48 rfl ?_
      refine lv_ixor X.1 X.2.1 dX2_crcOf_49 ?_
      exact x_iret X hW h dX2_crcOf_50
    · refine lv_iload_n X.1 X.2.1 dX2_crcOf_9 rfl (lv_at hl 2 rfl) ?_
      refine lv_aload_n X.1 X.2.1 dX2_crcOf_10 rfl (lv_at hl 0 rfl) ?_
      refine lv_iload_n X.1 X.2.1 dX2_crcOf_11 rfl (lv_at hl 3 rfl) ?_
      refine x_ialdP X hW dX2_crcOf_12 h (fun x1 h => ?_)
      refine lv_ixor X.1 X.2.1 dX2_crcOf_13 ?_
      refine x_top h (fun x2 h => ?_)
      refine lv_istore_n (lv' := [(2, .int x2), (0, .ref (G.2.2 cv0 v0)), (1, .int v1), (3, .int v3)]) X.1 X.2.1 dX2_crcOf_14 rfl hl (by decide) rfl (fun ls hl => ?_)
      refine lv_iload_n X.1 X.2.1 dX2_crcOf_15 rfl (lv_at hl 0 rfl) ?_
      refine lv_iconst (v := 4) X.1 X.2.1 dX2_crcOf_16 rfl ?_
      refine lv_iushr (v := (iu x2 4)) X.1 X.2.1 dX2_crcOf_17 rfl ?_
      refine x_gets X hW X.2.2.2.2.2.2.2.2.2.2.2.1.1 (List.mem_cons_of_mem _ gw309) dX2_crcOf_18 ?_
      refine lv_iload_n X.1 X.2.1 dX2_crcOf_21 rfl (lv_at hl 0 rfl) ?_
      refine lv_bipush (v := 15) X.1 X.2.1 dX2_crcOf_22 rfl ?_
      refine lv_iand X.1 X.2.1 dX2_crcOf_24 ?_
      refine x_ialdP X hW dX2_crcOf_25 h (fun x3 h => ?_)
      refine lv_ixor X.1 X.2.1 dX2_crcOf_26 ?_
      refine x_top h (fun x4 h => ?_)
      refine lv_istore_n (lv' := [(2, .int x4), (0, .ref (G.2.2 cv0 v0)), (1, .int v1), (3, .int v3)]) X.1 X.2.1 dX2_crcOf_27 rfl hl (by decide) rfl (fun ls hl => ?_)
      refine lv_iload_n X.1 X.2.1 dX2_crcOf_28 rfl (lv_at hl 0 rfl) ?_
      refine lv_iconst (v := 4) X.1 X.2.1 dX2_crcOf_29 rfl ?_
      refine lv_iushr (v := (iu x4 4)) X.1 X.2.1 dX2_crcOf_30 rfl ?_
      refine x_gets X hW X.2.2.2.2.2.2.2.2.2.2.2.1.1 (List.mem_cons_of_mem _ gw309) dX2_crcOf_31 ?_
      refine lv_iload_n X.1 X.2.1 dX2_crcOf_34 rfl (lv_at hl 0 rfl) ?_
      refine lv_bipush (v := 15) X.1 X.2.1 dX2_crcOf_35 rfl ?_
      refine lv_iand X.1 X.2.1 dX2_crcOf_37 ?_
      refine x_ialdP X hW dX2_crcOf_38 h (fun x5 h => ?_)
      refine lv_ixor X.1 X.2.1 dX2_crcOf_39 ?_
      refine x_top h (fun x6 h => ?_)
      refine lv_istore_n (lv' := [(2, .int x6), (0, .ref (G.2.2 cv0 v0)), (1, .int v1), (3, .int v3)]) X.1 X.2.1 dX2_crcOf_40 rfl hl (by decide) rfl (fun ls hl => ?_)
      refine lv_iinc (v := (v3 + 1)) (lv' := [(3, .int (v3 + 1)), (2, .int x6), (0, .ref (G.2.2 cv0 v0)), (1, .int v1)]) X.1 X.2.1 dX2_crcOf_41 hl (k := 3) rfl rfl (by decide) rfl (fun ls hl => ?_)
      refine lv_goto (tgt := 4) X.1 X.2.1 dX2_crcOf_44 (by decide) ?_
      exact ih x6 (v3 + 1) S _ _ _ h hW  (lv_sub hl [2, 3, 1, 0] rfl)
set_option maxRecDepth 100000 in
set_option maxHeartbeats 4000000 in
theorem w_X2_crcOf_0 {p : Program} {l : Launch} {e : Env} {s : State} {m : MethodId} {args : Array Value} {below : List Frame} {meth : Method} {c : Code} {G : xG} {sz : Nat} {o : Int32 × Mm} (X : xC G false sz p s m args c cX2_crcOf 4 wsX2_crcOf RX2 meth (some .int)) (cv0 : Nat) (v0 : Nat) (v1 : Int32) {S : Mm} {H : Heap} {locs : List Loc} {ls : Array Slot} (hW : xW G false sz s H locs S) (hl : lv_has ls 4 [(0, .ref (G.2.2 cv0 v0)), (1, .int v1)]) (h : F_X2_crcOf cv0 v0 v1 S = some o) : wX p l e rmX2_crcOf s m args below meth c H locs (xQi G false sz o) (XA G false sz) 0 ls [] := by
  unfold F_X2_crcOf at h
  refine lv_iconst (v := (-1)) X.1 X.2.1 dX2_crcOf_0 rfl ?_
  refine lv_istore_n (lv' := [(2, .int (-1)), (0, .ref (G.2.2 cv0 v0)), (1, .int v1)]) X.1 X.2.1 dX2_crcOf_1 rfl hl (by decide) rfl (fun ls hl => ?_)
  refine lv_iconst (v := 0) X.1 X.2.1 dX2_crcOf_2 rfl ?_
  refine lv_istore_n (lv' := [(3, .int 0), (2, .int (-1)), (0, .ref (G.2.2 cv0 v0)), (1, .int v1)]) X.1 X.2.1 dX2_crcOf_3 rfl hl (by decide) rfl (fun ls hl => ?_)
  exact w_X2_crcOf_4 X cv0 v0 v1   fu (-1) 0 S _ _ _ h hW  (lv_sub hl [2, 3, 1, 0] rfl)
theorem c_X2_crcOf (l : Launch) (G : xG) (hD : xD G false) (sz : Nat) (S : Mm) (cv0 : Nat) (v0 : Nat) (v1 : Int32) (o : Int32 × Mm) (h : F_X2_crcOf cv0 v0 v1 S = some o) : Met l yX2_crcOf wsX2_crcOf rmX2_crcOf (xPre G false S sz [.ref (G.2.2 cv0 v0), .int v1]) (xQi G false sz o) 0 0 (XA G false sz) :=
  x_start hD (by decide) rfl (Nat.le_of_ble_eq_true rfl) (fun p e s m below meth c X hW ls hl => w_X2_crcOf_0 X cv0 v0 v1 hW hl h)
