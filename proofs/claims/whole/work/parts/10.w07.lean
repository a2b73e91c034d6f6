/-! WirelessCell.node(II)I -/
def rmX11_node : Room := { frames := 1, cells := 0, slots := 0, locals := 22 }
def F_X11_node (v1 : Int32) (v2 : Int32) (S : Mm) : Option (Int32 × Mm) :=
  cl (F_X11_isNode v1 S) fun r1 S2 =>
  if r1 = 0 then (
  some ((-1), S2))
  else (
  ldR S2 52 0 9 1 v1 9 fun i4 =>
  if v2 = 0 then (
  if v1 = 0 then (
  cl (F_X11_keyedAtAp S2) fun r7 S8 =>
  some (r7, S8))
  else (
  ldR S2 53 0 9 1 v1 18 fun i5 =>
  gf S2 62 i5 fun x6 =>
  some (x6, S2)))
  else (
  if v2 = 1 then (
  if v1 = 0 then (
  some (0, S2))
  else (
  ldR S2 54 0 9 1 v1 18 fun i11 =>
  gf S2 62 i11 fun x12 =>
  some (x12, S2)))
  else (
  if v2 = 2 then (
  gf S2 103 i4 fun x14 =>
  some (x14, S2))
  else (
  if v2 = 3 then (
  gf S2 91 i4 fun x16 =>
  some (x16, S2))
  else (
  if v2 = 4 then (
  gf S2 92 i4 fun x18 =>
  some (x18, S2))
  else (
  if v2 = 5 then (
  gf S2 93 i4 fun x20 =>
  some (x20, S2))
  else (
  if v2 = 6 then (
  gf S2 98 i4 fun x22 =>
  if x22 = (-1) then (
  some (0, S2))
  else (
  some (1, S2)))
  else (
  if v2 = 7 then (
  gf S2 104 i4 fun x24 =>
  some (x24, S2))
  else (
  if v2 = 8 then (
  gf S2 61 i4 fun x26 =>
  some (x26, S2))
  else (
  if v2 = 9 then (
  gf S2 89 i4 fun x28 =>
  some (x28, S2))
  else (
  if v2 = 10 then (
  gf S2 90 i4 fun x30 =>
  some (x30, S2))
  else (
  some ((-1), S2)))))))))))))
set_option maxRecDepth 100000 in
set_option maxHeartbeats 4000000 in
theorem w_X11_node_0 {p : Program} {l : Launch} {e : Env} {s : State} {m : MethodId} {args : Array Value} {below : List Frame} {meth : Method} {c : Code} {G : xG} {sz : Nat} {o : Int32 × Mm} (X : xC G false sz p s m args c cX11_node 4 wsX11_node RX11 meth (some .int)) (v1 : Int32) (v2 : Int32) {S : Mm} {H : Heap} {locs : List Loc} {ls : Array Slot} (hW : xW G false sz s H locs S) (hl : lv_has ls 4 [(0, .ref (G.2.2 10 0)), (1, .int v1), (2, .int v2)]) (h : F_X11_node v1 v2 S = some o) : wX p l e rmX11_node s m args below meth c H locs (xQi G false sz o) (XA G false sz) 0 ls [] := by
  unfold F_X11_node at h
  refine lv_iload_n X.1 X.2.1 dX11_node_0 rfl (lv_at hl 1 rfl) ?_
  obtain ⟨r1, S2, h3, h⟩ := cl_some h
  refine x_aftI X hW (x_runS (As := [.int v1]) (rest := []) X hW (c_X11_isNode l G X.2.2.2.2.2.2.2.2.2.1 _ S v1 _ h3) (va_cwS 1 X.2.2.2.2.1 (gS gw389 gw390 gw2 gw391) rfl rfl rfl hd_X11_isNode ⟨Nat.le_of_ble_eq_true rfl, Nat.le_of_ble_eq_true rfl⟩) rfl hl.1 rfl (Nat.le_of_ble_eq_true rfl) dX11_node_1 ⟨Nat.zero_le _, Nat.zero_le _⟩) (fun H locs hW => ?_)
  refine x_if_ne X (tgt := 9) dX11_node_4 (by decide) h (fun h => ?_) (fun h => ?_)
  · refine lv_aload_n X.1 X.2.1 dX11_node_9 rfl (lv_at hl 0 rfl) ?_
    refine x_getR X hW fd_Cell_nodes (fun w h => List.mem_cons_of_mem _ (gin_X11 w h)) (List.mem_cons_of_mem _ gw14) z_1 dX11_node_10 ?_
    refine lv_iload_n X.1 X.2.1 dX11_node_13 rfl (lv_at hl 1 rfl) ?_
    refine x_aald X hW ar_52 (ct := 6) rfl (at_52 G) rfl dX11_node_14 h (fun i4 qi4 h => ?_)
    refine lv_astore_n (lv' := [(3, .ref (G.2.2 6 i4)), (0, .ref (G.2.2 10 0)), (1, .int v1), (2, .int v2)]) X.1 X.2.1 dX11_node_15 rfl hl (by decide) rfl (fun ls hl => ?_)
    refine lv_iload_n X.1 X.2.1 dX11_node_16 rfl (lv_at hl 3 rfl) ?_
    refine x_ite h (fun g10 h => ?_) (fun g10 h => ?_)
    · refine lv_tableIn (off := 59) (tgt := 76) X.1 X.2.1 dX11_node_17 (by rw [g10]; decide) (by rw [g10]; decide) (by rw [g10]; try rfl) (by decide) ?_
      refine lv_iload_n X.1 X.2.1 dX11_node_76 rfl (lv_at hl 2 rfl) ?_
      refine x_if_ne X (tgt := 87) dX11_node_77 (by decide) h (fun h => ?_) (fun h => ?_)
      · refine lv_aload_n X.1 X.2.1 dX11_node_87 rfl (lv_at hl 1 rfl) ?_
        refine x_getR X hW fd_Cell_bySelf (fun w h => List.mem_cons_of_mem _ (gin_X11 w h)) (List.mem_cons_of_mem _ gw16) z_1 dX11_node_88 ?_
        refine lv_iload_n X.1 X.2.1 dX11_node_91 rfl (lv_at hl 2 rfl) ?_
        refine x_aald X hW ar_53 (ct := 3) rfl (at_53 G) rfl dX11_node_92 h (fun i5 qi5 h => ?_)
        refine x_getI X hW fd_Link_state (fun w h => List.mem_cons_of_mem _ (gin_X4 w h)) (List.mem_cons_of_mem _ gw571) qi5 dX11_node_93 h (fun x6 h => ?_)
        exact x_iret X hW h dX11_node_96
      · refine lv_aload_n X.1 X.2.1 dX11_node_80 rfl (lv_at hl 1 rfl) ?_
        obtain ⟨r7, S8, h9, h⟩ := cl_some h
        refine x_aftI X hW (x_runV (C := RX11) (a := G.2.2 10 0) (As := []) (rest := []) X hW (c_X11_keyedAtAp l G X.2.2.2.2.2.2.2.2.2.1 _ S2 _ h9) (cwV 0 X.2.2.2.2.1 (gV gw1257 gw1258 gw1259 gw2 gw1260) rfl rfl rfl ⟨rfl, hd_X11_keyedAtAp⟩ ⟨Nat.le_of_ble_eq_true rfl, Nat.le_of_ble_eq_true rfl⟩) (x_recv X hW ob_Cell z_1) rfl hl.1 rfl (Nat.le_of_ble_eq_true rfl) dX11_node_81 ⟨Nat.zero_le _, Nat.zero_le _⟩) (fun H locs hW => ?_)
        refine lv_goto (tgt := 96) X.1 X.2.1 dX11_node_84 (by decide) ?_
        exact x_iret X hW h dX11_node_96
    · refine x_ite h (fun g13 h => ?_) (fun g13 h => ?_)
      · refine lv_tableIn (off := 80) (tgt := 97) X.1 X.2.1 dX11_node_17 (by rw [g13]; decide) (by rw [g13]; decide) (by rw [g13]; try rfl) (by decide) ?_
        refine lv_iload_n X.1 X.2.1 dX11_node_97 rfl (lv_at hl 2 rfl) ?_
        refine x_if_ne X (tgt := 105) dX11_node_98 (by decide) h (fun h => ?_) (fun h => ?_)
        · refine lv_aload_n X.1 X.2.1 dX11_node_105 rfl (lv_at hl 1 rfl) ?_
          refine x_getR X hW fd_Cell_byAp (fun w h => List.mem_cons_of_mem _ (gin_X11 w h)) (List.mem_cons_of_mem _ gw17) z_1 dX11_node_106 ?_
          refine lv_iload_n X.1 X.2.1 dX11_node_109 rfl (lv_at hl 2 rfl) ?_
          refine x_aald X hW ar_54 (ct := 3) rfl (at_54 G) rfl dX11_node_110 h (fun i11 qi11 h => ?_)
          refine x_getI X hW fd_Link_state (fun w h => List.mem_cons_of_mem _ (gin_X4 w h)) (List.mem_cons_of_mem _ gw571) qi11 dX11_node_111 h (fun x12 h => ?_)
          exact x_iret X hW h dX11_node_114
        · refine lv_iconst (v := 0) X.1 X.2.1 dX11_node_101 rfl ?_
          refine lv_goto (tgt := 114) X.1 X.2.1 dX11_node_102 (by decide) ?_
          exact x_iret X hW h dX11_node_114
      · refine x_ite h (fun g15 h => ?_) (fun g15 h => ?_)
        · refine lv_tableIn (off := 98) (tgt := 115) X.1 X.2.1 dX11_node_17 (by rw [g15]; decide) (by rw [g15]; decide) (by rw [g15]; try rfl) (by decide) ?_
          refine lv_aload_n X.1 X.2.1 dX11_node_115 rfl (lv_at hl 0 rfl) ?_
          refine x_getR X hW fd_Node_queue (fun w h => List.mem_cons_of_mem _ (gin_X7 w h)) (List.mem_cons_of_mem _ gw490) qi4 dX11_node_116 ?_
          refine x_getI X hW fd_Queue_used (fun w h => List.mem_cons_of_mem _ (gin_X9 w h)) (List.mem_cons_of_mem _ gw491) qi4 dX11_node_119 h (fun x14 h => ?_)
          exact x_iret X hW h dX11_node_122
        · refine x_ite h (fun g17 h => ?_) (fun g17 h => ?_)
          · refine lv_tableIn (off := 106) (tgt := 123) X.1 X.2.1 dX11_node_17 (by rw [g17]; decide) (by rw [g17]; decide) (by rw [g17]; try rfl) (by decide) ?_
            refine lv_aload_n X.1 X.2.1 dX11_node_123 rfl (lv_at hl 0 rfl) ?_
            refine x_getI X hW fd_Node_backoff (fun w h => List.mem_cons_of_mem _ (gin_X7 w h)) (List.mem_cons_of_mem _ gw499) qi4 dX11_node_124 h (fun x16 h => ?_)
            exact x_iret X hW h dX11_node_127
          · refine x_ite h (fun g19 h => ?_) (fun g19 h => ?_)
            · refine lv_tableIn (off := 111) (tgt := 128) X.1 X.2.1 dX11_node_17 (by rw [g19]; decide) (by rw [g19]; decide) (by rw [g19]; try rfl) (by decide) ?_
              refine lv_aload_n X.1 X.2.1 dX11_node_128 rfl (lv_at hl 0 rfl) ?_
              refine x_getI X hW fd_Node_cw (fun w h => List.mem_cons_of_mem _ (gin_X7 w h)) (List.mem_cons_of_mem _ gw498) qi4 dX11_node_129 h (fun x18 h => ?_)
              exact x_iret X hW h dX11_node_132
            · refine x_ite h (fun g21 h => ?_) (fun g21 h => ?_)
              · refine lv_tableIn (off := 116) (tgt := 133) X.1 X.2.1 dX11_node_17 (by rw [g21]; decide) (by rw [g21]; decide) (by rw [g21]; try rfl) (by decide) ?_
                refine lv_aload_n X.1 X.2.1 dX11_node_133 rfl (lv_at hl 0 rfl) ?_
                refine x_getI X hW fd_Node_tries (fun w h => List.mem_cons_of_mem _ (gin_X7 w h)) (List.mem_cons_of_mem _ gw658) qi4 dX11_node_134 h (fun x20 h => ?_)
                exact x_iret X hW h dX11_node_137
              · refine x_ite h (fun g23 h => ?_) (fun g23 h => ?_)
                · refine lv_tableIn (off := 121) (tgt := 138) X.1 X.2.1 dX11_node_17 (by rw [g23]; decide) (by rw [g23]; decide) (by rw [g23]; try rfl) (by decide) ?_
                  refine lv_aload_n X.1 X.2.1 dX11_node_138 rfl (lv_at hl 0 rfl) ?_
                  refine x_getI X hW fd_Node_waitsFrom (fun w h => List.mem_cons_of_mem _ (gin_X7 w h)) (List.mem_cons_of_mem _ gw749) qi4 dX11_node_139 h (fun x22 h => ?_)
                  refine lv_iconst (v := (-1)) X.1 X.2.1 dX11_node_142 rfl ?_
                  refine x_icmp_ne X (tgt := 150) dX11_node_143 (by decide) h (fun h => ?_) (fun h => ?_)
                  · refine lv_iconst (v := 1) X.1 X.2.1 dX11_node_150 rfl ?_
                    exact x_iret X hW h dX11_node_151
                  · refine lv_iconst (v := 0) X.1 X.2.1 dX11_node_146 rfl ?_
                    refine lv_goto (tgt := 151) X.1 X.2.1 dX11_node_147 (by decide) ?_
                    exact x_iret X hW h dX11_node_151
                · refine x_ite h (fun g25 h => ?_) (fun g25 h => ?_)
                  · refine lv_tableIn (off := 135) (tgt := 152) X.1 X.2.1 dX11_node_17 (by rw [g25]; decide) (by rw [g25]; decide) (by rw [g25]; try rfl) (by decide) ?_
                    refine lv_aload_n X.1 X.2.1 dX11_node_152 rfl (lv_at hl 0 rfl) ?_
                    refine x_getR X hW fd_Node_queue (fun w h => List.mem_cons_of_mem _ (gin_X7 w h)) (List.mem_cons_of_mem _ gw490) qi4 dX11_node_153 ?_
                    refine x_getI X hW fd_Queue_nextSequence (fun w h => List.mem_cons_of_mem _ (gin_X9 w h)) (List.mem_cons_of_mem _ gw1254) qi4 dX11_node_156 h (fun x24 h => ?_)
                    exact x_iret X hW h dX11_node_159
                  · refine x_ite h (fun g27 h => ?_) (fun g27 h => ?_)
                    · refine lv_tableIn (off := 143) (tgt := 160) X.1 X.2.1 dX11_node_17 (by rw [g27]; decide) (by rw [g27]; decide) (by rw [g27]; try rfl) (by decide) ?_
                      refine lv_aload_n X.1 X.2.1 dX11_node_160 rfl (lv_at hl 0 rfl) ?_
                      refine x_getR X hW fd_Node_inbox (fun w h => List.mem_cons_of_mem _ (gin_X7 w h)) (List.mem_cons_of_mem _ gw833) qi4 dX11_node_161 ?_
                      refine x_getI X hW fd_Inbox_delivered (fun w h => List.mem_cons_of_mem _ (gin_X3 w h)) (List.mem_cons_of_mem _ gw1255) qi4 dX11_node_164 h (fun x26 h => ?_)
                      exact x_iret X hW h dX11_node_167
                    · refine x_ite h (fun g29 h => ?_) (fun g29 h => ?_)
                      · refine lv_tableIn (off := 151) (tgt := 168) X.1 X.2.1 dX11_node_17 (by rw [g29]; decide) (by rw [g29]; decide) (by rw [g29]; try rfl) (by decide) ?_
                        refine lv_aload_n X.1 X.2.1 dX11_node_168 rfl (lv_at hl 0 rfl) ?_
                        refine x_getI X hW fd_Node_droppedAgain (fun w h => List.mem_cons_of_mem _ (gin_X7 w h)) (List.mem_cons_of_mem _ gw1256) qi4 dX11_node_169 h (fun x28 h => ?_)
                        exact x_iret X hW h dX11_node_172
                      · refine x_ite h (fun g31 h => ?_) (fun g31 h => ?_)
                        · refine lv_tableIn (off := 156) (tgt := 173) X.1 X.2.1 dX11_node_17 (by rw [g31]; decide) (by rw [g31]; decide) (by rw [g31]; try rfl) (by decide) ?_
                          refine lv_aload_n X.1 X.2.1 dX11_node_173 rfl (lv_at hl 0 rfl) ?_
                          refine x_getI X hW fd_Node_droppedSealed (fun w h => List.mem_cons_of_mem _ (gin_X7 w h)) (List.mem_cons_of_mem _ gw800) qi4 dX11_node_174 h (fun x30 h => ?_)
                          exact x_iret X hW h dX11_node_177
                        · have zg10 := lv_neT g10 (show Int32.toInt 0 = 0 from rfl)
                          have zg13 := lv_neT g13 (show Int32.toInt 1 = 1 from rfl)
                          have zg15 := lv_neT g15 (show Int32.toInt 2 = 2 from rfl)
                          have zg17 := lv_neT g17 (show Int32.toInt 3 = 3 from rfl)
                          have zg19 := lv_neT g19 (show Int32.toInt 4 = 4 from rfl)
                          have zg21 := lv_neT g21 (show Int32.toInt 5 = 5 from rfl)
                          have zg23 := lv_neT g23 (show Int32.toInt 6 = 6 from rfl)
                          have zg25 := lv_neT g25 (show Int32.toInt 7 = 7 from rfl)
                          have zg27 := lv_neT g27 (show Int32.toInt 8 = 8 from rfl)
                          have zg29 := lv_neT g29 (show Int32.toInt 9 = 9 from rfl)
                          have zg31 := lv_neT g31 (show Int32.toInt 10 = 10 from rfl)
                          refine lv_tableOut (tgt := 178) X.1 X.2.1 dX11_node_17 (by omega) (by decide) ?_
                          refine lv_iconst (v := (-1)) X.1 X.2.1 dX11_node_178 rfl ?_
                          exact x_iret X hW h dX11_node_179
  · refine lv_iconst (v := (-1)) X.1 X.2.1 dX11_node_7 rfl ?_
    exact x_iret X hW h dX11_node_8
theorem c_X11_node (l : Launch) (G : xG) (hD : xD G false) (sz : Nat) (S : Mm) (v1 : Int32) (v2 : Int32) (o : Int32 × Mm) (h : F_X11_node v1 v2 S = some o) : Met l yX11_node wsX11_node rmX11_node (xPre G false S sz [.ref (G.2.2 10 0), .int v1, .int v2]) (xQi G false sz o) 0 0 (XA G false sz) :=
  x_start hD (by decide) rfl (Nat.le_of_ble_eq_true rfl) (fun p e s m below meth c X hW ls hl => w_X11_node_0 X v1 v2 hW hl h)

/-! WirelessCell.key(III)I -/
def rmX11_key : Room := { frames := 1, cells := 0, slots := 0, locals := 20 }
def L_X11_key_26   (S : Mm) : Option (Int32 × Mm) :=
  some ((-1), S)
def L_X11_key_47  (v3 : Int32) (s0 : Nat) (S : Mm) : Option (Int32 × Mm) :=
  gf S 62 s0 fun x6 =>
  if x6 = 4 then (
  ldA S 24 s0 16 18 v3 fun x7 =>
  some (x7, S))
  else (
  some ((-1), S))
def F_X11_key (v1 : Int32) (v2 : Int32) (v3 : Int32) (S : Mm) : Option (Int32 × Mm) :=
  cl (F_X11_isStation v1 S) fun r1 S2 =>
  if r1 = 0 then (
  L_X11_key_26  S2)
  else (
  if v2 < 0 then (
  L_X11_key_26  S2)
  else (
  if 1 < v2 then (
  L_X11_key_26  S2)
  else (
  if v3 < 0 then (
  L_X11_key_26  S2)
  else (
  if v3 < 16 then (
  if v2 = 0 then (
  ldR S2 53 0 9 1 v1 18 fun i5 =>
  L_X11_key_47  v3 i5 S2)
  else (
  ldR S2 54 0 9 1 v1 18 fun i4 =>
  L_X11_key_47  v3 i4 S2))
  else (
  L_X11_key_26  S2)))))
set_option maxRecDepth 100000 in
set_option maxHeartbeats 4000000 in
theorem w_X11_key_26 {p : Program} {l : Launch} {e : Env} {s : State} {m : MethodId} {args : Array Value} {below : List Frame} {meth : Method} {c : Code} {G : xG} {sz : Nat} {o : Int32 × Mm} (X : xC G false sz p s m args c cX11_key 5 wsX11_key RX11 meth (some .int))    {S : Mm} {H : Heap} {locs : List Loc} {ls : Array Slot} (hW : xW G false sz s H locs S) (hl : lv_has ls 5 []) (h : L_X11_key_26   S = some o) : wX p l e rmX11_key s m args below meth c H locs (xQi G false sz o) (XA G false sz) 26 ls [] := by
  unfold L_X11_key_26 at h
  refine lv_iconst (v := (-1)) X.1 X.2.1 dX11_key_26 rfl ?_
  exact x_iret X hW h dX11_key_27
set_option maxRecDepth 100000 in
set_option maxHeartbeats 4000000 in
theorem w_X11_key_47 {p : Program} {l : Launch} {e : Env} {s : State} {m : MethodId} {args : Array Value} {below : List Frame} {meth : Method} {c : Code} {G : xG} {sz : Nat} {o : Int32 × Mm} (X : xC G false sz p s m args c cX11_key 5 wsX11_key RX11 meth (some .int)) (v3 : Int32) (s0 : Nat) (qs0 : s0 < 18)  {S : Mm} {H : Heap} {locs : List Loc} {ls : Array Slot} (hW : xW G false sz s H locs S) (hl : lv_has ls 5 [(3, .int v3)]) (h : L_X11_key_47  v3 s0 S = some o) : wX p l e rmX11_key s m args below meth c H locs (xQi G false sz o) (XA G false sz) 47 ls [.ref (G.2.2 3 s0)] := by
  unfold L_X11_key_47 at h
  refine lv_astore (lv' := [(4, .ref (G.2.2 3 s0)), (3, .int v3)]) X.1 X.2.1 dX11_key_47 hl (by decide) rfl (fun ls hl => ?_)
  refine lv_aload X.1 X.2.1 dX11_key_49 (lv_at hl 0 rfl) ?_
  refine x_getI X hW fd_Link_state (fun w h => List.mem_cons_of_mem _ (gin_X4 w h)) (List.mem_cons_of_mem _ gw571) qs0 dX11_key_51 h (fun x6 h => ?_)
  refine lv_iconst (v := 4) X.1 X.2.1 dX11_key_54 rfl ?_
  refine x_icmp_ne X (tgt := 68) dX11_key_55 (by decide) h (fun h => ?_) (fun h => ?_)
  · refine lv_iconst (v := (-1)) X.1 X.2.1 dX11_key_68 rfl ?_
    exact x_iret X hW h dX11_key_69
  · refine lv_aload X.1 X.2.1 dX11_key_58 (lv_at hl 0 rfl) ?_
    refine x_getR X hW fd_Link_tk (fun w h => List.mem_cons_of_mem _ (gin_X4 w h)) (List.mem_cons_of_mem _ gw670) qs0 dX11_key_60 ?_
    refine lv_iload_n X.1 X.2.1 dX11_key_63 rfl (lv_at hl 1 rfl) ?_
    refine x_iald X hW ar_24 dX11_key_64 h (fun x7 h => ?_)
    refine lv_goto (tgt := 69) X.1 X.2.1 dX11_key_65 (by decide) ?_
    exact x_iret X hW h dX11_key_69
set_option maxRecDepth 100000 in
set_option maxHeartbeats 4000000 in
theorem w_X11_key_0 {p : Program} {l : Launch} {e : Env} {s : State} {m : MethodId} {args : Array Value} {below : List Frame} {meth : Method} {c : Code} {G : xG} {sz : Nat} {o : Int32 × Mm} (X : xC G false sz p s m args c cX11_key 5 wsX11_key RX11 meth (some .int)) (v1 : Int32) (v2 : Int32) (v3 : Int32) {S : Mm} {H : Heap} {locs : List Loc} {ls : Array Slot} (hW : xW G false sz s H locs S) (hl : lv_has ls 5 [(0, .ref (G.2.2 10 0)), (1, .int v1), (2, .int v2), (3, .int v3)]) (h : F_X11_key v1 v2 v3 S = some o) : wX p l e rmX11_key s m args below meth c H locs (xQi G false sz o) (XA G false sz) 0 ls [] := by
  unfold F_X11_key at h
  refine lv_iload_n X.1 X.2.1 dX11_key_0 rfl (lv_at hl 1 rfl) ?_
  obtain ⟨r1, S2, h3, h⟩ := cl_some h
  refine x_aftI X hW (x_runS (As := [.int v1]) (rest := []) X hW (c_X11_isStation l G X.2.2.2.2.2.2.2.2.2.1 _ S v1 _ h3) (va_cwS 1 X.2.2.2.2.1 (gS gw359 gw360 gw2 gw361) rfl rfl rfl hd_X11_isStation ⟨Nat.le_of_ble_eq_true rfl, Nat.le_of_ble_eq_true rfl⟩) rfl hl.1 rfl (Nat.le_of_ble_eq_true rfl) dX11_key_1 ⟨Nat.zero_le _, Nat.zero_le _⟩) (fun H locs hW => ?_)
  refine x_if_eq X (tgt := 26) dX11_key_4 (by decide) h (fun h => ?_) (fun h => ?_)
  · exact w_X11_key_26 X    hW (lv_sub hl [] rfl) h
  · refine lv_iload_n X.1 X.2.1 dX11_key_7 rfl (lv_at hl 2 rfl) ?_
    refine x_if_lt X (tgt := 26) dX11_key_8 (by decide) h (fun h => ?_) (fun h => ?_)
    · exact w_X11_key_26 X    hW (lv_sub hl [] rfl) h
    · refine lv_iload_n X.1 X.2.1 dX11_key_11 rfl (lv_at hl 2 rfl) ?_
      refine lv_iconst (v := 1) X.1 X.2.1 dX11_key_12 rfl ?_
      refine x_icmp_gt X (tgt := 26) dX11_key_13 (by decide) h (fun h => ?_) (fun h => ?_)
      · exact w_X11_key_26 X    hW (lv_sub hl [] rfl) h
      · refine lv_iload_n X.1 X.2.1 dX11_key_16 rfl (lv_at hl 3 rfl) ?_
        refine x_if_lt X (tgt := 26) dX11_key_17 (by decide) h (fun h => ?_) (fun h => ?_)
        · exact w_X11_key_26 X    hW (lv_sub hl [] rfl) h
        · refine lv_iload_n X.1 X.2.1 dX11_key_20 rfl (lv_at hl 3 rfl) ?_
          refine lv_bipush (v := 16) X.1 X.2.1 dX11_key_21 rfl ?_
          refine x_icmp_lt X (tgt := 28) dX11_key_23 (by decide) h (fun h => ?_) (fun h => ?_)
          · refine lv_iload_n X.1 X.2.1 dX11_key_28 rfl (lv_at hl 2 rfl) ?_
            refine x_if_ne X (tgt := 41) dX11_key_29 (by decide) h (fun h => ?_) (fun h => ?_)
            · refine lv_aload_n X.1 X.2.1 dX11_key_41 rfl (lv_at hl 0 rfl) ?_
              refine x_getR X hW fd_Cell_byAp (fun w h => List.mem_cons_of_mem _ (gin_X11 w h)) (List.mem_cons_of_mem _ gw17) z_1 dX11_key_42 ?_
              refine lv_iload_n X.1 X.2.1 dX11_key_45 rfl (lv_at hl 1 rfl) ?_
              refine x_aald X hW ar_54 (ct := 3) rfl (at_54 G) rfl dX11_key_46 h (fun i4 qi4 h => ?_)
              exact w_X11_key_47 X v3 i4 qi4  hW (lv_sub hl [3] rfl) h
            · refine lv_aload_n X.1 X.2.1 dX11_key_32 rfl (lv_at hl 0 rfl) ?_
              refine x_getR X hW fd_Cell_bySelf (fun w h => List.mem_cons_of_mem _ (gin_X11 w h)) (List.mem_cons_of_mem _ gw16) z_1 dX11_key_33 ?_
              refine lv_iload_n X.1 X.2.1 dX11_key_36 rfl (lv_at hl 1 rfl) ?_
              refine x_aald X hW ar_53 (ct := 3) rfl (at_53 G) rfl dX11_key_37 h (fun i5 qi5 h => ?_)
              refine lv_goto (tgt := 47) X.1 X.2.1 dX11_key_38 (by decide) ?_
              exact w_X11_key_47 X v3 i5 qi5  hW (lv_sub hl [3] rfl) h
          · exact w_X11_key_26 X    hW (lv_sub hl [] rfl) h
theorem c_X11_key (l : Launch) (G : xG) (hD : xD G false) (sz : Nat) (S : Mm) (v1 : Int32) (v2 : Int32) (v3 : Int32) (o : Int32 × Mm) (h : F_X11_key v1 v2 v3 S = some o) : Met l yX11_key wsX11_key rmX11_key (xPre G false S sz [.ref (G.2.2 10 0), .int v1, .int v2, .int v3]) (xQi G false sz o) 0 0 (XA G false sz) :=
  x_start hD (by decide) rfl (Nat.le_of_ble_eq_true rfl) (fun p e s m below meth c X hW ls hl => w_X11_key_0 X v1 v2 v3 hW hl h)

/-! WirelessCell.delivered(III)I -/
def rmX11_delivered : Room := { frames := 1, cells := 0, slots := 0, locals := 22 }
def F_X11_delivered (v1 : Int32) (v2 : Int32) (v3 : Int32) (S : Mm) : Option (Int32 × Mm) :=
  cl (F_X11_isNode v1 S) fun r1 S2 =>
  if r1 = 0 then (
  some ((-1), S2))
  else (
  ldR S2 52 0 9 1 v1 9 fun i4 =>
  cl (F_X3_detail i4 v2 v3 S2) fun r5 S6 =>
  some (r5, S6))
set_option maxRecDepth 100000 in
set_option maxHeartbeats 4000000 in
theorem w_X11_delivered_0 {p : Program} {l : Launch} {e : Env} {s : State} {m : MethodId} {args : Array Value} {below : List Frame} {meth : Method} {c : Code} {G : xG} {sz : Nat} {o : Int32 × Mm} (X : xC G false sz p s m args c cX11_delivered 4 wsX11_delivered RX11 meth (some .int)) (v1 : Int32) (v2 : Int32) (v3 : Int32) {S : Mm} {H : Heap} {locs : List Loc} {ls : Array Slot} (hW : xW G false sz s H locs S) (hl : lv_has ls 4 [(0, .ref (G.2.2 10 0)), (1, .int v1), (2, .int v2), (3, .int v3)]) (h : F_X11_delivered v1 v2 v3 S = some o) : wX p l e rmX11_delivered s m args below meth c H locs (xQi G false sz o) (XA G false sz) 0 ls [] := by
  unfold F_X11_delivered at h
  refine lv_iload_n X.1 X.2.1 dX11_delivered_0 rfl (lv_at hl 1 rfl) ?_
  obtain ⟨r1, S2, h3, h⟩ := cl_some h
  refine x_aftI X hW (x_runS (As := [.int v1]) (rest := []) X hW (c_X11_isNode l G X.2.2.2.2.2.2.2.2.2.1 _ S v1 _ h3) (va_cwS 1 X.2.2.2.2.1 (gS gw389 gw390 gw2 gw391) rfl rfl rfl hd_X11_isNode ⟨Nat.le_of_ble_eq_true rfl, Nat.le_of_ble_eq_true rfl⟩) rfl hl.1 rfl (Nat.le_of_ble_eq_true rfl) dX11_delivered_1 ⟨Nat.zero_le _, Nat.zero_le _⟩) (fun H locs hW => ?_)
  refine x_if_eq X (tgt := 24) dX11_delivered_4 (by decide) h (fun h => ?_) (fun h => ?_)
  · refine lv_iconst (v := (-1)) X.1 X.2.1 dX11_delivered_24 rfl ?_
    exact x_iret X hW h dX11_delivered_25
  · refine lv_aload_n X.1 X.2.1 dX11_delivered_7 rfl (lv_at hl 0 rfl) ?_
    refine x_getR X hW fd_Cell_nodes (fun w h => List.mem_cons_of_mem _ (gin_X11 w h)) (List.mem_cons_of_mem _ gw14) z_1 dX11_delivered_8 ?_
    refine lv_iload_n X.1 X.2.1 dX11_delivered_11 rfl (lv_at hl 1 rfl) ?_
    refine x_aald X hW ar_52 (ct := 6) rfl (at_52 G) rfl dX11_delivered_12 h (fun i4 qi4 h => ?_)
    refine x_getR X hW fd_Node_inbox (fun w h => List.mem_cons_of_mem _ (gin_X7 w h)) (List.mem_cons_of_mem _ gw833) qi4 dX11_delivered_13 ?_
    refine lv_iload_n X.1 X.2.1 dX11_delivered_16 rfl (lv_at hl 2 rfl) ?_
    refine lv_iload_n X.1 X.2.1 dX11_delivered_17 rfl (lv_at hl 3 rfl) ?_
    obtain ⟨r5, S6, h7, h⟩ := cl_some h
    refine x_aftI X hW (x_runV (C := RX3) (a := G.2.2 2 i4) (As := [.int v2, .int v3]) (rest := []) X hW (c_X3_detail l G X.2.2.2.2.2.2.2.2.2.1 _ S2 i4 v2 v3 _ h7) (cwV 2 X.2.2.2.2.1 (gV gw1281 gw1282 gw1283 gw104 gw1284) rfl rfl rfl ⟨rfl, hd_X3_detail⟩ ⟨Nat.le_of_ble_eq_true rfl, Nat.le_of_ble_eq_true rfl⟩) (x_recv X hW ob_Inbox qi4) rfl hl.1 rfl (Nat.le_of_ble_eq_true rfl) dX11_delivered_18 ⟨Nat.zero_le _, Nat.zero_le _⟩) (fun H locs hW => ?_)
    refine lv_goto (tgt := 25) X.1 X.2.1 dX11_delivered_21 (by decide) ?_
    exact x_iret X hW h dX11_delivered_25
theorem c_X11_delivered (l : Launch) (G : xG) (hD : xD G false) (sz : Nat) (S : Mm) (v1 : Int32) (v2 : Int32) (v3 : Int32) (o : Int32 × Mm) (h : F_X11_delivered v1 v2 v3 S = some o) : Met l yX11_delivered wsX11_delivered rmX11_delivered (xPre G false S sz [.ref (G.2.2 10 0), .int v1, .int v2, .int v3]) (xQi G false sz o) 0 0 (XA G false sz) :=
  x_start hD (by decide) rfl (Nat.le_of_ble_eq_true rfl) (fun p e s m below meth c X hW ls hl => w_X11_delivered_0 X v1 v2 v3 hW hl h)

/-! WirelessCell.air(II)I -/
def rmX11_air : Room := { frames := 2, cells := 0, slots := 0, locals := 43 }
def F_X11_air (v1 : Int32) (v2 : Int32) (S : Mm) : Option (Int32 × Mm) :=
  cl (F_X5_rowOf v1 S) fun r1 S2 =>
  if r1 = (-1) then (
  some ((-1), S2))
  else (
  cl (F_X5_detail r1 v2 S2) fun r4 S5 =>
  some (r4, S5))
set_option maxRecDepth 100000 in
set_option maxHeartbeats 4000000 in
theorem w_X11_air_0 {p : Program} {l : Launch} {e : Env} {s : State} {m : MethodId} {args : Array Value} {below : List Frame} {meth : Method} {c : Code} {G : xG} {sz : Nat} {o : Int32 × Mm} (X : xC G false sz p s m args c cX11_air 4 wsX11_air RX11 meth (some .int)) (v1 : Int32) (v2 : Int32) {S : Mm} {H : Heap} {locs : List Loc} {ls : Array Slot} (hW : xW G false sz s H locs S) (hl : lv_has ls 4 [(0, .ref (G.2.2 10 0)), (1, .int v1), (2, .int v2)]) (h : F_X11_air v1 v2 S = some o) : wX p l e rmX11_air s m args below meth c H locs (xQi G false sz o) (XA G false sz) 0 ls [] := by
  unfold F_X11_air at h
  refine lv_aload_n X.1 X.2.1 dX11_air_0 rfl (lv_at hl 0 rfl) ?_
  refine x_getR X hW fd_Cell_medium (fun w h => List.mem_cons_of_mem _ (gin_X11 w h)) (List.mem_cons_of_mem _ gw21) z_1 dX11_air_1 ?_
  refine lv_iload_n X.1 X.2.1 dX11_air_4 rfl (lv_at hl 1 rfl) ?_
  obtain ⟨r1, S2, h3, h⟩ := cl_some h
  refine x_aftI X hW (x_runV (C := RX5) (a := G.2.2 4 0) (As := [.int v1]) (rest := []) X hW (c_X5_rowOf l G X.2.2.2.2.2.2.2.2.2.1 _ S v1 _ h3) (cwV 1 X.2.2.2.2.1 (gV gw328 gw329 gw330 gw20 gw331) rfl rfl rfl ⟨rfl, hd_X5_rowOf⟩ ⟨Nat.le_of_ble_eq_true rfl, Nat.le_of_ble_eq_true rfl⟩) (x_recv X hW ob_Medium z_1) rfl hl.1 rfl (Nat.le_of_ble_eq_true rfl) dX11_air_5 ⟨Nat.zero_le _, Nat.zero_le _⟩) (fun H locs hW => ?_)
  refine lv_istore_n (lv' := [(3, .int r1), (0, .ref (G.2.2 10 0)), (1, .int v1), (2, .int v2)]) X.1 X.2.1 dX11_air_8 rfl hl (by decide) rfl (fun ls hl => ?_)
  refine lv_iload_n X.1 X.2.1 dX11_air_9 rfl (lv_at hl 0 rfl) ?_
  refine lv_iconst (v := (-1)) X.1 X.2.1 dX11_air_10 rfl ?_
  refine x_icmp_ne X (tgt := 18) dX11_air_11 (by decide) h (fun h => ?_) (fun h => ?_)
  · refine lv_aload_n X.1 X.2.1 dX11_air_18 rfl (lv_at hl 1 rfl) ?_
    refine x_getR X hW fd_Cell_medium (fun w h => List.mem_cons_of_mem _ (gin_X11 w h)) (List.mem_cons_of_mem _ gw21) z_1 dX11_air_19 ?_
    refine lv_iload_n X.1 X.2.1 dX11_air_22 rfl (lv_at hl 0 rfl) ?_
    refine lv_iload_n X.1 X.2.1 dX11_air_23 rfl (lv_at hl 3 rfl) ?_
    obtain ⟨r4, S5, h6, h⟩ := cl_some h
    refine x_aftI X hW (x_runV (C := RX5) (a := G.2.2 4 0) (As := [.int r1, .int v2]) (rest := []) X hW (c_X5_detail l G X.2.2.2.2.2.2.2.2.2.1 _ S2 r1 v2 _ h6) (cwV 2 X.2.2.2.2.1 (gV gw1295 gw1296 gw1297 gw20 gw1298) rfl rfl rfl ⟨rfl, hd_X5_detail⟩ ⟨Nat.le_of_ble_eq_true rfl, Nat.le_of_ble_eq_true rfl⟩) (x_recv X hW ob_Medium z_1) rfl hl.1 rfl (Nat.le_of_ble_eq_true rfl) dX11_air_24 ⟨Nat.zero_le _, Nat.zero_le _⟩) (fun H locs hW => ?_)
    exact x_iret X hW h dX11_air_27
  · refine lv_iconst (v := (-1)) X.1 X.2.1 dX11_air_14 rfl ?_
    refine lv_goto (tgt := 27) X.1 X.2.1 dX11_air_15 (by decide) ?_
    exact x_iret X hW h dX11_air_27
theorem c_X11_air (l : Launch) (G : xG) (hD : xD G false) (sz : Nat) (S : Mm) (v1 : Int32) (v2 : Int32) (o : Int32 × Mm) (h : F_X11_air v1 v2 S = some o) : Met l yX11_air wsX11_air rmX11_air (xPre G false S sz [.ref (G.2.2 10 0), .int v1, .int v2]) (xQi G false sz o) 0 0 (XA G false sz) :=
  x_start hD (by decide) rfl (Nat.le_of_ble_eq_true rfl) (fun p e s m below meth c X hW ls hl => w_X11_air_0 X v1 v2 hW hl h)

/-! WirelessCell.count(I)I -/
def rmX11_count : Room := { frames := 0, cells := 0, slots := 0, locals := 0 }
def F_X11_count (v1 : Int32) (S : Mm) : Option (Int32 × Mm) :=
  if v1 = 0 then (
  gf S 76 0 fun x1 =>
  some (x1, S))
  else (
  if v1 = 1 then (
  gf S 73 0 fun x3 =>
  some (x3, S))
  else (
  if v1 = 2 then (
  gf S 75 0 fun x5 =>
  some (x5, S))
  else (
  if v1 = 3 then (
  gf S 60 0 fun x7 =>
  some (x7, S))
  else (
  if v1 = 4 then (
  gf S 105 0 fun x9 =>
  some (x9, S))
  else (
  if v1 = 5 then (
  gf S 106 0 fun x11 =>
  some (x11, S))
  else (
  if v1 = 6 then (
  gf S 77 0 fun x13 =>
  some (x13, S))
  else (
  if v1 = 7 then (
  gf S 109 0 fun x15 =>
  some (x15, S))
  else (
  if v1 = 8 then (
  gf S 101 0 fun x17 =>
  some (x17, S))
  else (
  some ((-1), S))))))))))
set_option maxRecDepth 100000 in
set_option maxHeartbeats 4000000 in
theorem w_X11_count_0 {p : Program} {l : Launch} {e : Env} {s : State} {m : MethodId} {args : Array Value} {below : List Frame} {meth : Method} {c : Code} {G : xG} {sz : Nat} {o : Int32 × Mm} (X : xC G false sz p s m args c cX11_count 2 wsX11_count RX11 meth (some .int)) (v1 : Int32) {S : Mm} {H : Heap} {locs : List Loc} {ls : Array Slot} (hW : xW G false sz s H locs S) (hl : lv_has ls 2 [(0, .ref (G.2.2 10 0)), (1, .int v1)]) (h : F_X11_count v1 S = some o) : wX p l e rmX11_count s m args below meth c H locs (xQi G false sz o) (XA G false sz) 0 ls [] := by
  unfold F_X11_count at h
  refine lv_iload_n X.1 X.2.1 dX11_count_0 rfl (lv_at hl 1 rfl) ?_
  refine x_ite h (fun g2 h => ?_) (fun g2 h => ?_)
  · refine lv_tableIn (off := 51) (tgt := 52) X.1 X.2.1 dX11_count_1 (by rw [g2]; decide) (by rw [g2]; decide) (by rw [g2]; try rfl) (by decide) ?_
    refine lv_aload_n X.1 X.2.1 dX11_count_52 rfl (lv_at hl 0 rfl) ?_
    refine x_getR X hW fd_Cell_medium (fun w h => List.mem_cons_of_mem _ (gin_X11 w h)) (List.mem_cons_of_mem _ gw21) z_1 dX11_count_53 ?_
    refine x_getI X hW fd_Medium_slot (fun w h => List.mem_cons_of_mem _ (gin_X5 w h)) (List.mem_cons_of_mem _ gw439) z_1 dX11_count_56 h (fun x1 h => ?_)
    exact x_iret X hW h dX11_count_59
  · refine x_ite h (fun g4 h => ?_) (fun g4 h => ?_)
    · refine lv_tableIn (off := 59) (tgt := 60) X.1 X.2.1 dX11_count_1 (by rw [g4]; decide) (by rw [g4]; decide) (by rw [g4]; try rfl) (by decide) ?_
      refine lv_aload_n X.1 X.2.1 dX11_count_60 rfl (lv_at hl 0 rfl) ?_
      refine x_getR X hW fd_Cell_medium (fun w h => List.mem_cons_of_mem _ (gin_X11 w h)) (List.mem_cons_of_mem _ gw21) z_1 dX11_count_61 ?_
      refine x_getI X hW fd_Medium_began (fun w h => List.mem_cons_of_mem _ (gin_X5 w h)) (List.mem_cons_of_mem _ gw594) z_1 dX11_count_64 h (fun x3 h => ?_)
      exact x_iret X hW h dX11_count_67
    · refine x_ite h (fun g6 h => ?_) (fun g6 h => ?_)
      · refine lv_tableIn (off := 67) (tgt := 68) X.1 X.2.1 dX11_count_1 (by rw [g6]; decide) (by rw [g6]; decide) (by rw [g6]; try rfl) (by decide) ?_
        refine lv_aload_n X.1 X.2.1 dX11_count_68 rfl (lv_at hl 0 rfl) ?_
        refine x_getR X hW fd_Cell_medium (fun w h => List.mem_cons_of_mem _ (gin_X11 w h)) (List.mem_cons_of_mem _ gw21) z_1 dX11_count_69 ?_
        refine x_getI X hW fd_Medium_notClean (fun w h => List.mem_cons_of_mem _ (gin_X5 w h)) (List.mem_cons_of_mem _ gw1307) z_1 dX11_count_72 h (fun x5 h => ?_)
        exact x_iret X hW h dX11_count_75
      · refine x_ite h (fun g8 h => ?_) (fun g8 h => ?_)
        · refine lv_tableIn (off := 75) (tgt := 76) X.1 X.2.1 dX11_count_1 (by rw [g8]; decide) (by rw [g8]; decide) (by rw [g8]; try rfl) (by decide) ?_
          refine lv_aload_n X.1 X.2.1 dX11_count_76 rfl (lv_at hl 0 rfl) ?_
          refine x_getR X hW fd_Cell_draws (fun w h => List.mem_cons_of_mem _ (gin_X11 w h)) (List.mem_cons_of_mem _ gw29) z_1 dX11_count_77 ?_
          refine x_getI X hW fd_Draws_left (fun w h => List.mem_cons_of_mem _ (gin_X1 w h)) (List.mem_cons_of_mem _ gw421) z_1 dX11_count_80 h (fun x7 h => ?_)
          exact x_iret X hW h dX11_count_83
        · refine x_ite h (fun g10 h => ?_) (fun g10 h => ?_)
          · refine lv_tableIn (off := 83) (tgt := 84) X.1 X.2.1 dX11_count_1 (by rw [g10]; decide) (by rw [g10]; decide) (by rw [g10]; try rfl) (by decide) ?_
            refine lv_aload_n X.1 X.2.1 dX11_count_84 rfl (lv_at hl 0 rfl) ?_
            refine x_getI X hW fd_Cell_tapeLength (fun w h => List.mem_cons_of_mem _ (gin_X11 w h)) (List.mem_cons_of_mem _ gw260) z_1 dX11_count_85 h (fun x9 h => ?_)
            exact x_iret X hW h dX11_count_88
          · refine x_ite h (fun g12 h => ?_) (fun g12 h => ?_)
            · refine lv_tableIn (off := 88) (tgt := 89) X.1 X.2.1 dX11_count_1 (by rw [g12]; decide) (by rw [g12]; decide) (by rw [g12]; try rfl) (by decide) ?_
              refine lv_aload_n X.1 X.2.1 dX11_count_89 rfl (lv_at hl 0 rfl) ?_
              refine x_getI X hW fd_Cell_submissions (fun w h => List.mem_cons_of_mem _ (gin_X11 w h)) (List.mem_cons_of_mem _ gw566) z_1 dX11_count_90 h (fun x11 h => ?_)
              exact x_iret X hW h dX11_count_93
            · refine x_ite h (fun g14 h => ?_) (fun g14 h => ?_)
              · refine lv_tableIn (off := 93) (tgt := 94) X.1 X.2.1 dX11_count_1 (by rw [g14]; decide) (by rw [g14]; decide) (by rw [g14]; try rfl) (by decide) ?_
                refine lv_aload_n X.1 X.2.1 dX11_count_94 rfl (lv_at hl 0 rfl) ?_
                refine x_getR X hW fd_Cell_medium (fun w h => List.mem_cons_of_mem _ (gin_X11 w h)) (List.mem_cons_of_mem _ gw21) z_1 dX11_count_95 ?_
                refine x_getI X hW fd_Medium_quietSlots (fun w h => List.mem_cons_of_mem _ (gin_X5 w h)) (List.mem_cons_of_mem _ gw1308) z_1 dX11_count_98 h (fun x13 h => ?_)
                exact x_iret X hW h dX11_count_101
              · refine x_ite h (fun g16 h => ?_) (fun g16 h => ?_)
                · refine lv_tableIn (off := 101) (tgt := 102) X.1 X.2.1 dX11_count_1 (by rw [g16]; decide) (by rw [g16]; decide) (by rw [g16]; try rfl) (by decide) ?_
                  refine lv_aload_n X.1 X.2.1 dX11_count_102 rfl (lv_at hl 0 rfl) ?_
                  refine x_getI X hW fd_Cell_failures (fun w h => List.mem_cons_of_mem _ (gin_X11 w h)) (List.mem_cons_of_mem _ gw991) z_1 dX11_count_103 h (fun x15 h => ?_)
                  exact x_iret X hW h dX11_count_106
                · refine x_ite h (fun g18 h => ?_) (fun g18 h => ?_)
                  · refine lv_tableIn (off := 106) (tgt := 107) X.1 X.2.1 dX11_count_1 (by rw [g18]; decide) (by rw [g18]; decide) (by rw [g18]; try rfl) (by decide) ?_
                    refine lv_aload_n X.1 X.2.1 dX11_count_107 rfl (lv_at hl 0 rfl) ?_
                    refine x_getR X hW fd_Cell_puts (fun w h => List.mem_cons_of_mem _ (gin_X11 w h)) (List.mem_cons_of_mem _ gw25) z_1 dX11_count_108 ?_
                    refine x_getI X hW fd_Puts_used (fun w h => List.mem_cons_of_mem _ (gin_X8 w h)) (List.mem_cons_of_mem _ gw457) z_1 dX11_count_111 h (fun x17 h => ?_)
                    exact x_iret X hW h dX11_count_114
                  · have zg2 := lv_neT g2 (show Int32.toInt 0 = 0 from rfl)
                    have zg4 := lv_neT g4 (show Int32.toInt 1 = 1 from rfl)
                    have zg6 := lv_neT g6 (show Int32.toInt 2 = 2 from rfl)
                    have zg8 := lv_neT g8 (show Int32.toInt 3 = 3 from rfl)
                    have zg10 := lv_neT g10 (show Int32.toInt 4 = 4 from rfl)
                    have zg12 := lv_neT g12 (show Int32.toInt 5 = 5 from rfl)
                    have zg14 := lv_neT g14 (show Int32.toInt 6 = 6 from rfl)
                    have zg16 := lv_neT g16 (show Int32.toInt 7 = 7 from rfl)
                    have zg18 := lv_neT g18 (show Int32.toInt 8 = 8 from rfl)
                    refine lv_tableOut (tgt := 115) X.1 X.2.1 dX11_count_1 (by omega) (by decide) ?_
                    refine lv_iconst (v := (-1)) X.1 X.2.1 dX11_count_115 rfl ?_
                    exact x_iret X hW h dX11_count_116
theorem c_X11_count (l : Launch) (G : xG) (hD : xD G false) (sz : Nat) (S : Mm) (v1 : Int32) (o : Int32 × Mm) (h : F_X11_count v1 S = some o) : Met l yX11_count wsX11_count rmX11_count (xPre G false S sz [.ref (G.2.2 10 0), .int v1]) (xQi G false sz o) 0 0 (XA G false sz) :=
  x_start hD (by decide) rfl (Nat.le_of_ble_eq_true rfl) (fun p e s m below meth c X hW ls hl => w_X11_count_0 X v1 hW hl h)

/-! WirelessCellModel.in(JJJ)Z -/
def rmX12_in : Room := { frames := 0, cells := 0, slots := 0, locals := 0 }
def L_X12_in_17   (S : Mm) : Option (Int32 × Mm) :=
  some (0, S)
def F_X12_in (v0 : Int64) (v2 : Int64) (v4 : Int64) (S : Mm) : Option (Int32 × Mm) :=
  if (lg_cmp v0 v2) < 0 then (
  L_X12_in_17  S)
  else (
  if 0 < (lg_cmp v0 v4) then (
  L_X12_in_17  S)
  else (
  some (1, S)))
set_option maxRecDepth 100000 in
set_option maxHeartbeats 4000000 in
theorem w_X12_in_17 {p : Program} {l : Launch} {e : Env} {s : State} {m : MethodId} {args : Array Value} {below : List Frame} {meth : Method} {c : Code} {G : xG} {sz : Nat} {o : Int32 × Mm} (X : xC G true sz p s m args c cX12_in 6 wsX12_in RX12 meth (some .boolean))    {S : Mm} {H : Heap} {locs : List Loc} {ls : Array Slot} (hW : xW G true sz s H locs S) (hl : lv_has ls 6 []) (h : L_X12_in_17   S = some o) : wX p l e rmX12_in s m args below meth c H locs (xQi G true sz o) (XA G true sz) 17 ls [] := by
  unfold L_X12_in_17 at h
  refine lv_iconst (v := 0) X.1 X.2.1 dX12_in_17 rfl ?_
  exact x_zret X hW h rfl dX12_in_18
set_option maxRecDepth 100000 in
set_option maxHeartbeats 4000000 in
theorem w_X12_in_0 {p : Program} {l : Launch} {e : Env} {s : State} {m : MethodId} {args : Array Value} {below : List Frame} {meth : Method} {c : Code} {G : xG} {sz : Nat} {o : Int32 × Mm} (X : xC G true sz p s m args c cX12_in 6 wsX12_in RX12 meth (some .boolean)) (v0 : Int64) (v2 : Int64) (v4 : Int64) {S : Mm} {H : Heap} {locs : List Loc} {ls : Array Slot} (hW : xW G true sz s H locs S) (hl : lv_has ls 6 [(0, .long v0), (2, .long v2), (4, .long v4)]) (h : F_X12_in v0 v2 v4 S = some o) : wX p l e rmX12_in s m args below meth c H locs (xQi G true sz o) (XA G true sz) 0 ls [] := by
  unfold F_X12_in at h
  refine lv_lload_n X.1 X.2.1 dX12_in_0 rfl (lv_at hl 0 rfl) ?_
  refine lv_lload_n X.1 X.2.1 dX12_in_1 rfl (lv_at hl 1 rfl) ?_
  refine W.lcmp X.1 X.2.1 dX12_in_2 ?_
  refine x_if_lt X (tgt := 17) dX12_in_3 (by decide) h (fun h => ?_) (fun h => ?_)
  · exact w_X12_in_17 X    hW (lv_sub hl [] rfl) h
  · refine lv_lload_n X.1 X.2.1 dX12_in_6 rfl (lv_at hl 0 rfl) ?_
    refine lv_lload X.1 X.2.1 dX12_in_7 (lv_at hl 2 rfl) ?_
    refine W.lcmp X.1 X.2.1 dX12_in_9 ?_
    refine x_if_gt X (tgt := 17) dX12_in_10 (by decide) h (fun h => ?_) (fun h => ?_)
    · exact w_X12_in_17 X    hW (lv_sub hl [] rfl) h
    · refine lv_iconst (v := 1) X.1 X.2.1 dX12_in_13 rfl ?_
      refine lv_goto (tgt := 18) X.1 X.2.1 dX12_in_14 (by decide) ?_
      exact x_zret X hW h rfl dX12_in_18
theorem c_X12_in (l : Launch) (G : xG) (hD : xD G true) (sz : Nat) (S : Mm) (v0 : Int64) (v2 : Int64) (v4 : Int64) (o : Int32 × Mm) (h : F_X12_in v0 v2 v4 S = some o) : Met l yX12_in wsX12_in rmX12_in (xPre G true S sz [.long v0, .long v2, .long v4]) (xQi G true sz o) 0 0 (XA G true sz) :=
  x_start hD (by decide) rfl (Nat.le_of_ble_eq_true rfl) (fun p e s m below meth c X hW ls hl => w_X12_in_0 X v0 v2 v4 hW hl h)

/-! WirelessCellModel.hashBegin()V -/
def rmX12_hashBegin : Room := { frames := 0, cells := 0, slots := 0, locals := 0 }
def F_X12_hashBegin  (S : Mm) : Option (Unit × Mm) :=
  stA S 201 0 5 1 0 1732584193 fun S1 =>
  stA S1 201 0 5 1 1 (-271733879) fun S2 =>
  stA S2 201 0 5 1 2 (-1732584194) fun S3 =>
  stA S3 201 0 5 1 3 271733878 fun S4 =>
  stA S4 201 0 5 1 4 (-1009589776) fun S5 =>
  pf S5 289 0 0 fun S6 =>
  pl S6 290 0 0 fun S7 =>
  some ((), S7)
set_option maxRecDepth 100000 in
set_option maxHeartbeats 4000000 in
theorem w_X12_hashBegin_0 {p : Program} {l : Launch} {e : Env} {s : State} {m : MethodId} {args : Array Value} {below : List Frame} {meth : Method} {c : Code} {G : xG} {sz : Nat} {o : Unit × Mm} (X : xC G true sz p s m args c cX12_hashBegin 1 wsX12_hashBegin RX12 meth none)  {S : Mm} {H : Heap} {locs : List Loc} {ls : Array Slot} (hW : xW G true sz s H locs S) (hl : lv_has ls 1 [(0, .ref (G.2.2 200 0))]) (h : F_X12_hashBegin  S = some o) : wX p l e rmX12_hashBegin s m args below meth c H locs (xQv G true sz o) (XA G true sz) 0 ls [] := by
  unfold F_X12_hashBegin at h
  refine lv_aload_n X.1 X.2.1 dX12_hashBegin_0 rfl (lv_at hl 0 rfl) ?_
  refine x_getR X hW fd_Model_h (fun w h => List.mem_cons_of_mem _ (gin_X12 w h)) (List.mem_cons_of_mem _ gw151) z_1 dX12_hashBegin_1 ?_
  refine lv_iconst (v := 0) X.1 X.2.1 dX12_hashBegin_4 rfl ?_
  refine lv_ldcw (v := 1732584193) X.1 X.2.1 X.2.2.2.1 (X.2.2.2.2.1 _ (List.mem_cons_of_mem _ gw1147)) dX12_hashBegin_5 ?_
  refine x_iast X hW ar_201 dX12_hashBegin_8 h (fun S1 H locs h hW => ?_)
  refine lv_aload_n X.1 X.2.1 dX12_hashBegin_9 rfl (lv_at hl 0 rfl) ?_
  refine x_getR X hW fd_Model_h (fun w h => List.mem_cons_of_mem _ (gin_X12 w h)) (List.mem_cons_of_mem _ gw151) z_1 dX12_hashBegin_10 ?_
  refine lv_iconst (v := 1) X.1 X.2.1 dX12_hashBegin_13 rfl ?_
  refine lv_ldcw (v := (-271733879)) X.1 X.2.1 X.2.2.2.1 (X.2.2.2.2.1 _ (List.mem_cons_of_mem _ gw1148)) dX12_hashBegin_14 ?_
  refine x_iast X hW ar_201 dX12_hashBegin_17 h (fun S2 H locs h hW => ?_)
  refine lv_aload_n X.1 X.2.1 dX12_hashBegin_18 rfl (lv_at hl 0 rfl) ?_
  refine x_getR X hW fd_Model_h (fun w h => List.mem_cons_of_mem _ (gin_X12 w h)) (List.mem_cons_of_mem _ gw151) z_1 dX12_hashBegin_19 ?_
  refine lv_iconst (v := 2) X.1 X.2.1 dX12_hashBegin_22 rfl ?_
  refine lv_ldcw (v := (-1732584194)) X.1 X.2.1 X.2.2.2.1 (X.2.2.2.2.1 _ (List.mem_cons_of_mem _ gw1149)) dX12_hashBegin_23 ?_
  refine x_iast X hW ar_201 dX12_hashBegin_26 h (fun S3 H locs h hW => ?_)
  refine lv_aload_n X.1 X.2.1 dX12_hashBegin_27 rfl (lv_at hl 0 rfl) ?_
  refine x_getR X hW fd_Model_h (fun w h => List.mem_cons_of_mem _ (gin_X12 w h)) (List.mem_cons_of_mem _ gw151) z_1 dX12_hashBegin_28 ?_
  refine lv_iconst (v := 3) X.1 X.2.1 dX12_hashBegin_31 rfl ?_
  refine lv_ldcw (v := 271733878) X.1 X.2.1 X.2.2.2.1 (X.2.2.2.2.1 _ (List.mem_cons_of_mem _ gw1150)) dX12_hashBegin_32 ?_
  refine x_iast X hW ar_201 dX12_hashBegin_35 h (fun S4 H locs h hW => ?_)
  refine lv_aload_n X.1 X.2.1 dX12_hashBegin_36 rfl (lv_at hl 0 rfl) ?_
  refine x_getR X hW fd_Model_h (fun w h => List.mem_cons_of_mem _ (gin_X12 w h)) (List.mem_cons_of_mem _ gw151) z_1 dX12_hashBegin_37 ?_
  refine lv_iconst (v := 4) X.1 X.2.1 dX12_hashBegin_40 rfl ?_
  refine lv_ldcw (v := (-1009589776)) X.1 X.2.1 X.2.2.2.1 (X.2.2.2.2.1 _ (List.mem_cons_of_mem _ gw1151)) dX12_hashBegin_41 ?_
  refine x_iast X hW ar_201 dX12_hashBegin_44 h (fun S5 H locs h hW => ?_)
  refine lv_aload_n X.1 X.2.1 dX12_hashBegin_45 rfl (lv_at hl 0 rfl) ?_
  refine lv_iconst (v := 0) X.1 X.2.1 dX12_hashBegin_46 rfl ?_
  refine x_putI X hW fd_Model_filled (fun w h => List.mem_cons_of_mem _ (gin_X12 w h)) (List.mem_cons_of_mem _ gw1152) z_1 dX12_hashBegin_47 tyX12 tyX12_ok nmX12 rfl rfl rfl h (fun S6 H locs h hW => ?_)
  refine lv_aload_n X.1 X.2.1 dX12_hashBegin_50 rfl (lv_at hl 0 rfl) ?_
  refine lv_lconst (v := 0) X.1 X.2.1 dX12_hashBegin_51 rfl ?_
  refine x_putL X hW fd_Model_hashed (fun w h => List.mem_cons_of_mem _ (gin_X12 w h)) (List.mem_cons_of_mem _ gw1153) z_1 dX12_hashBegin_52 tyX12 tyX12_ok nmX12 rfl rfl rfl h (fun S7 H locs h hW => ?_)
  exact x_vret X hW h dX12_hashBegin_55
theorem c_X12_hashBegin (l : Launch) (G : xG) (hD : xD G true) (sz : Nat) (S : Mm)  (o : Unit × Mm) (h : F_X12_hashBegin  S = some o) : Met l yX12_hashBegin wsX12_hashBegin rmX12_hashBegin (xPre G true S sz [.ref (G.2.2 200 0)]) (xQv G true sz o) 0 0 (XA G true sz) :=
  x_start hD (by decide) rfl (Nat.le_of_ble_eq_true rfl) (fun p e s m below meth c X hW ls hl => w_X12_hashBegin_0 X  hW hl h)

/-! WirelessCellModel.left(II)I -/
def rmX12_left : Room := { frames := 0, cells := 0, slots := 0, locals := 0 }
def F_X12_left (v0 : Int32) (v1 : Int32) (S : Mm) : Option (Int32 × Mm) :=
  some (((v0 <<< (v1 &&& 31)) ||| (iu v0 (32 - v1))), S)
set_option maxRecDepth 100000 in
set_option maxHeartbeats 4000000 in
theorem w_X12_left_0 {p : Program} {l : Launch} {e : Env} {s : State} {m : MethodId} {args : Array Value} {below : List Frame} {meth : Method} {c : Code} {G : xG} {sz : Nat} {o : Int32 × Mm} (X : xC G true sz p s m args c cX12_left 2 wsX12_left RX12 meth (some .int)) (v0 : Int32) (v1 : Int32) {S : Mm} {H : Heap} {locs : List Loc} {ls : Array Slot} (hW : xW G true sz s H locs S) (hl : lv_has ls 2 [(0, .int v0), (1, .int v1)]) (h : F_X12_left v0 v1 S = some o) : wX p l e rmX12_left s m args below meth c H locs (xQi G true sz o) (XA G true sz) 0 ls [] := by
  unfold F_X12_left at h
  refine lv_iload_n X.1 X.2.1 dX12_left_0 rfl (lv_at hl 0 rfl) ?_
  refine lv_iload_n X.1 X.2.1 dX12_left_1 rfl (lv_at hl 1 rfl) ?_
  refine lv_ishl X.1 X.2.1 dX12_left_2 ?_
  refine lv_iload_n X.1 X.2.1 dX12_left_3 rfl (lv_at hl 0 rfl) ?_
  refine lv_bipush (v := 32) X.1 X.2.1 dX12_left_4 rfl ?_
  refine lv_iload_n X.1 X.2.1 dX12_left_6 rfl (lv_at hl 1 rfl) ?_
  refine lv_isub X.1 X.2.1 dX12_left_7 ?_
  refine lv_iushr (v := (iu v0 (32 - v1))) X.1 X.2.1 dX12_left_8 rfl ?_
  refine lv_ior X.1 X.2.1 dX12_left_9 ?_
  exact x_iret X hW h dX12_left_10
theorem c_X12_left (l : Launch) (G : xG) (hD : xD G true) (sz : Nat) (S : Mm) (v0 : Int32) (v1 : Int32) (o : Int32 × Mm) (h : F_X12_left v0 v1 S = some o) : Met l yX12_left wsX12_left rmX12_left (xPre G true S sz [.int v0, .int v1]) (xQi G true sz o) 0 0 (XA G true sz) :=
  x_start hD (by decide) rfl (Nat.le_of_ble_eq_true rfl) (fun p e s m below meth c X hW ls hl => w_X12_left_0 X v0 v1 hW hl h)

/-! WirelessCellModel.hash(I)V -/
def rmX12_hash : Room := { frames := 1, cells := 0, slots := 0, locals := 21 }
def L_X12_hash_334 (k223 : Int32 → Int32 → Int32 → Int32 → Int32 → Int32 → Mm → Option (Unit × Mm)) (v2 : Int32) (v3 : Int32) (v4 : Int32) (v5 : Int32) (v6 : Int32) (v7 : Int32) (v8 : Int32) (s0 : Int32) (S : Mm) : Option (Unit × Mm) :=
  cl (F_X12_left v2 5 S) fun r37 S38 =>
  ldA S38 202 0 80 1 v7 fun x40 =>
  tp ((((r37 + v8) + v6) + x40) + s0) fun x41 =>
  cl (F_X12_left v3 30 S38) fun r42 S43 =>
  k223 x41 v2 r42 v4 v5 (v7 + 1) S43
def L_X12_hash_290 (k223 : Int32 → Int32 → Int32 → Int32 → Int32 → Int32 → Mm → Option (Unit × Mm)) (v2 : Int32) (v3 : Int32) (v4 : Int32) (v5 : Int32) (v6 : Int32) (v7 : Int32) (s0 : Int32) (S : Mm) : Option (Unit × Mm) :=
  if 20 ≤ v7 then (
  if 40 ≤ v7 then (
  if 60 ≤ v7 then (
  L_X12_hash_334 k223 v2 v3 v4 v5 v6 v7 s0 (-899497514) S)
  else (
  L_X12_hash_334 k223 v2 v3 v4 v5 v6 v7 s0 (-1894007588) S))
  else (
  L_X12_hash_334 k223 v2 v3 v4 v5 v6 v7 s0 1859775393 S))
  else (
  L_X12_hash_334 k223 v2 v3 v4 v5 v6 v7 s0 1518500249 S)
def L_X12_hash_265 (k223 : Int32 → Int32 → Int32 → Int32 → Int32 → Int32 → Mm → Option (Unit × Mm)) (v2 : Int32) (v3 : Int32) (v4 : Int32) (v5 : Int32) (v6 : Int32) (v7 : Int32) (S : Mm) : Option (Unit × Mm) :=
  L_X12_hash_290 k223 v2 v3 v4 v5 v6 v7 ((v3 ^^^ v4) ^^^ v5) S
def L_X12_hash_223   : Nat → Int32 → Int32 → Int32 → Int32 → Int32 → Int32 → Mm → Option (Unit × Mm)
  | 0, _, _, _, _, _, _, _ => none
  | n + 1, v2, v3, v4, v5, v6, v7, S => 
    if 80 ≤ v7 then (
    ldA S 201 0 5 1 0 fun x27 =>
    stA S 201 0 5 1 0 (x27 + v2) fun S28 =>
    ldA S28 201 0 5 1 1 fun x29 =>
    stA S28 201 0 5 1 1 (x29 + v3) fun S30 =>
    ldA S30 201 0 5 1 2 fun x31 =>
    stA S30 201 0 5 1 2 (x31 + v4) fun S32 =>
    ldA S32 201 0 5 1 3 fun x33 =>
    stA S32 201 0 5 1 3 (x33 + v5) fun S34 =>
    ldA S34 201 0 5 1 4 fun x35 =>
    stA S34 201 0 5 1 4 (x35 + v6) fun S36 =>
    some ((), S36))
    else (
    if 20 ≤ v7 then (
    if v7 < 40 then (
    L_X12_hash_265 (L_X12_hash_223  n) v2 v3 v4 v5 v6 v7 S)
    else (
    if v7 < 60 then (
    L_X12_hash_290 (L_X12_hash_223  n) v2 v3 v4 v5 v6 v7 (((v3 &&& v4) ||| (v3 &&& v5)) ||| (v4 &&& v5)) S)
    else (
    L_X12_hash_265 (L_X12_hash_223  n) v2 v3 v4 v5 v6 v7 S)))
    else (
    L_X12_hash_290 (L_X12_hash_223  n) v2 v3 v4 v5 v6 v7 ((v3 &&& v4) ||| ((v3 ^^^ (-1)) &&& v5)) S))
def L_X12_hash_122   : Nat → Int32 → Mm → Option (Unit × Mm)
  | 0, _, _ => none
  | n + 1, v2, S => 
    if 80 ≤ v2 then (
    ldA S 201 0 5 1 0 fun x14 =>
    ldA S 201 0 5 1 1 fun x15 =>
    ldA S 201 0 5 1 2 fun x16 =>
    ldA S 201 0 5 1 3 fun x17 =>
    ldA S 201 0 5 1 4 fun x18 =>
    L_X12_hash_223   fu x14 x15 x16 x17 x18 0 S)
    else (
    ldA S 202 0 80 1 (v2 - 3) fun x19 =>
    ldA S 202 0 80 1 (v2 - 8) fun x20 =>
    ldA S 202 0 80 1 (v2 - 14) fun x21 =>
    ldA S 202 0 80 1 (v2 - 16) fun x22 =>
    cl (F_X12_left (((x19 ^^^ x20) ^^^ x21) ^^^ x22) 1 S) fun r23 S24 =>
    stA S24 202 0 80 1 v2 r23 fun S26 =>
    (L_X12_hash_122  n) (v2 + 1) S26)
def L_X12_hash_51   : Nat → Int32 → Mm → Option (Unit × Mm)
  | 0, _, _ => none
  | n + 1, v2, S => 
    if 16 ≤ v2 then (
    L_X12_hash_122   fu 16 S)
    else (
    ldA S 203 0 64 1 (4 * v2) fun x9 =>
    ldA S 203 0 64 1 ((4 * v2) + 1) fun x10 =>
    ldA S 203 0 64 1 ((4 * v2) + 2) fun x11 =>
    ldA S 203 0 64 1 ((4 * v2) + 3) fun x12 =>
    stA S 202 0 80 1 v2 ((((x9 <<< (24 &&& 31)) ||| (x10 <<< (16 &&& 31))) ||| (x11 <<< (8 &&& 31))) ||| x12) fun S13 =>
    (L_X12_hash_51  n) (v2 + 1) S13)
def F_X12_hash (v1 : Int32) (S : Mm) : Option (Unit × Mm) :=
  gf S 289 0 fun x1 =>
  stA S 203 0 64 1 x1 (v1 &&& 255) fun S2 =>
  gf S2 289 0 fun x3 =>
  pf S2 289 0 (x3 + 1) fun S4 =>
  gl S4 290 0 fun x5 =>
  pl S4 290 0 (x5 + 1) fun S6 =>
  gf S6 289 0 fun x7 =>
  if 64 ≤ x7 then (
  pf S6 289 0 0 fun S8 =>
  L_X12_hash_51   fu 0 S8)
  else (
  some ((), S6))
set_option maxRecDepth 100000 in
set_option maxHeartbeats 4000000 in
theorem w_X12_hash_334 {p : Program} {l : Launch} {e : Env} {s : State} {m : MethodId} {args : Array Value} {below : List Frame} {meth : Method} {c : Code} {G : xG} {sz : Nat} {o : Unit × Mm} (X : xC G true sz p s m args c cX12_hash 11 wsX12_hash RX12 meth none) (v2 : Int32) (v3 : Int32) (v4 : Int32) (v5 : Int32) (v6 : Int32) (v7 : Int32) (v8 : Int32) (s0 : Int32)  (k223 : Int32 → Int32 → Int32 → Int32 → Int32 → Int32 → Mm → Option (Unit × Mm)) (hk223 : ∀ (v2 : Int32) (v3 : Int32) (v4 : Int32) (v5 : Int32) (v6 : Int32) (v7 : Int32) (S : Mm) (H : Heap) (locs : List Loc) (ls : Array Slot), k223 v2 v3 v4 v5 v6 v7 S = some o → xW G true sz s H locs S → lv_has ls 11 [(0, .ref (G.2.2 200 0)), (2, .int v2), (3, .int v3), (4, .int v4), (5, .int v5), (6, .int v6), (7, .int v7)] → wX p l e rmX12_hash s m args below meth c H locs (xQv G true sz o) (XA G true sz) 223 ls []) {S : Mm} {H : Heap} {locs : List Loc} {ls : Array Slot} (hW : xW G true sz s H locs S) (hl : lv_has ls 11 [(0, .ref (G.2.2 200 0)), (2, .int v2), (3, .int v3), (4, .int v4), (5, .int v5), (6, .int v6), (7, .int v7), (8, .int v8)]) (h : L_X12_hash_334 k223 v2 v3 v4 v5 v6 v7 v8 s0 S = some o) : wX p l e rmX12_hash s m args below meth c H locs (xQv G true sz o) (XA G true sz) 334 ls [.int s0] := by
  unfold L_X12_hash_334 at h
  refine lv_istore (lv' := [(9, .int s0), (0, .ref (G.2.2 200 0)), (2, .int v2), (3, .int v3), (4, .int v4), (5, .int v5), (6, .int v6), (7, .int v7), (8, .int v8)]) X.1 X.2.1 dX12_hash_334 hl (by decide) rfl (fun ls hl => ?_)
  refine lv_iload_n X.1 X.2.1 dX12_hash_336 rfl (lv_at hl 2 rfl) ?_
  refine lv_iconst (v := 5) X.1 X.2.1 dX12_hash_337 rfl ?_
  obtain ⟨r37, S38, h39, h⟩ := cl_some h
  refine x_aftI X hW (x_runS (As := [.int v2, .int 5]) (rest := []) X hW (c_X12_left l G X.2.2.2.2.2.2.2.2.2.1 _ S v2 5 _ h39) (va_cwS 2 X.2.2.2.2.1 (gS gw1162 gw1163 gw5 gw1164) rfl rfl rfl hd_X12_left ⟨Nat.le_of_ble_eq_true rfl, Nat.le_of_ble_eq_true rfl⟩) rfl hl.1 rfl (Nat.le_of_ble_eq_true rfl) dX12_hash_338 ⟨Nat.zero_le _, Nat.zero_le _⟩) (fun H locs hW => ?_)
  refine lv_iload X.1 X.2.1 dX12_hash_341 (lv_at hl 8 rfl) ?_
  refine lv_iadd X.1 X.2.1 dX12_hash_343 ?_
  refine lv_iload X.1 X.2.1 dX12_hash_344 (lv_at hl 6 rfl) ?_
  refine lv_iadd X.1 X.2.1 dX12_hash_346 ?_
  refine lv_aload_n X.1 X.2.1 dX12_hash_347 rfl (lv_at hl 1 rfl) ?_
  refine x_getR X hW fd_Model_w (fun w h => List.mem_cons_of_mem _ (gin_X12 w h)) (List.mem_cons_of_mem _ gw152) z_1 dX12_hash_348 ?_
  refine lv_iload X.1 X.2.1 dX12_hash_351 (lv_at hl 7 rfl) ?_
  refine x_iald X hW ar_202 dX12_hash_353 h (fun x40 h => ?_)
  refine lv_iadd X.1 X.2.1 dX12_hash_354 ?_
  refine lv_iload X.1 X.2.1 dX12_hash_355 (lv_at hl 0 rfl) ?_
  refine lv_iadd X.1 X.2.1 dX12_hash_357 ?_
  refine x_top h (fun x41 h => ?_)
  refine lv_istore (lv' := [(10, .int x41), (9, .int s0), (0, .ref (G.2.2 200 0)), (2, .int v2), (3, .int v3), (4, .int v4), (5, .int v5), (6, .int v6), (7, .int v7), (8, .int v8)]) X.1 X.2.1 dX12_hash_358 hl (by decide) rfl (fun ls hl => ?_)
  refine lv_iload X.1 X.2.1 dX12_hash_360 (lv_at hl 6 rfl) ?_
  refine lv_istore (lv' := [(6, .int v5), (10, .int x41), (9, .int s0), (0, .ref (G.2.2 200 0)), (2, .int v2), (3, .int v3), (4, .int v4), (5, .int v5), (7, .int v7), (8, .int v8)]) X.1 X.2.1 dX12_hash_362 hl (by decide) rfl (fun ls hl => ?_)
  refine lv_iload X.1 X.2.1 dX12_hash_364 (lv_at hl 6 rfl) ?_
  refine lv_istore (lv' := [(5, .int v4), (6, .int v5), (10, .int x41), (9, .int s0), (0, .ref (G.2.2 200 0)), (2, .int v2), (3, .int v3), (4, .int v4), (7, .int v7), (8, .int v8)]) X.1 X.2.1 dX12_hash_366 hl (by decide) rfl (fun ls hl => ?_)
  refine lv_iload_n X.1 X.2.1 dX12_hash_368 rfl (lv_at hl 6 rfl) ?_
  refine lv_bipush (v := 30) X.1 X.2.1 dX12_hash_369 rfl ?_
  obtain ⟨r42, S43, h44, h⟩ := cl_some h
  refine x_aftI X hW (x_runS (As := [.int v3, .int 30]) (rest := []) X hW (c_X12_left l G X.2.2.2.2.2.2.2.2.2.1 _ S38 v3 30 _ h44) (va_cwS 2 X.2.2.2.2.1 (gS gw1162 gw1163 gw5 gw1164) rfl rfl rfl hd_X12_left ⟨Nat.le_of_ble_eq_true rfl, Nat.le_of_ble_eq_true rfl⟩) rfl hl.1 rfl (Nat.le_of_ble_eq_true rfl) dX12_hash_371 ⟨Nat.zero_le _, Nat.zero_le _⟩) (fun H locs hW => ?_)
  refine lv_istore (lv' := [(4, .int r42), (5, .int v4), (6, .int v5), (10, .int x41), (9, .int s0), (0, .ref (G.2.2 200 0)), (2, .int v2), (3, .int v3), (7, .int v7), (8, .int v8)]) X.1 X.2.1 dX12_hash_374 hl (by decide) rfl (fun ls hl => ?_)
  refine lv_iload_n X.1 X.2.1 dX12_hash_376 rfl (lv_at hl 6 rfl) ?_
  refine lv_istore_n (lv' := [(3, .int v2), (4, .int r42), (5, .int v4), (6, .int v5), (10, .int x41), (9, .int s0), (0, .ref (G.2.2 200 0)), (2, .int v2), (7, .int v7), (8, .int v8)]) X.1 X.2.1 dX12_hash_377 rfl hl (by decide) rfl (fun ls hl => ?_)
  refine lv_iload X.1 X.2.1 dX12_hash_378 (lv_at hl 4 rfl) ?_
  refine lv_istore_n (lv' := [(2, .int x41), (3, .int v2), (4, .int r42), (5, .int v4), (6, .int v5), (10, .int x41), (9, .int s0), (0, .ref (G.2.2 200 0)), (7, .int v7), (8, .int v8)]) X.1 X.2.1 dX12_hash_380 rfl hl (by decide) rfl (fun ls hl => ?_)
  refine lv_iinc (v := (v7 + 1)) (lv' := [(7, .int (v7 + 1)), (2, .int x41), (3, .int v2), (4, .int r42), (5, .int v4), (6, .int v5), (10, .int x41), (9, .int s0), (0, .ref (G.2.2 200 0)), (8, .int v8)]) X.1 X.2.1 dX12_hash_381 hl (k := 8) rfl rfl (by decide) rfl (fun ls hl => ?_)
  refine lv_goto (tgt := 223) X.1 X.2.1 dX12_hash_384 (by decide) ?_
  exact hk223 x41 v2 r42 v4 v5 (v7 + 1) S43 _ _ _ h hW  (lv_sub hl [8, 1, 2, 3, 4, 5, 0] rfl)
set_option maxRecDepth 100000 in
set_option maxHeartbeats 4000000 in
theorem w_X12_hash_290 {p : Program} {l : Launch} {e : Env} {s : State} {m : MethodId} {args : Array Value} {below : List Frame} {meth : Method} {c : Code} {G : xG} {sz : Nat} {o : Unit × Mm} (X : xC G true sz p s m args c cX12_hash 11 wsX12_hash RX12 meth none) (v2 : Int32) (v3 : Int32) (v4 : Int32) (v5 : Int32) (v6 : Int32) (v7 : Int32) (s0 : Int32)  (k223 : Int32 → Int32 → Int32 → Int32 → Int32 → Int32 → Mm → Option (Unit × Mm)) (hk223 : ∀ (v2 : Int32) (v3 : Int32) (v4 : Int32) (v5 : Int32) (v6 : Int32) (v7 : Int32) (S : Mm) (H : Heap) (locs : List Loc) (ls : Array Slot), k223 v2 v3 v4 v5 v6 v7 S = some o → xW G true sz s H locs S → lv_has ls 11 [(0, .ref (G.2.2 200 0)), (2, .int v2), (3, .int v3), (4, .int v4), (5, .int v5), (6, .int v6), (7, .int v7)] → wX p l e rmX12_hash s m args below meth c H locs (xQv G true sz o) (XA G true sz) 223 ls []) {S : Mm} {H : Heap} {locs : List Loc} {ls : Array Slot} (hW : xW G true sz s H locs S) (hl : lv_has ls 11 [(0, .ref (G.2.2 200 0)), (2, .int v2), (3, .int v3), (4, .int v4), (5, .int v5), (6, .int v6), (7, .int v7)]) (h : L_X12_hash_290 k223 v2 v3 v4 v5 v6 v7 s0 S = some o) : wX p l e rmX12_hash s m args below meth c H locs (xQv G true sz o) (XA G true sz) 290 ls [.int s0] := by
  unfold L_X12_hash_290 at h
  refine lv_istore (lv' := [(8, .int s0), (0, .ref (G.2.2 200 0)), (2, .int v2), (3, .int v3), (4, .int v4), (5, .int v5), (6, .int v6), (7, .int v7)]) X.1 X.2.1 dX12_hash_290 hl (by decide) rfl (fun ls hl => ?_)
  refine lv_iload X.1 X.2.1 dX12_hash_292 (lv_at hl 7 rfl) ?_
  refine lv_bipush (v := 20) X.1 X.2.1 dX12_hash_294 rfl ?_
  refine x_icmp_ge X (tgt := 305) dX12_hash_296 (by decide) h (fun h => ?_) (fun h => ?_)
  · refine lv_iload X.1 X.2.1 dX12_hash_305 (lv_at hl 7 rfl) ?_
    refine lv_bipush (v := 40) X.1 X.2.1 dX12_hash_307 rfl ?_
    refine x_icmp_ge X (tgt := 318) dX12_hash_309 (by decide) h (fun h => ?_) (fun h => ?_)
    · refine lv_iload X.1 X.2.1 dX12_hash_318 (lv_at hl 7 rfl) ?_
      refine lv_bipush (v := 60) X.1 X.2.1 dX12_hash_320 rfl ?_
      refine x_icmp_ge X (tgt := 331) dX12_hash_322 (by decide) h (fun h => ?_) (fun h => ?_)
      · refine lv_ldcw (v := (-899497514)) X.1 X.2.1 X.2.2.2.1 (X.2.2.2.2.1 _ (List.mem_cons_of_mem _ gw1161)) dX12_hash_331 ?_
        exact w_X12_hash_334 X v2 v3 v4 v5 v6 v7 s0 (-899497514)  k223 hk223 hW (lv_sub hl [1, 2, 3, 4, 5, 6, 7, 0] rfl) h
      · refine lv_ldcw (v := (-1894007588)) X.1 X.2.1 X.2.2.2.1 (X.2.2.2.2.1 _ (List.mem_cons_of_mem _ gw1160)) dX12_hash_325 ?_
        refine lv_goto (tgt := 334) X.1 X.2.1 dX12_hash_328 (by decide) ?_
        exact w_X12_hash_334 X v2 v3 v4 v5 v6 v7 s0 (-1894007588)  k223 hk223 hW (lv_sub hl [1, 2, 3, 4, 5, 6, 7, 0] rfl) h
    · refine lv_ldcw (v := 1859775393) X.1 X.2.1 X.2.2.2.1 (X.2.2.2.2.1 _ (List.mem_cons_of_mem _ gw1159)) dX12_hash_312 ?_
      refine lv_goto (tgt := 334) X.1 X.2.1 dX12_hash_315 (by decide) ?_
      exact w_X12_hash_334 X v2 v3 v4 v5 v6 v7 s0 1859775393  k223 hk223 hW (lv_sub hl [1, 2, 3, 4, 5, 6, 7, 0] rfl) h
  · refine lv_ldcw (v := 1518500249) X.1 X.2.1 X.2.2.2.1 (X.2.2.2.2.1 _ (List.mem_cons_of_mem _ gw1158)) dX12_hash_299 ?_
    refine lv_goto (tgt := 334) X.1 X.2.1 dX12_hash_302 (by decide) ?_
    exact w_X12_hash_334 X v2 v3 v4 v5 v6 v7 s0 1518500249  k223 hk223 hW (lv_sub hl [1, 2, 3, 4, 5, 6, 7, 0] rfl) h
set_option maxRecDepth 100000 in
set_option maxHeartbeats 4000000 in
theorem w_X12_hash_265 {p : Program} {l : Launch} {e : Env} {s : State} {m : MethodId} {args : Array Value} {below : List Frame} {meth : Method} {c : Code} {G : xG} {sz : Nat} {o : Unit × Mm} (X : xC G true sz p s m args c cX12_hash 11 wsX12_hash RX12 meth none) (v2 : Int32) (v3 : Int32) (v4 : Int32) (v5 : Int32) (v6 : Int32) (v7 : Int32)  (k223 : Int32 → Int32 → Int32 → Int32 → Int32 → Int32 → Mm → Option (Unit × Mm)) (hk223 : ∀ (v2 : Int32) (v3 : Int32) (v4 : Int32) (v5 : Int32) (v6 : Int32) (v7 : Int32) (S : Mm) (H : Heap) (locs : List Loc) (ls : Array Slot), k223 v2 v3 v4 v5 v6 v7 S = some o → xW G true sz s H locs S → lv_has ls 11 [(0, .ref (G.2.2 200 0)), (2, .int v2), (3, .int v3), (4, .int v4), (5, .int v5), (6, .int v6), (7, .int v7)] → wX p l e rmX12_hash s m args below meth c H locs (xQv G true sz o) (XA G true sz) 223 ls []) {S : Mm} {H : Heap} {locs : List Loc} {ls : Array Slot} (hW : xW G true sz s H locs S) (hl : lv_has ls 11 [(0, .ref (G.2.2 200 0)), (2, .int v2), (3, .int v3), (4, .int v4), (5, .int v5), (6, .int v6), (7, .int v7)]) (h : L_X12_hash_265 k223 v2 v3 v4 v5 v6 v7 S = some o) : wX p l e rmX12_hash s m args below meth c H locs (xQv G true sz o) (XA G true sz) 265 ls [] := by
  unfold L_X12_hash_265 at h
  refine lv_iload_n X.1 X.2.1 dX12_hash_265 rfl (lv_at hl 2 rfl) ?_
  refine lv_iload X.1 X.2.1 dX12_hash_266 (lv_at hl 3 rfl) ?_
  refine lv_ixor X.1 X.2.1 dX12_hash_268 ?_
  refine lv_iload X.1 X.2.1 dX12_hash_269 (lv_at hl 4 rfl) ?_
  refine lv_ixor X.1 X.2.1 dX12_hash_271 ?_
  refine lv_goto (tgt := 290) X.1 X.2.1 dX12_hash_272 (by decide) ?_
  exact w_X12_hash_290 X v2 v3 v4 v5 v6 v7 ((v3 ^^^ v4) ^^^ v5)  k223 hk223 hW (lv_sub hl [0, 1, 2, 3, 4, 5, 6] rfl) h
set_option maxRecDepth 100000 in
set_option maxHeartbeats 4000000 in
theorem w_X12_hash_223 {p : Program} {l : Launch} {e : Env} {s : State} {m : MethodId} {args : Array Value} {below : List Frame} {meth : Method} {c : Code} {G : xG} {sz : Nat} {o : Unit × Mm} (X : xC G true sz p s m args c cX12_hash 11 wsX12_hash RX12 meth none)    : ∀ (n : Nat) (v2 : Int32) (v3 : Int32) (v4 : Int32) (v5 : Int32) (v6 : Int32) (v7 : Int32) (S : Mm) (H : Heap) (locs : List Loc) (ls : Array Slot), L_X12_hash_223  n v2 v3 v4 v5 v6 v7 S = some o → xW G true sz s H locs S → lv_has ls 11 [(0, .ref (G.2.2 200 0)), (2, .int v2), (3, .int v3), (4, .int v4), (5, .int v5), (6, .int v6), (7, .int v7)] → wX p l e rmX12_hash s m args below meth c H locs (xQv G true sz o) (XA G true sz) 223 ls [] := by
  intro n
  induction n with
  | zero =>
    intro v2 v3 v4 v5 v6 v7 S H locs ls h
    cases h
  | succ n ih =>
    intro v2 v3 v4 v5 v6 v7 S H locs ls h hW  hl
    rw [L_X12_hash_223] at h
    refine lv_iload X.1 X.2.1 dX12_hash_223 (lv_at hl 6 rfl) ?_
    refine lv_bipush (v := 80) X.1 X.2.1 dX12_hash_225 rfl ?_
    refine x_icmp_ge X (tgt := 387) dX12_hash_227 (by decide) h (fun h => ?_) (fun h => ?_)
    · refine lv_aload_n X.1 X.2.1 dX12_hash_387 rfl (lv_at hl 0 rfl) ?_
      refine x_getR X hW fd_Model_h (fun w h => List.mem_cons_of_mem _ (gin_X12 w h)) (List.mem_cons_of_mem _ gw151) z_1 dX12_hash_388 ?_
      refine lv_iconst (v := 0) X.1 X.2.1 dX12_hash_391 rfl ?_
      refine lv_dup2_11 X.1 X.2.1 dX12_hash_392 rfl rfl ?_
      refine x_iald X hW ar_201 dX12_hash_393 h (fun x27 h => ?_)
      refine lv_iload_n X.1 X.2.1 dX12_hash_394 rfl (lv_at hl 1 rfl) ?_
      refine lv_iadd X.1 X.2.1 dX12_hash_395 ?_
      refine x_iast X hW ar_201 dX12_hash_396 h (fun S28 H locs h hW => ?_)
      refine lv_aload_n X.1 X.2.1 dX12_hash_397 rfl (lv_at hl 0 rfl) ?_
      refine x_getR X hW fd_Model_h (fun w h => List.mem_cons_of_mem _ (gin_X12 w h)) (List.mem_cons_of_mem _ gw151) z_1 dX12_hash_398 ?_
      refine lv_iconst (v := 1) X.1 X.2.1 dX12_hash_401 rfl ?_
      refine lv_dup2_11 X.1 X.2.1 dX12_hash_402 rfl rfl ?_
      refine x_iald X hW ar_201 dX12_hash_403 h (fun x29 h => ?_)
      refine lv_iload_n X.1 X.2.1 dX12_hash_404 rfl (lv_at hl 2 rfl) ?_
      refine lv_iadd X.1 X.2.1 dX12_hash_405 ?_
      refine x_iast X hW ar_201 dX12_hash_406 h (fun S30 H locs h hW => ?_)
      refine lv_aload_n X.1 X.2.1 dX12_hash_407 rfl (lv_at hl 0 rfl) ?_
      refine x_getR X hW fd_Model_h (fun w h => List.mem_cons_of_mem _ (gin_X12 w h)) (List.mem_cons_of_mem _ gw151) z_1 dX12_hash_408 ?_
      refine lv_iconst (v := 2) X.1 X.2.1 dX12_hash_411 rfl ?_
      refine lv_dup2_11 X.1 X.2.1 dX12_hash_412 rfl rfl ?_
      refine x_iald X hW ar_201 dX12_hash_413 h (fun x31 h => ?_)
      refine lv_iload X.1 X.2.1 dX12_hash_414 (lv_at hl 3 rfl) ?_
      refine lv_iadd X.1 X.2.1 dX12_hash_416 ?_
      refine x_iast X hW ar_201 dX12_hash_417 h (fun S32 H locs h hW => ?_)
      refine lv_aload_n X.1 X.2.1 dX12_hash_418 rfl (lv_at hl 0 rfl) ?_
      refine x_getR X hW fd_Model_h (fun w h => List.mem_cons_of_mem _ (gin_X12 w h)) (List.mem_cons_of_mem _ gw151) z_1 dX12_hash_419 ?_
      refine lv_iconst (v := 3) X.1 X.2.1 dX12_hash_422 rfl ?_
      refine lv_dup2_11 X.1 X.2.1 dX12_hash_423 rfl rfl ?_
      refine x_iald X hW ar_201 dX12_hash_424 h (fun x33 h => ?_)
      refine lv_iload X.1 X.2.1 dX12_hash_425 (lv_at hl 4 rfl) ?_
      refine lv_iadd X.1 X.2.1 dX12_hash_427 ?_
      refine x_iast X hW ar_201 dX12_hash_428 h (fun S34 H locs h hW => ?_)
      refine lv_aload_n X.1 X.2.1 dX12_hash_429 rfl (lv_at hl 0 rfl) ?_
      refine x_getR X hW fd_Model_h (fun w h => List.mem_cons_of_mem _ (gin_X12 w h)) (List.mem_cons_of_mem _ gw151) z_1 dX12_hash_430 ?_
      refine lv_iconst (v := 4) X.1 X.2.1 dX12_hash_433 rfl ?_
      refine lv_dup2_11 X.1 X.2.1 dX12_hash_434 rfl rfl ?_
      refine x_iald X hW ar_201 dX12_hash_435 h (fun x35 h => ?_)
      refine lv_iload X.1 X.2.1 dX12_hash_436 (lv_at hl 5 rfl) ?_
      refine lv_iadd X.1 X.2.1 dX12_hash_438 ?_
      refine x_iast X hW ar_201 dX12_hash_439 h (fun S36 H locs h hW => ?_)
      exact x_vret X hW h dX12_hash_440
    · refine lv_iload X.1 X.2.1 dX12_hash_230 (lv_at hl 6 rfl) ?_
      refine lv_bipush (v := 20) X.1 X.2.1 dX12_hash_232 rfl ?_
      refine x_icmp_ge X (tgt := 251) dX12_hash_234 (by decide) h (fun h => ?_) (fun h => ?_)
      · refine lv_iload X.1 X.2.1 dX12_hash_251 (lv_at hl 6 rfl) ?_
        refine lv_bipush (v := 40) X.1 X.2.1 dX12_hash_253 rfl ?_
        refine x_icmp_lt X (tgt := 265) dX12_hash_255 (by decide) h (fun h => ?_) (fun h => ?_)
        · exact w_X12_hash_265 X v2 v3 v4 v5 v6 v7  (L_X12_hash_223  n) ih hW (lv_sub hl [0, 1, 2, 3, 4, 5, 6] rfl) h
        · refine lv_iload X.1 X.2.1 dX12_hash_258 (lv_at hl 6 rfl) ?_
          refine lv_bipush (v := 60) X.1 X.2.1 dX12_hash_260 rfl ?_
          refine x_icmp_lt X (tgt := 275) dX12_hash_262 (by decide) h (fun h => ?_) (fun h => ?_)
          · refine lv_iload_n X.1 X.2.1 dX12_hash_275 rfl (lv_at hl 2 rfl) ?_
            refine lv_iload X.1 X.2.1 dX12_hash_276 (lv_at hl 3 rfl) ?_
            refine lv_iand X.1 X.2.1 dX12_hash_278 ?_
            refine lv_iload_n X.1 X.2.1 dX12_hash_279 rfl (lv_at hl 2 rfl) ?_
            refine lv_iload X.1 X.2.1 dX12_hash_280 (lv_at hl 4 rfl) ?_
            refine lv_iand X.1 X.2.1 dX12_hash_282 ?_
            refine lv_ior X.1 X.2.1 dX12_hash_283 ?_
            refine lv_iload X.1 X.2.1 dX12_hash_284 (lv_at hl 3 rfl) ?_
            refine lv_iload X.1 X.2.1 dX12_hash_286 (lv_at hl 4 rfl) ?_
            refine lv_iand X.1 X.2.1 dX12_hash_288 ?_
            refine lv_ior X.1 X.2.1 dX12_hash_289 ?_
            exact w_X12_hash_290 X v2 v3 v4 v5 v6 v7 (((v3 &&& v4) ||| (v3 &&& v5)) ||| (v4 &&& v5))  (L_X12_hash_223  n) ih hW (lv_sub hl [0, 1, 2, 3, 4, 5, 6] rfl) h
          · exact w_X12_hash_265 X v2 v3 v4 v5 v6 v7  (L_X12_hash_223  n) ih hW (lv_sub hl [0, 1, 2, 3, 4, 5, 6] rfl) h
      · refine lv_iload_n X.1 X.2.1 dX12_hash_237 rfl (lv_at hl 2 rfl) ?_
        refine lv_iload X.1 X.2.1 dX12_hash_238 (lv_at hl 3 rfl) ?_
        refine lv_iand X.1 X.2.1 dX12_hash_240 ?_
        refine lv_iload_n X.1 X.2.1 dX12_hash_241 rfl (lv_at hl 2 rfl) ?_
        refine lv_iconst (v := (-1)) X.1 X.2.1 dX12_hash_242 rfl ?_
        refine lv_ixor X.1 X.2.1 dX12_hash_243 ?_
        refine lv_iload X.1 X.2.1 dX12_hash_244 (lv_at hl 4 rfl) ?_
        refine lv_iand X.1 X.2.1 dX12_hash_246 ?_
        refine lv_ior X.1 X.2.1 dX12_hash_247 ?_
        refine lv_goto (tgt := 290) X.1 X.2.1 dX12_hash_248 (by decide) ?_
        exact w_X12_hash_290 X v2 v3 v4 v5 v6 v7 ((v3 &&& v4) ||| ((v3 ^^^ (-1)) &&& v5))  (L_X12_hash_223  n) ih hW (lv_sub hl [0, 1, 2, 3, 4, 5, 6] rfl) h
set_option maxRecDepth 100000 in
set_option maxHeartbeats 4000000 in
theorem w_X12_hash_122 {p : Program} {l : Launch} {e : Env} {s : State} {m : MethodId} {args : Array Value} {below : List Frame} {meth : Method} {c : Code} {G : xG} {sz : Nat} {o : Unit × Mm} (X : xC G true sz p s m args c cX12_hash 11 wsX12_hash RX12 meth none)    : ∀ (n : Nat) (v2 : Int32) (S : Mm) (H : Heap) (locs : List Loc) (ls : Array Slot), L_X12_hash_122  n v2 S = some o → xW G true sz s H locs S → lv_has ls 11 [(0, .ref (G.2.2 200 0)), (2, .int v2)] → wX p l e rmX12_hash s m args below meth c H locs (xQv G true sz o) (XA G true sz) 122 ls [] := by
  intro n
  induction n with
  | zero =>
    intro v2 S H locs ls h
    cases h
  | succ n ih =>
    intro v2 S H locs ls h hW  hl
    rw [L_X12_hash_122] at h
    refine lv_iload_n X.1 X.2.1 dX12_hash_122 rfl (lv_at hl 1 rfl) ?_
    refine lv_bipush (v := 80) X.1 X.2.1 dX12_hash_123 rfl ?_
    refine x_icmp_ge X (tgt := 182) dX12_hash_125 (by decide) h (fun h => ?_) (fun h => ?_)
    · refine lv_aload_n X.1 X.2.1 dX12_hash_182 rfl (lv_at hl 0 rfl) ?_
      refine x_getR X hW fd_Model_h (fun w h => List.mem_cons_of_mem _ (gin_X12 w h)) (List.mem_cons_of_mem _ gw151) z_1 dX12_hash_183 ?_
      refine lv_iconst (v := 0) X.1 X.2.1 dX12_hash_186 rfl ?_
      refine x_iald X hW ar_201 dX12_hash_187 h (fun x14 h => ?_)
      refine lv_istore_n (lv' := [(2, .int x14), (0, .ref (G.2.2 200 0))]) X.1 X.2.1 dX12_hash_188 rfl hl (by decide) rfl (fun ls hl => ?_)
      refine lv_aload_n X.1 X.2.1 dX12_hash_189 rfl (lv_at hl 1 rfl) ?_
      refine x_getR X hW fd_Model_h (fun w h => List.mem_cons_of_mem _ (gin_X12 w h)) (List.mem_cons_of_mem _ gw151) z_1 dX12_hash_190 ?_
      refine lv_iconst (v := 1) X.1 X.2.1 dX12_hash_193 rfl ?_
      refine x_iald X hW ar_201 dX12_hash_194 h (fun x15 h => ?_)
      refine lv_istore_n (lv' := [(3, .int x15), (2, .int x14), (0, .ref (G.2.2 200 0))]) X.1 X.2.1 dX12_hash_195 rfl hl (by decide) rfl (fun ls hl => ?_)
      refine lv_aload_n X.1 X.2.1 dX12_hash_196 rfl (lv_at hl 2 rfl) ?_
      refine x_getR X hW fd_Model_h (fun w h => List.mem_cons_of_mem _ (gin_X12 w h)) (List.mem_cons_of_mem _ gw151) z_1 dX12_hash_197 ?_
      refine lv_iconst (v := 2) X.1 X.2.1 dX12_hash_200 rfl ?_
      refine x_iald X hW ar_201 dX12_hash_201 h (fun x16 h => ?_)
      refine lv_istore (lv' := [(4, .int x16), (3, .int x15), (2, .int x14), (0, .ref (G.2.2 200 0))]) X.1 X.2.1 dX12_hash_202 hl (by decide) rfl (fun ls hl => ?_)
      refine lv_aload_n X.1 X.2.1 dX12_hash_204 rfl (lv_at hl 3 rfl) ?_
      refine x_getR X hW fd_Model_h (fun w h => List.mem_cons_of_mem _ (gin_X12 w h)) (List.mem_cons_of_mem _ gw151) z_1 dX12_hash_205 ?_
      refine lv_iconst (v := 3) X.1 X.2.1 dX12_hash_208 rfl ?_
      refine x_iald X hW ar_201 dX12_hash_209 h (fun x17 h => ?_)
      refine lv_istore (lv' := [(5, .int x17), (4, .int x16), (3, .int x15), (2, .int x14), (0, .ref (G.2.2 200 0))]) X.1 X.2.1 dX12_hash_210 hl (by decide) rfl (fun ls hl => ?_)
      refine lv_aload_n X.1 X.2.1 dX12_hash_212 rfl (lv_at hl 4 rfl) ?_
      refine x_getR X hW fd_Model_h (fun w h => List.mem_cons_of_mem _ (gin_X12 w h)) (List.mem_cons_of_mem _ gw151) z_1 dX12_hash_213 ?_
      refine lv_iconst (v := 4) X.1 X.2.1 dX12_hash_216 rfl ?_
      refine x_iald X hW ar_201 dX12_hash_217 h (fun x18 h => ?_)
      refine lv_istore (lv' := [(6, .int x18), (5, .int x17), (4, .int x16), (3, .int x15), (2, .int x14), (0, .ref (G.2.2 200 0))]) X.1 X.2.1 dX12_hash_218 hl (by decide) rfl (fun ls hl => ?_)
      refine lv_iconst (v := 0) X.1 X.2.1 dX12_hash_220 rfl ?_
      refine lv_istore (lv' := [(7, .int 0), (6, .int x18), (5, .int x17), (4, .int x16), (3, .int x15), (2, .int x14), (0, .ref (G.2.2 200 0))]) X.1 X.2.1 dX12_hash_221 hl (by decide) rfl (fun ls hl => ?_)
      exact w_X12_hash_223 X    fu x14 x15 x16 x17 x18 0 S _ _ _ h hW  (lv_sub hl [6, 5, 4, 3, 2, 1, 0] rfl)
    · refine lv_aload_n X.1 X.2.1 dX12_hash_128 rfl (lv_at hl 0 rfl) ?_
      refine x_getR X hW fd_Model_w (fun w h => List.mem_cons_of_mem _ (gin_X12 w h)) (List.mem_cons_of_mem _ gw152) z_1 dX12_hash_129 ?_
      refine lv_iload_n X.1 X.2.1 dX12_hash_132 rfl (lv_at hl 1 rfl) ?_
      refine lv_aload_n X.1 X.2.1 dX12_hash_133 rfl (lv_at hl 0 rfl) ?_
      refine x_getR X hW fd_Model_w (fun w h => List.mem_cons_of_mem _ (gin_X12 w h)) (List.mem_cons_of_mem _ gw152) z_1 dX12_hash_134 ?_
      refine lv_iload_n X.1 X.2.1 dX12_hash_137 rfl (lv_at hl 1 rfl) ?_
      refine lv_iconst (v := 3) X.1 X.2.1 dX12_hash_138 rfl ?_
      refine lv_isub X.1 X.2.1 dX12_hash_139 ?_
      refine x_iald X hW ar_202 dX12_hash_140 h (fun x19 h => ?_)
      refine lv_aload_n X.1 X.2.1 dX12_hash_141 rfl (lv_at hl 0 rfl) ?_
      refine x_getR X hW fd_Model_w (fun w h => List.mem_cons_of_mem _ (gin_X12 w h)) (List.mem_cons_of_mem _ gw152) z_1 dX12_hash_142 ?_
      refine lv_iload_n X.1 X.2.1 dX12_hash_145 rfl (lv_at hl 1 rfl) ?_
      refine lv_bipush (v := 8) X.1 X.2.1 dX12_hash_146 rfl ?_
      refine lv_isub X.1 X.2.1 dX12_hash_148 ?_
      refine x_iald X hW ar_202 dX12_hash_149 h (fun x20 h => ?_)
      refine lv_ixor X.1 X.2.1 dX12_hash_150 ?_
      refine lv_aload_n X.1 X.2.1 dX12_hash_151 rfl (lv_at hl 0 rfl) ?_
      refine x_getR X hW fd_Model_w (fun w h => List.mem_cons_of_mem _ (gin_X12 w h)) (List.mem_cons_of_mem _ gw152) z_1 dX12_hash_152 ?_
      refine lv_iload_n X.1 X.2.1 dX12_hash_155 rfl (lv_at hl 1 rfl) ?_
      refine lv_bipush (v := 14) X.1 X.2.1 dX12_hash_156 rfl ?_
      refine lv_isub X.1 X.2.1 dX12_hash_158 ?_
      refine x_iald X hW ar_202 dX12_hash_159 h (fun x21 h => ?_)
      refine lv_ixor X.1 X.2.1 dX12_hash_160 ?_
      refine lv_aload_n X.1 X.2.1 dX12_hash_161 rfl (lv_at hl 0 rfl) ?_
      refine x_getR X hW fd_Model_w (fun w h => List.mem_cons_of_mem _ (gin_X12 w h)) (List.mem_cons_of_mem _ gw152) z_1 dX12_hash_162 ?_
      refine lv_iload_n X.1 X.2.1 dX12_hash_165 rfl (lv_at hl 1 rfl) ?_
      refine lv_bipush (v := 16) X.1 X.2.1 dX12_hash_166 rfl ?_
      refine lv_isub X.1 X.2.1 dX12_hash_168 ?_
      refine x_iald X hW ar_202 dX12_hash_169 h (fun x22 h => ?_)
      refine lv_ixor X.1 X.2.1 dX12_hash_170 ?_
      refine lv_iconst (v := 1) X.1 X.2.1 dX12_hash_171 rfl ?_
      obtain ⟨r23, S24, h25, h⟩ := cl_some h
      refine x_aftI X hW (x_runS (As := [.int (((x19 ^^^ x20) ^^^ x21) ^^^ x22), .int 1]) (rest := [.int v2, .ref (G.2.2 202 0)]) X hW (c_X12_left l G X.2.2.2.2.2.2.2.2.2.1 _ S (((x19 ^^^ x20) ^^^ x21) ^^^ x22) 1 _ h25) (va_cwS 2 X.2.2.2.2.1 (gS gw1162 gw1163 gw5 gw1164) rfl rfl rfl hd_X12_left ⟨Nat.le_of_ble_eq_true rfl, Nat.le_of_ble_eq_true rfl⟩) rfl hl.1 rfl (Nat.le_of_ble_eq_true rfl) dX12_hash_172 ⟨Nat.zero_le _, Nat.zero_le _⟩) (fun H locs hW => ?_)
      refine x_iast X hW ar_202 dX12_hash_175 h (fun S26 H locs h hW => ?_)
      refine lv_iinc (v := (v2 + 1)) (lv' := [(2, .int (v2 + 1)), (0, .ref (G.2.2 200 0))]) X.1 X.2.1 dX12_hash_176 hl (k := 1) rfl rfl (by decide) rfl (fun ls hl => ?_)
      refine lv_goto (tgt := 122) X.1 X.2.1 dX12_hash_179 (by decide) ?_
      exact ih (v2 + 1) S26 _ _ _ h hW  (lv_sub hl [1, 0] rfl)
set_option maxRecDepth 100000 in
set_option maxHeartbeats 4000000 in
theorem w_X12_hash_51 {p : Program} {l : Launch} {e : Env} {s : State} {m : MethodId} {args : Array Value} {below : List Frame} {meth : Method} {c : Code} {G : xG} {sz : Nat} {o : Unit × Mm} (X : xC G true sz p s m args c cX12_hash 11 wsX12_hash RX12 meth none)    : ∀ (n : Nat) (v2 : Int32) (S : Mm) (H : Heap) (locs : List Loc) (ls : Array Slot), L_X12_hash_51  n v2 S = some o → xW G true sz s H locs S → lv_has ls 11 [(0, .ref (G.2.2 200 0)), (2, .int v2)] → wX p l e rmX12_hash s m args below meth c H locs (xQv G true sz o) (XA G true sz) 51 ls [] := by
  intro n
  induction n with
  | zero =>
    intro v2 S H locs ls h
    cases h
  | succ n ih =>
    intro v2 S H locs ls h hW  hl
    rw [L_X12_hash_51] at h
    refine lv_iload_n X.1 X.2.1 dX12_hash_51 rfl (lv_at hl 1 rfl) ?_
    refine lv_bipush (v := 16) X.1 X.2.1 dX12_hash_52 rfl ?_
    refine x_icmp_ge X (tgt := 119) dX12_hash_54 (by decide) h (fun h => ?_) (fun h => ?_)
    · refine lv_bipush (v := 16) X.1 X.2.1 dX12_hash_119 rfl ?_
      refine lv_istore_n (lv' := [(2, .int 16), (0, .ref (G.2.2 200 0))]) X.1 X.2.1 dX12_hash_121 rfl hl (by decide) rfl (fun ls hl => ?_)
      exact w_X12_hash_122 X    fu 16 S _ _ _ h hW  (lv_sub hl [1, 0] rfl)
    · refine lv_aload_n X.1 X.2.1 dX12_hash_57 rfl (lv_at hl 0 rfl) ?_
      refine x_getR X hW fd_Model_w (fun w h => List.mem_cons_of_mem _ (gin_X12 w h)) (List.mem_cons_of_mem _ gw152) z_1 dX12_hash_58 ?_
      refine lv_iload_n X.1 X.2.1 dX12_hash_61 rfl (lv_at hl 1 rfl) ?_
      refine lv_aload_n X.1 X.2.1 dX12_hash_62 rfl (lv_at hl 0 rfl) ?_
      refine x_getR X hW fd_Model_block (fun w h => List.mem_cons_of_mem _ (gin_X12 w h)) (List.mem_cons_of_mem _ gw153) z_1 dX12_hash_63 ?_
      refine lv_iconst (v := 4) X.1 X.2.1 dX12_hash_66 rfl ?_
      refine lv_iload_n X.1 X.2.1 dX12_hash_67 rfl (lv_at hl 1 rfl) ?_
      refine lv_imul X.1 X.2.1 dX12_hash_68 ?_
      refine x_iald X hW ar_203 dX12_hash_69 h (fun x9 h => ?_)
      refine lv_bipush (v := 24) X.1 X.2.1 dX12_hash_70 rfl ?_
      refine lv_ishl X.1 X.2.1 dX12_hash_72 ?_
      refine lv_aload_n X.1 X.2.1 dX12_hash_73 rfl (lv_at hl 0 rfl) ?_
      refine x_getR X hW fd_Model_block (fun w h => List.mem_cons_of_mem _ (gin_X12 w h)) (List.mem_cons_of_mem _ gw153) z_1 dX12_hash_74 ?_
      refine lv_iconst (v := 4) X.1 X.2.1 dX12_hash_77 rfl ?_
      refine lv_iload_n X.1 X.2.1 dX12_hash_78 rfl (lv_at hl 1 rfl) ?_
      refine lv_imul X.1 X.2.1 dX12_hash_79 ?_
      refine lv_iconst (v := 1) X.1 X.2.1 dX12_hash_80 rfl ?_
      refine lv_iadd X.1 X.2.1 dX12_hash_81 ?_
      refine x_iald X hW ar_203 dX12_hash_82 h (fun x10 h => ?_)
      refine lv_bipush (v := 16) X.1 X.2.1 dX12_hash_83 rfl ?_
      refine lv_ishl X.1 X.2.1 dX12_hash_85 ?_
      refine lv_ior X.1 X.2.1 dX12_hash_86 ?_
      refine lv_aload_n X.1 X.2.1 dX12_hash_87 rfl (lv_at hl 0 rfl) ?_
      refine x_getR X hW fd_Model_block (fun w h => List.mem_cons_of_mem _ (gin_X12 w h)) (List.mem_cons_of_mem _ gw153) z_1 dX12_hash_88 ?_
      refine lv_iconst (v := 4) X.1 X.2.1 dX12_hash_91 rfl ?_
      refine lv_iload_n X.1 X.2.1 dX12_hash_92 rfl (lv_at hl 1 rfl) ?_
      refine lv_imul X.1 X.2.1 dX12_hash_93 ?_
      refine lv_iconst (v := 2) X.1 X.2.1 dX12_hash_94 rfl ?_
      refine lv_iadd X.1 X.2.1 dX12_hash_95 ?_
      refine x_iald X hW ar_203 dX12_hash_96 h (fun x11 h => ?_)
      refine lv_bipush (v := 8) X.1 X.2.1 dX12_hash_97 rfl ?_
      refine lv_ishl X.1 X.2.1 dX12_hash_99 ?_
      refine lv_ior X.1 X.2.1 dX12_hash_100 ?_
      refine lv_aload_n X.1 X.2.1 dX12_hash_101 rfl (lv_at hl 0 rfl) ?_
      refine x_getR X hW fd_Model_block (fun w h => List.mem_cons_of_mem _ (gin_X12 w h)) (List.mem_cons_of_mem _ gw153) z_1 dX12_hash_102 ?_
      refine lv_iconst (v := 4) X.1 X.2.1 dX12_hash_105 rfl ?_
      refine lv_iload_n X.1 X.2.1 dX12_hash_106 rfl (lv_at hl 1 rfl) ?_
      refine lv_imul X.1 X.2.1 dX12_hash_107 ?_
      refine lv_iconst (v := 3) X.1 X.2.1 dX12_hash_108 rfl ?_
      refine lv_iadd X.1 X.2.1 dX12_hash_109 ?_
      refine x_iald X hW ar_203 dX12_hash_110 h (fun x12 h => ?_)
      refine lv_ior X.1 X.2.1 dX12_hash_111 ?_
      refine x_iast X hW ar_202 dX12_hash_112 h (fun S13 H locs h hW => ?_)
      refine lv_iinc (v := (v2 + 1)) (lv' := [(2, .int (v2 + 1)), (0, .ref (G.2.2 200 0))]) X.1 X.2.1 dX12_hash_113 hl (k := 1) rfl rfl (by decide) rfl (fun ls hl => ?_)
      refine lv_goto (tgt := 51) X.1 X.2.1 dX12_hash_116 (by decide) ?_
      exact ih (v2 + 1) S13 _ _ _ h hW  (lv_sub hl [1, 0] rfl)
set_option maxRecDepth 100000 in
set_option maxHeartbeats 4000000 in
theorem w_X12_hash_0 {p : Program} {l : Launch} {e : Env} {s : State} {m : MethodId} {args : Array Value} {below : List Frame} {meth : Method} {c : Code} {G : xG} {sz : Nat} {o : Unit × Mm} (X : xC G true sz p s m args c cX12_hash 11 wsX12_hash RX12 meth none) (v1 : Int32) {S : Mm} {H : Heap} {locs : List Loc} {ls : Array Slot} (hW : xW G true sz s H locs S) (hl : lv_has ls 11 [(0, .ref (G.2.2 200 0)), (1, .int v1)]) (h : F_X12_hash v1 S = some o) : wX p l e rmX12_hash s m args below meth c H locs (xQv G true sz o) (XA G true sz) 0 ls [] := by
  unfold F_X12_hash at h
  refine lv_aload_n X.1 X.2.1 dX12_hash_0 rfl (lv_at hl 0 rfl) ?_
  refine x_getR X hW fd_Model_block (fun w h => List.mem_cons_of_mem _ (gin_X12 w h)) (List.mem_cons_of_mem _ gw153) z_1 dX12_hash_1 ?_
  refine lv_aload_n X.1 X.2.1 dX12_hash_4 rfl (lv_at hl 0 rfl) ?_
  refine x_getI X hW fd_Model_filled (fun w h => List.mem_cons_of_mem _ (gin_X12 w h)) (List.mem_cons_of_mem _ gw1152) z_1 dX12_hash_5 h (fun x1 h => ?_)
  refine lv_iload_n X.1 X.2.1 dX12_hash_8 rfl (lv_at hl 1 rfl) ?_
  refine lv_sipush (v := 255) X.1 X.2.1 dX12_hash_9 rfl ?_
  refine lv_iand X.1 X.2.1 dX12_hash_12 ?_
  refine x_iast X hW ar_203 dX12_hash_13 h (fun S2 H locs h hW => ?_)
  refine lv_aload_n X.1 X.2.1 dX12_hash_14 rfl (lv_at hl 0 rfl) ?_
  refine lv_dup X.1 X.2.1 dX12_hash_15 rfl ?_
  refine x_getI X hW fd_Model_filled (fun w h => List.mem_cons_of_mem _ (gin_X12 w h)) (List.mem_cons_of_mem _ gw1152) z_1 dX12_hash_16 h (fun x3 h => ?_)
  refine lv_iconst (v := 1) X.1 X.2.1 dX12_hash_19 rfl ?_
  refine lv_iadd X.1 X.2.1 dX12_hash_20 ?_
  refine x_putI X hW fd_Model_filled (fun w h => List.mem_cons_of_mem _ (gin_X12 w h)) (List.mem_cons_of_mem _ gw1152) z_1 dX12_hash_21 tyX12 tyX12_ok nmX12 rfl rfl rfl h (fun S4 H locs h hW => ?_)
  refine lv_aload_n X.1 X.2.1 dX12_hash_24 rfl (lv_at hl 0 rfl) ?_
  refine lv_dup X.1 X.2.1 dX12_hash_25 rfl ?_
  refine x_getL X hW fd_Model_hashed (fun w h => List.mem_cons_of_mem _ (gin_X12 w h)) (List.mem_cons_of_mem _ gw1153) z_1 dX12_hash_26 h (fun x5 h => ?_)
  refine lv_lconst (v := 1) X.1 X.2.1 dX12_hash_29 rfl ?_
  refine lv_ladd X.1 X.2.1 dX12_hash_30 ?_
  refine x_putL X hW fd_Model_hashed (fun w h => List.mem_cons_of_mem _ (gin_X12 w h)) (List.mem_cons_of_mem _ gw1153) z_1 dX12_hash_31 tyX12 tyX12_ok nmX12 rfl rfl rfl h (fun S6 H locs h hW => ?_)
  refine lv_aload_n X.1 X.2.1 dX12_hash_34 rfl (lv_at hl 0 rfl) ?_
  refine x_getI X hW fd_Model_filled (fun w h => List.mem_cons_of_mem _ (gin_X12 w h)) (List.mem_cons_of_mem _ gw1152) z_1 dX12_hash_35 h (fun x7 h => ?_)
  refine lv_bipush (v := 64) X.1 X.2.1 dX12_hash_38 rfl ?_
  refine x_icmp_ge X (tgt := 44) dX12_hash_40 (by decide) h (fun h => ?_) (fun h => ?_)
  · refine lv_aload_n X.1 X.2.1 dX12_hash_44 rfl (lv_at hl 0 rfl) ?_
    refine lv_iconst (v := 0) X.1 X.2.1 dX12_hash_45 rfl ?_
    refine x_putI X hW fd_Model_filled (fun w h => List.mem_cons_of_mem _ (gin_X12 w h)) (List.mem_cons_of_mem _ gw1152) z_1 dX12_hash_46 tyX12 tyX12_ok nmX12 rfl rfl rfl h (fun S8 H locs h hW => ?_)
    refine lv_iconst (v := 0) X.1 X.2.1 dX12_hash_49 rfl ?_
    refine lv_istore_n (lv' := [(2, .int 0), (0, .ref (G.2.2 200 0)), (1, .int v1)]) X.1 X.2.1 dX12_hash_50 rfl hl (by decide) rfl (fun ls hl => ?_)
    exact w_X12_hash_51 X    fu 0 S8 _ _ _ h hW  (lv_sub hl [1, 0] rfl)
  · exact x_vret X hW h dX12_hash_43
theorem c_X12_hash (l : Launch) (G : xG) (hD : xD G true) (sz : Nat) (S : Mm) (v1 : Int32) (o : Unit × Mm) (h : F_X12_hash v1 S = some o) : Met l yX12_hash wsX12_hash rmX12_hash (xPre G true S sz [.ref (G.2.2 200 0), .int v1]) (xQv G true sz o) 0 0 (XA G true sz) :=
  x_start hD (by decide) rfl (Nat.le_of_ble_eq_true rfl) (fun p e s m below meth c X hW ls hl => w_X12_hash_0 X v1 hW hl h)

/-! WirelessCellModel.hashEnd()V -/
def rmX12_hashEnd : Room := { frames := 2, cells := 0, slots := 0, locals := 51 }
def L_X12_hashEnd_59   : Nat → Int32 → Mm → Option (Unit × Mm)
  | 0, _, _ => none
  | n + 1, v3, S => 
    if 20 ≤ v3 then (
    some ((), S))
    else (
    ldA S 201 0 5 1 (v3 / 4) fun x13 =>
    stA S 204 0 20 1 v3 ((x13 >>> ((24 - (8 * (v3 - v3 / 4 * 4))) &&& 31)) &&& 255) fun S14 =>
    (L_X12_hashEnd_59  n) (v3 + 1) S14)
def L_X12_hashEnd_36  (v1 : Int64) : Nat → Int32 → Mm → Option (Unit × Mm)
  | 0, _, _ => none
  | n + 1, v3, S => 
    if v3 < 0 then (
    L_X12_hashEnd_59   fu 0 S)
    else (
    cl (F_X12_hash (Int64.toInt32 (v1 >>> (Int32.toInt64 (8 * v3) &&& 63))) S) fun r10 S11 =>
    (L_X12_hashEnd_36 v1 n) (v3 + (-1)) S11)
def L_X12_hashEnd_16  (v1 : Int64) : Nat → Mm → Option (Unit × Mm)
  | 0, _ => none
  | n + 1, S => 
    gf S 289 0 fun x6 =>
    if x6 = 56 then (
    L_X12_hashEnd_36  v1 fu 7 S)
    else (
    cl (F_X12_hash 0 S) fun r7 S8 =>
    (L_X12_hashEnd_16 v1 n) S8)
def F_X12_hashEnd  (S : Mm) : Option (Unit × Mm) :=
  gl S 290 0 fun x1 =>
  tp (8 * x1) fun x2 =>
  cl (F_X12_hash 128 S) fun r3 S4 =>
  L_X12_hashEnd_16  x2 fu S4
set_option maxRecDepth 100000 in
set_option maxHeartbeats 4000000 in
theorem w_X12_hashEnd_59 {p : Program} {l : Launch} {e : Env} {s : State} {m : MethodId} {args : Array Value} {below : List Frame} {meth : Method} {c : Code} {G : xG} {sz : Nat} {o : Unit × Mm} (X : xC G true sz p s m args c cX12_hashEnd 4 wsX12_hashEnd RX12 meth none)    : ∀ (n : Nat) (v3 : Int32) (S : Mm) (H : Heap) (locs : List Loc) (ls : Array Slot), L_X12_hashEnd_59  n v3 S = some o → xW G true sz s H locs S → lv_has ls 4 [(0, .ref (G.2.2 200 0)), (3, .int v3)] → wX p l e rmX12_hashEnd s m args below meth c H locs (xQv G true sz o) (XA G true sz) 59 ls [] := by
  intro n
  induction n with
  | zero =>
    intro v3 S H locs ls h
    cases h
  | succ n ih =>
    intro v3 S H locs ls h hW  hl
    rw [L_X12_hashEnd_59] at h
    refine lv_iload_n X.1 X.2.1 dX12_hashEnd_59 rfl (lv_at hl 1 rfl) ?_
    refine lv_bipush (v := 20) X.1 X.2.1 dX12_hashEnd_60 rfl ?_
    refine x_icmp_ge X (tgt := 99) dX12_hashEnd_62 (by decide) h (fun h => ?_) (fun h => ?_)
    · exact x_vret X hW h dX12_hashEnd_99
    · refine lv_aload_n X.1 X.2.1 dX12_hashEnd_65 rfl (lv_at hl 0 rfl) ?_
      refine x_getR X hW fd_Model_digest (fun w h => List.mem_cons_of_mem _ (gin_X12 w h)) (List.mem_cons_of_mem _ gw154) z_1 dX12_hashEnd_66 ?_
      refine lv_iload_n X.1 X.2.1 dX12_hashEnd_69 rfl (lv_at hl 1 rfl) ?_
      refine lv_aload_n X.1 X.2.1 dX12_hashEnd_70 rfl (lv_at hl 0 rfl) ?_
      refine x_getR X hW fd_Model_h (fun w h => List.mem_cons_of_mem _ (gin_X12 w h)) (List.mem_cons_of_mem _ gw151) z_1 dX12_hashEnd_71 ?_
      refine lv_iload_n X.1 X.2.1 dX12_hashEnd_74 rfl (lv_at hl 1 rfl) ?_
      refine lv_iconst (v := 4) X.1 X.2.1 dX12_hashEnd_75 rfl ?_
      refine lv_idiv X.1 X.2.1 dX12_hashEnd_76 (by decide) ?_
      refine x_iald X hW ar_201 dX12_hashEnd_77 h (fun x13 h => ?_)
      refine lv_bipush (v := 24) X.1 X.2.1 dX12_hashEnd_78 rfl ?_
      refine lv_bipush (v := 8) X.1 X.2.1 dX12_hashEnd_80 rfl ?_
      refine lv_iload_n X.1 X.2.1 dX12_hashEnd_82 rfl (lv_at hl 1 rfl) ?_
      refine lv_iconst (v := 4) X.1 X.2.1 dX12_hashEnd_83 rfl ?_
      refine lv_irem X.1 X.2.1 dX12_hashEnd_84 (by decide) ?_
      refine lv_imul X.1 X.2.1 dX12_hashEnd_85 ?_
      refine lv_isub X.1 X.2.1 dX12_hashEnd_86 ?_
      refine lv_ishr X.1 X.2.1 dX12_hashEnd_87 ?_
      refine lv_sipush (v := 255) X.1 X.2.1 dX12_hashEnd_88 rfl ?_
      refine lv_iand X.1 X.2.1 dX12_hashEnd_91 ?_
      refine x_iast X hW ar_204 dX12_hashEnd_92 h (fun S14 H locs h hW => ?_)
      refine lv_iinc (v := (v3 + 1)) (lv' := [(3, .int (v3 + 1)), (0, .ref (G.2.2 200 0))]) X.1 X.2.1 dX12_hashEnd_93 hl (k := 1) rfl rfl (by decide) rfl (fun ls hl => ?_)
      refine lv_goto (tgt := 59) X.1 X.2.1 dX12_hashEnd_96 (by decide) ?_
      exact ih (v3 + 1) S14 _ _ _ h hW  (lv_sub hl [1, 0] rfl)
set_option maxRecDepth 100000 in
set_option maxHeartbeats 4000000 in
theorem w_X12_hashEnd_36 {p : Program} {l : Launch} {e : Env} {s : State} {m : MethodId} {args : Array Value} {below : List Frame} {meth : Method} {c : Code} {G : xG} {sz : Nat} {o : Unit × Mm} (X : xC G true sz p s m args c cX12_hashEnd 4 wsX12_hashEnd RX12 meth none) (v1 : Int64)   : ∀ (n : Nat) (v3 : Int32) (S : Mm) (H : Heap) (locs : List Loc) (ls : Array Slot), L_X12_hashEnd_36 v1 n v3 S = some o → xW G true sz s H locs S → lv_has ls 4 [(0, .ref (G.2.2 200 0)), (1, .long v1), (3, .int v3)] → wX p l e rmX12_hashEnd s m args below meth c H locs (xQv G true sz o) (XA G true sz) 36 ls [] := by
  intro n
  induction n with
  | zero =>
    intro v3 S H locs ls h
    cases h
  | succ n ih =>
    intro v3 S H locs ls h hW  hl
    rw [L_X12_hashEnd_36] at h
    refine lv_iload_n X.1 X.2.1 dX12_hashEnd_36 rfl (lv_at hl 2 rfl) ?_
    refine x_if_lt X (tgt := 57) dX12_hashEnd_37 (by decide) h (fun h => ?_) (fun h => ?_)
    · refine lv_iconst (v := 0) X.1 X.2.1 dX12_hashEnd_57 rfl ?_
      refine lv_istore_n (lv' := [(3, .int 0), (0, .ref (G.2.2 200 0)), (1, .long v1)]) X.1 X.2.1 dX12_hashEnd_58 rfl hl (by decide) rfl (fun ls hl => ?_)
      exact w_X12_hashEnd_59 X    fu 0 S _ _ _ h hW  (lv_sub hl [1, 0] rfl)
    · refine lv_aload_n X.1 X.2.1 dX12_hashEnd_40 rfl (lv_at hl 0 rfl) ?_
      refine lv_lload_n X.1 X.2.1 dX12_hashEnd_41 rfl (lv_at hl 1 rfl) ?_
      refine lv_bipush (v := 8) X.1 X.2.1 dX12_hashEnd_42 rfl ?_
      refine lv_iload_n X.1 X.2.1 dX12_hashEnd_44 rfl (lv_at hl 2 rfl) ?_
      refine lv_imul X.1 X.2.1 dX12_hashEnd_45 ?_
      refine lv_lshr (v := (v1 >>> (Int32.toInt64 (8 * v3) &&& 63))) X.1 X.2.1 dX12_hashEnd_46 rfl ?_
      refine lv_l2i (v := (Int64.toInt32 (v1 >>> (Int32.toInt64 (8 * v3) &&& 63)))) X.1 X.2.1 dX12_hashEnd_47 rfl ?_
      obtain ⟨r10, S11, h12, h⟩ := cl_some h
      refine x_aftV X hW (x_runV (C := RX12) (a := G.2.2 200 0) (As := [.int (Int64.toInt32 (v1 >>> (Int32.toInt64 (8 * v3) &&& 63)))]) (rest := []) X hW (c_X12_hash l G X.2.2.2.2.2.2.2.2.2.1 _ S (Int64.toInt32 (v1 >>> (Int32.toInt64 (8 * v3) &&& 63))) _ h12) (cwV 1 X.2.2.2.2.1 (gV gw1154 gw1155 gw1156 gw5 gw1157) rfl rfl rfl ⟨rfl, hd_X12_hash⟩ ⟨Nat.le_of_ble_eq_true rfl, Nat.le_of_ble_eq_true rfl⟩) (x_recv X hW ob_Model z_1) rfl hl.1 rfl (Nat.le_of_ble_eq_true rfl) dX12_hashEnd_48 ⟨Nat.zero_le _, Nat.zero_le _⟩) (fun H locs hW => ?_)
      refine lv_iinc (v := (v3 + (-1))) (lv' := [(3, .int (v3 + (-1))), (0, .ref (G.2.2 200 0)), (1, .long v1)]) X.1 X.2.1 dX12_hashEnd_51 hl (k := 2) rfl rfl (by decide) rfl (fun ls hl => ?_)
      refine lv_goto (tgt := 36) X.1 X.2.1 dX12_hashEnd_54 (by decide) ?_
      exact ih (v3 + (-1)) S11 _ _ _ h hW  (lv_sub hl [1, 2, 0] rfl)
set_option maxRecDepth 100000 in
set_option maxHeartbeats 4000000 in
theorem w_X12_hashEnd_16 {p : Program} {l : Launch} {e : Env} {s : State} {m : MethodId} {args : Array Value} {below : List Frame} {meth : Method} {c : Code} {G : xG} {sz : Nat} {o : Unit × Mm} (X : xC G true sz p s m args c cX12_hashEnd 4 wsX12_hashEnd RX12 meth none) (v1 : Int64)   : ∀ (n : Nat)  (S : Mm) (H : Heap) (locs : List Loc) (ls : Array Slot), L_X12_hashEnd_16 v1 n  S = some o → xW G true sz s H locs S → lv_has ls 4 [(0, .ref (G.2.2 200 0)), (1, .long v1)] → wX p l e rmX12_hashEnd s m args below meth c H locs (xQv G true sz o) (XA G true sz) 16 ls [] := by
  intro n
  induction n with
  | zero =>
    intro  S H locs ls h
    cases h
  | succ n ih =>
    intro  S H locs ls h hW  hl
    rw [L_X12_hashEnd_16] at h
    refine lv_aload_n X.1 X.2.1 dX12_hashEnd_16 rfl (lv_at hl 0 rfl) ?_
    refine x_getI X hW fd_Model_filled (fun w h => List.mem_cons_of_mem _ (gin_X12 w h)) (List.mem_cons_of_mem _ gw1152) z_1 dX12_hashEnd_17 h (fun x6 h => ?_)
    refine lv_bipush (v := 56) X.1 X.2.1 dX12_hashEnd_20 rfl ?_
    refine x_icmp_eq X (tgt := 33) dX12_hashEnd_22 (by decide) h (fun h => ?_) (fun h => ?_)
    · refine lv_bipush (v := 7) X.1 X.2.1 dX12_hashEnd_33 rfl ?_
      refine lv_istore_n (lv' := [(3, .int 7), (0, .ref (G.2.2 200 0)), (1, .long v1)]) X.1 X.2.1 dX12_hashEnd_35 rfl hl (by decide) rfl (fun ls hl => ?_)
      exact w_X12_hashEnd_36 X v1   fu 7 S _ _ _ h hW  (lv_sub hl [1, 2, 0] rfl)
    · refine lv_aload_n X.1 X.2.1 dX12_hashEnd_25 rfl (lv_at hl 0 rfl) ?_
      refine lv_iconst (v := 0) X.1 X.2.1 dX12_hashEnd_26 rfl ?_
      obtain ⟨r7, S8, h9, h⟩ := cl_some h
      refine x_aftV X hW (x_runV (C := RX12) (a := G.2.2 200 0) (As := [.int 0]) (rest := []) X hW (c_X12_hash l G X.2.2.2.2.2.2.2.2.2.1 _ S 0 _ h9) (cwV 1 X.2.2.2.2.1 (gV gw1154 gw1155 gw1156 gw5 gw1157) rfl rfl rfl ⟨rfl, hd_X12_hash⟩ ⟨Nat.le_of_ble_eq_true rfl, Nat.le_of_ble_eq_true rfl⟩) (x_recv X hW ob_Model z_1) rfl hl.1 rfl (Nat.le_of_ble_eq_true rfl) dX12_hashEnd_27 ⟨Nat.zero_le _, Nat.zero_le _⟩) (fun H locs hW => ?_)
      refine lv_goto (tgt := 16) X.1 X.2.1 dX12_hashEnd_30 (by decide) ?_
      exact ih S8 _ _ _ h hW  (lv_sub hl [0, 1] rfl)
set_option maxRecDepth 100000 in
set_option maxHeartbeats 4000000 in
theorem w_X12_hashEnd_0 {p : Program} {l : Launch} {e : Env} {s : State} {m : MethodId} {args : Array Value} {below : List Frame} {meth : Method} {c : Code} {G : xG} {sz : Nat} {o : Unit × Mm} (X : xC G true sz p s m args c cX12_hashEnd 4 wsX12_hashEnd RX12 meth none)  {S : Mm} {H : Heap} {locs : List Loc} {ls : Array Slot} (hW : xW G true sz s H locs S) (hl : lv_has ls 4 [(0, .ref (G.2.2 200 0))]) (h : F_X12_hashEnd  S = some o) : wX p l e rmX12_hashEnd s m args below meth c H locs (xQv G true sz o) (XA G true sz) 0 ls [] := by
  unfold F_X12_hashEnd at h
  refine lv_ldc2 (v := 8) X.1 X.2.1 X.2.2.2.1 (X.2.2.2.2.1 _ (List.mem_cons_of_mem _ gw372)) dX12_hashEnd_0 ?_
  refine lv_aload_n X.1 X.2.1 dX12_hashEnd_3 rfl (lv_at hl 0 rfl) ?_
  refine x_getL X hW fd_Model_hashed (fun w h => List.mem_cons_of_mem _ (gin_X12 w h)) (List.mem_cons_of_mem _ gw1153) z_1 dX12_hashEnd_4 h (fun x1 h => ?_)
  refine lv_lmul X.1 X.2.1 dX12_hashEnd_7 ?_
  refine x_topL h (fun x2 h => ?_)
  refine lv_lstore_n (lv' := [(1, .long x2), (0, .ref (G.2.2 200 0))]) X.1 X.2.1 dX12_hashEnd_8 rfl hl (by decide) rfl (fun ls hl => ?_)
  refine lv_aload_n X.1 X.2.1 dX12_hashEnd_9 rfl (lv_at hl 1 rfl) ?_
  refine lv_sipush (v := 128) X.1 X.2.1 dX12_hashEnd_10 rfl ?_
  obtain ⟨r3, S4, h5, h⟩ := cl_some h
  refine x_aftV X hW (x_runV (C := RX12) (a := G.2.2 200 0) (As := [.int 128]) (rest := []) X hW (c_X12_hash l G X.2.2.2.2.2.2.2.2.2.1 _ S 128 _ h5) (cwV 1 X.2.2.2.2.1 (gV gw1154 gw1155 gw1156 gw5 gw1157) rfl rfl rfl ⟨rfl, hd_X12_hash⟩ ⟨Nat.le_of_ble_eq_true rfl, Nat.le_of_ble_eq_true rfl⟩) (x_recv X hW ob_Model z_1) rfl hl.1 rfl (Nat.le_of_ble_eq_true rfl) dX12_hashEnd_13 ⟨Nat.zero_le _, Nat.zero_le _⟩) (fun H locs hW => ?_)
  exact w_X12_hashEnd_16 X x2   fu S4 _ _ _ h hW  (lv_sub hl [1, 0] rfl)
theorem c_X12_hashEnd (l : Launch) (G : xG) (hD : xD G true) (sz : Nat) (S : Mm)  (o : Unit × Mm) (h : F_X12_hashEnd  S = some o) : Met l yX12_hashEnd wsX12_hashEnd rmX12_hashEnd (xPre G true S sz [.ref (G.2.2 200 0)]) (xQv G true sz o) 0 0 (XA G true sz) :=
  x_start hD (by decide) rfl (Nat.le_of_ble_eq_true rfl) (fun p e s m below meth c X hW ls hl => w_X12_hashEnd_0 X  hW hl h)

/-! WirelessCellModel.macBegin([III)V -/
def rmX12_macBegin : Room := { frames := 2, cells := 0, slots := 0, locals := 51 }
def L_X12_macBegin_32 (k3 : Int32 → Mm → Option (Unit × Mm)) (cv1 : Nat) (v1 : Nat) (v2 : Int32) (v3 : Int32) (v4 : Int32) (s1 : Int32) (s2 : Int32) (S : Mm) : Option (Unit × Mm) :=
  stA S 205 0 64 1 s1 s2 fun S5 =>
  k3 (v4 + 1) S5
def L_X12_macBegin_46   : Nat → Int32 → Mm → Option (Unit × Mm)
  | 0, _, _ => none
  | n + 1, v4, S => 
    if 64 ≤ v4 then (
    some ((), S))
    else (
    ldA S 205 0 64 1 v4 fun x6 =>
    cl (F_X12_hash (x6 ^^^ 54) S) fun r7 S8 =>
    (L_X12_macBegin_46  n) (v4 + 1) S8)
def L_X12_macBegin_3  (cv1 : Nat) (v1 : Nat) (v2 : Int32) (v3 : Int32) : Nat → Int32 → Mm → Option (Unit × Mm)
  | 0, _, _ => none
  | n + 1, v4, S => 
    if 64 ≤ v4 then (
    cl (F_X12_hashBegin S) fun r1 S2 =>
    L_X12_macBegin_46   fu 0 S2)
    else (
    if v3 ≤ v4 then (
    L_X12_macBegin_32 (L_X12_macBegin_3 cv1 v1 v2 v3 n) cv1 v1 v2 v3 v4 v4 0 S)
    else (
    ldP true S cv1 v1 (v2 + v4) fun x4 =>
    L_X12_macBegin_32 (L_X12_macBegin_3 cv1 v1 v2 v3 n) cv1 v1 v2 v3 v4 v4 x4 S))
def F_X12_macBegin (cv1 : Nat) (v1 : Nat) (v2 : Int32) (v3 : Int32) (S : Mm) : Option (Unit × Mm) :=
  L_X12_macBegin_3  cv1 v1 v2 v3 fu 0 S
set_option maxRecDepth 100000 in
set_option maxHeartbeats 4000000 in
theorem w_X12_macBegin_32 {p : Program} {l : Launch} {e : Env} {s : State} {m : MethodId} {args : Array Value} {below : List Frame} {meth : Method} {c : Code} {G : xG} {sz : Nat} {o : Unit × Mm} (X : xC G true sz p s m args c cX12_macBegin 5 wsX12_macBegin RX12 meth none) (cv1 : Nat) (v1 : Nat) (v2 : Int32) (v3 : Int32) (v4 : Int32) (s1 : Int32) (s2 : Int32)  (k3 : Int32 → Mm → Option (Unit × Mm)) (hk3 : ∀ (v4 : Int32) (S : Mm) (H : Heap) (locs : List Loc) (ls : Array Slot), k3 v4 S = some o → xW G true sz s H locs S → lv_has ls 5 [(0, .ref (G.2.2 200 0)), (1, .ref (G.2.2 cv1 v1)), (2, .int v2), (3, .int v3), (4, .int v4)] → wX p l e rmX12_macBegin s m args below meth c H locs (xQv G true sz o) (XA G true sz) 3 ls []) {S : Mm} {H : Heap} {locs : List Loc} {ls : Array Slot} (hW : xW G true sz s H locs S) (hl : lv_has ls 5 [(0, .ref (G.2.2 200 0)), (1, .ref (G.2.2 cv1 v1)), (2, .int v2), (3, .int v3), (4, .int v4)]) (h : L_X12_macBegin_32 k3 cv1 v1 v2 v3 v4 s1 s2 S = some o) : wX p l e rmX12_macBegin s m args below meth c H locs (xQv G true sz o) (XA G true sz) 32 ls [.int s2, .int s1, .ref (G.2.2 205 0)] := by
  unfold L_X12_macBegin_32 at h
  refine x_iast X hW ar_205 dX12_macBegin_32 h (fun S5 H locs h hW => ?_)
  refine lv_iinc (v := (v4 + 1)) (lv' := [(4, .int (v4 + 1)), (0, .ref (G.2.2 200 0)), (1, .ref (G.2.2 cv1 v1)), (2, .int v2), (3, .int v3)]) X.1 X.2.1 dX12_macBegin_33 hl (k := 4) rfl rfl (by decide) rfl (fun ls hl => ?_)
  refine lv_goto (tgt := 3) X.1 X.2.1 dX12_macBegin_36 (by decide) ?_
  exact hk3 (v4 + 1) S5 _ _ _ h hW  (lv_sub hl [1, 2, 3, 4, 0] rfl)
set_option maxRecDepth 100000 in
set_option maxHeartbeats 4000000 in
theorem w_X12_macBegin_46 {p : Program} {l : Launch} {e : Env} {s : State} {m : MethodId} {args : Array Value} {below : List Frame} {meth : Method} {c : Code} {G : xG} {sz : Nat} {o : Unit × Mm} (X : xC G true sz p s m args c cX12_macBegin 5 wsX12_macBegin RX12 meth none)    : ∀ (n : Nat) (v4 : Int32) (S : Mm) (H : Heap) (locs : List Loc) (ls : Array Slot), L_X12_macBegin_46  n v4 S = some o → xW G true sz s H locs S → lv_has ls 5 [(0, .ref (G.2.2 200 0)), (4, .int v4)] → wX p l e rmX12_macBegin s m args below meth c H locs (xQv G true sz o) (XA G true sz) 46 ls [] := by
  intro n
  induction n with
  | zero =>
    intro v4 S H locs ls h
    cases h
  | succ n ih =>
    intro v4 S H locs ls h hW  hl
    rw [L_X12_macBegin_46] at h
    refine lv_iload X.1 X.2.1 dX12_macBegin_46 (lv_at hl 1 rfl) ?_
    refine lv_bipush (v := 64) X.1 X.2.1 dX12_macBegin_48 rfl ?_
    refine x_icmp_ge X (tgt := 73) dX12_macBegin_50 (by decide) h (fun h => ?_) (fun h => ?_)
    · exact x_vret X hW h dX12_macBegin_73
    · refine lv_aload_n X.1 X.2.1 dX12_macBegin_53 rfl (lv_at hl 0 rfl) ?_
      refine lv_aload_n X.1 X.2.1 dX12_macBegin_54 rfl (lv_at hl 0 rfl) ?_
      refine x_getR X hW fd_Model_macKey (fun w h => List.mem_cons_of_mem _ (gin_X12 w h)) (List.mem_cons_of_mem _ gw155) z_1 dX12_macBegin_55 ?_
      refine lv_iload X.1 X.2.1 dX12_macBegin_58 (lv_at hl 1 rfl) ?_
      refine x_iald X hW ar_205 dX12_macBegin_60 h (fun x6 h => ?_)
      refine lv_bipush (v := 54) X.1 X.2.1 dX12_macBegin_61 rfl ?_
      refine lv_ixor X.1 X.2.1 dX12_macBegin_63 ?_
      obtain ⟨r7, S8, h9, h⟩ := cl_some h
      refine x_aftV X hW (x_runV (C := RX12) (a := G.2.2 200 0) (As := [.int (x6 ^^^ 54)]) (rest := []) X hW (c_X12_hash l G X.2.2.2.2.2.2.2.2.2.1 _ S (x6 ^^^ 54) _ h9) (cwV 1 X.2.2.2.2.1 (gV gw1154 gw1155 gw1156 gw5 gw1157) rfl rfl rfl ⟨rfl, hd_X12_hash⟩ ⟨Nat.le_of_ble_eq_true rfl, Nat.le_of_ble_eq_true rfl⟩) (x_recv X hW ob_Model z_1) rfl hl.1 rfl (Nat.le_of_ble_eq_true rfl) dX12_macBegin_64 ⟨Nat.zero_le _, Nat.zero_le _⟩) (fun H locs hW => ?_)
      refine lv_iinc (v := (v4 + 1)) (lv' := [(4, .int (v4 + 1)), (0, .ref (G.2.2 200 0))]) X.1 X.2.1 dX12_macBegin_67 hl (k := 1) rfl rfl (by decide) rfl (fun ls hl => ?_)
      refine lv_goto (tgt := 46) X.1 X.2.1 dX12_macBegin_70 (by decide) ?_
      exact ih (v4 + 1) S8 _ _ _ h hW  (lv_sub hl [1, 0] rfl)
set_option maxRecDepth 100000 in
set_option maxHeartbeats 4000000 in
theorem w_X12_macBegin_3 {p : Program} {l : Launch} {e : Env} {s : State} {m : MethodId} {args : Array Value} {below : List Frame} {meth : Method} {c : Code} {G : xG} {sz : Nat} {o : Unit × Mm} (X : xC G true sz p s m args c cX12_macBegin 5 wsX12_macBegin RX12 meth none) (cv1 : Nat) (v1 : Nat) (v2 : Int32) (v3 : Int32)   : ∀ (n : Nat) (v4 : Int32) (S : Mm) (H : Heap) (locs : List Loc) (ls : Array Slot), L_X12_macBegin_3 cv1 v1 v2 v3 n v4 S = some o → xW G true sz s H locs S → lv_has ls 5 [(0, .ref (G.2.2 200 0)), (1, .ref (G.2.2 cv1 v1)), (2, .int v2), (3, .int v3), (4, .int v4)] → wX p l e rmX12_macBegin s m args below meth c H locs (xQv G true sz o) (XA G true sz) 3 ls [] := by
  intro n
  induction n with
  | zero =>
    intro v4 S H locs ls h
    cases h
  | succ n ih =>
    intro v4 S H locs ls h hW  hl
    rw [L_X12_macBegin_3] at h
    refine lv_iload X.1 X.2.1 dX12_macBegin_3 (lv_at hl 4 rfl) ?_
    refine lv_bipush (v := 64) X.1 X.2.1 dX12_macBegin_5 rfl ?_
    refine x_icmp_ge X (tgt := 39) dX12_macBegin_7 (by decide) h (fun h => ?_) (fun h => ?_)
    · refine lv_aload_n X.1 X.2.1 dX12_macBegin_39 rfl (lv_at hl 0 rfl) ?_
      obtain ⟨r1, S2, h3, h⟩ := cl_some h
      refine x_aftV X hW (x_runV (C := RX12) (a := G.2.2 200 0) (As := []) (rest := []) X hW (c_X12_hashBegin l G X.2.2.2.2.2.2.2.2.2.1 _ S _ h3) (cwV 0 X.2.2.2.2.1 (gV gw1143 gw1144 gw1145 gw5 gw1146) rfl rfl rfl ⟨rfl, hd_X12_hashBegin⟩ ⟨Nat.le_of_ble_eq_true rfl, Nat.le_of_ble_eq_true rfl⟩) (x_recv X hW ob_Model z_1) rfl hl.1 rfl (Nat.le_of_ble_eq_true rfl) dX12_macBegin_40 ⟨Nat.zero_le _, Nat.zero_le _⟩) (fun H locs hW => ?_)
      refine lv_iconst (v := 0) X.1 X.2.1 dX12_macBegin_43 rfl ?_
      refine lv_istore (lv' := [(4, .int 0), (0, .ref (G.2.2 200 0)), (1, .ref (G.2.2 cv1 v1)), (2, .int v2), (3, .int v3)]) X.1 X.2.1 dX12_macBegin_44 hl (by decide) rfl (fun ls hl => ?_)
      exact w_X12_macBegin_46 X    fu 0 S2 _ _ _ h hW  (lv_sub hl [1, 0] rfl)
    · refine lv_aload_n X.1 X.2.1 dX12_macBegin_10 rfl (lv_at hl 0 rfl) ?_
      refine x_getR X hW fd_Model_macKey (fun w h => List.mem_cons_of_mem _ (gin_X12 w h)) (List.mem_cons_of_mem _ gw155) z_1 dX12_macBegin_11 ?_
      refine lv_iload X.1 X.2.1 dX12_macBegin_14 (lv_at hl 4 rfl) ?_
      refine lv_iload X.1 X.2.1 dX12_macBegin_16 (lv_at hl 4 rfl) ?_
      refine lv_iload_n X.1 X.2.1 dX12_macBegin_18 rfl (lv_at hl 3 rfl) ?_
      refine x_icmp_ge X (tgt := 31) dX12_macBegin_19 (by decide) h (fun h => ?_) (fun h => ?_)
      · refine lv_iconst (v := 0) X.1 X.2.1 dX12_macBegin_31 rfl ?_
        exact w_X12_macBegin_32 X cv1 v1 v2 v3 v4 v4 0  (L_X12_macBegin_3 cv1 v1 v2 v3 n) ih hW (lv_sub hl [0, 1, 2, 3, 4] rfl) h
      · refine lv_aload_n X.1 X.2.1 dX12_macBegin_22 rfl (lv_at hl 1 rfl) ?_
        refine lv_iload_n X.1 X.2.1 dX12_macBegin_23 rfl (lv_at hl 2 rfl) ?_
        refine lv_iload X.1 X.2.1 dX12_macBegin_24 (lv_at hl 4 rfl) ?_
        refine lv_iadd X.1 X.2.1 dX12_macBegin_26 ?_
        refine x_ialdP X hW dX12_macBegin_27 h (fun x4 h => ?_)
        refine lv_goto (tgt := 32) X.1 X.2.1 dX12_macBegin_28 (by decide) ?_
        exact w_X12_macBegin_32 X cv1 v1 v2 v3 v4 v4 x4  (L_X12_macBegin_3 cv1 v1 v2 v3 n) ih hW (lv_sub hl [0, 1, 2, 3, 4] rfl) h
set_option maxRecDepth 100000 in
set_option maxHeartbeats 4000000 in
theorem w_X12_macBegin_0 {p : Program} {l : Launch} {e : Env} {s : State} {m : MethodId} {args : Array Value} {below : List Frame} {meth : Method} {c : Code} {G : xG} {sz : Nat} {o : Unit × Mm} (X : xC G true sz p s m args c cX12_macBegin 5 wsX12_macBegin RX12 meth none) (cv1 : Nat) (v1 : Nat) (v2 : Int32) (v3 : Int32) {S : Mm} {H : Heap} {locs : List Loc} {ls : Array Slot} (hW : xW G true sz s H locs S) (hl : lv_has ls 5 [(0, .ref (G.2.2 200 0)), (1, .ref (G.2.2 cv1 v1)), (2, .int v2), (3, .int v3)]) (h : F_X12_macBegin cv1 v1 v2 v3 S = some o) : wX p l e rmX12_macBegin s m args below meth c H locs (xQv G true sz o) (XA G true sz) 0 ls [] := by
  unfold F_X12_macBegin at h
  refine lv_iconst (v := 0) X.1 X.2.1 dX12_macBegin_0 rfl ?_
  refine lv_istore (lv' := [(4, .int 0), (0, .ref (G.2.2 200 0)), (1, .ref (G.2.2 cv1 v1)), (2, .int v2), (3, .int v3)]) X.1 X.2.1 dX12_macBegin_1 hl (by decide) rfl (fun ls hl => ?_)
  exact w_X12_macBegin_3 X cv1 v1 v2 v3   fu 0 S _ _ _ h hW  (lv_sub hl [1, 2, 3, 4, 0] rfl)
theorem c_X12_macBegin (l : Launch) (G : xG) (hD : xD G true) (sz : Nat) (S : Mm) (cv1 : Nat) (v1 : Nat) (v2 : Int32) (v3 : Int32) (o : Unit × Mm) (h : F_X12_macBegin cv1 v1 v2 v3 S = some o) : Met l yX12_macBegin wsX12_macBegin rmX12_macBegin (xPre G true S sz [.ref (G.2.2 200 0), .ref (G.2.2 cv1 v1), .int v2, .int v3]) (xQv G true sz o) 0 0 (XA G true sz) :=
  x_start hD (by decide) rfl (Nat.le_of_ble_eq_true rfl) (fun p e s m below meth c X hW ls hl => w_X12_macBegin_0 X cv1 v1 v2 v3 hW hl h)

/-! WirelessCellModel.macEnd()V -/
def rmX12_macEnd : Room := { frames := 3, cells := 0, slots := 0, locals := 74 }
def L_X12_macEnd_63   : Nat → Int32 → Mm → Option (Unit × Mm)
  | 0, _, _ => none
  | n + 1, v1, S => 
    if 20 ≤ v1 then (
    cl (F_X12_hashEnd S) fun r13 S14 =>
    some ((), S14))
    else (
    ldA S 206 0 20 1 v1 fun x16 =>
    cl (F_X12_hash x16 S) fun r17 S18 =>
    (L_X12_macEnd_63  n) (v1 + 1) S18)
def L_X12_macEnd_36   : Nat → Int32 → Mm → Option (Unit × Mm)
  | 0, _, _ => none
  | n + 1, v1, S => 
    if 64 ≤ v1 then (
    L_X12_macEnd_63   fu 0 S)
    else (
    ldA S 205 0 64 1 v1 fun x9 =>
    cl (F_X12_hash (x9 ^^^ 92) S) fun r10 S11 =>
    (L_X12_macEnd_36  n) (v1 + 1) S11)
def L_X12_macEnd_6   : Nat → Int32 → Mm → Option (Unit × Mm)
  | 0, _, _ => none
  | n + 1, v1, S => 
    if 20 ≤ v1 then (
    cl (F_X12_hashBegin S) fun r4 S5 =>
    L_X12_macEnd_36   fu 0 S5)
    else (
    ldA S 204 0 20 1 v1 fun x7 =>
    stA S 206 0 20 1 v1 x7 fun S8 =>
    (L_X12_macEnd_6  n) (v1 + 1) S8)
def F_X12_macEnd  (S : Mm) : Option (Unit × Mm) :=
  cl (F_X12_hashEnd S) fun r1 S2 =>
  L_X12_macEnd_6   fu 0 S2
set_option maxRecDepth 100000 in
set_option maxHeartbeats 4000000 in
theorem w_X12_macEnd_63 {p : Program} {l : Launch} {e : Env} {s : State} {m : MethodId} {args : Array Value} {below : List Frame} {meth : Method} {c : Code} {G : xG} {sz : Nat} {o : Unit × Mm} (X : xC G true sz p s m args c cX12_macEnd 2 wsX12_macEnd RX12 meth none)    : ∀ (n : Nat) (v1 : Int32) (S : Mm) (H : Heap) (locs : List Loc) (ls : Array Slot), L_X12_macEnd_63  n v1 S = some o → xW G true sz s H locs S → lv_has ls 2 [(0, .ref (G.2.2 200 0)), (1, .int v1)] → wX p l e rmX12_macEnd s m args below meth c H locs (xQv G true sz o) (XA G true sz) 63 ls [] := by
  intro n
  induction n with
  | zero =>
    intro v1 S H locs ls h
    cases h
  | succ n ih =>
    intro v1 S H locs ls h hW  hl
    rw [L_X12_macEnd_63] at h
    refine lv_iload_n X.1 X.2.1 dX12_macEnd_63 rfl (lv_at hl 1 rfl) ?_
    refine lv_bipush (v := 20) X.1 X.2.1 dX12_macEnd_64 rfl ?_
    refine x_icmp_ge X (tgt := 85) dX12_macEnd_66 (by decide) h (fun h => ?_) (fun h => ?_)
    · refine lv_aload_n X.1 X.2.1 dX12_macEnd_85 rfl (lv_at hl 0 rfl) ?_
      obtain ⟨r13, S14, h15, h⟩ := cl_some h
      refine x_aftV X hW (x_runV (C := RX12) (a := G.2.2 200 0) (As := []) (rest := []) X hW (c_X12_hashEnd l G X.2.2.2.2.2.2.2.2.2.1 _ S _ h15) (cwV 0 X.2.2.2.2.1 (gV gw1169 gw1170 gw1171 gw5 gw1172) rfl rfl rfl ⟨rfl, hd_X12_hashEnd⟩ ⟨Nat.le_of_ble_eq_true rfl, Nat.le_of_ble_eq_true rfl⟩) (x_recv X hW ob_Model z_1) rfl hl.1 rfl (Nat.le_of_ble_eq_true rfl) dX12_macEnd_86 ⟨Nat.zero_le _, Nat.zero_le _⟩) (fun H locs hW => ?_)
      exact x_vret X hW h dX12_macEnd_89
    · refine lv_aload_n X.1 X.2.1 dX12_macEnd_69 rfl (lv_at hl 0 rfl) ?_
      refine lv_aload_n X.1 X.2.1 dX12_macEnd_70 rfl (lv_at hl 0 rfl) ?_
      refine x_getR X hW fd_Model_inner (fun w h => List.mem_cons_of_mem _ (gin_X12 w h)) (List.mem_cons_of_mem _ gw156) z_1 dX12_macEnd_71 ?_
      refine lv_iload_n X.1 X.2.1 dX12_macEnd_74 rfl (lv_at hl 1 rfl) ?_
      refine x_iald X hW ar_206 dX12_macEnd_75 h (fun x16 h => ?_)
      obtain ⟨r17, S18, h19, h⟩ := cl_some h
      refine x_aftV X hW (x_runV (C := RX12) (a := G.2.2 200 0) (As := [.int x16]) (rest := []) X hW (c_X12_hash l G X.2.2.2.2.2.2.2.2.2.1 _ S x16 _ h19) (cwV 1 X.2.2.2.2.1 (gV gw1154 gw1155 gw1156 gw5 gw1157) rfl rfl rfl ⟨rfl, hd_X12_hash⟩ ⟨Nat.le_of_ble_eq_true rfl, Nat.le_of_ble_eq_true rfl⟩) (x_recv X hW ob_Model z_1) rfl hl.1 rfl (Nat.le_of_ble_eq_true rfl) dX12_macEnd_76 ⟨Nat.zero_le _, Nat.zero_le _⟩) (fun H locs hW => ?_)
      refine lv_iinc (v := (v1 + 1)) (lv' := [(1, .int (v1 + 1)), (0, .ref (G.2.2 200 0))]) X.1 X.2.1 dX12_macEnd_79 hl (k := 1) rfl rfl (by decide) rfl (fun ls hl => ?_)
      refine lv_goto (tgt := 63) X.1 X.2.1 dX12_macEnd_82 (by decide) ?_
      exact ih (v1 + 1) S18 _ _ _ h hW  (lv_sub hl [1, 0] rfl)
set_option maxRecDepth 100000 in
set_option maxHeartbeats 4000000 in
theorem w_X12_macEnd_36 {p : Program} {l : Launch} {e : Env} {s : State} {m : MethodId} {args : Array Value} {below : List Frame} {meth : Method} {c : Code} {G : xG} {sz : Nat} {o : Unit × Mm} (X : xC G true sz p s m args c cX12_macEnd 2 wsX12_macEnd RX12 meth none)    : ∀ (n : Nat) (v1 : Int32) (S : Mm) (H : Heap) (locs : List Loc) (ls : Array Slot), L_X12_macEnd_36  n v1 S = some o → xW G true sz s H locs S → lv_has ls 2 [(0, .ref (G.2.2 200 0)), (1, .int v1)] → wX p l e rmX12_macEnd s m args below meth c H locs (xQv G true sz o) (XA G true sz) 36 ls [] := by
  intro n
  induction n with
  | zero =>
    intro v1 S H locs ls h
    cases h
  | succ n ih =>
    intro v1 S H locs ls h hW  hl
    rw [L_X12_macEnd_36] at h
    refine lv_iload_n X.1 X.2.1 dX12_macEnd_36 rfl (lv_at hl 1 rfl) ?_
    refine lv_bipush (v := 64) X.1 X.2.1 dX12_macEnd_37 rfl ?_
    refine x_icmp_ge X (tgt := 61) dX12_macEnd_39 (by decide) h (fun h => ?_) (fun h => ?_)
    · refine lv_iconst (v := 0) X.1 X.2.1 dX12_macEnd_61 rfl ?_
      refine lv_istore_n (lv' := [(1, .int 0), (0, .ref (G.2.2 200 0))]) X.1 X.2.1 dX12_macEnd_62 rfl hl (by decide) rfl (fun ls hl => ?_)
      exact w_X12_macEnd_63 X    fu 0 S _ _ _ h hW  (lv_sub hl [1, 0] rfl)
    · refine lv_aload_n X.1 X.2.1 dX12_macEnd_42 rfl (lv_at hl 0 rfl) ?_
      refine lv_aload_n X.1 X.2.1 dX12_macEnd_43 rfl (lv_at hl 0 rfl) ?_
      refine x_getR X hW fd_Model_macKey (fun w h => List.mem_cons_of_mem _ (gin_X12 w h)) (List.mem_cons_of_mem _ gw155) z_1 dX12_macEnd_44 ?_
      refine lv_iload_n X.1 X.2.1 dX12_macEnd_47 rfl (lv_at hl 1 rfl) ?_
      refine x_iald X hW ar_205 dX12_macEnd_48 h (fun x9 h => ?_)
      refine lv_bipush (v := 92) X.1 X.2.1 dX12_macEnd_49 rfl ?_
      refine lv_ixor X.1 X.2.1 dX12_macEnd_51 ?_
      obtain ⟨r10, S11, h12, h⟩ := cl_some h
      refine x_aftV X hW (x_runV (C := RX12) (a := G.2.2 200 0) (As := [.int (x9 ^^^ 92)]) (rest := []) X hW (c_X12_hash l G X.2.2.2.2.2.2.2.2.2.1 _ S (x9 ^^^ 92) _ h12) (cwV 1 X.2.2.2.2.1 (gV gw1154 gw1155 gw1156 gw5 gw1157) rfl rfl rfl ⟨rfl, hd_X12_hash⟩ ⟨Nat.le_of_ble_eq_true rfl, Nat.le_of_ble_eq_true rfl⟩) (x_recv X hW ob_Model z_1) rfl hl.1 rfl (Nat.le_of_ble_eq_true rfl) dX12_macEnd_52 ⟨Nat.zero_le _, Nat.zero_le _⟩) (fun H locs hW => ?_)
      refine lv_iinc (v := (v1 + 1)) (lv' := [(1, .int (v1 + 1)), (0, .ref (G.2.2 200 0))]) X.1 X.2.1 dX12_macEnd_55 hl (k := 1) rfl rfl (by decide) rfl (fun ls hl => ?_)
      refine lv_goto (tgt := 36) X.1 X.2.1 dX12_macEnd_58 (by decide) ?_
      exact ih (v1 + 1) S11 _ _ _ h hW  (lv_sub hl [1, 0] rfl)
set_option maxRecDepth 100000 in
set_option maxHeartbeats 4000000 in
theorem w_X12_macEnd_6 {p : Program} {l : Launch} {e : Env} {s : State} {m : MethodId} {args : Array Value} {below : List Frame} {meth : Method} {c : Code} {G : xG} {sz : Nat} {o : Unit × Mm} (X : xC G true sz p s m args c cX12_macEnd 2 wsX12_macEnd RX12 meth none)    : ∀ (n : Nat) (v1 : Int32) (S : Mm) (H : Heap) (locs : List Loc) (ls : Array Slot), L_X12_macEnd_6  n v1 S = some o → xW G true sz s H locs S → lv_has ls 2 [(0, .ref (G.2.2 200 0)), (1, .int v1)] → wX p l e rmX12_macEnd s m args below meth c H locs (xQv G true sz o) (XA G true sz) 6 ls [] := by
  intro n
  induction n with
  | zero =>
    intro v1 S H locs ls h
    cases h
  | succ n ih =>
    intro v1 S H locs ls h hW  hl
    rw [L_X12_macEnd_6] at h
    refine lv_iload_n X.1 X.2.1 dX12_macEnd_6 rfl (lv_at hl 1 rfl) ?_
    refine lv_bipush (v := 20) X.1 X.2.1 dX12_macEnd_7 rfl ?_
    refine x_icmp_ge X (tgt := 30) dX12_macEnd_9 (by decide) h (fun h => ?_) (fun h => ?_)
    · refine lv_aload_n X.1 X.2.1 dX12_macEnd_30 rfl (lv_at hl 0 rfl) ?_
      obtain ⟨r4, S5, h6, h⟩ := cl_some h
      refine x_aftV X hW (x_runV (C := RX12) (a := G.2.2 200 0) (As := []) (rest := []) X hW (c_X12_hashBegin l G X.2.2.2.2.2.2.2.2.2.1 _ S _ h6) (cwV 0 X.2.2.2.2.1 (gV gw1143 gw1144 gw1145 gw5 gw1146) rfl rfl rfl ⟨rfl, hd_X12_hashBegin⟩ ⟨Nat.le_of_ble_eq_true rfl, Nat.le_of_ble_eq_true rfl⟩) (x_recv X hW ob_Model z_1) rfl hl.1 rfl (Nat.le_of_ble_eq_true rfl) dX12_macEnd_31 ⟨Nat.zero_le _, Nat.zero_le _⟩) (fun H locs hW => ?_)
      refine lv_iconst (v := 0) X.1 X.2.1 dX12_macEnd_34 rfl ?_
      refine lv_istore_n (lv' := [(1, .int 0), (0, .ref (G.2.2 200 0))]) X.1 X.2.1 dX12_macEnd_35 rfl hl (by decide) rfl (fun ls hl => ?_)
      exact w_X12_macEnd_36 X    fu 0 S5 _ _ _ h hW  (lv_sub hl [1, 0] rfl)
    · refine lv_aload_n X.1 X.2.1 dX12_macEnd_12 rfl (lv_at hl 0 rfl) ?_
      refine x_getR X hW fd_Model_inner (fun w h => List.mem_cons_of_mem _ (gin_X12 w h)) (List.mem_cons_of_mem _ gw156) z_1 dX12_macEnd_13 ?_
      refine lv_iload_n X.1 X.2.1 dX12_macEnd_16 rfl (lv_at hl 1 rfl) ?_
      refine lv_aload_n X.1 X.2.1 dX12_macEnd_17 rfl (lv_at hl 0 rfl) ?_
      refine x_getR X hW fd_Model_digest (fun w h => List.mem_cons_of_mem _ (gin_X12 w h)) (List.mem_cons_of_mem _ gw154) z_1 dX12_macEnd_18 ?_
      refine lv_iload_n X.1 X.2.1 dX12_macEnd_21 rfl (lv_at hl 1 rfl) ?_
      refine x_iald X hW ar_204 dX12_macEnd_22 h (fun x7 h => ?_)
      refine x_iast X hW ar_206 dX12_macEnd_23 h (fun S8 H locs h hW => ?_)
      refine lv_iinc (v := (v1 + 1)) (lv' := [(1, .int (v1 + 1)), (0, .ref (G.2.2 200 0))]) X.1 X.2.1 dX12_macEnd_24 hl (k := 1) rfl rfl (by decide) rfl (fun ls hl => ?_)
      refine lv_goto (tgt := 6) X.1 X.2.1 dX12_macEnd_27 (by decide) ?_
      exact ih (v1 + 1) S8 _ _ _ h hW  (lv_sub hl [1, 0] rfl)
set_option maxRecDepth 100000 in
set_option maxHeartbeats 4000000 in
theorem w_X12_macEnd_0 {p : Program} {l : Launch} {e : Env} {s : State} {m : MethodId} {args : Array Value} {below : List Frame} {meth : Method} {c : Code} {G : xG} {sz : Nat} {o : Unit × Mm} (X : xC G true sz p s m args c cX12_macEnd 2 wsX12_macEnd RX12 meth none)  {S : Mm} {H : Heap} {locs : List Loc} {ls : Array Slot} (hW : xW G true sz s H locs S) (hl : lv_has ls 2 [(0, .ref (G.2.2 200 0))]) (h : F_X12_macEnd  S = some o) : wX p l e rmX12_macEnd s m args below meth c H locs (xQv G true sz o) (XA G true sz) 0 ls [] := by
  unfold F_X12_macEnd at h
  refine lv_aload_n X.1 X.2.1 dX12_macEnd_0 rfl (lv_at hl 0 rfl) ?_
  obtain ⟨r1, S2, h3, h⟩ := cl_some h
  refine x_aftV X hW (x_runV (C := RX12) (a := G.2.2 200 0) (As := []) (rest := []) X hW (c_X12_hashEnd l G X.2.2.2.2.2.2.2.2.2.1 _ S _ h3) (cwV 0 X.2.2.2.2.1 (gV gw1169 gw1170 gw1171 gw5 gw1172) rfl rfl rfl ⟨rfl, hd_X12_hashEnd⟩ ⟨Nat.le_of_ble_eq_true rfl, Nat.le_of_ble_eq_true rfl⟩) (x_recv X hW ob_Model z_1) rfl hl.1 rfl (Nat.le_of_ble_eq_true rfl) dX12_macEnd_1 ⟨Nat.zero_le _, Nat.zero_le _⟩) (fun H locs hW => ?_)
  refine lv_iconst (v := 0) X.1 X.2.1 dX12_macEnd_4 rfl ?_
  refine lv_istore_n (lv' := [(1, .int 0), (0, .ref (G.2.2 200 0))]) X.1 X.2.1 dX12_macEnd_5 rfl hl (by decide) rfl (fun ls hl => ?_)
  exact w_X12_macEnd_6 X    fu 0 S2 _ _ _ h hW  (lv_sub hl [1, 0] rfl)
theorem c_X12_macEnd (l : Launch) (G : xG) (hD : xD G true) (sz : Nat) (S : Mm)  (o : Unit × Mm) (h : F_X12_macEnd  S = some o) : Met l yX12_macEnd wsX12_macEnd rmX12_macEnd (xPre G true S sz [.ref (G.2.2 200 0)]) (xQv G true sz o) 0 0 (XA G true sz) :=
  x_start hD (by decide) rfl (Nat.le_of_ble_eq_true rfl) (fun p e s m below meth c X hW ls hl => w_X12_macEnd_0 X  hW hl h)

/-! WirelessCellModel.twice(I)I -/
def rmX12_twice : Room := { frames := 0, cells := 0, slots := 0, locals := 0 }
def F_X12_twice (v0 : Int32) (S : Mm) : Option (Int32 × Mm) :=
  tp (v0 <<< (1 &&& 31)) fun x1 =>
  if x1 ≤ 255 then (
  some (x1, S))
  else (
  some ((x1 ^^^ 283), S))
set_option maxRecDepth 100000 in
set_option maxHeartbeats 4000000 in
theorem w_X12_twice_0 {p : Program} {l : Launch} {e : Env} {s : State} {m : MethodId} {args : Array Value} {below : List Frame} {meth : Method} {c : Code} {G : xG} {sz : Nat} {o : Int32 × Mm} (X : xC G true sz p s m args c cX12_twice 2 wsX12_twice RX12 meth (some .int)) (v0 : Int32) {S : Mm} {H : Heap} {locs : List Loc} {ls : Array Slot} (hW : xW G true sz s H locs S) (hl : lv_has ls 2 [(0, .int v0)]) (h : F_X12_twice v0 S = some o) : wX p l e rmX12_twice s m args below meth c H locs (xQi G true sz o) (XA G true sz) 0 ls [] := by
  unfold F_X12_twice at h
  refine lv_iload_n X.1 X.2.1 dX12_twice_0 rfl (lv_at hl 0 rfl) ?_
  refine lv_iconst (v := 1) X.1 X.2.1 dX12_twice_1 rfl ?_
  refine lv_ishl X.1 X.2.1 dX12_twice_2 ?_
  refine x_top h (fun x1 h => ?_)
  refine lv_istore_n (lv' := [(1, .int x1), (0, .int v0)]) X.1 X.2.1 dX12_twice_3 rfl hl (by decide) rfl (fun ls hl => ?_)
  refine lv_iload_n X.1 X.2.1 dX12_twice_4 rfl (lv_at hl 0 rfl) ?_
  refine lv_sipush (v := 255) X.1 X.2.1 dX12_twice_5 rfl ?_
  refine x_icmp_le X (tgt := 19) dX12_twice_8 (by decide) h (fun h => ?_) (fun h => ?_)
  · refine lv_iload_n X.1 X.2.1 dX12_twice_19 rfl (lv_at hl 0 rfl) ?_
    exact x_iret X hW h dX12_twice_20
  · refine lv_iload_n X.1 X.2.1 dX12_twice_11 rfl (lv_at hl 0 rfl) ?_
    refine lv_sipush (v := 283) X.1 X.2.1 dX12_twice_12 rfl ?_
    refine lv_ixor X.1 X.2.1 dX12_twice_15 ?_
    refine lv_goto (tgt := 20) X.1 X.2.1 dX12_twice_16 (by decide) ?_
    exact x_iret X hW h dX12_twice_20
theorem c_X12_twice (l : Launch) (G : xG) (hD : xD G true) (sz : Nat) (S : Mm) (v0 : Int32) (o : Int32 × Mm) (h : F_X12_twice v0 S = some o) : Met l yX12_twice wsX12_twice rmX12_twice (xPre G true S sz [.int v0]) (xQi G true sz o) 0 0 (XA G true sz) :=
  x_start hD (by decide) rfl (Nat.le_of_ble_eq_true rfl) (fun p e s m below meth c X hW ls hl => w_X12_twice_0 X v0 hW hl h)
