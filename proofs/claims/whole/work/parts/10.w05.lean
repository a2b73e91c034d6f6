/-! WirelessCell.makeFrame(LWirelessCell$Node;LWirelessCell$Message;LWirelessCell$Link;)V -/
def rmX11_makeFrame : Room := { frames := 4, cells := 0, slots := 0, locals := 92 }
def L_X11_makeFrame_128  (v1 : Nat) (v4 : Nat) (v7 : Int32) (S : Mm) : Option (Unit × Mm) :=
  cl (F_X2_writeFcs 40 v4 v7 S) fun r25 S26 =>
  pf S26 100 v1 (v7 + 4) fun S28 =>
  some ((), S28)
def L_X11_makeFrame_81  (v1 : Nat) (v2 : Nat) (v3 : Nat) (v4 : Nat) (v5 : Int32) (v6 : Int32) (v7 : Int32) (S : Mm) : Option (Unit × Mm) :=
  cpP false S 36 v2 v5 40 v4 v7 v6 fun S19 =>
  tp (v7 + v6) fun x20 =>
  gf S19 84 v2 fun x21 =>
  if x21 = 0 then (
  L_X11_makeFrame_128  v1 v4 x20 S19)
  else (
  cl (F_X0_seal 40 v4 v6 24 v3 S19) fun r22 S23 =>
  L_X11_makeFrame_128  v1 v4 (x20 + 8) S23)
def F_X11_makeFrame (v1 : Nat) (v2 : Nat) (v3 : Nat) (S : Mm) : Option (Unit × Mm) :=
  gd (v1 < 9) (
  gd (v2 < 108) (
  gd (v3 < 18) (
  gf S 99 v1 fun x1 =>
  gf S 85 v2 fun x2 =>
  tp (x1 * x2) fun x3 =>
  gf S 85 v2 fun x4 =>
  gf S 80 v2 fun x5 =>
  tp (if (x5 - x3) < x4 then (x5 - x3) else x4) fun x6 =>
  gf S 88 v1 fun x7 =>
  gf S 99 v1 fun x8 =>
  cl (F_X2_writeHeader 40 v1 v2 x7 x8 S) fun r9 S10 =>
  gf S10 84 v2 fun x12 =>
  if x12 = 0 then (
  L_X11_makeFrame_81  v1 v2 v3 v1 x3 x6 24 S10)
  else (
  gl S10 66 v3 fun x13 =>
  cl (F_X2_writeSealHeader 40 v1 x13 S10) fun r14 S15 =>
  gl S15 66 v3 fun x17 =>
  pl S15 66 v3 (x17 + 1) fun S18 =>
  L_X11_makeFrame_81  v1 v2 v3 v1 x3 x6 32 S18))))
set_option maxRecDepth 100000 in
set_option maxHeartbeats 4000000 in
theorem w_X11_makeFrame_128 {p : Program} {l : Launch} {e : Env} {s : State} {m : MethodId} {args : Array Value} {below : List Frame} {meth : Method} {c : Code} {G : xG} {sz : Nat} {o : Unit × Mm} (X : xC G false sz p s m args c cX11_makeFrame 8 wsX11_makeFrame RX11 meth none) (v1 : Nat) (v4 : Nat) (v7 : Int32) (qv1 : v1 < 9)  {S : Mm} {H : Heap} {locs : List Loc} {ls : Array Slot} (hW : xW G false sz s H locs S) (hl : lv_has ls 8 [(1, .ref (G.2.2 6 v1)), (4, .ref (G.2.2 40 v4)), (7, .int v7)]) (h : L_X11_makeFrame_128  v1 v4 v7 S = some o) : wX p l e rmX11_makeFrame s m args below meth c H locs (xQv G false sz o) (XA G false sz) 128 ls [] := by
  unfold L_X11_makeFrame_128 at h
  refine lv_aload X.1 X.2.1 dX11_makeFrame_128 (lv_at hl 1 rfl) ?_
  refine lv_iload X.1 X.2.1 dX11_makeFrame_130 (lv_at hl 2 rfl) ?_
  obtain ⟨r25, S26, h27, h⟩ := cl_some h
  refine x_aftV X hW (x_runS (As := [.ref (G.2.2 40 v4), .int v7]) (rest := []) X hW (c_X2_writeFcs l G X.2.2.2.2.2.2.2.2.2.1 _ S 40 v4 v7 _ h27) (va_cwS 2 X.2.2.2.2.1 (gS gw303 gw304 gw267 gw305) rfl rfl rfl hd_X2_writeFcs ⟨Nat.le_of_ble_eq_true rfl, Nat.le_of_ble_eq_true rfl⟩) rfl hl.1 rfl (Nat.le_of_ble_eq_true rfl) dX11_makeFrame_132 ⟨Nat.zero_le _, Nat.zero_le _⟩) (fun H locs hW => ?_)
  refine lv_aload_n X.1 X.2.1 dX11_makeFrame_135 rfl (lv_at hl 0 rfl) ?_
  refine lv_iload X.1 X.2.1 dX11_makeFrame_136 (lv_at hl 2 rfl) ?_
  refine lv_iconst (v := 4) X.1 X.2.1 dX11_makeFrame_138 rfl ?_
  refine lv_iadd X.1 X.2.1 dX11_makeFrame_139 ?_
  refine x_putI X hW fd_Node_frameLength (fun w h => List.mem_cons_of_mem _ (gin_X7 w h)) (List.mem_cons_of_mem _ gw648) qv1 dX11_makeFrame_140 tyX7 tyX7_ok nmX7 rfl rfl rfl h (fun S28 H locs h hW => ?_)
  exact x_vret X hW h dX11_makeFrame_143
set_option maxRecDepth 100000 in
set_option maxHeartbeats 4000000 in
theorem w_X11_makeFrame_81 {p : Program} {l : Launch} {e : Env} {s : State} {m : MethodId} {args : Array Value} {below : List Frame} {meth : Method} {c : Code} {G : xG} {sz : Nat} {o : Unit × Mm} (X : xC G false sz p s m args c cX11_makeFrame 8 wsX11_makeFrame RX11 meth none) (v1 : Nat) (v2 : Nat) (v3 : Nat) (v4 : Nat) (v5 : Int32) (v6 : Int32) (v7 : Int32) (qv1 : v1 < 9) (qv2 : v2 < 108) (qv3 : v3 < 18)  {S : Mm} {H : Heap} {locs : List Loc} {ls : Array Slot} (hW : xW G false sz s H locs S) (hl : lv_has ls 8 [(0, .ref (G.2.2 10 0)), (1, .ref (G.2.2 6 v1)), (2, .ref (G.2.2 5 v2)), (3, .ref (G.2.2 3 v3)), (4, .ref (G.2.2 40 v4)), (5, .int v5), (6, .int v6), (7, .int v7)]) (h : L_X11_makeFrame_81  v1 v2 v3 v4 v5 v6 v7 S = some o) : wX p l e rmX11_makeFrame s m args below meth c H locs (xQv G false sz o) (XA G false sz) 81 ls [] := by
  unfold L_X11_makeFrame_81 at h
  refine lv_aload_n X.1 X.2.1 dX11_makeFrame_81 rfl (lv_at hl 2 rfl) ?_
  refine x_getR X hW fd_Message_bytes (fun w h => List.mem_cons_of_mem _ (gin_X6 w h)) (List.mem_cons_of_mem _ gw484) qv2 dX11_makeFrame_82 ?_
  refine lv_iload X.1 X.2.1 dX11_makeFrame_85 (lv_at hl 5 rfl) ?_
  refine lv_aload X.1 X.2.1 dX11_makeFrame_87 (lv_at hl 4 rfl) ?_
  refine lv_iload X.1 X.2.1 dX11_makeFrame_89 (lv_at hl 7 rfl) ?_
  refine lv_iload X.1 X.2.1 dX11_makeFrame_91 (lv_at hl 6 rfl) ?_
  refine x_acopy X hW hl.1 (List.mem_cons_of_mem _ gw324) (List.mem_cons_of_mem _ gw325) (List.mem_cons_of_mem _ gw326) (List.mem_cons_of_mem _ gw327) (Nat.le_of_ble_eq_true rfl) (Nat.le_of_ble_eq_true rfl) dX11_makeFrame_93 h (fun S19 H locs h hW => ?_)
  refine lv_iload X.1 X.2.1 dX11_makeFrame_96 (lv_at hl 7 rfl) ?_
  refine lv_iload X.1 X.2.1 dX11_makeFrame_98 (lv_at hl 6 rfl) ?_
  refine lv_iadd X.1 X.2.1 dX11_makeFrame_100 ?_
  refine x_top h (fun x20 h => ?_)
  refine lv_istore (lv' := [(7, .int x20), (0, .ref (G.2.2 10 0)), (1, .ref (G.2.2 6 v1)), (2, .ref (G.2.2 5 v2)), (3, .ref (G.2.2 3 v3)), (4, .ref (G.2.2 40 v4)), (5, .int v5), (6, .int v6)]) X.1 X.2.1 dX11_makeFrame_101 hl (by decide) rfl (fun ls hl => ?_)
  refine lv_aload_n X.1 X.2.1 dX11_makeFrame_103 rfl (lv_at hl 3 rfl) ?_
  refine x_getI X hW fd_Message_sealed (fun w h => List.mem_cons_of_mem _ (gin_X6 w h)) (List.mem_cons_of_mem _ gw495) qv2 dX11_makeFrame_104 h (fun x21 h => ?_)
  refine x_if_eq X (tgt := 128) dX11_makeFrame_107 (by decide) h (fun h => ?_) (fun h => ?_)
  · exact w_X11_makeFrame_128 X v1 v4 x20 qv1  hW (lv_sub hl [2, 5, 0] rfl) h
  · refine lv_aload_n X.1 X.2.1 dX11_makeFrame_110 rfl (lv_at hl 1 rfl) ?_
    refine x_getR X hW fd_Cell_ccm (fun w h => List.mem_cons_of_mem _ (gin_X11 w h)) (List.mem_cons_of_mem _ gw37) z_1 dX11_makeFrame_111 ?_
    refine lv_aload X.1 X.2.1 dX11_makeFrame_114 (lv_at hl 5 rfl) ?_
    refine lv_iload X.1 X.2.1 dX11_makeFrame_116 (lv_at hl 7 rfl) ?_
    refine lv_aload_n X.1 X.2.1 dX11_makeFrame_118 rfl (lv_at hl 4 rfl) ?_
    refine x_getR X hW fd_Link_tk (fun w h => List.mem_cons_of_mem _ (gin_X4 w h)) (List.mem_cons_of_mem _ gw670) qv3 dX11_makeFrame_119 ?_
    obtain ⟨r22, S23, h24, h⟩ := cl_some h
    refine x_aftV X hW (x_runV (C := RX0) (a := G.2.2 0 0) (As := [.ref (G.2.2 40 v4), .int v6, .ref (G.2.2 24 v3)]) (rest := []) X hW (c_X0_seal l G X.2.2.2.2.2.2.2.2.2.1 _ S19 40 v4 v6 24 v3 _ h24) (cwV 3 X.2.2.2.2.1 (gV gw690 gw691 gw692 gw36 gw693) rfl rfl rfl ⟨rfl, hd_X0_seal⟩ ⟨Nat.le_of_ble_eq_true rfl, Nat.le_of_ble_eq_true rfl⟩) (x_recv X hW ob_Ccm z_1) rfl hl.1 rfl (Nat.le_of_ble_eq_true rfl) dX11_makeFrame_122 ⟨Nat.zero_le _, Nat.zero_le _⟩) (fun H locs hW => ?_)
    refine lv_iinc (v := (x20 + 8)) (lv' := [(7, .int (x20 + 8)), (0, .ref (G.2.2 10 0)), (1, .ref (G.2.2 6 v1)), (2, .ref (G.2.2 5 v2)), (3, .ref (G.2.2 3 v3)), (4, .ref (G.2.2 40 v4)), (5, .int v5), (6, .int v6)]) X.1 X.2.1 dX11_makeFrame_125 hl (k := 0) rfl rfl (by decide) rfl (fun ls hl => ?_)
    exact w_X11_makeFrame_128 X v1 v4 (x20 + 8) qv1  hW (lv_sub hl [2, 5, 0] rfl) h
set_option maxRecDepth 100000 in
set_option maxHeartbeats 4000000 in
theorem w_X11_makeFrame_0 {p : Program} {l : Launch} {e : Env} {s : State} {m : MethodId} {args : Array Value} {below : List Frame} {meth : Method} {c : Code} {G : xG} {sz : Nat} {o : Unit × Mm} (X : xC G false sz p s m args c cX11_makeFrame 8 wsX11_makeFrame RX11 meth none) (v1 : Nat) (v2 : Nat) (v3 : Nat) {S : Mm} {H : Heap} {locs : List Loc} {ls : Array Slot} (hW : xW G false sz s H locs S) (hl : lv_has ls 8 [(0, .ref (G.2.2 10 0)), (1, .ref (G.2.2 6 v1)), (2, .ref (G.2.2 5 v2)), (3, .ref (G.2.2 3 v3))]) (h : F_X11_makeFrame v1 v2 v3 S = some o) : wX p l e rmX11_makeFrame s m args below meth c H locs (xQv G false sz o) (XA G false sz) 0 ls [] := by
  unfold F_X11_makeFrame at h
  obtain ⟨qv1, h⟩ := if_some h
  obtain ⟨qv2, h⟩ := if_some h
  obtain ⟨qv3, h⟩ := if_some h
  refine lv_aload_n X.1 X.2.1 dX11_makeFrame_0 rfl (lv_at hl 1 rfl) ?_
  refine x_getR X hW fd_Node_frame (fun w h => List.mem_cons_of_mem _ (gin_X7 w h)) (List.mem_cons_of_mem _ gw649) qv1 dX11_makeFrame_1 ?_
  refine lv_astore (lv' := [(4, .ref (G.2.2 40 v1)), (0, .ref (G.2.2 10 0)), (1, .ref (G.2.2 6 v1)), (2, .ref (G.2.2 5 v2)), (3, .ref (G.2.2 3 v3))]) X.1 X.2.1 dX11_makeFrame_4 hl (by decide) rfl (fun ls hl => ?_)
  refine lv_aload_n X.1 X.2.1 dX11_makeFrame_6 rfl (lv_at hl 2 rfl) ?_
  refine x_getI X hW fd_Node_part (fun w h => List.mem_cons_of_mem _ (gin_X7 w h)) (List.mem_cons_of_mem _ gw659) qv1 dX11_makeFrame_7 h (fun x1 h => ?_)
  refine lv_aload_n X.1 X.2.1 dX11_makeFrame_10 rfl (lv_at hl 3 rfl) ?_
  refine x_getI X hW fd_Message_cut (fun w h => List.mem_cons_of_mem _ (gin_X6 w h)) (List.mem_cons_of_mem _ gw496) qv2 dX11_makeFrame_11 h (fun x2 h => ?_)
  refine lv_imul X.1 X.2.1 dX11_makeFrame_14 ?_
  refine x_top h (fun x3 h => ?_)
  refine lv_istore (lv' := [(5, .int x3), (4, .ref (G.2.2 40 v1)), (0, .ref (G.2.2 10 0)), (1, .ref (G.2.2 6 v1)), (2, .ref (G.2.2 5 v2)), (3, .ref (G.2.2 3 v3))]) X.1 X.2.1 dX11_makeFrame_15 hl (by decide) rfl (fun ls hl => ?_)
  refine lv_aload_n X.1 X.2.1 dX11_makeFrame_17 rfl (lv_at hl 4 rfl) ?_
  refine x_getI X hW fd_Message_cut (fun w h => List.mem_cons_of_mem _ (gin_X6 w h)) (List.mem_cons_of_mem _ gw496) qv2 dX11_makeFrame_18 h (fun x4 h => ?_)
  refine lv_aload_n X.1 X.2.1 dX11_makeFrame_21 rfl (lv_at hl 4 rfl) ?_
  refine x_getI X hW fd_Message_length (fun w h => List.mem_cons_of_mem _ (gin_X6 w h)) (List.mem_cons_of_mem _ gw485) qv2 dX11_makeFrame_22 h (fun x5 h => ?_)
  refine lv_iload X.1 X.2.1 dX11_makeFrame_25 (lv_at hl 0 rfl) ?_
  refine lv_isub X.1 X.2.1 dX11_makeFrame_27 ?_
  refine va_mmin X.1 X.2.1 (X.2.2.1.trans hl.1.symm) X.2.2.2.1 (X.2.2.2.2.1 _ (List.mem_cons_of_mem _ gw668)) (X.2.2.2.2.1 _ (List.mem_cons_of_mem _ gw606)) (X.2.2.2.2.1 _ (List.mem_cons_of_mem _ gw607)) (X.2.2.2.2.1 _ (List.mem_cons_of_mem _ gw608)) (Nat.le_of_ble_eq_true rfl) (Nat.le_of_ble_eq_true rfl) (Nat.zero_le _) (Nat.zero_le _) dX11_makeFrame_28 ?_
  refine x_top h (fun x6 h => ?_)
  refine lv_istore (lv' := [(6, .int x6), (5, .int x3), (4, .ref (G.2.2 40 v1)), (0, .ref (G.2.2 10 0)), (1, .ref (G.2.2 6 v1)), (2, .ref (G.2.2 5 v2)), (3, .ref (G.2.2 3 v3))]) X.1 X.2.1 dX11_makeFrame_31 hl (by decide) rfl (fun ls hl => ?_)
  refine lv_aload X.1 X.2.1 dX11_makeFrame_33 (lv_at hl 2 rfl) ?_
  refine lv_aload_n X.1 X.2.1 dX11_makeFrame_35 rfl (lv_at hl 5 rfl) ?_
  refine lv_aload_n X.1 X.2.1 dX11_makeFrame_36 rfl (lv_at hl 4 rfl) ?_
  refine x_getI X hW fd_Node_number (fun w h => List.mem_cons_of_mem _ (gin_X7 w h)) (List.mem_cons_of_mem _ gw629) qv1 dX11_makeFrame_37 h (fun x7 h => ?_)
  refine lv_aload_n X.1 X.2.1 dX11_makeFrame_40 rfl (lv_at hl 4 rfl) ?_
  refine x_getI X hW fd_Node_part (fun w h => List.mem_cons_of_mem _ (gin_X7 w h)) (List.mem_cons_of_mem _ gw659) qv1 dX11_makeFrame_41 h (fun x8 h => ?_)
  obtain ⟨r9, S10, h11, h⟩ := cl_some h
  refine x_aftV X hW (x_runS (As := [.ref (G.2.2 40 v1), .ref (G.2.2 5 v2), .int x7, .int x8]) (rest := []) X hW (c_X2_writeHeader l G X.2.2.2.2.2.2.2.2.2.1 _ S 40 v1 v2 x7 x8 _ h11) (va_cwS 4 X.2.2.2.2.1 (gS gw671 gw672 gw267 gw673) rfl rfl rfl hd_X2_writeHeader ⟨Nat.le_of_ble_eq_true rfl, Nat.le_of_ble_eq_true rfl⟩) rfl hl.1 rfl (Nat.le_of_ble_eq_true rfl) dX11_makeFrame_44 ⟨Nat.zero_le _, Nat.zero_le _⟩) (fun H locs hW => ?_)
  refine lv_bipush (v := 24) X.1 X.2.1 dX11_makeFrame_47 rfl ?_
  refine lv_istore (lv' := [(7, .int 24), (6, .int x6), (5, .int x3), (4, .ref (G.2.2 40 v1)), (0, .ref (G.2.2 10 0)), (1, .ref (G.2.2 6 v1)), (2, .ref (G.2.2 5 v2)), (3, .ref (G.2.2 3 v3))]) X.1 X.2.1 dX11_makeFrame_49 hl (by decide) rfl (fun ls hl => ?_)
  refine lv_aload_n X.1 X.2.1 dX11_makeFrame_51 rfl (lv_at hl 6 rfl) ?_
  refine x_getI X hW fd_Message_sealed (fun w h => List.mem_cons_of_mem _ (gin_X6 w h)) (List.mem_cons_of_mem _ gw495) qv2 dX11_makeFrame_52 h (fun x12 h => ?_)
  refine x_if_eq X (tgt := 81) dX11_makeFrame_55 (by decide) h (fun h => ?_) (fun h => ?_)
  · exact w_X11_makeFrame_81 X v1 v2 v3 v1 x3 x6 24 qv1 qv2 qv3  hW (lv_sub hl [4, 5, 6, 7, 3, 2, 1, 0] rfl) h
  · refine lv_aload X.1 X.2.1 dX11_makeFrame_58 (lv_at hl 3 rfl) ?_
    refine lv_aload_n X.1 X.2.1 dX11_makeFrame_60 rfl (lv_at hl 7 rfl) ?_
    refine x_getL X hW fd_Link_nextToSeal (fun w h => List.mem_cons_of_mem _ (gin_X4 w h)) (List.mem_cons_of_mem _ gw669) qv3 dX11_makeFrame_61 h (fun x13 h => ?_)
    obtain ⟨r14, S15, h16, h⟩ := cl_some h
    refine x_aftV X hW (x_runS (As := [.ref (G.2.2 40 v1), .long x13]) (rest := []) X hW (c_X2_writeSealHeader l G X.2.2.2.2.2.2.2.2.2.1 _ S10 40 v1 x13 _ h16) (va_cwS 2 X.2.2.2.2.1 (gS gw687 gw688 gw267 gw689) rfl rfl rfl hd_X2_writeSealHeader ⟨Nat.le_of_ble_eq_true rfl, Nat.le_of_ble_eq_true rfl⟩) rfl hl.1 rfl (Nat.le_of_ble_eq_true rfl) dX11_makeFrame_64 ⟨Nat.zero_le _, Nat.zero_le _⟩) (fun H locs hW => ?_)
    refine lv_aload_n X.1 X.2.1 dX11_makeFrame_67 rfl (lv_at hl 7 rfl) ?_
    refine lv_dup X.1 X.2.1 dX11_makeFrame_68 rfl ?_
    refine x_getL X hW fd_Link_nextToSeal (fun w h => List.mem_cons_of_mem _ (gin_X4 w h)) (List.mem_cons_of_mem _ gw669) qv3 dX11_makeFrame_69 h (fun x17 h => ?_)
    refine lv_lconst (v := 1) X.1 X.2.1 dX11_makeFrame_72 rfl ?_
    refine lv_ladd X.1 X.2.1 dX11_makeFrame_73 ?_
    refine x_putL X hW fd_Link_nextToSeal (fun w h => List.mem_cons_of_mem _ (gin_X4 w h)) (List.mem_cons_of_mem _ gw669) qv3 dX11_makeFrame_74 tyX4 tyX4_ok nmX4 rfl rfl rfl h (fun S18 H locs h hW => ?_)
    refine lv_bipush (v := 32) X.1 X.2.1 dX11_makeFrame_77 rfl ?_
    refine lv_istore (lv' := [(7, .int 32), (6, .int x6), (5, .int x3), (4, .ref (G.2.2 40 v1)), (0, .ref (G.2.2 10 0)), (1, .ref (G.2.2 6 v1)), (2, .ref (G.2.2 5 v2)), (3, .ref (G.2.2 3 v3))]) X.1 X.2.1 dX11_makeFrame_79 hl (by decide) rfl (fun ls hl => ?_)
    exact w_X11_makeFrame_81 X v1 v2 v3 v1 x3 x6 32 qv1 qv2 qv3  hW (lv_sub hl [4, 5, 6, 7, 3, 2, 1, 0] rfl) h
theorem c_X11_makeFrame (l : Launch) (G : xG) (hD : xD G false) (sz : Nat) (S : Mm) (v1 : Nat) (v2 : Nat) (v3 : Nat) (o : Unit × Mm) (h : F_X11_makeFrame v1 v2 v3 S = some o) : Met l yX11_makeFrame wsX11_makeFrame rmX11_makeFrame (xPre G false S sz [.ref (G.2.2 10 0), .ref (G.2.2 6 v1), .ref (G.2.2 5 v2), .ref (G.2.2 3 v3)]) (xQv G false sz o) 0 0 (XA G false sz) :=
  x_start hD (by decide) rfl (Nat.le_of_ble_eq_true rfl) (fun p e s m below meth c X hW ls hl => w_X11_makeFrame_0 X v1 v2 v3 hW hl h)

/-! WirelessCell.beginFrame(LWirelessCell$Node;)V -/
def rmX11_beginFrame : Room := { frames := 5, cells := 0, slots := 0, locals := 119 }
def L_X11_beginFrame_68  (v1 : Nat) (S : Mm) : Option (Unit × Mm) :=
  gf S 100 v1 fun x21 =>
  gf S 88 v1 fun x22 =>
  cl (F_X5_begin 40 v1 x21 x22 S) fun r23 S24 =>
  pf S24 96 v1 r23 fun S26 =>
  pf S26 97 v1 0 fun S27 =>
  some ((), S27)
def L_X11_beginFrame_61  (v1 : Nat) (v2 : Nat) (v3 : Nat) (S : Mm) : Option (Unit × Mm) :=
  cl (F_X11_makeFrame v1 v2 v3 S) fun r18 S19 =>
  L_X11_beginFrame_68  v1 S19
def F_X11_beginFrame (v1 : Nat) (S : Mm) : Option (Unit × Mm) :=
  gd (v1 < 9) (
  gf S 103 v1 fun x1 =>
  if x1 = 0 then (
  some ((), S))
  else (
  gf S 100 v1 fun x2 =>
  if x2 = 0 then (
  cl (F_X9_first v1 S) fun r3 S4 =>
  nn r3 108 fun i6 =>
  gf S4 88 v1 fun x7 =>
  gf S4 82 i6 fun x8 =>
  cl (F_X11_linkOf x7 x8 S4) fun r9 S10 =>
  nn r9 18 fun i12 =>
  gf S10 84 i6 fun x13 =>
  if x13 = 0 then (
  L_X11_beginFrame_61  v1 i6 i12 S10)
  else (
  gf S10 62 i12 fun x14 =>
  if x14 = 4 then (
  L_X11_beginFrame_61  v1 i6 i12 S10)
  else (
  cl (F_X11_finishFirst v1 5 S10) fun r15 S16 =>
  some ((), S16))))
  else (
  L_X11_beginFrame_68  v1 S)))
set_option maxRecDepth 100000 in
set_option maxHeartbeats 4000000 in
theorem w_X11_beginFrame_68 {p : Program} {l : Launch} {e : Env} {s : State} {m : MethodId} {args : Array Value} {below : List Frame} {meth : Method} {c : Code} {G : xG} {sz : Nat} {o : Unit × Mm} (X : xC G false sz p s m args c cX11_beginFrame 4 wsX11_beginFrame RX11 meth none) (v1 : Nat) (qv1 : v1 < 9)  {S : Mm} {H : Heap} {locs : List Loc} {ls : Array Slot} (hW : xW G false sz s H locs S) (hl : lv_has ls 4 [(0, .ref (G.2.2 10 0)), (1, .ref (G.2.2 6 v1))]) (h : L_X11_beginFrame_68  v1 S = some o) : wX p l e rmX11_beginFrame s m args below meth c H locs (xQv G false sz o) (XA G false sz) 68 ls [] := by
  unfold L_X11_beginFrame_68 at h
  refine lv_aload_n X.1 X.2.1 dX11_beginFrame_68 rfl (lv_at hl 1 rfl) ?_
  refine lv_aload_n X.1 X.2.1 dX11_beginFrame_69 rfl (lv_at hl 0 rfl) ?_
  refine x_getR X hW fd_Cell_medium (fun w h => List.mem_cons_of_mem _ (gin_X11 w h)) (List.mem_cons_of_mem _ gw21) z_1 dX11_beginFrame_70 ?_
  refine lv_aload_n X.1 X.2.1 dX11_beginFrame_73 rfl (lv_at hl 1 rfl) ?_
  refine x_getR X hW fd_Node_frame (fun w h => List.mem_cons_of_mem _ (gin_X7 w h)) (List.mem_cons_of_mem _ gw649) qv1 dX11_beginFrame_74 ?_
  refine lv_aload_n X.1 X.2.1 dX11_beginFrame_77 rfl (lv_at hl 1 rfl) ?_
  refine x_getI X hW fd_Node_frameLength (fun w h => List.mem_cons_of_mem _ (gin_X7 w h)) (List.mem_cons_of_mem _ gw648) qv1 dX11_beginFrame_78 h (fun x21 h => ?_)
  refine lv_aload_n X.1 X.2.1 dX11_beginFrame_81 rfl (lv_at hl 1 rfl) ?_
  refine x_getI X hW fd_Node_number (fun w h => List.mem_cons_of_mem _ (gin_X7 w h)) (List.mem_cons_of_mem _ gw629) qv1 dX11_beginFrame_82 h (fun x22 h => ?_)
  obtain ⟨r23, S24, h25, h⟩ := cl_some h
  refine x_aftI X hW (x_runV (C := RX5) (a := G.2.2 4 0) (As := [.ref (G.2.2 40 v1), .int x21, .int x22]) (rest := [.ref (G.2.2 6 v1)]) X hW (c_X5_begin l G X.2.2.2.2.2.2.2.2.2.1 _ S 40 v1 x21 x22 _ h25) (cwV 3 X.2.2.2.2.1 (gV gw633 gw634 gw635 gw20 gw636) rfl rfl rfl ⟨rfl, hd_X5_begin⟩ ⟨Nat.le_of_ble_eq_true rfl, Nat.le_of_ble_eq_true rfl⟩) (x_recv X hW ob_Medium z_1) rfl hl.1 rfl (Nat.le_of_ble_eq_true rfl) dX11_beginFrame_85 ⟨Nat.zero_le _, Nat.zero_le _⟩) (fun H locs hW => ?_)
  refine x_putI X hW fd_Node_lastSendSlot (fun w h => List.mem_cons_of_mem _ (gin_X7 w h)) (List.mem_cons_of_mem _ gw630) qv1 dX11_beginFrame_88 tyX7 tyX7_ok nmX7 rfl rfl rfl h (fun S26 H locs h hW => ?_)
  refine lv_aload_n X.1 X.2.1 dX11_beginFrame_91 rfl (lv_at hl 1 rfl) ?_
  refine lv_iconst (v := 0) X.1 X.2.1 dX11_beginFrame_92 rfl ?_
  refine x_putI X hW fd_Node_sendsAck (fun w h => List.mem_cons_of_mem _ (gin_X7 w h)) (List.mem_cons_of_mem _ gw631) qv1 dX11_beginFrame_93 tyX7 tyX7_ok nmX7 rfl rfl rfl h (fun S27 H locs h hW => ?_)
  exact x_vret X hW h dX11_beginFrame_96
set_option maxRecDepth 100000 in
set_option maxHeartbeats 4000000 in
theorem w_X11_beginFrame_61 {p : Program} {l : Launch} {e : Env} {s : State} {m : MethodId} {args : Array Value} {below : List Frame} {meth : Method} {c : Code} {G : xG} {sz : Nat} {o : Unit × Mm} (X : xC G false sz p s m args c cX11_beginFrame 4 wsX11_beginFrame RX11 meth none) (v1 : Nat) (v2 : Nat) (v3 : Nat) (qv1 : v1 < 9) (qv2 : v2 < 108) (qv3 : v3 < 18)  {S : Mm} {H : Heap} {locs : List Loc} {ls : Array Slot} (hW : xW G false sz s H locs S) (hl : lv_has ls 4 [(0, .ref (G.2.2 10 0)), (1, .ref (G.2.2 6 v1)), (2, .ref (G.2.2 5 v2)), (3, .ref (G.2.2 3 v3))]) (h : L_X11_beginFrame_61  v1 v2 v3 S = some o) : wX p l e rmX11_beginFrame s m args below meth c H locs (xQv G false sz o) (XA G false sz) 61 ls [] := by
  unfold L_X11_beginFrame_61 at h
  refine lv_aload_n X.1 X.2.1 dX11_beginFrame_61 rfl (lv_at hl 0 rfl) ?_
  refine lv_aload_n X.1 X.2.1 dX11_beginFrame_62 rfl (lv_at hl 1 rfl) ?_
  refine lv_aload_n X.1 X.2.1 dX11_beginFrame_63 rfl (lv_at hl 2 rfl) ?_
  refine lv_aload_n X.1 X.2.1 dX11_beginFrame_64 rfl (lv_at hl 3 rfl) ?_
  obtain ⟨r18, S19, h20, h⟩ := cl_some h
  refine x_aftV X hW (x_runV (C := RX11) (a := G.2.2 10 0) (As := [.ref (G.2.2 6 v1), .ref (G.2.2 5 v2), .ref (G.2.2 3 v3)]) (rest := []) X hW (c_X11_makeFrame l G X.2.2.2.2.2.2.2.2.2.1 _ S v1 v2 v3 _ h20) (cwV 3 X.2.2.2.2.1 (gV gw664 gw665 gw666 gw2 gw667) rfl rfl rfl ⟨rfl, hd_X11_makeFrame⟩ ⟨Nat.le_of_ble_eq_true rfl, Nat.le_of_ble_eq_true rfl⟩) (x_recv X hW ob_Cell z_1) rfl hl.1 rfl (Nat.le_of_ble_eq_true rfl) dX11_beginFrame_65 ⟨Nat.zero_le _, Nat.zero_le _⟩) (fun H locs hW => ?_)
  exact w_X11_beginFrame_68 X v1 qv1  hW (lv_sub hl [0, 1] rfl) h
set_option maxRecDepth 100000 in
set_option maxHeartbeats 4000000 in
theorem w_X11_beginFrame_0 {p : Program} {l : Launch} {e : Env} {s : State} {m : MethodId} {args : Array Value} {below : List Frame} {meth : Method} {c : Code} {G : xG} {sz : Nat} {o : Unit × Mm} (X : xC G false sz p s m args c cX11_beginFrame 4 wsX11_beginFrame RX11 meth none) (v1 : Nat) {S : Mm} {H : Heap} {locs : List Loc} {ls : Array Slot} (hW : xW G false sz s H locs S) (hl : lv_has ls 4 [(0, .ref (G.2.2 10 0)), (1, .ref (G.2.2 6 v1))]) (h : F_X11_beginFrame v1 S = some o) : wX p l e rmX11_beginFrame s m args below meth c H locs (xQv G false sz o) (XA G false sz) 0 ls [] := by
  unfold F_X11_beginFrame at h
  obtain ⟨qv1, h⟩ := if_some h
  refine lv_aload_n X.1 X.2.1 dX11_beginFrame_0 rfl (lv_at hl 1 rfl) ?_
  refine x_getR X hW fd_Node_queue (fun w h => List.mem_cons_of_mem _ (gin_X7 w h)) (List.mem_cons_of_mem _ gw490) qv1 dX11_beginFrame_1 ?_
  refine x_getI X hW fd_Queue_used (fun w h => List.mem_cons_of_mem _ (gin_X9 w h)) (List.mem_cons_of_mem _ gw491) qv1 dX11_beginFrame_4 h (fun x1 h => ?_)
  refine x_if_ne X (tgt := 11) dX11_beginFrame_7 (by decide) h (fun h => ?_) (fun h => ?_)
  · refine lv_aload_n X.1 X.2.1 dX11_beginFrame_11 rfl (lv_at hl 1 rfl) ?_
    refine x_getI X hW fd_Node_frameLength (fun w h => List.mem_cons_of_mem _ (gin_X7 w h)) (List.mem_cons_of_mem _ gw648) qv1 dX11_beginFrame_12 h (fun x2 h => ?_)
    refine x_if_ne X (tgt := 68) dX11_beginFrame_15 (by decide) h (fun h => ?_) (fun h => ?_)
    · exact w_X11_beginFrame_68 X v1 qv1  hW (lv_sub hl [0, 1] rfl) h
    · refine lv_aload_n X.1 X.2.1 dX11_beginFrame_18 rfl (lv_at hl 1 rfl) ?_
      refine x_getR X hW fd_Node_queue (fun w h => List.mem_cons_of_mem _ (gin_X7 w h)) (List.mem_cons_of_mem _ gw490) qv1 dX11_beginFrame_19 ?_
      obtain ⟨r3, S4, h5, h⟩ := cl_some h
      refine x_aftQ X hW (x_runV (C := RX9) (a := G.2.2 8 v1) (As := []) (rest := []) X hW (c_X9_first l G X.2.2.2.2.2.2.2.2.2.1 _ S v1 _ h5) (cwV 0 X.2.2.2.2.1 (gV gw650 gw651 gw652 gw100 gw653) rfl rfl rfl ⟨rfl, hd_X9_first⟩ ⟨Nat.le_of_ble_eq_true rfl, Nat.le_of_ble_eq_true rfl⟩) (x_recv X hW ob_Queue qv1) rfl hl.1 rfl (Nat.le_of_ble_eq_true rfl) dX11_beginFrame_22 ⟨Nat.zero_le _, Nat.zero_le _⟩) (fun H locs hW => ?_)
      refine x_nn h (fun i6 qi6 h => ?_)
      refine lv_astore_n (lv' := [(2, .ref (G.2.2 5 i6)), (0, .ref (G.2.2 10 0)), (1, .ref (G.2.2 6 v1))]) X.1 X.2.1 dX11_beginFrame_25 rfl hl (by decide) rfl (fun ls hl => ?_)
      refine lv_aload_n X.1 X.2.1 dX11_beginFrame_26 rfl (lv_at hl 1 rfl) ?_
      refine lv_aload_n X.1 X.2.1 dX11_beginFrame_27 rfl (lv_at hl 2 rfl) ?_
      refine x_getI X hW fd_Node_number (fun w h => List.mem_cons_of_mem _ (gin_X7 w h)) (List.mem_cons_of_mem _ gw629) qv1 dX11_beginFrame_28 h (fun x7 h => ?_)
      refine lv_aload_n X.1 X.2.1 dX11_beginFrame_31 rfl (lv_at hl 0 rfl) ?_
      refine x_getI X hW fd_Message_receiver (fun w h => List.mem_cons_of_mem _ (gin_X6 w h)) (List.mem_cons_of_mem _ gw493) qi6 dX11_beginFrame_32 h (fun x8 h => ?_)
      obtain ⟨r9, S10, h11, h⟩ := cl_some h
      refine x_aftQ X hW (x_runV (C := RX11) (a := G.2.2 10 0) (As := [.int x7, .int x8]) (rest := []) X hW (c_X11_linkOf l G X.2.2.2.2.2.2.2.2.2.1 _ S4 x7 x8 _ h11) (cwV 2 X.2.2.2.2.1 (gV gw572 gw573 gw574 gw2 gw575) rfl rfl rfl ⟨rfl, hd_X11_linkOf⟩ ⟨Nat.le_of_ble_eq_true rfl, Nat.le_of_ble_eq_true rfl⟩) (x_recv X hW ob_Cell z_1) rfl hl.1 rfl (Nat.le_of_ble_eq_true rfl) dX11_beginFrame_35 ⟨Nat.zero_le _, Nat.zero_le _⟩) (fun H locs hW => ?_)
      refine x_nn h (fun i12 qi12 h => ?_)
      refine lv_astore_n (lv' := [(3, .ref (G.2.2 3 i12)), (2, .ref (G.2.2 5 i6)), (0, .ref (G.2.2 10 0)), (1, .ref (G.2.2 6 v1))]) X.1 X.2.1 dX11_beginFrame_38 rfl hl (by decide) rfl (fun ls hl => ?_)
      refine lv_aload_n X.1 X.2.1 dX11_beginFrame_39 rfl (lv_at hl 1 rfl) ?_
      refine x_getI X hW fd_Message_sealed (fun w h => List.mem_cons_of_mem _ (gin_X6 w h)) (List.mem_cons_of_mem _ gw495) qi6 dX11_beginFrame_40 h (fun x13 h => ?_)
      refine x_if_eq X (tgt := 61) dX11_beginFrame_43 (by decide) h (fun h => ?_) (fun h => ?_)
      · exact w_X11_beginFrame_61 X v1 i6 i12 qv1 qi6 qi12  hW (lv_sub hl [2, 3, 1, 0] rfl) h
      · refine lv_aload_n X.1 X.2.1 dX11_beginFrame_46 rfl (lv_at hl 0 rfl) ?_
        refine x_getI X hW fd_Link_state (fun w h => List.mem_cons_of_mem _ (gin_X4 w h)) (List.mem_cons_of_mem _ gw571) qi12 dX11_beginFrame_47 h (fun x14 h => ?_)
        refine lv_iconst (v := 4) X.1 X.2.1 dX11_beginFrame_50 rfl ?_
        refine x_icmp_eq X (tgt := 61) dX11_beginFrame_51 (by decide) h (fun h => ?_) (fun h => ?_)
        · exact w_X11_beginFrame_61 X v1 i6 i12 qv1 qi6 qi12  hW (lv_sub hl [2, 3, 1, 0] rfl) h
        · refine lv_aload_n X.1 X.2.1 dX11_beginFrame_54 rfl (lv_at hl 2 rfl) ?_
          refine lv_aload_n X.1 X.2.1 dX11_beginFrame_55 rfl (lv_at hl 3 rfl) ?_
          refine lv_iconst (v := 5) X.1 X.2.1 dX11_beginFrame_56 rfl ?_
          obtain ⟨r15, S16, h17, h⟩ := cl_some h
          refine x_aftV X hW (x_runV (C := RX11) (a := G.2.2 10 0) (As := [.ref (G.2.2 6 v1), .int 5]) (rest := []) X hW (c_X11_finishFirst l G X.2.2.2.2.2.2.2.2.2.1 _ S10 v1 5 _ h17) (cwV 2 X.2.2.2.2.1 (gV gw654 gw655 gw656 gw2 gw657) rfl rfl rfl ⟨rfl, hd_X11_finishFirst⟩ ⟨Nat.le_of_ble_eq_true rfl, Nat.le_of_ble_eq_true rfl⟩) (x_recv X hW ob_Cell z_1) rfl hl.1 rfl (Nat.le_of_ble_eq_true rfl) dX11_beginFrame_57 ⟨Nat.zero_le _, Nat.zero_le _⟩) (fun H locs hW => ?_)
          exact x_vret X hW h dX11_beginFrame_60
  · exact x_vret X hW h dX11_beginFrame_10
theorem c_X11_beginFrame (l : Launch) (G : xG) (hD : xD G false) (sz : Nat) (S : Mm) (v1 : Nat) (o : Unit × Mm) (h : F_X11_beginFrame v1 S = some o) : Met l yX11_beginFrame wsX11_beginFrame rmX11_beginFrame (xPre G false S sz [.ref (G.2.2 10 0), .ref (G.2.2 6 v1)]) (xQv G false sz o) 0 0 (XA G false sz) :=
  x_start hD (by decide) rfl (Nat.le_of_ble_eq_true rfl) (fun p e s m below meth c X hW ls hl => w_X11_beginFrame_0 X v1 hW hl h)

/-! WirelessCell.beginNodes()V -/
def rmX11_beginNodes : Room := { frames := 6, cells := 0, slots := 0, locals := 142 }
def L_X11_beginNodes_95 (k10 : Int32 → Mm → Option (Unit × Mm)) (v1 : Int32) (v2 : Int32) (S : Mm) : Option (Unit × Mm) :=
  k10 (v2 + 1) S
def L_X11_beginNodes_10  (v1 : Int32) : Nat → Int32 → Mm → Option (Unit × Mm)
  | 0, _, _ => none
  | n + 1, v2, S => 
    if 9 ≤ v2 then (
    some ((), S))
    else (
    ldR S 52 0 9 1 v2 9 fun i4 =>
    gf S 94 i4 fun x5 =>
    gf S 76 0 fun x6 =>
    if x5 = x6 then (
    pf S 94 i4 (-1) fun S15 =>
    gf S15 95 i4 fun x16 =>
    if x16 = 0 then (
    cl (F_X11_beginFrame i4 S15) fun r17 S18 =>
    L_X11_beginNodes_95 (L_X11_beginNodes_10 v1 n) v1 v2 S18)
    else (
    cl (F_X11_beginAck i4 S15) fun r20 S21 =>
    L_X11_beginNodes_95 (L_X11_beginNodes_10 v1 n) v1 v2 S21))
    else (
    if v1 = 0 then (
    L_X11_beginNodes_95 (L_X11_beginNodes_10 v1 n) v1 v2 S)
    else (
    gf S 91 i4 fun x7 =>
    if x7 = 0 then (
    gf S 76 0 fun x8 =>
    cl (F_X7_contends i4 x8 S) fun r9 S10 =>
    if r9 = 0 then (
    L_X11_beginNodes_95 (L_X11_beginNodes_10 v1 n) v1 v2 S10)
    else (
    cl (F_X11_beginFrame i4 S10) fun r12 S13 =>
    L_X11_beginNodes_95 (L_X11_beginNodes_10 v1 n) v1 v2 S13))
    else (
    L_X11_beginNodes_95 (L_X11_beginNodes_10 v1 n) v1 v2 S))))
def F_X11_beginNodes  (S : Mm) : Option (Unit × Mm) :=
  cl (F_X5_isQuietSince S) fun r1 S2 =>
  L_X11_beginNodes_10  r1 fu 0 S2
set_option maxRecDepth 100000 in
set_option maxHeartbeats 4000000 in
theorem w_X11_beginNodes_95 {p : Program} {l : Launch} {e : Env} {s : State} {m : MethodId} {args : Array Value} {below : List Frame} {meth : Method} {c : Code} {G : xG} {sz : Nat} {o : Unit × Mm} (X : xC G false sz p s m args c cX11_beginNodes 4 wsX11_beginNodes RX11 meth none) (v1 : Int32) (v2 : Int32)  (k10 : Int32 → Mm → Option (Unit × Mm)) (hk10 : ∀ (v2 : Int32) (S : Mm) (H : Heap) (locs : List Loc) (ls : Array Slot), k10 v2 S = some o → xW G false sz s H locs S → lv_has ls 4 [(0, .ref (G.2.2 10 0)), (1, .int v1), (2, .int v2)] → wX p l e rmX11_beginNodes s m args below meth c H locs (xQv G false sz o) (XA G false sz) 10 ls []) {S : Mm} {H : Heap} {locs : List Loc} {ls : Array Slot} (hW : xW G false sz s H locs S) (hl : lv_has ls 4 [(0, .ref (G.2.2 10 0)), (1, .int v1), (2, .int v2)]) (h : L_X11_beginNodes_95 k10 v1 v2 S = some o) : wX p l e rmX11_beginNodes s m args below meth c H locs (xQv G false sz o) (XA G false sz) 95 ls [] := by
  unfold L_X11_beginNodes_95 at h
  refine lv_iinc (v := (v2 + 1)) (lv' := [(2, .int (v2 + 1)), (0, .ref (G.2.2 10 0)), (1, .int v1)]) X.1 X.2.1 dX11_beginNodes_95 hl (k := 2) rfl rfl (by decide) rfl (fun ls hl => ?_)
  refine lv_goto (tgt := 10) X.1 X.2.1 dX11_beginNodes_98 (by decide) ?_
  exact hk10 (v2 + 1) S _ _ _ h hW  (lv_sub hl [1, 2, 0] rfl)
set_option maxRecDepth 100000 in
set_option maxHeartbeats 4000000 in
theorem w_X11_beginNodes_10 {p : Program} {l : Launch} {e : Env} {s : State} {m : MethodId} {args : Array Value} {below : List Frame} {meth : Method} {c : Code} {G : xG} {sz : Nat} {o : Unit × Mm} (X : xC G false sz p s m args c cX11_beginNodes 4 wsX11_beginNodes RX11 meth none) (v1 : Int32)   : ∀ (n : Nat) (v2 : Int32) (S : Mm) (H : Heap) (locs : List Loc) (ls : Array Slot), L_X11_beginNodes_10 v1 n v2 S = some o → xW G false sz s H locs S → lv_has ls 4 [(0, .ref (G.2.2 10 0)), (1, .int v1), (2, .int v2)] → wX p l e rmX11_beginNodes s m args below meth c H locs (xQv G false sz o) (XA G false sz) 10 ls [] := by
  intro n
  induction n with
  | zero =>
    intro v2 S H locs ls h
    cases h
  | succ n ih =>
    intro v2 S H locs ls h hW  hl
    rw [L_X11_beginNodes_10] at h
    refine lv_iload_n X.1 X.2.1 dX11_beginNodes_10 rfl (lv_at hl 2 rfl) ?_
    refine lv_bipush (v := 9) X.1 X.2.1 dX11_beginNodes_11 rfl ?_
    refine x_icmp_ge X (tgt := 101) dX11_beginNodes_13 (by decide) h (fun h => ?_) (fun h => ?_)
    · exact x_vret X hW h dX11_beginNodes_101
    · refine lv_aload_n X.1 X.2.1 dX11_beginNodes_16 rfl (lv_at hl 0 rfl) ?_
      refine x_getR X hW fd_Cell_nodes (fun w h => List.mem_cons_of_mem _ (gin_X11 w h)) (List.mem_cons_of_mem _ gw14) z_1 dX11_beginNodes_17 ?_
      refine lv_iload_n X.1 X.2.1 dX11_beginNodes_20 rfl (lv_at hl 2 rfl) ?_
      refine x_aald X hW ar_52 (ct := 6) rfl (at_52 G) rfl dX11_beginNodes_21 h (fun i4 qi4 h => ?_)
      refine lv_astore_n (lv' := [(3, .ref (G.2.2 6 i4)), (0, .ref (G.2.2 10 0)), (1, .int v1), (2, .int v2)]) X.1 X.2.1 dX11_beginNodes_22 rfl hl (by decide) rfl (fun ls hl => ?_)
      refine lv_aload_n X.1 X.2.1 dX11_beginNodes_23 rfl (lv_at hl 0 rfl) ?_
      refine x_getI X hW fd_Node_dueSlot (fun w h => List.mem_cons_of_mem _ (gin_X7 w h)) (List.mem_cons_of_mem _ gw600) qi4 dX11_beginNodes_24 h (fun x5 h => ?_)
      refine lv_aload_n X.1 X.2.1 dX11_beginNodes_27 rfl (lv_at hl 1 rfl) ?_
      refine x_getR X hW fd_Cell_medium (fun w h => List.mem_cons_of_mem _ (gin_X11 w h)) (List.mem_cons_of_mem _ gw21) z_1 dX11_beginNodes_28 ?_
      refine x_getI X hW fd_Medium_slot (fun w h => List.mem_cons_of_mem _ (gin_X5 w h)) (List.mem_cons_of_mem _ gw439) z_1 dX11_beginNodes_31 h (fun x6 h => ?_)
      refine x_icmp_ne X (tgt := 65) dX11_beginNodes_34 (by decide) h (fun h => ?_) (fun h => ?_)
      · refine lv_iload_n X.1 X.2.1 dX11_beginNodes_65 rfl (lv_at hl 2 rfl) ?_
        refine x_if_eq X (tgt := 95) dX11_beginNodes_66 (by decide) h (fun h => ?_) (fun h => ?_)
        · exact w_X11_beginNodes_95 X v1 v2  (L_X11_beginNodes_10 v1 n) ih hW (lv_sub hl [1, 2, 3] rfl) h
        · refine lv_aload_n X.1 X.2.1 dX11_beginNodes_69 rfl (lv_at hl 0 rfl) ?_
          refine x_getI X hW fd_Node_backoff (fun w h => List.mem_cons_of_mem _ (gin_X7 w h)) (List.mem_cons_of_mem _ gw499) qi4 dX11_beginNodes_70 h (fun x7 h => ?_)
          refine x_if_ne X (tgt := 95) dX11_beginNodes_73 (by decide) h (fun h => ?_) (fun h => ?_)
          · exact w_X11_beginNodes_95 X v1 v2  (L_X11_beginNodes_10 v1 n) ih hW (lv_sub hl [1, 2, 3] rfl) h
          · refine lv_aload_n X.1 X.2.1 dX11_beginNodes_76 rfl (lv_at hl 0 rfl) ?_
            refine lv_aload_n X.1 X.2.1 dX11_beginNodes_77 rfl (lv_at hl 1 rfl) ?_
            refine x_getR X hW fd_Cell_medium (fun w h => List.mem_cons_of_mem _ (gin_X11 w h)) (List.mem_cons_of_mem _ gw21) z_1 dX11_beginNodes_78 ?_
            refine x_getI X hW fd_Medium_slot (fun w h => List.mem_cons_of_mem _ (gin_X5 w h)) (List.mem_cons_of_mem _ gw439) z_1 dX11_beginNodes_81 h (fun x8 h => ?_)
            obtain ⟨r9, S10, h11, h⟩ := cl_some h
            refine x_aftI X hW (x_runV (C := RX7) (a := G.2.2 6 i4) (As := [.int x8]) (rest := []) X hW (c_X7_contends l G X.2.2.2.2.2.2.2.2.2.1 _ S i4 x8 _ h11) (cwV 1 X.2.2.2.2.1 (gV gw718 gw719 gw720 gw46 gw721) rfl rfl rfl ⟨rfl, hd_X7_contends⟩ ⟨Nat.le_of_ble_eq_true rfl, Nat.le_of_ble_eq_true rfl⟩) (x_recv X hW ob_Node qi4) rfl hl.1 rfl (Nat.le_of_ble_eq_true rfl) dX11_beginNodes_84 ⟨Nat.zero_le _, Nat.zero_le _⟩) (fun H locs hW => ?_)
            refine x_if_eq X (tgt := 95) dX11_beginNodes_87 (by decide) h (fun h => ?_) (fun h => ?_)
            · exact w_X11_beginNodes_95 X v1 v2  (L_X11_beginNodes_10 v1 n) ih hW (lv_sub hl [1, 2, 3] rfl) h
            · refine lv_aload_n X.1 X.2.1 dX11_beginNodes_90 rfl (lv_at hl 1 rfl) ?_
              refine lv_aload_n X.1 X.2.1 dX11_beginNodes_91 rfl (lv_at hl 0 rfl) ?_
              obtain ⟨r12, S13, h14, h⟩ := cl_some h
              refine x_aftV X hW (x_runV (C := RX11) (a := G.2.2 10 0) (As := [.ref (G.2.2 6 i4)]) (rest := []) X hW (c_X11_beginFrame l G X.2.2.2.2.2.2.2.2.2.1 _ S10 i4 _ h14) (cwV 1 X.2.2.2.2.1 (gV gw644 gw645 gw646 gw2 gw647) rfl rfl rfl ⟨rfl, hd_X11_beginFrame⟩ ⟨Nat.le_of_ble_eq_true rfl, Nat.le_of_ble_eq_true rfl⟩) (x_recv X hW ob_Cell z_1) rfl hl.1 rfl (Nat.le_of_ble_eq_true rfl) dX11_beginNodes_92 ⟨Nat.zero_le _, Nat.zero_le _⟩) (fun H locs hW => ?_)
              exact w_X11_beginNodes_95 X v1 v2  (L_X11_beginNodes_10 v1 n) ih hW (lv_sub hl [1, 2, 3] rfl) h
      · refine lv_aload_n X.1 X.2.1 dX11_beginNodes_37 rfl (lv_at hl 0 rfl) ?_
        refine lv_iconst (v := (-1)) X.1 X.2.1 dX11_beginNodes_38 rfl ?_
        refine x_putI X hW fd_Node_dueSlot (fun w h => List.mem_cons_of_mem _ (gin_X7 w h)) (List.mem_cons_of_mem _ gw600) qi4 dX11_beginNodes_39 tyX7 tyX7_ok nmX7 rfl rfl rfl h (fun S15 H locs h hW => ?_)
        refine lv_aload_n X.1 X.2.1 dX11_beginNodes_42 rfl (lv_at hl 0 rfl) ?_
        refine x_getI X hW fd_Node_dueAck (fun w h => List.mem_cons_of_mem _ (gin_X7 w h)) (List.mem_cons_of_mem _ gw619) qi4 dX11_beginNodes_43 h (fun x16 h => ?_)
        refine x_if_eq X (tgt := 57) dX11_beginNodes_46 (by decide) h (fun h => ?_) (fun h => ?_)
        · refine lv_aload_n X.1 X.2.1 dX11_beginNodes_57 rfl (lv_at hl 1 rfl) ?_
          refine lv_aload_n X.1 X.2.1 dX11_beginNodes_58 rfl (lv_at hl 0 rfl) ?_
          obtain ⟨r17, S18, h19, h⟩ := cl_some h
          refine x_aftV X hW (x_runV (C := RX11) (a := G.2.2 10 0) (As := [.ref (G.2.2 6 i4)]) (rest := []) X hW (c_X11_beginFrame l G X.2.2.2.2.2.2.2.2.2.1 _ S15 i4 _ h19) (cwV 1 X.2.2.2.2.1 (gV gw644 gw645 gw646 gw2 gw647) rfl rfl rfl ⟨rfl, hd_X11_beginFrame⟩ ⟨Nat.le_of_ble_eq_true rfl, Nat.le_of_ble_eq_true rfl⟩) (x_recv X hW ob_Cell z_1) rfl hl.1 rfl (Nat.le_of_ble_eq_true rfl) dX11_beginNodes_59 ⟨Nat.zero_le _, Nat.zero_le _⟩) (fun H locs hW => ?_)
          refine lv_goto (tgt := 95) X.1 X.2.1 dX11_beginNodes_62 (by decide) ?_
          exact w_X11_beginNodes_95 X v1 v2  (L_X11_beginNodes_10 v1 n) ih hW (lv_sub hl [1, 2, 3] rfl) h
        · refine lv_aload_n X.1 X.2.1 dX11_beginNodes_49 rfl (lv_at hl 1 rfl) ?_
          refine lv_aload_n X.1 X.2.1 dX11_beginNodes_50 rfl (lv_at hl 0 rfl) ?_
          obtain ⟨r20, S21, h22, h⟩ := cl_some h
          refine x_aftV X hW (x_runV (C := RX11) (a := G.2.2 10 0) (As := [.ref (G.2.2 6 i4)]) (rest := []) X hW (c_X11_beginAck l G X.2.2.2.2.2.2.2.2.2.1 _ S15 i4 _ h22) (cwV 1 X.2.2.2.2.1 (gV gw624 gw625 gw626 gw2 gw627) rfl rfl rfl ⟨rfl, hd_X11_beginAck⟩ ⟨Nat.le_of_ble_eq_true rfl, Nat.le_of_ble_eq_true rfl⟩) (x_recv X hW ob_Cell z_1) rfl hl.1 rfl (Nat.le_of_ble_eq_true rfl) dX11_beginNodes_51 ⟨Nat.zero_le _, Nat.zero_le _⟩) (fun H locs hW => ?_)
          refine lv_goto (tgt := 95) X.1 X.2.1 dX11_beginNodes_54 (by decide) ?_
          exact w_X11_beginNodes_95 X v1 v2  (L_X11_beginNodes_10 v1 n) ih hW (lv_sub hl [1, 2, 3] rfl) h
set_option maxRecDepth 100000 in
set_option maxHeartbeats 4000000 in
theorem w_X11_beginNodes_0 {p : Program} {l : Launch} {e : Env} {s : State} {m : MethodId} {args : Array Value} {below : List Frame} {meth : Method} {c : Code} {G : xG} {sz : Nat} {o : Unit × Mm} (X : xC G false sz p s m args c cX11_beginNodes 4 wsX11_beginNodes RX11 meth none)  {S : Mm} {H : Heap} {locs : List Loc} {ls : Array Slot} (hW : xW G false sz s H locs S) (hl : lv_has ls 4 [(0, .ref (G.2.2 10 0))]) (h : F_X11_beginNodes  S = some o) : wX p l e rmX11_beginNodes s m args below meth c H locs (xQv G false sz o) (XA G false sz) 0 ls [] := by
  unfold F_X11_beginNodes at h
  refine lv_aload_n X.1 X.2.1 dX11_beginNodes_0 rfl (lv_at hl 0 rfl) ?_
  refine x_getR X hW fd_Cell_medium (fun w h => List.mem_cons_of_mem _ (gin_X11 w h)) (List.mem_cons_of_mem _ gw21) z_1 dX11_beginNodes_1 ?_
  obtain ⟨r1, S2, h3, h⟩ := cl_some h
  refine x_aftI X hW (x_runV (C := RX5) (a := G.2.2 4 0) (As := []) (rest := []) X hW (c_X5_isQuietSince l G X.2.2.2.2.2.2.2.2.2.1 _ S _ h3) (cwV 0 X.2.2.2.2.1 (gV gw620 gw621 gw622 gw20 gw623) rfl rfl rfl ⟨rfl, hd_X5_isQuietSince⟩ ⟨Nat.le_of_ble_eq_true rfl, Nat.le_of_ble_eq_true rfl⟩) (x_recv X hW ob_Medium z_1) rfl hl.1 rfl (Nat.le_of_ble_eq_true rfl) dX11_beginNodes_4 ⟨Nat.zero_le _, Nat.zero_le _⟩) (fun H locs hW => ?_)
  refine lv_istore_n (lv' := [(1, .int r1), (0, .ref (G.2.2 10 0))]) X.1 X.2.1 dX11_beginNodes_7 rfl hl (by decide) rfl (fun ls hl => ?_)
  refine lv_iconst (v := 0) X.1 X.2.1 dX11_beginNodes_8 rfl ?_
  refine lv_istore_n (lv' := [(2, .int 0), (1, .int r1), (0, .ref (G.2.2 10 0))]) X.1 X.2.1 dX11_beginNodes_9 rfl hl (by decide) rfl (fun ls hl => ?_)
  exact w_X11_beginNodes_10 X r1   fu 0 S2 _ _ _ h hW  (lv_sub hl [2, 1, 0] rfl)
theorem c_X11_beginNodes (l : Launch) (G : xG) (hD : xD G false) (sz : Nat) (S : Mm)  (o : Unit × Mm) (h : F_X11_beginNodes  S = some o) : Met l yX11_beginNodes wsX11_beginNodes rmX11_beginNodes (xPre G false S sz [.ref (G.2.2 10 0)]) (xQv G false sz o) 0 0 (XA G false sz) :=
  x_start hD (by decide) rfl (Nat.le_of_ble_eq_true rfl) (fun p e s m below meth c X hW ls hl => w_X11_beginNodes_0 X  hW hl h)

/-! WirelessCell.takeAck(LWirelessCell$Node;)V -/
def rmX11_takeAck : Room := { frames := 2, cells := 0, slots := 0, locals := 44 }
def F_X11_takeAck (v1 : Nat) (S : Mm) : Option (Unit × Mm) :=
  gd (v1 < 9) (
  gf S 98 v1 fun x1 =>
  if x1 = (-1) then (
  some ((), S))
  else (
  gf S 103 v1 fun x2 =>
  if x2 = 0 then (
  some ((), S))
  else (
  cl (F_X9_first v1 S) fun r3 S4 =>
  nn r3 108 fun i6 =>
  pf S4 98 v1 (-1) fun S7 =>
  pf S7 93 v1 0 fun S8 =>
  gf S8 99 v1 fun x9 =>
  pf S8 99 v1 (x9 + 1) fun S10 =>
  pf S10 100 v1 0 fun S11 =>
  gf S11 99 v1 fun x12 =>
  gf S11 85 i6 fun x13 =>
  gf S11 80 i6 fun x14 =>
  if x14 ≤ (x12 * x13) then (
  cl (F_X11_finishFirst v1 1 S11) fun r15 S16 =>
  some ((), S16))
  else (
  gf S11 76 0 fun x18 =>
  pf S11 94 v1 (x18 + 2) fun S19 =>
  pf S19 95 v1 0 fun S20 =>
  some ((), S20)))))
set_option maxRecDepth 100000 in
set_option maxHeartbeats 4000000 in
theorem w_X11_takeAck_0 {p : Program} {l : Launch} {e : Env} {s : State} {m : MethodId} {args : Array Value} {below : List Frame} {meth : Method} {c : Code} {G : xG} {sz : Nat} {o : Unit × Mm} (X : xC G false sz p s m args c cX11_takeAck 3 wsX11_takeAck RX11 meth none) (v1 : Nat) {S : Mm} {H : Heap} {locs : List Loc} {ls : Array Slot} (hW : xW G false sz s H locs S) (hl : lv_has ls 3 [(0, .ref (G.2.2 10 0)), (1, .ref (G.2.2 6 v1))]) (h : F_X11_takeAck v1 S = some o) : wX p l e rmX11_takeAck s m args below meth c H locs (xQv G false sz o) (XA G false sz) 0 ls [] := by
  unfold F_X11_takeAck at h
  obtain ⟨qv1, h⟩ := if_some h
  refine lv_aload_n X.1 X.2.1 dX11_takeAck_0 rfl (lv_at hl 1 rfl) ?_
  refine x_getI X hW fd_Node_waitsFrom (fun w h => List.mem_cons_of_mem _ (gin_X7 w h)) (List.mem_cons_of_mem _ gw749) qv1 dX11_takeAck_1 h (fun x1 h => ?_)
  refine lv_iconst (v := (-1)) X.1 X.2.1 dX11_takeAck_4 rfl ?_
  refine x_icmp_eq X (tgt := 18) dX11_takeAck_5 (by decide) h (fun h => ?_) (fun h => ?_)
  · exact x_vret X hW h dX11_takeAck_18
  · refine lv_aload_n X.1 X.2.1 dX11_takeAck_8 rfl (lv_at hl 1 rfl) ?_
    refine x_getR X hW fd_Node_queue (fun w h => List.mem_cons_of_mem _ (gin_X7 w h)) (List.mem_cons_of_mem _ gw490) qv1 dX11_takeAck_9 ?_
    refine x_getI X hW fd_Queue_used (fun w h => List.mem_cons_of_mem _ (gin_X9 w h)) (List.mem_cons_of_mem _ gw491) qv1 dX11_takeAck_12 h (fun x2 h => ?_)
    refine x_if_ne X (tgt := 19) dX11_takeAck_15 (by decide) h (fun h => ?_) (fun h => ?_)
    · refine lv_aload_n X.1 X.2.1 dX11_takeAck_19 rfl (lv_at hl 1 rfl) ?_
      refine x_getR X hW fd_Node_queue (fun w h => List.mem_cons_of_mem _ (gin_X7 w h)) (List.mem_cons_of_mem _ gw490) qv1 dX11_takeAck_20 ?_
      obtain ⟨r3, S4, h5, h⟩ := cl_some h
      refine x_aftQ X hW (x_runV (C := RX9) (a := G.2.2 8 v1) (As := []) (rest := []) X hW (c_X9_first l G X.2.2.2.2.2.2.2.2.2.1 _ S v1 _ h5) (cwV 0 X.2.2.2.2.1 (gV gw650 gw651 gw652 gw100 gw653) rfl rfl rfl ⟨rfl, hd_X9_first⟩ ⟨Nat.le_of_ble_eq_true rfl, Nat.le_of_ble_eq_true rfl⟩) (x_recv X hW ob_Queue qv1) rfl hl.1 rfl (Nat.le_of_ble_eq_true rfl) dX11_takeAck_23 ⟨Nat.zero_le _, Nat.zero_le _⟩) (fun H locs hW => ?_)
      refine x_nn h (fun i6 qi6 h => ?_)
      refine lv_astore_n (lv' := [(2, .ref (G.2.2 5 i6)), (0, .ref (G.2.2 10 0)), (1, .ref (G.2.2 6 v1))]) X.1 X.2.1 dX11_takeAck_26 rfl hl (by decide) rfl (fun ls hl => ?_)
      refine lv_aload_n X.1 X.2.1 dX11_takeAck_27 rfl (lv_at hl 2 rfl) ?_
      refine lv_iconst (v := (-1)) X.1 X.2.1 dX11_takeAck_28 rfl ?_
      refine x_putI X hW fd_Node_waitsFrom (fun w h => List.mem_cons_of_mem _ (gin_X7 w h)) (List.mem_cons_of_mem _ gw749) qv1 dX11_takeAck_29 tyX7 tyX7_ok nmX7 rfl rfl rfl h (fun S7 H locs h hW => ?_)
      refine lv_aload_n X.1 X.2.1 dX11_takeAck_32 rfl (lv_at hl 2 rfl) ?_
      refine lv_iconst (v := 0) X.1 X.2.1 dX11_takeAck_33 rfl ?_
      refine x_putI X hW fd_Node_tries (fun w h => List.mem_cons_of_mem _ (gin_X7 w h)) (List.mem_cons_of_mem _ gw658) qv1 dX11_takeAck_34 tyX7 tyX7_ok nmX7 rfl rfl rfl h (fun S8 H locs h hW => ?_)
      refine lv_aload_n X.1 X.2.1 dX11_takeAck_37 rfl (lv_at hl 2 rfl) ?_
      refine lv_dup X.1 X.2.1 dX11_takeAck_38 rfl ?_
      refine x_getI X hW fd_Node_part (fun w h => List.mem_cons_of_mem _ (gin_X7 w h)) (List.mem_cons_of_mem _ gw659) qv1 dX11_takeAck_39 h (fun x9 h => ?_)
      refine lv_iconst (v := 1) X.1 X.2.1 dX11_takeAck_42 rfl ?_
      refine lv_iadd X.1 X.2.1 dX11_takeAck_43 ?_
      refine x_putI X hW fd_Node_part (fun w h => List.mem_cons_of_mem _ (gin_X7 w h)) (List.mem_cons_of_mem _ gw659) qv1 dX11_takeAck_44 tyX7 tyX7_ok nmX7 rfl rfl rfl h (fun S10 H locs h hW => ?_)
      refine lv_aload_n X.1 X.2.1 dX11_takeAck_47 rfl (lv_at hl 2 rfl) ?_
      refine lv_iconst (v := 0) X.1 X.2.1 dX11_takeAck_48 rfl ?_
      refine x_putI X hW fd_Node_frameLength (fun w h => List.mem_cons_of_mem _ (gin_X7 w h)) (List.mem_cons_of_mem _ gw648) qv1 dX11_takeAck_49 tyX7 tyX7_ok nmX7 rfl rfl rfl h (fun S11 H locs h hW => ?_)
      refine lv_aload_n X.1 X.2.1 dX11_takeAck_52 rfl (lv_at hl 2 rfl) ?_
      refine x_getI X hW fd_Node_part (fun w h => List.mem_cons_of_mem _ (gin_X7 w h)) (List.mem_cons_of_mem _ gw659) qv1 dX11_takeAck_53 h (fun x12 h => ?_)
      refine lv_aload_n X.1 X.2.1 dX11_takeAck_56 rfl (lv_at hl 0 rfl) ?_
      refine x_getI X hW fd_Message_cut (fun w h => List.mem_cons_of_mem _ (gin_X6 w h)) (List.mem_cons_of_mem _ gw496) qi6 dX11_takeAck_57 h (fun x13 h => ?_)
      refine lv_imul X.1 X.2.1 dX11_takeAck_60 ?_
      refine lv_aload_n X.1 X.2.1 dX11_takeAck_61 rfl (lv_at hl 0 rfl) ?_
      refine x_getI X hW fd_Message_length (fun w h => List.mem_cons_of_mem _ (gin_X6 w h)) (List.mem_cons_of_mem _ gw485) qi6 dX11_takeAck_62 h (fun x14 h => ?_)
      refine x_icmp_ge X (tgt := 89) dX11_takeAck_65 (by decide) h (fun h => ?_) (fun h => ?_)
      · refine lv_aload_n X.1 X.2.1 dX11_takeAck_89 rfl (lv_at hl 1 rfl) ?_
        refine lv_aload_n X.1 X.2.1 dX11_takeAck_90 rfl (lv_at hl 2 rfl) ?_
        refine lv_iconst (v := 1) X.1 X.2.1 dX11_takeAck_91 rfl ?_
        obtain ⟨r15, S16, h17, h⟩ := cl_some h
        refine x_aftV X hW (x_runV (C := RX11) (a := G.2.2 10 0) (As := [.ref (G.2.2 6 v1), .int 1]) (rest := []) X hW (c_X11_finishFirst l G X.2.2.2.2.2.2.2.2.2.1 _ S11 v1 1 _ h17) (cwV 2 X.2.2.2.2.1 (gV gw654 gw655 gw656 gw2 gw657) rfl rfl rfl ⟨rfl, hd_X11_finishFirst⟩ ⟨Nat.le_of_ble_eq_true rfl, Nat.le_of_ble_eq_true rfl⟩) (x_recv X hW ob_Cell z_1) rfl hl.1 rfl (Nat.le_of_ble_eq_true rfl) dX11_takeAck_92 ⟨Nat.zero_le _, Nat.zero_le _⟩) (fun H locs hW => ?_)
        exact x_vret X hW h dX11_takeAck_95
      · refine lv_aload_n X.1 X.2.1 dX11_takeAck_68 rfl (lv_at hl 2 rfl) ?_
        refine lv_aload_n X.1 X.2.1 dX11_takeAck_69 rfl (lv_at hl 1 rfl) ?_
        refine x_getR X hW fd_Cell_medium (fun w h => List.mem_cons_of_mem _ (gin_X11 w h)) (List.mem_cons_of_mem _ gw21) z_1 dX11_takeAck_70 ?_
        refine x_getI X hW fd_Medium_slot (fun w h => List.mem_cons_of_mem _ (gin_X5 w h)) (List.mem_cons_of_mem _ gw439) z_1 dX11_takeAck_73 h (fun x18 h => ?_)
        refine lv_iconst (v := 2) X.1 X.2.1 dX11_takeAck_76 rfl ?_
        refine lv_iadd X.1 X.2.1 dX11_takeAck_77 ?_
        refine x_putI X hW fd_Node_dueSlot (fun w h => List.mem_cons_of_mem _ (gin_X7 w h)) (List.mem_cons_of_mem _ gw600) qv1 dX11_takeAck_78 tyX7 tyX7_ok nmX7 rfl rfl rfl h (fun S19 H locs h hW => ?_)
        refine lv_aload_n X.1 X.2.1 dX11_takeAck_81 rfl (lv_at hl 2 rfl) ?_
        refine lv_iconst (v := 0) X.1 X.2.1 dX11_takeAck_82 rfl ?_
        refine x_putI X hW fd_Node_dueAck (fun w h => List.mem_cons_of_mem _ (gin_X7 w h)) (List.mem_cons_of_mem _ gw619) qv1 dX11_takeAck_83 tyX7 tyX7_ok nmX7 rfl rfl rfl h (fun S20 H locs h hW => ?_)
        refine lv_goto (tgt := 95) X.1 X.2.1 dX11_takeAck_86 (by decide) ?_
        exact x_vret X hW h dX11_takeAck_95
    · exact x_vret X hW h dX11_takeAck_18
theorem c_X11_takeAck (l : Launch) (G : xG) (hD : xD G false) (sz : Nat) (S : Mm) (v1 : Nat) (o : Unit × Mm) (h : F_X11_takeAck v1 S = some o) : Met l yX11_takeAck wsX11_takeAck rmX11_takeAck (xPre G false S sz [.ref (G.2.2 10 0), .ref (G.2.2 6 v1)]) (xQv G false sz o) 0 0 (XA G false sz) :=
  x_start hD (by decide) rfl (Nat.le_of_ble_eq_true rfl) (fun p e s m below meth c X hW ls hl => w_X11_takeAck_0 X v1 hW hl h)

/-! WirelessCell.takeFrame()I -/
def rmX11_takeFrame : Room := { frames := 3, cells := 0, slots := 0, locals := 68 }
def L_X11_takeFrame_46   (S : Mm) : Option (Int32 × Mm) :=
  some ((-1), S)
def L_X11_takeFrame_129   (S : Mm) : Option (Int32 × Mm) :=
  some ((-1), S)
def L_X11_takeFrame_150  (v2 : Int32) (s0 : Int32) (s1 : Int32) (S : Mm) : Option (Int32 × Mm) :=
  if s0 = s1 then (
  some ((-1), S))
  else (
  some (v2, S))
def L_X11_takeFrame_140  (v2 : Int32) (v4 : Int32) (s0 : Int32) (S : Mm) : Option (Int32 × Mm) :=
  if v4 = 0 then (
  L_X11_takeFrame_150  v2 s0 1 S)
  else (
  L_X11_takeFrame_150  v2 s0 0 S)
def F_X11_takeFrame  (S : Mm) : Option (Int32 × Mm) :=
  cl (F_X5_newestBytes S) fun r1 S2 =>
  nn r1 40 fun i4 =>
  cl (F_X5_newestLength S2) fun r5 S6 =>
  cl (F_X2_isTakeable 27 i4 r5 S6) fun r8 S9 =>
  if r8 = 0 then (
  some ((-1), S9))
  else (
  cl (F_X2_nodeAt 27 i4 4 S9) fun r11 S12 =>
  if r11 = (-1) then (
  L_X11_takeFrame_46  S12)
  else (
  cl (F_X5_newestSender S12) fun r14 S15 =>
  if r11 = r14 then (
  L_X11_takeFrame_46  S15)
  else (
  ldR S15 52 0 9 1 r11 9 fun i17 =>
  ldA S15 27 i4 300 40 0 fun x18 =>
  if x18 = 212 then (
  cl (F_X11_takeAck i17 S15) fun r30 S31 =>
  some ((-1), S31))
  else (
  gf S15 76 0 fun x19 =>
  pf S15 94 i17 (x19 + 2) fun S20 =>
  pf S20 95 i17 1 fun S21 =>
  lnP false 39 i17 fun x22 =>
  cpP false S21 27 i4 10 39 i17 0 x22 fun S23 =>
  cl (F_X2_nodeAt 27 i4 10 S23) fun r24 S25 =>
  if r24 = (-1) then (
  L_X11_takeFrame_129  S25)
  else (
  cl (F_X7_dropsAgain i17 27 i4 r24 S25) fun r27 S28 =>
  if r27 = 0 then (
  if r11 = 0 then (
  L_X11_takeFrame_140  r11 r24 1 S28)
  else (
  L_X11_takeFrame_140  r11 r24 0 S28))
  else (
  L_X11_takeFrame_129  S28))))))
set_option maxRecDepth 100000 in
set_option maxHeartbeats 4000000 in
theorem w_X11_takeFrame_46 {p : Program} {l : Launch} {e : Env} {s : State} {m : MethodId} {args : Array Value} {below : List Frame} {meth : Method} {c : Code} {G : xG} {sz : Nat} {o : Int32 × Mm} (X : xC G false sz p s m args c cX11_takeFrame 5 wsX11_takeFrame RX11 meth (some .int))    {S : Mm} {H : Heap} {locs : List Loc} {ls : Array Slot} (hW : xW G false sz s H locs S) (hl : lv_has ls 5 []) (h : L_X11_takeFrame_46   S = some o) : wX p l e rmX11_takeFrame s m args below meth c H locs (xQi G false sz o) (XA G false sz) 46 ls [] := by
  unfold L_X11_takeFrame_46 at h
  refine lv_iconst (v := (-1)) X.1 X.2.1 dX11_takeFrame_46 rfl ?_
  exact x_iret X hW h dX11_takeFrame_47
set_option maxRecDepth 100000 in
set_option maxHeartbeats 4000000 in
theorem w_X11_takeFrame_129 {p : Program} {l : Launch} {e : Env} {s : State} {m : MethodId} {args : Array Value} {below : List Frame} {meth : Method} {c : Code} {G : xG} {sz : Nat} {o : Int32 × Mm} (X : xC G false sz p s m args c cX11_takeFrame 5 wsX11_takeFrame RX11 meth (some .int))    {S : Mm} {H : Heap} {locs : List Loc} {ls : Array Slot} (hW : xW G false sz s H locs S) (hl : lv_has ls 5 []) (h : L_X11_takeFrame_129   S = some o) : wX p l e rmX11_takeFrame s m args below meth c H locs (xQi G false sz o) (XA G false sz) 129 ls [] := by
  unfold L_X11_takeFrame_129 at h
  refine lv_iconst (v := (-1)) X.1 X.2.1 dX11_takeFrame_129 rfl ?_
  exact x_iret X hW h dX11_takeFrame_130
set_option maxRecDepth 100000 in
set_option maxHeartbeats 4000000 in
theorem w_X11_takeFrame_150 {p : Program} {l : Launch} {e : Env} {s : State} {m : MethodId} {args : Array Value} {below : List Frame} {meth : Method} {c : Code} {G : xG} {sz : Nat} {o : Int32 × Mm} (X : xC G false sz p s m args c cX11_takeFrame 5 wsX11_takeFrame RX11 meth (some .int)) (v2 : Int32) (s0 : Int32) (s1 : Int32)   {S : Mm} {H : Heap} {locs : List Loc} {ls : Array Slot} (hW : xW G false sz s H locs S) (hl : lv_has ls 5 [(2, .int v2)]) (h : L_X11_takeFrame_150  v2 s0 s1 S = some o) : wX p l e rmX11_takeFrame s m args below meth c H locs (xQi G false sz o) (XA G false sz) 150 ls [.int s1, .int s0] := by
  unfold L_X11_takeFrame_150 at h
  refine x_icmp_ne X (tgt := 157) dX11_takeFrame_150 (by decide) h (fun h => ?_) (fun h => ?_)
  · refine lv_iload_n X.1 X.2.1 dX11_takeFrame_157 rfl (lv_at hl 0 rfl) ?_
    exact x_iret X hW h dX11_takeFrame_158
  · refine lv_iconst (v := (-1)) X.1 X.2.1 dX11_takeFrame_153 rfl ?_
    refine lv_goto (tgt := 158) X.1 X.2.1 dX11_takeFrame_154 (by decide) ?_
    exact x_iret X hW h dX11_takeFrame_158
set_option maxRecDepth 100000 in
set_option maxHeartbeats 4000000 in
theorem w_X11_takeFrame_140 {p : Program} {l : Launch} {e : Env} {s : State} {m : MethodId} {args : Array Value} {below : List Frame} {meth : Method} {c : Code} {G : xG} {sz : Nat} {o : Int32 × Mm} (X : xC G false sz p s m args c cX11_takeFrame 5 wsX11_takeFrame RX11 meth (some .int)) (v2 : Int32) (v4 : Int32) (s0 : Int32)   {S : Mm} {H : Heap} {locs : List Loc} {ls : Array Slot} (hW : xW G false sz s H locs S) (hl : lv_has ls 5 [(2, .int v2), (4, .int v4)]) (h : L_X11_takeFrame_140  v2 v4 s0 S = some o) : wX p l e rmX11_takeFrame s m args below meth c H locs (xQi G false sz o) (XA G false sz) 140 ls [.int s0] := by
  unfold L_X11_takeFrame_140 at h
  refine lv_iload X.1 X.2.1 dX11_takeFrame_140 (lv_at hl 1 rfl) ?_
  refine x_if_ne X (tgt := 149) dX11_takeFrame_142 (by decide) h (fun h => ?_) (fun h => ?_)
  · refine lv_iconst (v := 0) X.1 X.2.1 dX11_takeFrame_149 rfl ?_
    exact w_X11_takeFrame_150 X v2 s0 0   hW (lv_sub hl [0] rfl) h
  · refine lv_iconst (v := 1) X.1 X.2.1 dX11_takeFrame_145 rfl ?_
    refine lv_goto (tgt := 150) X.1 X.2.1 dX11_takeFrame_146 (by decide) ?_
    exact w_X11_takeFrame_150 X v2 s0 1   hW (lv_sub hl [0] rfl) h
set_option maxRecDepth 100000 in
set_option maxHeartbeats 4000000 in
theorem w_X11_takeFrame_0 {p : Program} {l : Launch} {e : Env} {s : State} {m : MethodId} {args : Array Value} {below : List Frame} {meth : Method} {c : Code} {G : xG} {sz : Nat} {o : Int32 × Mm} (X : xC G false sz p s m args c cX11_takeFrame 5 wsX11_takeFrame RX11 meth (some .int))  {S : Mm} {H : Heap} {locs : List Loc} {ls : Array Slot} (hW : xW G false sz s H locs S) (hl : lv_has ls 5 [(0, .ref (G.2.2 10 0))]) (h : F_X11_takeFrame  S = some o) : wX p l e rmX11_takeFrame s m args below meth c H locs (xQi G false sz o) (XA G false sz) 0 ls [] := by
  unfold F_X11_takeFrame at h
  refine lv_aload_n X.1 X.2.1 dX11_takeFrame_0 rfl (lv_at hl 0 rfl) ?_
  refine x_getR X hW fd_Cell_medium (fun w h => List.mem_cons_of_mem _ (gin_X11 w h)) (List.mem_cons_of_mem _ gw21) z_1 dX11_takeFrame_1 ?_
  obtain ⟨r1, S2, h3, h⟩ := cl_some h
  refine x_aftQ X hW (x_runV (C := RX5) (a := G.2.2 4 0) (As := []) (rest := []) X hW (c_X5_newestBytes l G X.2.2.2.2.2.2.2.2.2.1 _ S _ h3) (cwV 0 X.2.2.2.2.1 (gV gw759 gw760 gw761 gw20 gw762) rfl rfl rfl ⟨rfl, hd_X5_newestBytes⟩ ⟨Nat.le_of_ble_eq_true rfl, Nat.le_of_ble_eq_true rfl⟩) (x_recv X hW ob_Medium z_1) rfl hl.1 rfl (Nat.le_of_ble_eq_true rfl) dX11_takeFrame_4 ⟨Nat.zero_le _, Nat.zero_le _⟩) (fun H locs hW => ?_)
  refine x_nn h (fun i4 qi4 h => ?_)
  refine lv_astore_n (lv' := [(1, .ref (G.2.2 27 i4)), (0, .ref (G.2.2 10 0))]) X.1 X.2.1 dX11_takeFrame_7 rfl hl (by decide) rfl (fun ls hl => ?_)
  refine lv_aload_n X.1 X.2.1 dX11_takeFrame_8 rfl (lv_at hl 0 rfl) ?_
  refine lv_aload_n X.1 X.2.1 dX11_takeFrame_9 rfl (lv_at hl 1 rfl) ?_
  refine x_getR X hW fd_Cell_medium (fun w h => List.mem_cons_of_mem _ (gin_X11 w h)) (List.mem_cons_of_mem _ gw21) z_1 dX11_takeFrame_10 ?_
  obtain ⟨r5, S6, h7, h⟩ := cl_some h
  refine x_aftI X hW (x_runV (C := RX5) (a := G.2.2 4 0) (As := []) (rest := [.ref (G.2.2 27 i4)]) X hW (c_X5_newestLength l G X.2.2.2.2.2.2.2.2.2.1 _ S2 _ h7) (cwV 0 X.2.2.2.2.1 (gV gw763 gw764 gw765 gw20 gw766) rfl rfl rfl ⟨rfl, hd_X5_newestLength⟩ ⟨Nat.le_of_ble_eq_true rfl, Nat.le_of_ble_eq_true rfl⟩) (x_recv X hW ob_Medium z_1) rfl hl.1 rfl (Nat.le_of_ble_eq_true rfl) dX11_takeFrame_13 ⟨Nat.zero_le _, Nat.zero_le _⟩) (fun H locs hW => ?_)
  obtain ⟨r8, S9, h10, h⟩ := cl_some h
  refine x_aftI X hW (x_runS (As := [.ref (G.2.2 27 i4), .int r5]) (rest := []) X hW (c_X2_isTakeable l G X.2.2.2.2.2.2.2.2.2.1 _ S6 27 i4 r5 _ h10) (va_cwS 2 X.2.2.2.2.1 (gS gw767 gw768 gw267 gw769) rfl rfl rfl hd_X2_isTakeable ⟨Nat.le_of_ble_eq_true rfl, Nat.le_of_ble_eq_true rfl⟩) rfl hl.1 rfl (Nat.le_of_ble_eq_true rfl) dX11_takeFrame_16 ⟨Nat.zero_le _, Nat.zero_le _⟩) (fun H locs hW => ?_)
  refine x_if_ne X (tgt := 24) dX11_takeFrame_19 (by decide) h (fun h => ?_) (fun h => ?_)
  · refine lv_aload_n X.1 X.2.1 dX11_takeFrame_24 rfl (lv_at hl 0 rfl) ?_
    refine lv_iconst (v := 4) X.1 X.2.1 dX11_takeFrame_25 rfl ?_
    obtain ⟨r11, S12, h13, h⟩ := cl_some h
    refine x_aftI X hW (x_runS (As := [.ref (G.2.2 27 i4), .int 4]) (rest := []) X hW (c_X2_nodeAt l G X.2.2.2.2.2.2.2.2.2.1 _ S9 27 i4 4 _ h13) (va_cwS 2 X.2.2.2.2.1 (gS gw776 gw777 gw267 gw778) rfl rfl rfl hd_X2_nodeAt ⟨Nat.le_of_ble_eq_true rfl, Nat.le_of_ble_eq_true rfl⟩) rfl hl.1 rfl (Nat.le_of_ble_eq_true rfl) dX11_takeFrame_26 ⟨Nat.zero_le _, Nat.zero_le _⟩) (fun H locs hW => ?_)
    refine lv_istore_n (lv' := [(2, .int r11), (1, .ref (G.2.2 27 i4)), (0, .ref (G.2.2 10 0))]) X.1 X.2.1 dX11_takeFrame_29 rfl hl (by decide) rfl (fun ls hl => ?_)
    refine lv_iload_n X.1 X.2.1 dX11_takeFrame_30 rfl (lv_at hl 0 rfl) ?_
    refine lv_iconst (v := (-1)) X.1 X.2.1 dX11_takeFrame_31 rfl ?_
    refine x_icmp_eq X (tgt := 46) dX11_takeFrame_32 (by decide) h (fun h => ?_) (fun h => ?_)
    · exact w_X11_takeFrame_46 X    hW (lv_sub hl [] rfl) h
    · refine lv_iload_n X.1 X.2.1 dX11_takeFrame_35 rfl (lv_at hl 0 rfl) ?_
      refine lv_aload_n X.1 X.2.1 dX11_takeFrame_36 rfl (lv_at hl 2 rfl) ?_
      refine x_getR X hW fd_Cell_medium (fun w h => List.mem_cons_of_mem _ (gin_X11 w h)) (List.mem_cons_of_mem _ gw21) z_1 dX11_takeFrame_37 ?_
      obtain ⟨r14, S15, h16, h⟩ := cl_some h
      refine x_aftI X hW (x_runV (C := RX5) (a := G.2.2 4 0) (As := []) (rest := [.int r11]) X hW (c_X5_newestSender l G X.2.2.2.2.2.2.2.2.2.1 _ S12 _ h16) (cwV 0 X.2.2.2.2.1 (gV gw779 gw780 gw781 gw20 gw782) rfl rfl rfl ⟨rfl, hd_X5_newestSender⟩ ⟨Nat.le_of_ble_eq_true rfl, Nat.le_of_ble_eq_true rfl⟩) (x_recv X hW ob_Medium z_1) rfl hl.1 rfl (Nat.le_of_ble_eq_true rfl) dX11_takeFrame_40 ⟨Nat.zero_le _, Nat.zero_le _⟩) (fun H locs hW => ?_)
      refine x_icmp_ne X (tgt := 48) dX11_takeFrame_43 (by decide) h (fun h => ?_) (fun h => ?_)
      · refine lv_aload_n X.1 X.2.1 dX11_takeFrame_48 rfl (lv_at hl 2 rfl) ?_
        refine x_getR X hW fd_Cell_nodes (fun w h => List.mem_cons_of_mem _ (gin_X11 w h)) (List.mem_cons_of_mem _ gw14) z_1 dX11_takeFrame_49 ?_
        refine lv_iload_n X.1 X.2.1 dX11_takeFrame_52 rfl (lv_at hl 0 rfl) ?_
        refine x_aald X hW ar_52 (ct := 6) rfl (at_52 G) rfl dX11_takeFrame_53 h (fun i17 qi17 h => ?_)
        refine lv_astore_n (lv' := [(3, .ref (G.2.2 6 i17)), (2, .int r11), (1, .ref (G.2.2 27 i4)), (0, .ref (G.2.2 10 0))]) X.1 X.2.1 dX11_takeFrame_54 rfl hl (by decide) rfl (fun ls hl => ?_)
        refine lv_aload_n X.1 X.2.1 dX11_takeFrame_55 rfl (lv_at hl 2 rfl) ?_
        refine lv_iconst (v := 0) X.1 X.2.1 dX11_takeFrame_56 rfl ?_
        refine x_iald X hW ar_27 dX11_takeFrame_57 h (fun x18 h => ?_)
        refine lv_sipush (v := 212) X.1 X.2.1 dX11_takeFrame_58 rfl ?_
        refine x_icmp_ne X (tgt := 71) dX11_takeFrame_61 (by decide) h (fun h => ?_) (fun h => ?_)
        · refine lv_aload_n X.1 X.2.1 dX11_takeFrame_71 rfl (lv_at hl 0 rfl) ?_
          refine lv_aload_n X.1 X.2.1 dX11_takeFrame_72 rfl (lv_at hl 3 rfl) ?_
          refine x_getR X hW fd_Cell_medium (fun w h => List.mem_cons_of_mem _ (gin_X11 w h)) (List.mem_cons_of_mem _ gw21) z_1 dX11_takeFrame_73 ?_
          refine x_getI X hW fd_Medium_slot (fun w h => List.mem_cons_of_mem _ (gin_X5 w h)) (List.mem_cons_of_mem _ gw439) z_1 dX11_takeFrame_76 h (fun x19 h => ?_)
          refine lv_iconst (v := 2) X.1 X.2.1 dX11_takeFrame_79 rfl ?_
          refine lv_iadd X.1 X.2.1 dX11_takeFrame_80 ?_
          refine x_putI X hW fd_Node_dueSlot (fun w h => List.mem_cons_of_mem _ (gin_X7 w h)) (List.mem_cons_of_mem _ gw600) qi17 dX11_takeFrame_81 tyX7 tyX7_ok nmX7 rfl rfl rfl h (fun S20 H locs h hW => ?_)
          refine lv_aload_n X.1 X.2.1 dX11_takeFrame_84 rfl (lv_at hl 0 rfl) ?_
          refine lv_iconst (v := 1) X.1 X.2.1 dX11_takeFrame_85 rfl ?_
          refine x_putI X hW fd_Node_dueAck (fun w h => List.mem_cons_of_mem _ (gin_X7 w h)) (List.mem_cons_of_mem _ gw619) qi17 dX11_takeFrame_86 tyX7 tyX7_ok nmX7 rfl rfl rfl h (fun S21 H locs h hW => ?_)
          refine lv_aload_n X.1 X.2.1 dX11_takeFrame_89 rfl (lv_at hl 2 rfl) ?_
          refine lv_bipush (v := 10) X.1 X.2.1 dX11_takeFrame_90 rfl ?_
          refine lv_aload_n X.1 X.2.1 dX11_takeFrame_92 rfl (lv_at hl 0 rfl) ?_
          refine x_getR X hW fd_Node_ackTo (fun w h => List.mem_cons_of_mem _ (gin_X7 w h)) (List.mem_cons_of_mem _ gw628) qi17 dX11_takeFrame_93 ?_
          refine lv_iconst (v := 0) X.1 X.2.1 dX11_takeFrame_96 rfl ?_
          refine lv_aload_n X.1 X.2.1 dX11_takeFrame_97 rfl (lv_at hl 0 rfl) ?_
          refine x_getR X hW fd_Node_ackTo (fun w h => List.mem_cons_of_mem _ (gin_X7 w h)) (List.mem_cons_of_mem _ gw628) qi17 dX11_takeFrame_98 ?_
          refine x_lenP X hW dX11_takeFrame_101 h (fun x22 h => ?_)
          refine x_acopy X hW hl.1 (List.mem_cons_of_mem _ gw324) (List.mem_cons_of_mem _ gw325) (List.mem_cons_of_mem _ gw326) (List.mem_cons_of_mem _ gw327) (Nat.le_of_ble_eq_true rfl) (Nat.le_of_ble_eq_true rfl) dX11_takeFrame_102 h (fun S23 H locs h hW => ?_)
          refine lv_aload_n X.1 X.2.1 dX11_takeFrame_105 rfl (lv_at hl 2 rfl) ?_
          refine lv_bipush (v := 10) X.1 X.2.1 dX11_takeFrame_106 rfl ?_
          obtain ⟨r24, S25, h26, h⟩ := cl_some h
          refine x_aftI X hW (x_runS (As := [.ref (G.2.2 27 i4), .int 10]) (rest := []) X hW (c_X2_nodeAt l G X.2.2.2.2.2.2.2.2.2.1 _ S23 27 i4 10 _ h26) (va_cwS 2 X.2.2.2.2.1 (gS gw776 gw777 gw267 gw778) rfl rfl rfl hd_X2_nodeAt ⟨Nat.le_of_ble_eq_true rfl, Nat.le_of_ble_eq_true rfl⟩) rfl hl.1 rfl (Nat.le_of_ble_eq_true rfl) dX11_takeFrame_108 ⟨Nat.zero_le _, Nat.zero_le _⟩) (fun H locs hW => ?_)
          refine lv_istore (lv' := [(4, .int r24), (3, .ref (G.2.2 6 i17)), (2, .int r11), (1, .ref (G.2.2 27 i4)), (0, .ref (G.2.2 10 0))]) X.1 X.2.1 dX11_takeFrame_111 hl (by decide) rfl (fun ls hl => ?_)
          refine lv_iload X.1 X.2.1 dX11_takeFrame_113 (lv_at hl 0 rfl) ?_
          refine lv_iconst (v := (-1)) X.1 X.2.1 dX11_takeFrame_115 rfl ?_
          refine x_icmp_eq X (tgt := 129) dX11_takeFrame_116 (by decide) h (fun h => ?_) (fun h => ?_)
          · exact w_X11_takeFrame_129 X    hW (lv_sub hl [] rfl) h
          · refine lv_aload_n X.1 X.2.1 dX11_takeFrame_119 rfl (lv_at hl 1 rfl) ?_
            refine lv_aload_n X.1 X.2.1 dX11_takeFrame_120 rfl (lv_at hl 3 rfl) ?_
            refine lv_iload X.1 X.2.1 dX11_takeFrame_121 (lv_at hl 0 rfl) ?_
            obtain ⟨r27, S28, h29, h⟩ := cl_some h
            refine x_aftI X hW (x_runV (C := RX7) (a := G.2.2 6 i17) (As := [.ref (G.2.2 27 i4), .int r24]) (rest := []) X hW (c_X7_dropsAgain l G X.2.2.2.2.2.2.2.2.2.1 _ S25 i17 27 i4 r24 _ h29) (cwV 2 X.2.2.2.2.1 (gV gw787 gw788 gw789 gw46 gw790) rfl rfl rfl ⟨rfl, hd_X7_dropsAgain⟩ ⟨Nat.le_of_ble_eq_true rfl, Nat.le_of_ble_eq_true rfl⟩) (x_recv X hW ob_Node qi17) rfl hl.1 rfl (Nat.le_of_ble_eq_true rfl) dX11_takeFrame_123 ⟨Nat.zero_le _, Nat.zero_le _⟩) (fun H locs hW => ?_)
            refine x_if_eq X (tgt := 131) dX11_takeFrame_126 (by decide) h (fun h => ?_) (fun h => ?_)
            · refine lv_iload_n X.1 X.2.1 dX11_takeFrame_131 rfl (lv_at hl 2 rfl) ?_
              refine x_if_ne X (tgt := 139) dX11_takeFrame_132 (by decide) h (fun h => ?_) (fun h => ?_)
              · refine lv_iconst (v := 0) X.1 X.2.1 dX11_takeFrame_139 rfl ?_
                exact w_X11_takeFrame_140 X r11 r24 0   hW (lv_sub hl [2, 0] rfl) h
              · refine lv_iconst (v := 1) X.1 X.2.1 dX11_takeFrame_135 rfl ?_
                refine lv_goto (tgt := 140) X.1 X.2.1 dX11_takeFrame_136 (by decide) ?_
                exact w_X11_takeFrame_140 X r11 r24 1   hW (lv_sub hl [2, 0] rfl) h
            · exact w_X11_takeFrame_129 X    hW (lv_sub hl [] rfl) h
        · refine lv_aload_n X.1 X.2.1 dX11_takeFrame_64 rfl (lv_at hl 3 rfl) ?_
          refine lv_aload_n X.1 X.2.1 dX11_takeFrame_65 rfl (lv_at hl 0 rfl) ?_
          obtain ⟨r30, S31, h32, h⟩ := cl_some h
          refine x_aftV X hW (x_runV (C := RX11) (a := G.2.2 10 0) (As := [.ref (G.2.2 6 i17)]) (rest := []) X hW (c_X11_takeAck l G X.2.2.2.2.2.2.2.2.2.1 _ S15 i17 _ h32) (cwV 1 X.2.2.2.2.1 (gV gw783 gw784 gw785 gw2 gw786) rfl rfl rfl ⟨rfl, hd_X11_takeAck⟩ ⟨Nat.le_of_ble_eq_true rfl, Nat.le_of_ble_eq_true rfl⟩) (x_recv X hW ob_Cell z_1) rfl hl.1 rfl (Nat.le_of_ble_eq_true rfl) dX11_takeFrame_66 ⟨Nat.zero_le _, Nat.zero_le _⟩) (fun H locs hW => ?_)
          refine lv_iconst (v := (-1)) X.1 X.2.1 dX11_takeFrame_69 rfl ?_
          exact x_iret X hW h dX11_takeFrame_70
      · exact w_X11_takeFrame_46 X    hW (lv_sub hl [] rfl) h
  · refine lv_iconst (v := (-1)) X.1 X.2.1 dX11_takeFrame_22 rfl ?_
    exact x_iret X hW h dX11_takeFrame_23
theorem c_X11_takeFrame (l : Launch) (G : xG) (hD : xD G false) (sz : Nat) (S : Mm)  (o : Int32 × Mm) (h : F_X11_takeFrame  S = some o) : Met l yX11_takeFrame wsX11_takeFrame rmX11_takeFrame (xPre G false S sz [.ref (G.2.2 10 0)]) (xQi G false sz o) 0 0 (XA G false sz) :=
  x_start hD (by decide) rfl (Nat.le_of_ble_eq_true rfl) (fun p e s m below meth c X hW ls hl => w_X11_takeFrame_0 X  hW hl h)

/-! WirelessCell.endFrames()I -/
def rmX11_endFrames : Room := { frames := 4, cells := 0, slots := 0, locals := 92 }
def L_X11_endFrames_47 (k2 : Int32 → Mm → Option (Int32 × Mm)) (v1 : Int32) (S : Mm) : Option (Int32 × Mm) :=
  k2 (v1 + 1) S
def L_X11_endFrames_2   : Nat → Int32 → Mm → Option (Int32 × Mm)
  | 0, _, _ => none
  | n + 1, v1, S => 
    if 9 ≤ v1 then (
    cl (F_X5_closeEndings S) fun r1 S2 =>
    if r1 = 0 then (
    some ((-1), S2))
    else (
    cl (F_X11_takeFrame S2) fun r4 S5 =>
    some (r4, S5)))
    else (
    ldR S 52 0 9 1 v1 9 fun i7 =>
    gf S 96 i7 fun x8 =>
    gf S 76 0 fun x9 =>
    if x8 = x9 then (
    gf S 97 i7 fun x10 =>
    if x10 = 0 then (
    gf S 76 0 fun x11 =>
    pf S 98 i7 x11 fun S12 =>
    L_X11_endFrames_47 (L_X11_endFrames_2  n) v1 S12)
    else (
    L_X11_endFrames_47 (L_X11_endFrames_2  n) v1 S))
    else (
    L_X11_endFrames_47 (L_X11_endFrames_2  n) v1 S))
def F_X11_endFrames  (S : Mm) : Option (Int32 × Mm) :=
  L_X11_endFrames_2   fu 0 S
set_option maxRecDepth 100000 in
set_option maxHeartbeats 4000000 in
theorem w_X11_endFrames_47 {p : Program} {l : Launch} {e : Env} {s : State} {m : MethodId} {args : Array Value} {below : List Frame} {meth : Method} {c : Code} {G : xG} {sz : Nat} {o : Int32 × Mm} (X : xC G false sz p s m args c cX11_endFrames 3 wsX11_endFrames RX11 meth (some .int)) (v1 : Int32)  (k2 : Int32 → Mm → Option (Int32 × Mm)) (hk2 : ∀ (v1 : Int32) (S : Mm) (H : Heap) (locs : List Loc) (ls : Array Slot), k2 v1 S = some o → xW G false sz s H locs S → lv_has ls 3 [(0, .ref (G.2.2 10 0)), (1, .int v1)] → wX p l e rmX11_endFrames s m args below meth c H locs (xQi G false sz o) (XA G false sz) 2 ls []) {S : Mm} {H : Heap} {locs : List Loc} {ls : Array Slot} (hW : xW G false sz s H locs S) (hl : lv_has ls 3 [(0, .ref (G.2.2 10 0)), (1, .int v1)]) (h : L_X11_endFrames_47 k2 v1 S = some o) : wX p l e rmX11_endFrames s m args below meth c H locs (xQi G false sz o) (XA G false sz) 47 ls [] := by
  unfold L_X11_endFrames_47 at h
  refine lv_iinc (v := (v1 + 1)) (lv' := [(1, .int (v1 + 1)), (0, .ref (G.2.2 10 0))]) X.1 X.2.1 dX11_endFrames_47 hl (k := 1) rfl rfl (by decide) rfl (fun ls hl => ?_)
  refine lv_goto (tgt := 2) X.1 X.2.1 dX11_endFrames_50 (by decide) ?_
  exact hk2 (v1 + 1) S _ _ _ h hW  (lv_sub hl [1, 0] rfl)
set_option maxRecDepth 100000 in
set_option maxHeartbeats 4000000 in
theorem w_X11_endFrames_2 {p : Program} {l : Launch} {e : Env} {s : State} {m : MethodId} {args : Array Value} {below : List Frame} {meth : Method} {c : Code} {G : xG} {sz : Nat} {o : Int32 × Mm} (X : xC G false sz p s m args c cX11_endFrames 3 wsX11_endFrames RX11 meth (some .int))    : ∀ (n : Nat) (v1 : Int32) (S : Mm) (H : Heap) (locs : List Loc) (ls : Array Slot), L_X11_endFrames_2  n v1 S = some o → xW G false sz s H locs S → lv_has ls 3 [(0, .ref (G.2.2 10 0)), (1, .int v1)] → wX p l e rmX11_endFrames s m args below meth c H locs (xQi G false sz o) (XA G false sz) 2 ls [] := by
  intro n
  induction n with
  | zero =>
    intro v1 S H locs ls h
    cases h
  | succ n ih =>
    intro v1 S H locs ls h hW  hl
    rw [L_X11_endFrames_2] at h
    refine lv_iload_n X.1 X.2.1 dX11_endFrames_2 rfl (lv_at hl 1 rfl) ?_
    refine lv_bipush (v := 9) X.1 X.2.1 dX11_endFrames_3 rfl ?_
    refine x_icmp_ge X (tgt := 53) dX11_endFrames_5 (by decide) h (fun h => ?_) (fun h => ?_)
    · refine lv_aload_n X.1 X.2.1 dX11_endFrames_53 rfl (lv_at hl 0 rfl) ?_
      refine x_getR X hW fd_Cell_medium (fun w h => List.mem_cons_of_mem _ (gin_X11 w h)) (List.mem_cons_of_mem _ gw21) z_1 dX11_endFrames_54 ?_
      obtain ⟨r1, S2, h3, h⟩ := cl_some h
      refine x_aftI X hW (x_runV (C := RX5) (a := G.2.2 4 0) (As := []) (rest := []) X hW (c_X5_closeEndings l G X.2.2.2.2.2.2.2.2.2.1 _ S _ h3) (cwV 0 X.2.2.2.2.1 (gV gw750 gw751 gw752 gw20 gw753) rfl rfl rfl ⟨rfl, hd_X5_closeEndings⟩ ⟨Nat.le_of_ble_eq_true rfl, Nat.le_of_ble_eq_true rfl⟩) (x_recv X hW ob_Medium z_1) rfl hl.1 rfl (Nat.le_of_ble_eq_true rfl) dX11_endFrames_57 ⟨Nat.zero_le _, Nat.zero_le _⟩) (fun H locs hW => ?_)
      refine x_if_eq X (tgt := 70) dX11_endFrames_60 (by decide) h (fun h => ?_) (fun h => ?_)
      · refine lv_iconst (v := (-1)) X.1 X.2.1 dX11_endFrames_70 rfl ?_
        exact x_iret X hW h dX11_endFrames_71
      · refine lv_aload_n X.1 X.2.1 dX11_endFrames_63 rfl (lv_at hl 0 rfl) ?_
        obtain ⟨r4, S5, h6, h⟩ := cl_some h
        refine x_aftI X hW (x_runV (C := RX11) (a := G.2.2 10 0) (As := []) (rest := []) X hW (c_X11_takeFrame l G X.2.2.2.2.2.2.2.2.2.1 _ S2 _ h6) (cwV 0 X.2.2.2.2.1 (gV gw755 gw756 gw757 gw2 gw758) rfl rfl rfl ⟨rfl, hd_X11_takeFrame⟩ ⟨Nat.le_of_ble_eq_true rfl, Nat.le_of_ble_eq_true rfl⟩) (x_recv X hW ob_Cell z_1) rfl hl.1 rfl (Nat.le_of_ble_eq_true rfl) dX11_endFrames_64 ⟨Nat.zero_le _, Nat.zero_le _⟩) (fun H locs hW => ?_)
        refine lv_goto (tgt := 71) X.1 X.2.1 dX11_endFrames_67 (by decide) ?_
        exact x_iret X hW h dX11_endFrames_71
    · refine lv_aload_n X.1 X.2.1 dX11_endFrames_8 rfl (lv_at hl 0 rfl) ?_
      refine x_getR X hW fd_Cell_nodes (fun w h => List.mem_cons_of_mem _ (gin_X11 w h)) (List.mem_cons_of_mem _ gw14) z_1 dX11_endFrames_9 ?_
      refine lv_iload_n X.1 X.2.1 dX11_endFrames_12 rfl (lv_at hl 1 rfl) ?_
      refine x_aald X hW ar_52 (ct := 6) rfl (at_52 G) rfl dX11_endFrames_13 h (fun i7 qi7 h => ?_)
      refine lv_astore_n (lv' := [(2, .ref (G.2.2 6 i7)), (0, .ref (G.2.2 10 0)), (1, .int v1)]) X.1 X.2.1 dX11_endFrames_14 rfl hl (by decide) rfl (fun ls hl => ?_)
      refine lv_aload_n X.1 X.2.1 dX11_endFrames_15 rfl (lv_at hl 0 rfl) ?_
      refine x_getI X hW fd_Node_lastSendSlot (fun w h => List.mem_cons_of_mem _ (gin_X7 w h)) (List.mem_cons_of_mem _ gw630) qi7 dX11_endFrames_16 h (fun x8 h => ?_)
      refine lv_aload_n X.1 X.2.1 dX11_endFrames_19 rfl (lv_at hl 1 rfl) ?_
      refine x_getR X hW fd_Cell_medium (fun w h => List.mem_cons_of_mem _ (gin_X11 w h)) (List.mem_cons_of_mem _ gw21) z_1 dX11_endFrames_20 ?_
      refine x_getI X hW fd_Medium_slot (fun w h => List.mem_cons_of_mem _ (gin_X5 w h)) (List.mem_cons_of_mem _ gw439) z_1 dX11_endFrames_23 h (fun x9 h => ?_)
      refine x_icmp_ne X (tgt := 47) dX11_endFrames_26 (by decide) h (fun h => ?_) (fun h => ?_)
      · exact w_X11_endFrames_47 X v1  (L_X11_endFrames_2  n) ih hW (lv_sub hl [1, 2] rfl) h
      · refine lv_aload_n X.1 X.2.1 dX11_endFrames_29 rfl (lv_at hl 0 rfl) ?_
        refine x_getI X hW fd_Node_sendsAck (fun w h => List.mem_cons_of_mem _ (gin_X7 w h)) (List.mem_cons_of_mem _ gw631) qi7 dX11_endFrames_30 h (fun x10 h => ?_)
        refine x_if_ne X (tgt := 47) dX11_endFrames_33 (by decide) h (fun h => ?_) (fun h => ?_)
        · exact w_X11_endFrames_47 X v1  (L_X11_endFrames_2  n) ih hW (lv_sub hl [1, 2] rfl) h
        · refine lv_aload_n X.1 X.2.1 dX11_endFrames_36 rfl (lv_at hl 0 rfl) ?_
          refine lv_aload_n X.1 X.2.1 dX11_endFrames_37 rfl (lv_at hl 1 rfl) ?_
          refine x_getR X hW fd_Cell_medium (fun w h => List.mem_cons_of_mem _ (gin_X11 w h)) (List.mem_cons_of_mem _ gw21) z_1 dX11_endFrames_38 ?_
          refine x_getI X hW fd_Medium_slot (fun w h => List.mem_cons_of_mem _ (gin_X5 w h)) (List.mem_cons_of_mem _ gw439) z_1 dX11_endFrames_41 h (fun x11 h => ?_)
          refine x_putI X hW fd_Node_waitsFrom (fun w h => List.mem_cons_of_mem _ (gin_X7 w h)) (List.mem_cons_of_mem _ gw749) qi7 dX11_endFrames_44 tyX7 tyX7_ok nmX7 rfl rfl rfl h (fun S12 H locs h hW => ?_)
          exact w_X11_endFrames_47 X v1  (L_X11_endFrames_2  n) ih hW (lv_sub hl [1, 2] rfl) h
set_option maxRecDepth 100000 in
set_option maxHeartbeats 4000000 in
theorem w_X11_endFrames_0 {p : Program} {l : Launch} {e : Env} {s : State} {m : MethodId} {args : Array Value} {below : List Frame} {meth : Method} {c : Code} {G : xG} {sz : Nat} {o : Int32 × Mm} (X : xC G false sz p s m args c cX11_endFrames 3 wsX11_endFrames RX11 meth (some .int))  {S : Mm} {H : Heap} {locs : List Loc} {ls : Array Slot} (hW : xW G false sz s H locs S) (hl : lv_has ls 3 [(0, .ref (G.2.2 10 0))]) (h : F_X11_endFrames  S = some o) : wX p l e rmX11_endFrames s m args below meth c H locs (xQi G false sz o) (XA G false sz) 0 ls [] := by
  unfold F_X11_endFrames at h
  refine lv_iconst (v := 0) X.1 X.2.1 dX11_endFrames_0 rfl ?_
  refine lv_istore_n (lv' := [(1, .int 0), (0, .ref (G.2.2 10 0))]) X.1 X.2.1 dX11_endFrames_1 rfl hl (by decide) rfl (fun ls hl => ?_)
  exact w_X11_endFrames_2 X    fu 0 S _ _ _ h hW  (lv_sub hl [1, 0] rfl)
theorem c_X11_endFrames (l : Launch) (G : xG) (hD : xD G false) (sz : Nat) (S : Mm)  (o : Int32 × Mm) (h : F_X11_endFrames  S = some o) : Met l yX11_endFrames wsX11_endFrames rmX11_endFrames (xPre G false S sz [.ref (G.2.2 10 0)]) (xQi G false sz o) 0 0 (XA G false sz) :=
  x_start hD (by decide) rfl (Nat.le_of_ble_eq_true rfl) (fun p e s m below meth c X hW ls hl => w_X11_endFrames_0 X  hW hl h)

/-! WirelessCell.takeSealed(LWirelessCell$Node;LWirelessCell$Link;[I)Z -/
def rmX11_takeSealed : Room := { frames := 3, cells := 0, slots := 0, locals := 76 }
def L_X11_takeSealed_36  (v1 : Nat) (S : Mm) : Option (Int32 × Mm) :=
  gf S 90 v1 fun x28 =>
  pf S 90 v1 (x28 + 1) fun S29 =>
  some (0, S29)
def L_X11_takeSealed_81  (v1 : Nat) (S : Mm) : Option (Int32 × Mm) :=
  gf S 90 v1 fun x26 =>
  pf S 90 v1 (x26 + 1) fun S27 =>
  some (0, S27)
def L_X11_takeSealed_170   (S : Mm) : Option (Int32 × Mm) :=
  some (0, S)
def F_X11_takeSealed (v1 : Nat) (v2 : Nat) (cv3 : Nat) (v3 : Nat) (S : Mm) : Option (Int32 × Mm) :=
  gd (v1 < 9) (
  gd (v2 < 18) (
  cl (F_X5_newestLength S) fun r1 S2 =>
  tp ((r1 - 28) - 16) fun x4 =>
  if x4 < 0 then (
  L_X11_takeSealed_36  v1 S2)
  else (
  ldP false S2 cv3 v3 26 fun x5 =>
  if x5 = 0 then (
  ldP false S2 cv3 v3 27 fun x6 =>
  if x6 = 32 then (
  cl (F_X2_sealNumber cv3 v3 S2) fun r7 S8 =>
  gl S8 65 v2 fun x10 =>
  if (lg_cmp r7 x10) ≤ 0 then (
  L_X11_takeSealed_81  v1 S8)
  else (
  cl (F_X0_open cv3 v3 x4 24 v2 S8) fun r11 S12 =>
  if r11 = 0 then (
  L_X11_takeSealed_81  v1 S12)
  else (
  pl S12 65 v2 r7 fun S14 =>
  cl (F_X4_addPart v2 cv3 v3 11 0 x4 S14) fun r15 S16 =>
  if r15 = 0 then (
  gf S16 90 v1 fun x24 =>
  pf S16 90 v1 (x24 + 1) fun S25 =>
  some (0, S25))
  else (
  ldP false S16 cv3 v3 1 fun x18 =>
  if (x18 &&& 4) = 0 then (
  pf S16 67 v2 0 fun S19 =>
  gf S19 70 v2 fun x20 =>
  if x20 < 8 then (
  L_X11_takeSealed_170  S19)
  else (
  cl (F_X2_hasHead 25 v2 0 8 0 S19) fun r21 S22 =>
  if r21 = 0 then (
  L_X11_takeSealed_170  S22)
  else (
  some (1, S22))))
  else (
  some (0, S16))))))
  else (
  L_X11_takeSealed_36  v1 S2))
  else (
  L_X11_takeSealed_36  v1 S2))))
set_option maxRecDepth 100000 in
set_option maxHeartbeats 4000000 in
theorem w_X11_takeSealed_36 {p : Program} {l : Launch} {e : Env} {s : State} {m : MethodId} {args : Array Value} {below : List Frame} {meth : Method} {c : Code} {G : xG} {sz : Nat} {o : Int32 × Mm} (X : xC G false sz p s m args c cX11_takeSealed 7 wsX11_takeSealed RX11 meth (some .boolean)) (v1 : Nat) (qv1 : v1 < 9)  {S : Mm} {H : Heap} {locs : List Loc} {ls : Array Slot} (hW : xW G false sz s H locs S) (hl : lv_has ls 7 [(1, .ref (G.2.2 6 v1))]) (h : L_X11_takeSealed_36  v1 S = some o) : wX p l e rmX11_takeSealed s m args below meth c H locs (xQi G false sz o) (XA G false sz) 36 ls [] := by
  unfold L_X11_takeSealed_36 at h
  refine lv_aload_n X.1 X.2.1 dX11_takeSealed_36 rfl (lv_at hl 0 rfl) ?_
  refine lv_dup X.1 X.2.1 dX11_takeSealed_37 rfl ?_
  refine x_getI X hW fd_Node_droppedSealed (fun w h => List.mem_cons_of_mem _ (gin_X7 w h)) (List.mem_cons_of_mem _ gw800) qv1 dX11_takeSealed_38 h (fun x28 h => ?_)
  refine lv_iconst (v := 1) X.1 X.2.1 dX11_takeSealed_41 rfl ?_
  refine lv_iadd X.1 X.2.1 dX11_takeSealed_42 ?_
  refine x_putI X hW fd_Node_droppedSealed (fun w h => List.mem_cons_of_mem _ (gin_X7 w h)) (List.mem_cons_of_mem _ gw800) qv1 dX11_takeSealed_43 tyX7 tyX7_ok nmX7 rfl rfl rfl h (fun S29 H locs h hW => ?_)
  refine lv_iconst (v := 0) X.1 X.2.1 dX11_takeSealed_46 rfl ?_
  exact x_zret X hW h rfl dX11_takeSealed_47
set_option maxRecDepth 100000 in
set_option maxHeartbeats 4000000 in
theorem w_X11_takeSealed_81 {p : Program} {l : Launch} {e : Env} {s : State} {m : MethodId} {args : Array Value} {below : List Frame} {meth : Method} {c : Code} {G : xG} {sz : Nat} {o : Int32 × Mm} (X : xC G false sz p s m args c cX11_takeSealed 7 wsX11_takeSealed RX11 meth (some .boolean)) (v1 : Nat) (qv1 : v1 < 9)  {S : Mm} {H : Heap} {locs : List Loc} {ls : Array Slot} (hW : xW G false sz s H locs S) (hl : lv_has ls 7 [(1, .ref (G.2.2 6 v1))]) (h : L_X11_takeSealed_81  v1 S = some o) : wX p l e rmX11_takeSealed s m args below meth c H locs (xQi G false sz o) (XA G false sz) 81 ls [] := by
  unfold L_X11_takeSealed_81 at h
  refine lv_aload_n X.1 X.2.1 dX11_takeSealed_81 rfl (lv_at hl 0 rfl) ?_
  refine lv_dup X.1 X.2.1 dX11_takeSealed_82 rfl ?_
  refine x_getI X hW fd_Node_droppedSealed (fun w h => List.mem_cons_of_mem _ (gin_X7 w h)) (List.mem_cons_of_mem _ gw800) qv1 dX11_takeSealed_83 h (fun x26 h => ?_)
  refine lv_iconst (v := 1) X.1 X.2.1 dX11_takeSealed_86 rfl ?_
  refine lv_iadd X.1 X.2.1 dX11_takeSealed_87 ?_
  refine x_putI X hW fd_Node_droppedSealed (fun w h => List.mem_cons_of_mem _ (gin_X7 w h)) (List.mem_cons_of_mem _ gw800) qv1 dX11_takeSealed_88 tyX7 tyX7_ok nmX7 rfl rfl rfl h (fun S27 H locs h hW => ?_)
  refine lv_iconst (v := 0) X.1 X.2.1 dX11_takeSealed_91 rfl ?_
  exact x_zret X hW h rfl dX11_takeSealed_92
set_option maxRecDepth 100000 in
set_option maxHeartbeats 4000000 in
theorem w_X11_takeSealed_170 {p : Program} {l : Launch} {e : Env} {s : State} {m : MethodId} {args : Array Value} {below : List Frame} {meth : Method} {c : Code} {G : xG} {sz : Nat} {o : Int32 × Mm} (X : xC G false sz p s m args c cX11_takeSealed 7 wsX11_takeSealed RX11 meth (some .boolean))    {S : Mm} {H : Heap} {locs : List Loc} {ls : Array Slot} (hW : xW G false sz s H locs S) (hl : lv_has ls 7 []) (h : L_X11_takeSealed_170   S = some o) : wX p l e rmX11_takeSealed s m args below meth c H locs (xQi G false sz o) (XA G false sz) 170 ls [] := by
  unfold L_X11_takeSealed_170 at h
  refine lv_iconst (v := 0) X.1 X.2.1 dX11_takeSealed_170 rfl ?_
  exact x_zret X hW h rfl dX11_takeSealed_171
set_option maxRecDepth 100000 in
set_option maxHeartbeats 4000000 in
theorem w_X11_takeSealed_0 {p : Program} {l : Launch} {e : Env} {s : State} {m : MethodId} {args : Array Value} {below : List Frame} {meth : Method} {c : Code} {G : xG} {sz : Nat} {o : Int32 × Mm} (X : xC G false sz p s m args c cX11_takeSealed 7 wsX11_takeSealed RX11 meth (some .boolean)) (v1 : Nat) (v2 : Nat) (cv3 : Nat) (v3 : Nat) {S : Mm} {H : Heap} {locs : List Loc} {ls : Array Slot} (hW : xW G false sz s H locs S) (hl : lv_has ls 7 [(0, .ref (G.2.2 10 0)), (1, .ref (G.2.2 6 v1)), (2, .ref (G.2.2 3 v2)), (3, .ref (G.2.2 cv3 v3))]) (h : F_X11_takeSealed v1 v2 cv3 v3 S = some o) : wX p l e rmX11_takeSealed s m args below meth c H locs (xQi G false sz o) (XA G false sz) 0 ls [] := by
  unfold F_X11_takeSealed at h
  obtain ⟨qv1, h⟩ := if_some h
  obtain ⟨qv2, h⟩ := if_some h
  refine lv_aload_n X.1 X.2.1 dX11_takeSealed_0 rfl (lv_at hl 0 rfl) ?_
  refine x_getR X hW fd_Cell_medium (fun w h => List.mem_cons_of_mem _ (gin_X11 w h)) (List.mem_cons_of_mem _ gw21) z_1 dX11_takeSealed_1 ?_
  obtain ⟨r1, S2, h3, h⟩ := cl_some h
  refine x_aftI X hW (x_runV (C := RX5) (a := G.2.2 4 0) (As := []) (rest := []) X hW (c_X5_newestLength l G X.2.2.2.2.2.2.2.2.2.1 _ S _ h3) (cwV 0 X.2.2.2.2.1 (gV gw763 gw764 gw765 gw20 gw766) rfl rfl rfl ⟨rfl, hd_X5_newestLength⟩ ⟨Nat.le_of_ble_eq_true rfl, Nat.le_of_ble_eq_true rfl⟩) (x_recv X hW ob_Medium z_1) rfl hl.1 rfl (Nat.le_of_ble_eq_true rfl) dX11_takeSealed_4 ⟨Nat.zero_le _, Nat.zero_le _⟩) (fun H locs hW => ?_)
  refine lv_bipush (v := 28) X.1 X.2.1 dX11_takeSealed_7 rfl ?_
  refine lv_isub X.1 X.2.1 dX11_takeSealed_9 ?_
  refine lv_bipush (v := 16) X.1 X.2.1 dX11_takeSealed_10 rfl ?_
  refine lv_isub X.1 X.2.1 dX11_takeSealed_12 ?_
  refine x_top h (fun x4 h => ?_)
  refine lv_istore (lv' := [(4, .int x4), (0, .ref (G.2.2 10 0)), (1, .ref (G.2.2 6 v1)), (2, .ref (G.2.2 3 v2)), (3, .ref (G.2.2 cv3 v3))]) X.1 X.2.1 dX11_takeSealed_13 hl (by decide) rfl (fun ls hl => ?_)
  refine lv_iload X.1 X.2.1 dX11_takeSealed_15 (lv_at hl 0 rfl) ?_
  refine x_if_lt X (tgt := 36) dX11_takeSealed_17 (by decide) h (fun h => ?_) (fun h => ?_)
  · exact w_X11_takeSealed_36 X v1 qv1  hW (lv_sub hl [2] rfl) h
  · refine lv_aload_n X.1 X.2.1 dX11_takeSealed_20 rfl (lv_at hl 4 rfl) ?_
    refine lv_bipush (v := 26) X.1 X.2.1 dX11_takeSealed_21 rfl ?_
    refine x_ialdP X hW dX11_takeSealed_23 h (fun x5 h => ?_)
    refine x_if_ne X (tgt := 36) dX11_takeSealed_24 (by decide) h (fun h => ?_) (fun h => ?_)
    · exact w_X11_takeSealed_36 X v1 qv1  hW (lv_sub hl [2] rfl) h
    · refine lv_aload_n X.1 X.2.1 dX11_takeSealed_27 rfl (lv_at hl 4 rfl) ?_
      refine lv_bipush (v := 27) X.1 X.2.1 dX11_takeSealed_28 rfl ?_
      refine x_ialdP X hW dX11_takeSealed_30 h (fun x6 h => ?_)
      refine lv_bipush (v := 32) X.1 X.2.1 dX11_takeSealed_31 rfl ?_
      refine x_icmp_eq X (tgt := 48) dX11_takeSealed_33 (by decide) h (fun h => ?_) (fun h => ?_)
      · refine lv_aload_n X.1 X.2.1 dX11_takeSealed_48 rfl (lv_at hl 4 rfl) ?_
        obtain ⟨r7, S8, h9, h⟩ := cl_some h
        refine x_aftL X hW (x_runS (As := [.ref (G.2.2 cv3 v3)]) (rest := []) X hW (c_X2_sealNumber l G X.2.2.2.2.2.2.2.2.2.1 _ S2 cv3 v3 _ h9) (va_cwS 1 X.2.2.2.2.1 (gS gw806 gw807 gw267 gw808) rfl rfl rfl hd_X2_sealNumber ⟨Nat.le_of_ble_eq_true rfl, Nat.le_of_ble_eq_true rfl⟩) rfl hl.1 rfl (Nat.le_of_ble_eq_true rfl) dX11_takeSealed_49 ⟨Nat.zero_le _, Nat.zero_le _⟩) (fun H locs hW => ?_)
        refine lv_lstore (lv' := [(5, .long r7), (4, .int x4), (0, .ref (G.2.2 10 0)), (1, .ref (G.2.2 6 v1)), (2, .ref (G.2.2 3 v2)), (3, .ref (G.2.2 cv3 v3))]) X.1 X.2.1 dX11_takeSealed_52 hl (by decide) rfl (fun ls hl => ?_)
        refine lv_lload X.1 X.2.1 dX11_takeSealed_54 (lv_at hl 0 rfl) ?_
        refine lv_aload_n X.1 X.2.1 dX11_takeSealed_56 rfl (lv_at hl 4 rfl) ?_
        refine x_getL X hW fd_Link_taken (fun w h => List.mem_cons_of_mem _ (gin_X4 w h)) (List.mem_cons_of_mem _ gw801) qv2 dX11_takeSealed_57 h (fun x10 h => ?_)
        refine W.lcmp X.1 X.2.1 dX11_takeSealed_60 ?_
        refine x_if_le X (tgt := 81) dX11_takeSealed_61 (by decide) h (fun h => ?_) (fun h => ?_)
        · exact w_X11_takeSealed_81 X v1 qv1  hW (lv_sub hl [3] rfl) h
        · refine lv_aload_n X.1 X.2.1 dX11_takeSealed_64 rfl (lv_at hl 2 rfl) ?_
          refine x_getR X hW fd_Cell_ccm (fun w h => List.mem_cons_of_mem _ (gin_X11 w h)) (List.mem_cons_of_mem _ gw37) z_1 dX11_takeSealed_65 ?_
          refine lv_aload_n X.1 X.2.1 dX11_takeSealed_68 rfl (lv_at hl 5 rfl) ?_
          refine lv_iload X.1 X.2.1 dX11_takeSealed_69 (lv_at hl 1 rfl) ?_
          refine lv_aload_n X.1 X.2.1 dX11_takeSealed_71 rfl (lv_at hl 4 rfl) ?_
          refine x_getR X hW fd_Link_tk (fun w h => List.mem_cons_of_mem _ (gin_X4 w h)) (List.mem_cons_of_mem _ gw670) qv2 dX11_takeSealed_72 ?_
          obtain ⟨r11, S12, h13, h⟩ := cl_some h
          refine x_aftI X hW (x_runV (C := RX0) (a := G.2.2 0 0) (As := [.ref (G.2.2 cv3 v3), .int x4, .ref (G.2.2 24 v2)]) (rest := []) X hW (c_X0_open l G X.2.2.2.2.2.2.2.2.2.1 _ S8 cv3 v3 x4 24 v2 _ h13) (cwV 3 X.2.2.2.2.1 (gV gw811 gw812 gw813 gw36 gw814) rfl rfl rfl ⟨rfl, hd_X0_open⟩ ⟨Nat.le_of_ble_eq_true rfl, Nat.le_of_ble_eq_true rfl⟩) (x_recv X hW ob_Ccm z_1) rfl hl.1 rfl (Nat.le_of_ble_eq_true rfl) dX11_takeSealed_75 ⟨Nat.zero_le _, Nat.zero_le _⟩) (fun H locs hW => ?_)
          refine x_if_ne X (tgt := 93) dX11_takeSealed_78 (by decide) h (fun h => ?_) (fun h => ?_)
          · refine lv_aload_n X.1 X.2.1 dX11_takeSealed_93 rfl (lv_at hl 4 rfl) ?_
            refine lv_lload X.1 X.2.1 dX11_takeSealed_94 (lv_at hl 0 rfl) ?_
            refine x_putL X hW fd_Link_taken (fun w h => List.mem_cons_of_mem _ (gin_X4 w h)) (List.mem_cons_of_mem _ gw801) qv2 dX11_takeSealed_96 tyX4 tyX4_ok nmX4 rfl rfl rfl h (fun S14 H locs h hW => ?_)
            refine lv_aload_n X.1 X.2.1 dX11_takeSealed_99 rfl (lv_at hl 4 rfl) ?_
            refine lv_aload_n X.1 X.2.1 dX11_takeSealed_100 rfl (lv_at hl 5 rfl) ?_
            refine lv_aload_n X.1 X.2.1 dX11_takeSealed_101 rfl (lv_at hl 2 rfl) ?_
            refine x_getR X hW fd_Cell_ccm (fun w h => List.mem_cons_of_mem _ (gin_X11 w h)) (List.mem_cons_of_mem _ gw37) z_1 dX11_takeSealed_102 ?_
            refine x_getR X hW fd_Ccm_plain (fun w h => List.mem_cons_of_mem _ (gin_X0 w h)) (List.mem_cons_of_mem _ gw802) z_1 dX11_takeSealed_105 ?_
            refine lv_iload X.1 X.2.1 dX11_takeSealed_108 (lv_at hl 1 rfl) ?_
            obtain ⟨r15, S16, h17, h⟩ := cl_some h
            refine x_aftI X hW (x_runV (C := RX4) (a := G.2.2 3 v2) (As := [.ref (G.2.2 cv3 v3), .ref (G.2.2 11 0), .int x4]) (rest := []) X hW (c_X4_addPart l G X.2.2.2.2.2.2.2.2.2.1 _ S14 v2 cv3 v3 11 0 x4 _ h17) (cwV 3 X.2.2.2.2.1 (gV gw815 gw816 gw817 gw48 gw818) rfl rfl rfl ⟨rfl, hd_X4_addPart⟩ ⟨Nat.le_of_ble_eq_true rfl, Nat.le_of_ble_eq_true rfl⟩) (x_recv X hW ob_Link qv2) rfl hl.1 rfl (Nat.le_of_ble_eq_true rfl) dX11_takeSealed_110 ⟨Nat.zero_le _, Nat.zero_le _⟩) (fun H locs hW => ?_)
            refine x_if_ne X (tgt := 128) dX11_takeSealed_113 (by decide) h (fun h => ?_) (fun h => ?_)
            · refine lv_aload_n X.1 X.2.1 dX11_takeSealed_128 rfl (lv_at hl 5 rfl) ?_
              refine lv_iconst (v := 1) X.1 X.2.1 dX11_takeSealed_129 rfl ?_
              refine x_ialdP X hW dX11_takeSealed_130 h (fun x18 h => ?_)
              refine lv_iconst (v := 4) X.1 X.2.1 dX11_takeSealed_131 rfl ?_
              refine lv_iand X.1 X.2.1 dX11_takeSealed_132 ?_
              refine x_if_eq X (tgt := 138) dX11_takeSealed_133 (by decide) h (fun h => ?_) (fun h => ?_)
              · refine lv_aload_n X.1 X.2.1 dX11_takeSealed_138 rfl (lv_at hl 4 rfl) ?_
                refine lv_iconst (v := 0) X.1 X.2.1 dX11_takeSealed_139 rfl ?_
                refine x_putI X hW fd_Link_begun (fun w h => List.mem_cons_of_mem _ (gin_X4 w h)) (List.mem_cons_of_mem _ gw803) qv2 dX11_takeSealed_140 tyX4 tyX4_ok nmX4 rfl rfl rfl h (fun S19 H locs h hW => ?_)
                refine lv_aload_n X.1 X.2.1 dX11_takeSealed_143 rfl (lv_at hl 4 rfl) ?_
                refine x_getI X hW fd_Link_length (fun w h => List.mem_cons_of_mem _ (gin_X4 w h)) (List.mem_cons_of_mem _ gw804) qv2 dX11_takeSealed_144 h (fun x20 h => ?_)
                refine lv_bipush (v := 8) X.1 X.2.1 dX11_takeSealed_147 rfl ?_
                refine x_icmp_lt X (tgt := 170) dX11_takeSealed_149 (by decide) h (fun h => ?_) (fun h => ?_)
                · exact w_X11_takeSealed_170 X    hW (lv_sub hl [] rfl) h
                · refine lv_aload_n X.1 X.2.1 dX11_takeSealed_152 rfl (lv_at hl 4 rfl) ?_
                  refine x_getR X hW fd_Link_bytes (fun w h => List.mem_cons_of_mem _ (gin_X4 w h)) (List.mem_cons_of_mem _ gw805) qv2 dX11_takeSealed_153 ?_
                  refine lv_iconst (v := 0) X.1 X.2.1 dX11_takeSealed_156 rfl ?_
                  refine lv_bipush (v := 8) X.1 X.2.1 dX11_takeSealed_157 rfl ?_
                  refine lv_iconst (v := 0) X.1 X.2.1 dX11_takeSealed_159 rfl ?_
                  obtain ⟨r21, S22, h23, h⟩ := cl_some h
                  refine x_aftI X hW (x_runS (As := [.ref (G.2.2 25 v2), .int 0, .int 8, .int 0]) (rest := []) X hW (c_X2_hasHead l G X.2.2.2.2.2.2.2.2.2.1 _ S19 25 v2 0 8 0 _ h23) (va_cwS 4 X.2.2.2.2.1 (gS gw823 gw824 gw267 gw825) rfl rfl rfl hd_X2_hasHead ⟨Nat.le_of_ble_eq_true rfl, Nat.le_of_ble_eq_true rfl⟩) rfl hl.1 rfl (Nat.le_of_ble_eq_true rfl) dX11_takeSealed_160 ⟨Nat.zero_le _, Nat.zero_le _⟩) (fun H locs hW => ?_)
                  refine x_if_eq X (tgt := 170) dX11_takeSealed_163 (by decide) h (fun h => ?_) (fun h => ?_)
                  · exact w_X11_takeSealed_170 X    hW (lv_sub hl [] rfl) h
                  · refine lv_iconst (v := 1) X.1 X.2.1 dX11_takeSealed_166 rfl ?_
                    refine lv_goto (tgt := 171) X.1 X.2.1 dX11_takeSealed_167 (by decide) ?_
                    exact x_zret X hW h rfl dX11_takeSealed_171
              · refine lv_iconst (v := 0) X.1 X.2.1 dX11_takeSealed_136 rfl ?_
                exact x_zret X hW h rfl dX11_takeSealed_137
            · refine lv_aload_n X.1 X.2.1 dX11_takeSealed_116 rfl (lv_at hl 3 rfl) ?_
              refine lv_dup X.1 X.2.1 dX11_takeSealed_117 rfl ?_
              refine x_getI X hW fd_Node_droppedSealed (fun w h => List.mem_cons_of_mem _ (gin_X7 w h)) (List.mem_cons_of_mem _ gw800) qv1 dX11_takeSealed_118 h (fun x24 h => ?_)
              refine lv_iconst (v := 1) X.1 X.2.1 dX11_takeSealed_121 rfl ?_
              refine lv_iadd X.1 X.2.1 dX11_takeSealed_122 ?_
              refine x_putI X hW fd_Node_droppedSealed (fun w h => List.mem_cons_of_mem _ (gin_X7 w h)) (List.mem_cons_of_mem _ gw800) qv1 dX11_takeSealed_123 tyX7 tyX7_ok nmX7 rfl rfl rfl h (fun S25 H locs h hW => ?_)
              refine lv_iconst (v := 0) X.1 X.2.1 dX11_takeSealed_126 rfl ?_
              exact x_zret X hW h rfl dX11_takeSealed_127
          · exact w_X11_takeSealed_81 X v1 qv1  hW (lv_sub hl [3] rfl) h
      · exact w_X11_takeSealed_36 X v1 qv1  hW (lv_sub hl [2] rfl) h
theorem c_X11_takeSealed (l : Launch) (G : xG) (hD : xD G false) (sz : Nat) (S : Mm) (v1 : Nat) (v2 : Nat) (cv3 : Nat) (v3 : Nat) (o : Int32 × Mm) (h : F_X11_takeSealed v1 v2 cv3 v3 S = some o) : Met l yX11_takeSealed wsX11_takeSealed rmX11_takeSealed (xPre G false S sz [.ref (G.2.2 10 0), .ref (G.2.2 6 v1), .ref (G.2.2 3 v2), .ref (G.2.2 cv3 v3)]) (xQi G false sz o) 0 0 (XA G false sz) :=
  x_start hD (by decide) rfl (Nat.le_of_ble_eq_true rfl) (fun p e s m below meth c X hW ls hl => w_X11_takeSealed_0 X v1 v2 cv3 v3 hW hl h)

/-! WirelessCell.queueForward(IILWirelessCell$Link;)V -/
def rmX11_queueForward : Room := { frames := 2, cells := 0, slots := 0, locals := 47 }
def F_X11_queueForward (v1 : Int32) (v2 : Int32) (v3 : Nat) (S : Mm) : Option (Unit × Mm) :=
  gd (v3 < 18) (
  cl (F_X11_openMessage 0 v1 8 S) fun r1 S2 =>
  nu r1 108 (
  some ((), S2)) fun i4 =>
  pf S2 84 i4 1 fun S5 =>
  pf S5 83 i4 v2 fun S6 =>
  gf S6 70 v3 fun x7 =>
  pf S6 80 i4 x7 fun S8 =>
  gf S8 70 v3 fun x9 =>
  cpP false S8 25 v3 0 36 i4 0 x9 fun S10 =>
  some ((), S10))
set_option maxRecDepth 100000 in
set_option maxHeartbeats 4000000 in
theorem w_X11_queueForward_0 {p : Program} {l : Launch} {e : Env} {s : State} {m : MethodId} {args : Array Value} {below : List Frame} {meth : Method} {c : Code} {G : xG} {sz : Nat} {o : Unit × Mm} (X : xC G false sz p s m args c cX11_queueForward 5 wsX11_queueForward RX11 meth none) (v1 : Int32) (v2 : Int32) (v3 : Nat) {S : Mm} {H : Heap} {locs : List Loc} {ls : Array Slot} (hW : xW G false sz s H locs S) (hl : lv_has ls 5 [(0, .ref (G.2.2 10 0)), (1, .int v1), (2, .int v2), (3, .ref (G.2.2 3 v3))]) (h : F_X11_queueForward v1 v2 v3 S = some o) : wX p l e rmX11_queueForward s m args below meth c H locs (xQv G false sz o) (XA G false sz) 0 ls [] := by
  unfold F_X11_queueForward at h
  obtain ⟨qv3, h⟩ := if_some h
  refine lv_aload_n X.1 X.2.1 dX11_queueForward_0 rfl (lv_at hl 0 rfl) ?_
  refine lv_iconst (v := 0) X.1 X.2.1 dX11_queueForward_1 rfl ?_
  refine lv_iload_n X.1 X.2.1 dX11_queueForward_2 rfl (lv_at hl 1 rfl) ?_
  refine lv_bipush (v := 8) X.1 X.2.1 dX11_queueForward_3 rfl ?_
  obtain ⟨r1, S2, h3, h⟩ := cl_some h
  refine x_aftQ X hW (x_runV (C := RX11) (a := G.2.2 10 0) (As := [.int 0, .int v1, .int 8]) (rest := []) X hW (c_X11_openMessage l G X.2.2.2.2.2.2.2.2.2.1 _ S 0 v1 8 _ h3) (cwV 3 X.2.2.2.2.1 (gV gw486 gw487 gw488 gw2 gw489) rfl rfl rfl ⟨rfl, hd_X11_openMessage⟩ ⟨Nat.le_of_ble_eq_true rfl, Nat.le_of_ble_eq_true rfl⟩) (x_recv X hW ob_Cell z_1) rfl hl.1 rfl (Nat.le_of_ble_eq_true rfl) dX11_queueForward_5 ⟨Nat.zero_le _, Nat.zero_le _⟩) (fun H locs hW => ?_)
  refine x_nu h (fun h => ?_) (fun i4 qi4 h => ?_)
  · refine lv_astoreN (lv' := [(4, .null), (0, .ref (G.2.2 10 0)), (1, .int v1), (2, .int v2), (3, .ref (G.2.2 3 v3))]) X.1 X.2.1 dX11_queueForward_8 hl (by decide) rfl (fun ls hl => ?_)
    refine lv_aloadN X.1 X.2.1 dX11_queueForward_10 (lv_at hl 0 rfl) ?_
    refine lv_ifnonnullN X.1 X.2.1 dX11_queueForward_12 ?_
    exact x_vret X hW h dX11_queueForward_15
  · refine lv_astore (lv' := [(4, .ref (G.2.2 5 i4)), (0, .ref (G.2.2 10 0)), (1, .int v1), (2, .int v2), (3, .ref (G.2.2 3 v3))]) X.1 X.2.1 dX11_queueForward_8 hl (by decide) rfl (fun ls hl => ?_)
    refine lv_aload X.1 X.2.1 dX11_queueForward_10 (lv_at hl 0 rfl) ?_
    refine lv_ifnonnull (tgt := 16) X.1 X.2.1 dX11_queueForward_12 (by decide) ?_
    refine lv_aload X.1 X.2.1 dX11_queueForward_16 (lv_at hl 0 rfl) ?_
    refine lv_iconst (v := 1) X.1 X.2.1 dX11_queueForward_18 rfl ?_
    refine x_putI X hW fd_Message_sealed (fun w h => List.mem_cons_of_mem _ (gin_X6 w h)) (List.mem_cons_of_mem _ gw495) qi4 dX11_queueForward_19 tyX6 tyX6_ok nmX6 rfl rfl rfl h (fun S5 H locs h hW => ?_)
    refine lv_aload X.1 X.2.1 dX11_queueForward_22 (lv_at hl 0 rfl) ?_
    refine lv_iload_n X.1 X.2.1 dX11_queueForward_24 rfl (lv_at hl 3 rfl) ?_
    refine x_putI X hW fd_Message_third (fun w h => List.mem_cons_of_mem _ (gin_X6 w h)) (List.mem_cons_of_mem _ gw494) qi4 dX11_queueForward_25 tyX6 tyX6_ok nmX6 rfl rfl rfl h (fun S6 H locs h hW => ?_)
    refine lv_aload X.1 X.2.1 dX11_queueForward_28 (lv_at hl 0 rfl) ?_
    refine lv_aload_n X.1 X.2.1 dX11_queueForward_30 rfl (lv_at hl 4 rfl) ?_
    refine x_getI X hW fd_Link_length (fun w h => List.mem_cons_of_mem _ (gin_X4 w h)) (List.mem_cons_of_mem _ gw804) qv3 dX11_queueForward_31 h (fun x7 h => ?_)
    refine x_putI X hW fd_Message_length (fun w h => List.mem_cons_of_mem _ (gin_X6 w h)) (List.mem_cons_of_mem _ gw485) qi4 dX11_queueForward_34 tyX6 tyX6_ok nmX6 rfl rfl rfl h (fun S8 H locs h hW => ?_)
    refine lv_aload_n X.1 X.2.1 dX11_queueForward_37 rfl (lv_at hl 4 rfl) ?_
    refine x_getR X hW fd_Link_bytes (fun w h => List.mem_cons_of_mem _ (gin_X4 w h)) (List.mem_cons_of_mem _ gw805) qv3 dX11_queueForward_38 ?_
    refine lv_iconst (v := 0) X.1 X.2.1 dX11_queueForward_41 rfl ?_
    refine lv_aload X.1 X.2.1 dX11_queueForward_42 (lv_at hl 0 rfl) ?_
    refine x_getR X hW fd_Message_bytes (fun w h => List.mem_cons_of_mem _ (gin_X6 w h)) (List.mem_cons_of_mem _ gw484) qi4 dX11_queueForward_44 ?_
    refine lv_iconst (v := 0) X.1 X.2.1 dX11_queueForward_47 rfl ?_
    refine lv_aload_n X.1 X.2.1 dX11_queueForward_48 rfl (lv_at hl 4 rfl) ?_
    refine x_getI X hW fd_Link_length (fun w h => List.mem_cons_of_mem _ (gin_X4 w h)) (List.mem_cons_of_mem _ gw804) qv3 dX11_queueForward_49 h (fun x9 h => ?_)
    refine x_acopy X hW hl.1 (List.mem_cons_of_mem _ gw324) (List.mem_cons_of_mem _ gw325) (List.mem_cons_of_mem _ gw326) (List.mem_cons_of_mem _ gw327) (Nat.le_of_ble_eq_true rfl) (Nat.le_of_ble_eq_true rfl) dX11_queueForward_52 h (fun S10 H locs h hW => ?_)
    exact x_vret X hW h dX11_queueForward_55
theorem c_X11_queueForward (l : Launch) (G : xG) (hD : xD G false) (sz : Nat) (S : Mm) (v1 : Int32) (v2 : Int32) (v3 : Nat) (o : Unit × Mm) (h : F_X11_queueForward v1 v2 v3 S = some o) : Met l yX11_queueForward wsX11_queueForward rmX11_queueForward (xPre G false S sz [.ref (G.2.2 10 0), .int v1, .int v2, .ref (G.2.2 3 v3)]) (xQv G false sz o) 0 0 (XA G false sz) :=
  x_start hD (by decide) rfl (Nat.le_of_ble_eq_true rfl) (fun p e s m below meth c X hW ls hl => w_X11_queueForward_0 X v1 v2 v3 hW hl h)

/-! WirelessCell.passOn(IILWirelessCell$Link;I)V -/
def rmX11_passOn : Room := { frames := 3, cells := 0, slots := 0, locals := 71 }
def F_X11_passOn (v1 : Int32) (v2 : Int32) (v3 : Nat) (v4 : Int32) (S : Mm) : Option (Unit × Mm) :=
  gd (v3 < 18) (
  if v1 = 0 then (
  if v4 = 0 then (
  ldR S 52 0 9 1 0 9 fun i6 =>
  gf S 70 v3 fun x7 =>
  cl (F_X3_addLast i6 v2 25 v3 x7 S) fun r8 S9 =>
  some ((), S9))
  else (
  if v4 = (-1) then (
  some ((), S))
  else (
  if v4 = v2 then (
  some ((), S))
  else (
  ldR S 54 0 9 1 v4 18 fun i1 =>
  gf S 62 i1 fun x2 =>
  if x2 = 4 then (
  cl (F_X11_queueForward v4 v2 v3 S) fun r3 S4 =>
  some ((), S4))
  else (
  some ((), S))))))
  else (
  if v4 = (-1) then (
  some ((), S))
  else (
  ldR S 52 0 9 1 v1 9 fun i11 =>
  gf S 70 v3 fun x12 =>
  cl (F_X3_addLast i11 v4 25 v3 x12 S) fun r13 S14 =>
  some ((), S14))))
set_option maxRecDepth 100000 in
set_option maxHeartbeats 4000000 in
theorem w_X11_passOn_0 {p : Program} {l : Launch} {e : Env} {s : State} {m : MethodId} {args : Array Value} {below : List Frame} {meth : Method} {c : Code} {G : xG} {sz : Nat} {o : Unit × Mm} (X : xC G false sz p s m args c cX11_passOn 5 wsX11_passOn RX11 meth none) (v1 : Int32) (v2 : Int32) (v3 : Nat) (v4 : Int32) {S : Mm} {H : Heap} {locs : List Loc} {ls : Array Slot} (hW : xW G false sz s H locs S) (hl : lv_has ls 5 [(0, .ref (G.2.2 10 0)), (1, .int v1), (2, .int v2), (3, .ref (G.2.2 3 v3)), (4, .int v4)]) (h : F_X11_passOn v1 v2 v3 v4 S = some o) : wX p l e rmX11_passOn s m args below meth c H locs (xQv G false sz o) (XA G false sz) 0 ls [] := by
  unfold F_X11_passOn at h
  obtain ⟨qv3, h⟩ := if_some h
  refine lv_iload_n X.1 X.2.1 dX11_passOn_0 rfl (lv_at hl 1 rfl) ?_
  refine x_if_eq X (tgt := 35) dX11_passOn_1 (by decide) h (fun h => ?_) (fun h => ?_)
  · refine lv_iload X.1 X.2.1 dX11_passOn_35 (lv_at hl 4 rfl) ?_
    refine x_if_ne X (tgt := 64) dX11_passOn_37 (by decide) h (fun h => ?_) (fun h => ?_)
    · refine lv_iload X.1 X.2.1 dX11_passOn_64 (lv_at hl 4 rfl) ?_
      refine lv_iconst (v := (-1)) X.1 X.2.1 dX11_passOn_66 rfl ?_
      refine x_icmp_eq X (tgt := 98) dX11_passOn_67 (by decide) h (fun h => ?_) (fun h => ?_)
      · exact x_vret X hW h dX11_passOn_98
      · refine lv_iload X.1 X.2.1 dX11_passOn_70 (lv_at hl 4 rfl) ?_
        refine lv_iload_n X.1 X.2.1 dX11_passOn_72 rfl (lv_at hl 2 rfl) ?_
        refine x_icmp_eq X (tgt := 98) dX11_passOn_73 (by decide) h (fun h => ?_) (fun h => ?_)
        · exact x_vret X hW h dX11_passOn_98
        · refine lv_aload_n X.1 X.2.1 dX11_passOn_76 rfl (lv_at hl 0 rfl) ?_
          refine x_getR X hW fd_Cell_byAp (fun w h => List.mem_cons_of_mem _ (gin_X11 w h)) (List.mem_cons_of_mem _ gw17) z_1 dX11_passOn_77 ?_
          refine lv_iload X.1 X.2.1 dX11_passOn_80 (lv_at hl 4 rfl) ?_
          refine x_aald X hW ar_54 (ct := 3) rfl (at_54 G) rfl dX11_passOn_82 h (fun i1 qi1 h => ?_)
          refine x_getI X hW fd_Link_state (fun w h => List.mem_cons_of_mem _ (gin_X4 w h)) (List.mem_cons_of_mem _ gw571) qi1 dX11_passOn_83 h (fun x2 h => ?_)
          refine lv_iconst (v := 4) X.1 X.2.1 dX11_passOn_86 rfl ?_
          refine x_icmp_ne X (tgt := 98) dX11_passOn_87 (by decide) h (fun h => ?_) (fun h => ?_)
          · exact x_vret X hW h dX11_passOn_98
          · refine lv_aload_n X.1 X.2.1 dX11_passOn_90 rfl (lv_at hl 0 rfl) ?_
            refine lv_iload X.1 X.2.1 dX11_passOn_91 (lv_at hl 4 rfl) ?_
            refine lv_iload_n X.1 X.2.1 dX11_passOn_93 rfl (lv_at hl 2 rfl) ?_
            refine lv_aload_n X.1 X.2.1 dX11_passOn_94 rfl (lv_at hl 3 rfl) ?_
            obtain ⟨r3, S4, h5, h⟩ := cl_some h
            refine x_aftV X hW (x_runV (C := RX11) (a := G.2.2 10 0) (As := [.int v4, .int v2, .ref (G.2.2 3 v3)]) (rest := []) X hW (c_X11_queueForward l G X.2.2.2.2.2.2.2.2.2.1 _ S v4 v2 v3 _ h5) (cwV 3 X.2.2.2.2.1 (gV gw840 gw841 gw842 gw2 gw843) rfl rfl rfl ⟨rfl, hd_X11_queueForward⟩ ⟨Nat.le_of_ble_eq_true rfl, Nat.le_of_ble_eq_true rfl⟩) (x_recv X hW ob_Cell z_1) rfl hl.1 rfl (Nat.le_of_ble_eq_true rfl) dX11_passOn_95 ⟨Nat.zero_le _, Nat.zero_le _⟩) (fun H locs hW => ?_)
            exact x_vret X hW h dX11_passOn_98
    · refine lv_aload_n X.1 X.2.1 dX11_passOn_40 rfl (lv_at hl 0 rfl) ?_
      refine x_getR X hW fd_Cell_nodes (fun w h => List.mem_cons_of_mem _ (gin_X11 w h)) (List.mem_cons_of_mem _ gw14) z_1 dX11_passOn_41 ?_
      refine lv_iconst (v := 0) X.1 X.2.1 dX11_passOn_44 rfl ?_
      refine x_aald X hW ar_52 (ct := 6) rfl (at_52 G) rfl dX11_passOn_45 h (fun i6 qi6 h => ?_)
      refine x_getR X hW fd_Node_inbox (fun w h => List.mem_cons_of_mem _ (gin_X7 w h)) (List.mem_cons_of_mem _ gw833) qi6 dX11_passOn_46 ?_
      refine lv_iload_n X.1 X.2.1 dX11_passOn_49 rfl (lv_at hl 2 rfl) ?_
      refine lv_aload_n X.1 X.2.1 dX11_passOn_50 rfl (lv_at hl 3 rfl) ?_
      refine x_getR X hW fd_Link_bytes (fun w h => List.mem_cons_of_mem _ (gin_X4 w h)) (List.mem_cons_of_mem _ gw805) qv3 dX11_passOn_51 ?_
      refine lv_aload_n X.1 X.2.1 dX11_passOn_54 rfl (lv_at hl 3 rfl) ?_
      refine x_getI X hW fd_Link_length (fun w h => List.mem_cons_of_mem _ (gin_X4 w h)) (List.mem_cons_of_mem _ gw804) qv3 dX11_passOn_55 h (fun x7 h => ?_)
      obtain ⟨r8, S9, h10, h⟩ := cl_some h
      refine x_aftV X hW (x_runV (C := RX3) (a := G.2.2 2 i6) (As := [.int v2, .ref (G.2.2 25 v3), .int x7]) (rest := []) X hW (c_X3_addLast l G X.2.2.2.2.2.2.2.2.2.1 _ S i6 v2 25 v3 x7 _ h10) (cwV 3 X.2.2.2.2.1 (gV gw834 gw835 gw836 gw104 gw837) rfl rfl rfl ⟨rfl, hd_X3_addLast⟩ ⟨Nat.le_of_ble_eq_true rfl, Nat.le_of_ble_eq_true rfl⟩) (x_recv X hW ob_Inbox qi6) rfl hl.1 rfl (Nat.le_of_ble_eq_true rfl) dX11_passOn_58 ⟨Nat.zero_le _, Nat.zero_le _⟩) (fun H locs hW => ?_)
      refine lv_goto (tgt := 98) X.1 X.2.1 dX11_passOn_61 (by decide) ?_
      exact x_vret X hW h dX11_passOn_98
  · refine lv_iload X.1 X.2.1 dX11_passOn_4 (lv_at hl 4 rfl) ?_
    refine lv_iconst (v := (-1)) X.1 X.2.1 dX11_passOn_6 rfl ?_
    refine x_icmp_eq X (tgt := 98) dX11_passOn_7 (by decide) h (fun h => ?_) (fun h => ?_)
    · exact x_vret X hW h dX11_passOn_98
    · refine lv_aload_n X.1 X.2.1 dX11_passOn_10 rfl (lv_at hl 0 rfl) ?_
      refine x_getR X hW fd_Cell_nodes (fun w h => List.mem_cons_of_mem _ (gin_X11 w h)) (List.mem_cons_of_mem _ gw14) z_1 dX11_passOn_11 ?_
      refine lv_iload_n X.1 X.2.1 dX11_passOn_14 rfl (lv_at hl 1 rfl) ?_
      refine x_aald X hW ar_52 (ct := 6) rfl (at_52 G) rfl dX11_passOn_15 h (fun i11 qi11 h => ?_)
      refine x_getR X hW fd_Node_inbox (fun w h => List.mem_cons_of_mem _ (gin_X7 w h)) (List.mem_cons_of_mem _ gw833) qi11 dX11_passOn_16 ?_
      refine lv_iload X.1 X.2.1 dX11_passOn_19 (lv_at hl 4 rfl) ?_
      refine lv_aload_n X.1 X.2.1 dX11_passOn_21 rfl (lv_at hl 3 rfl) ?_
      refine x_getR X hW fd_Link_bytes (fun w h => List.mem_cons_of_mem _ (gin_X4 w h)) (List.mem_cons_of_mem _ gw805) qv3 dX11_passOn_22 ?_
      refine lv_aload_n X.1 X.2.1 dX11_passOn_25 rfl (lv_at hl 3 rfl) ?_
      refine x_getI X hW fd_Link_length (fun w h => List.mem_cons_of_mem _ (gin_X4 w h)) (List.mem_cons_of_mem _ gw804) qv3 dX11_passOn_26 h (fun x12 h => ?_)
      obtain ⟨r13, S14, h15, h⟩ := cl_some h
      refine x_aftV X hW (x_runV (C := RX3) (a := G.2.2 2 i11) (As := [.int v4, .ref (G.2.2 25 v3), .int x12]) (rest := []) X hW (c_X3_addLast l G X.2.2.2.2.2.2.2.2.2.1 _ S i11 v4 25 v3 x12 _ h15) (cwV 3 X.2.2.2.2.1 (gV gw834 gw835 gw836 gw104 gw837) rfl rfl rfl ⟨rfl, hd_X3_addLast⟩ ⟨Nat.le_of_ble_eq_true rfl, Nat.le_of_ble_eq_true rfl⟩) (x_recv X hW ob_Inbox qi11) rfl hl.1 rfl (Nat.le_of_ble_eq_true rfl) dX11_passOn_29 ⟨Nat.zero_le _, Nat.zero_le _⟩) (fun H locs hW => ?_)
      refine lv_goto (tgt := 98) X.1 X.2.1 dX11_passOn_32 (by decide) ?_
      exact x_vret X hW h dX11_passOn_98
theorem c_X11_passOn (l : Launch) (G : xG) (hD : xD G false) (sz : Nat) (S : Mm) (v1 : Int32) (v2 : Int32) (v3 : Nat) (v4 : Int32) (o : Unit × Mm) (h : F_X11_passOn v1 v2 v3 v4 S = some o) : Met l yX11_passOn wsX11_passOn rmX11_passOn (xPre G false S sz [.ref (G.2.2 10 0), .int v1, .int v2, .ref (G.2.2 3 v3), .int v4]) (xQv G false sz o) 0 0 (XA G false sz) :=
  x_start hD (by decide) rfl (Nat.le_of_ble_eq_true rfl) (fun p e s m below meth c X hW ls hl => w_X11_passOn_0 X v1 v2 v3 v4 hW hl h)

/-! WirelessCell.hasRightMic([II[I)Z -/
def rmX11_hasRightMic : Room := { frames := 4, cells := 0, slots := 0, locals := 95 }
def F_X11_hasRightMic (cv1 : Nat) (v1 : Nat) (v2 : Int32) (cv3 : Nat) (v3 : Nat) (S : Mm) : Option (Int32 × Mm) :=
  cl (F_X10_hashKeyed cv3 v3 16 cv1 v1 32 (v2 - 32) S) fun r1 S2 =>
  cl (F_X2_sameBytes cv1 v1 v2 46 0 0 16 S2) fun r4 S5 =>
  gd (r4 &&& 1 = r4) (some (r4, S5))
set_option maxRecDepth 100000 in
set_option maxHeartbeats 4000000 in
theorem w_X11_hasRightMic_0 {p : Program} {l : Launch} {e : Env} {s : State} {m : MethodId} {args : Array Value} {below : List Frame} {meth : Method} {c : Code} {G : xG} {sz : Nat} {o : Int32 × Mm} (X : xC G false sz p s m args c cX11_hasRightMic 4 wsX11_hasRightMic RX11 meth (some .boolean)) (cv1 : Nat) (v1 : Nat) (v2 : Int32) (cv3 : Nat) (v3 : Nat) {S : Mm} {H : Heap} {locs : List Loc} {ls : Array Slot} (hW : xW G false sz s H locs S) (hl : lv_has ls 4 [(0, .ref (G.2.2 10 0)), (1, .ref (G.2.2 cv1 v1)), (2, .int v2), (3, .ref (G.2.2 cv3 v3))]) (h : F_X11_hasRightMic cv1 v1 v2 cv3 v3 S = some o) : wX p l e rmX11_hasRightMic s m args below meth c H locs (xQi G false sz o) (XA G false sz) 0 ls [] := by
  unfold F_X11_hasRightMic at h
  refine lv_aload_n X.1 X.2.1 dX11_hasRightMic_0 rfl (lv_at hl 0 rfl) ?_
  refine x_getR X hW fd_Cell_sha (fun w h => List.mem_cons_of_mem _ (gin_X11 w h)) (List.mem_cons_of_mem _ gw33) z_1 dX11_hasRightMic_1 ?_
  refine lv_aload_n X.1 X.2.1 dX11_hasRightMic_4 rfl (lv_at hl 3 rfl) ?_
  refine lv_bipush (v := 16) X.1 X.2.1 dX11_hasRightMic_5 rfl ?_
  refine lv_aload_n X.1 X.2.1 dX11_hasRightMic_7 rfl (lv_at hl 1 rfl) ?_
  refine lv_bipush (v := 32) X.1 X.2.1 dX11_hasRightMic_8 rfl ?_
  refine lv_iload_n X.1 X.2.1 dX11_hasRightMic_10 rfl (lv_at hl 2 rfl) ?_
  refine lv_bipush (v := 32) X.1 X.2.1 dX11_hasRightMic_11 rfl ?_
  refine lv_isub X.1 X.2.1 dX11_hasRightMic_13 ?_
  obtain ⟨r1, S2, h3, h⟩ := cl_some h
  refine x_aftV X hW (x_runV (C := RX10) (a := G.2.2 9 0) (As := [.ref (G.2.2 cv3 v3), .int 16, .ref (G.2.2 cv1 v1), .int 32, .int (v2 - 32)]) (rest := []) X hW (c_X10_hashKeyed l G X.2.2.2.2.2.2.2.2.2.1 _ S cv3 v3 16 cv1 v1 32 (v2 - 32) _ h3) (cwV 5 X.2.2.2.2.1 (gV gw947 gw911 gw912 gw32 gw913) rfl rfl rfl ⟨rfl, hd_X10_hashKeyed⟩ ⟨Nat.le_of_ble_eq_true rfl, Nat.le_of_ble_eq_true rfl⟩) (x_recv X hW ob_Sha z_1) rfl hl.1 rfl (Nat.le_of_ble_eq_true rfl) dX11_hasRightMic_14 ⟨Nat.zero_le _, Nat.zero_le _⟩) (fun H locs hW => ?_)
  refine lv_aload_n X.1 X.2.1 dX11_hasRightMic_17 rfl (lv_at hl 1 rfl) ?_
  refine lv_iload_n X.1 X.2.1 dX11_hasRightMic_18 rfl (lv_at hl 2 rfl) ?_
  refine lv_aload_n X.1 X.2.1 dX11_hasRightMic_19 rfl (lv_at hl 0 rfl) ?_
  refine x_getR X hW fd_Cell_sha (fun w h => List.mem_cons_of_mem _ (gin_X11 w h)) (List.mem_cons_of_mem _ gw33) z_1 dX11_hasRightMic_20 ?_
  refine x_getR X hW fd_Sha_digest (fun w h => List.mem_cons_of_mem _ (gin_X10 w h)) (List.mem_cons_of_mem _ gw946) z_1 dX11_hasRightMic_23 ?_
  refine lv_iconst (v := 0) X.1 X.2.1 dX11_hasRightMic_26 rfl ?_
  refine lv_bipush (v := 16) X.1 X.2.1 dX11_hasRightMic_27 rfl ?_
  obtain ⟨r4, S5, h6, h⟩ := cl_some h
  refine x_aftI X hW (x_runS (As := [.ref (G.2.2 cv1 v1), .int v2, .ref (G.2.2 46 0), .int 0, .int 16]) (rest := []) X hW (c_X2_sameBytes l G X.2.2.2.2.2.2.2.2.2.1 _ S2 cv1 v1 v2 46 0 0 16 _ h6) (va_cwS 5 X.2.2.2.2.1 (gS gw948 gw827 gw267 gw828) rfl rfl rfl hd_X2_sameBytes ⟨Nat.le_of_ble_eq_true rfl, Nat.le_of_ble_eq_true rfl⟩) rfl hl.1 rfl (Nat.le_of_ble_eq_true rfl) dX11_hasRightMic_29 ⟨Nat.zero_le _, Nat.zero_le _⟩) (fun H locs hW => ?_)
  obtain ⟨g7, h⟩ := if_some h
  exact x_zret X hW h g7 dX11_hasRightMic_32
theorem c_X11_hasRightMic (l : Launch) (G : xG) (hD : xD G false) (sz : Nat) (S : Mm) (cv1 : Nat) (v1 : Nat) (v2 : Int32) (cv3 : Nat) (v3 : Nat) (o : Int32 × Mm) (h : F_X11_hasRightMic cv1 v1 v2 cv3 v3 S = some o) : Met l yX11_hasRightMic wsX11_hasRightMic rmX11_hasRightMic (xPre G false S sz [.ref (G.2.2 10 0), .ref (G.2.2 cv1 v1), .int v2, .ref (G.2.2 cv3 v3)]) (xQi G false sz o) 0 0 (XA G false sz) :=
  x_start hD (by decide) rfl (Nat.le_of_ble_eq_true rfl) (fun p e s m below meth c X hW ls hl => w_X11_hasRightMic_0 X cv1 v1 v2 cv3 v3 hW hl h)

/-! WirelessCell.queueHand(III[I)V -/
def rmX11_queueHand : Room := { frames := 4, cells := 0, slots := 0, locals := 95 }
def L_X11_queueHand_116  (v5 : Nat) (v7 : Int32) (S : Mm) : Option (Unit × Mm) :=
  pf S 80 v5 v7 fun S15 =>
  some ((), S15)
def L_X11_queueHand_71  (v3 : Int32) (cv4 : Nat) (v4 : Nat) (v5 : Nat) (v6 : Nat) (v7 : Int32) (S : Mm) : Option (Unit × Mm) :=
  if v3 = 1 then (
  L_X11_queueHand_116  v5 v7 S)
  else (
  cl (F_X10_hashKeyed cv4 v4 16 36 v6 8 (v7 - 8) S) fun r11 S12 =>
  cpP false S12 46 0 0 36 v6 v7 16 fun S14 =>
  L_X11_queueHand_116  v5 (v7 + 16) S14)
def F_X11_queueHand (v1 : Int32) (v2 : Int32) (v3 : Int32) (cv4 : Nat) (v4 : Nat) (S : Mm) : Option (Unit × Mm) :=
  cl (F_X11_openMessage v1 v2 8 S) fun r1 S2 =>
  nu r1 108 (
  some ((), S2)) fun i4 =>
  cl (F_X2_writeHead 36 i4 136 142 S2) fun r5 S6 =>
  stA S6 36 i4 208 108 8 v3 fun S8 =>
  if v3 = 4 then (
  L_X11_queueHand_71  v3 cv4 v4 i4 i4 9 S8)
  else (
  ldR S8 52 0 9 1 v1 9 fun i9 =>
  cpP false S8 37 i9 0 36 i4 9 32 fun S10 =>
  L_X11_queueHand_71  v3 cv4 v4 i4 i4 (9 + 32) S10)
set_option maxRecDepth 100000 in
set_option maxHeartbeats 4000000 in
theorem w_X11_queueHand_116 {p : Program} {l : Launch} {e : Env} {s : State} {m : MethodId} {args : Array Value} {below : List Frame} {meth : Method} {c : Code} {G : xG} {sz : Nat} {o : Unit × Mm} (X : xC G false sz p s m args c cX11_queueHand 8 wsX11_queueHand RX11 meth none) (v5 : Nat) (v7 : Int32) (qv5 : v5 < 108)  {S : Mm} {H : Heap} {locs : List Loc} {ls : Array Slot} (hW : xW G false sz s H locs S) (hl : lv_has ls 8 [(5, .ref (G.2.2 5 v5)), (7, .int v7)]) (h : L_X11_queueHand_116  v5 v7 S = some o) : wX p l e rmX11_queueHand s m args below meth c H locs (xQv G false sz o) (XA G false sz) 116 ls [] := by
  unfold L_X11_queueHand_116 at h
  refine lv_aload X.1 X.2.1 dX11_queueHand_116 (lv_at hl 0 rfl) ?_
  refine lv_iload X.1 X.2.1 dX11_queueHand_118 (lv_at hl 1 rfl) ?_
  refine x_putI X hW fd_Message_length (fun w h => List.mem_cons_of_mem _ (gin_X6 w h)) (List.mem_cons_of_mem _ gw485) qv5 dX11_queueHand_120 tyX6 tyX6_ok nmX6 rfl rfl rfl h (fun S15 H locs h hW => ?_)
  exact x_vret X hW h dX11_queueHand_123
set_option maxRecDepth 100000 in
set_option maxHeartbeats 4000000 in
theorem w_X11_queueHand_71 {p : Program} {l : Launch} {e : Env} {s : State} {m : MethodId} {args : Array Value} {below : List Frame} {meth : Method} {c : Code} {G : xG} {sz : Nat} {o : Unit × Mm} (X : xC G false sz p s m args c cX11_queueHand 8 wsX11_queueHand RX11 meth none) (v3 : Int32) (cv4 : Nat) (v4 : Nat) (v5 : Nat) (v6 : Nat) (v7 : Int32) (qv5 : v5 < 108)  {S : Mm} {H : Heap} {locs : List Loc} {ls : Array Slot} (hW : xW G false sz s H locs S) (hl : lv_has ls 8 [(0, .ref (G.2.2 10 0)), (3, .int v3), (4, .ref (G.2.2 cv4 v4)), (5, .ref (G.2.2 5 v5)), (6, .ref (G.2.2 36 v6)), (7, .int v7)]) (h : L_X11_queueHand_71  v3 cv4 v4 v5 v6 v7 S = some o) : wX p l e rmX11_queueHand s m args below meth c H locs (xQv G false sz o) (XA G false sz) 71 ls [] := by
  unfold L_X11_queueHand_71 at h
  refine lv_iload_n X.1 X.2.1 dX11_queueHand_71 rfl (lv_at hl 1 rfl) ?_
  refine lv_iconst (v := 1) X.1 X.2.1 dX11_queueHand_72 rfl ?_
  refine x_icmp_eq X (tgt := 116) dX11_queueHand_73 (by decide) h (fun h => ?_) (fun h => ?_)
  · exact w_X11_queueHand_116 X v5 v7 qv5  hW (lv_sub hl [3, 5] rfl) h
  · refine lv_aload_n X.1 X.2.1 dX11_queueHand_76 rfl (lv_at hl 0 rfl) ?_
    refine x_getR X hW fd_Cell_sha (fun w h => List.mem_cons_of_mem _ (gin_X11 w h)) (List.mem_cons_of_mem _ gw33) z_1 dX11_queueHand_77 ?_
    refine lv_aload X.1 X.2.1 dX11_queueHand_80 (lv_at hl 2 rfl) ?_
    refine lv_bipush (v := 16) X.1 X.2.1 dX11_queueHand_82 rfl ?_
    refine lv_aload X.1 X.2.1 dX11_queueHand_84 (lv_at hl 4 rfl) ?_
    refine lv_bipush (v := 8) X.1 X.2.1 dX11_queueHand_86 rfl ?_
    refine lv_iload X.1 X.2.1 dX11_queueHand_88 (lv_at hl 5 rfl) ?_
    refine lv_bipush (v := 8) X.1 X.2.1 dX11_queueHand_90 rfl ?_
    refine lv_isub X.1 X.2.1 dX11_queueHand_92 ?_
    obtain ⟨r11, S12, h13, h⟩ := cl_some h
    refine x_aftV X hW (x_runV (C := RX10) (a := G.2.2 9 0) (As := [.ref (G.2.2 cv4 v4), .int 16, .ref (G.2.2 36 v6), .int 8, .int (v7 - 8)]) (rest := []) X hW (c_X10_hashKeyed l G X.2.2.2.2.2.2.2.2.2.1 _ S cv4 v4 16 36 v6 8 (v7 - 8) _ h13) (cwV 5 X.2.2.2.2.1 (gV gw947 gw911 gw912 gw32 gw913) rfl rfl rfl ⟨rfl, hd_X10_hashKeyed⟩ ⟨Nat.le_of_ble_eq_true rfl, Nat.le_of_ble_eq_true rfl⟩) (x_recv X hW ob_Sha z_1) rfl hl.1 rfl (Nat.le_of_ble_eq_true rfl) dX11_queueHand_93 ⟨Nat.zero_le _, Nat.zero_le _⟩) (fun H locs hW => ?_)
    refine lv_aload_n X.1 X.2.1 dX11_queueHand_96 rfl (lv_at hl 0 rfl) ?_
    refine x_getR X hW fd_Cell_sha (fun w h => List.mem_cons_of_mem _ (gin_X11 w h)) (List.mem_cons_of_mem _ gw33) z_1 dX11_queueHand_97 ?_
    refine x_getR X hW fd_Sha_digest (fun w h => List.mem_cons_of_mem _ (gin_X10 w h)) (List.mem_cons_of_mem _ gw946) z_1 dX11_queueHand_100 ?_
    refine lv_iconst (v := 0) X.1 X.2.1 dX11_queueHand_103 rfl ?_
    refine lv_aload X.1 X.2.1 dX11_queueHand_104 (lv_at hl 4 rfl) ?_
    refine lv_iload X.1 X.2.1 dX11_queueHand_106 (lv_at hl 5 rfl) ?_
    refine lv_bipush (v := 16) X.1 X.2.1 dX11_queueHand_108 rfl ?_
    refine x_acopy X hW hl.1 (List.mem_cons_of_mem _ gw324) (List.mem_cons_of_mem _ gw325) (List.mem_cons_of_mem _ gw326) (List.mem_cons_of_mem _ gw327) (Nat.le_of_ble_eq_true rfl) (Nat.le_of_ble_eq_true rfl) dX11_queueHand_110 h (fun S14 H locs h hW => ?_)
    refine lv_iinc (v := (v7 + 16)) (lv' := [(7, .int (v7 + 16)), (0, .ref (G.2.2 10 0)), (3, .int v3), (4, .ref (G.2.2 cv4 v4)), (5, .ref (G.2.2 5 v5)), (6, .ref (G.2.2 36 v6))]) X.1 X.2.1 dX11_queueHand_113 hl (k := 5) rfl rfl (by decide) rfl (fun ls hl => ?_)
    exact w_X11_queueHand_116 X v5 (v7 + 16) qv5  hW (lv_sub hl [4, 0] rfl) h
set_option maxRecDepth 100000 in
set_option maxHeartbeats 4000000 in
theorem w_X11_queueHand_0 {p : Program} {l : Launch} {e : Env} {s : State} {m : MethodId} {args : Array Value} {below : List Frame} {meth : Method} {c : Code} {G : xG} {sz : Nat} {o : Unit × Mm} (X : xC G false sz p s m args c cX11_queueHand 8 wsX11_queueHand RX11 meth none) (v1 : Int32) (v2 : Int32) (v3 : Int32) (cv4 : Nat) (v4 : Nat) {S : Mm} {H : Heap} {locs : List Loc} {ls : Array Slot} (hW : xW G false sz s H locs S) (hl : lv_has ls 8 [(0, .ref (G.2.2 10 0)), (1, .int v1), (2, .int v2), (3, .int v3), (4, .ref (G.2.2 cv4 v4))]) (h : F_X11_queueHand v1 v2 v3 cv4 v4 S = some o) : wX p l e rmX11_queueHand s m args below meth c H locs (xQv G false sz o) (XA G false sz) 0 ls [] := by
  unfold F_X11_queueHand at h
  refine lv_aload_n X.1 X.2.1 dX11_queueHand_0 rfl (lv_at hl 0 rfl) ?_
  refine lv_iload_n X.1 X.2.1 dX11_queueHand_1 rfl (lv_at hl 1 rfl) ?_
  refine lv_iload_n X.1 X.2.1 dX11_queueHand_2 rfl (lv_at hl 2 rfl) ?_
  refine lv_bipush (v := 8) X.1 X.2.1 dX11_queueHand_3 rfl ?_
  obtain ⟨r1, S2, h3, h⟩ := cl_some h
  refine x_aftQ X hW (x_runV (C := RX11) (a := G.2.2 10 0) (As := [.int v1, .int v2, .int 8]) (rest := []) X hW (c_X11_openMessage l G X.2.2.2.2.2.2.2.2.2.1 _ S v1 v2 8 _ h3) (cwV 3 X.2.2.2.2.1 (gV gw486 gw487 gw488 gw2 gw489) rfl rfl rfl ⟨rfl, hd_X11_openMessage⟩ ⟨Nat.le_of_ble_eq_true rfl, Nat.le_of_ble_eq_true rfl⟩) (x_recv X hW ob_Cell z_1) rfl hl.1 rfl (Nat.le_of_ble_eq_true rfl) dX11_queueHand_5 ⟨Nat.zero_le _, Nat.zero_le _⟩) (fun H locs hW => ?_)
  refine x_nu h (fun h => ?_) (fun i4 qi4 h => ?_)
  · refine lv_astoreN (lv' := [(5, .null), (0, .ref (G.2.2 10 0)), (1, .int v1), (2, .int v2), (3, .int v3), (4, .ref (G.2.2 cv4 v4))]) X.1 X.2.1 dX11_queueHand_8 hl (by decide) rfl (fun ls hl => ?_)
    refine lv_aloadN X.1 X.2.1 dX11_queueHand_10 (lv_at hl 0 rfl) ?_
    refine lv_ifnonnullN X.1 X.2.1 dX11_queueHand_12 ?_
    exact x_vret X hW h dX11_queueHand_15
  · refine lv_astore (lv' := [(5, .ref (G.2.2 5 i4)), (0, .ref (G.2.2 10 0)), (1, .int v1), (2, .int v2), (3, .int v3), (4, .ref (G.2.2 cv4 v4))]) X.1 X.2.1 dX11_queueHand_8 hl (by decide) rfl (fun ls hl => ?_)
    refine lv_aload X.1 X.2.1 dX11_queueHand_10 (lv_at hl 0 rfl) ?_
    refine lv_ifnonnull (tgt := 16) X.1 X.2.1 dX11_queueHand_12 (by decide) ?_
    refine lv_aload X.1 X.2.1 dX11_queueHand_16 (lv_at hl 0 rfl) ?_
    refine x_getR X hW fd_Message_bytes (fun w h => List.mem_cons_of_mem _ (gin_X6 w h)) (List.mem_cons_of_mem _ gw484) qi4 dX11_queueHand_18 ?_
    refine lv_astore (lv' := [(6, .ref (G.2.2 36 i4)), (5, .ref (G.2.2 5 i4)), (0, .ref (G.2.2 10 0)), (1, .int v1), (2, .int v2), (3, .int v3), (4, .ref (G.2.2 cv4 v4))]) X.1 X.2.1 dX11_queueHand_21 hl (by decide) rfl (fun ls hl => ?_)
    refine lv_aload X.1 X.2.1 dX11_queueHand_23 (lv_at hl 0 rfl) ?_
    refine lv_sipush (v := 136) X.1 X.2.1 dX11_queueHand_25 rfl ?_
    refine lv_sipush (v := 142) X.1 X.2.1 dX11_queueHand_28 rfl ?_
    obtain ⟨r5, S6, h7, h⟩ := cl_some h
    refine x_aftV X hW (x_runS (As := [.ref (G.2.2 36 i4), .int 136, .int 142]) (rest := []) X hW (c_X2_writeHead l G X.2.2.2.2.2.2.2.2.2.1 _ S2 36 i4 136 142 _ h7) (va_cwS 3 X.2.2.2.2.1 (gS gw576 gw577 gw267 gw578) rfl rfl rfl hd_X2_writeHead ⟨Nat.le_of_ble_eq_true rfl, Nat.le_of_ble_eq_true rfl⟩) rfl hl.1 rfl (Nat.le_of_ble_eq_true rfl) dX11_queueHand_31 ⟨Nat.zero_le _, Nat.zero_le _⟩) (fun H locs hW => ?_)
    refine lv_aload X.1 X.2.1 dX11_queueHand_34 (lv_at hl 0 rfl) ?_
    refine lv_bipush (v := 8) X.1 X.2.1 dX11_queueHand_36 rfl ?_
    refine lv_iload_n X.1 X.2.1 dX11_queueHand_38 rfl (lv_at hl 5 rfl) ?_
    refine x_iast X hW ar_36 dX11_queueHand_39 h (fun S8 H locs h hW => ?_)
    refine lv_bipush (v := 9) X.1 X.2.1 dX11_queueHand_40 rfl ?_
    refine lv_istore (lv' := [(7, .int 9), (6, .ref (G.2.2 36 i4)), (5, .ref (G.2.2 5 i4)), (0, .ref (G.2.2 10 0)), (1, .int v1), (2, .int v2), (3, .int v3), (4, .ref (G.2.2 cv4 v4))]) X.1 X.2.1 dX11_queueHand_42 hl (by decide) rfl (fun ls hl => ?_)
    refine lv_iload_n X.1 X.2.1 dX11_queueHand_44 rfl (lv_at hl 6 rfl) ?_
    refine lv_iconst (v := 4) X.1 X.2.1 dX11_queueHand_45 rfl ?_
    refine x_icmp_eq X (tgt := 71) dX11_queueHand_46 (by decide) h (fun h => ?_) (fun h => ?_)
    · exact w_X11_queueHand_71 X v3 cv4 v4 i4 i4 9 qi4  hW (lv_sub hl [3, 6, 7, 2, 1, 0] rfl) h
    · refine lv_aload_n X.1 X.2.1 dX11_queueHand_49 rfl (lv_at hl 3 rfl) ?_
      refine x_getR X hW fd_Cell_nodes (fun w h => List.mem_cons_of_mem _ (gin_X11 w h)) (List.mem_cons_of_mem _ gw14) z_1 dX11_queueHand_50 ?_
      refine lv_iload_n X.1 X.2.1 dX11_queueHand_53 rfl (lv_at hl 4 rfl) ?_
      refine x_aald X hW ar_52 (ct := 6) rfl (at_52 G) rfl dX11_queueHand_54 h (fun i9 qi9 h => ?_)
      refine x_getR X hW fd_Node_nonce (fun w h => List.mem_cons_of_mem _ (gin_X7 w h)) (List.mem_cons_of_mem _ gw388) qi9 dX11_queueHand_55 ?_
      refine lv_iconst (v := 0) X.1 X.2.1 dX11_queueHand_58 rfl ?_
      refine lv_aload X.1 X.2.1 dX11_queueHand_59 (lv_at hl 1 rfl) ?_
      refine lv_iload X.1 X.2.1 dX11_queueHand_61 (lv_at hl 0 rfl) ?_
      refine lv_bipush (v := 32) X.1 X.2.1 dX11_queueHand_63 rfl ?_
      refine x_acopy X hW hl.1 (List.mem_cons_of_mem _ gw324) (List.mem_cons_of_mem _ gw325) (List.mem_cons_of_mem _ gw326) (List.mem_cons_of_mem _ gw327) (Nat.le_of_ble_eq_true rfl) (Nat.le_of_ble_eq_true rfl) dX11_queueHand_65 h (fun S10 H locs h hW => ?_)
      refine lv_iinc (v := (9 + 32)) (lv' := [(7, .int (9 + 32)), (6, .ref (G.2.2 36 i4)), (5, .ref (G.2.2 5 i4)), (0, .ref (G.2.2 10 0)), (1, .int v1), (2, .int v2), (3, .int v3), (4, .ref (G.2.2 cv4 v4))]) X.1 X.2.1 dX11_queueHand_68 hl (k := 0) rfl rfl (by decide) rfl (fun ls hl => ?_)
      exact w_X11_queueHand_71 X v3 cv4 v4 i4 i4 (9 + 32) qi4  hW (lv_sub hl [3, 6, 7, 2, 1, 0] rfl) h
theorem c_X11_queueHand (l : Launch) (G : xG) (hD : xD G false) (sz : Nat) (S : Mm) (v1 : Int32) (v2 : Int32) (v3 : Int32) (cv4 : Nat) (v4 : Nat) (o : Unit × Mm) (h : F_X11_queueHand v1 v2 v3 cv4 v4 S = some o) : Met l yX11_queueHand wsX11_queueHand rmX11_queueHand (xPre G false S sz [.ref (G.2.2 10 0), .int v1, .int v2, .int v3, .ref (G.2.2 cv4 v4)]) (xQv G false sz o) 0 0 (XA G false sz) :=
  x_start hD (by decide) rfl (Nat.le_of_ble_eq_true rfl) (fun p e s m below meth c X hW ls hl => w_X11_queueHand_0 X v1 v2 v3 cv4 v4 hW hl h)

/-! WirelessCell.takeHandAtAp(ILWirelessCell$Link;[I)V -/
def rmX11_takeHandAtAp : Room := { frames := 7, cells := 0, slots := 0, locals := 187 }
def F_X11_takeHandAtAp (v1 : Int32) (v2 : Nat) (cv3 : Nat) (v3 : Nat) (S : Mm) : Option (Unit × Mm) :=
  gd (v2 < 18) (
  cl (F_X5_newestLength S) fun r1 S2 =>
  cl (F_X2_handIn cv3 v3 r1 S2) fun r4 S5 =>
  if r4 = 2 then (
  ldR S5 52 0 9 1 0 9 fun i14 =>
  cl (F_X10_derive 21 v2 v1 37 i14 cv3 v3 33 S5) fun r15 S16 =>
  cl (F_X11_hasRightMic cv3 v3 65 47 0 S16) fun r18 S19 =>
  if r18 = 0 then (
  some ((), S19))
  else (
  cl (F_X4_keepTried v2 47 0 S19) fun r21 S22 =>
  cl (F_X11_queueHand 0 v1 3 22 v2 S22) fun r24 S25 =>
  some ((), S25)))
  else (
  if r4 = 4 then (
  gf S5 64 v2 fun x7 =>
  if x7 = 0 then (
  some ((), S5))
  else (
  cl (F_X11_hasRightMic cv3 v3 33 22 v2 S5) fun r8 S9 =>
  if r8 = 0 then (
  some ((), S9))
  else (
  cl (F_X4_keyByTried v2 S9) fun r11 S12 =>
  some ((), S12))))
  else (
  some ((), S5))))
set_option maxRecDepth 100000 in
set_option maxHeartbeats 4000000 in
theorem w_X11_takeHandAtAp_0 {p : Program} {l : Launch} {e : Env} {s : State} {m : MethodId} {args : Array Value} {below : List Frame} {meth : Method} {c : Code} {G : xG} {sz : Nat} {o : Unit × Mm} (X : xC G false sz p s m args c cX11_takeHandAtAp 5 wsX11_takeHandAtAp RX11 meth none) (v1 : Int32) (v2 : Nat) (cv3 : Nat) (v3 : Nat) {S : Mm} {H : Heap} {locs : List Loc} {ls : Array Slot} (hW : xW G false sz s H locs S) (hl : lv_has ls 5 [(0, .ref (G.2.2 10 0)), (1, .int v1), (2, .ref (G.2.2 3 v2)), (3, .ref (G.2.2 cv3 v3))]) (h : F_X11_takeHandAtAp v1 v2 cv3 v3 S = some o) : wX p l e rmX11_takeHandAtAp s m args below meth c H locs (xQv G false sz o) (XA G false sz) 0 ls [] := by
  unfold F_X11_takeHandAtAp at h
  obtain ⟨qv2, h⟩ := if_some h
  refine lv_aload_n X.1 X.2.1 dX11_takeHandAtAp_0 rfl (lv_at hl 3 rfl) ?_
  refine lv_aload_n X.1 X.2.1 dX11_takeHandAtAp_1 rfl (lv_at hl 0 rfl) ?_
  refine x_getR X hW fd_Cell_medium (fun w h => List.mem_cons_of_mem _ (gin_X11 w h)) (List.mem_cons_of_mem _ gw21) z_1 dX11_takeHandAtAp_2 ?_
  obtain ⟨r1, S2, h3, h⟩ := cl_some h
  refine x_aftI X hW (x_runV (C := RX5) (a := G.2.2 4 0) (As := []) (rest := [.ref (G.2.2 cv3 v3)]) X hW (c_X5_newestLength l G X.2.2.2.2.2.2.2.2.2.1 _ S _ h3) (cwV 0 X.2.2.2.2.1 (gV gw763 gw764 gw765 gw20 gw766) rfl rfl rfl ⟨rfl, hd_X5_newestLength⟩ ⟨Nat.le_of_ble_eq_true rfl, Nat.le_of_ble_eq_true rfl⟩) (x_recv X hW ob_Medium z_1) rfl hl.1 rfl (Nat.le_of_ble_eq_true rfl) dX11_takeHandAtAp_5 ⟨Nat.zero_le _, Nat.zero_le _⟩) (fun H locs hW => ?_)
  obtain ⟨r4, S5, h6, h⟩ := cl_some h
  refine x_aftI X hW (x_runS (As := [.ref (G.2.2 cv3 v3), .int r1]) (rest := []) X hW (c_X2_handIn l G X.2.2.2.2.2.2.2.2.2.1 _ S2 cv3 v3 r1 _ h6) (va_cwS 2 X.2.2.2.2.1 (gS gw851 gw852 gw267 gw853) rfl rfl rfl hd_X2_handIn ⟨Nat.le_of_ble_eq_true rfl, Nat.le_of_ble_eq_true rfl⟩) rfl hl.1 rfl (Nat.le_of_ble_eq_true rfl) dX11_takeHandAtAp_8 ⟨Nat.zero_le _, Nat.zero_le _⟩) (fun H locs hW => ?_)
  refine lv_istore (lv' := [(4, .int r4), (0, .ref (G.2.2 10 0)), (1, .int v1), (2, .ref (G.2.2 3 v2)), (3, .ref (G.2.2 cv3 v3))]) X.1 X.2.1 dX11_takeHandAtAp_11 hl (by decide) rfl (fun ls hl => ?_)
  refine lv_iload X.1 X.2.1 dX11_takeHandAtAp_13 (lv_at hl 0 rfl) ?_
  refine lv_iconst (v := 2) X.1 X.2.1 dX11_takeHandAtAp_15 rfl ?_
  refine x_icmp_ne X (tgt := 85) dX11_takeHandAtAp_16 (by decide) h (fun h => ?_) (fun h => ?_)
  · refine lv_iload X.1 X.2.1 dX11_takeHandAtAp_85 (lv_at hl 0 rfl) ?_
    refine lv_iconst (v := 4) X.1 X.2.1 dX11_takeHandAtAp_87 rfl ?_
    refine x_icmp_ne X (tgt := 116) dX11_takeHandAtAp_88 (by decide) h (fun h => ?_) (fun h => ?_)
    · exact x_vret X hW h dX11_takeHandAtAp_116
    · refine lv_aload_n X.1 X.2.1 dX11_takeHandAtAp_91 rfl (lv_at hl 3 rfl) ?_
      refine x_getI X hW fd_Link_hasTried (fun w h => List.mem_cons_of_mem _ (gin_X4 w h)) (List.mem_cons_of_mem _ gw850) qv2 dX11_takeHandAtAp_92 h (fun x7 h => ?_)
      refine x_if_eq X (tgt := 116) dX11_takeHandAtAp_95 (by decide) h (fun h => ?_) (fun h => ?_)
      · exact x_vret X hW h dX11_takeHandAtAp_116
      · refine lv_aload_n X.1 X.2.1 dX11_takeHandAtAp_98 rfl (lv_at hl 1 rfl) ?_
        refine lv_aload_n X.1 X.2.1 dX11_takeHandAtAp_99 rfl (lv_at hl 4 rfl) ?_
        refine lv_bipush (v := 33) X.1 X.2.1 dX11_takeHandAtAp_100 rfl ?_
        refine lv_aload_n X.1 X.2.1 dX11_takeHandAtAp_102 rfl (lv_at hl 3 rfl) ?_
        refine x_getR X hW fd_Link_tried (fun w h => List.mem_cons_of_mem _ (gin_X4 w h)) (List.mem_cons_of_mem _ gw849) qv2 dX11_takeHandAtAp_103 ?_
        obtain ⟨r8, S9, h10, h⟩ := cl_some h
        refine x_aftI X hW (x_runV (C := RX11) (a := G.2.2 10 0) (As := [.ref (G.2.2 cv3 v3), .int 33, .ref (G.2.2 22 v2)]) (rest := []) X hW (c_X11_hasRightMic l G X.2.2.2.2.2.2.2.2.2.1 _ S5 cv3 v3 33 22 v2 _ h10) (cwV 3 X.2.2.2.2.1 (gV gw942 gw943 gw944 gw2 gw945) rfl rfl rfl ⟨rfl, hd_X11_hasRightMic⟩ ⟨Nat.le_of_ble_eq_true rfl, Nat.le_of_ble_eq_true rfl⟩) (x_recv X hW ob_Cell z_1) rfl hl.1 rfl (Nat.le_of_ble_eq_true rfl) dX11_takeHandAtAp_106 ⟨Nat.zero_le _, Nat.zero_le _⟩) (fun H locs hW => ?_)
        refine x_if_eq X (tgt := 116) dX11_takeHandAtAp_109 (by decide) h (fun h => ?_) (fun h => ?_)
        · exact x_vret X hW h dX11_takeHandAtAp_116
        · refine lv_aload_n X.1 X.2.1 dX11_takeHandAtAp_112 rfl (lv_at hl 3 rfl) ?_
          obtain ⟨r11, S12, h13, h⟩ := cl_some h
          refine x_aftV X hW (x_runV (C := RX4) (a := G.2.2 3 v2) (As := []) (rest := []) X hW (c_X4_keyByTried l G X.2.2.2.2.2.2.2.2.2.1 _ S9 v2 _ h13) (cwV 0 X.2.2.2.2.1 (gV gw957 gw958 gw959 gw48 gw960) rfl rfl rfl ⟨rfl, hd_X4_keyByTried⟩ ⟨Nat.le_of_ble_eq_true rfl, Nat.le_of_ble_eq_true rfl⟩) (x_recv X hW ob_Link qv2) rfl hl.1 rfl (Nat.le_of_ble_eq_true rfl) dX11_takeHandAtAp_113 ⟨Nat.zero_le _, Nat.zero_le _⟩) (fun H locs hW => ?_)
          exact x_vret X hW h dX11_takeHandAtAp_116
  · refine lv_aload_n X.1 X.2.1 dX11_takeHandAtAp_19 rfl (lv_at hl 1 rfl) ?_
    refine x_getR X hW fd_Cell_sha (fun w h => List.mem_cons_of_mem _ (gin_X11 w h)) (List.mem_cons_of_mem _ gw33) z_1 dX11_takeHandAtAp_20 ?_
    refine lv_aload_n X.1 X.2.1 dX11_takeHandAtAp_23 rfl (lv_at hl 3 rfl) ?_
    refine x_getR X hW fd_Link_secret (fun w h => List.mem_cons_of_mem _ (gin_X4 w h)) (List.mem_cons_of_mem _ gw358) qv2 dX11_takeHandAtAp_24 ?_
    refine lv_iload_n X.1 X.2.1 dX11_takeHandAtAp_27 rfl (lv_at hl 2 rfl) ?_
    refine lv_aload_n X.1 X.2.1 dX11_takeHandAtAp_28 rfl (lv_at hl 1 rfl) ?_
    refine x_getR X hW fd_Cell_nodes (fun w h => List.mem_cons_of_mem _ (gin_X11 w h)) (List.mem_cons_of_mem _ gw14) z_1 dX11_takeHandAtAp_29 ?_
    refine lv_iconst (v := 0) X.1 X.2.1 dX11_takeHandAtAp_32 rfl ?_
    refine x_aald X hW ar_52 (ct := 6) rfl (at_52 G) rfl dX11_takeHandAtAp_33 h (fun i14 qi14 h => ?_)
    refine x_getR X hW fd_Node_nonce (fun w h => List.mem_cons_of_mem _ (gin_X7 w h)) (List.mem_cons_of_mem _ gw388) qi14 dX11_takeHandAtAp_34 ?_
    refine lv_aload_n X.1 X.2.1 dX11_takeHandAtAp_37 rfl (lv_at hl 4 rfl) ?_
    refine lv_bipush (v := 33) X.1 X.2.1 dX11_takeHandAtAp_38 rfl ?_
    obtain ⟨r15, S16, h17, h⟩ := cl_some h
    refine x_aftV X hW (x_runV (C := RX10) (a := G.2.2 9 0) (As := [.ref (G.2.2 21 v2), .int v1, .ref (G.2.2 37 i14), .ref (G.2.2 cv3 v3), .int 33]) (rest := []) X hW (c_X10_derive l G X.2.2.2.2.2.2.2.2.2.1 _ S5 21 v2 v1 37 i14 cv3 v3 33 _ h17) (cwV 5 X.2.2.2.2.1 (gV gw856 gw857 gw858 gw32 gw859) rfl rfl rfl ⟨rfl, hd_X10_derive⟩ ⟨Nat.le_of_ble_eq_true rfl, Nat.le_of_ble_eq_true rfl⟩) (x_recv X hW ob_Sha z_1) rfl hl.1 rfl (Nat.le_of_ble_eq_true rfl) dX11_takeHandAtAp_40 ⟨Nat.zero_le _, Nat.zero_le _⟩) (fun H locs hW => ?_)
    refine lv_aload_n X.1 X.2.1 dX11_takeHandAtAp_43 rfl (lv_at hl 1 rfl) ?_
    refine lv_aload_n X.1 X.2.1 dX11_takeHandAtAp_44 rfl (lv_at hl 4 rfl) ?_
    refine lv_bipush (v := 65) X.1 X.2.1 dX11_takeHandAtAp_45 rfl ?_
    refine lv_aload_n X.1 X.2.1 dX11_takeHandAtAp_47 rfl (lv_at hl 1 rfl) ?_
    refine x_getR X hW fd_Cell_sha (fun w h => List.mem_cons_of_mem _ (gin_X11 w h)) (List.mem_cons_of_mem _ gw33) z_1 dX11_takeHandAtAp_48 ?_
    refine x_getR X hW fd_Sha_ptk (fun w h => List.mem_cons_of_mem _ (gin_X10 w h)) (List.mem_cons_of_mem _ gw848) z_1 dX11_takeHandAtAp_51 ?_
    obtain ⟨r18, S19, h20, h⟩ := cl_some h
    refine x_aftI X hW (x_runV (C := RX11) (a := G.2.2 10 0) (As := [.ref (G.2.2 cv3 v3), .int 65, .ref (G.2.2 47 0)]) (rest := []) X hW (c_X11_hasRightMic l G X.2.2.2.2.2.2.2.2.2.1 _ S16 cv3 v3 65 47 0 _ h20) (cwV 3 X.2.2.2.2.1 (gV gw942 gw943 gw944 gw2 gw945) rfl rfl rfl ⟨rfl, hd_X11_hasRightMic⟩ ⟨Nat.le_of_ble_eq_true rfl, Nat.le_of_ble_eq_true rfl⟩) (x_recv X hW ob_Cell z_1) rfl hl.1 rfl (Nat.le_of_ble_eq_true rfl) dX11_takeHandAtAp_54 ⟨Nat.zero_le _, Nat.zero_le _⟩) (fun H locs hW => ?_)
    refine x_if_eq X (tgt := 116) dX11_takeHandAtAp_57 (by decide) h (fun h => ?_) (fun h => ?_)
    · exact x_vret X hW h dX11_takeHandAtAp_116
    · refine lv_aload_n X.1 X.2.1 dX11_takeHandAtAp_60 rfl (lv_at hl 3 rfl) ?_
      refine lv_aload_n X.1 X.2.1 dX11_takeHandAtAp_61 rfl (lv_at hl 1 rfl) ?_
      refine x_getR X hW fd_Cell_sha (fun w h => List.mem_cons_of_mem _ (gin_X11 w h)) (List.mem_cons_of_mem _ gw33) z_1 dX11_takeHandAtAp_62 ?_
      refine x_getR X hW fd_Sha_ptk (fun w h => List.mem_cons_of_mem _ (gin_X10 w h)) (List.mem_cons_of_mem _ gw848) z_1 dX11_takeHandAtAp_65 ?_
      obtain ⟨r21, S22, h23, h⟩ := cl_some h
      refine x_aftV X hW (x_runV (C := RX4) (a := G.2.2 3 v2) (As := [.ref (G.2.2 47 0)]) (rest := []) X hW (c_X4_keepTried l G X.2.2.2.2.2.2.2.2.2.1 _ S19 v2 47 0 _ h23) (cwV 1 X.2.2.2.2.1 (gV gw949 gw950 gw951 gw48 gw952) rfl rfl rfl ⟨rfl, hd_X4_keepTried⟩ ⟨Nat.le_of_ble_eq_true rfl, Nat.le_of_ble_eq_true rfl⟩) (x_recv X hW ob_Link qv2) rfl hl.1 rfl (Nat.le_of_ble_eq_true rfl) dX11_takeHandAtAp_68 ⟨Nat.zero_le _, Nat.zero_le _⟩) (fun H locs hW => ?_)
      refine lv_aload_n X.1 X.2.1 dX11_takeHandAtAp_71 rfl (lv_at hl 1 rfl) ?_
      refine lv_iconst (v := 0) X.1 X.2.1 dX11_takeHandAtAp_72 rfl ?_
      refine lv_iload_n X.1 X.2.1 dX11_takeHandAtAp_73 rfl (lv_at hl 2 rfl) ?_
      refine lv_iconst (v := 3) X.1 X.2.1 dX11_takeHandAtAp_74 rfl ?_
      refine lv_aload_n X.1 X.2.1 dX11_takeHandAtAp_75 rfl (lv_at hl 3 rfl) ?_
      refine x_getR X hW fd_Link_tried (fun w h => List.mem_cons_of_mem _ (gin_X4 w h)) (List.mem_cons_of_mem _ gw849) qv2 dX11_takeHandAtAp_76 ?_
      obtain ⟨r24, S25, h26, h⟩ := cl_some h
      refine x_aftV X hW (x_runV (C := RX11) (a := G.2.2 10 0) (As := [.int 0, .int v1, .int 3, .ref (G.2.2 22 v2)]) (rest := []) X hW (c_X11_queueHand l G X.2.2.2.2.2.2.2.2.2.1 _ S22 0 v1 3 22 v2 _ h26) (cwV 4 X.2.2.2.2.1 (gV gw953 gw954 gw955 gw2 gw956) rfl rfl rfl ⟨rfl, hd_X11_queueHand⟩ ⟨Nat.le_of_ble_eq_true rfl, Nat.le_of_ble_eq_true rfl⟩) (x_recv X hW ob_Cell z_1) rfl hl.1 rfl (Nat.le_of_ble_eq_true rfl) dX11_takeHandAtAp_79 ⟨Nat.zero_le _, Nat.zero_le _⟩) (fun H locs hW => ?_)
      refine lv_goto (tgt := 116) X.1 X.2.1 dX11_takeHandAtAp_82 (by decide) ?_
      exact x_vret X hW h dX11_takeHandAtAp_116
theorem c_X11_takeHandAtAp (l : Launch) (G : xG) (hD : xD G false) (sz : Nat) (S : Mm) (v1 : Int32) (v2 : Nat) (cv3 : Nat) (v3 : Nat) (o : Unit × Mm) (h : F_X11_takeHandAtAp v1 v2 cv3 v3 S = some o) : Met l yX11_takeHandAtAp wsX11_takeHandAtAp rmX11_takeHandAtAp (xPre G false S sz [.ref (G.2.2 10 0), .int v1, .ref (G.2.2 3 v2), .ref (G.2.2 cv3 v3)]) (xQv G false sz o) 0 0 (XA G false sz) :=
  x_start hD (by decide) rfl (Nat.le_of_ble_eq_true rfl) (fun p e s m below meth c X hW ls hl => w_X11_takeHandAtAp_0 X v1 v2 cv3 v3 hW hl h)
