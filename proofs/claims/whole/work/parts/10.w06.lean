/-! WirelessCell.takeHandAtStation(ILWirelessCell$Link;[I)V -/
def rmX11_takeHandAtStation : Room := { frames := 7, cells := 0, slots := 0, locals := 187 }
def F_X11_takeHandAtStation (v1 : Int32) (v2 : Nat) (cv3 : Nat) (v3 : Nat) (S : Mm) : Option (Unit × Mm) :=
  gd (v2 < 18) (
  cl (F_X5_newestLength S) fun r1 S2 =>
  cl (F_X2_handIn cv3 v3 r1 S2) fun r4 S5 =>
  if r4 = 1 then (
  cpP false S5 cv3 v3 33 23 v2 0 32 fun S20 =>
  ldR S20 52 0 9 1 v1 9 fun i21 =>
  cl (F_X10_derive 21 v2 v1 23 v2 37 i21 0 S20) fun r22 S23 =>
  cl (F_X4_keepTried v2 47 0 S23) fun r25 S26 =>
  cl (F_X11_queueHand v1 0 2 22 v2 S26) fun r28 S29 =>
  some ((), S29))
  else (
  if r4 = 3 then (
  gf S5 64 v2 fun x7 =>
  if x7 = 0 then (
  some ((), S5))
  else (
  cl (F_X2_sameBytes cv3 v3 33 23 v2 0 32 S5) fun r8 S9 =>
  if r8 = 0 then (
  some ((), S9))
  else (
  cl (F_X11_hasRightMic cv3 v3 65 22 v2 S9) fun r11 S12 =>
  if r11 = 0 then (
  some ((), S12))
  else (
  cl (F_X4_keyByTried v2 S12) fun r14 S15 =>
  cl (F_X11_queueHand v1 0 4 22 v2 S15) fun r17 S18 =>
  some ((), S18)))))
  else (
  some ((), S5))))
set_option maxRecDepth 100000 in
set_option maxHeartbeats 4000000 in
theorem w_X11_takeHandAtStation_0 {p : Program} {l : Launch} {e : Env} {s : State} {m : MethodId} {args : Array Value} {below : List Frame} {meth : Method} {c : Code} {G : xG} {sz : Nat} {o : Unit × Mm} (X : xC G false sz p s m args c cX11_takeHandAtStation 5 wsX11_takeHandAtStation RX11 meth none) (v1 : Int32) (v2 : Nat) (cv3 : Nat) (v3 : Nat) {S : Mm} {H : Heap} {locs : List Loc} {ls : Array Slot} (hW : xW G false sz s H locs S) (hl : lv_has ls 5 [(0, .ref (G.2.2 10 0)), (1, .int v1), (2, .ref (G.2.2 3 v2)), (3, .ref (G.2.2 cv3 v3))]) (h : F_X11_takeHandAtStation v1 v2 cv3 v3 S = some o) : wX p l e rmX11_takeHandAtStation s m args below meth c H locs (xQv G false sz o) (XA G false sz) 0 ls [] := by
  unfold F_X11_takeHandAtStation at h
  obtain ⟨qv2, h⟩ := if_some h
  refine lv_aload_n X.1 X.2.1 dX11_takeHandAtStation_0 rfl (lv_at hl 3 rfl) ?_
  refine lv_aload_n X.1 X.2.1 dX11_takeHandAtStation_1 rfl (lv_at hl 0 rfl) ?_
  refine x_getR X hW fd_Cell_medium (fun w h => List.mem_cons_of_mem _ (gin_X11 w h)) (List.mem_cons_of_mem _ gw21) z_1 dX11_takeHandAtStation_2 ?_
  obtain ⟨r1, S2, h3, h⟩ := cl_some h
  refine x_aftI X hW (x_runV (C := RX5) (a := G.2.2 4 0) (As := []) (rest := [.ref (G.2.2 cv3 v3)]) X hW (c_X5_newestLength l G X.2.2.2.2.2.2.2.2.2.1 _ S _ h3) (cwV 0 X.2.2.2.2.1 (gV gw763 gw764 gw765 gw20 gw766) rfl rfl rfl ⟨rfl, hd_X5_newestLength⟩ ⟨Nat.le_of_ble_eq_true rfl, Nat.le_of_ble_eq_true rfl⟩) (x_recv X hW ob_Medium z_1) rfl hl.1 rfl (Nat.le_of_ble_eq_true rfl) dX11_takeHandAtStation_5 ⟨Nat.zero_le _, Nat.zero_le _⟩) (fun H locs hW => ?_)
  obtain ⟨r4, S5, h6, h⟩ := cl_some h
  refine x_aftI X hW (x_runS (As := [.ref (G.2.2 cv3 v3), .int r1]) (rest := []) X hW (c_X2_handIn l G X.2.2.2.2.2.2.2.2.2.1 _ S2 cv3 v3 r1 _ h6) (va_cwS 2 X.2.2.2.2.1 (gS gw851 gw852 gw267 gw853) rfl rfl rfl hd_X2_handIn ⟨Nat.le_of_ble_eq_true rfl, Nat.le_of_ble_eq_true rfl⟩) rfl hl.1 rfl (Nat.le_of_ble_eq_true rfl) dX11_takeHandAtStation_8 ⟨Nat.zero_le _, Nat.zero_le _⟩) (fun H locs hW => ?_)
  refine lv_istore (lv' := [(4, .int r4), (0, .ref (G.2.2 10 0)), (1, .int v1), (2, .ref (G.2.2 3 v2)), (3, .ref (G.2.2 cv3 v3))]) X.1 X.2.1 dX11_takeHandAtStation_11 hl (by decide) rfl (fun ls hl => ?_)
  refine lv_iload X.1 X.2.1 dX11_takeHandAtStation_13 (lv_at hl 0 rfl) ?_
  refine lv_iconst (v := 1) X.1 X.2.1 dX11_takeHandAtStation_15 rfl ?_
  refine x_icmp_ne X (tgt := 83) dX11_takeHandAtStation_16 (by decide) h (fun h => ?_) (fun h => ?_)
  · refine lv_iload X.1 X.2.1 dX11_takeHandAtStation_83 (lv_at hl 0 rfl) ?_
    refine lv_iconst (v := 3) X.1 X.2.1 dX11_takeHandAtStation_85 rfl ?_
    refine x_icmp_ne X (tgt := 141) dX11_takeHandAtStation_86 (by decide) h (fun h => ?_) (fun h => ?_)
    · exact x_vret X hW h dX11_takeHandAtStation_141
    · refine lv_aload_n X.1 X.2.1 dX11_takeHandAtStation_89 rfl (lv_at hl 3 rfl) ?_
      refine x_getI X hW fd_Link_hasTried (fun w h => List.mem_cons_of_mem _ (gin_X4 w h)) (List.mem_cons_of_mem _ gw850) qv2 dX11_takeHandAtStation_90 h (fun x7 h => ?_)
      refine x_if_eq X (tgt := 141) dX11_takeHandAtStation_93 (by decide) h (fun h => ?_) (fun h => ?_)
      · exact x_vret X hW h dX11_takeHandAtStation_141
      · refine lv_aload_n X.1 X.2.1 dX11_takeHandAtStation_96 rfl (lv_at hl 4 rfl) ?_
        refine lv_bipush (v := 33) X.1 X.2.1 dX11_takeHandAtStation_97 rfl ?_
        refine lv_aload_n X.1 X.2.1 dX11_takeHandAtStation_99 rfl (lv_at hl 3 rfl) ?_
        refine x_getR X hW fd_Link_triedNonce (fun w h => List.mem_cons_of_mem _ (gin_X4 w h)) (List.mem_cons_of_mem _ gw966) qv2 dX11_takeHandAtStation_100 ?_
        refine lv_iconst (v := 0) X.1 X.2.1 dX11_takeHandAtStation_103 rfl ?_
        refine lv_bipush (v := 32) X.1 X.2.1 dX11_takeHandAtStation_104 rfl ?_
        obtain ⟨r8, S9, h10, h⟩ := cl_some h
        refine x_aftI X hW (x_runS (As := [.ref (G.2.2 cv3 v3), .int 33, .ref (G.2.2 23 v2), .int 0, .int 32]) (rest := []) X hW (c_X2_sameBytes l G X.2.2.2.2.2.2.2.2.2.1 _ S5 cv3 v3 33 23 v2 0 32 _ h10) (va_cwS 5 X.2.2.2.2.1 (gS gw948 gw827 gw267 gw828) rfl rfl rfl hd_X2_sameBytes ⟨Nat.le_of_ble_eq_true rfl, Nat.le_of_ble_eq_true rfl⟩) rfl hl.1 rfl (Nat.le_of_ble_eq_true rfl) dX11_takeHandAtStation_106 ⟨Nat.zero_le _, Nat.zero_le _⟩) (fun H locs hW => ?_)
        refine x_if_eq X (tgt := 141) dX11_takeHandAtStation_109 (by decide) h (fun h => ?_) (fun h => ?_)
        · exact x_vret X hW h dX11_takeHandAtStation_141
        · refine lv_aload_n X.1 X.2.1 dX11_takeHandAtStation_112 rfl (lv_at hl 1 rfl) ?_
          refine lv_aload_n X.1 X.2.1 dX11_takeHandAtStation_113 rfl (lv_at hl 4 rfl) ?_
          refine lv_bipush (v := 65) X.1 X.2.1 dX11_takeHandAtStation_114 rfl ?_
          refine lv_aload_n X.1 X.2.1 dX11_takeHandAtStation_116 rfl (lv_at hl 3 rfl) ?_
          refine x_getR X hW fd_Link_tried (fun w h => List.mem_cons_of_mem _ (gin_X4 w h)) (List.mem_cons_of_mem _ gw849) qv2 dX11_takeHandAtStation_117 ?_
          obtain ⟨r11, S12, h13, h⟩ := cl_some h
          refine x_aftI X hW (x_runV (C := RX11) (a := G.2.2 10 0) (As := [.ref (G.2.2 cv3 v3), .int 65, .ref (G.2.2 22 v2)]) (rest := []) X hW (c_X11_hasRightMic l G X.2.2.2.2.2.2.2.2.2.1 _ S9 cv3 v3 65 22 v2 _ h13) (cwV 3 X.2.2.2.2.1 (gV gw942 gw943 gw944 gw2 gw945) rfl rfl rfl ⟨rfl, hd_X11_hasRightMic⟩ ⟨Nat.le_of_ble_eq_true rfl, Nat.le_of_ble_eq_true rfl⟩) (x_recv X hW ob_Cell z_1) rfl hl.1 rfl (Nat.le_of_ble_eq_true rfl) dX11_takeHandAtStation_120 ⟨Nat.zero_le _, Nat.zero_le _⟩) (fun H locs hW => ?_)
          refine x_if_eq X (tgt := 141) dX11_takeHandAtStation_123 (by decide) h (fun h => ?_) (fun h => ?_)
          · exact x_vret X hW h dX11_takeHandAtStation_141
          · refine lv_aload_n X.1 X.2.1 dX11_takeHandAtStation_126 rfl (lv_at hl 3 rfl) ?_
            obtain ⟨r14, S15, h16, h⟩ := cl_some h
            refine x_aftV X hW (x_runV (C := RX4) (a := G.2.2 3 v2) (As := []) (rest := []) X hW (c_X4_keyByTried l G X.2.2.2.2.2.2.2.2.2.1 _ S12 v2 _ h16) (cwV 0 X.2.2.2.2.1 (gV gw957 gw958 gw959 gw48 gw960) rfl rfl rfl ⟨rfl, hd_X4_keyByTried⟩ ⟨Nat.le_of_ble_eq_true rfl, Nat.le_of_ble_eq_true rfl⟩) (x_recv X hW ob_Link qv2) rfl hl.1 rfl (Nat.le_of_ble_eq_true rfl) dX11_takeHandAtStation_127 ⟨Nat.zero_le _, Nat.zero_le _⟩) (fun H locs hW => ?_)
            refine lv_aload_n X.1 X.2.1 dX11_takeHandAtStation_130 rfl (lv_at hl 1 rfl) ?_
            refine lv_iload_n X.1 X.2.1 dX11_takeHandAtStation_131 rfl (lv_at hl 2 rfl) ?_
            refine lv_iconst (v := 0) X.1 X.2.1 dX11_takeHandAtStation_132 rfl ?_
            refine lv_iconst (v := 4) X.1 X.2.1 dX11_takeHandAtStation_133 rfl ?_
            refine lv_aload_n X.1 X.2.1 dX11_takeHandAtStation_134 rfl (lv_at hl 3 rfl) ?_
            refine x_getR X hW fd_Link_tried (fun w h => List.mem_cons_of_mem _ (gin_X4 w h)) (List.mem_cons_of_mem _ gw849) qv2 dX11_takeHandAtStation_135 ?_
            obtain ⟨r17, S18, h19, h⟩ := cl_some h
            refine x_aftV X hW (x_runV (C := RX11) (a := G.2.2 10 0) (As := [.int v1, .int 0, .int 4, .ref (G.2.2 22 v2)]) (rest := []) X hW (c_X11_queueHand l G X.2.2.2.2.2.2.2.2.2.1 _ S15 v1 0 4 22 v2 _ h19) (cwV 4 X.2.2.2.2.1 (gV gw953 gw954 gw955 gw2 gw956) rfl rfl rfl ⟨rfl, hd_X11_queueHand⟩ ⟨Nat.le_of_ble_eq_true rfl, Nat.le_of_ble_eq_true rfl⟩) (x_recv X hW ob_Cell z_1) rfl hl.1 rfl (Nat.le_of_ble_eq_true rfl) dX11_takeHandAtStation_138 ⟨Nat.zero_le _, Nat.zero_le _⟩) (fun H locs hW => ?_)
            exact x_vret X hW h dX11_takeHandAtStation_141
  · refine lv_aload_n X.1 X.2.1 dX11_takeHandAtStation_19 rfl (lv_at hl 4 rfl) ?_
    refine lv_bipush (v := 33) X.1 X.2.1 dX11_takeHandAtStation_20 rfl ?_
    refine lv_aload_n X.1 X.2.1 dX11_takeHandAtStation_22 rfl (lv_at hl 3 rfl) ?_
    refine x_getR X hW fd_Link_triedNonce (fun w h => List.mem_cons_of_mem _ (gin_X4 w h)) (List.mem_cons_of_mem _ gw966) qv2 dX11_takeHandAtStation_23 ?_
    refine lv_iconst (v := 0) X.1 X.2.1 dX11_takeHandAtStation_26 rfl ?_
    refine lv_bipush (v := 32) X.1 X.2.1 dX11_takeHandAtStation_27 rfl ?_
    refine x_acopy X hW hl.1 (List.mem_cons_of_mem _ gw324) (List.mem_cons_of_mem _ gw325) (List.mem_cons_of_mem _ gw326) (List.mem_cons_of_mem _ gw327) (Nat.le_of_ble_eq_true rfl) (Nat.le_of_ble_eq_true rfl) dX11_takeHandAtStation_29 h (fun S20 H locs h hW => ?_)
    refine lv_aload_n X.1 X.2.1 dX11_takeHandAtStation_32 rfl (lv_at hl 1 rfl) ?_
    refine x_getR X hW fd_Cell_sha (fun w h => List.mem_cons_of_mem _ (gin_X11 w h)) (List.mem_cons_of_mem _ gw33) z_1 dX11_takeHandAtStation_33 ?_
    refine lv_aload_n X.1 X.2.1 dX11_takeHandAtStation_36 rfl (lv_at hl 3 rfl) ?_
    refine x_getR X hW fd_Link_secret (fun w h => List.mem_cons_of_mem _ (gin_X4 w h)) (List.mem_cons_of_mem _ gw358) qv2 dX11_takeHandAtStation_37 ?_
    refine lv_iload_n X.1 X.2.1 dX11_takeHandAtStation_40 rfl (lv_at hl 2 rfl) ?_
    refine lv_aload_n X.1 X.2.1 dX11_takeHandAtStation_41 rfl (lv_at hl 3 rfl) ?_
    refine x_getR X hW fd_Link_triedNonce (fun w h => List.mem_cons_of_mem _ (gin_X4 w h)) (List.mem_cons_of_mem _ gw966) qv2 dX11_takeHandAtStation_42 ?_
    refine lv_aload_n X.1 X.2.1 dX11_takeHandAtStation_45 rfl (lv_at hl 1 rfl) ?_
    refine x_getR X hW fd_Cell_nodes (fun w h => List.mem_cons_of_mem _ (gin_X11 w h)) (List.mem_cons_of_mem _ gw14) z_1 dX11_takeHandAtStation_46 ?_
    refine lv_iload_n X.1 X.2.1 dX11_takeHandAtStation_49 rfl (lv_at hl 2 rfl) ?_
    refine x_aald X hW ar_52 (ct := 6) rfl (at_52 G) rfl dX11_takeHandAtStation_50 h (fun i21 qi21 h => ?_)
    refine x_getR X hW fd_Node_nonce (fun w h => List.mem_cons_of_mem _ (gin_X7 w h)) (List.mem_cons_of_mem _ gw388) qi21 dX11_takeHandAtStation_51 ?_
    refine lv_iconst (v := 0) X.1 X.2.1 dX11_takeHandAtStation_54 rfl ?_
    obtain ⟨r22, S23, h24, h⟩ := cl_some h
    refine x_aftV X hW (x_runV (C := RX10) (a := G.2.2 9 0) (As := [.ref (G.2.2 21 v2), .int v1, .ref (G.2.2 23 v2), .ref (G.2.2 37 i21), .int 0]) (rest := []) X hW (c_X10_derive l G X.2.2.2.2.2.2.2.2.2.1 _ S20 21 v2 v1 23 v2 37 i21 0 _ h24) (cwV 5 X.2.2.2.2.1 (gV gw856 gw857 gw858 gw32 gw859) rfl rfl rfl ⟨rfl, hd_X10_derive⟩ ⟨Nat.le_of_ble_eq_true rfl, Nat.le_of_ble_eq_true rfl⟩) (x_recv X hW ob_Sha z_1) rfl hl.1 rfl (Nat.le_of_ble_eq_true rfl) dX11_takeHandAtStation_55 ⟨Nat.zero_le _, Nat.zero_le _⟩) (fun H locs hW => ?_)
    refine lv_aload_n X.1 X.2.1 dX11_takeHandAtStation_58 rfl (lv_at hl 3 rfl) ?_
    refine lv_aload_n X.1 X.2.1 dX11_takeHandAtStation_59 rfl (lv_at hl 1 rfl) ?_
    refine x_getR X hW fd_Cell_sha (fun w h => List.mem_cons_of_mem _ (gin_X11 w h)) (List.mem_cons_of_mem _ gw33) z_1 dX11_takeHandAtStation_60 ?_
    refine x_getR X hW fd_Sha_ptk (fun w h => List.mem_cons_of_mem _ (gin_X10 w h)) (List.mem_cons_of_mem _ gw848) z_1 dX11_takeHandAtStation_63 ?_
    obtain ⟨r25, S26, h27, h⟩ := cl_some h
    refine x_aftV X hW (x_runV (C := RX4) (a := G.2.2 3 v2) (As := [.ref (G.2.2 47 0)]) (rest := []) X hW (c_X4_keepTried l G X.2.2.2.2.2.2.2.2.2.1 _ S23 v2 47 0 _ h27) (cwV 1 X.2.2.2.2.1 (gV gw949 gw950 gw951 gw48 gw952) rfl rfl rfl ⟨rfl, hd_X4_keepTried⟩ ⟨Nat.le_of_ble_eq_true rfl, Nat.le_of_ble_eq_true rfl⟩) (x_recv X hW ob_Link qv2) rfl hl.1 rfl (Nat.le_of_ble_eq_true rfl) dX11_takeHandAtStation_66 ⟨Nat.zero_le _, Nat.zero_le _⟩) (fun H locs hW => ?_)
    refine lv_aload_n X.1 X.2.1 dX11_takeHandAtStation_69 rfl (lv_at hl 1 rfl) ?_
    refine lv_iload_n X.1 X.2.1 dX11_takeHandAtStation_70 rfl (lv_at hl 2 rfl) ?_
    refine lv_iconst (v := 0) X.1 X.2.1 dX11_takeHandAtStation_71 rfl ?_
    refine lv_iconst (v := 2) X.1 X.2.1 dX11_takeHandAtStation_72 rfl ?_
    refine lv_aload_n X.1 X.2.1 dX11_takeHandAtStation_73 rfl (lv_at hl 3 rfl) ?_
    refine x_getR X hW fd_Link_tried (fun w h => List.mem_cons_of_mem _ (gin_X4 w h)) (List.mem_cons_of_mem _ gw849) qv2 dX11_takeHandAtStation_74 ?_
    obtain ⟨r28, S29, h30, h⟩ := cl_some h
    refine x_aftV X hW (x_runV (C := RX11) (a := G.2.2 10 0) (As := [.int v1, .int 0, .int 2, .ref (G.2.2 22 v2)]) (rest := []) X hW (c_X11_queueHand l G X.2.2.2.2.2.2.2.2.2.1 _ S26 v1 0 2 22 v2 _ h30) (cwV 4 X.2.2.2.2.1 (gV gw953 gw954 gw955 gw2 gw956) rfl rfl rfl ⟨rfl, hd_X11_queueHand⟩ ⟨Nat.le_of_ble_eq_true rfl, Nat.le_of_ble_eq_true rfl⟩) (x_recv X hW ob_Cell z_1) rfl hl.1 rfl (Nat.le_of_ble_eq_true rfl) dX11_takeHandAtStation_77 ⟨Nat.zero_le _, Nat.zero_le _⟩) (fun H locs hW => ?_)
    refine lv_goto (tgt := 141) X.1 X.2.1 dX11_takeHandAtStation_80 (by decide) ?_
    exact x_vret X hW h dX11_takeHandAtStation_141
theorem c_X11_takeHandAtStation (l : Launch) (G : xG) (hD : xD G false) (sz : Nat) (S : Mm) (v1 : Int32) (v2 : Nat) (cv3 : Nat) (v3 : Nat) (o : Unit × Mm) (h : F_X11_takeHandAtStation v1 v2 cv3 v3 S = some o) : Met l yX11_takeHandAtStation wsX11_takeHandAtStation rmX11_takeHandAtStation (xPre G false S sz [.ref (G.2.2 10 0), .int v1, .ref (G.2.2 3 v2), .ref (G.2.2 cv3 v3)]) (xQv G false sz o) 0 0 (XA G false sz) :=
  x_start hD (by decide) rfl (Nat.le_of_ble_eq_true rfl) (fun p e s m below meth c X hW ls hl => w_X11_takeHandAtStation_0 X v1 v2 cv3 v3 hW hl h)

/-! WirelessCell.takeData(I)V -/
def rmX11_takeData : Room := { frames := 8, cells := 0, slots := 0, locals := 211 }
def L_X11_takeData_163  (v1 : Int32) (v2 : Nat) (v4 : Int32) (v5 : Nat) (v6 : Int32) (S : Mm) : Option (Unit × Mm) :=
  if v6 = 0 then (
  gf S 62 v5 fun x30 =>
  if x30 < 3 then (
  some ((), S))
  else (
  if v1 = 0 then (
  cl (F_X11_takeHandAtAp v4 v5 27 v2 S) fun r34 S35 =>
  some ((), S35))
  else (
  cl (F_X11_takeHandAtStation v4 v5 27 v2 S) fun r31 S32 =>
  some ((), S32))))
  else (
  some ((), S))
def L_X11_takeData_139  (v1 : Int32) (v2 : Nat) (v4 : Int32) (v5 : Nat) (v6 : Int32) (S : Mm) : Option (Unit × Mm) :=
  if v6 = 0 then (
  L_X11_takeData_163  v1 v2 v4 v5 v6 S)
  else (
  if v1 = 0 then (
  cl (F_X11_queueBody 0 v4 192 7 S) fun r27 S28 =>
  some ((), S28))
  else (
  L_X11_takeData_163  v1 v2 v4 v5 v6 S))
def L_X11_takeData_89  (v1 : Int32) (v2 : Nat) (v4 : Int32) (v5 : Nat) (s0 : Int32) (S : Mm) : Option (Unit × Mm) :=
  if s0 = 0 then (
  L_X11_takeData_139  v1 v2 v4 v5 s0 S)
  else (
  gf S 62 v5 fun x16 =>
  if x16 = 4 then (
  ldR S 52 0 9 1 v1 9 fun i17 =>
  cl (F_X11_takeSealed i17 v5 27 v2 S) fun r18 S19 =>
  if r18 = 0 then (
  some ((), S19))
  else (
  cl (F_X2_nodeAt 27 v2 16 S19) fun r21 S22 =>
  cl (F_X11_passOn v1 v4 v5 r21 S22) fun r24 S25 =>
  some ((), S25)))
  else (
  L_X11_takeData_139  v1 v2 v4 v5 s0 S))
def L_X11_takeData_73  (v1 : Int32) (v2 : Nat) (v4 : Int32) (s0 : Nat) (S : Mm) : Option (Unit × Mm) :=
  ldA S 27 v2 300 40 1 fun x15 =>
  if (x15 &&& 64) = 0 then (
  L_X11_takeData_89  v1 v2 v4 s0 0 S)
  else (
  L_X11_takeData_89  v1 v2 v4 s0 1 S)
def L_X11_takeData_40  (v1 : Int32) (v2 : Nat) (v4 : Int32) (s0 : Int32) (s1 : Int32) (S : Mm) : Option (Unit × Mm) :=
  if s0 = s1 then (
  cl (F_X11_isStation v4 S) fun r10 S11 =>
  if r10 = 0 then (
  some ((), S11))
  else (
  if v1 = 0 then (
  ldR S11 54 0 9 1 v4 18 fun i14 =>
  L_X11_takeData_73  v1 v2 v4 i14 S11)
  else (
  ldR S11 53 0 9 1 v4 18 fun i13 =>
  L_X11_takeData_73  v1 v2 v4 i13 S11)))
  else (
  some ((), S))
def L_X11_takeData_28  (v1 : Int32) (v2 : Nat) (v3 : Int32) (s0 : Int32) (S : Mm) : Option (Unit × Mm) :=
  if v1 = 0 then (
  L_X11_takeData_40  v1 v2 s0 v3 1 S)
  else (
  L_X11_takeData_40  v1 v2 s0 v3 2 S)
def F_X11_takeData (v1 : Int32) (S : Mm) : Option (Unit × Mm) :=
  cl (F_X5_newestBytes S) fun r1 S2 =>
  nn r1 40 fun i4 =>
  ldA S2 27 i4 300 40 1 fun x5 =>
  tp (x5 &&& 3) fun x6 =>
  if v1 = 0 then (
  cl (F_X2_nodeAt 27 i4 10 S2) fun r7 S8 =>
  L_X11_takeData_28  v1 i4 x6 r7 S8)
  else (
  L_X11_takeData_28  v1 i4 x6 v1 S2)
set_option maxRecDepth 100000 in
set_option maxHeartbeats 4000000 in
theorem w_X11_takeData_163 {p : Program} {l : Launch} {e : Env} {s : State} {m : MethodId} {args : Array Value} {below : List Frame} {meth : Method} {c : Code} {G : xG} {sz : Nat} {o : Unit × Mm} (X : xC G false sz p s m args c cX11_takeData 7 wsX11_takeData RX11 meth none) (v1 : Int32) (v2 : Nat) (v4 : Int32) (v5 : Nat) (v6 : Int32) (qv5 : v5 < 18)  {S : Mm} {H : Heap} {locs : List Loc} {ls : Array Slot} (hW : xW G false sz s H locs S) (hl : lv_has ls 7 [(0, .ref (G.2.2 10 0)), (1, .int v1), (2, .ref (G.2.2 27 v2)), (4, .int v4), (5, .ref (G.2.2 3 v5)), (6, .int v6)]) (h : L_X11_takeData_163  v1 v2 v4 v5 v6 S = some o) : wX p l e rmX11_takeData s m args below meth c H locs (xQv G false sz o) (XA G false sz) 163 ls [] := by
  unfold L_X11_takeData_163 at h
  refine lv_iload X.1 X.2.1 dX11_takeData_163 (lv_at hl 5 rfl) ?_
  refine x_if_ne X (tgt := 202) dX11_takeData_165 (by decide) h (fun h => ?_) (fun h => ?_)
  · exact x_vret X hW h dX11_takeData_202
  · refine lv_aload X.1 X.2.1 dX11_takeData_168 (lv_at hl 4 rfl) ?_
    refine x_getI X hW fd_Link_state (fun w h => List.mem_cons_of_mem _ (gin_X4 w h)) (List.mem_cons_of_mem _ gw571) qv5 dX11_takeData_170 h (fun x30 h => ?_)
    refine lv_iconst (v := 3) X.1 X.2.1 dX11_takeData_173 rfl ?_
    refine x_icmp_lt X (tgt := 202) dX11_takeData_174 (by decide) h (fun h => ?_) (fun h => ?_)
    · exact x_vret X hW h dX11_takeData_202
    · refine lv_iload_n X.1 X.2.1 dX11_takeData_177 rfl (lv_at hl 1 rfl) ?_
      refine x_if_ne X (tgt := 193) dX11_takeData_178 (by decide) h (fun h => ?_) (fun h => ?_)
      · refine lv_aload_n X.1 X.2.1 dX11_takeData_193 rfl (lv_at hl 0 rfl) ?_
        refine lv_iload X.1 X.2.1 dX11_takeData_194 (lv_at hl 3 rfl) ?_
        refine lv_aload X.1 X.2.1 dX11_takeData_196 (lv_at hl 4 rfl) ?_
        refine lv_aload_n X.1 X.2.1 dX11_takeData_198 rfl (lv_at hl 2 rfl) ?_
        obtain ⟨r31, S32, h33, h⟩ := cl_some h
        refine x_aftV X hW (x_runV (C := RX11) (a := G.2.2 10 0) (As := [.int v4, .ref (G.2.2 3 v5), .ref (G.2.2 27 v2)]) (rest := []) X hW (c_X11_takeHandAtStation l G X.2.2.2.2.2.2.2.2.2.1 _ S v4 v5 27 v2 _ h33) (cwV 3 X.2.2.2.2.1 (gV gw962 gw963 gw964 gw2 gw965) rfl rfl rfl ⟨rfl, hd_X11_takeHandAtStation⟩ ⟨Nat.le_of_ble_eq_true rfl, Nat.le_of_ble_eq_true rfl⟩) (x_recv X hW ob_Cell z_1) rfl hl.1 rfl (Nat.le_of_ble_eq_true rfl) dX11_takeData_199 ⟨Nat.zero_le _, Nat.zero_le _⟩) (fun H locs hW => ?_)
        exact x_vret X hW h dX11_takeData_202
      · refine lv_aload_n X.1 X.2.1 dX11_takeData_181 rfl (lv_at hl 0 rfl) ?_
        refine lv_iload X.1 X.2.1 dX11_takeData_182 (lv_at hl 3 rfl) ?_
        refine lv_aload X.1 X.2.1 dX11_takeData_184 (lv_at hl 4 rfl) ?_
        refine lv_aload_n X.1 X.2.1 dX11_takeData_186 rfl (lv_at hl 2 rfl) ?_
        obtain ⟨r34, S35, h36, h⟩ := cl_some h
        refine x_aftV X hW (x_runV (C := RX11) (a := G.2.2 10 0) (As := [.int v4, .ref (G.2.2 3 v5), .ref (G.2.2 27 v2)]) (rest := []) X hW (c_X11_takeHandAtAp l G X.2.2.2.2.2.2.2.2.2.1 _ S v4 v5 27 v2 _ h36) (cwV 3 X.2.2.2.2.1 (gV gw844 gw845 gw846 gw2 gw847) rfl rfl rfl ⟨rfl, hd_X11_takeHandAtAp⟩ ⟨Nat.le_of_ble_eq_true rfl, Nat.le_of_ble_eq_true rfl⟩) (x_recv X hW ob_Cell z_1) rfl hl.1 rfl (Nat.le_of_ble_eq_true rfl) dX11_takeData_187 ⟨Nat.zero_le _, Nat.zero_le _⟩) (fun H locs hW => ?_)
        refine lv_goto (tgt := 202) X.1 X.2.1 dX11_takeData_190 (by decide) ?_
        exact x_vret X hW h dX11_takeData_202
set_option maxRecDepth 100000 in
set_option maxHeartbeats 4000000 in
theorem w_X11_takeData_139 {p : Program} {l : Launch} {e : Env} {s : State} {m : MethodId} {args : Array Value} {below : List Frame} {meth : Method} {c : Code} {G : xG} {sz : Nat} {o : Unit × Mm} (X : xC G false sz p s m args c cX11_takeData 7 wsX11_takeData RX11 meth none) (v1 : Int32) (v2 : Nat) (v4 : Int32) (v5 : Nat) (v6 : Int32) (qv5 : v5 < 18)  {S : Mm} {H : Heap} {locs : List Loc} {ls : Array Slot} (hW : xW G false sz s H locs S) (hl : lv_has ls 7 [(0, .ref (G.2.2 10 0)), (1, .int v1), (2, .ref (G.2.2 27 v2)), (4, .int v4), (5, .ref (G.2.2 3 v5)), (6, .int v6)]) (h : L_X11_takeData_139  v1 v2 v4 v5 v6 S = some o) : wX p l e rmX11_takeData s m args below meth c H locs (xQv G false sz o) (XA G false sz) 139 ls [] := by
  unfold L_X11_takeData_139 at h
  refine lv_iload X.1 X.2.1 dX11_takeData_139 (lv_at hl 5 rfl) ?_
  refine x_if_eq X (tgt := 163) dX11_takeData_141 (by decide) h (fun h => ?_) (fun h => ?_)
  · exact w_X11_takeData_163 X v1 v2 v4 v5 v6 qv5  hW (lv_sub hl [0, 1, 2, 3, 4, 5] rfl) h
  · refine lv_iload_n X.1 X.2.1 dX11_takeData_144 rfl (lv_at hl 1 rfl) ?_
    refine x_if_ne X (tgt := 163) dX11_takeData_145 (by decide) h (fun h => ?_) (fun h => ?_)
    · exact w_X11_takeData_163 X v1 v2 v4 v5 v6 qv5  hW (lv_sub hl [0, 1, 2, 3, 4, 5] rfl) h
    · refine lv_aload_n X.1 X.2.1 dX11_takeData_148 rfl (lv_at hl 0 rfl) ?_
      refine lv_iconst (v := 0) X.1 X.2.1 dX11_takeData_149 rfl ?_
      refine lv_iload X.1 X.2.1 dX11_takeData_150 (lv_at hl 3 rfl) ?_
      refine lv_sipush (v := 192) X.1 X.2.1 dX11_takeData_152 rfl ?_
      refine lv_bipush (v := 7) X.1 X.2.1 dX11_takeData_155 rfl ?_
      obtain ⟨r27, S28, h29, h⟩ := cl_some h
      refine x_aftV X hW (x_runV (C := RX11) (a := G.2.2 10 0) (As := [.int 0, .int v4, .int 192, .int 7]) (rest := []) X hW (c_X11_queueBody l G X.2.2.2.2.2.2.2.2.2.1 _ S 0 v4 192 7 _ h29) (cwV 4 X.2.2.2.2.1 (gV gw480 gw481 gw482 gw2 gw483) rfl rfl rfl ⟨rfl, hd_X11_queueBody⟩ ⟨Nat.le_of_ble_eq_true rfl, Nat.le_of_ble_eq_true rfl⟩) (x_recv X hW ob_Cell z_1) rfl hl.1 rfl (Nat.le_of_ble_eq_true rfl) dX11_takeData_157 ⟨Nat.zero_le _, Nat.zero_le _⟩) (fun H locs hW => ?_)
      refine lv_goto (tgt := 202) X.1 X.2.1 dX11_takeData_160 (by decide) ?_
      exact x_vret X hW h dX11_takeData_202
set_option maxRecDepth 100000 in
set_option maxHeartbeats 4000000 in
theorem w_X11_takeData_89 {p : Program} {l : Launch} {e : Env} {s : State} {m : MethodId} {args : Array Value} {below : List Frame} {meth : Method} {c : Code} {G : xG} {sz : Nat} {o : Unit × Mm} (X : xC G false sz p s m args c cX11_takeData 7 wsX11_takeData RX11 meth none) (v1 : Int32) (v2 : Nat) (v4 : Int32) (v5 : Nat) (s0 : Int32) (qv5 : v5 < 18)  {S : Mm} {H : Heap} {locs : List Loc} {ls : Array Slot} (hW : xW G false sz s H locs S) (hl : lv_has ls 7 [(0, .ref (G.2.2 10 0)), (1, .int v1), (2, .ref (G.2.2 27 v2)), (4, .int v4), (5, .ref (G.2.2 3 v5))]) (h : L_X11_takeData_89  v1 v2 v4 v5 s0 S = some o) : wX p l e rmX11_takeData s m args below meth c H locs (xQv G false sz o) (XA G false sz) 89 ls [.int s0] := by
  unfold L_X11_takeData_89 at h
  refine lv_istore (lv' := [(6, .int s0), (0, .ref (G.2.2 10 0)), (1, .int v1), (2, .ref (G.2.2 27 v2)), (4, .int v4), (5, .ref (G.2.2 3 v5))]) X.1 X.2.1 dX11_takeData_89 hl (by decide) rfl (fun ls hl => ?_)
  refine lv_iload X.1 X.2.1 dX11_takeData_91 (lv_at hl 0 rfl) ?_
  refine x_if_eq X (tgt := 139) dX11_takeData_93 (by decide) h (fun h => ?_) (fun h => ?_)
  · exact w_X11_takeData_139 X v1 v2 v4 v5 s0 qv5  hW (lv_sub hl [1, 2, 3, 4, 5, 0] rfl) h
  · refine lv_aload X.1 X.2.1 dX11_takeData_96 (lv_at hl 5 rfl) ?_
    refine x_getI X hW fd_Link_state (fun w h => List.mem_cons_of_mem _ (gin_X4 w h)) (List.mem_cons_of_mem _ gw571) qv5 dX11_takeData_98 h (fun x16 h => ?_)
    refine lv_iconst (v := 4) X.1 X.2.1 dX11_takeData_101 rfl ?_
    refine x_icmp_ne X (tgt := 139) dX11_takeData_102 (by decide) h (fun h => ?_) (fun h => ?_)
    · exact w_X11_takeData_139 X v1 v2 v4 v5 s0 qv5  hW (lv_sub hl [1, 2, 3, 4, 5, 0] rfl) h
    · refine lv_aload_n X.1 X.2.1 dX11_takeData_105 rfl (lv_at hl 1 rfl) ?_
      refine lv_aload_n X.1 X.2.1 dX11_takeData_106 rfl (lv_at hl 1 rfl) ?_
      refine x_getR X hW fd_Cell_nodes (fun w h => List.mem_cons_of_mem _ (gin_X11 w h)) (List.mem_cons_of_mem _ gw14) z_1 dX11_takeData_107 ?_
      refine lv_iload_n X.1 X.2.1 dX11_takeData_110 rfl (lv_at hl 2 rfl) ?_
      refine x_aald X hW ar_52 (ct := 6) rfl (at_52 G) rfl dX11_takeData_111 h (fun i17 qi17 h => ?_)
      refine lv_aload X.1 X.2.1 dX11_takeData_112 (lv_at hl 5 rfl) ?_
      refine lv_aload_n X.1 X.2.1 dX11_takeData_114 rfl (lv_at hl 3 rfl) ?_
      obtain ⟨r18, S19, h20, h⟩ := cl_some h
      refine x_aftI X hW (x_runV (C := RX11) (a := G.2.2 10 0) (As := [.ref (G.2.2 6 i17), .ref (G.2.2 3 v5), .ref (G.2.2 27 v2)]) (rest := []) X hW (c_X11_takeSealed l G X.2.2.2.2.2.2.2.2.2.1 _ S i17 v5 27 v2 _ h20) (cwV 3 X.2.2.2.2.1 (gV gw796 gw797 gw798 gw2 gw799) rfl rfl rfl ⟨rfl, hd_X11_takeSealed⟩ ⟨Nat.le_of_ble_eq_true rfl, Nat.le_of_ble_eq_true rfl⟩) (x_recv X hW ob_Cell z_1) rfl hl.1 rfl (Nat.le_of_ble_eq_true rfl) dX11_takeData_115 ⟨Nat.zero_le _, Nat.zero_le _⟩) (fun H locs hW => ?_)
      refine x_if_eq X (tgt := 202) dX11_takeData_118 (by decide) h (fun h => ?_) (fun h => ?_)
      · exact x_vret X hW h dX11_takeData_202
      · refine lv_aload_n X.1 X.2.1 dX11_takeData_121 rfl (lv_at hl 1 rfl) ?_
        refine lv_iload_n X.1 X.2.1 dX11_takeData_122 rfl (lv_at hl 2 rfl) ?_
        refine lv_iload X.1 X.2.1 dX11_takeData_123 (lv_at hl 4 rfl) ?_
        refine lv_aload X.1 X.2.1 dX11_takeData_125 (lv_at hl 5 rfl) ?_
        refine lv_aload_n X.1 X.2.1 dX11_takeData_127 rfl (lv_at hl 3 rfl) ?_
        refine lv_bipush (v := 16) X.1 X.2.1 dX11_takeData_128 rfl ?_
        obtain ⟨r21, S22, h23, h⟩ := cl_some h
        refine x_aftI X hW (x_runS (As := [.ref (G.2.2 27 v2), .int 16]) (rest := [.ref (G.2.2 3 v5), .int v4, .int v1, .ref (G.2.2 10 0)]) X hW (c_X2_nodeAt l G X.2.2.2.2.2.2.2.2.2.1 _ S19 27 v2 16 _ h23) (va_cwS 2 X.2.2.2.2.1 (gS gw776 gw777 gw267 gw778) rfl rfl rfl hd_X2_nodeAt ⟨Nat.le_of_ble_eq_true rfl, Nat.le_of_ble_eq_true rfl⟩) rfl hl.1 rfl (Nat.le_of_ble_eq_true rfl) dX11_takeData_130 ⟨Nat.zero_le _, Nat.zero_le _⟩) (fun H locs hW => ?_)
        obtain ⟨r24, S25, h26, h⟩ := cl_some h
        refine x_aftV X hW (x_runV (C := RX11) (a := G.2.2 10 0) (As := [.int v1, .int v4, .ref (G.2.2 3 v5), .int r21]) (rest := []) X hW (c_X11_passOn l G X.2.2.2.2.2.2.2.2.2.1 _ S22 v1 v4 v5 r21 _ h26) (cwV 4 X.2.2.2.2.1 (gV gw829 gw830 gw831 gw2 gw832) rfl rfl rfl ⟨rfl, hd_X11_passOn⟩ ⟨Nat.le_of_ble_eq_true rfl, Nat.le_of_ble_eq_true rfl⟩) (x_recv X hW ob_Cell z_1) rfl hl.1 rfl (Nat.le_of_ble_eq_true rfl) dX11_takeData_133 ⟨Nat.zero_le _, Nat.zero_le _⟩) (fun H locs hW => ?_)
        refine lv_goto (tgt := 202) X.1 X.2.1 dX11_takeData_136 (by decide) ?_
        exact x_vret X hW h dX11_takeData_202
set_option maxRecDepth 100000 in
set_option maxHeartbeats 4000000 in
theorem w_X11_takeData_73 {p : Program} {l : Launch} {e : Env} {s : State} {m : MethodId} {args : Array Value} {below : List Frame} {meth : Method} {c : Code} {G : xG} {sz : Nat} {o : Unit × Mm} (X : xC G false sz p s m args c cX11_takeData 7 wsX11_takeData RX11 meth none) (v1 : Int32) (v2 : Nat) (v4 : Int32) (s0 : Nat) (qs0 : s0 < 18)  {S : Mm} {H : Heap} {locs : List Loc} {ls : Array Slot} (hW : xW G false sz s H locs S) (hl : lv_has ls 7 [(0, .ref (G.2.2 10 0)), (1, .int v1), (2, .ref (G.2.2 27 v2)), (4, .int v4)]) (h : L_X11_takeData_73  v1 v2 v4 s0 S = some o) : wX p l e rmX11_takeData s m args below meth c H locs (xQv G false sz o) (XA G false sz) 73 ls [.ref (G.2.2 3 s0)] := by
  unfold L_X11_takeData_73 at h
  refine lv_astore (lv' := [(5, .ref (G.2.2 3 s0)), (0, .ref (G.2.2 10 0)), (1, .int v1), (2, .ref (G.2.2 27 v2)), (4, .int v4)]) X.1 X.2.1 dX11_takeData_73 hl (by decide) rfl (fun ls hl => ?_)
  refine lv_aload_n X.1 X.2.1 dX11_takeData_75 rfl (lv_at hl 3 rfl) ?_
  refine lv_iconst (v := 1) X.1 X.2.1 dX11_takeData_76 rfl ?_
  refine x_iald X hW ar_27 dX11_takeData_77 h (fun x15 h => ?_)
  refine lv_bipush (v := 64) X.1 X.2.1 dX11_takeData_78 rfl ?_
  refine lv_iand X.1 X.2.1 dX11_takeData_80 ?_
  refine x_if_eq X (tgt := 88) dX11_takeData_81 (by decide) h (fun h => ?_) (fun h => ?_)
  · refine lv_iconst (v := 0) X.1 X.2.1 dX11_takeData_88 rfl ?_
    exact w_X11_takeData_89 X v1 v2 v4 s0 0 qs0  hW (lv_sub hl [1, 2, 3, 4, 0] rfl) h
  · refine lv_iconst (v := 1) X.1 X.2.1 dX11_takeData_84 rfl ?_
    refine lv_goto (tgt := 89) X.1 X.2.1 dX11_takeData_85 (by decide) ?_
    exact w_X11_takeData_89 X v1 v2 v4 s0 1 qs0  hW (lv_sub hl [1, 2, 3, 4, 0] rfl) h
set_option maxRecDepth 100000 in
set_option maxHeartbeats 4000000 in
theorem w_X11_takeData_40 {p : Program} {l : Launch} {e : Env} {s : State} {m : MethodId} {args : Array Value} {below : List Frame} {meth : Method} {c : Code} {G : xG} {sz : Nat} {o : Unit × Mm} (X : xC G false sz p s m args c cX11_takeData 7 wsX11_takeData RX11 meth none) (v1 : Int32) (v2 : Nat) (v4 : Int32) (s0 : Int32) (s1 : Int32)   {S : Mm} {H : Heap} {locs : List Loc} {ls : Array Slot} (hW : xW G false sz s H locs S) (hl : lv_has ls 7 [(0, .ref (G.2.2 10 0)), (1, .int v1), (2, .ref (G.2.2 27 v2)), (4, .int v4)]) (h : L_X11_takeData_40  v1 v2 v4 s0 s1 S = some o) : wX p l e rmX11_takeData s m args below meth c H locs (xQv G false sz o) (XA G false sz) 40 ls [.int s1, .int s0] := by
  unfold L_X11_takeData_40 at h
  refine x_icmp_ne X (tgt := 51) dX11_takeData_40 (by decide) h (fun h => ?_) (fun h => ?_)
  · exact x_vret X hW h dX11_takeData_51
  · refine lv_iload X.1 X.2.1 dX11_takeData_43 (lv_at hl 3 rfl) ?_
    obtain ⟨r10, S11, h12, h⟩ := cl_some h
    refine x_aftI X hW (x_runS (As := [.int v4]) (rest := []) X hW (c_X11_isStation l G X.2.2.2.2.2.2.2.2.2.1 _ S v4 _ h12) (va_cwS 1 X.2.2.2.2.1 (gS gw359 gw360 gw2 gw361) rfl rfl rfl hd_X11_isStation ⟨Nat.le_of_ble_eq_true rfl, Nat.le_of_ble_eq_true rfl⟩) rfl hl.1 rfl (Nat.le_of_ble_eq_true rfl) dX11_takeData_45 ⟨Nat.zero_le _, Nat.zero_le _⟩) (fun H locs hW => ?_)
    refine x_if_ne X (tgt := 52) dX11_takeData_48 (by decide) h (fun h => ?_) (fun h => ?_)
    · refine lv_iload_n X.1 X.2.1 dX11_takeData_52 rfl (lv_at hl 1 rfl) ?_
      refine x_if_ne X (tgt := 66) dX11_takeData_53 (by decide) h (fun h => ?_) (fun h => ?_)
      · refine lv_aload_n X.1 X.2.1 dX11_takeData_66 rfl (lv_at hl 0 rfl) ?_
        refine x_getR X hW fd_Cell_bySelf (fun w h => List.mem_cons_of_mem _ (gin_X11 w h)) (List.mem_cons_of_mem _ gw16) z_1 dX11_takeData_67 ?_
        refine lv_iload X.1 X.2.1 dX11_takeData_70 (lv_at hl 3 rfl) ?_
        refine x_aald X hW ar_53 (ct := 3) rfl (at_53 G) rfl dX11_takeData_72 h (fun i13 qi13 h => ?_)
        exact w_X11_takeData_73 X v1 v2 v4 i13 qi13  hW (lv_sub hl [0, 1, 2, 3] rfl) h
      · refine lv_aload_n X.1 X.2.1 dX11_takeData_56 rfl (lv_at hl 0 rfl) ?_
        refine x_getR X hW fd_Cell_byAp (fun w h => List.mem_cons_of_mem _ (gin_X11 w h)) (List.mem_cons_of_mem _ gw17) z_1 dX11_takeData_57 ?_
        refine lv_iload X.1 X.2.1 dX11_takeData_60 (lv_at hl 3 rfl) ?_
        refine x_aald X hW ar_54 (ct := 3) rfl (at_54 G) rfl dX11_takeData_62 h (fun i14 qi14 h => ?_)
        refine lv_goto (tgt := 73) X.1 X.2.1 dX11_takeData_63 (by decide) ?_
        exact w_X11_takeData_73 X v1 v2 v4 i14 qi14  hW (lv_sub hl [0, 1, 2, 3] rfl) h
    · exact x_vret X hW h dX11_takeData_51
set_option maxRecDepth 100000 in
set_option maxHeartbeats 4000000 in
theorem w_X11_takeData_28 {p : Program} {l : Launch} {e : Env} {s : State} {m : MethodId} {args : Array Value} {below : List Frame} {meth : Method} {c : Code} {G : xG} {sz : Nat} {o : Unit × Mm} (X : xC G false sz p s m args c cX11_takeData 7 wsX11_takeData RX11 meth none) (v1 : Int32) (v2 : Nat) (v3 : Int32) (s0 : Int32)   {S : Mm} {H : Heap} {locs : List Loc} {ls : Array Slot} (hW : xW G false sz s H locs S) (hl : lv_has ls 7 [(0, .ref (G.2.2 10 0)), (1, .int v1), (2, .ref (G.2.2 27 v2)), (3, .int v3)]) (h : L_X11_takeData_28  v1 v2 v3 s0 S = some o) : wX p l e rmX11_takeData s m args below meth c H locs (xQv G false sz o) (XA G false sz) 28 ls [.int s0] := by
  unfold L_X11_takeData_28 at h
  refine lv_istore (lv' := [(4, .int s0), (0, .ref (G.2.2 10 0)), (1, .int v1), (2, .ref (G.2.2 27 v2)), (3, .int v3)]) X.1 X.2.1 dX11_takeData_28 hl (by decide) rfl (fun ls hl => ?_)
  refine lv_iload_n X.1 X.2.1 dX11_takeData_30 rfl (lv_at hl 4 rfl) ?_
  refine lv_iload_n X.1 X.2.1 dX11_takeData_31 rfl (lv_at hl 2 rfl) ?_
  refine x_if_ne X (tgt := 39) dX11_takeData_32 (by decide) h (fun h => ?_) (fun h => ?_)
  · refine lv_iconst (v := 2) X.1 X.2.1 dX11_takeData_39 rfl ?_
    exact w_X11_takeData_40 X v1 v2 s0 v3 2   hW (lv_sub hl [1, 2, 3, 0] rfl) h
  · refine lv_iconst (v := 1) X.1 X.2.1 dX11_takeData_35 rfl ?_
    refine lv_goto (tgt := 40) X.1 X.2.1 dX11_takeData_36 (by decide) ?_
    exact w_X11_takeData_40 X v1 v2 s0 v3 1   hW (lv_sub hl [1, 2, 3, 0] rfl) h
set_option maxRecDepth 100000 in
set_option maxHeartbeats 4000000 in
theorem w_X11_takeData_0 {p : Program} {l : Launch} {e : Env} {s : State} {m : MethodId} {args : Array Value} {below : List Frame} {meth : Method} {c : Code} {G : xG} {sz : Nat} {o : Unit × Mm} (X : xC G false sz p s m args c cX11_takeData 7 wsX11_takeData RX11 meth none) (v1 : Int32) {S : Mm} {H : Heap} {locs : List Loc} {ls : Array Slot} (hW : xW G false sz s H locs S) (hl : lv_has ls 7 [(0, .ref (G.2.2 10 0)), (1, .int v1)]) (h : F_X11_takeData v1 S = some o) : wX p l e rmX11_takeData s m args below meth c H locs (xQv G false sz o) (XA G false sz) 0 ls [] := by
  unfold F_X11_takeData at h
  refine lv_aload_n X.1 X.2.1 dX11_takeData_0 rfl (lv_at hl 0 rfl) ?_
  refine x_getR X hW fd_Cell_medium (fun w h => List.mem_cons_of_mem _ (gin_X11 w h)) (List.mem_cons_of_mem _ gw21) z_1 dX11_takeData_1 ?_
  obtain ⟨r1, S2, h3, h⟩ := cl_some h
  refine x_aftQ X hW (x_runV (C := RX5) (a := G.2.2 4 0) (As := []) (rest := []) X hW (c_X5_newestBytes l G X.2.2.2.2.2.2.2.2.2.1 _ S _ h3) (cwV 0 X.2.2.2.2.1 (gV gw759 gw760 gw761 gw20 gw762) rfl rfl rfl ⟨rfl, hd_X5_newestBytes⟩ ⟨Nat.le_of_ble_eq_true rfl, Nat.le_of_ble_eq_true rfl⟩) (x_recv X hW ob_Medium z_1) rfl hl.1 rfl (Nat.le_of_ble_eq_true rfl) dX11_takeData_4 ⟨Nat.zero_le _, Nat.zero_le _⟩) (fun H locs hW => ?_)
  refine x_nn h (fun i4 qi4 h => ?_)
  refine lv_astore_n (lv' := [(2, .ref (G.2.2 27 i4)), (0, .ref (G.2.2 10 0)), (1, .int v1)]) X.1 X.2.1 dX11_takeData_7 rfl hl (by decide) rfl (fun ls hl => ?_)
  refine lv_aload_n X.1 X.2.1 dX11_takeData_8 rfl (lv_at hl 0 rfl) ?_
  refine lv_iconst (v := 1) X.1 X.2.1 dX11_takeData_9 rfl ?_
  refine x_iald X hW ar_27 dX11_takeData_10 h (fun x5 h => ?_)
  refine lv_iconst (v := 3) X.1 X.2.1 dX11_takeData_11 rfl ?_
  refine lv_iand X.1 X.2.1 dX11_takeData_12 ?_
  refine x_top h (fun x6 h => ?_)
  refine lv_istore_n (lv' := [(3, .int x6), (2, .ref (G.2.2 27 i4)), (0, .ref (G.2.2 10 0)), (1, .int v1)]) X.1 X.2.1 dX11_takeData_13 rfl hl (by decide) rfl (fun ls hl => ?_)
  refine lv_iload_n X.1 X.2.1 dX11_takeData_14 rfl (lv_at hl 3 rfl) ?_
  refine x_if_ne X (tgt := 27) dX11_takeData_15 (by decide) h (fun h => ?_) (fun h => ?_)
  · refine lv_iload_n X.1 X.2.1 dX11_takeData_27 rfl (lv_at hl 3 rfl) ?_
    exact w_X11_takeData_28 X v1 i4 x6 v1   hW (lv_sub hl [2, 3, 1, 0] rfl) h
  · refine lv_aload_n X.1 X.2.1 dX11_takeData_18 rfl (lv_at hl 1 rfl) ?_
    refine lv_bipush (v := 10) X.1 X.2.1 dX11_takeData_19 rfl ?_
    obtain ⟨r7, S8, h9, h⟩ := cl_some h
    refine x_aftI X hW (x_runS (As := [.ref (G.2.2 27 i4), .int 10]) (rest := []) X hW (c_X2_nodeAt l G X.2.2.2.2.2.2.2.2.2.1 _ S2 27 i4 10 _ h9) (va_cwS 2 X.2.2.2.2.1 (gS gw776 gw777 gw267 gw778) rfl rfl rfl hd_X2_nodeAt ⟨Nat.le_of_ble_eq_true rfl, Nat.le_of_ble_eq_true rfl⟩) rfl hl.1 rfl (Nat.le_of_ble_eq_true rfl) dX11_takeData_21 ⟨Nat.zero_le _, Nat.zero_le _⟩) (fun H locs hW => ?_)
    refine lv_goto (tgt := 28) X.1 X.2.1 dX11_takeData_24 (by decide) ?_
    exact w_X11_takeData_28 X v1 i4 x6 r7   hW (lv_sub hl [2, 3, 1, 0] rfl) h
theorem c_X11_takeData (l : Launch) (G : xG) (hD : xD G false) (sz : Nat) (S : Mm) (v1 : Int32) (o : Unit × Mm) (h : F_X11_takeData v1 S = some o) : Met l yX11_takeData wsX11_takeData rmX11_takeData (xPre G false S sz [.ref (G.2.2 10 0), .int v1]) (xQv G false sz o) 0 0 (XA G false sz) :=
  x_start hD (by decide) rfl (Nat.le_of_ble_eq_true rfl) (fun p e s m below meth c X hW ls hl => w_X11_takeData_0 X v1 hW hl h)

/-! WirelessCell.hasBody(II)Z -/
def rmX11_hasBody : Room := { frames := 3, cells := 0, slots := 0, locals := 68 }
def L_X11_hasBody_41   (S : Mm) : Option (Int32 × Mm) :=
  some (0, S)
def F_X11_hasBody (v1 : Int32) (v2 : Int32) (S : Mm) : Option (Int32 × Mm) :=
  cl (F_X5_newestBytes S) fun r1 S2 =>
  nn r1 40 fun i4 =>
  cl (F_X5_newestLength S2) fun r5 S6 =>
  tp (r5 - 28) fun x8 =>
  ldA S6 27 i4 300 40 0 fun x9 =>
  if x9 = v1 then (
  cl (F_X2_writeBody 58 0 v1 v2 S6) fun r10 S11 =>
  if x8 = r10 then (
  cl (F_X2_sameBytes 27 i4 24 58 0 0 x8 S11) fun r13 S14 =>
  gd (r13 &&& 1 = r13) (some (r13, S14)))
  else (
  L_X11_hasBody_41  S11))
  else (
  L_X11_hasBody_41  S6)
set_option maxRecDepth 100000 in
set_option maxHeartbeats 4000000 in
theorem w_X11_hasBody_41 {p : Program} {l : Launch} {e : Env} {s : State} {m : MethodId} {args : Array Value} {below : List Frame} {meth : Method} {c : Code} {G : xG} {sz : Nat} {o : Int32 × Mm} (X : xC G false sz p s m args c cX11_hasBody 5 wsX11_hasBody RX11 meth (some .boolean))    {S : Mm} {H : Heap} {locs : List Loc} {ls : Array Slot} (hW : xW G false sz s H locs S) (hl : lv_has ls 5 []) (h : L_X11_hasBody_41   S = some o) : wX p l e rmX11_hasBody s m args below meth c H locs (xQi G false sz o) (XA G false sz) 41 ls [] := by
  unfold L_X11_hasBody_41 at h
  refine lv_iconst (v := 0) X.1 X.2.1 dX11_hasBody_41 rfl ?_
  exact x_zret X hW h rfl dX11_hasBody_42
set_option maxRecDepth 100000 in
set_option maxHeartbeats 4000000 in
theorem w_X11_hasBody_0 {p : Program} {l : Launch} {e : Env} {s : State} {m : MethodId} {args : Array Value} {below : List Frame} {meth : Method} {c : Code} {G : xG} {sz : Nat} {o : Int32 × Mm} (X : xC G false sz p s m args c cX11_hasBody 5 wsX11_hasBody RX11 meth (some .boolean)) (v1 : Int32) (v2 : Int32) {S : Mm} {H : Heap} {locs : List Loc} {ls : Array Slot} (hW : xW G false sz s H locs S) (hl : lv_has ls 5 [(0, .ref (G.2.2 10 0)), (1, .int v1), (2, .int v2)]) (h : F_X11_hasBody v1 v2 S = some o) : wX p l e rmX11_hasBody s m args below meth c H locs (xQi G false sz o) (XA G false sz) 0 ls [] := by
  unfold F_X11_hasBody at h
  refine lv_aload_n X.1 X.2.1 dX11_hasBody_0 rfl (lv_at hl 0 rfl) ?_
  refine x_getR X hW fd_Cell_medium (fun w h => List.mem_cons_of_mem _ (gin_X11 w h)) (List.mem_cons_of_mem _ gw21) z_1 dX11_hasBody_1 ?_
  obtain ⟨r1, S2, h3, h⟩ := cl_some h
  refine x_aftQ X hW (x_runV (C := RX5) (a := G.2.2 4 0) (As := []) (rest := []) X hW (c_X5_newestBytes l G X.2.2.2.2.2.2.2.2.2.1 _ S _ h3) (cwV 0 X.2.2.2.2.1 (gV gw759 gw760 gw761 gw20 gw762) rfl rfl rfl ⟨rfl, hd_X5_newestBytes⟩ ⟨Nat.le_of_ble_eq_true rfl, Nat.le_of_ble_eq_true rfl⟩) (x_recv X hW ob_Medium z_1) rfl hl.1 rfl (Nat.le_of_ble_eq_true rfl) dX11_hasBody_4 ⟨Nat.zero_le _, Nat.zero_le _⟩) (fun H locs hW => ?_)
  refine x_nn h (fun i4 qi4 h => ?_)
  refine lv_astore_n (lv' := [(3, .ref (G.2.2 27 i4)), (0, .ref (G.2.2 10 0)), (1, .int v1), (2, .int v2)]) X.1 X.2.1 dX11_hasBody_7 rfl hl (by decide) rfl (fun ls hl => ?_)
  refine lv_aload_n X.1 X.2.1 dX11_hasBody_8 rfl (lv_at hl 1 rfl) ?_
  refine x_getR X hW fd_Cell_medium (fun w h => List.mem_cons_of_mem _ (gin_X11 w h)) (List.mem_cons_of_mem _ gw21) z_1 dX11_hasBody_9 ?_
  obtain ⟨r5, S6, h7, h⟩ := cl_some h
  refine x_aftI X hW (x_runV (C := RX5) (a := G.2.2 4 0) (As := []) (rest := []) X hW (c_X5_newestLength l G X.2.2.2.2.2.2.2.2.2.1 _ S2 _ h7) (cwV 0 X.2.2.2.2.1 (gV gw763 gw764 gw765 gw20 gw766) rfl rfl rfl ⟨rfl, hd_X5_newestLength⟩ ⟨Nat.le_of_ble_eq_true rfl, Nat.le_of_ble_eq_true rfl⟩) (x_recv X hW ob_Medium z_1) rfl hl.1 rfl (Nat.le_of_ble_eq_true rfl) dX11_hasBody_12 ⟨Nat.zero_le _, Nat.zero_le _⟩) (fun H locs hW => ?_)
  refine lv_bipush (v := 28) X.1 X.2.1 dX11_hasBody_15 rfl ?_
  refine lv_isub X.1 X.2.1 dX11_hasBody_17 ?_
  refine x_top h (fun x8 h => ?_)
  refine lv_istore (lv' := [(4, .int x8), (3, .ref (G.2.2 27 i4)), (0, .ref (G.2.2 10 0)), (1, .int v1), (2, .int v2)]) X.1 X.2.1 dX11_hasBody_18 hl (by decide) rfl (fun ls hl => ?_)
  refine lv_aload_n X.1 X.2.1 dX11_hasBody_20 rfl (lv_at hl 1 rfl) ?_
  refine lv_iconst (v := 0) X.1 X.2.1 dX11_hasBody_21 rfl ?_
  refine x_iald X hW ar_27 dX11_hasBody_22 h (fun x9 h => ?_)
  refine lv_iload_n X.1 X.2.1 dX11_hasBody_23 rfl (lv_at hl 3 rfl) ?_
  refine x_icmp_ne X (tgt := 41) dX11_hasBody_24 (by decide) h (fun h => ?_) (fun h => ?_)
  · exact w_X11_hasBody_41 X    hW (lv_sub hl [] rfl) h
  · refine lv_iload X.1 X.2.1 dX11_hasBody_27 (lv_at hl 0 rfl) ?_
    refine lv_aload_n X.1 X.2.1 dX11_hasBody_29 rfl (lv_at hl 2 rfl) ?_
    refine x_getR X hW fd_Cell_bodyAsTold (fun w h => List.mem_cons_of_mem _ (gin_X11 w h)) (List.mem_cons_of_mem _ gw44) z_1 dX11_hasBody_30 ?_
    refine lv_iload_n X.1 X.2.1 dX11_hasBody_33 rfl (lv_at hl 3 rfl) ?_
    refine lv_iload_n X.1 X.2.1 dX11_hasBody_34 rfl (lv_at hl 4 rfl) ?_
    obtain ⟨r10, S11, h12, h⟩ := cl_some h
    refine x_aftI X hW (x_runS (As := [.ref (G.2.2 58 0), .int v1, .int v2]) (rest := [.int x8]) X hW (c_X2_writeBody l G X.2.2.2.2.2.2.2.2.2.1 _ S6 58 0 v1 v2 _ h12) (va_cwS 3 X.2.2.2.2.1 (gS gw512 gw513 gw267 gw514) rfl rfl rfl hd_X2_writeBody ⟨Nat.le_of_ble_eq_true rfl, Nat.le_of_ble_eq_true rfl⟩) rfl hl.1 rfl (Nat.le_of_ble_eq_true rfl) dX11_hasBody_35 ⟨Nat.zero_le _, Nat.zero_le _⟩) (fun H locs hW => ?_)
    refine x_icmp_eq X (tgt := 43) dX11_hasBody_38 (by decide) h (fun h => ?_) (fun h => ?_)
    · refine lv_aload_n X.1 X.2.1 dX11_hasBody_43 rfl (lv_at hl 1 rfl) ?_
      refine lv_bipush (v := 24) X.1 X.2.1 dX11_hasBody_44 rfl ?_
      refine lv_aload_n X.1 X.2.1 dX11_hasBody_46 rfl (lv_at hl 2 rfl) ?_
      refine x_getR X hW fd_Cell_bodyAsTold (fun w h => List.mem_cons_of_mem _ (gin_X11 w h)) (List.mem_cons_of_mem _ gw44) z_1 dX11_hasBody_47 ?_
      refine lv_iconst (v := 0) X.1 X.2.1 dX11_hasBody_50 rfl ?_
      refine lv_iload X.1 X.2.1 dX11_hasBody_51 (lv_at hl 0 rfl) ?_
      obtain ⟨r13, S14, h15, h⟩ := cl_some h
      refine x_aftI X hW (x_runS (As := [.ref (G.2.2 27 i4), .int 24, .ref (G.2.2 58 0), .int 0, .int x8]) (rest := []) X hW (c_X2_sameBytes l G X.2.2.2.2.2.2.2.2.2.1 _ S11 27 i4 24 58 0 0 x8 _ h15) (va_cwS 5 X.2.2.2.2.1 (gS gw948 gw827 gw267 gw828) rfl rfl rfl hd_X2_sameBytes ⟨Nat.le_of_ble_eq_true rfl, Nat.le_of_ble_eq_true rfl⟩) rfl hl.1 rfl (Nat.le_of_ble_eq_true rfl) dX11_hasBody_53 ⟨Nat.zero_le _, Nat.zero_le _⟩) (fun H locs hW => ?_)
      obtain ⟨g16, h⟩ := if_some h
      exact x_zret X hW h g16 dX11_hasBody_56
    · exact w_X11_hasBody_41 X    hW (lv_sub hl [] rfl) h
theorem c_X11_hasBody (l : Launch) (G : xG) (hD : xD G false) (sz : Nat) (S : Mm) (v1 : Int32) (v2 : Int32) (o : Int32 × Mm) (h : F_X11_hasBody v1 v2 S = some o) : Met l yX11_hasBody wsX11_hasBody rmX11_hasBody (xPre G false S sz [.ref (G.2.2 10 0), .int v1, .int v2]) (xQi G false sz o) 0 0 (XA G false sz) :=
  x_start hD (by decide) rfl (Nat.le_of_ble_eq_true rfl) (fun p e s m below meth c X hW ls hl => w_X11_hasBody_0 X v1 v2 hW hl h)

/-! WirelessCell.actAtAp(I[I)V -/
def rmX11_actAtAp : Room := { frames := 5, cells := 0, slots := 0, locals := 122 }
def L_X11_actAtAp_81  (v1 : Int32) (cv2 : Nat) (v2 : Nat) (v3 : Nat) (S : Mm) : Option (Unit × Mm) :=
  cl (F_X11_hasBody 0 0 S) fun r24 S25 =>
  if r24 = 0 then (
  ldP false S25 cv2 v2 24 fun x27 =>
  cl (F_X11_hasBody 192 x27 S25) fun r28 S29 =>
  if r28 = 0 then (
  some ((), S29))
  else (
  cl (F_X4_loseKey v3 1 S29) fun r31 S32 =>
  some ((), S32)))
  else (
  cl (F_X11_queueBody 0 v1 192 6 S25) fun r34 S35 =>
  some ((), S35))
def F_X11_actAtAp (v1 : Int32) (cv2 : Nat) (v2 : Nat) (S : Mm) : Option (Unit × Mm) :=
  ldR S 54 0 9 1 v1 18 fun i1 =>
  cl (F_X11_hasBody 176 1 S) fun r2 S3 =>
  if r2 = 0 then (
  cl (F_X11_hasBody 0 0 S3) fun r5 S6 =>
  if r5 = 0 then (
  L_X11_actAtAp_81  v1 cv2 v2 i1 S6)
  else (
  gf S6 62 i1 fun x8 =>
  if x8 < 2 then (
  L_X11_actAtAp_81  v1 cv2 v2 i1 S6)
  else (
  cl (F_X4_loseKey i1 3 S6) fun r9 S10 =>
  cl (F_X11_queueBody 0 v1 16 v1 S10) fun r12 S13 =>
  cl (F_X11_queueHand 0 v1 1 22 i1 S13) fun r15 S16 =>
  some ((), S16))))
  else (
  cl (F_X4_loseKey i1 2 S3) fun r18 S19 =>
  cl (F_X11_queueBody 0 v1 176 2 S19) fun r21 S22 =>
  some ((), S22))
set_option maxRecDepth 100000 in
set_option maxHeartbeats 4000000 in
theorem w_X11_actAtAp_81 {p : Program} {l : Launch} {e : Env} {s : State} {m : MethodId} {args : Array Value} {below : List Frame} {meth : Method} {c : Code} {G : xG} {sz : Nat} {o : Unit × Mm} (X : xC G false sz p s m args c cX11_actAtAp 4 wsX11_actAtAp RX11 meth none) (v1 : Int32) (cv2 : Nat) (v2 : Nat) (v3 : Nat) (qv3 : v3 < 18)  {S : Mm} {H : Heap} {locs : List Loc} {ls : Array Slot} (hW : xW G false sz s H locs S) (hl : lv_has ls 4 [(0, .ref (G.2.2 10 0)), (1, .int v1), (2, .ref (G.2.2 cv2 v2)), (3, .ref (G.2.2 3 v3))]) (h : L_X11_actAtAp_81  v1 cv2 v2 v3 S = some o) : wX p l e rmX11_actAtAp s m args below meth c H locs (xQv G false sz o) (XA G false sz) 81 ls [] := by
  unfold L_X11_actAtAp_81 at h
  refine lv_aload_n X.1 X.2.1 dX11_actAtAp_81 rfl (lv_at hl 0 rfl) ?_
  refine lv_iconst (v := 0) X.1 X.2.1 dX11_actAtAp_82 rfl ?_
  refine lv_iconst (v := 0) X.1 X.2.1 dX11_actAtAp_83 rfl ?_
  obtain ⟨r24, S25, h26, h⟩ := cl_some h
  refine x_aftI X hW (x_runV (C := RX11) (a := G.2.2 10 0) (As := [.int 0, .int 0]) (rest := []) X hW (c_X11_hasBody l G X.2.2.2.2.2.2.2.2.2.1 _ S 0 0 _ h26) (cwV 2 X.2.2.2.2.1 (gV gw975 gw976 gw977 gw2 gw978) rfl rfl rfl ⟨rfl, hd_X11_hasBody⟩ ⟨Nat.le_of_ble_eq_true rfl, Nat.le_of_ble_eq_true rfl⟩) (x_recv X hW ob_Cell z_1) rfl hl.1 rfl (Nat.le_of_ble_eq_true rfl) dX11_actAtAp_84 ⟨Nat.zero_le _, Nat.zero_le _⟩) (fun H locs hW => ?_)
  refine x_if_eq X (tgt := 104) dX11_actAtAp_87 (by decide) h (fun h => ?_) (fun h => ?_)
  · refine lv_aload_n X.1 X.2.1 dX11_actAtAp_104 rfl (lv_at hl 0 rfl) ?_
    refine lv_sipush (v := 192) X.1 X.2.1 dX11_actAtAp_105 rfl ?_
    refine lv_aload_n X.1 X.2.1 dX11_actAtAp_108 rfl (lv_at hl 2 rfl) ?_
    refine lv_bipush (v := 24) X.1 X.2.1 dX11_actAtAp_109 rfl ?_
    refine x_ialdP X hW dX11_actAtAp_111 h (fun x27 h => ?_)
    obtain ⟨r28, S29, h30, h⟩ := cl_some h
    refine x_aftI X hW (x_runV (C := RX11) (a := G.2.2 10 0) (As := [.int 192, .int x27]) (rest := []) X hW (c_X11_hasBody l G X.2.2.2.2.2.2.2.2.2.1 _ S25 192 x27 _ h30) (cwV 2 X.2.2.2.2.1 (gV gw975 gw976 gw977 gw2 gw978) rfl rfl rfl ⟨rfl, hd_X11_hasBody⟩ ⟨Nat.le_of_ble_eq_true rfl, Nat.le_of_ble_eq_true rfl⟩) (x_recv X hW ob_Cell z_1) rfl hl.1 rfl (Nat.le_of_ble_eq_true rfl) dX11_actAtAp_112 ⟨Nat.zero_le _, Nat.zero_le _⟩) (fun H locs hW => ?_)
    refine x_if_eq X (tgt := 123) dX11_actAtAp_115 (by decide) h (fun h => ?_) (fun h => ?_)
    · exact x_vret X hW h dX11_actAtAp_123
    · refine lv_aload_n X.1 X.2.1 dX11_actAtAp_118 rfl (lv_at hl 3 rfl) ?_
      refine lv_iconst (v := 1) X.1 X.2.1 dX11_actAtAp_119 rfl ?_
      obtain ⟨r31, S32, h33, h⟩ := cl_some h
      refine x_aftV X hW (x_runV (C := RX4) (a := G.2.2 3 v3) (As := [.int 1]) (rest := []) X hW (c_X4_loseKey l G X.2.2.2.2.2.2.2.2.2.1 _ S29 v3 1 _ h33) (cwV 1 X.2.2.2.2.1 (gV gw474 gw475 gw476 gw48 gw477) rfl rfl rfl ⟨rfl, hd_X4_loseKey⟩ ⟨Nat.le_of_ble_eq_true rfl, Nat.le_of_ble_eq_true rfl⟩) (x_recv X hW ob_Link qv3) rfl hl.1 rfl (Nat.le_of_ble_eq_true rfl) dX11_actAtAp_120 ⟨Nat.zero_le _, Nat.zero_le _⟩) (fun H locs hW => ?_)
      exact x_vret X hW h dX11_actAtAp_123
  · refine lv_aload_n X.1 X.2.1 dX11_actAtAp_90 rfl (lv_at hl 0 rfl) ?_
    refine lv_iconst (v := 0) X.1 X.2.1 dX11_actAtAp_91 rfl ?_
    refine lv_iload_n X.1 X.2.1 dX11_actAtAp_92 rfl (lv_at hl 1 rfl) ?_
    refine lv_sipush (v := 192) X.1 X.2.1 dX11_actAtAp_93 rfl ?_
    refine lv_bipush (v := 6) X.1 X.2.1 dX11_actAtAp_96 rfl ?_
    obtain ⟨r34, S35, h36, h⟩ := cl_some h
    refine x_aftV X hW (x_runV (C := RX11) (a := G.2.2 10 0) (As := [.int 0, .int v1, .int 192, .int 6]) (rest := []) X hW (c_X11_queueBody l G X.2.2.2.2.2.2.2.2.2.1 _ S25 0 v1 192 6 _ h36) (cwV 4 X.2.2.2.2.1 (gV gw480 gw481 gw482 gw2 gw483) rfl rfl rfl ⟨rfl, hd_X11_queueBody⟩ ⟨Nat.le_of_ble_eq_true rfl, Nat.le_of_ble_eq_true rfl⟩) (x_recv X hW ob_Cell z_1) rfl hl.1 rfl (Nat.le_of_ble_eq_true rfl) dX11_actAtAp_98 ⟨Nat.zero_le _, Nat.zero_le _⟩) (fun H locs hW => ?_)
    refine lv_goto (tgt := 123) X.1 X.2.1 dX11_actAtAp_101 (by decide) ?_
    exact x_vret X hW h dX11_actAtAp_123
set_option maxRecDepth 100000 in
set_option maxHeartbeats 4000000 in
theorem w_X11_actAtAp_0 {p : Program} {l : Launch} {e : Env} {s : State} {m : MethodId} {args : Array Value} {below : List Frame} {meth : Method} {c : Code} {G : xG} {sz : Nat} {o : Unit × Mm} (X : xC G false sz p s m args c cX11_actAtAp 4 wsX11_actAtAp RX11 meth none) (v1 : Int32) (cv2 : Nat) (v2 : Nat) {S : Mm} {H : Heap} {locs : List Loc} {ls : Array Slot} (hW : xW G false sz s H locs S) (hl : lv_has ls 4 [(0, .ref (G.2.2 10 0)), (1, .int v1), (2, .ref (G.2.2 cv2 v2))]) (h : F_X11_actAtAp v1 cv2 v2 S = some o) : wX p l e rmX11_actAtAp s m args below meth c H locs (xQv G false sz o) (XA G false sz) 0 ls [] := by
  unfold F_X11_actAtAp at h
  refine lv_aload_n X.1 X.2.1 dX11_actAtAp_0 rfl (lv_at hl 0 rfl) ?_
  refine x_getR X hW fd_Cell_byAp (fun w h => List.mem_cons_of_mem _ (gin_X11 w h)) (List.mem_cons_of_mem _ gw17) z_1 dX11_actAtAp_1 ?_
  refine lv_iload_n X.1 X.2.1 dX11_actAtAp_4 rfl (lv_at hl 1 rfl) ?_
  refine x_aald X hW ar_54 (ct := 3) rfl (at_54 G) rfl dX11_actAtAp_5 h (fun i1 qi1 h => ?_)
  refine lv_astore_n (lv' := [(3, .ref (G.2.2 3 i1)), (0, .ref (G.2.2 10 0)), (1, .int v1), (2, .ref (G.2.2 cv2 v2))]) X.1 X.2.1 dX11_actAtAp_6 rfl hl (by decide) rfl (fun ls hl => ?_)
  refine lv_aload_n X.1 X.2.1 dX11_actAtAp_7 rfl (lv_at hl 1 rfl) ?_
  refine lv_sipush (v := 176) X.1 X.2.1 dX11_actAtAp_8 rfl ?_
  refine lv_iconst (v := 1) X.1 X.2.1 dX11_actAtAp_11 rfl ?_
  obtain ⟨r2, S3, h4, h⟩ := cl_some h
  refine x_aftI X hW (x_runV (C := RX11) (a := G.2.2 10 0) (As := [.int 176, .int 1]) (rest := []) X hW (c_X11_hasBody l G X.2.2.2.2.2.2.2.2.2.1 _ S 176 1 _ h4) (cwV 2 X.2.2.2.2.1 (gV gw975 gw976 gw977 gw2 gw978) rfl rfl rfl ⟨rfl, hd_X11_hasBody⟩ ⟨Nat.le_of_ble_eq_true rfl, Nat.le_of_ble_eq_true rfl⟩) (x_recv X hW ob_Cell z_1) rfl hl.1 rfl (Nat.le_of_ble_eq_true rfl) dX11_actAtAp_12 ⟨Nat.zero_le _, Nat.zero_le _⟩) (fun H locs hW => ?_)
  refine x_if_eq X (tgt := 36) dX11_actAtAp_15 (by decide) h (fun h => ?_) (fun h => ?_)
  · refine lv_aload_n X.1 X.2.1 dX11_actAtAp_36 rfl (lv_at hl 1 rfl) ?_
    refine lv_iconst (v := 0) X.1 X.2.1 dX11_actAtAp_37 rfl ?_
    refine lv_iconst (v := 0) X.1 X.2.1 dX11_actAtAp_38 rfl ?_
    obtain ⟨r5, S6, h7, h⟩ := cl_some h
    refine x_aftI X hW (x_runV (C := RX11) (a := G.2.2 10 0) (As := [.int 0, .int 0]) (rest := []) X hW (c_X11_hasBody l G X.2.2.2.2.2.2.2.2.2.1 _ S3 0 0 _ h7) (cwV 2 X.2.2.2.2.1 (gV gw975 gw976 gw977 gw2 gw978) rfl rfl rfl ⟨rfl, hd_X11_hasBody⟩ ⟨Nat.le_of_ble_eq_true rfl, Nat.le_of_ble_eq_true rfl⟩) (x_recv X hW ob_Cell z_1) rfl hl.1 rfl (Nat.le_of_ble_eq_true rfl) dX11_actAtAp_39 ⟨Nat.zero_le _, Nat.zero_le _⟩) (fun H locs hW => ?_)
    refine x_if_eq X (tgt := 81) dX11_actAtAp_42 (by decide) h (fun h => ?_) (fun h => ?_)
    · exact w_X11_actAtAp_81 X v1 cv2 v2 i1 qi1  hW (lv_sub hl [1, 2, 3, 0] rfl) h
    · refine lv_aload_n X.1 X.2.1 dX11_actAtAp_45 rfl (lv_at hl 0 rfl) ?_
      refine x_getI X hW fd_Link_state (fun w h => List.mem_cons_of_mem _ (gin_X4 w h)) (List.mem_cons_of_mem _ gw571) qi1 dX11_actAtAp_46 h (fun x8 h => ?_)
      refine lv_iconst (v := 2) X.1 X.2.1 dX11_actAtAp_49 rfl ?_
      refine x_icmp_lt X (tgt := 81) dX11_actAtAp_50 (by decide) h (fun h => ?_) (fun h => ?_)
      · exact w_X11_actAtAp_81 X v1 cv2 v2 i1 qi1  hW (lv_sub hl [1, 2, 3, 0] rfl) h
      · refine lv_aload_n X.1 X.2.1 dX11_actAtAp_53 rfl (lv_at hl 0 rfl) ?_
        refine lv_iconst (v := 3) X.1 X.2.1 dX11_actAtAp_54 rfl ?_
        obtain ⟨r9, S10, h11, h⟩ := cl_some h
        refine x_aftV X hW (x_runV (C := RX4) (a := G.2.2 3 i1) (As := [.int 3]) (rest := []) X hW (c_X4_loseKey l G X.2.2.2.2.2.2.2.2.2.1 _ S6 i1 3 _ h11) (cwV 1 X.2.2.2.2.1 (gV gw474 gw475 gw476 gw48 gw477) rfl rfl rfl ⟨rfl, hd_X4_loseKey⟩ ⟨Nat.le_of_ble_eq_true rfl, Nat.le_of_ble_eq_true rfl⟩) (x_recv X hW ob_Link qi1) rfl hl.1 rfl (Nat.le_of_ble_eq_true rfl) dX11_actAtAp_55 ⟨Nat.zero_le _, Nat.zero_le _⟩) (fun H locs hW => ?_)
        refine lv_aload_n X.1 X.2.1 dX11_actAtAp_58 rfl (lv_at hl 1 rfl) ?_
        refine lv_iconst (v := 0) X.1 X.2.1 dX11_actAtAp_59 rfl ?_
        refine lv_iload_n X.1 X.2.1 dX11_actAtAp_60 rfl (lv_at hl 2 rfl) ?_
        refine lv_bipush (v := 16) X.1 X.2.1 dX11_actAtAp_61 rfl ?_
        refine lv_iload_n X.1 X.2.1 dX11_actAtAp_63 rfl (lv_at hl 2 rfl) ?_
        obtain ⟨r12, S13, h14, h⟩ := cl_some h
        refine x_aftV X hW (x_runV (C := RX11) (a := G.2.2 10 0) (As := [.int 0, .int v1, .int 16, .int v1]) (rest := []) X hW (c_X11_queueBody l G X.2.2.2.2.2.2.2.2.2.1 _ S10 0 v1 16 v1 _ h14) (cwV 4 X.2.2.2.2.1 (gV gw480 gw481 gw482 gw2 gw483) rfl rfl rfl ⟨rfl, hd_X11_queueBody⟩ ⟨Nat.le_of_ble_eq_true rfl, Nat.le_of_ble_eq_true rfl⟩) (x_recv X hW ob_Cell z_1) rfl hl.1 rfl (Nat.le_of_ble_eq_true rfl) dX11_actAtAp_64 ⟨Nat.zero_le _, Nat.zero_le _⟩) (fun H locs hW => ?_)
        refine lv_aload_n X.1 X.2.1 dX11_actAtAp_67 rfl (lv_at hl 1 rfl) ?_
        refine lv_iconst (v := 0) X.1 X.2.1 dX11_actAtAp_68 rfl ?_
        refine lv_iload_n X.1 X.2.1 dX11_actAtAp_69 rfl (lv_at hl 2 rfl) ?_
        refine lv_iconst (v := 1) X.1 X.2.1 dX11_actAtAp_70 rfl ?_
        refine lv_aload_n X.1 X.2.1 dX11_actAtAp_71 rfl (lv_at hl 0 rfl) ?_
        refine x_getR X hW fd_Link_tried (fun w h => List.mem_cons_of_mem _ (gin_X4 w h)) (List.mem_cons_of_mem _ gw849) qi1 dX11_actAtAp_72 ?_
        obtain ⟨r15, S16, h17, h⟩ := cl_some h
        refine x_aftV X hW (x_runV (C := RX11) (a := G.2.2 10 0) (As := [.int 0, .int v1, .int 1, .ref (G.2.2 22 i1)]) (rest := []) X hW (c_X11_queueHand l G X.2.2.2.2.2.2.2.2.2.1 _ S13 0 v1 1 22 i1 _ h17) (cwV 4 X.2.2.2.2.1 (gV gw953 gw954 gw955 gw2 gw956) rfl rfl rfl ⟨rfl, hd_X11_queueHand⟩ ⟨Nat.le_of_ble_eq_true rfl, Nat.le_of_ble_eq_true rfl⟩) (x_recv X hW ob_Cell z_1) rfl hl.1 rfl (Nat.le_of_ble_eq_true rfl) dX11_actAtAp_75 ⟨Nat.zero_le _, Nat.zero_le _⟩) (fun H locs hW => ?_)
        refine lv_goto (tgt := 123) X.1 X.2.1 dX11_actAtAp_78 (by decide) ?_
        exact x_vret X hW h dX11_actAtAp_123
  · refine lv_aload_n X.1 X.2.1 dX11_actAtAp_18 rfl (lv_at hl 0 rfl) ?_
    refine lv_iconst (v := 2) X.1 X.2.1 dX11_actAtAp_19 rfl ?_
    obtain ⟨r18, S19, h20, h⟩ := cl_some h
    refine x_aftV X hW (x_runV (C := RX4) (a := G.2.2 3 i1) (As := [.int 2]) (rest := []) X hW (c_X4_loseKey l G X.2.2.2.2.2.2.2.2.2.1 _ S3 i1 2 _ h20) (cwV 1 X.2.2.2.2.1 (gV gw474 gw475 gw476 gw48 gw477) rfl rfl rfl ⟨rfl, hd_X4_loseKey⟩ ⟨Nat.le_of_ble_eq_true rfl, Nat.le_of_ble_eq_true rfl⟩) (x_recv X hW ob_Link qi1) rfl hl.1 rfl (Nat.le_of_ble_eq_true rfl) dX11_actAtAp_20 ⟨Nat.zero_le _, Nat.zero_le _⟩) (fun H locs hW => ?_)
    refine lv_aload_n X.1 X.2.1 dX11_actAtAp_23 rfl (lv_at hl 1 rfl) ?_
    refine lv_iconst (v := 0) X.1 X.2.1 dX11_actAtAp_24 rfl ?_
    refine lv_iload_n X.1 X.2.1 dX11_actAtAp_25 rfl (lv_at hl 2 rfl) ?_
    refine lv_sipush (v := 176) X.1 X.2.1 dX11_actAtAp_26 rfl ?_
    refine lv_iconst (v := 2) X.1 X.2.1 dX11_actAtAp_29 rfl ?_
    obtain ⟨r21, S22, h23, h⟩ := cl_some h
    refine x_aftV X hW (x_runV (C := RX11) (a := G.2.2 10 0) (As := [.int 0, .int v1, .int 176, .int 2]) (rest := []) X hW (c_X11_queueBody l G X.2.2.2.2.2.2.2.2.2.1 _ S19 0 v1 176 2 _ h23) (cwV 4 X.2.2.2.2.1 (gV gw480 gw481 gw482 gw2 gw483) rfl rfl rfl ⟨rfl, hd_X11_queueBody⟩ ⟨Nat.le_of_ble_eq_true rfl, Nat.le_of_ble_eq_true rfl⟩) (x_recv X hW ob_Cell z_1) rfl hl.1 rfl (Nat.le_of_ble_eq_true rfl) dX11_actAtAp_30 ⟨Nat.zero_le _, Nat.zero_le _⟩) (fun H locs hW => ?_)
    refine lv_goto (tgt := 123) X.1 X.2.1 dX11_actAtAp_33 (by decide) ?_
    exact x_vret X hW h dX11_actAtAp_123
theorem c_X11_actAtAp (l : Launch) (G : xG) (hD : xD G false) (sz : Nat) (S : Mm) (v1 : Int32) (cv2 : Nat) (v2 : Nat) (o : Unit × Mm) (h : F_X11_actAtAp v1 cv2 v2 S = some o) : Met l yX11_actAtAp wsX11_actAtAp rmX11_actAtAp (xPre G false S sz [.ref (G.2.2 10 0), .int v1, .ref (G.2.2 cv2 v2)]) (xQv G false sz o) 0 0 (XA G false sz) :=
  x_start hD (by decide) rfl (Nat.le_of_ble_eq_true rfl) (fun p e s m below meth c X hW ls hl => w_X11_actAtAp_0 X v1 cv2 v2 hW hl h)

/-! WirelessCell.actAtStation(I[I)V -/
def rmX11_actAtStation : Room := { frames := 4, cells := 0, slots := 0, locals := 93 }
def F_X11_actAtStation (v1 : Int32) (cv2 : Nat) (v2 : Nat) (S : Mm) : Option (Unit × Mm) :=
  ldR S 53 0 9 1 v1 18 fun i1 =>
  cl (F_X11_hasBody 176 2 S) fun r2 S3 =>
  if r2 = 0 then (
  cl (F_X11_hasBody 16 v1 S3) fun r5 S6 =>
  if r5 = 0 then (
  ldP false S6 cv2 v2 24 fun x8 =>
  cl (F_X11_hasBody 192 x8 S6) fun r9 S10 =>
  if r9 = 0 then (
  some ((), S10))
  else (
  cl (F_X4_loseKey i1 1 S10) fun r12 S13 =>
  some ((), S13)))
  else (
  gf S6 62 i1 fun x15 =>
  if x15 = 2 then (
  pf S6 62 i1 3 fun S16 =>
  some ((), S16))
  else (
  some ((), S6))))
  else (
  gf S3 63 i1 fun x17 =>
  if x17 = 0 then (
  some ((), S3))
  else (
  gf S3 62 i1 fun x18 =>
  if x18 = 1 then (
  pf S3 62 i1 2 fun S19 =>
  cl (F_X11_queueBody v1 0 0 0 S19) fun r20 S21 =>
  some ((), S21))
  else (
  some ((), S3))))
set_option maxRecDepth 100000 in
set_option maxHeartbeats 4000000 in
theorem w_X11_actAtStation_0 {p : Program} {l : Launch} {e : Env} {s : State} {m : MethodId} {args : Array Value} {below : List Frame} {meth : Method} {c : Code} {G : xG} {sz : Nat} {o : Unit × Mm} (X : xC G false sz p s m args c cX11_actAtStation 4 wsX11_actAtStation RX11 meth none) (v1 : Int32) (cv2 : Nat) (v2 : Nat) {S : Mm} {H : Heap} {locs : List Loc} {ls : Array Slot} (hW : xW G false sz s H locs S) (hl : lv_has ls 4 [(0, .ref (G.2.2 10 0)), (1, .int v1), (2, .ref (G.2.2 cv2 v2))]) (h : F_X11_actAtStation v1 cv2 v2 S = some o) : wX p l e rmX11_actAtStation s m args below meth c H locs (xQv G false sz o) (XA G false sz) 0 ls [] := by
  unfold F_X11_actAtStation at h
  refine lv_aload_n X.1 X.2.1 dX11_actAtStation_0 rfl (lv_at hl 0 rfl) ?_
  refine x_getR X hW fd_Cell_bySelf (fun w h => List.mem_cons_of_mem _ (gin_X11 w h)) (List.mem_cons_of_mem _ gw16) z_1 dX11_actAtStation_1 ?_
  refine lv_iload_n X.1 X.2.1 dX11_actAtStation_4 rfl (lv_at hl 1 rfl) ?_
  refine x_aald X hW ar_53 (ct := 3) rfl (at_53 G) rfl dX11_actAtStation_5 h (fun i1 qi1 h => ?_)
  refine lv_astore_n (lv' := [(3, .ref (G.2.2 3 i1)), (0, .ref (G.2.2 10 0)), (1, .int v1), (2, .ref (G.2.2 cv2 v2))]) X.1 X.2.1 dX11_actAtStation_6 rfl hl (by decide) rfl (fun ls hl => ?_)
  refine lv_aload_n X.1 X.2.1 dX11_actAtStation_7 rfl (lv_at hl 1 rfl) ?_
  refine lv_sipush (v := 176) X.1 X.2.1 dX11_actAtStation_8 rfl ?_
  refine lv_iconst (v := 2) X.1 X.2.1 dX11_actAtStation_11 rfl ?_
  obtain ⟨r2, S3, h4, h⟩ := cl_some h
  refine x_aftI X hW (x_runV (C := RX11) (a := G.2.2 10 0) (As := [.int 176, .int 2]) (rest := []) X hW (c_X11_hasBody l G X.2.2.2.2.2.2.2.2.2.1 _ S 176 2 _ h4) (cwV 2 X.2.2.2.2.1 (gV gw975 gw976 gw977 gw2 gw978) rfl rfl rfl ⟨rfl, hd_X11_hasBody⟩ ⟨Nat.le_of_ble_eq_true rfl, Nat.le_of_ble_eq_true rfl⟩) (x_recv X hW ob_Cell z_1) rfl hl.1 rfl (Nat.le_of_ble_eq_true rfl) dX11_actAtStation_12 ⟨Nat.zero_le _, Nat.zero_le _⟩) (fun H locs hW => ?_)
  refine x_if_eq X (tgt := 49) dX11_actAtStation_15 (by decide) h (fun h => ?_) (fun h => ?_)
  · refine lv_aload_n X.1 X.2.1 dX11_actAtStation_49 rfl (lv_at hl 1 rfl) ?_
    refine lv_bipush (v := 16) X.1 X.2.1 dX11_actAtStation_50 rfl ?_
    refine lv_iload_n X.1 X.2.1 dX11_actAtStation_52 rfl (lv_at hl 2 rfl) ?_
    obtain ⟨r5, S6, h7, h⟩ := cl_some h
    refine x_aftI X hW (x_runV (C := RX11) (a := G.2.2 10 0) (As := [.int 16, .int v1]) (rest := []) X hW (c_X11_hasBody l G X.2.2.2.2.2.2.2.2.2.1 _ S3 16 v1 _ h7) (cwV 2 X.2.2.2.2.1 (gV gw975 gw976 gw977 gw2 gw978) rfl rfl rfl ⟨rfl, hd_X11_hasBody⟩ ⟨Nat.le_of_ble_eq_true rfl, Nat.le_of_ble_eq_true rfl⟩) (x_recv X hW ob_Cell z_1) rfl hl.1 rfl (Nat.le_of_ble_eq_true rfl) dX11_actAtStation_53 ⟨Nat.zero_le _, Nat.zero_le _⟩) (fun H locs hW => ?_)
    refine x_if_eq X (tgt := 75) dX11_actAtStation_56 (by decide) h (fun h => ?_) (fun h => ?_)
    · refine lv_aload_n X.1 X.2.1 dX11_actAtStation_75 rfl (lv_at hl 1 rfl) ?_
      refine lv_sipush (v := 192) X.1 X.2.1 dX11_actAtStation_76 rfl ?_
      refine lv_aload_n X.1 X.2.1 dX11_actAtStation_79 rfl (lv_at hl 3 rfl) ?_
      refine lv_bipush (v := 24) X.1 X.2.1 dX11_actAtStation_80 rfl ?_
      refine x_ialdP X hW dX11_actAtStation_82 h (fun x8 h => ?_)
      obtain ⟨r9, S10, h11, h⟩ := cl_some h
      refine x_aftI X hW (x_runV (C := RX11) (a := G.2.2 10 0) (As := [.int 192, .int x8]) (rest := []) X hW (c_X11_hasBody l G X.2.2.2.2.2.2.2.2.2.1 _ S6 192 x8 _ h11) (cwV 2 X.2.2.2.2.1 (gV gw975 gw976 gw977 gw2 gw978) rfl rfl rfl ⟨rfl, hd_X11_hasBody⟩ ⟨Nat.le_of_ble_eq_true rfl, Nat.le_of_ble_eq_true rfl⟩) (x_recv X hW ob_Cell z_1) rfl hl.1 rfl (Nat.le_of_ble_eq_true rfl) dX11_actAtStation_83 ⟨Nat.zero_le _, Nat.zero_le _⟩) (fun H locs hW => ?_)
      refine x_if_eq X (tgt := 94) dX11_actAtStation_86 (by decide) h (fun h => ?_) (fun h => ?_)
      · exact x_vret X hW h dX11_actAtStation_94
      · refine lv_aload_n X.1 X.2.1 dX11_actAtStation_89 rfl (lv_at hl 0 rfl) ?_
        refine lv_iconst (v := 1) X.1 X.2.1 dX11_actAtStation_90 rfl ?_
        obtain ⟨r12, S13, h14, h⟩ := cl_some h
        refine x_aftV X hW (x_runV (C := RX4) (a := G.2.2 3 i1) (As := [.int 1]) (rest := []) X hW (c_X4_loseKey l G X.2.2.2.2.2.2.2.2.2.1 _ S10 i1 1 _ h14) (cwV 1 X.2.2.2.2.1 (gV gw474 gw475 gw476 gw48 gw477) rfl rfl rfl ⟨rfl, hd_X4_loseKey⟩ ⟨Nat.le_of_ble_eq_true rfl, Nat.le_of_ble_eq_true rfl⟩) (x_recv X hW ob_Link qi1) rfl hl.1 rfl (Nat.le_of_ble_eq_true rfl) dX11_actAtStation_91 ⟨Nat.zero_le _, Nat.zero_le _⟩) (fun H locs hW => ?_)
        exact x_vret X hW h dX11_actAtStation_94
    · refine lv_aload_n X.1 X.2.1 dX11_actAtStation_59 rfl (lv_at hl 0 rfl) ?_
      refine x_getI X hW fd_Link_state (fun w h => List.mem_cons_of_mem _ (gin_X4 w h)) (List.mem_cons_of_mem _ gw571) qi1 dX11_actAtStation_60 h (fun x15 h => ?_)
      refine lv_iconst (v := 2) X.1 X.2.1 dX11_actAtStation_63 rfl ?_
      refine x_icmp_ne X (tgt := 94) dX11_actAtStation_64 (by decide) h (fun h => ?_) (fun h => ?_)
      · exact x_vret X hW h dX11_actAtStation_94
      · refine lv_aload_n X.1 X.2.1 dX11_actAtStation_67 rfl (lv_at hl 0 rfl) ?_
        refine lv_iconst (v := 3) X.1 X.2.1 dX11_actAtStation_68 rfl ?_
        refine x_putI X hW fd_Link_state (fun w h => List.mem_cons_of_mem _ (gin_X4 w h)) (List.mem_cons_of_mem _ gw571) qi1 dX11_actAtStation_69 tyX4 tyX4_ok nmX4 rfl rfl rfl h (fun S16 H locs h hW => ?_)
        refine lv_goto (tgt := 94) X.1 X.2.1 dX11_actAtStation_72 (by decide) ?_
        exact x_vret X hW h dX11_actAtStation_94
  · refine lv_aload_n X.1 X.2.1 dX11_actAtStation_18 rfl (lv_at hl 0 rfl) ?_
    refine x_getI X hW fd_Link_asked (fun w h => List.mem_cons_of_mem _ (gin_X4 w h)) (List.mem_cons_of_mem _ gw473) qi1 dX11_actAtStation_19 h (fun x17 h => ?_)
    refine x_if_eq X (tgt := 94) dX11_actAtStation_22 (by decide) h (fun h => ?_) (fun h => ?_)
    · exact x_vret X hW h dX11_actAtStation_94
    · refine lv_aload_n X.1 X.2.1 dX11_actAtStation_25 rfl (lv_at hl 0 rfl) ?_
      refine x_getI X hW fd_Link_state (fun w h => List.mem_cons_of_mem _ (gin_X4 w h)) (List.mem_cons_of_mem _ gw571) qi1 dX11_actAtStation_26 h (fun x18 h => ?_)
      refine lv_iconst (v := 1) X.1 X.2.1 dX11_actAtStation_29 rfl ?_
      refine x_icmp_ne X (tgt := 94) dX11_actAtStation_30 (by decide) h (fun h => ?_) (fun h => ?_)
      · exact x_vret X hW h dX11_actAtStation_94
      · refine lv_aload_n X.1 X.2.1 dX11_actAtStation_33 rfl (lv_at hl 0 rfl) ?_
        refine lv_iconst (v := 2) X.1 X.2.1 dX11_actAtStation_34 rfl ?_
        refine x_putI X hW fd_Link_state (fun w h => List.mem_cons_of_mem _ (gin_X4 w h)) (List.mem_cons_of_mem _ gw571) qi1 dX11_actAtStation_35 tyX4 tyX4_ok nmX4 rfl rfl rfl h (fun S19 H locs h hW => ?_)
        refine lv_aload_n X.1 X.2.1 dX11_actAtStation_38 rfl (lv_at hl 1 rfl) ?_
        refine lv_iload_n X.1 X.2.1 dX11_actAtStation_39 rfl (lv_at hl 2 rfl) ?_
        refine lv_iconst (v := 0) X.1 X.2.1 dX11_actAtStation_40 rfl ?_
        refine lv_iconst (v := 0) X.1 X.2.1 dX11_actAtStation_41 rfl ?_
        refine lv_iconst (v := 0) X.1 X.2.1 dX11_actAtStation_42 rfl ?_
        obtain ⟨r20, S21, h22, h⟩ := cl_some h
        refine x_aftV X hW (x_runV (C := RX11) (a := G.2.2 10 0) (As := [.int v1, .int 0, .int 0, .int 0]) (rest := []) X hW (c_X11_queueBody l G X.2.2.2.2.2.2.2.2.2.1 _ S19 v1 0 0 0 _ h22) (cwV 4 X.2.2.2.2.1 (gV gw480 gw481 gw482 gw2 gw483) rfl rfl rfl ⟨rfl, hd_X11_queueBody⟩ ⟨Nat.le_of_ble_eq_true rfl, Nat.le_of_ble_eq_true rfl⟩) (x_recv X hW ob_Cell z_1) rfl hl.1 rfl (Nat.le_of_ble_eq_true rfl) dX11_actAtStation_43 ⟨Nat.zero_le _, Nat.zero_le _⟩) (fun H locs hW => ?_)
        refine lv_goto (tgt := 94) X.1 X.2.1 dX11_actAtStation_46 (by decide) ?_
        exact x_vret X hW h dX11_actAtStation_94
theorem c_X11_actAtStation (l : Launch) (G : xG) (hD : xD G false) (sz : Nat) (S : Mm) (v1 : Int32) (cv2 : Nat) (v2 : Nat) (o : Unit × Mm) (h : F_X11_actAtStation v1 cv2 v2 S = some o) : Met l yX11_actAtStation wsX11_actAtStation rmX11_actAtStation (xPre G false S sz [.ref (G.2.2 10 0), .int v1, .ref (G.2.2 cv2 v2)]) (xQv G false sz o) 0 0 (XA G false sz) :=
  x_start hD (by decide) rfl (Nat.le_of_ble_eq_true rfl) (fun p e s m below meth c X hW ls hl => w_X11_actAtStation_0 X v1 cv2 v2 hW hl h)

/-! WirelessCell.takeManagement(I)V -/
def rmX11_takeManagement : Room := { frames := 6, cells := 0, slots := 0, locals := 145 }
def L_X11_takeManagement_22  (v1 : Int32) (v2 : Nat) (s0 : Int32) (S : Mm) : Option (Unit × Mm) :=
  cl (F_X11_isStation s0 S) fun r8 S9 =>
  if r8 = 0 then (
  some ((), S9))
  else (
  if v1 = 0 then (
  cl (F_X11_actAtAp s0 27 v2 S9) fun r14 S15 =>
  some ((), S15))
  else (
  cl (F_X11_actAtStation s0 27 v2 S9) fun r11 S12 =>
  some ((), S12)))
def F_X11_takeManagement (v1 : Int32) (S : Mm) : Option (Unit × Mm) :=
  cl (F_X5_newestBytes S) fun r1 S2 =>
  nn r1 40 fun i4 =>
  if v1 = 0 then (
  cl (F_X2_nodeAt 27 i4 10 S2) fun r5 S6 =>
  L_X11_takeManagement_22  v1 i4 r5 S6)
  else (
  L_X11_takeManagement_22  v1 i4 v1 S2)
set_option maxRecDepth 100000 in
set_option maxHeartbeats 4000000 in
theorem w_X11_takeManagement_22 {p : Program} {l : Launch} {e : Env} {s : State} {m : MethodId} {args : Array Value} {below : List Frame} {meth : Method} {c : Code} {G : xG} {sz : Nat} {o : Unit × Mm} (X : xC G false sz p s m args c cX11_takeManagement 4 wsX11_takeManagement RX11 meth none) (v1 : Int32) (v2 : Nat) (s0 : Int32)   {S : Mm} {H : Heap} {locs : List Loc} {ls : Array Slot} (hW : xW G false sz s H locs S) (hl : lv_has ls 4 [(0, .ref (G.2.2 10 0)), (1, .int v1), (2, .ref (G.2.2 27 v2))]) (h : L_X11_takeManagement_22  v1 v2 s0 S = some o) : wX p l e rmX11_takeManagement s m args below meth c H locs (xQv G false sz o) (XA G false sz) 22 ls [.int s0] := by
  unfold L_X11_takeManagement_22 at h
  refine lv_istore_n (lv' := [(3, .int s0), (0, .ref (G.2.2 10 0)), (1, .int v1), (2, .ref (G.2.2 27 v2))]) X.1 X.2.1 dX11_takeManagement_22 rfl hl (by decide) rfl (fun ls hl => ?_)
  refine lv_iload_n X.1 X.2.1 dX11_takeManagement_23 rfl (lv_at hl 0 rfl) ?_
  obtain ⟨r8, S9, h10, h⟩ := cl_some h
  refine x_aftI X hW (x_runS (As := [.int s0]) (rest := []) X hW (c_X11_isStation l G X.2.2.2.2.2.2.2.2.2.1 _ S s0 _ h10) (va_cwS 1 X.2.2.2.2.1 (gS gw359 gw360 gw2 gw361) rfl rfl rfl hd_X11_isStation ⟨Nat.le_of_ble_eq_true rfl, Nat.le_of_ble_eq_true rfl⟩) rfl hl.1 rfl (Nat.le_of_ble_eq_true rfl) dX11_takeManagement_24 ⟨Nat.zero_le _, Nat.zero_le _⟩) (fun H locs hW => ?_)
  refine x_if_ne X (tgt := 31) dX11_takeManagement_27 (by decide) h (fun h => ?_) (fun h => ?_)
  · refine lv_iload_n X.1 X.2.1 dX11_takeManagement_31 rfl (lv_at hl 2 rfl) ?_
    refine x_if_ne X (tgt := 44) dX11_takeManagement_32 (by decide) h (fun h => ?_) (fun h => ?_)
    · refine lv_aload_n X.1 X.2.1 dX11_takeManagement_44 rfl (lv_at hl 1 rfl) ?_
      refine lv_iload_n X.1 X.2.1 dX11_takeManagement_45 rfl (lv_at hl 0 rfl) ?_
      refine lv_aload_n X.1 X.2.1 dX11_takeManagement_46 rfl (lv_at hl 3 rfl) ?_
      obtain ⟨r11, S12, h13, h⟩ := cl_some h
      refine x_aftV X hW (x_runV (C := RX11) (a := G.2.2 10 0) (As := [.int s0, .ref (G.2.2 27 v2)]) (rest := []) X hW (c_X11_actAtStation l G X.2.2.2.2.2.2.2.2.2.1 _ S9 s0 27 v2 _ h13) (cwV 2 X.2.2.2.2.1 (gV gw979 gw980 gw981 gw2 gw982) rfl rfl rfl ⟨rfl, hd_X11_actAtStation⟩ ⟨Nat.le_of_ble_eq_true rfl, Nat.le_of_ble_eq_true rfl⟩) (x_recv X hW ob_Cell z_1) rfl hl.1 rfl (Nat.le_of_ble_eq_true rfl) dX11_takeManagement_47 ⟨Nat.zero_le _, Nat.zero_le _⟩) (fun H locs hW => ?_)
      exact x_vret X hW h dX11_takeManagement_50
    · refine lv_aload_n X.1 X.2.1 dX11_takeManagement_35 rfl (lv_at hl 1 rfl) ?_
      refine lv_iload_n X.1 X.2.1 dX11_takeManagement_36 rfl (lv_at hl 0 rfl) ?_
      refine lv_aload_n X.1 X.2.1 dX11_takeManagement_37 rfl (lv_at hl 3 rfl) ?_
      obtain ⟨r14, S15, h16, h⟩ := cl_some h
      refine x_aftV X hW (x_runV (C := RX11) (a := G.2.2 10 0) (As := [.int s0, .ref (G.2.2 27 v2)]) (rest := []) X hW (c_X11_actAtAp l G X.2.2.2.2.2.2.2.2.2.1 _ S9 s0 27 v2 _ h16) (cwV 2 X.2.2.2.2.1 (gV gw971 gw972 gw973 gw2 gw974) rfl rfl rfl ⟨rfl, hd_X11_actAtAp⟩ ⟨Nat.le_of_ble_eq_true rfl, Nat.le_of_ble_eq_true rfl⟩) (x_recv X hW ob_Cell z_1) rfl hl.1 rfl (Nat.le_of_ble_eq_true rfl) dX11_takeManagement_38 ⟨Nat.zero_le _, Nat.zero_le _⟩) (fun H locs hW => ?_)
      refine lv_goto (tgt := 50) X.1 X.2.1 dX11_takeManagement_41 (by decide) ?_
      exact x_vret X hW h dX11_takeManagement_50
  · exact x_vret X hW h dX11_takeManagement_30
set_option maxRecDepth 100000 in
set_option maxHeartbeats 4000000 in
theorem w_X11_takeManagement_0 {p : Program} {l : Launch} {e : Env} {s : State} {m : MethodId} {args : Array Value} {below : List Frame} {meth : Method} {c : Code} {G : xG} {sz : Nat} {o : Unit × Mm} (X : xC G false sz p s m args c cX11_takeManagement 4 wsX11_takeManagement RX11 meth none) (v1 : Int32) {S : Mm} {H : Heap} {locs : List Loc} {ls : Array Slot} (hW : xW G false sz s H locs S) (hl : lv_has ls 4 [(0, .ref (G.2.2 10 0)), (1, .int v1)]) (h : F_X11_takeManagement v1 S = some o) : wX p l e rmX11_takeManagement s m args below meth c H locs (xQv G false sz o) (XA G false sz) 0 ls [] := by
  unfold F_X11_takeManagement at h
  refine lv_aload_n X.1 X.2.1 dX11_takeManagement_0 rfl (lv_at hl 0 rfl) ?_
  refine x_getR X hW fd_Cell_medium (fun w h => List.mem_cons_of_mem _ (gin_X11 w h)) (List.mem_cons_of_mem _ gw21) z_1 dX11_takeManagement_1 ?_
  obtain ⟨r1, S2, h3, h⟩ := cl_some h
  refine x_aftQ X hW (x_runV (C := RX5) (a := G.2.2 4 0) (As := []) (rest := []) X hW (c_X5_newestBytes l G X.2.2.2.2.2.2.2.2.2.1 _ S _ h3) (cwV 0 X.2.2.2.2.1 (gV gw759 gw760 gw761 gw20 gw762) rfl rfl rfl ⟨rfl, hd_X5_newestBytes⟩ ⟨Nat.le_of_ble_eq_true rfl, Nat.le_of_ble_eq_true rfl⟩) (x_recv X hW ob_Medium z_1) rfl hl.1 rfl (Nat.le_of_ble_eq_true rfl) dX11_takeManagement_4 ⟨Nat.zero_le _, Nat.zero_le _⟩) (fun H locs hW => ?_)
  refine x_nn h (fun i4 qi4 h => ?_)
  refine lv_astore_n (lv' := [(2, .ref (G.2.2 27 i4)), (0, .ref (G.2.2 10 0)), (1, .int v1)]) X.1 X.2.1 dX11_takeManagement_7 rfl hl (by decide) rfl (fun ls hl => ?_)
  refine lv_iload_n X.1 X.2.1 dX11_takeManagement_8 rfl (lv_at hl 2 rfl) ?_
  refine x_if_ne X (tgt := 21) dX11_takeManagement_9 (by decide) h (fun h => ?_) (fun h => ?_)
  · refine lv_iload_n X.1 X.2.1 dX11_takeManagement_21 rfl (lv_at hl 2 rfl) ?_
    exact w_X11_takeManagement_22 X v1 i4 v1   hW (lv_sub hl [1, 2, 0] rfl) h
  · refine lv_aload_n X.1 X.2.1 dX11_takeManagement_12 rfl (lv_at hl 0 rfl) ?_
    refine lv_bipush (v := 10) X.1 X.2.1 dX11_takeManagement_13 rfl ?_
    obtain ⟨r5, S6, h7, h⟩ := cl_some h
    refine x_aftI X hW (x_runS (As := [.ref (G.2.2 27 i4), .int 10]) (rest := []) X hW (c_X2_nodeAt l G X.2.2.2.2.2.2.2.2.2.1 _ S2 27 i4 10 _ h7) (va_cwS 2 X.2.2.2.2.1 (gS gw776 gw777 gw267 gw778) rfl rfl rfl hd_X2_nodeAt ⟨Nat.le_of_ble_eq_true rfl, Nat.le_of_ble_eq_true rfl⟩) rfl hl.1 rfl (Nat.le_of_ble_eq_true rfl) dX11_takeManagement_15 ⟨Nat.zero_le _, Nat.zero_le _⟩) (fun H locs hW => ?_)
    refine lv_goto (tgt := 22) X.1 X.2.1 dX11_takeManagement_18 (by decide) ?_
    exact w_X11_takeManagement_22 X v1 i4 r5   hW (lv_sub hl [1, 2, 0] rfl) h
theorem c_X11_takeManagement (l : Launch) (G : xG) (hD : xD G false) (sz : Nat) (S : Mm) (v1 : Int32) (o : Unit × Mm) (h : F_X11_takeManagement v1 S = some o) : Met l yX11_takeManagement wsX11_takeManagement rmX11_takeManagement (xPre G false S sz [.ref (G.2.2 10 0), .int v1]) (xQv G false sz o) 0 0 (XA G false sz) :=
  x_start hD (by decide) rfl (Nat.le_of_ble_eq_true rfl) (fun p e s m below meth c X hW ls hl => w_X11_takeManagement_0 X v1 hW hl h)

/-! WirelessCell.fail(LWirelessCell$Node;)V -/
def rmX11_fail : Room := { frames := 2, cells := 0, slots := 0, locals := 46 }
def F_X11_fail (v1 : Nat) (S : Mm) : Option (Unit × Mm) :=
  gd (v1 < 9) (
  gf S 109 0 fun x1 =>
  pf S 109 0 (x1 + 1) fun S2 =>
  gf S2 93 v1 fun x3 =>
  pf S2 93 v1 (x3 + 1) fun S4 =>
  gf S4 93 v1 fun x5 =>
  gf S4 108 0 fun x6 =>
  if x5 < x6 then (
  gf S4 92 v1 fun x7 =>
  tp (if 127 < ((2 * x7) + 1) then 127 else ((2 * x7) + 1)) fun x8 =>
  pf S4 92 v1 x8 fun S9 =>
  cl (F_X1_takeFirst S9) fun r10 S11 =>
  gf S11 92 v1 fun x13 =>
  pf S11 91 v1 (r10 &&& x13) fun S14 =>
  gf S14 100 v1 fun x15 =>
  if x15 < 28 then (
  some ((), S14))
  else (
  ldA S14 40 v1 300 9 1 fun x16 =>
  stA S14 40 v1 300 9 1 (x16 ||| 8) fun S17 =>
  gf S17 100 v1 fun x18 =>
  cl (F_X2_writeFcs 40 v1 (x18 - 4) S17) fun r19 S20 =>
  some ((), S20)))
  else (
  cl (F_X11_finishFirst v1 2 S4) fun r22 S23 =>
  some ((), S23)))
set_option maxRecDepth 100000 in
set_option maxHeartbeats 4000000 in
theorem w_X11_fail_0 {p : Program} {l : Launch} {e : Env} {s : State} {m : MethodId} {args : Array Value} {below : List Frame} {meth : Method} {c : Code} {G : xG} {sz : Nat} {o : Unit × Mm} (X : xC G false sz p s m args c cX11_fail 2 wsX11_fail RX11 meth none) (v1 : Nat) {S : Mm} {H : Heap} {locs : List Loc} {ls : Array Slot} (hW : xW G false sz s H locs S) (hl : lv_has ls 2 [(0, .ref (G.2.2 10 0)), (1, .ref (G.2.2 6 v1))]) (h : F_X11_fail v1 S = some o) : wX p l e rmX11_fail s m args below meth c H locs (xQv G false sz o) (XA G false sz) 0 ls [] := by
  unfold F_X11_fail at h
  obtain ⟨qv1, h⟩ := if_some h
  refine lv_aload_n X.1 X.2.1 dX11_fail_0 rfl (lv_at hl 0 rfl) ?_
  refine lv_dup X.1 X.2.1 dX11_fail_1 rfl ?_
  refine x_getI X hW fd_Cell_failures (fun w h => List.mem_cons_of_mem _ (gin_X11 w h)) (List.mem_cons_of_mem _ gw991) z_1 dX11_fail_2 h (fun x1 h => ?_)
  refine lv_iconst (v := 1) X.1 X.2.1 dX11_fail_5 rfl ?_
  refine lv_iadd X.1 X.2.1 dX11_fail_6 ?_
  refine x_putI X hW fd_Cell_failures (fun w h => List.mem_cons_of_mem _ (gin_X11 w h)) (List.mem_cons_of_mem _ gw991) z_1 dX11_fail_7 tyX11 tyX11_ok nmX11 rfl rfl rfl h (fun S2 H locs h hW => ?_)
  refine lv_aload_n X.1 X.2.1 dX11_fail_10 rfl (lv_at hl 1 rfl) ?_
  refine lv_dup X.1 X.2.1 dX11_fail_11 rfl ?_
  refine x_getI X hW fd_Node_tries (fun w h => List.mem_cons_of_mem _ (gin_X7 w h)) (List.mem_cons_of_mem _ gw658) qv1 dX11_fail_12 h (fun x3 h => ?_)
  refine lv_iconst (v := 1) X.1 X.2.1 dX11_fail_15 rfl ?_
  refine lv_iadd X.1 X.2.1 dX11_fail_16 ?_
  refine x_putI X hW fd_Node_tries (fun w h => List.mem_cons_of_mem _ (gin_X7 w h)) (List.mem_cons_of_mem _ gw658) qv1 dX11_fail_17 tyX7 tyX7_ok nmX7 rfl rfl rfl h (fun S4 H locs h hW => ?_)
  refine lv_aload_n X.1 X.2.1 dX11_fail_20 rfl (lv_at hl 1 rfl) ?_
  refine x_getI X hW fd_Node_tries (fun w h => List.mem_cons_of_mem _ (gin_X7 w h)) (List.mem_cons_of_mem _ gw658) qv1 dX11_fail_21 h (fun x5 h => ?_)
  refine lv_aload_n X.1 X.2.1 dX11_fail_24 rfl (lv_at hl 0 rfl) ?_
  refine x_getI X hW fd_Cell_tryLimit (fun w h => List.mem_cons_of_mem _ (gin_X11 w h)) (List.mem_cons_of_mem _ gw42) z_1 dX11_fail_25 h (fun x6 h => ?_)
  refine x_icmp_lt X (tgt := 38) dX11_fail_28 (by decide) h (fun h => ?_) (fun h => ?_)
  · refine lv_aload_n X.1 X.2.1 dX11_fail_38 rfl (lv_at hl 1 rfl) ?_
    refine lv_iconst (v := 2) X.1 X.2.1 dX11_fail_39 rfl ?_
    refine lv_aload_n X.1 X.2.1 dX11_fail_40 rfl (lv_at hl 1 rfl) ?_
    refine x_getI X hW fd_Node_cw (fun w h => List.mem_cons_of_mem _ (gin_X7 w h)) (List.mem_cons_of_mem _ gw498) qv1 dX11_fail_41 h (fun x7 h => ?_)
    refine lv_imul X.1 X.2.1 dX11_fail_44 ?_
    refine lv_iconst (v := 1) X.1 X.2.1 dX11_fail_45 rfl ?_
    refine lv_iadd X.1 X.2.1 dX11_fail_46 ?_
    refine lv_bipush (v := 127) X.1 X.2.1 dX11_fail_47 rfl ?_
    refine va_mmin X.1 X.2.1 (X.2.2.1.trans hl.1.symm) X.2.2.2.1 (X.2.2.2.2.1 _ (List.mem_cons_of_mem _ gw668)) (X.2.2.2.2.1 _ (List.mem_cons_of_mem _ gw606)) (X.2.2.2.2.1 _ (List.mem_cons_of_mem _ gw607)) (X.2.2.2.2.1 _ (List.mem_cons_of_mem _ gw608)) (Nat.le_of_ble_eq_true rfl) (Nat.le_of_ble_eq_true rfl) (Nat.zero_le _) (Nat.zero_le _) dX11_fail_49 ?_
    refine x_top h (fun x8 h => ?_)
    refine x_putI X hW fd_Node_cw (fun w h => List.mem_cons_of_mem _ (gin_X7 w h)) (List.mem_cons_of_mem _ gw498) qv1 dX11_fail_52 tyX7 tyX7_ok nmX7 rfl rfl rfl h (fun S9 H locs h hW => ?_)
    refine lv_aload_n X.1 X.2.1 dX11_fail_55 rfl (lv_at hl 1 rfl) ?_
    refine lv_aload_n X.1 X.2.1 dX11_fail_56 rfl (lv_at hl 0 rfl) ?_
    refine x_getR X hW fd_Cell_draws (fun w h => List.mem_cons_of_mem _ (gin_X11 w h)) (List.mem_cons_of_mem _ gw29) z_1 dX11_fail_57 ?_
    obtain ⟨r10, S11, h12, h⟩ := cl_some h
    refine x_aftI X hW (x_runV (C := RX1) (a := G.2.2 1 0) (As := []) (rest := [.ref (G.2.2 6 v1)]) X hW (c_X1_takeFirst l G X.2.2.2.2.2.2.2.2.2.1 _ S9 _ h12) (cwV 0 X.2.2.2.2.1 (gV gw508 gw509 gw510 gw28 gw511) rfl rfl rfl ⟨rfl, hd_X1_takeFirst⟩ ⟨Nat.le_of_ble_eq_true rfl, Nat.le_of_ble_eq_true rfl⟩) (x_recv X hW ob_Draws z_1) rfl hl.1 rfl (Nat.le_of_ble_eq_true rfl) dX11_fail_60 ⟨Nat.zero_le _, Nat.zero_le _⟩) (fun H locs hW => ?_)
    refine lv_aload_n X.1 X.2.1 dX11_fail_63 rfl (lv_at hl 1 rfl) ?_
    refine x_getI X hW fd_Node_cw (fun w h => List.mem_cons_of_mem _ (gin_X7 w h)) (List.mem_cons_of_mem _ gw498) qv1 dX11_fail_64 h (fun x13 h => ?_)
    refine lv_iand X.1 X.2.1 dX11_fail_67 ?_
    refine x_putI X hW fd_Node_backoff (fun w h => List.mem_cons_of_mem _ (gin_X7 w h)) (List.mem_cons_of_mem _ gw499) qv1 dX11_fail_68 tyX7 tyX7_ok nmX7 rfl rfl rfl h (fun S14 H locs h hW => ?_)
    refine lv_aload_n X.1 X.2.1 dX11_fail_71 rfl (lv_at hl 1 rfl) ?_
    refine x_getI X hW fd_Node_frameLength (fun w h => List.mem_cons_of_mem _ (gin_X7 w h)) (List.mem_cons_of_mem _ gw648) qv1 dX11_fail_72 h (fun x15 h => ?_)
    refine lv_bipush (v := 28) X.1 X.2.1 dX11_fail_75 rfl ?_
    refine x_icmp_lt X (tgt := 104) dX11_fail_77 (by decide) h (fun h => ?_) (fun h => ?_)
    · exact x_vret X hW h dX11_fail_104
    · refine lv_aload_n X.1 X.2.1 dX11_fail_80 rfl (lv_at hl 1 rfl) ?_
      refine x_getR X hW fd_Node_frame (fun w h => List.mem_cons_of_mem _ (gin_X7 w h)) (List.mem_cons_of_mem _ gw649) qv1 dX11_fail_81 ?_
      refine lv_iconst (v := 1) X.1 X.2.1 dX11_fail_84 rfl ?_
      refine lv_dup2_11 X.1 X.2.1 dX11_fail_85 rfl rfl ?_
      refine x_iald X hW ar_40 dX11_fail_86 h (fun x16 h => ?_)
      refine lv_bipush (v := 8) X.1 X.2.1 dX11_fail_87 rfl ?_
      refine lv_ior X.1 X.2.1 dX11_fail_89 ?_
      refine x_iast X hW ar_40 dX11_fail_90 h (fun S17 H locs h hW => ?_)
      refine lv_aload_n X.1 X.2.1 dX11_fail_91 rfl (lv_at hl 1 rfl) ?_
      refine x_getR X hW fd_Node_frame (fun w h => List.mem_cons_of_mem _ (gin_X7 w h)) (List.mem_cons_of_mem _ gw649) qv1 dX11_fail_92 ?_
      refine lv_aload_n X.1 X.2.1 dX11_fail_95 rfl (lv_at hl 1 rfl) ?_
      refine x_getI X hW fd_Node_frameLength (fun w h => List.mem_cons_of_mem _ (gin_X7 w h)) (List.mem_cons_of_mem _ gw648) qv1 dX11_fail_96 h (fun x18 h => ?_)
      refine lv_iconst (v := 4) X.1 X.2.1 dX11_fail_99 rfl ?_
      refine lv_isub X.1 X.2.1 dX11_fail_100 ?_
      obtain ⟨r19, S20, h21, h⟩ := cl_some h
      refine x_aftV X hW (x_runS (As := [.ref (G.2.2 40 v1), .int (x18 - 4)]) (rest := []) X hW (c_X2_writeFcs l G X.2.2.2.2.2.2.2.2.2.1 _ S17 40 v1 (x18 - 4) _ h21) (va_cwS 2 X.2.2.2.2.1 (gS gw303 gw304 gw267 gw305) rfl rfl rfl hd_X2_writeFcs ⟨Nat.le_of_ble_eq_true rfl, Nat.le_of_ble_eq_true rfl⟩) rfl hl.1 rfl (Nat.le_of_ble_eq_true rfl) dX11_fail_101 ⟨Nat.zero_le _, Nat.zero_le _⟩) (fun H locs hW => ?_)
      exact x_vret X hW h dX11_fail_104
  · refine lv_aload_n X.1 X.2.1 dX11_fail_31 rfl (lv_at hl 0 rfl) ?_
    refine lv_aload_n X.1 X.2.1 dX11_fail_32 rfl (lv_at hl 1 rfl) ?_
    refine lv_iconst (v := 2) X.1 X.2.1 dX11_fail_33 rfl ?_
    obtain ⟨r22, S23, h24, h⟩ := cl_some h
    refine x_aftV X hW (x_runV (C := RX11) (a := G.2.2 10 0) (As := [.ref (G.2.2 6 v1), .int 2]) (rest := []) X hW (c_X11_finishFirst l G X.2.2.2.2.2.2.2.2.2.1 _ S4 v1 2 _ h24) (cwV 2 X.2.2.2.2.1 (gV gw654 gw655 gw656 gw2 gw657) rfl rfl rfl ⟨rfl, hd_X11_finishFirst⟩ ⟨Nat.le_of_ble_eq_true rfl, Nat.le_of_ble_eq_true rfl⟩) (x_recv X hW ob_Cell z_1) rfl hl.1 rfl (Nat.le_of_ble_eq_true rfl) dX11_fail_34 ⟨Nat.zero_le _, Nat.zero_le _⟩) (fun H locs hW => ?_)
    exact x_vret X hW h dX11_fail_37
theorem c_X11_fail (l : Launch) (G : xG) (hD : xD G false) (sz : Nat) (S : Mm) (v1 : Nat) (o : Unit × Mm) (h : F_X11_fail v1 S = some o) : Met l yX11_fail wsX11_fail rmX11_fail (xPre G false S sz [.ref (G.2.2 10 0), .ref (G.2.2 6 v1)]) (xQv G false sz o) 0 0 (XA G false sz) :=
  x_start hD (by decide) rfl (Nat.le_of_ble_eq_true rfl) (fun p e s m below meth c X hW ls hl => w_X11_fail_0 X v1 hW hl h)

/-! WirelessCell.failWaiters()V -/
def rmX11_failWaiters : Room := { frames := 3, cells := 0, slots := 0, locals := 67 }
def L_X11_failWaiters_49 (k2 : Int32 → Mm → Option (Unit × Mm)) (v1 : Int32) (S : Mm) : Option (Unit × Mm) :=
  k2 (v1 + 1) S
def L_X11_failWaiters_2   : Nat → Int32 → Mm → Option (Unit × Mm)
  | 0, _, _ => none
  | n + 1, v1, S => 
    if 9 ≤ v1 then (
    some ((), S))
    else (
    ldR S 52 0 9 1 v1 9 fun i1 =>
    gf S 98 i1 fun x2 =>
    if x2 = (-1) then (
    L_X11_failWaiters_49 (L_X11_failWaiters_2  n) v1 S)
    else (
    gf S 76 0 fun x3 =>
    gf S 98 i1 fun x4 =>
    if (x3 - x4) < 4 then (
    L_X11_failWaiters_49 (L_X11_failWaiters_2  n) v1 S)
    else (
    pf S 98 i1 (-1) fun S5 =>
    cl (F_X11_fail i1 S5) fun r6 S7 =>
    L_X11_failWaiters_49 (L_X11_failWaiters_2  n) v1 S7)))
def F_X11_failWaiters  (S : Mm) : Option (Unit × Mm) :=
  L_X11_failWaiters_2   fu 0 S
set_option maxRecDepth 100000 in
set_option maxHeartbeats 4000000 in
theorem w_X11_failWaiters_49 {p : Program} {l : Launch} {e : Env} {s : State} {m : MethodId} {args : Array Value} {below : List Frame} {meth : Method} {c : Code} {G : xG} {sz : Nat} {o : Unit × Mm} (X : xC G false sz p s m args c cX11_failWaiters 3 wsX11_failWaiters RX11 meth none) (v1 : Int32)  (k2 : Int32 → Mm → Option (Unit × Mm)) (hk2 : ∀ (v1 : Int32) (S : Mm) (H : Heap) (locs : List Loc) (ls : Array Slot), k2 v1 S = some o → xW G false sz s H locs S → lv_has ls 3 [(0, .ref (G.2.2 10 0)), (1, .int v1)] → wX p l e rmX11_failWaiters s m args below meth c H locs (xQv G false sz o) (XA G false sz) 2 ls []) {S : Mm} {H : Heap} {locs : List Loc} {ls : Array Slot} (hW : xW G false sz s H locs S) (hl : lv_has ls 3 [(0, .ref (G.2.2 10 0)), (1, .int v1)]) (h : L_X11_failWaiters_49 k2 v1 S = some o) : wX p l e rmX11_failWaiters s m args below meth c H locs (xQv G false sz o) (XA G false sz) 49 ls [] := by
  unfold L_X11_failWaiters_49 at h
  refine lv_iinc (v := (v1 + 1)) (lv' := [(1, .int (v1 + 1)), (0, .ref (G.2.2 10 0))]) X.1 X.2.1 dX11_failWaiters_49 hl (k := 1) rfl rfl (by decide) rfl (fun ls hl => ?_)
  refine lv_goto (tgt := 2) X.1 X.2.1 dX11_failWaiters_52 (by decide) ?_
  exact hk2 (v1 + 1) S _ _ _ h hW  (lv_sub hl [1, 0] rfl)
set_option maxRecDepth 100000 in
set_option maxHeartbeats 4000000 in
theorem w_X11_failWaiters_2 {p : Program} {l : Launch} {e : Env} {s : State} {m : MethodId} {args : Array Value} {below : List Frame} {meth : Method} {c : Code} {G : xG} {sz : Nat} {o : Unit × Mm} (X : xC G false sz p s m args c cX11_failWaiters 3 wsX11_failWaiters RX11 meth none)    : ∀ (n : Nat) (v1 : Int32) (S : Mm) (H : Heap) (locs : List Loc) (ls : Array Slot), L_X11_failWaiters_2  n v1 S = some o → xW G false sz s H locs S → lv_has ls 3 [(0, .ref (G.2.2 10 0)), (1, .int v1)] → wX p l e rmX11_failWaiters s m args below meth c H locs (xQv G false sz o) (XA G false sz) 2 ls [] := by
  intro n
  induction n with
  | zero =>
    intro v1 S H locs ls h
    cases h
  | succ n ih =>
    intro v1 S H locs ls h hW  hl
    rw [L_X11_failWaiters_2] at h
    refine lv_iload_n X.1 X.2.1 dX11_failWaiters_2 rfl (lv_at hl 1 rfl) ?_
    refine lv_bipush (v := 9) X.1 X.2.1 dX11_failWaiters_3 rfl ?_
    refine x_icmp_ge X (tgt := 55) dX11_failWaiters_5 (by decide) h (fun h => ?_) (fun h => ?_)
    · exact x_vret X hW h dX11_failWaiters_55
    · refine lv_aload_n X.1 X.2.1 dX11_failWaiters_8 rfl (lv_at hl 0 rfl) ?_
      refine x_getR X hW fd_Cell_nodes (fun w h => List.mem_cons_of_mem _ (gin_X11 w h)) (List.mem_cons_of_mem _ gw14) z_1 dX11_failWaiters_9 ?_
      refine lv_iload_n X.1 X.2.1 dX11_failWaiters_12 rfl (lv_at hl 1 rfl) ?_
      refine x_aald X hW ar_52 (ct := 6) rfl (at_52 G) rfl dX11_failWaiters_13 h (fun i1 qi1 h => ?_)
      refine lv_astore_n (lv' := [(2, .ref (G.2.2 6 i1)), (0, .ref (G.2.2 10 0)), (1, .int v1)]) X.1 X.2.1 dX11_failWaiters_14 rfl hl (by decide) rfl (fun ls hl => ?_)
      refine lv_aload_n X.1 X.2.1 dX11_failWaiters_15 rfl (lv_at hl 0 rfl) ?_
      refine x_getI X hW fd_Node_waitsFrom (fun w h => List.mem_cons_of_mem _ (gin_X7 w h)) (List.mem_cons_of_mem _ gw749) qi1 dX11_failWaiters_16 h (fun x2 h => ?_)
      refine lv_iconst (v := (-1)) X.1 X.2.1 dX11_failWaiters_19 rfl ?_
      refine x_icmp_eq X (tgt := 49) dX11_failWaiters_20 (by decide) h (fun h => ?_) (fun h => ?_)
      · exact w_X11_failWaiters_49 X v1  (L_X11_failWaiters_2  n) ih hW (lv_sub hl [1, 2] rfl) h
      · refine lv_aload_n X.1 X.2.1 dX11_failWaiters_23 rfl (lv_at hl 1 rfl) ?_
        refine x_getR X hW fd_Cell_medium (fun w h => List.mem_cons_of_mem _ (gin_X11 w h)) (List.mem_cons_of_mem _ gw21) z_1 dX11_failWaiters_24 ?_
        refine x_getI X hW fd_Medium_slot (fun w h => List.mem_cons_of_mem _ (gin_X5 w h)) (List.mem_cons_of_mem _ gw439) z_1 dX11_failWaiters_27 h (fun x3 h => ?_)
        refine lv_aload_n X.1 X.2.1 dX11_failWaiters_30 rfl (lv_at hl 0 rfl) ?_
        refine x_getI X hW fd_Node_waitsFrom (fun w h => List.mem_cons_of_mem _ (gin_X7 w h)) (List.mem_cons_of_mem _ gw749) qi1 dX11_failWaiters_31 h (fun x4 h => ?_)
        refine lv_isub X.1 X.2.1 dX11_failWaiters_34 ?_
        refine lv_iconst (v := 4) X.1 X.2.1 dX11_failWaiters_35 rfl ?_
        refine x_icmp_lt X (tgt := 49) dX11_failWaiters_36 (by decide) h (fun h => ?_) (fun h => ?_)
        · exact w_X11_failWaiters_49 X v1  (L_X11_failWaiters_2  n) ih hW (lv_sub hl [1, 2] rfl) h
        · refine lv_aload_n X.1 X.2.1 dX11_failWaiters_39 rfl (lv_at hl 0 rfl) ?_
          refine lv_iconst (v := (-1)) X.1 X.2.1 dX11_failWaiters_40 rfl ?_
          refine x_putI X hW fd_Node_waitsFrom (fun w h => List.mem_cons_of_mem _ (gin_X7 w h)) (List.mem_cons_of_mem _ gw749) qi1 dX11_failWaiters_41 tyX7 tyX7_ok nmX7 rfl rfl rfl h (fun S5 H locs h hW => ?_)
          refine lv_aload_n X.1 X.2.1 dX11_failWaiters_44 rfl (lv_at hl 1 rfl) ?_
          refine lv_aload_n X.1 X.2.1 dX11_failWaiters_45 rfl (lv_at hl 0 rfl) ?_
          obtain ⟨r6, S7, h8, h⟩ := cl_some h
          refine x_aftV X hW (x_runV (C := RX11) (a := G.2.2 10 0) (As := [.ref (G.2.2 6 i1)]) (rest := []) X hW (c_X11_fail l G X.2.2.2.2.2.2.2.2.2.1 _ S5 i1 _ h8) (cwV 1 X.2.2.2.2.1 (gV gw987 gw988 gw989 gw2 gw990) rfl rfl rfl ⟨rfl, hd_X11_fail⟩ ⟨Nat.le_of_ble_eq_true rfl, Nat.le_of_ble_eq_true rfl⟩) (x_recv X hW ob_Cell z_1) rfl hl.1 rfl (Nat.le_of_ble_eq_true rfl) dX11_failWaiters_46 ⟨Nat.zero_le _, Nat.zero_le _⟩) (fun H locs hW => ?_)
          exact w_X11_failWaiters_49 X v1  (L_X11_failWaiters_2  n) ih hW (lv_sub hl [1, 2] rfl) h
set_option maxRecDepth 100000 in
set_option maxHeartbeats 4000000 in
theorem w_X11_failWaiters_0 {p : Program} {l : Launch} {e : Env} {s : State} {m : MethodId} {args : Array Value} {below : List Frame} {meth : Method} {c : Code} {G : xG} {sz : Nat} {o : Unit × Mm} (X : xC G false sz p s m args c cX11_failWaiters 3 wsX11_failWaiters RX11 meth none)  {S : Mm} {H : Heap} {locs : List Loc} {ls : Array Slot} (hW : xW G false sz s H locs S) (hl : lv_has ls 3 [(0, .ref (G.2.2 10 0))]) (h : F_X11_failWaiters  S = some o) : wX p l e rmX11_failWaiters s m args below meth c H locs (xQv G false sz o) (XA G false sz) 0 ls [] := by
  unfold F_X11_failWaiters at h
  refine lv_iconst (v := 0) X.1 X.2.1 dX11_failWaiters_0 rfl ?_
  refine lv_istore_n (lv' := [(1, .int 0), (0, .ref (G.2.2 10 0))]) X.1 X.2.1 dX11_failWaiters_1 rfl hl (by decide) rfl (fun ls hl => ?_)
  exact w_X11_failWaiters_2 X    fu 0 S _ _ _ h hW  (lv_sub hl [1, 0] rfl)
theorem c_X11_failWaiters (l : Launch) (G : xG) (hD : xD G false) (sz : Nat) (S : Mm)  (o : Unit × Mm) (h : F_X11_failWaiters  S = some o) : Met l yX11_failWaiters wsX11_failWaiters rmX11_failWaiters (xPre G false S sz [.ref (G.2.2 10 0)]) (xQv G false sz o) 0 0 (XA G false sz) :=
  x_start hD (by decide) rfl (Nat.le_of_ble_eq_true rfl) (fun p e s m below meth c X hW ls hl => w_X11_failWaiters_0 X  hW hl h)

/-! WirelessCell.countDown()V -/
def rmX11_countDown : Room := { frames := 1, cells := 0, slots := 0, locals := 21 }
def L_X11_countDown_65 (k13 : Int32 → Mm → Option (Unit × Mm)) (v1 : Int32) (S : Mm) : Option (Unit × Mm) :=
  k13 (v1 + 1) S
def L_X11_countDown_13   : Nat → Int32 → Mm → Option (Unit × Mm)
  | 0, _, _ => none
  | n + 1, v1, S => 
    if 9 ≤ v1 then (
    some ((), S))
    else (
    ldR S 52 0 9 1 v1 9 fun i4 =>
    gf S 91 i4 fun x5 =>
    if x5 ≤ 0 then (
    L_X11_countDown_65 (L_X11_countDown_13  n) v1 S)
    else (
    ldR S 52 0 9 1 v1 9 fun i6 =>
    gf S 76 0 fun x7 =>
    cl (F_X7_contends i6 x7 S) fun r8 S9 =>
    if r8 = 0 then (
    L_X11_countDown_65 (L_X11_countDown_13  n) v1 S9)
    else (
    ldR S9 52 0 9 1 v1 9 fun i11 =>
    gf S9 91 i11 fun x12 =>
    pf S9 91 i11 (x12 - 1) fun S13 =>
    L_X11_countDown_65 (L_X11_countDown_13  n) v1 S13)))
def F_X11_countDown  (S : Mm) : Option (Unit × Mm) :=
  cl (F_X5_isQuietSince S) fun r1 S2 =>
  if r1 = 0 then (
  some ((), S2))
  else (
  L_X11_countDown_13   fu 0 S2)
set_option maxRecDepth 100000 in
set_option maxHeartbeats 4000000 in
theorem w_X11_countDown_65 {p : Program} {l : Launch} {e : Env} {s : State} {m : MethodId} {args : Array Value} {below : List Frame} {meth : Method} {c : Code} {G : xG} {sz : Nat} {o : Unit × Mm} (X : xC G false sz p s m args c cX11_countDown 2 wsX11_countDown RX11 meth none) (v1 : Int32)  (k13 : Int32 → Mm → Option (Unit × Mm)) (hk13 : ∀ (v1 : Int32) (S : Mm) (H : Heap) (locs : List Loc) (ls : Array Slot), k13 v1 S = some o → xW G false sz s H locs S → lv_has ls 2 [(0, .ref (G.2.2 10 0)), (1, .int v1)] → wX p l e rmX11_countDown s m args below meth c H locs (xQv G false sz o) (XA G false sz) 13 ls []) {S : Mm} {H : Heap} {locs : List Loc} {ls : Array Slot} (hW : xW G false sz s H locs S) (hl : lv_has ls 2 [(0, .ref (G.2.2 10 0)), (1, .int v1)]) (h : L_X11_countDown_65 k13 v1 S = some o) : wX p l e rmX11_countDown s m args below meth c H locs (xQv G false sz o) (XA G false sz) 65 ls [] := by
  unfold L_X11_countDown_65 at h
  refine lv_iinc (v := (v1 + 1)) (lv' := [(1, .int (v1 + 1)), (0, .ref (G.2.2 10 0))]) X.1 X.2.1 dX11_countDown_65 hl (k := 1) rfl rfl (by decide) rfl (fun ls hl => ?_)
  refine lv_goto (tgt := 13) X.1 X.2.1 dX11_countDown_68 (by decide) ?_
  exact hk13 (v1 + 1) S _ _ _ h hW  (lv_sub hl [1, 0] rfl)
set_option maxRecDepth 100000 in
set_option maxHeartbeats 4000000 in
theorem w_X11_countDown_13 {p : Program} {l : Launch} {e : Env} {s : State} {m : MethodId} {args : Array Value} {below : List Frame} {meth : Method} {c : Code} {G : xG} {sz : Nat} {o : Unit × Mm} (X : xC G false sz p s m args c cX11_countDown 2 wsX11_countDown RX11 meth none)    : ∀ (n : Nat) (v1 : Int32) (S : Mm) (H : Heap) (locs : List Loc) (ls : Array Slot), L_X11_countDown_13  n v1 S = some o → xW G false sz s H locs S → lv_has ls 2 [(0, .ref (G.2.2 10 0)), (1, .int v1)] → wX p l e rmX11_countDown s m args below meth c H locs (xQv G false sz o) (XA G false sz) 13 ls [] := by
  intro n
  induction n with
  | zero =>
    intro v1 S H locs ls h
    cases h
  | succ n ih =>
    intro v1 S H locs ls h hW  hl
    rw [L_X11_countDown_13] at h
    refine lv_iload_n X.1 X.2.1 dX11_countDown_13 rfl (lv_at hl 1 rfl) ?_
    refine lv_bipush (v := 9) X.1 X.2.1 dX11_countDown_14 rfl ?_
    refine x_icmp_ge X (tgt := 71) dX11_countDown_16 (by decide) h (fun h => ?_) (fun h => ?_)
    · exact x_vret X hW h dX11_countDown_71
    · refine lv_aload_n X.1 X.2.1 dX11_countDown_19 rfl (lv_at hl 0 rfl) ?_
      refine x_getR X hW fd_Cell_nodes (fun w h => List.mem_cons_of_mem _ (gin_X11 w h)) (List.mem_cons_of_mem _ gw14) z_1 dX11_countDown_20 ?_
      refine lv_iload_n X.1 X.2.1 dX11_countDown_23 rfl (lv_at hl 1 rfl) ?_
      refine x_aald X hW ar_52 (ct := 6) rfl (at_52 G) rfl dX11_countDown_24 h (fun i4 qi4 h => ?_)
      refine x_getI X hW fd_Node_backoff (fun w h => List.mem_cons_of_mem _ (gin_X7 w h)) (List.mem_cons_of_mem _ gw499) qi4 dX11_countDown_25 h (fun x5 h => ?_)
      refine x_if_le X (tgt := 65) dX11_countDown_28 (by decide) h (fun h => ?_) (fun h => ?_)
      · exact w_X11_countDown_65 X v1  (L_X11_countDown_13  n) ih hW (lv_sub hl [0, 1] rfl) h
      · refine lv_aload_n X.1 X.2.1 dX11_countDown_31 rfl (lv_at hl 0 rfl) ?_
        refine x_getR X hW fd_Cell_nodes (fun w h => List.mem_cons_of_mem _ (gin_X11 w h)) (List.mem_cons_of_mem _ gw14) z_1 dX11_countDown_32 ?_
        refine lv_iload_n X.1 X.2.1 dX11_countDown_35 rfl (lv_at hl 1 rfl) ?_
        refine x_aald X hW ar_52 (ct := 6) rfl (at_52 G) rfl dX11_countDown_36 h (fun i6 qi6 h => ?_)
        refine lv_aload_n X.1 X.2.1 dX11_countDown_37 rfl (lv_at hl 0 rfl) ?_
        refine x_getR X hW fd_Cell_medium (fun w h => List.mem_cons_of_mem _ (gin_X11 w h)) (List.mem_cons_of_mem _ gw21) z_1 dX11_countDown_38 ?_
        refine x_getI X hW fd_Medium_slot (fun w h => List.mem_cons_of_mem _ (gin_X5 w h)) (List.mem_cons_of_mem _ gw439) z_1 dX11_countDown_41 h (fun x7 h => ?_)
        obtain ⟨r8, S9, h10, h⟩ := cl_some h
        refine x_aftI X hW (x_runV (C := RX7) (a := G.2.2 6 i6) (As := [.int x7]) (rest := []) X hW (c_X7_contends l G X.2.2.2.2.2.2.2.2.2.1 _ S i6 x7 _ h10) (cwV 1 X.2.2.2.2.1 (gV gw718 gw719 gw720 gw46 gw721) rfl rfl rfl ⟨rfl, hd_X7_contends⟩ ⟨Nat.le_of_ble_eq_true rfl, Nat.le_of_ble_eq_true rfl⟩) (x_recv X hW ob_Node qi6) rfl hl.1 rfl (Nat.le_of_ble_eq_true rfl) dX11_countDown_44 ⟨Nat.zero_le _, Nat.zero_le _⟩) (fun H locs hW => ?_)
        refine x_if_eq X (tgt := 65) dX11_countDown_47 (by decide) h (fun h => ?_) (fun h => ?_)
        · exact w_X11_countDown_65 X v1  (L_X11_countDown_13  n) ih hW (lv_sub hl [0, 1] rfl) h
        · refine lv_aload_n X.1 X.2.1 dX11_countDown_50 rfl (lv_at hl 0 rfl) ?_
          refine x_getR X hW fd_Cell_nodes (fun w h => List.mem_cons_of_mem _ (gin_X11 w h)) (List.mem_cons_of_mem _ gw14) z_1 dX11_countDown_51 ?_
          refine lv_iload_n X.1 X.2.1 dX11_countDown_54 rfl (lv_at hl 1 rfl) ?_
          refine x_aald X hW ar_52 (ct := 6) rfl (at_52 G) rfl dX11_countDown_55 h (fun i11 qi11 h => ?_)
          refine lv_dup X.1 X.2.1 dX11_countDown_56 rfl ?_
          refine x_getI X hW fd_Node_backoff (fun w h => List.mem_cons_of_mem _ (gin_X7 w h)) (List.mem_cons_of_mem _ gw499) qi11 dX11_countDown_57 h (fun x12 h => ?_)
          refine lv_iconst (v := 1) X.1 X.2.1 dX11_countDown_60 rfl ?_
          refine lv_isub X.1 X.2.1 dX11_countDown_61 ?_
          refine x_putI X hW fd_Node_backoff (fun w h => List.mem_cons_of_mem _ (gin_X7 w h)) (List.mem_cons_of_mem _ gw499) qi11 dX11_countDown_62 tyX7 tyX7_ok nmX7 rfl rfl rfl h (fun S13 H locs h hW => ?_)
          exact w_X11_countDown_65 X v1  (L_X11_countDown_13  n) ih hW (lv_sub hl [0, 1] rfl) h
set_option maxRecDepth 100000 in
set_option maxHeartbeats 4000000 in
theorem w_X11_countDown_0 {p : Program} {l : Launch} {e : Env} {s : State} {m : MethodId} {args : Array Value} {below : List Frame} {meth : Method} {c : Code} {G : xG} {sz : Nat} {o : Unit × Mm} (X : xC G false sz p s m args c cX11_countDown 2 wsX11_countDown RX11 meth none)  {S : Mm} {H : Heap} {locs : List Loc} {ls : Array Slot} (hW : xW G false sz s H locs S) (hl : lv_has ls 2 [(0, .ref (G.2.2 10 0))]) (h : F_X11_countDown  S = some o) : wX p l e rmX11_countDown s m args below meth c H locs (xQv G false sz o) (XA G false sz) 0 ls [] := by
  unfold F_X11_countDown at h
  refine lv_aload_n X.1 X.2.1 dX11_countDown_0 rfl (lv_at hl 0 rfl) ?_
  refine x_getR X hW fd_Cell_medium (fun w h => List.mem_cons_of_mem _ (gin_X11 w h)) (List.mem_cons_of_mem _ gw21) z_1 dX11_countDown_1 ?_
  obtain ⟨r1, S2, h3, h⟩ := cl_some h
  refine x_aftI X hW (x_runV (C := RX5) (a := G.2.2 4 0) (As := []) (rest := []) X hW (c_X5_isQuietSince l G X.2.2.2.2.2.2.2.2.2.1 _ S _ h3) (cwV 0 X.2.2.2.2.1 (gV gw620 gw621 gw622 gw20 gw623) rfl rfl rfl ⟨rfl, hd_X5_isQuietSince⟩ ⟨Nat.le_of_ble_eq_true rfl, Nat.le_of_ble_eq_true rfl⟩) (x_recv X hW ob_Medium z_1) rfl hl.1 rfl (Nat.le_of_ble_eq_true rfl) dX11_countDown_4 ⟨Nat.zero_le _, Nat.zero_le _⟩) (fun H locs hW => ?_)
  refine x_if_ne X (tgt := 11) dX11_countDown_7 (by decide) h (fun h => ?_) (fun h => ?_)
  · refine lv_iconst (v := 0) X.1 X.2.1 dX11_countDown_11 rfl ?_
    refine lv_istore_n (lv' := [(1, .int 0), (0, .ref (G.2.2 10 0))]) X.1 X.2.1 dX11_countDown_12 rfl hl (by decide) rfl (fun ls hl => ?_)
    exact w_X11_countDown_13 X    fu 0 S2 _ _ _ h hW  (lv_sub hl [1, 0] rfl)
  · exact x_vret X hW h dX11_countDown_10
theorem c_X11_countDown (l : Launch) (G : xG) (hD : xD G false) (sz : Nat) (S : Mm)  (o : Unit × Mm) (h : F_X11_countDown  S = some o) : Met l yX11_countDown wsX11_countDown rmX11_countDown (xPre G false S sz [.ref (G.2.2 10 0)]) (xQv G false sz o) 0 0 (XA G false sz) :=
  x_start hD (by decide) rfl (Nat.le_of_ble_eq_true rfl) (fun p e s m below meth c X hW ls hl => w_X11_countDown_0 X  hW hl h)

/-! WirelessCell.go(I)I -/
def rmX11_go : Room := { frames := 9, cells := 0, slots := 0, locals := 237 }
def L_X11_go_11   (S : Mm) : Option (Int32 × Mm) :=
  some ((-1), S)
def L_X11_go_119 (k23 : Int32 → Mm → Option (Int32 × Mm)) (v2 : Int32) (v3 : Int32) (S : Mm) : Option (Int32 × Mm) :=
  cl (F_X11_failWaiters S) fun r33 S34 =>
  cl (F_X11_countDown S34) fun r36 S37 =>
  gf S37 76 0 fun x39 =>
  pf S37 76 0 (x39 + 1) fun S40 =>
  k23 (v3 + (-1)) S40
def L_X11_go_23  (v2 : Int32) : Nat → Int32 → Mm → Option (Int32 × Mm)
  | 0, _, _ => none
  | n + 1, v3, S => 
    if v3 ≤ 0 then (
    gf S 73 0 fun x2 =>
    some ((x2 - v2), S))
    else (
    cl (F_X11_idleSlots v3 S) fun r3 S4 =>
    if r3 ≤ 0 then (
    cl (F_X11_beginNodes S4) fun r6 S7 =>
    cl (F_X8_begin S7) fun r9 S10 =>
    cl (F_X5_closeBeginnings S10) fun r12 S13 =>
    cl (F_X11_endFrames S13) fun r15 S16 =>
    if r15 = (-1) then (
    L_X11_go_119 (L_X11_go_23 v2 n) v2 v3 S16)
    else (
    cl (F_X5_newestBytes S16) fun r18 S19 =>
    nn r18 40 fun i21 =>
    ldA S19 27 i21 300 40 0 fun x22 =>
    if x22 = 8 then (
    cl (F_X11_takeData r15 S19) fun r26 S27 =>
    L_X11_go_119 (L_X11_go_23 v2 n) v2 v3 S27)
    else (
    cl (F_X11_takeManagement r15 S19) fun r23 S24 =>
    L_X11_go_119 (L_X11_go_23 v2 n) v2 v3 S24)))
    else (
    cl (F_X5_passQuiet r3 S4) fun r29 S30 =>
    tp (v3 - r3) fun x32 =>
    (L_X11_go_23 v2 n) x32 S30))
def F_X11_go (v1 : Int32) (S : Mm) : Option (Int32 × Mm) :=
  if v1 < 0 then (
  L_X11_go_11  S)
  else (
  if v1 ≤ 3000 then (
  gf S 73 0 fun x1 =>
  L_X11_go_23  x1 fu v1 S)
  else (
  L_X11_go_11  S))
set_option maxRecDepth 100000 in
set_option maxHeartbeats 4000000 in
theorem w_X11_go_11 {p : Program} {l : Launch} {e : Env} {s : State} {m : MethodId} {args : Array Value} {below : List Frame} {meth : Method} {c : Code} {G : xG} {sz : Nat} {o : Int32 × Mm} (X : xC G false sz p s m args c cX11_go 6 wsX11_go RX11 meth (some .int))    {S : Mm} {H : Heap} {locs : List Loc} {ls : Array Slot} (hW : xW G false sz s H locs S) (hl : lv_has ls 6 []) (h : L_X11_go_11   S = some o) : wX p l e rmX11_go s m args below meth c H locs (xQi G false sz o) (XA G false sz) 11 ls [] := by
  unfold L_X11_go_11 at h
  refine lv_iconst (v := (-1)) X.1 X.2.1 dX11_go_11 rfl ?_
  exact x_iret X hW h dX11_go_12
set_option maxRecDepth 100000 in
set_option maxHeartbeats 4000000 in
theorem w_X11_go_119 {p : Program} {l : Launch} {e : Env} {s : State} {m : MethodId} {args : Array Value} {below : List Frame} {meth : Method} {c : Code} {G : xG} {sz : Nat} {o : Int32 × Mm} (X : xC G false sz p s m args c cX11_go 6 wsX11_go RX11 meth (some .int)) (v2 : Int32) (v3 : Int32)  (k23 : Int32 → Mm → Option (Int32 × Mm)) (hk23 : ∀ (v3 : Int32) (S : Mm) (H : Heap) (locs : List Loc) (ls : Array Slot), k23 v3 S = some o → xW G false sz s H locs S → lv_has ls 6 [(0, .ref (G.2.2 10 0)), (2, .int v2), (3, .int v3)] → wX p l e rmX11_go s m args below meth c H locs (xQi G false sz o) (XA G false sz) 23 ls []) {S : Mm} {H : Heap} {locs : List Loc} {ls : Array Slot} (hW : xW G false sz s H locs S) (hl : lv_has ls 6 [(0, .ref (G.2.2 10 0)), (2, .int v2), (3, .int v3)]) (h : L_X11_go_119 k23 v2 v3 S = some o) : wX p l e rmX11_go s m args below meth c H locs (xQi G false sz o) (XA G false sz) 119 ls [] := by
  unfold L_X11_go_119 at h
  refine lv_aload_n X.1 X.2.1 dX11_go_119 rfl (lv_at hl 0 rfl) ?_
  obtain ⟨r33, S34, h35, h⟩ := cl_some h
  refine x_aftV X hW (x_runV (C := RX11) (a := G.2.2 10 0) (As := []) (rest := []) X hW (c_X11_failWaiters l G X.2.2.2.2.2.2.2.2.2.1 _ S _ h35) (cwV 0 X.2.2.2.2.1 (gV gw983 gw984 gw985 gw2 gw986) rfl rfl rfl ⟨rfl, hd_X11_failWaiters⟩ ⟨Nat.le_of_ble_eq_true rfl, Nat.le_of_ble_eq_true rfl⟩) (x_recv X hW ob_Cell z_1) rfl hl.1 rfl (Nat.le_of_ble_eq_true rfl) dX11_go_120 ⟨Nat.zero_le _, Nat.zero_le _⟩) (fun H locs hW => ?_)
  refine lv_aload_n X.1 X.2.1 dX11_go_123 rfl (lv_at hl 0 rfl) ?_
  obtain ⟨r36, S37, h38, h⟩ := cl_some h
  refine x_aftV X hW (x_runV (C := RX11) (a := G.2.2 10 0) (As := []) (rest := []) X hW (c_X11_countDown l G X.2.2.2.2.2.2.2.2.2.1 _ S34 _ h38) (cwV 0 X.2.2.2.2.1 (gV gw992 gw993 gw994 gw2 gw995) rfl rfl rfl ⟨rfl, hd_X11_countDown⟩ ⟨Nat.le_of_ble_eq_true rfl, Nat.le_of_ble_eq_true rfl⟩) (x_recv X hW ob_Cell z_1) rfl hl.1 rfl (Nat.le_of_ble_eq_true rfl) dX11_go_124 ⟨Nat.zero_le _, Nat.zero_le _⟩) (fun H locs hW => ?_)
  refine lv_aload_n X.1 X.2.1 dX11_go_127 rfl (lv_at hl 0 rfl) ?_
  refine x_getR X hW fd_Cell_medium (fun w h => List.mem_cons_of_mem _ (gin_X11 w h)) (List.mem_cons_of_mem _ gw21) z_1 dX11_go_128 ?_
  refine lv_dup X.1 X.2.1 dX11_go_131 rfl ?_
  refine x_getI X hW fd_Medium_slot (fun w h => List.mem_cons_of_mem _ (gin_X5 w h)) (List.mem_cons_of_mem _ gw439) z_1 dX11_go_132 h (fun x39 h => ?_)
  refine lv_iconst (v := 1) X.1 X.2.1 dX11_go_135 rfl ?_
  refine lv_iadd X.1 X.2.1 dX11_go_136 ?_
  refine x_putI X hW fd_Medium_slot (fun w h => List.mem_cons_of_mem _ (gin_X5 w h)) (List.mem_cons_of_mem _ gw439) z_1 dX11_go_137 tyX5 tyX5_ok nmX5 rfl rfl rfl h (fun S40 H locs h hW => ?_)
  refine lv_iinc (v := (v3 + (-1))) (lv' := [(3, .int (v3 + (-1))), (0, .ref (G.2.2 10 0)), (2, .int v2)]) X.1 X.2.1 dX11_go_140 hl (k := 2) rfl rfl (by decide) rfl (fun ls hl => ?_)
  refine lv_goto (tgt := 23) X.1 X.2.1 dX11_go_143 (by decide) ?_
  exact hk23 (v3 + (-1)) S40 _ _ _ h hW  (lv_sub hl [1, 2, 0] rfl)
set_option maxRecDepth 100000 in
set_option maxHeartbeats 4000000 in
theorem w_X11_go_23 {p : Program} {l : Launch} {e : Env} {s : State} {m : MethodId} {args : Array Value} {below : List Frame} {meth : Method} {c : Code} {G : xG} {sz : Nat} {o : Int32 × Mm} (X : xC G false sz p s m args c cX11_go 6 wsX11_go RX11 meth (some .int)) (v2 : Int32)   : ∀ (n : Nat) (v3 : Int32) (S : Mm) (H : Heap) (locs : List Loc) (ls : Array Slot), L_X11_go_23 v2 n v3 S = some o → xW G false sz s H locs S → lv_has ls 6 [(0, .ref (G.2.2 10 0)), (2, .int v2), (3, .int v3)] → wX p l e rmX11_go s m args below meth c H locs (xQi G false sz o) (XA G false sz) 23 ls [] := by
  intro n
  induction n with
  | zero =>
    intro v3 S H locs ls h
    cases h
  | succ n ih =>
    intro v3 S H locs ls h hW  hl
    rw [L_X11_go_23] at h
    refine lv_iload_n X.1 X.2.1 dX11_go_23 rfl (lv_at hl 2 rfl) ?_
    refine x_if_le X (tgt := 146) dX11_go_24 (by decide) h (fun h => ?_) (fun h => ?_)
    · refine lv_aload_n X.1 X.2.1 dX11_go_146 rfl (lv_at hl 0 rfl) ?_
      refine x_getR X hW fd_Cell_medium (fun w h => List.mem_cons_of_mem _ (gin_X11 w h)) (List.mem_cons_of_mem _ gw21) z_1 dX11_go_147 ?_
      refine x_getI X hW fd_Medium_began (fun w h => List.mem_cons_of_mem _ (gin_X5 w h)) (List.mem_cons_of_mem _ gw594) z_1 dX11_go_150 h (fun x2 h => ?_)
      refine lv_iload_n X.1 X.2.1 dX11_go_153 rfl (lv_at hl 1 rfl) ?_
      refine lv_isub X.1 X.2.1 dX11_go_154 ?_
      exact x_iret X hW h dX11_go_155
    · refine lv_aload_n X.1 X.2.1 dX11_go_27 rfl (lv_at hl 0 rfl) ?_
      refine lv_iload_n X.1 X.2.1 dX11_go_28 rfl (lv_at hl 2 rfl) ?_
      obtain ⟨r3, S4, h5, h⟩ := cl_some h
      refine x_aftI X hW (x_runV (C := RX11) (a := G.2.2 10 0) (As := [.int v3]) (rest := []) X hW (c_X11_idleSlots l G X.2.2.2.2.2.2.2.2.2.1 _ S v3 _ h5) (cwV 1 X.2.2.2.2.1 (gV gw595 gw596 gw597 gw2 gw598) rfl rfl rfl ⟨rfl, hd_X11_idleSlots⟩ ⟨Nat.le_of_ble_eq_true rfl, Nat.le_of_ble_eq_true rfl⟩) (x_recv X hW ob_Cell z_1) rfl hl.1 rfl (Nat.le_of_ble_eq_true rfl) dX11_go_29 ⟨Nat.zero_le _, Nat.zero_le _⟩) (fun H locs hW => ?_)
      refine lv_istore (lv' := [(4, .int r3), (0, .ref (G.2.2 10 0)), (2, .int v2), (3, .int v3)]) X.1 X.2.1 dX11_go_32 hl (by decide) rfl (fun ls hl => ?_)
      refine lv_iload X.1 X.2.1 dX11_go_34 (lv_at hl 0 rfl) ?_
      refine x_if_le X (tgt := 56) dX11_go_36 (by decide) h (fun h => ?_) (fun h => ?_)
      · refine lv_aload_n X.1 X.2.1 dX11_go_56 rfl (lv_at hl 1 rfl) ?_
        obtain ⟨r6, S7, h8, h⟩ := cl_some h
        refine x_aftV X hW (x_runV (C := RX11) (a := G.2.2 10 0) (As := []) (rest := []) X hW (c_X11_beginNodes l G X.2.2.2.2.2.2.2.2.2.1 _ S4 _ h8) (cwV 0 X.2.2.2.2.1 (gV gw615 gw616 gw617 gw2 gw618) rfl rfl rfl ⟨rfl, hd_X11_beginNodes⟩ ⟨Nat.le_of_ble_eq_true rfl, Nat.le_of_ble_eq_true rfl⟩) (x_recv X hW ob_Cell z_1) rfl hl.1 rfl (Nat.le_of_ble_eq_true rfl) dX11_go_57 ⟨Nat.zero_le _, Nat.zero_le _⟩) (fun H locs hW => ?_)
        refine lv_aload_n X.1 X.2.1 dX11_go_60 rfl (lv_at hl 1 rfl) ?_
        refine x_getR X hW fd_Cell_puts (fun w h => List.mem_cons_of_mem _ (gin_X11 w h)) (List.mem_cons_of_mem _ gw25) z_1 dX11_go_61 ?_
        refine lv_aload_n X.1 X.2.1 dX11_go_64 rfl (lv_at hl 1 rfl) ?_
        refine x_getR X hW fd_Cell_medium (fun w h => List.mem_cons_of_mem _ (gin_X11 w h)) (List.mem_cons_of_mem _ gw21) z_1 dX11_go_65 ?_
        obtain ⟨r9, S10, h11, h⟩ := cl_some h
        refine x_aftV X hW (x_runV (C := RX8) (a := G.2.2 7 0) (As := [.ref (G.2.2 4 0)]) (rest := []) X hW (c_X8_begin l G X.2.2.2.2.2.2.2.2.2.1 _ S7 _ h11) (cwV 1 X.2.2.2.2.1 (gV gw723 gw724 gw725 gw24 gw726) rfl rfl rfl ⟨rfl, hd_X8_begin⟩ ⟨Nat.le_of_ble_eq_true rfl, Nat.le_of_ble_eq_true rfl⟩) (x_recv X hW ob_Puts z_1) rfl hl.1 rfl (Nat.le_of_ble_eq_true rfl) dX11_go_68 ⟨Nat.zero_le _, Nat.zero_le _⟩) (fun H locs hW => ?_)
        refine lv_aload_n X.1 X.2.1 dX11_go_71 rfl (lv_at hl 1 rfl) ?_
        refine x_getR X hW fd_Cell_medium (fun w h => List.mem_cons_of_mem _ (gin_X11 w h)) (List.mem_cons_of_mem _ gw21) z_1 dX11_go_72 ?_
        obtain ⟨r12, S13, h14, h⟩ := cl_some h
        refine x_aftV X hW (x_runV (C := RX5) (a := G.2.2 4 0) (As := []) (rest := []) X hW (c_X5_closeBeginnings l G X.2.2.2.2.2.2.2.2.2.1 _ S10 _ h14) (cwV 0 X.2.2.2.2.1 (gV gw733 gw734 gw735 gw20 gw736) rfl rfl rfl ⟨rfl, hd_X5_closeBeginnings⟩ ⟨Nat.le_of_ble_eq_true rfl, Nat.le_of_ble_eq_true rfl⟩) (x_recv X hW ob_Medium z_1) rfl hl.1 rfl (Nat.le_of_ble_eq_true rfl) dX11_go_75 ⟨Nat.zero_le _, Nat.zero_le _⟩) (fun H locs hW => ?_)
        refine lv_aload_n X.1 X.2.1 dX11_go_78 rfl (lv_at hl 1 rfl) ?_
        obtain ⟨r15, S16, h17, h⟩ := cl_some h
        refine x_aftI X hW (x_runV (C := RX11) (a := G.2.2 10 0) (As := []) (rest := []) X hW (c_X11_endFrames l G X.2.2.2.2.2.2.2.2.2.1 _ S13 _ h17) (cwV 0 X.2.2.2.2.1 (gV gw745 gw746 gw747 gw2 gw748) rfl rfl rfl ⟨rfl, hd_X11_endFrames⟩ ⟨Nat.le_of_ble_eq_true rfl, Nat.le_of_ble_eq_true rfl⟩) (x_recv X hW ob_Cell z_1) rfl hl.1 rfl (Nat.le_of_ble_eq_true rfl) dX11_go_79 ⟨Nat.zero_le _, Nat.zero_le _⟩) (fun H locs hW => ?_)
        refine lv_istore (lv' := [(5, .int r15), (4, .int r3), (0, .ref (G.2.2 10 0)), (2, .int v2), (3, .int v3)]) X.1 X.2.1 dX11_go_82 hl (by decide) rfl (fun ls hl => ?_)
        refine lv_iload X.1 X.2.1 dX11_go_84 (lv_at hl 0 rfl) ?_
        refine lv_iconst (v := (-1)) X.1 X.2.1 dX11_go_86 rfl ?_
        refine x_icmp_eq X (tgt := 119) dX11_go_87 (by decide) h (fun h => ?_) (fun h => ?_)
        · exact w_X11_go_119 X v2 v3  (L_X11_go_23 v2 n) ih hW (lv_sub hl [2, 3, 4] rfl) h
        · refine lv_aload_n X.1 X.2.1 dX11_go_90 rfl (lv_at hl 2 rfl) ?_
          refine x_getR X hW fd_Cell_medium (fun w h => List.mem_cons_of_mem _ (gin_X11 w h)) (List.mem_cons_of_mem _ gw21) z_1 dX11_go_91 ?_
          obtain ⟨r18, S19, h20, h⟩ := cl_some h
          refine x_aftQ X hW (x_runV (C := RX5) (a := G.2.2 4 0) (As := []) (rest := []) X hW (c_X5_newestBytes l G X.2.2.2.2.2.2.2.2.2.1 _ S16 _ h20) (cwV 0 X.2.2.2.2.1 (gV gw759 gw760 gw761 gw20 gw762) rfl rfl rfl ⟨rfl, hd_X5_newestBytes⟩ ⟨Nat.le_of_ble_eq_true rfl, Nat.le_of_ble_eq_true rfl⟩) (x_recv X hW ob_Medium z_1) rfl hl.1 rfl (Nat.le_of_ble_eq_true rfl) dX11_go_94 ⟨Nat.zero_le _, Nat.zero_le _⟩) (fun H locs hW => ?_)
          refine x_nn h (fun i21 qi21 h => ?_)
          refine lv_iconst (v := 0) X.1 X.2.1 dX11_go_97 rfl ?_
          refine x_iald X hW ar_27 dX11_go_98 h (fun x22 h => ?_)
          refine lv_bipush (v := 8) X.1 X.2.1 dX11_go_99 rfl ?_
          refine x_icmp_ne X (tgt := 113) dX11_go_101 (by decide) h (fun h => ?_) (fun h => ?_)
          · refine lv_aload_n X.1 X.2.1 dX11_go_113 rfl (lv_at hl 2 rfl) ?_
            refine lv_iload X.1 X.2.1 dX11_go_114 (lv_at hl 0 rfl) ?_
            obtain ⟨r23, S24, h25, h⟩ := cl_some h
            refine x_aftV X hW (x_runV (C := RX11) (a := G.2.2 10 0) (As := [.int r15]) (rest := []) X hW (c_X11_takeManagement l G X.2.2.2.2.2.2.2.2.2.1 _ S19 r15 _ h25) (cwV 1 X.2.2.2.2.1 (gV gw967 gw968 gw969 gw2 gw970) rfl rfl rfl ⟨rfl, hd_X11_takeManagement⟩ ⟨Nat.le_of_ble_eq_true rfl, Nat.le_of_ble_eq_true rfl⟩) (x_recv X hW ob_Cell z_1) rfl hl.1 rfl (Nat.le_of_ble_eq_true rfl) dX11_go_116 ⟨Nat.zero_le _, Nat.zero_le _⟩) (fun H locs hW => ?_)
            exact w_X11_go_119 X v2 v3  (L_X11_go_23 v2 n) ih hW (lv_sub hl [2, 3, 4] rfl) h
          · refine lv_aload_n X.1 X.2.1 dX11_go_104 rfl (lv_at hl 2 rfl) ?_
            refine lv_iload X.1 X.2.1 dX11_go_105 (lv_at hl 0 rfl) ?_
            obtain ⟨r26, S27, h28, h⟩ := cl_some h
            refine x_aftV X hW (x_runV (C := RX11) (a := G.2.2 10 0) (As := [.int r15]) (rest := []) X hW (c_X11_takeData l G X.2.2.2.2.2.2.2.2.2.1 _ S19 r15 _ h28) (cwV 1 X.2.2.2.2.1 (gV gw792 gw793 gw794 gw2 gw795) rfl rfl rfl ⟨rfl, hd_X11_takeData⟩ ⟨Nat.le_of_ble_eq_true rfl, Nat.le_of_ble_eq_true rfl⟩) (x_recv X hW ob_Cell z_1) rfl hl.1 rfl (Nat.le_of_ble_eq_true rfl) dX11_go_107 ⟨Nat.zero_le _, Nat.zero_le _⟩) (fun H locs hW => ?_)
            refine lv_goto (tgt := 119) X.1 X.2.1 dX11_go_110 (by decide) ?_
            exact w_X11_go_119 X v2 v3  (L_X11_go_23 v2 n) ih hW (lv_sub hl [2, 3, 4] rfl) h
      · refine lv_aload_n X.1 X.2.1 dX11_go_39 rfl (lv_at hl 1 rfl) ?_
        refine x_getR X hW fd_Cell_medium (fun w h => List.mem_cons_of_mem _ (gin_X11 w h)) (List.mem_cons_of_mem _ gw21) z_1 dX11_go_40 ?_
        refine lv_iload X.1 X.2.1 dX11_go_43 (lv_at hl 0 rfl) ?_
        obtain ⟨r29, S30, h31, h⟩ := cl_some h
        refine x_aftV X hW (x_runV (C := RX5) (a := G.2.2 4 0) (As := [.int r3]) (rest := []) X hW (c_X5_passQuiet l G X.2.2.2.2.2.2.2.2.2.1 _ S4 r3 _ h31) (cwV 1 X.2.2.2.2.1 (gV gw609 gw610 gw611 gw20 gw612) rfl rfl rfl ⟨rfl, hd_X5_passQuiet⟩ ⟨Nat.le_of_ble_eq_true rfl, Nat.le_of_ble_eq_true rfl⟩) (x_recv X hW ob_Medium z_1) rfl hl.1 rfl (Nat.le_of_ble_eq_true rfl) dX11_go_45 ⟨Nat.zero_le _, Nat.zero_le _⟩) (fun H locs hW => ?_)
        refine lv_iload_n X.1 X.2.1 dX11_go_48 rfl (lv_at hl 3 rfl) ?_
        refine lv_iload X.1 X.2.1 dX11_go_49 (lv_at hl 0 rfl) ?_
        refine lv_isub X.1 X.2.1 dX11_go_51 ?_
        refine x_top h (fun x32 h => ?_)
        refine lv_istore_n (lv' := [(3, .int x32), (4, .int r3), (0, .ref (G.2.2 10 0)), (2, .int v2)]) X.1 X.2.1 dX11_go_52 rfl hl (by decide) rfl (fun ls hl => ?_)
        refine lv_goto (tgt := 23) X.1 X.2.1 dX11_go_53 (by decide) ?_
        exact ih x32 S30 _ _ _ h hW  (lv_sub hl [2, 3, 0] rfl)
set_option maxRecDepth 100000 in
set_option maxHeartbeats 4000000 in
theorem w_X11_go_0 {p : Program} {l : Launch} {e : Env} {s : State} {m : MethodId} {args : Array Value} {below : List Frame} {meth : Method} {c : Code} {G : xG} {sz : Nat} {o : Int32 × Mm} (X : xC G false sz p s m args c cX11_go 6 wsX11_go RX11 meth (some .int)) (v1 : Int32) {S : Mm} {H : Heap} {locs : List Loc} {ls : Array Slot} (hW : xW G false sz s H locs S) (hl : lv_has ls 6 [(0, .ref (G.2.2 10 0)), (1, .int v1)]) (h : F_X11_go v1 S = some o) : wX p l e rmX11_go s m args below meth c H locs (xQi G false sz o) (XA G false sz) 0 ls [] := by
  unfold F_X11_go at h
  refine lv_iload_n X.1 X.2.1 dX11_go_0 rfl (lv_at hl 1 rfl) ?_
  refine x_if_lt X (tgt := 11) dX11_go_1 (by decide) h (fun h => ?_) (fun h => ?_)
  · exact w_X11_go_11 X    hW (lv_sub hl [] rfl) h
  · refine lv_iload_n X.1 X.2.1 dX11_go_4 rfl (lv_at hl 1 rfl) ?_
    refine lv_sipush (v := 3000) X.1 X.2.1 dX11_go_5 rfl ?_
    refine x_icmp_le X (tgt := 13) dX11_go_8 (by decide) h (fun h => ?_) (fun h => ?_)
    · refine lv_aload_n X.1 X.2.1 dX11_go_13 rfl (lv_at hl 0 rfl) ?_
      refine x_getR X hW fd_Cell_medium (fun w h => List.mem_cons_of_mem _ (gin_X11 w h)) (List.mem_cons_of_mem _ gw21) z_1 dX11_go_14 ?_
      refine x_getI X hW fd_Medium_began (fun w h => List.mem_cons_of_mem _ (gin_X5 w h)) (List.mem_cons_of_mem _ gw594) z_1 dX11_go_17 h (fun x1 h => ?_)
      refine lv_istore_n (lv' := [(2, .int x1), (0, .ref (G.2.2 10 0)), (1, .int v1)]) X.1 X.2.1 dX11_go_20 rfl hl (by decide) rfl (fun ls hl => ?_)
      refine lv_iload_n X.1 X.2.1 dX11_go_21 rfl (lv_at hl 2 rfl) ?_
      refine lv_istore_n (lv' := [(3, .int v1), (2, .int x1), (0, .ref (G.2.2 10 0)), (1, .int v1)]) X.1 X.2.1 dX11_go_22 rfl hl (by decide) rfl (fun ls hl => ?_)
      exact w_X11_go_23 X x1   fu v1 S _ _ _ h hW  (lv_sub hl [2, 1, 0] rfl)
    · exact w_X11_go_11 X    hW (lv_sub hl [] rfl) h
theorem c_X11_go (l : Launch) (G : xG) (hD : xD G false) (sz : Nat) (S : Mm) (v1 : Int32) (o : Int32 × Mm) (h : F_X11_go v1 S = some o) : Met l yX11_go wsX11_go rmX11_go (xPre G false S sz [.ref (G.2.2 10 0), .int v1]) (xQi G false sz o) 0 0 (XA G false sz) :=
  x_start hD (by decide) rfl (Nat.le_of_ble_eq_true rfl) (fun p e s m below meth c X hW ls hl => w_X11_go_0 X v1 hW hl h)

/-! WirelessCell.ended(I)I -/
def rmX11_ended : Room := { frames := 0, cells := 0, slots := 0, locals := 0 }
def L_X11_ended_21   (S : Mm) : Option (Int32 × Mm) :=
  some ((-1), S)
def F_X11_ended (v1 : Int32) (S : Mm) : Option (Int32 × Mm) :=
  if v1 < 0 then (
  L_X11_ended_21  S)
  else (
  gf S 106 0 fun x1 =>
  if x1 ≤ v1 then (
  L_X11_ended_21  S)
  else (
  ldA S 56 0 200 1 v1 fun x2 =>
  some (x2, S)))
set_option maxRecDepth 100000 in
set_option maxHeartbeats 4000000 in
theorem w_X11_ended_21 {p : Program} {l : Launch} {e : Env} {s : State} {m : MethodId} {args : Array Value} {below : List Frame} {meth : Method} {c : Code} {G : xG} {sz : Nat} {o : Int32 × Mm} (X : xC G false sz p s m args c cX11_ended 2 wsX11_ended RX11 meth (some .int))    {S : Mm} {H : Heap} {locs : List Loc} {ls : Array Slot} (hW : xW G false sz s H locs S) (hl : lv_has ls 2 []) (h : L_X11_ended_21   S = some o) : wX p l e rmX11_ended s m args below meth c H locs (xQi G false sz o) (XA G false sz) 21 ls [] := by
  unfold L_X11_ended_21 at h
  refine lv_iconst (v := (-1)) X.1 X.2.1 dX11_ended_21 rfl ?_
  exact x_iret X hW h dX11_ended_22
set_option maxRecDepth 100000 in
set_option maxHeartbeats 4000000 in
theorem w_X11_ended_0 {p : Program} {l : Launch} {e : Env} {s : State} {m : MethodId} {args : Array Value} {below : List Frame} {meth : Method} {c : Code} {G : xG} {sz : Nat} {o : Int32 × Mm} (X : xC G false sz p s m args c cX11_ended 2 wsX11_ended RX11 meth (some .int)) (v1 : Int32) {S : Mm} {H : Heap} {locs : List Loc} {ls : Array Slot} (hW : xW G false sz s H locs S) (hl : lv_has ls 2 [(0, .ref (G.2.2 10 0)), (1, .int v1)]) (h : F_X11_ended v1 S = some o) : wX p l e rmX11_ended s m args below meth c H locs (xQi G false sz o) (XA G false sz) 0 ls [] := by
  unfold F_X11_ended at h
  refine lv_iload_n X.1 X.2.1 dX11_ended_0 rfl (lv_at hl 1 rfl) ?_
  refine x_if_lt X (tgt := 21) dX11_ended_1 (by decide) h (fun h => ?_) (fun h => ?_)
  · exact w_X11_ended_21 X    hW (lv_sub hl [] rfl) h
  · refine lv_iload_n X.1 X.2.1 dX11_ended_4 rfl (lv_at hl 1 rfl) ?_
    refine lv_aload_n X.1 X.2.1 dX11_ended_5 rfl (lv_at hl 0 rfl) ?_
    refine x_getI X hW fd_Cell_submissions (fun w h => List.mem_cons_of_mem _ (gin_X11 w h)) (List.mem_cons_of_mem _ gw566) z_1 dX11_ended_6 h (fun x1 h => ?_)
    refine x_icmp_ge X (tgt := 21) dX11_ended_9 (by decide) h (fun h => ?_) (fun h => ?_)
    · exact w_X11_ended_21 X    hW (lv_sub hl [] rfl) h
    · refine lv_aload_n X.1 X.2.1 dX11_ended_12 rfl (lv_at hl 0 rfl) ?_
      refine x_getR X hW fd_Cell_ends (fun w h => List.mem_cons_of_mem _ (gin_X11 w h)) (List.mem_cons_of_mem _ gw40) z_1 dX11_ended_13 ?_
      refine lv_iload_n X.1 X.2.1 dX11_ended_16 rfl (lv_at hl 1 rfl) ?_
      refine x_iald X hW ar_56 dX11_ended_17 h (fun x2 h => ?_)
      refine lv_goto (tgt := 22) X.1 X.2.1 dX11_ended_18 (by decide) ?_
      exact x_iret X hW h dX11_ended_22
theorem c_X11_ended (l : Launch) (G : xG) (hD : xD G false) (sz : Nat) (S : Mm) (v1 : Int32) (o : Int32 × Mm) (h : F_X11_ended v1 S = some o) : Met l yX11_ended wsX11_ended rmX11_ended (xPre G false S sz [.ref (G.2.2 10 0), .int v1]) (xQi G false sz o) 0 0 (XA G false sz) :=
  x_start hD (by decide) rfl (Nat.le_of_ble_eq_true rfl) (fun p e s m below meth c X hW ls hl => w_X11_ended_0 X v1 hW hl h)

/-! WirelessCell.keyedAtAp()I -/
def rmX11_keyedAtAp : Room := { frames := 0, cells := 0, slots := 0, locals := 0 }
def L_X11_keyedAtAp_26 (k4 : Int32 → Int32 → Mm → Option (Int32 × Mm)) (v1 : Int32) (v2 : Int32) (S : Mm) : Option (Int32 × Mm) :=
  k4 v1 (v2 + 1) S
def L_X11_keyedAtAp_4   : Nat → Int32 → Int32 → Mm → Option (Int32 × Mm)
  | 0, _, _, _ => none
  | n + 1, v1, v2, S => 
    if 9 ≤ v2 then (
    some (v1, S))
    else (
    ldR S 54 0 9 1 v2 18 fun i1 =>
    gf S 62 i1 fun x2 =>
    if x2 = 4 then (
    L_X11_keyedAtAp_26 (L_X11_keyedAtAp_4  n) (v1 + 1) v2 S)
    else (
    L_X11_keyedAtAp_26 (L_X11_keyedAtAp_4  n) v1 v2 S))
def F_X11_keyedAtAp  (S : Mm) : Option (Int32 × Mm) :=
  L_X11_keyedAtAp_4   fu 0 1 S
set_option maxRecDepth 100000 in
set_option maxHeartbeats 4000000 in
theorem w_X11_keyedAtAp_26 {p : Program} {l : Launch} {e : Env} {s : State} {m : MethodId} {args : Array Value} {below : List Frame} {meth : Method} {c : Code} {G : xG} {sz : Nat} {o : Int32 × Mm} (X : xC G false sz p s m args c cX11_keyedAtAp 3 wsX11_keyedAtAp RX11 meth (some .int)) (v1 : Int32) (v2 : Int32)  (k4 : Int32 → Int32 → Mm → Option (Int32 × Mm)) (hk4 : ∀ (v1 : Int32) (v2 : Int32) (S : Mm) (H : Heap) (locs : List Loc) (ls : Array Slot), k4 v1 v2 S = some o → xW G false sz s H locs S → lv_has ls 3 [(0, .ref (G.2.2 10 0)), (1, .int v1), (2, .int v2)] → wX p l e rmX11_keyedAtAp s m args below meth c H locs (xQi G false sz o) (XA G false sz) 4 ls []) {S : Mm} {H : Heap} {locs : List Loc} {ls : Array Slot} (hW : xW G false sz s H locs S) (hl : lv_has ls 3 [(0, .ref (G.2.2 10 0)), (1, .int v1), (2, .int v2)]) (h : L_X11_keyedAtAp_26 k4 v1 v2 S = some o) : wX p l e rmX11_keyedAtAp s m args below meth c H locs (xQi G false sz o) (XA G false sz) 26 ls [] := by
  unfold L_X11_keyedAtAp_26 at h
  refine lv_iinc (v := (v2 + 1)) (lv' := [(2, .int (v2 + 1)), (0, .ref (G.2.2 10 0)), (1, .int v1)]) X.1 X.2.1 dX11_keyedAtAp_26 hl (k := 2) rfl rfl (by decide) rfl (fun ls hl => ?_)
  refine lv_goto (tgt := 4) X.1 X.2.1 dX11_keyedAtAp_29 (by decide) ?_
  exact hk4 v1 (v2 + 1) S _ _ _ h hW  (lv_sub hl [1, 2, 0] rfl)
set_option maxRecDepth 100000 in
set_option maxHeartbeats 4000000 in
theorem w_X11_keyedAtAp_4 {p : Program} {l : Launch} {e : Env} {s : State} {m : MethodId} {args : Array Value} {below : List Frame} {meth : Method} {c : Code} {G : xG} {sz : Nat} {o : Int32 × Mm} (X : xC G false sz p s m args c cX11_keyedAtAp 3 wsX11_keyedAtAp RX11 meth (some .int))    : ∀ (n : Nat) (v1 : Int32) (v2 : Int32) (S : Mm) (H : Heap) (locs : List Loc) (ls : Array Slot), L_X11_keyedAtAp_4  n v1 v2 S = some o → xW G false sz s H locs S → lv_has ls 3 [(0, .ref (G.2.2 10 0)), (1, .int v1), (2, .int v2)] → wX p l e rmX11_keyedAtAp s m args below meth c H locs (xQi G false sz o) (XA G false sz) 4 ls [] := by
  intro n
  induction n with
  | zero =>
    intro v1 v2 S H locs ls h
    cases h
  | succ n ih =>
    intro v1 v2 S H locs ls h hW  hl
    rw [L_X11_keyedAtAp_4] at h
    refine lv_iload_n X.1 X.2.1 dX11_keyedAtAp_4 rfl (lv_at hl 2 rfl) ?_
    refine lv_bipush (v := 9) X.1 X.2.1 dX11_keyedAtAp_5 rfl ?_
    refine x_icmp_ge X (tgt := 32) dX11_keyedAtAp_7 (by decide) h (fun h => ?_) (fun h => ?_)
    · refine lv_iload_n X.1 X.2.1 dX11_keyedAtAp_32 rfl (lv_at hl 1 rfl) ?_
      exact x_iret X hW h dX11_keyedAtAp_33
    · refine lv_aload_n X.1 X.2.1 dX11_keyedAtAp_10 rfl (lv_at hl 0 rfl) ?_
      refine x_getR X hW fd_Cell_byAp (fun w h => List.mem_cons_of_mem _ (gin_X11 w h)) (List.mem_cons_of_mem _ gw17) z_1 dX11_keyedAtAp_11 ?_
      refine lv_iload_n X.1 X.2.1 dX11_keyedAtAp_14 rfl (lv_at hl 2 rfl) ?_
      refine x_aald X hW ar_54 (ct := 3) rfl (at_54 G) rfl dX11_keyedAtAp_15 h (fun i1 qi1 h => ?_)
      refine x_getI X hW fd_Link_state (fun w h => List.mem_cons_of_mem _ (gin_X4 w h)) (List.mem_cons_of_mem _ gw571) qi1 dX11_keyedAtAp_16 h (fun x2 h => ?_)
      refine lv_iconst (v := 4) X.1 X.2.1 dX11_keyedAtAp_19 rfl ?_
      refine x_icmp_ne X (tgt := 26) dX11_keyedAtAp_20 (by decide) h (fun h => ?_) (fun h => ?_)
      · exact w_X11_keyedAtAp_26 X v1 v2  (L_X11_keyedAtAp_4  n) ih hW (lv_sub hl [0, 1, 2] rfl) h
      · refine lv_iinc (v := (v1 + 1)) (lv' := [(1, .int (v1 + 1)), (0, .ref (G.2.2 10 0)), (2, .int v2)]) X.1 X.2.1 dX11_keyedAtAp_23 hl (k := 1) rfl rfl (by decide) rfl (fun ls hl => ?_)
        exact w_X11_keyedAtAp_26 X (v1 + 1) v2  (L_X11_keyedAtAp_4  n) ih hW (lv_sub hl [1, 0, 2] rfl) h
set_option maxRecDepth 100000 in
set_option maxHeartbeats 4000000 in
theorem w_X11_keyedAtAp_0 {p : Program} {l : Launch} {e : Env} {s : State} {m : MethodId} {args : Array Value} {below : List Frame} {meth : Method} {c : Code} {G : xG} {sz : Nat} {o : Int32 × Mm} (X : xC G false sz p s m args c cX11_keyedAtAp 3 wsX11_keyedAtAp RX11 meth (some .int))  {S : Mm} {H : Heap} {locs : List Loc} {ls : Array Slot} (hW : xW G false sz s H locs S) (hl : lv_has ls 3 [(0, .ref (G.2.2 10 0))]) (h : F_X11_keyedAtAp  S = some o) : wX p l e rmX11_keyedAtAp s m args below meth c H locs (xQi G false sz o) (XA G false sz) 0 ls [] := by
  unfold F_X11_keyedAtAp at h
  refine lv_iconst (v := 0) X.1 X.2.1 dX11_keyedAtAp_0 rfl ?_
  refine lv_istore_n (lv' := [(1, .int 0), (0, .ref (G.2.2 10 0))]) X.1 X.2.1 dX11_keyedAtAp_1 rfl hl (by decide) rfl (fun ls hl => ?_)
  refine lv_iconst (v := 1) X.1 X.2.1 dX11_keyedAtAp_2 rfl ?_
  refine lv_istore_n (lv' := [(2, .int 1), (1, .int 0), (0, .ref (G.2.2 10 0))]) X.1 X.2.1 dX11_keyedAtAp_3 rfl hl (by decide) rfl (fun ls hl => ?_)
  exact w_X11_keyedAtAp_4 X    fu 0 1 S _ _ _ h hW  (lv_sub hl [2, 1, 0] rfl)
theorem c_X11_keyedAtAp (l : Launch) (G : xG) (hD : xD G false) (sz : Nat) (S : Mm)  (o : Int32 × Mm) (h : F_X11_keyedAtAp  S = some o) : Met l yX11_keyedAtAp wsX11_keyedAtAp rmX11_keyedAtAp (xPre G false S sz [.ref (G.2.2 10 0)]) (xQi G false sz o) 0 0 (XA G false sz) :=
  x_start hD (by decide) rfl (Nat.le_of_ble_eq_true rfl) (fun p e s m below meth c X hW ls hl => w_X11_keyedAtAp_0 X  hW hl h)
