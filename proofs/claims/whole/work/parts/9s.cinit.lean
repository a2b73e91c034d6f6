/-! the plain constructors -/
theorem cf_X0 {w0 : Cond} : yF RX0 TX0 5 0 tyX0 (w0 :: GW) := ⟨fun w h => List.mem_cons_of_mem _ (gin_X0 w h), tyX0_ok, nmX0, rfl⟩
def df_X0 : List Value := [.null, .null, .null, .null, .null]
theorem df_X0_ok (B : Nat) : ∀ j, j < 5 → defaultValue (tyX0 j) = vp_V (df_X0.map (shV B)) j := by
  intro j hj
  rcases (show j = 0 ∨ j = 1 ∨ j = 2 ∨ j = 3 ∨ j = 4 by omega) with rfl | rfl | rfl | rfl | rfl <;> rfl
def fin_X0 (n : Nat) : List Value := [.ref (n + 0), .ref (n + 1), .ref (n + 2), .ref (n + 3), .ref (n + 4)]
def new_X0 (n : Nat) : List pE := ((((([] ++ [pA 1 300]) ++ [pA 1 16]) ++ [pA 1 16]) ++ [pA 1 16]) ++ [pA 1 176])
theorem new_X0_len (n : Nat) : (new_X0 n).length = 5 := by unfold new_X0; simp [pM_len]
def rmX0_init : Room := { frames := 1, cells := 5, slots := 524, locals := 12 }
set_option maxRecDepth 100000 in
set_option maxHeartbeats 4000000 in
theorem c_X0_init (l : Launch) (G : xG) (B : Nat) : yM l G B yX0_init wsX0_init rmX0_init 0 df_X0 fin_X0 new_X0 [] 5 524 := by
  intro V t ht
  refine y_start (cc := cX0_init) (maxL := 1) (by decide) rfl rfl (Nat.le_of_ble_eq_true rfl) (fun p e s m below meth c X hW ls hl => ?_)
  have h0 : ls[0]? = some (.val (.ref (B + t))) := lv_at hl 0 rfl
  have hW : yW G B s s.heap [] (zl V t 0 df_X0 []) := by unfold zl; rw [List.append_nil]; exact hW
  have hfl : df_X0.length = 5 := rfl
  have hNl : ([] : List pE).length = 0 := rfl
  refine z_obj X (List.mem_cons_of_mem _ gw87) (List.mem_cons_of_mem _ gw11) (List.mem_cons_of_mem _ gw12) hl h0 ⟨Nat.le_of_ble_eq_true rfl, Nat.le_of_ble_eq_true rfl⟩ dX0_init_0 dX0_init_1 ?_
  refine z_na (pc2 := 8) X cf_X0 ht hfl hNl hW h0 dX0_init_4 (fun _ h => lv_sipush (v := 300) X.1 X.2.1 dX0_init_5 rfl h) (List.mem_cons_of_mem _ gw38) rfl (Or.inl ⟨rfl, rfl⟩) (a := 1) (N' := 300) (by decide) (by decide) (by decide) (cells' := 1) (slots' := 300) rfl rfl (Nat.le_of_ble_eq_true rfl) (Nat.le_of_ble_eq_true rfl) dX0_init_8 0 (by decide) (by decide) (List.mem_cons_of_mem _ gw88) rfl (fun _ => rfl) (fun _ => rfl) dX0_init_10 (fun H locs hfl hNl hW => ?_)
  refine z_na (pc2 := 16) X cf_X0 ht hfl hNl hW h0 dX0_init_13 (fun _ h => lv_bipush (v := 16) X.1 X.2.1 dX0_init_14 rfl h) (List.mem_cons_of_mem _ gw38) rfl (Or.inl ⟨rfl, rfl⟩) (a := 1) (N' := 16) (by decide) (by decide) (by decide) (cells' := 2) (slots' := 316) rfl rfl (Nat.le_of_ble_eq_true rfl) (Nat.le_of_ble_eq_true rfl) dX0_init_16 1 (by decide) (by decide) (List.mem_cons_of_mem _ gw89) rfl (fun _ => rfl) (fun _ => rfl) dX0_init_18 (fun H locs hfl hNl hW => ?_)
  refine z_na (pc2 := 24) X cf_X0 ht hfl hNl hW h0 dX0_init_21 (fun _ h => lv_bipush (v := 16) X.1 X.2.1 dX0_init_22 rfl h) (List.mem_cons_of_mem _ gw38) rfl (Or.inl ⟨rfl, rfl⟩) (a := 1) (N' := 16) (by decide) (by decide) (by decide) (cells' := 3) (slots' := 332) rfl rfl (Nat.le_of_ble_eq_true rfl) (Nat.le_of_ble_eq_true rfl) dX0_init_24 2 (by decide) (by decide) (List.mem_cons_of_mem _ gw90) rfl (fun _ => rfl) (fun _ => rfl) dX0_init_26 (fun H locs hfl hNl hW => ?_)
  refine z_na (pc2 := 32) X cf_X0 ht hfl hNl hW h0 dX0_init_29 (fun _ h => lv_bipush (v := 16) X.1 X.2.1 dX0_init_30 rfl h) (List.mem_cons_of_mem _ gw38) rfl (Or.inl ⟨rfl, rfl⟩) (a := 1) (N' := 16) (by decide) (by decide) (by decide) (cells' := 4) (slots' := 348) rfl rfl (Nat.le_of_ble_eq_true rfl) (Nat.le_of_ble_eq_true rfl) dX0_init_32 3 (by decide) (by decide) (List.mem_cons_of_mem _ gw91) rfl (fun _ => rfl) (fun _ => rfl) dX0_init_34 (fun H locs hfl hNl hW => ?_)
  refine z_na (pc2 := 41) X cf_X0 ht hfl hNl hW h0 dX0_init_37 (fun _ h => lv_sipush (v := 176) X.1 X.2.1 dX0_init_38 rfl h) (List.mem_cons_of_mem _ gw38) rfl (Or.inl ⟨rfl, rfl⟩) (a := 1) (N' := 176) (by decide) (by decide) (by decide) (cells' := 5) (slots' := 524) rfl rfl (Nat.le_of_ble_eq_true rfl) (Nat.le_of_ble_eq_true rfl) dX0_init_41 4 (by decide) (by decide) (List.mem_cons_of_mem _ gw92) rfl (fun _ => rfl) (fun _ => rfl) dX0_init_43 (fun H locs hfl hNl hW => ?_)
  exact y_ret X hW dX0_init_46
theorem cf_X1 {w0 : Cond} : yF RX1 TX1 3 1 tyX1 (w0 :: GW) := ⟨fun w h => List.mem_cons_of_mem _ (gin_X1 w h), tyX1_ok, nmX1, rfl⟩
def df_X1 : List Value := [.null, .int 0, .int 0]
theorem df_X1_ok (B : Nat) : ∀ j, j < 3 → defaultValue (tyX1 j) = vp_V (df_X1.map (shV B)) j := by
  intro j hj
  rcases (show j = 0 ∨ j = 1 ∨ j = 2 by omega) with rfl | rfl | rfl <;> rfl
def fin_X1 (n : Nat) : List Value := [.ref (n + 0), .int 0, .int 0]
def new_X1 (n : Nat) : List pE := ([] ++ [pA 1 200])
theorem new_X1_len (n : Nat) : (new_X1 n).length = 1 := by unfold new_X1; simp [pM_len]
def rmX1_init : Room := { frames := 1, cells := 1, slots := 200, locals := 12 }
set_option maxRecDepth 100000 in
set_option maxHeartbeats 4000000 in
theorem c_X1_init (l : Launch) (G : xG) (B : Nat) : yM l G B yX1_init wsX1_init rmX1_init 1 df_X1 fin_X1 new_X1 [] 1 200 := by
  intro V t ht
  refine y_start (cc := cX1_init) (maxL := 1) (by decide) rfl rfl (Nat.le_of_ble_eq_true rfl) (fun p e s m below meth c X hW ls hl => ?_)
  have h0 : ls[0]? = some (.val (.ref (B + t))) := lv_at hl 0 rfl
  have hW : yW G B s s.heap [] (zl V t 1 df_X1 []) := by unfold zl; rw [List.append_nil]; exact hW
  have hfl : df_X1.length = 3 := rfl
  have hNl : ([] : List pE).length = 0 := rfl
  refine z_obj X (List.mem_cons_of_mem _ gw74) (List.mem_cons_of_mem _ gw11) (List.mem_cons_of_mem _ gw12) hl h0 ⟨Nat.le_of_ble_eq_true rfl, Nat.le_of_ble_eq_true rfl⟩ dX1_init_0 dX1_init_1 ?_
  refine z_na (pc2 := 8) X cf_X1 ht hfl hNl hW h0 dX1_init_4 (fun _ h => lv_sipush (v := 200) X.1 X.2.1 dX1_init_5 rfl h) (List.mem_cons_of_mem _ gw38) rfl (Or.inl ⟨rfl, rfl⟩) (a := 1) (N' := 200) (by decide) (by decide) (by decide) (cells' := 1) (slots' := 200) rfl rfl (Nat.le_of_ble_eq_true rfl) (Nat.le_of_ble_eq_true rfl) dX1_init_8 0 (by decide) (by decide) (List.mem_cons_of_mem _ gw75) rfl (fun _ => rfl) (fun _ => rfl) dX1_init_10 (fun H locs hfl hNl hW => ?_)
  exact y_ret X hW dX1_init_13
theorem cf_X4 {w0 : Cond} : yF RX4 TX4 14 3 tyX4 (w0 :: GW) := ⟨fun w h => List.mem_cons_of_mem _ (gin_X4 w h), tyX4_ok, nmX4, rfl⟩
def df_X4 : List Value := [.int 0, .int 0, .null, .int 0, .null, .null, .null, .long 0, .long 0, .int 0, .int 0, .int 0, .int 0, .null]
theorem df_X4_ok (B : Nat) : ∀ j, j < 14 → defaultValue (tyX4 j) = vp_V (df_X4.map (shV B)) j := by
  intro j hj
  rcases (show j = 0 ∨ j = 1 ∨ j = 2 ∨ j = 3 ∨ j = 4 ∨ j = 5 ∨ j = 6 ∨ j = 7 ∨ j = 8 ∨ j = 9 ∨ j = 10 ∨ j = 11 ∨ j = 12 ∨ j = 13 by omega) with rfl | rfl | rfl | rfl | rfl | rfl | rfl | rfl | rfl | rfl | rfl | rfl | rfl | rfl <;> rfl
def fin_X4 (n : Nat) : List Value := [.int 1, .int 0, .ref (n + 0), .int 0, .ref (n + 1), .ref (n + 2), .ref (n + 3), .long 0, .long 1, .int 0, .int 0, .int 0, .int 0, .ref (n + 4)]
def new_X4 (n : Nat) : List pE := ((((([] ++ [pA 1 32]) ++ [pA 1 48]) ++ [pA 1 32]) ++ [pA 1 16]) ++ [pA 1 208])
theorem new_X4_len (n : Nat) : (new_X4 n).length = 5 := by unfold new_X4; simp [pM_len]
def rmX4_init : Room := { frames := 1, cells := 5, slots := 336, locals := 12 }
set_option maxRecDepth 100000 in
set_option maxHeartbeats 4000000 in
theorem c_X4_init (l : Launch) (G : xG) (B : Nat) : yM l G B yX4_init wsX4_init rmX4_init 3 df_X4 fin_X4 new_X4 [] 5 336 := by
  intro V t ht
  refine y_start (cc := cX4_init) (maxL := 1) (by decide) rfl rfl (Nat.le_of_ble_eq_true rfl) (fun p e s m below meth c X hW ls hl => ?_)
  have h0 : ls[0]? = some (.val (.ref (B + t))) := lv_at hl 0 rfl
  have hW : yW G B s s.heap [] (zl V t 3 df_X4 []) := by unfold zl; rw [List.append_nil]; exact hW
  have hfl : df_X4.length = 14 := rfl
  have hNl : ([] : List pE).length = 0 := rfl
  refine z_obj X (List.mem_cons_of_mem _ gw139) (List.mem_cons_of_mem _ gw11) (List.mem_cons_of_mem _ gw12) hl h0 ⟨Nat.le_of_ble_eq_true rfl, Nat.le_of_ble_eq_true rfl⟩ dX4_init_0 dX4_init_1 ?_
  refine z_pv (pc2 := 6) (v := .int 1) X cf_X4 ht hfl hW h0 dX4_init_4 (fun _ h => lv_iconst (v := 1) X.1 X.2.1 dX4_init_5 rfl h) rfl 0 (by decide) (by decide) (List.mem_cons_of_mem _ gw140) rfl rfl rfl dX4_init_6 (fun H locs hfl hW => ?_)
  refine z_na (pc2 := 12) X cf_X4 ht hfl hNl hW h0 dX4_init_9 (fun _ h => lv_bipush (v := 32) X.1 X.2.1 dX4_init_10 rfl h) (List.mem_cons_of_mem _ gw38) rfl (Or.inl ⟨rfl, rfl⟩) (a := 1) (N' := 32) (by decide) (by decide) (by decide) (cells' := 1) (slots' := 32) rfl rfl (Nat.le_of_ble_eq_true rfl) (Nat.le_of_ble_eq_true rfl) dX4_init_12 2 (by decide) (by decide) (List.mem_cons_of_mem _ gw141) rfl (fun _ => rfl) (fun _ => rfl) dX4_init_14 (fun H locs hfl hNl hW => ?_)
  refine z_na (pc2 := 20) X cf_X4 ht hfl hNl hW h0 dX4_init_17 (fun _ h => lv_bipush (v := 48) X.1 X.2.1 dX4_init_18 rfl h) (List.mem_cons_of_mem _ gw38) rfl (Or.inl ⟨rfl, rfl⟩) (a := 1) (N' := 48) (by decide) (by decide) (by decide) (cells' := 2) (slots' := 80) rfl rfl (Nat.le_of_ble_eq_true rfl) (Nat.le_of_ble_eq_true rfl) dX4_init_20 4 (by decide) (by decide) (List.mem_cons_of_mem _ gw142) rfl (fun _ => rfl) (fun _ => rfl) dX4_init_22 (fun H locs hfl hNl hW => ?_)
  refine z_na (pc2 := 28) X cf_X4 ht hfl hNl hW h0 dX4_init_25 (fun _ h => lv_bipush (v := 32) X.1 X.2.1 dX4_init_26 rfl h) (List.mem_cons_of_mem _ gw38) rfl (Or.inl ⟨rfl, rfl⟩) (a := 1) (N' := 32) (by decide) (by decide) (by decide) (cells' := 3) (slots' := 112) rfl rfl (Nat.le_of_ble_eq_true rfl) (Nat.le_of_ble_eq_true rfl) dX4_init_28 5 (by decide) (by decide) (List.mem_cons_of_mem _ gw143) rfl (fun _ => rfl) (fun _ => rfl) dX4_init_30 (fun H locs hfl hNl hW => ?_)
  refine z_na (pc2 := 36) X cf_X4 ht hfl hNl hW h0 dX4_init_33 (fun _ h => lv_bipush (v := 16) X.1 X.2.1 dX4_init_34 rfl h) (List.mem_cons_of_mem _ gw38) rfl (Or.inl ⟨rfl, rfl⟩) (a := 1) (N' := 16) (by decide) (by decide) (by decide) (cells' := 4) (slots' := 128) rfl rfl (Nat.le_of_ble_eq_true rfl) (Nat.le_of_ble_eq_true rfl) dX4_init_36 6 (by decide) (by decide) (List.mem_cons_of_mem _ gw144) rfl (fun _ => rfl) (fun _ => rfl) dX4_init_38 (fun H locs hfl hNl hW => ?_)
  refine z_pv (pc2 := 43) (v := .long 1) X cf_X4 ht hfl hW h0 dX4_init_41 (fun _ h => lv_lconst (v := 1) X.1 X.2.1 dX4_init_42 rfl h) rfl 8 (by decide) (by decide) (List.mem_cons_of_mem _ gw145) rfl rfl rfl dX4_init_43 (fun H locs hfl hW => ?_)
  refine z_na (pc2 := 50) X cf_X4 ht hfl hNl hW h0 dX4_init_46 (fun _ h => lv_sipush (v := 208) X.1 X.2.1 dX4_init_47 rfl h) (List.mem_cons_of_mem _ gw38) rfl (Or.inl ⟨rfl, rfl⟩) (a := 1) (N' := 208) (by decide) (by decide) (by decide) (cells' := 5) (slots' := 336) rfl rfl (Nat.le_of_ble_eq_true rfl) (Nat.le_of_ble_eq_true rfl) dX4_init_50 13 (by decide) (by decide) (List.mem_cons_of_mem _ gw146) rfl (fun _ => rfl) (fun _ => rfl) dX4_init_52 (fun H locs hfl hNl hW => ?_)
  exact y_ret X hW dX4_init_55
theorem cf_X6 {w0 : Cond} : yF RX6 TX6 9 5 tyX6 (w0 :: GW) := ⟨fun w h => List.mem_cons_of_mem _ (gin_X6 w h), tyX6_ok, nmX6, rfl⟩
def df_X6 : List Value := [.null, .int 0, .int 0, .int 0, .int 0, .int 0, .int 0, .int 0, .int 0]
theorem df_X6_ok (B : Nat) : ∀ j, j < 9 → defaultValue (tyX6 j) = vp_V (df_X6.map (shV B)) j := by
  intro j hj
  rcases (show j = 0 ∨ j = 1 ∨ j = 2 ∨ j = 3 ∨ j = 4 ∨ j = 5 ∨ j = 6 ∨ j = 7 ∨ j = 8 by omega) with rfl | rfl | rfl | rfl | rfl | rfl | rfl | rfl | rfl <;> rfl
def fin_X6 (n : Nat) : List Value := [.ref (n + 0), .int 0, .int 0, .int 0, .int 0, .int 0, .int 0, .int 0, .int 0]
def new_X6 (n : Nat) : List pE := ([] ++ [pA 1 208])
theorem new_X6_len (n : Nat) : (new_X6 n).length = 1 := by unfold new_X6; simp [pM_len]
def rmX6_init : Room := { frames := 1, cells := 1, slots := 208, locals := 12 }
set_option maxRecDepth 100000 in
set_option maxHeartbeats 4000000 in
theorem c_X6_init (l : Launch) (G : xG) (B : Nat) : yM l G B yX6_init wsX6_init rmX6_init 5 df_X6 fin_X6 new_X6 [] 1 208 := by
  intro V t ht
  refine y_start (cc := cX6_init) (maxL := 1) (by decide) rfl rfl (Nat.le_of_ble_eq_true rfl) (fun p e s m below meth c X hW ls hl => ?_)
  have h0 : ls[0]? = some (.val (.ref (B + t))) := lv_at hl 0 rfl
  have hW : yW G B s s.heap [] (zl V t 5 df_X6 []) := by unfold zl; rw [List.append_nil]; exact hW
  have hfl : df_X6.length = 9 := rfl
  have hNl : ([] : List pE).length = 0 := rfl
  refine z_obj X (List.mem_cons_of_mem _ gw124) (List.mem_cons_of_mem _ gw11) (List.mem_cons_of_mem _ gw12) hl h0 ⟨Nat.le_of_ble_eq_true rfl, Nat.le_of_ble_eq_true rfl⟩ dX6_init_0 dX6_init_1 ?_
  refine z_na (pc2 := 8) X cf_X6 ht hfl hNl hW h0 dX6_init_4 (fun _ h => lv_sipush (v := 208) X.1 X.2.1 dX6_init_5 rfl h) (List.mem_cons_of_mem _ gw38) rfl (Or.inl ⟨rfl, rfl⟩) (a := 1) (N' := 208) (by decide) (by decide) (by decide) (cells' := 1) (slots' := 208) rfl rfl (Nat.le_of_ble_eq_true rfl) (Nat.le_of_ble_eq_true rfl) dX6_init_8 0 (by decide) (by decide) (List.mem_cons_of_mem _ gw125) rfl (fun _ => rfl) (fun _ => rfl) dX6_init_10 (fun H locs hfl hNl hW => ?_)
  exact y_ret X hW dX6_init_13
theorem cf_X10 {w0 : Cond} : yF RX10 TX10 6 9 tyX10 (w0 :: GW) := ⟨fun w h => List.mem_cons_of_mem _ (gin_X10 w h), tyX10_ok, nmX10, rfl⟩
def df_X10 : List Value := [.null, .null, .null, .null, .null, .null]
theorem df_X10_ok (B : Nat) : ∀ j, j < 6 → defaultValue (tyX10 j) = vp_V (df_X10.map (shV B)) j := by
  intro j hj
  rcases (show j = 0 ∨ j = 1 ∨ j = 2 ∨ j = 3 ∨ j = 4 ∨ j = 5 by omega) with rfl | rfl | rfl | rfl | rfl | rfl <;> rfl
def fin_X10 (n : Nat) : List Value := [.ref (n + 0), .ref (n + 1), .ref (n + 2), .ref (n + 3), .ref (n + 4), .ref (n + 5)]
def new_X10 (n : Nat) : List pE := (((((([] ++ [pA 1 20]) ++ [pA 1 60]) ++ [pA 1 100]) ++ [pA 1 256]) ++ [pA 1 80]) ++ [pA 1 5])
theorem new_X10_len (n : Nat) : (new_X10 n).length = 6 := by unfold new_X10; simp [pM_len]
def rmX10_init : Room := { frames := 1, cells := 6, slots := 521, locals := 12 }
set_option maxRecDepth 100000 in
set_option maxHeartbeats 4000000 in
theorem c_X10_init (l : Launch) (G : xG) (B : Nat) : yM l G B yX10_init wsX10_init rmX10_init 9 df_X10 fin_X10 new_X10 [] 6 521 := by
  intro V t ht
  refine y_start (cc := cX10_init) (maxL := 1) (by decide) rfl rfl (Nat.le_of_ble_eq_true rfl) (fun p e s m below meth c X hW ls hl => ?_)
  have h0 : ls[0]? = some (.val (.ref (B + t))) := lv_at hl 0 rfl
  have hW : yW G B s s.heap [] (zl V t 9 df_X10 []) := by unfold zl; rw [List.append_nil]; exact hW
  have hfl : df_X10.length = 6 := rfl
  have hNl : ([] : List pE).length = 0 := rfl
  refine z_obj X (List.mem_cons_of_mem _ gw78) (List.mem_cons_of_mem _ gw11) (List.mem_cons_of_mem _ gw12) hl h0 ⟨Nat.le_of_ble_eq_true rfl, Nat.le_of_ble_eq_true rfl⟩ dX10_init_0 dX10_init_1 ?_
  refine z_na (pc2 := 7) X cf_X10 ht hfl hNl hW h0 dX10_init_4 (fun _ h => lv_bipush (v := 20) X.1 X.2.1 dX10_init_5 rfl h) (List.mem_cons_of_mem _ gw38) rfl (Or.inl ⟨rfl, rfl⟩) (a := 1) (N' := 20) (by decide) (by decide) (by decide) (cells' := 1) (slots' := 20) rfl rfl (Nat.le_of_ble_eq_true rfl) (Nat.le_of_ble_eq_true rfl) dX10_init_7 0 (by decide) (by decide) (List.mem_cons_of_mem _ gw79) rfl (fun _ => rfl) (fun _ => rfl) dX10_init_9 (fun H locs hfl hNl hW => ?_)
  refine z_na (pc2 := 15) X cf_X10 ht hfl hNl hW h0 dX10_init_12 (fun _ h => lv_bipush (v := 60) X.1 X.2.1 dX10_init_13 rfl h) (List.mem_cons_of_mem _ gw38) rfl (Or.inl ⟨rfl, rfl⟩) (a := 1) (N' := 60) (by decide) (by decide) (by decide) (cells' := 2) (slots' := 80) rfl rfl (Nat.le_of_ble_eq_true rfl) (Nat.le_of_ble_eq_true rfl) dX10_init_15 1 (by decide) (by decide) (List.mem_cons_of_mem _ gw80) rfl (fun _ => rfl) (fun _ => rfl) dX10_init_17 (fun H locs hfl hNl hW => ?_)
  refine z_na (pc2 := 23) X cf_X10 ht hfl hNl hW h0 dX10_init_20 (fun _ h => lv_bipush (v := 100) X.1 X.2.1 dX10_init_21 rfl h) (List.mem_cons_of_mem _ gw38) rfl (Or.inl ⟨rfl, rfl⟩) (a := 1) (N' := 100) (by decide) (by decide) (by decide) (cells' := 3) (slots' := 180) rfl rfl (Nat.le_of_ble_eq_true rfl) (Nat.le_of_ble_eq_true rfl) dX10_init_23 2 (by decide) (by decide) (List.mem_cons_of_mem _ gw81) rfl (fun _ => rfl) (fun _ => rfl) dX10_init_25 (fun H locs hfl hNl hW => ?_)
  refine z_na (pc2 := 32) X cf_X10 ht hfl hNl hW h0 dX10_init_28 (fun _ h => lv_sipush (v := 256) X.1 X.2.1 dX10_init_29 rfl h) (List.mem_cons_of_mem _ gw38) rfl (Or.inl ⟨rfl, rfl⟩) (a := 1) (N' := 256) (by decide) (by decide) (by decide) (cells' := 4) (slots' := 436) rfl rfl (Nat.le_of_ble_eq_true rfl) (Nat.le_of_ble_eq_true rfl) dX10_init_32 3 (by decide) (by decide) (List.mem_cons_of_mem _ gw82) rfl (fun _ => rfl) (fun _ => rfl) dX10_init_34 (fun H locs hfl hNl hW => ?_)
  refine z_na (pc2 := 40) X cf_X10 ht hfl hNl hW h0 dX10_init_37 (fun _ h => lv_bipush (v := 80) X.1 X.2.1 dX10_init_38 rfl h) (List.mem_cons_of_mem _ gw38) rfl (Or.inl ⟨rfl, rfl⟩) (a := 1) (N' := 80) (by decide) (by decide) (by decide) (cells' := 5) (slots' := 516) rfl rfl (Nat.le_of_ble_eq_true rfl) (Nat.le_of_ble_eq_true rfl) dX10_init_40 4 (by decide) (by decide) (List.mem_cons_of_mem _ gw83) rfl (fun _ => rfl) (fun _ => rfl) dX10_init_42 (fun H locs hfl hNl hW => ?_)
  refine z_na (pc2 := 47) X cf_X10 ht hfl hNl hW h0 dX10_init_45 (fun _ h => lv_iconst (v := 5) X.1 X.2.1 dX10_init_46 rfl h) (List.mem_cons_of_mem _ gw38) rfl (Or.inl ⟨rfl, rfl⟩) (a := 1) (N' := 5) (by decide) (by decide) (by decide) (cells' := 6) (slots' := 521) rfl rfl (Nat.le_of_ble_eq_true rfl) (Nat.le_of_ble_eq_true rfl) dX10_init_47 5 (by decide) (by decide) (List.mem_cons_of_mem _ gw84) rfl (fun _ => rfl) (fun _ => rfl) dX10_init_49 (fun H locs hfl hNl hW => ?_)
  exact y_ret X hW dX10_init_52
theorem cf_X3 {w0 : Cond} : yF RX3 TX3 4 2 tyX3 (w0 :: GW) := ⟨fun w h => List.mem_cons_of_mem _ (gin_X3 w h), tyX3_ok, nmX3, rfl⟩
def df_X3 : List Value := [.null, .null, .null, .int 0]
theorem df_X3_ok (B : Nat) : ∀ j, j < 4 → defaultValue (tyX3 j) = vp_V (df_X3.map (shV B)) j := by
  intro j hj
  rcases (show j = 0 ∨ j = 1 ∨ j = 2 ∨ j = 3 by omega) with rfl | rfl | rfl | rfl <;> rfl
def fin_X3 (n : Nat) : List Value := [.ref (n + 0), .ref (n + 13), .ref (n + 14), .int 0]
def new_X3 (n : Nat) : List pE := ((([] ++ pM (n + 0) 12 200) ++ [pA 1 12]) ++ [pA 1 12])
theorem new_X3_len (n : Nat) : (new_X3 n).length = 15 := by unfold new_X3; simp [pM_len]
def rmX3_init : Room := { frames := 1, cells := 15, slots := 2436, locals := 12 }
set_option maxRecDepth 100000 in
set_option maxHeartbeats 4000000 in
theorem c_X3_init (l : Launch) (G : xG) (B : Nat) : yM l G B yX3_init wsX3_init rmX3_init 2 df_X3 fin_X3 new_X3 [] 15 2436 := by
  intro V t ht
  refine y_start (cc := cX3_init) (maxL := 1) (by decide) rfl rfl (Nat.le_of_ble_eq_true rfl) (fun p e s m below meth c X hW ls hl => ?_)
  have h0 : ls[0]? = some (.val (.ref (B + t))) := lv_at hl 0 rfl
  have hW : yW G B s s.heap [] (zl V t 2 df_X3 []) := by unfold zl; rw [List.append_nil]; exact hW
  have hfl : df_X3.length = 4 := rfl
  have hNl : ([] : List pE).length = 0 := rfl
  refine z_obj X (List.mem_cons_of_mem _ gw128) (List.mem_cons_of_mem _ gw11) (List.mem_cons_of_mem _ gw12) hl h0 ⟨Nat.le_of_ble_eq_true rfl, Nat.le_of_ble_eq_true rfl⟩ dX3_init_0 dX3_init_1 ?_
  refine z_mna (pc2 := 10) X cf_X3 ht hfl hNl hW h0 dX3_init_4 (fun _ h => lv_bipush (v := 12) X.1 X.2.1 dX3_init_5 rfl (lv_sipush (v := 200) X.1 X.2.1 dX3_init_7 rfl h)) (List.mem_cons_of_mem _ gw129) (List.mem_cons_of_mem _ gw38) (N' := 12) (K' := 200) (by decide) (by decide) (by decide) (by decide) (by decide) (by decide) (cells' := 13) (slots' := 2412) rfl rfl (Nat.le_of_ble_eq_true rfl) (Nat.le_of_ble_eq_true rfl) dX3_init_10 0 (by decide) (by decide) (List.mem_cons_of_mem _ gw130) rfl (fun _ => rfl) (fun _ => rfl) dX3_init_14 (fun H locs hfl hNl hW => ?_)
  refine z_na (pc2 := 20) X cf_X3 ht hfl hNl hW h0 dX3_init_17 (fun _ h => lv_bipush (v := 12) X.1 X.2.1 dX3_init_18 rfl h) (List.mem_cons_of_mem _ gw38) rfl (Or.inl ⟨rfl, rfl⟩) (a := 1) (N' := 12) (by decide) (by decide) (by decide) (cells' := 14) (slots' := 2424) rfl rfl (Nat.le_of_ble_eq_true rfl) (Nat.le_of_ble_eq_true rfl) dX3_init_20 1 (by decide) (by decide) (List.mem_cons_of_mem _ gw131) rfl (fun _ => rfl) (fun _ => rfl) dX3_init_22 (fun H locs hfl hNl hW => ?_)
  refine z_na (pc2 := 28) X cf_X3 ht hfl hNl hW h0 dX3_init_25 (fun _ h => lv_bipush (v := 12) X.1 X.2.1 dX3_init_26 rfl h) (List.mem_cons_of_mem _ gw38) rfl (Or.inl ⟨rfl, rfl⟩) (a := 1) (N' := 12) (by decide) (by decide) (by decide) (cells' := 15) (slots' := 2436) rfl rfl (Nat.le_of_ble_eq_true rfl) (Nat.le_of_ble_eq_true rfl) dX3_init_28 2 (by decide) (by decide) (List.mem_cons_of_mem _ gw132) rfl (fun _ => rfl) (fun _ => rfl) dX3_init_30 (fun H locs hfl hNl hW => ?_)
  exact y_ret X hW dX3_init_33
theorem cf_X5 {w0 : Cond} : yF RX5 TX5 18 4 tyX5 (w0 :: GW) := ⟨fun w h => List.mem_cons_of_mem _ (gin_X5 w h), tyX5_ok, nmX5, rfl⟩
def df_X5 : List Value := [.null, .null, .null, .null, .null, .null, .int 0, .int 0, .int 0, .null, .int 0, .int 0, .int 0, .int 0, .int 0, .null, .null, .int 0]
theorem df_X5_ok (B : Nat) : ∀ j, j < 18 → defaultValue (tyX5 j) = vp_V (df_X5.map (shV B)) j := by
  intro j hj
  rcases (show j = 0 ∨ j = 1 ∨ j = 2 ∨ j = 3 ∨ j = 4 ∨ j = 5 ∨ j = 6 ∨ j = 7 ∨ j = 8 ∨ j = 9 ∨ j = 10 ∨ j = 11 ∨ j = 12 ∨ j = 13 ∨ j = 14 ∨ j = 15 ∨ j = 16 ∨ j = 17 by omega) with rfl | rfl | rfl | rfl | rfl | rfl | rfl | rfl | rfl | rfl | rfl | rfl | rfl | rfl | rfl | rfl | rfl | rfl <;> rfl
def fin_X5 (n : Nat) : List Value := [.ref (n + 0), .ref (n + 41), .ref (n + 42), .ref (n + 43), .ref (n + 44), .ref (n + 45), .int 39, .int 0, .int 0, .ref (n + 46), .int 0, .int 0, .int 0, .int 0, .int (-4), .ref (n + 47), .ref (n + 48), .int 0]
def new_X5 (n : Nat) : List pE := ((((((((([] ++ pM (n + 0) 40 300) ++ [pA 1 40]) ++ [pA 1 40]) ++ [pA 1 40]) ++ [pA 1 40]) ++ [pA 2 40]) ++ [pA 1 16]) ++ [pA 1 30]) ++ [pA 1 30])
theorem new_X5_len (n : Nat) : (new_X5 n).length = 49 := by unfold new_X5; simp [pM_len]
def rmX5_init : Room := { frames := 1, cells := 49, slots := 12316, locals := 12 }
set_option maxRecDepth 100000 in
set_option maxHeartbeats 4000000 in
theorem c_X5_init (l : Launch) (G : xG) (B : Nat) : yM l G B yX5_init wsX5_init rmX5_init 4 df_X5 fin_X5 new_X5 [] 49 12316 := by
  intro V t ht
  refine y_start (cc := cX5_init) (maxL := 1) (by decide) rfl rfl (Nat.le_of_ble_eq_true rfl) (fun p e s m below meth c X hW ls hl => ?_)
  have h0 : ls[0]? = some (.val (.ref (B + t))) := lv_at hl 0 rfl
  have hW : yW G B s s.heap [] (zl V t 4 df_X5 []) := by unfold zl; rw [List.append_nil]; exact hW
  have hfl : df_X5.length = 18 := rfl
  have hNl : ([] : List pE).length = 0 := rfl
  refine z_obj X (List.mem_cons_of_mem _ gw51) (List.mem_cons_of_mem _ gw11) (List.mem_cons_of_mem _ gw12) hl h0 ⟨Nat.le_of_ble_eq_true rfl, Nat.le_of_ble_eq_true rfl⟩ dX5_init_0 dX5_init_1 ?_
  refine z_mna (pc2 := 10) X cf_X5 ht hfl hNl hW h0 dX5_init_4 (fun _ h => lv_bipush (v := 40) X.1 X.2.1 dX5_init_5 rfl (lv_sipush (v := 300) X.1 X.2.1 dX5_init_7 rfl h)) (List.mem_cons_of_mem _ gw52) (List.mem_cons_of_mem _ gw38) (N' := 40) (K' := 300) (by decide) (by decide) (by decide) (by decide) (by decide) (by decide) (cells' := 41) (slots' := 12040) rfl rfl (Nat.le_of_ble_eq_true rfl) (Nat.le_of_ble_eq_true rfl) dX5_init_10 0 (by decide) (by decide) (List.mem_cons_of_mem _ gw53) rfl (fun _ => rfl) (fun _ => rfl) dX5_init_14 (fun H locs hfl hNl hW => ?_)
  refine z_na (pc2 := 20) X cf_X5 ht hfl hNl hW h0 dX5_init_17 (fun _ h => lv_bipush (v := 40) X.1 X.2.1 dX5_init_18 rfl h) (List.mem_cons_of_mem _ gw38) rfl (Or.inl ⟨rfl, rfl⟩) (a := 1) (N' := 40) (by decide) (by decide) (by decide) (cells' := 42) (slots' := 12080) rfl rfl (Nat.le_of_ble_eq_true rfl) (Nat.le_of_ble_eq_true rfl) dX5_init_20 1 (by decide) (by decide) (List.mem_cons_of_mem _ gw54) rfl (fun _ => rfl) (fun _ => rfl) dX5_init_22 (fun H locs hfl hNl hW => ?_)
  refine z_na (pc2 := 28) X cf_X5 ht hfl hNl hW h0 dX5_init_25 (fun _ h => lv_bipush (v := 40) X.1 X.2.1 dX5_init_26 rfl h) (List.mem_cons_of_mem _ gw38) rfl (Or.inl ⟨rfl, rfl⟩) (a := 1) (N' := 40) (by decide) (by decide) (by decide) (cells' := 43) (slots' := 12120) rfl rfl (Nat.le_of_ble_eq_true rfl) (Nat.le_of_ble_eq_true rfl) dX5_init_28 2 (by decide) (by decide) (List.mem_cons_of_mem _ gw55) rfl (fun _ => rfl) (fun _ => rfl) dX5_init_30 (fun H locs hfl hNl hW => ?_)
  refine z_na (pc2 := 36) X cf_X5 ht hfl hNl hW h0 dX5_init_33 (fun _ h => lv_bipush (v := 40) X.1 X.2.1 dX5_init_34 rfl h) (List.mem_cons_of_mem _ gw38) rfl (Or.inl ⟨rfl, rfl⟩) (a := 1) (N' := 40) (by decide) (by decide) (by decide) (cells' := 44) (slots' := 12160) rfl rfl (Nat.le_of_ble_eq_true rfl) (Nat.le_of_ble_eq_true rfl) dX5_init_36 3 (by decide) (by decide) (List.mem_cons_of_mem _ gw56) rfl (fun _ => rfl) (fun _ => rfl) dX5_init_38 (fun H locs hfl hNl hW => ?_)
  refine z_na (pc2 := 44) X cf_X5 ht hfl hNl hW h0 dX5_init_41 (fun _ h => lv_bipush (v := 40) X.1 X.2.1 dX5_init_42 rfl h) (List.mem_cons_of_mem _ gw38) rfl (Or.inl ⟨rfl, rfl⟩) (a := 1) (N' := 40) (by decide) (by decide) (by decide) (cells' := 45) (slots' := 12200) rfl rfl (Nat.le_of_ble_eq_true rfl) (Nat.le_of_ble_eq_true rfl) dX5_init_44 4 (by decide) (by decide) (List.mem_cons_of_mem _ gw57) rfl (fun _ => rfl) (fun _ => rfl) dX5_init_46 (fun H locs hfl hNl hW => ?_)
  refine z_na (pc2 := 52) X cf_X5 ht hfl hNl hW h0 dX5_init_49 (fun _ h => lv_bipush (v := 40) X.1 X.2.1 dX5_init_50 rfl h) (List.mem_cons_of_mem _ gw58) rfl (Or.inr (Or.inl ⟨rfl, rfl⟩)) (a := 2) (N' := 40) (by decide) (by decide) (by decide) (cells' := 46) (slots' := 12240) rfl rfl (Nat.le_of_ble_eq_true rfl) (Nat.le_of_ble_eq_true rfl) dX5_init_52 5 (by decide) (by decide) (List.mem_cons_of_mem _ gw59) rfl (fun _ => rfl) (fun _ => rfl) dX5_init_54 (fun H locs hfl hNl hW => ?_)
  refine z_pv (pc2 := 60) (v := .int 39) X cf_X5 ht hfl hW h0 dX5_init_57 (fun _ h => lv_bipush (v := 39) X.1 X.2.1 dX5_init_58 rfl h) rfl 6 (by decide) (by decide) (List.mem_cons_of_mem _ gw60) rfl rfl rfl dX5_init_60 (fun H locs hfl hW => ?_)
  refine z_na (pc2 := 66) X cf_X5 ht hfl hNl hW h0 dX5_init_63 (fun _ h => lv_bipush (v := 16) X.1 X.2.1 dX5_init_64 rfl h) (List.mem_cons_of_mem _ gw38) rfl (Or.inl ⟨rfl, rfl⟩) (a := 1) (N' := 16) (by decide) (by decide) (by decide) (cells' := 47) (slots' := 12256) rfl rfl (Nat.le_of_ble_eq_true rfl) (Nat.le_of_ble_eq_true rfl) dX5_init_66 9 (by decide) (by decide) (List.mem_cons_of_mem _ gw61) rfl (fun _ => rfl) (fun _ => rfl) dX5_init_68 (fun H locs hfl hNl hW => ?_)
  refine z_pv (pc2 := 74) (v := .int (-4)) X cf_X5 ht hfl hW h0 dX5_init_71 (fun _ h => lv_bipush (v := (-4)) X.1 X.2.1 dX5_init_72 rfl h) rfl 14 (by decide) (by decide) (List.mem_cons_of_mem _ gw62) rfl rfl rfl dX5_init_74 (fun H locs hfl hW => ?_)
  refine z_na (pc2 := 80) X cf_X5 ht hfl hNl hW h0 dX5_init_77 (fun _ h => lv_bipush (v := 30) X.1 X.2.1 dX5_init_78 rfl h) (List.mem_cons_of_mem _ gw38) rfl (Or.inl ⟨rfl, rfl⟩) (a := 1) (N' := 30) (by decide) (by decide) (by decide) (cells' := 48) (slots' := 12286) rfl rfl (Nat.le_of_ble_eq_true rfl) (Nat.le_of_ble_eq_true rfl) dX5_init_80 15 (by decide) (by decide) (List.mem_cons_of_mem _ gw63) rfl (fun _ => rfl) (fun _ => rfl) dX5_init_82 (fun H locs hfl hNl hW => ?_)
  refine z_na (pc2 := 88) X cf_X5 ht hfl hNl hW h0 dX5_init_85 (fun _ h => lv_bipush (v := 30) X.1 X.2.1 dX5_init_86 rfl h) (List.mem_cons_of_mem _ gw38) rfl (Or.inl ⟨rfl, rfl⟩) (a := 1) (N' := 30) (by decide) (by decide) (by decide) (cells' := 49) (slots' := 12316) rfl rfl (Nat.le_of_ble_eq_true rfl) (Nat.le_of_ble_eq_true rfl) dX5_init_88 16 (by decide) (by decide) (List.mem_cons_of_mem _ gw64) rfl (fun _ => rfl) (fun _ => rfl) dX5_init_90 (fun H locs hfl hNl hW => ?_)
  exact y_ret X hW dX5_init_93
theorem cf_X8 {w0 : Cond} : yF RX8 TX8 4 7 tyX8 (w0 :: GW) := ⟨fun w h => List.mem_cons_of_mem _ (gin_X8 w h), tyX8_ok, nmX8, rfl⟩
def df_X8 : List Value := [.null, .null, .null, .int 0]
theorem df_X8_ok (B : Nat) : ∀ j, j < 4 → defaultValue (tyX8 j) = vp_V (df_X8.map (shV B)) j := by
  intro j hj
  rcases (show j = 0 ∨ j = 1 ∨ j = 2 ∨ j = 3 by omega) with rfl | rfl | rfl | rfl <;> rfl
def fin_X8 (n : Nat) : List Value := [.ref (n + 0), .ref (n + 21), .ref (n + 22), .int 0]
def new_X8 (n : Nat) : List pE := ((([] ++ pM (n + 0) 20 300) ++ [pA 1 20]) ++ [pA 1 20])
theorem new_X8_len (n : Nat) : (new_X8 n).length = 23 := by unfold new_X8; simp [pM_len]
def rmX8_init : Room := { frames := 1, cells := 23, slots := 6060, locals := 12 }
set_option maxRecDepth 100000 in
set_option maxHeartbeats 4000000 in
theorem c_X8_init (l : Launch) (G : xG) (B : Nat) : yM l G B yX8_init wsX8_init rmX8_init 7 df_X8 fin_X8 new_X8 [] 23 6060 := by
  intro V t ht
  refine y_start (cc := cX8_init) (maxL := 1) (by decide) rfl rfl (Nat.le_of_ble_eq_true rfl) (fun p e s m below meth c X hW ls hl => ?_)
  have h0 : ls[0]? = some (.val (.ref (B + t))) := lv_at hl 0 rfl
  have hW : yW G B s s.heap [] (zl V t 7 df_X8 []) := by unfold zl; rw [List.append_nil]; exact hW
  have hfl : df_X8.length = 4 := rfl
  have hNl : ([] : List pE).length = 0 := rfl
  refine z_obj X (List.mem_cons_of_mem _ gw67) (List.mem_cons_of_mem _ gw11) (List.mem_cons_of_mem _ gw12) hl h0 ⟨Nat.le_of_ble_eq_true rfl, Nat.le_of_ble_eq_true rfl⟩ dX8_init_0 dX8_init_1 ?_
  refine z_mna (pc2 := 10) X cf_X8 ht hfl hNl hW h0 dX8_init_4 (fun _ h => lv_bipush (v := 20) X.1 X.2.1 dX8_init_5 rfl (lv_sipush (v := 300) X.1 X.2.1 dX8_init_7 rfl h)) (List.mem_cons_of_mem _ gw68) (List.mem_cons_of_mem _ gw38) (N' := 20) (K' := 300) (by decide) (by decide) (by decide) (by decide) (by decide) (by decide) (cells' := 21) (slots' := 6020) rfl rfl (Nat.le_of_ble_eq_true rfl) (Nat.le_of_ble_eq_true rfl) dX8_init_10 0 (by decide) (by decide) (List.mem_cons_of_mem _ gw69) rfl (fun _ => rfl) (fun _ => rfl) dX8_init_14 (fun H locs hfl hNl hW => ?_)
  refine z_na (pc2 := 20) X cf_X8 ht hfl hNl hW h0 dX8_init_17 (fun _ h => lv_bipush (v := 20) X.1 X.2.1 dX8_init_18 rfl h) (List.mem_cons_of_mem _ gw38) rfl (Or.inl ⟨rfl, rfl⟩) (a := 1) (N' := 20) (by decide) (by decide) (by decide) (cells' := 22) (slots' := 6040) rfl rfl (Nat.le_of_ble_eq_true rfl) (Nat.le_of_ble_eq_true rfl) dX8_init_20 1 (by decide) (by decide) (List.mem_cons_of_mem _ gw70) rfl (fun _ => rfl) (fun _ => rfl) dX8_init_22 (fun H locs hfl hNl hW => ?_)
  refine z_na (pc2 := 28) X cf_X8 ht hfl hNl hW h0 dX8_init_25 (fun _ h => lv_bipush (v := 20) X.1 X.2.1 dX8_init_26 rfl h) (List.mem_cons_of_mem _ gw38) rfl (Or.inl ⟨rfl, rfl⟩) (a := 1) (N' := 20) (by decide) (by decide) (by decide) (cells' := 23) (slots' := 6060) rfl rfl (Nat.le_of_ble_eq_true rfl) (Nat.le_of_ble_eq_true rfl) dX8_init_28 2 (by decide) (by decide) (List.mem_cons_of_mem _ gw71) rfl (fun _ => rfl) (fun _ => rfl) dX8_init_30 (fun H locs hfl hNl hW => ?_)
  exact y_ret X hW dX8_init_33
