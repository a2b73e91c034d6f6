/-! WirelessCell() -/
theorem hd_initX5 : yX5_init.cls ≠ "java/lang/invoke/MethodHandle" ∧ yX5_init.cls ≠ "java/lang/invoke/VarHandle" ∧ (parseMethodDescriptor yX5_init.desc).map (fun d => d.parameters.length) = some 0 := by decide +kernel
theorem hd_initX8 : yX8_init.cls ≠ "java/lang/invoke/MethodHandle" ∧ yX8_init.cls ≠ "java/lang/invoke/VarHandle" ∧ (parseMethodDescriptor yX8_init.desc).map (fun d => d.parameters.length) = some 0 := by decide +kernel
theorem hd_initX1 : yX1_init.cls ≠ "java/lang/invoke/MethodHandle" ∧ yX1_init.cls ≠ "java/lang/invoke/VarHandle" ∧ (parseMethodDescriptor yX1_init.desc).map (fun d => d.parameters.length) = some 0 := by decide +kernel
theorem hd_initX10 : yX10_init.cls ≠ "java/lang/invoke/MethodHandle" ∧ yX10_init.cls ≠ "java/lang/invoke/VarHandle" ∧ (parseMethodDescriptor yX10_init.desc).map (fun d => d.parameters.length) = some 0 := by decide +kernel
theorem hd_initX0 : yX0_init.cls ≠ "java/lang/invoke/MethodHandle" ∧ yX0_init.cls ≠ "java/lang/invoke/VarHandle" ∧ (parseMethodDescriptor yX0_init.desc).map (fun d => d.parameters.length) = some 0 := by decide +kernel
theorem hd_initX7 : yX7_init.cls ≠ "java/lang/invoke/MethodHandle" ∧ yX7_init.cls ≠ "java/lang/invoke/VarHandle" ∧ (parseMethodDescriptor yX7_init.desc).map (fun d => d.parameters.length) = some 1 := by decide +kernel
theorem hd_initX4 : yX4_init.cls ≠ "java/lang/invoke/MethodHandle" ∧ yX4_init.cls ≠ "java/lang/invoke/VarHandle" ∧ (parseMethodDescriptor yX4_init.desc).map (fun d => d.parameters.length) = some 0 := by decide +kernel
theorem cf_X11 {w0 : Cond} : yF RX11 TX11 17 10 tyX11 (w0 :: GW) := ⟨fun w h => List.mem_cons_of_mem _ (gin_X11 w h), tyX11_ok, nmX11, rfl⟩
def df_X11 : List Value := [.null, .null, .null, .null, .null, .null, .null, .null, .null, .int 0, .null, .int 0, .int 0, .int 0, .int 0, .null, .null]
theorem df_X11_ok (B : Nat) : ∀ j, j < 17 → defaultValue (tyX11 j) = vp_V (df_X11.map (shV B)) j := by
  intro j hj
  rcases (show j = 0 ∨ j = 1 ∨ j = 2 ∨ j = 3 ∨ j = 4 ∨ j = 5 ∨ j = 6 ∨ j = 7 ∨ j = 8 ∨ j = 9 ∨ j = 10 ∨ j = 11 ∨ j = 12 ∨ j = 13 ∨ j = 14 ∨ j = 15 ∨ j = 16 by omega) with rfl | rfl | rfl | rfl | rfl | rfl | rfl | rfl | rfl | rfl | rfl | rfl | rfl | rfl | rfl | rfl | rfl <;> rfl
def fin_X11 (n : Nat) : List Value := [.ref (n + 0), .ref (n + 1), .ref (n + 2), .ref (n + 3), .ref (n + 53), .ref (n + 77), .ref (n + 79), .ref (n + 86), .ref (n + 92), .int 0, .ref (n + 93), .int 0, .int 255, .int 4, .int 0, .ref (n + 94), .ref (n + 95)]
def cB (n : Nat) : List pE := (((.inr (4, fin_X5 (n + 4)) : pE) :: new_X5 (n + 4)) ++ (((.inr (7, fin_X8 (n + 54)) : pE) :: new_X8 (n + 54)) ++ (((.inr (1, fin_X1 (n + 78)) : pE) :: new_X1 (n + 78)) ++ (((.inr (9, fin_X10 (n + 80)) : pE) :: new_X10 (n + 80)) ++ (((.inr (0, fin_X0 (n + 87)) : pE) :: new_X0 (n + 87)) ++ ([pA 1 300] ++ ([pA 1 200] ++ ([pA 1 14] ++ ([pA 1 6] ++ [])))))))))
theorem cB_len (n : Nat) : (cB n).length = 93 := by unfold cB; simp [new_X5_len, new_X8_len, new_X1_len, new_X10_len, new_X0_len]
def cR (o n i : Nat) : List Nat := (List.range i).map (fun j => n + (96 + o + 59 * j))
theorem cR_s (o n i : Nat) : cR o n (i + 1) = cR o n i ++ [n + (96 + o + 59 * i)] := by unfold cR; rw [List.range_succ, List.map_append]; rfl
theorem cR_len (o n i : Nat) : (cR o n i).length = i := by unfold cR; rw [List.length_map, List.length_range]
def cZ (n i : Nat) : List pE := .inr (6, fin_X7 (Int32.ofNat i) (n + (96 + 59 * i + 1))) :: new_X7 (n + (96 + 59 * i + 1))
def cY (n k : Nat) : List pE := .inr (3, fin_X4 (n + (k + 1))) :: new_X4 (n + (k + 1))
def cT (n : Nat) : Nat → List pE
  | 0 => cB n
  | i + 1 => ((cT n i ++ cZ n i) ++ cY n (96 + 59 * i + 47)) ++ cY n (96 + 59 * i + 53)
theorem cZ_len (n i : Nat) : (cZ n i).length = 47 := by unfold cZ; rw [List.length_cons, new_X7_len]
theorem cY_len (n i : Nat) : (cY n i).length = 6 := by unfold cY; rw [List.length_cons, new_X4_len]
theorem cT_len (n i : Nat) : (cT n i).length = 93 + 59 * i := by
  induction i with
  | zero => exact cB_len n
  | succ i ih => unfold cT; rw [List.length_append, List.length_append, List.length_append, ih, cZ_len, cY_len, cY_len]; omega
def cN (n i : Nat) : List pE := .inl (4, 9, [], cR 0 n i) :: .inl (5, 9, [], cR 47 n i) :: .inl (5, 9, [], cR 53 n i) :: cT n i
theorem cN_len (n i : Nat) : (cN n i).length = 96 + 59 * i := by unfold cN; rw [List.length_cons, List.length_cons, List.length_cons, cT_len]; omega
def new_X11 (n : Nat) : List pE := cN n 9
theorem new_X11_len (n : Nat) : (new_X11 n).length = 627 := cN_len n 9
def rmX11_init : Room := { frames := 4, cells := 627, slots := 75338, locals := 74 }
theorem at_end {A Z : List pE} {k : Nat} {x : pE} (h : A.length = k) : (A ++ x :: Z)[k]? = some x := by rw [List.getElem?_append_right (by omega), h, Nat.sub_self]; rfl
set_option maxRecDepth 100000 in
set_option maxHeartbeats 4000000 in
theorem w_X11_link {p : Program} {l : Launch} {e : Env} {s : State} {m : MethodId} {args : Array Value} {below : List Frame} {meth : Method} {c : Code} {G : xG} {B t : Nat} {V N : List pE} {Q : State → Prop} {rest : List Value} {ls : Array Slot} {H : Heap} {locs : List Loc} {cells slots kN pc pc2 : Nat} {fs : List Value} (X : yC G B p s m args c cX11_init 2 wsX11_init RX11 meth) (hNl : N.length = kN) (hls : ls.size = 2) (hW : yW G B s H locs (zl V t 10 fs N)) (hc : cells + 6 ≤ 627) (hs : slots + 350 ≤ 75338) (hrest : (rest.map fun v => v.category).sum ≤ 7) (h2 : pc + 4 = pc2) (d0 : decode cX11_init pc = .ok (.new 15, 3)) (d1 : decode cX11_init (pc + 3) = .ok (.dup, 1)) (d2 : decode cX11_init pc2 = .ok (.invokespecial 82, 3))
    (kk : ∀ H1 locs1, (N ++ cY V.length kN).length = kN + 6 → yW G B s H1 locs1 (zl V t 10 fs (N ++ cY V.length kN)) → W p l e rmX11_init s m args below meth c H1 locs1 (cells + 6) (slots + 350) Q (F0 m (pc2 + 3) ls (.ref (B + (V.length + kN)) :: rest))) : W p l e rmX11_init s m args below meth c H locs cells slots Q (F0 m pc ls rest) := by
  subst h2
  exact z_cal (pc2 := pc + 4) (fin := fin_X4) (news := new_X4) (av := []) (mc := 5) (ms := 336) (cells' := cells + 6) (slots' := slots + 350) X hNl hW cf_X4 (List.mem_cons_of_mem _ gw15) (List.mem_cons_of_mem _ gw47) (List.mem_cons_of_mem _ gw48) (df_X4_ok B) rfl rfl (show cells + 1 ≤ 627 by omega) (show slots + 14 ≤ 75338 by omega) d0 d1 new_X4_len (fun _ _ _ h => h) (fun H1 hW1 => va_runIN ⟨X.1, X.2.1, X.2.2.1, X.2.2.2.1, X.2.2.2.2.1⟩ ((c_X4_init l G B).use hNl) ⟨va_cnB 0 X.2.2.2.2.1 (gN gw138) rfl rfl rfl X.2.2.2.2.2.2.2.2.2.2.1.2.2.2.2.2.1 (X.2.2.2.2.1 _ (List.mem_cons_of_mem _ gw48)) hd_initX4 ⟨Nat.le_of_ble_eq_true rfl, Nat.le_of_ble_eq_true rfl⟩, rfl, X.2.2.2.2.1 _ (List.mem_cons_of_mem _ gw137)⟩ (y_pre X hW1 _) rfl rfl hls rfl (lv_room (by show 1 + (rest.map fun v => v.category).sum ≤ 8; omega)) d2 ⟨show cells + 1 + 5 ≤ 627 by omega, show slots + 14 + 336 ≤ 75338 by omega⟩) (by omega) (by omega) (fun H1 locs1 hNl1 hW1 => kk H1 locs1 hNl1 hW1)
set_option maxRecDepth 100000 in
set_option maxHeartbeats 4000000 in
theorem w_X11_init {p : Program} {l : Launch} {e : Env} {s : State} {m : MethodId} {args : Array Value} {below : List Frame} {meth : Method} {c : Code} {G : xG} {B t : Nat} {V : List pE} (X : yC G B p s m args c cX11_init 2 wsX11_init RX11 meth) (ht : t < V.length) : ∀ (k i : Nat), i + k = 9 → ∀ (H : Heap) (locs : List Loc) (ls : Array Slot), yW G B s H locs (zl V t 10 (fin_X11 V.length) (cN V.length i)) → lv_has ls 2 [(0, .ref (B + t)), (1, .int (Int32.ofNat i))] → W p l e rmX11_init s m args below meth c H locs (96 + 59 * i) (20204 + 6126 * i) (MQ below (yQ G B (zl V t 10 (fin_X11 V.length) (new_X11 V.length))) args s 627 75338 (fun q => B ≤ q)) (F0 m 134 ls []) := by
  intro k
  induction k with
  | zero =>
    intro i hi H locs ls hW hl
    have h9 : i = 9 := by omega
    subst h9
    refine lv_iload_n X.1 X.2.1 dX11_init_134 rfl (lv_at hl 1 rfl) ?_
    refine lv_bipush (v := 9) X.1 X.2.1 dX11_init_135 rfl ?_
    refine lv_icmp_ge (tgt := 186) X.1 X.2.1 dX11_init_137 (by decide) (fun _ => ?_) (fun q => absurd (by decide) q)
    exact y_ret X hW dX11_init_186
  | succ k ih =>
    intro i hi H locs ls hW hl
    obtain ⟨-, f2, f3, f4⟩ := i9 i (by omega)
    refine lv_iload_n X.1 X.2.1 dX11_init_134 rfl (lv_at hl 1 rfl) ?_
    refine lv_bipush (v := 9) X.1 X.2.1 dX11_init_135 rfl ?_
    refine lv_icmp_ge (tgt := 186) X.1 X.2.1 dX11_init_137 (by decide) (fun q => absurd q (i8 i (by omega))) (fun _ => ?_)
    refine lv_aload_n X.1 X.2.1 dX11_init_140 rfl (lv_at hl 0 rfl) ?_
    refine y_get (k := 0) (v := .ref (V.length + 0)) X hW (zl_at ht) cf_X11.1 rfl (by decide) (List.mem_cons_of_mem _ gw14) rfl dX11_init_141 ?_
    refine lv_iload_n X.1 X.2.1 dX11_init_144 rfl (lv_at hl 1 rfl) ?_
    refine z_cal (pc2 := 150) (fin := fin_X7 (Int32.ofNat i)) (news := new_X7) (av := [.int (Int32.ofNat i)]) (mc := 46) (ms := 5407) (cells' := 96 + 59 * i + 47) (slots' := 20204 + 6126 * i + 5426) X (cN_len V.length i) hW cf_X7 (List.mem_cons_of_mem _ gw13) (List.mem_cons_of_mem _ gw45) (List.mem_cons_of_mem _ gw46) (df_X7_ok B) rfl rfl (show 96 + 59 * i + 1 ≤ 627 by omega) (show 20204 + 6126 * i + 19 ≤ 75338 by omega) dX11_init_145 dX11_init_148 new_X7_len (fun _ _ _ h => lv_iload_n X.1 X.2.1 dX11_init_149 rfl (lv_at hl 1 rfl) h) (fun H1 hW1 => va_runI ⟨X.1, X.2.1, X.2.2.1, X.2.2.2.1, X.2.2.2.2.1⟩ ((c_X7_init l G B (Int32.ofNat i)).use (cN_len V.length i)) (cwI 1 X.2.2.2.2.1 (gN gw95) rfl rfl rfl (X.2.2.2.2.1 _ (List.mem_cons_of_mem _ gw46)) (X.2.2.2.2.1 _ (List.mem_cons_of_mem _ gw93)) (X.2.2.2.2.1 _ (List.mem_cons_of_mem _ gw94)) rfl hd_initX7 ⟨Nat.le_of_ble_eq_true rfl, Nat.le_of_ble_eq_true rfl⟩) (y_pre X hW1 _) rfl rfl hl.1 rfl (lv_room (Nat.le_of_ble_eq_true rfl)) dX11_init_150 ⟨show 96 + 59 * i + 1 + 46 ≤ 627 by omega, show 20204 + 6126 * i + 19 + 5407 ≤ 75338 by omega⟩) (by omega) (by omega) (fun H locs hNl hW => ?_)
    refine y_aast (cj := 6) X hW (zl_in.trans rfl) (by decide) (v := V.length + (96 + 59 * i)) (zl_in.trans (at_end (cN_len V.length i))) rfl rfl (by rw [f2, cR_len]) f3 (by rw [cR_len]; omega) dX11_init_153 (fun H locs hW => ?_)
    rw [zl_inset] at hW
    have hW : yW G B s H locs (zl V t 10 (fin_X11 V.length) (.inl (4, 9, [], cR 0 V.length i ++ [V.length + (96 + 59 * i)]) :: .inl (5, 9, [], cR 47 V.length i) :: .inl (5, 9, [], cR 53 V.length i) :: (cT V.length i ++ cZ V.length i))) := hW
    have hNl : (.inl (4, 9, [], cR 0 V.length i ++ [V.length + (96 + 59 * i)]) :: .inl (5, 9, [], cR 47 V.length i) :: .inl (5, 9, [], cR 53 V.length i) :: (cT V.length i ++ cZ V.length i) : List pE).length = 96 + 59 * i + 47 := by rw [List.length_cons, List.length_cons, List.length_cons, List.length_append, cT_len, cZ_len]; omega
    refine lv_aload_n X.1 X.2.1 dX11_init_154 rfl (lv_at hl 0 rfl) ?_
    refine y_get (k := 1) (v := .ref (V.length + 1)) X hW (zl_at ht) cf_X11.1 rfl (by decide) (List.mem_cons_of_mem _ gw16) rfl dX11_init_155 ?_
    refine lv_iload_n X.1 X.2.1 dX11_init_158 rfl (lv_at hl 1 rfl) ?_
    refine w_X11_link X hNl hl.1 hW (by omega) (by omega) (Nat.le_of_ble_eq_true rfl) (pc2 := 163) rfl dX11_init_159 dX11_init_162 dX11_init_163 (fun H locs hNl hW => ?_)
    refine y_aast (cj := 3) X hW (zl_in.trans rfl) (by decide) (v := V.length + (96 + 59 * i + 47)) (zl_in.trans (at_end (by rw [List.length_cons, List.length_cons, List.length_cons, List.length_append, cT_len, cZ_len]; omega))) rfl rfl (by rw [f2, cR_len]) f3 (by rw [cR_len]; omega) dX11_init_166 (fun H locs hW => ?_)
    rw [zl_inset] at hW
    have hW : yW G B s H locs (zl V t 10 (fin_X11 V.length) (.inl (4, 9, [], cR 0 V.length i ++ [V.length + (96 + 59 * i)]) :: .inl (5, 9, [], cR 47 V.length i ++ [V.length + (96 + 59 * i + 47)]) :: .inl (5, 9, [], cR 53 V.length i) :: ((cT V.length i ++ cZ V.length i) ++ cY V.length (96 + 59 * i + 47)))) := hW
    have hNl : (.inl (4, 9, [], cR 0 V.length i ++ [V.length + (96 + 59 * i)]) :: .inl (5, 9, [], cR 47 V.length i ++ [V.length + (96 + 59 * i + 47)]) :: .inl (5, 9, [], cR 53 V.length i) :: ((cT V.length i ++ cZ V.length i) ++ cY V.length (96 + 59 * i + 47)) : List pE).length = 96 + 59 * i + 53 := by rw [List.length_cons, List.length_cons, List.length_cons, List.length_append, List.length_append, cT_len, cZ_len, cY_len]; omega
    refine lv_aload_n X.1 X.2.1 dX11_init_167 rfl (lv_at hl 0 rfl) ?_
    refine y_get (k := 2) (v := .ref (V.length + 2)) X hW (zl_at ht) cf_X11.1 rfl (by decide) (List.mem_cons_of_mem _ gw17) rfl dX11_init_168 ?_
    refine lv_iload_n X.1 X.2.1 dX11_init_171 rfl (lv_at hl 1 rfl) ?_
    refine w_X11_link X hNl hl.1 hW (by omega) (by omega) (Nat.le_of_ble_eq_true rfl) (pc2 := 176) rfl dX11_init_172 dX11_init_175 dX11_init_176 (fun H locs hNl hW => ?_)
    refine y_aast (cj := 3) X hW (zl_in.trans rfl) (by decide) (v := V.length + (96 + 59 * i + 53)) (zl_in.trans (at_end (by rw [List.length_cons, List.length_cons, List.length_cons, List.length_append, List.length_append, cT_len, cZ_len, cY_len]; omega))) rfl rfl (by rw [f2, cR_len]) f3 (by rw [cR_len]; omega) dX11_init_179 (fun H locs hW => ?_)
    rw [zl_inset] at hW
    have e0 : cN V.length (i + 1) = .inl (4, 9, [], cR 0 V.length i ++ [V.length + (96 + 59 * i)]) :: .inl (5, 9, [], cR 47 V.length i ++ [V.length + (96 + 59 * i + 47)]) :: .inl (5, 9, [], cR 53 V.length i ++ [V.length + (96 + 59 * i + 53)]) :: (((cT V.length i ++ cZ V.length i) ++ cY V.length (96 + 59 * i + 47)) ++ cY V.length (96 + 59 * i + 53)) := by
      unfold cN
      rw [cR_s, cR_s, cR_s, show 96 + 0 + 59 * i = 96 + 59 * i by omega, show 96 + 47 + 59 * i = 96 + 59 * i + 47 by omega, show 96 + 53 + 59 * i = 96 + 59 * i + 53 by omega]
      rfl
    have hW : yW G B s H locs (zl V t 10 (fin_X11 V.length) (cN V.length (i + 1))) := by rw [e0]; exact hW
    refine lv_iinc (v := Int32.ofNat (i + 1)) (lv' := [(1, .int (Int32.ofNat (i + 1))), (0, .ref (B + t))]) X.1 X.2.1 dX11_init_180 hl (k := 1) rfl f4 (by decide) rfl (fun ls hl => ?_)
    refine lv_goto (tgt := 134) X.1 X.2.1 dX11_init_183 (by decide) ?_
    have h := ih (i + 1) (by omega) H locs ls hW (lv_sub hl [1, 0] rfl)
    rw [show 96 + 59 * (i + 1) = 96 + 59 * i + 47 + 6 + 6 by omega, show 20204 + 6126 * (i + 1) = 20204 + 6126 * i + 5426 + 350 + 350 by omega] at h
    exact h
set_option maxRecDepth 100000 in
set_option maxHeartbeats 4000000 in
theorem c_X11_init (l : Launch) (G : xG) (B : Nat) : yM l G B yX11_init wsX11_init rmX11_init 10 df_X11 fin_X11 new_X11 [] 627 75338 := by
  intro V t ht
  refine y_start (cc := cX11_init) (maxL := 2) (by decide) rfl rfl (Nat.le_of_ble_eq_true rfl) (fun p e s m below meth c X hW ls hl => ?_)
  have h0 : ls[0]? = some (.val (.ref (B + t))) := lv_at hl 0 rfl
  have hW : yW G B s s.heap [] (zl V t 10 df_X11 []) := by unfold zl; rw [List.append_nil]; exact hW
  have hfl : df_X11.length = 17 := rfl
  have hNl : ([] : List pE).length = 0 := rfl
  refine z_obj X (List.mem_cons_of_mem _ gw10) (List.mem_cons_of_mem _ gw11) (List.mem_cons_of_mem _ gw12) hl h0 ⟨Nat.le_of_ble_eq_true rfl, Nat.le_of_ble_eq_true rfl⟩ dX11_init_0 dX11_init_1 ?_
  refine z_nq (pc2 := 7) (a := 4) X cf_X11 ht hfl hNl hW h0 dX11_init_4 (fun _ h => lv_bipush (v := 9) X.1 X.2.1 dX11_init_5 rfl h) (List.mem_cons_of_mem _ gw13) X.2.2.2.2.2.2.2.2.2.2.2.1 rfl (by decide) (N' := 9) (by decide) (by decide) (by decide) (cells' := 1) (slots' := 9) rfl rfl (Nat.le_of_ble_eq_true rfl) (Nat.le_of_ble_eq_true rfl) dX11_init_7 0 (by decide) (by decide) (List.mem_cons_of_mem _ gw14) rfl (fun _ => rfl) (fun _ => rfl) dX11_init_10 (fun H locs hfl hNl hW => ?_)
  refine z_nq (pc2 := 16) (a := 5) X cf_X11 ht hfl hNl hW h0 dX11_init_13 (fun _ h => lv_bipush (v := 9) X.1 X.2.1 dX11_init_14 rfl h) (List.mem_cons_of_mem _ gw15) X.2.2.2.2.2.2.2.2.2.2.2.2.1 rfl (by decide) (N' := 9) (by decide) (by decide) (by decide) (cells' := 2) (slots' := 18) rfl rfl (Nat.le_of_ble_eq_true rfl) (Nat.le_of_ble_eq_true rfl) dX11_init_16 1 (by decide) (by decide) (List.mem_cons_of_mem _ gw16) rfl (fun _ => rfl) (fun _ => rfl) dX11_init_19 (fun H locs hfl hNl hW => ?_)
  refine z_nq (pc2 := 25) (a := 5) X cf_X11 ht hfl hNl hW h0 dX11_init_22 (fun _ h => lv_bipush (v := 9) X.1 X.2.1 dX11_init_23 rfl h) (List.mem_cons_of_mem _ gw15) X.2.2.2.2.2.2.2.2.2.2.2.2.1 rfl (by decide) (N' := 9) (by decide) (by decide) (by decide) (cells' := 3) (slots' := 27) rfl rfl (Nat.le_of_ble_eq_true rfl) (Nat.le_of_ble_eq_true rfl) dX11_init_25 2 (by decide) (by decide) (List.mem_cons_of_mem _ gw17) rfl (fun _ => rfl) (fun _ => rfl) dX11_init_28 (fun H locs hfl hNl hW => ?_)
  refine lv_aload_n X.1 X.2.1 dX11_init_31 rfl h0 ?_
  refine z_cal (pc2 := 36) (fin := fin_X5) (news := new_X5) (av := []) (mc := 49) (ms := 12316) (c1 := 4) (s1 := 45) (cells' := 53) (slots' := 12361) X hNl hW cf_X5 (List.mem_cons_of_mem _ gw18) (List.mem_cons_of_mem _ gw19) (List.mem_cons_of_mem _ gw20) (df_X5_ok B) rfl rfl (Nat.le_of_ble_eq_true rfl) (Nat.le_of_ble_eq_true rfl) dX11_init_32 dX11_init_35 new_X5_len (fun _ _ _ h => h) (fun H1 hW1 => va_runIN ⟨X.1, X.2.1, X.2.2.1, X.2.2.2.1, X.2.2.2.2.1⟩ ((c_X5_init l G B).use hNl) ⟨va_cnB 0 X.2.2.2.2.1 (gN gw50) rfl rfl rfl X.2.2.2.2.2.2.2.2.2.2.1.1 (X.2.2.2.2.1 _ (List.mem_cons_of_mem _ gw20)) hd_initX5 ⟨Nat.le_of_ble_eq_true rfl, Nat.le_of_ble_eq_true rfl⟩, rfl, (X.2.2.2.2.1 _ (List.mem_cons_of_mem _ gw49))⟩ (y_pre X hW1 _) rfl rfl hl.1 rfl (lv_room (Nat.le_of_ble_eq_true rfl)) dX11_init_36 ⟨Nat.le_of_ble_eq_true rfl, Nat.le_of_ble_eq_true rfl⟩) rfl rfl (fun H locs hNl hW => ?_)
  refine z_pr X cf_X11 ht hfl hW 3 (by decide) (by decide) (List.mem_cons_of_mem _ gw21) rfl (fun _ => rfl) (fun _ => rfl) dX11_init_39 (fun H locs hfl hW => ?_)
  refine lv_aload_n X.1 X.2.1 dX11_init_42 rfl h0 ?_
  refine z_cal (pc2 := 47) (fin := fin_X8) (news := new_X8) (av := []) (mc := 23) (ms := 6060) (c1 := 54) (s1 := 12365) (cells' := 77) (slots' := 18425) X hNl hW cf_X8 (List.mem_cons_of_mem _ gw22) (List.mem_cons_of_mem _ gw23) (List.mem_cons_of_mem _ gw24) (df_X8_ok B) rfl rfl (Nat.le_of_ble_eq_true rfl) (Nat.le_of_ble_eq_true rfl) dX11_init_43 dX11_init_46 new_X8_len (fun _ _ _ h => h) (fun H1 hW1 => va_runIN ⟨X.1, X.2.1, X.2.2.1, X.2.2.2.1, X.2.2.2.2.1⟩ ((c_X8_init l G B).use hNl) ⟨va_cnB 0 X.2.2.2.2.1 (gN gw66) rfl rfl rfl X.2.2.2.2.2.2.2.2.2.2.1.2.1 (X.2.2.2.2.1 _ (List.mem_cons_of_mem _ gw24)) hd_initX8 ⟨Nat.le_of_ble_eq_true rfl, Nat.le_of_ble_eq_true rfl⟩, rfl, (X.2.2.2.2.1 _ (List.mem_cons_of_mem _ gw65))⟩ (y_pre X hW1 _) rfl rfl hl.1 rfl (lv_room (Nat.le_of_ble_eq_true rfl)) dX11_init_47 ⟨Nat.le_of_ble_eq_true rfl, Nat.le_of_ble_eq_true rfl⟩) rfl rfl (fun H locs hNl hW => ?_)
  refine z_pr X cf_X11 ht hfl hW 4 (by decide) (by decide) (List.mem_cons_of_mem _ gw25) rfl (fun _ => rfl) (fun _ => rfl) dX11_init_50 (fun H locs hfl hW => ?_)
  refine lv_aload_n X.1 X.2.1 dX11_init_53 rfl h0 ?_
  refine z_cal (pc2 := 58) (fin := fin_X1) (news := new_X1) (av := []) (mc := 1) (ms := 200) (c1 := 78) (s1 := 18428) (cells' := 79) (slots' := 18628) X hNl hW cf_X1 (List.mem_cons_of_mem _ gw26) (List.mem_cons_of_mem _ gw27) (List.mem_cons_of_mem _ gw28) (df_X1_ok B) rfl rfl (Nat.le_of_ble_eq_true rfl) (Nat.le_of_ble_eq_true rfl) dX11_init_54 dX11_init_57 new_X1_len (fun _ _ _ h => h) (fun H1 hW1 => va_runIN ⟨X.1, X.2.1, X.2.2.1, X.2.2.2.1, X.2.2.2.2.1⟩ ((c_X1_init l G B).use hNl) ⟨va_cnB 0 X.2.2.2.2.1 (gN gw73) rfl rfl rfl X.2.2.2.2.2.2.2.2.2.2.1.2.2.1 (X.2.2.2.2.1 _ (List.mem_cons_of_mem _ gw28)) hd_initX1 ⟨Nat.le_of_ble_eq_true rfl, Nat.le_of_ble_eq_true rfl⟩, rfl, (X.2.2.2.2.1 _ (List.mem_cons_of_mem _ gw72))⟩ (y_pre X hW1 _) rfl rfl hl.1 rfl (lv_room (Nat.le_of_ble_eq_true rfl)) dX11_init_58 ⟨Nat.le_of_ble_eq_true rfl, Nat.le_of_ble_eq_true rfl⟩) rfl rfl (fun H locs hNl hW => ?_)
  refine z_pr X cf_X11 ht hfl hW 5 (by decide) (by decide) (List.mem_cons_of_mem _ gw29) rfl (fun _ => rfl) (fun _ => rfl) dX11_init_61 (fun H locs hfl hW => ?_)
  refine lv_aload_n X.1 X.2.1 dX11_init_64 rfl h0 ?_
  refine z_cal (pc2 := 69) (fin := fin_X10) (news := new_X10) (av := []) (mc := 6) (ms := 521) (c1 := 80) (s1 := 18634) (cells' := 86) (slots' := 19155) X hNl hW cf_X10 (List.mem_cons_of_mem _ gw30) (List.mem_cons_of_mem _ gw31) (List.mem_cons_of_mem _ gw32) (df_X10_ok B) rfl rfl (Nat.le_of_ble_eq_true rfl) (Nat.le_of_ble_eq_true rfl) dX11_init_65 dX11_init_68 new_X10_len (fun _ _ _ h => h) (fun H1 hW1 => va_runIN ⟨X.1, X.2.1, X.2.2.1, X.2.2.2.1, X.2.2.2.2.1⟩ ((c_X10_init l G B).use hNl) ⟨va_cnB 0 X.2.2.2.2.1 (gN gw77) rfl rfl rfl X.2.2.2.2.2.2.2.2.2.2.1.2.2.2.1 (X.2.2.2.2.1 _ (List.mem_cons_of_mem _ gw32)) hd_initX10 ⟨Nat.le_of_ble_eq_true rfl, Nat.le_of_ble_eq_true rfl⟩, rfl, (X.2.2.2.2.1 _ (List.mem_cons_of_mem _ gw76))⟩ (y_pre X hW1 _) rfl rfl hl.1 rfl (lv_room (Nat.le_of_ble_eq_true rfl)) dX11_init_69 ⟨Nat.le_of_ble_eq_true rfl, Nat.le_of_ble_eq_true rfl⟩) rfl rfl (fun H locs hNl hW => ?_)
  refine z_pr X cf_X11 ht hfl hW 6 (by decide) (by decide) (List.mem_cons_of_mem _ gw33) rfl (fun _ => rfl) (fun _ => rfl) dX11_init_72 (fun H locs hfl hW => ?_)
  refine lv_aload_n X.1 X.2.1 dX11_init_75 rfl h0 ?_
  refine z_cal (pc2 := 80) (fin := fin_X0) (news := new_X0) (av := []) (mc := 5) (ms := 524) (c1 := 87) (s1 := 19160) (cells' := 92) (slots' := 19684) X hNl hW cf_X0 (List.mem_cons_of_mem _ gw34) (List.mem_cons_of_mem _ gw35) (List.mem_cons_of_mem _ gw36) (df_X0_ok B) rfl rfl (Nat.le_of_ble_eq_true rfl) (Nat.le_of_ble_eq_true rfl) dX11_init_76 dX11_init_79 new_X0_len (fun _ _ _ h => h) (fun H1 hW1 => va_runIN ⟨X.1, X.2.1, X.2.2.1, X.2.2.2.1, X.2.2.2.2.1⟩ ((c_X0_init l G B).use hNl) ⟨va_cnB 0 X.2.2.2.2.1 (gN gw86) rfl rfl rfl X.2.2.2.2.2.2.2.2.2.2.1.2.2.2.2.1 (X.2.2.2.2.1 _ (List.mem_cons_of_mem _ gw36)) hd_initX0 ⟨Nat.le_of_ble_eq_true rfl, Nat.le_of_ble_eq_true rfl⟩, rfl, (X.2.2.2.2.1 _ (List.mem_cons_of_mem _ gw85))⟩ (y_pre X hW1 _) rfl rfl hl.1 rfl (lv_room (Nat.le_of_ble_eq_true rfl)) dX11_init_80 ⟨Nat.le_of_ble_eq_true rfl, Nat.le_of_ble_eq_true rfl⟩) rfl rfl (fun H locs hNl hW => ?_)
  refine z_pr X cf_X11 ht hfl hW 7 (by decide) (by decide) (List.mem_cons_of_mem _ gw37) rfl (fun _ => rfl) (fun _ => rfl) dX11_init_83 (fun H locs hfl hW => ?_)
  refine z_na (pc2 := 90) X cf_X11 ht hfl hNl hW h0 dX11_init_86 (fun _ h => lv_sipush (v := 300) X.1 X.2.1 dX11_init_87 rfl h) (List.mem_cons_of_mem _ gw38) rfl (Or.inl ⟨rfl, rfl⟩) (a := 1) (N' := 300) (by decide) (by decide) (by decide) (cells' := 93) (slots' := 19984) rfl rfl (Nat.le_of_ble_eq_true rfl) (Nat.le_of_ble_eq_true rfl) dX11_init_90 8 (by decide) (by decide) (List.mem_cons_of_mem _ gw39) rfl (fun _ => rfl) (fun _ => rfl) dX11_init_92 (fun H locs hfl hNl hW => ?_)
  refine z_na (pc2 := 99) X cf_X11 ht hfl hNl hW h0 dX11_init_95 (fun _ h => lv_sipush (v := 200) X.1 X.2.1 dX11_init_96 rfl h) (List.mem_cons_of_mem _ gw38) rfl (Or.inl ⟨rfl, rfl⟩) (a := 1) (N' := 200) (by decide) (by decide) (by decide) (cells' := 94) (slots' := 20184) rfl rfl (Nat.le_of_ble_eq_true rfl) (Nat.le_of_ble_eq_true rfl) dX11_init_99 10 (by decide) (by decide) (List.mem_cons_of_mem _ gw40) rfl (fun _ => rfl) (fun _ => rfl) dX11_init_101 (fun H locs hfl hNl hW => ?_)
  refine z_pv (pc2 := 108) (v := .int 255) X cf_X11 ht hfl hW h0 dX11_init_104 (fun _ h => lv_sipush (v := 255) X.1 X.2.1 dX11_init_105 rfl h) rfl 12 (by decide) (by decide) (List.mem_cons_of_mem _ gw41) rfl rfl rfl dX11_init_108 (fun H locs hfl hW => ?_)
  refine z_pv (pc2 := 113) (v := .int 4) X cf_X11 ht hfl hW h0 dX11_init_111 (fun _ h => lv_iconst (v := 4) X.1 X.2.1 dX11_init_112 rfl h) rfl 13 (by decide) (by decide) (List.mem_cons_of_mem _ gw42) rfl rfl rfl dX11_init_113 (fun H locs hfl hW => ?_)
  refine z_na (pc2 := 119) X cf_X11 ht hfl hNl hW h0 dX11_init_116 (fun _ h => lv_bipush (v := 14) X.1 X.2.1 dX11_init_117 rfl h) (List.mem_cons_of_mem _ gw38) rfl (Or.inl ⟨rfl, rfl⟩) (a := 1) (N' := 14) (by decide) (by decide) (by decide) (cells' := 95) (slots' := 20198) rfl rfl (Nat.le_of_ble_eq_true rfl) (Nat.le_of_ble_eq_true rfl) dX11_init_119 15 (by decide) (by decide) (List.mem_cons_of_mem _ gw43) rfl (fun _ => rfl) (fun _ => rfl) dX11_init_121 (fun H locs hfl hNl hW => ?_)
  refine z_na (pc2 := 127) X cf_X11 ht hfl hNl hW h0 dX11_init_124 (fun _ h => lv_bipush (v := 6) X.1 X.2.1 dX11_init_125 rfl h) (List.mem_cons_of_mem _ gw38) rfl (Or.inl ⟨rfl, rfl⟩) (a := 1) (N' := 6) (by decide) (by decide) (by decide) (cells' := 96) (slots' := 20204) rfl rfl (Nat.le_of_ble_eq_true rfl) (Nat.le_of_ble_eq_true rfl) dX11_init_127 16 (by decide) (by decide) (List.mem_cons_of_mem _ gw44) rfl (fun _ => rfl) (fun _ => rfl) dX11_init_129 (fun H locs hfl hNl hW => ?_)
  refine lv_iconst (v := 0) X.1 X.2.1 dX11_init_132 rfl ?_
  refine lv_istore_n (lv' := [(1, .int 0), (0, .ref (B + t))]) X.1 X.2.1 dX11_init_133 rfl hl (by decide) rfl (fun ls hl => ?_)
  have hW : yW G B s H locs (zl V t 10 (fin_X11 V.length) (cN V.length 0)) := by
    have e1 : cN V.length 0 = [] ++ [pA 4 9] ++ [pA 5 9] ++ [pA 5 9] ++ cB V.length := rfl
    rw [e1]
    unfold cB
    simp only [List.append_nil, ← List.append_assoc]
    exact hW
  exact w_X11_init X ht 9 0 rfl _ _ _ hW (lv_sub hl [1, 0] rfl)
