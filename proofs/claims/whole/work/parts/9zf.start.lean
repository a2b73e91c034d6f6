/-! THE LAW, from its entry -/
theorem mPre.blind {G : xG} {B : Nat} {av : List Value} : FrameBlind (mPre G B av) := by
  intro a U g mk h
  refine ⟨yPre.blind a U g mk h.1, ?_⟩
  obtain ⟨h1, ⟨z1, z2, z3, z4⟩, ⟨n1, n2⟩, aa, s1, s2, s3, s4, s5, s6, s7⟩ := h.2
  have hv : U.vm.Alike (U.calling g mk a).vm := Vm.Alike.refl U.vm
  exact ⟨fun c hc => (h1 c hc).moved hv, ⟨z1.moved hv, z2.moved hv, z3.moved hv, z4.moved hv⟩, ⟨n1.same rfl rfl, n2.same rfl rfl⟩, aa.moved hv, s1.moved hv, s2.moved hv, s3.moved hv, s4.moved hv, s5.moved hv, s6.moved hv, s7.same rfl⟩
theorem hd_initX11 : yX11_init.cls ≠ "java/lang/invoke/MethodHandle" ∧ yX11_init.cls ≠ "java/lang/invoke/VarHandle" ∧ (parseMethodDescriptor yX11_init.desc).map (fun d => d.parameters.length) = some 0 := by decide +kernel
theorem hd_initX12 : yX12_init.cls ≠ "java/lang/invoke/MethodHandle" ∧ yX12_init.cls ≠ "java/lang/invoke/VarHandle" ∧ (parseMethodDescriptor yX12_init.desc).map (fun d => d.parameters.length) = some 0 := by decide +kernel
/-- a new object in the law's frame -/
theorem lw_new {p : Program} {l : Launch} {e : Env} {s : State} {m : MethodId} {below : List Frame} {meth : Method} {c : Code} {H : Heap} {locs : List Loc} {cells slots pc : Nat} {ls : Array Slot} {rest : List Value} {Q : State → Prop} {G : xG} {b L : Nat} {xs : Nat → Int32} (C0 : lw_At p s m meth c b L xs) (hK : xK G s) {C : String} {T : u_T} {N' cj index : Nat} (hin : ∀ w ∈ u_ws C T N', w ∈ GW) (ty : Nat → FieldType) (hty : ∀ k, k < N' → parseFieldDescriptor (T k).2.2.1 = some (ty k)) (hcl : Cond.classLink RL index C ∈ GW) (hinst : Cond.instantiable C N' ∈ GW) (hini : Cond.initialized C ∈ GW) (hc : vwCl[cj]? = some (C, T, N')) {df : List Value} (hfs : ∀ B j, j < N' → defaultValue (ty j) = vp_V (df.map (shV B)) j) (hcc : cells + 1 ≤ room_1.cells) (hss : slots + N' ≤ room_1.slots) (hd : decode code pc = .ok (.new index, 3))
    (kk : ∀ H1, H1.size = H.size + 1 → (∀ q, q < H.size → H1[q]? = H[q]?) → vL G H.size [.inr (cj, df)] H1 → W p l e room_1 s m #[Value.ref b] below meth c H1 locs (cells + 1) (slots + N') Q (F0 m (pc + 3) ls (.ref H.size :: rest))) : W p l e room_1 s m #[Value.ref b] below meth c H locs cells slots Q (F0 m pc ls rest) := by
  obtain ⟨hx, hb, hr, hml, hown, hts, hX, hbl, hlocks, hgv⟩ := C0
  have hg : ∀ w ∈ GW, w.before #[Value.ref b] s = true := fun w h => hts w (gwL w h)
  have hKn := hK.1 cj _ hc
  refine W.newcK hx hb hown (hg _ hcl) (hg _ hinst) (hg _ hini) rfl hd hcc hss hKn.2.1 rfl fun H1 kC hkC f1 z1 o1 => ?_
  refine kk H1 z1 o1 ⟨z1, fun j q hj => ?_⟩
  have h0 : j < 1 := (List.getElem?_eq_some_iff.mp hj).1
  rw [show j = 0 by omega] at hj ⊢
  cases hj
  exact ⟨_, hc, (u_born ty hg hin hKn hkC f1 hty).to (hfs _)⟩
set_option maxRecDepth 100000 in
set_option maxHeartbeats 4000000 in
theorem whole_start {p : Program} {e : Env} {s : State} {m : MethodId} {below : List Frame} {meth : Method} {c : Code} (l : Launch) {b L : Nat} {xs : Nat → Int32} (hL : L ≤ 5120) (C0 : lw_At p s m meth c b L xs) : W p l e room_1 s m #[Value.ref b] below meth c s.heap [] 0 0 (lw_Z below #[Value.ref b] s) (entryFrame m ([Value.ref b] : List Value).toArray 4) := by
  obtain ⟨G, hK, hR, hN, hcG, hmG⟩ := g_ex C0
  obtain ⟨S1, hb1, hb2, hb3⟩ := fboxes S0m
  have hM0 := m_mem hb2 hb3
  obtain ⟨hx, hb, hr, hml, hown, hts, hX, hbl, hlocks, hgv⟩ := id C0
  have hg : ∀ w ∈ GW, w.before #[Value.ref b] s = true := fun w h => hts w (gwL w h)
  have hts1 : ∀ w ∈ (Cond.classLink RL 7 RX11 :: GW), w.before #[Value.ref b] s = true := fun w h => (List.mem_cons.mp h).elim (fun e => by rw [e]; exact hg _ gw0) (hg w)
  have hl := lv_entry ([.ref b]) (n := 4) (Nat.le_of_ble_eq_true rfl)
  rw [lg_entry_eq]
  generalize (lg_sl ([.ref b]) ++ List.replicate (4 - (lg_sl ([.ref b])).length) Slot.unset).toArray = ls at hl ⊢
  have hl : lv_has ls 4 [(0, .ref b)] := hl
  refine lw_new (cj := 10) (df := df_X11) C0 hK gin_X11 tyX11 tyX11_ok gw0 gw1 gw2 rfl df_X11_ok (Nat.le_of_ble_eq_true rfl) (Nat.le_of_ble_eq_true rfl) dL_law_0 (fun H1 z1 o1 hv => ?_)
  have hS1 : va_S (fun q => s.heap.size ≤ q) s.heap H1 [] := ⟨by omega, fun q h1 _ => o1 q h1, fun _ h => by cases h⟩
  refine lv_dup hx hb dL_law_3 rfl ?_
  refine va_callv (va_runI (As := []) (rest := [.ref s.heap.size]) (own := RL) ⟨hx, hb, hml, hown, hts1⟩ (c_X11_init l G s.heap.size [.inr (10, df_X11)] 0 Nat.zero_lt_one) (cwI 0 hts1 (gN gw9) rfl rfl rfl (hg _ gw2) (hg _ gw7) (hg _ gw8) rfl hd_initX11 ⟨Nat.le_of_ble_eq_true rfl, Nat.le_of_ble_eq_true rfl⟩) ⟨yPre.blind, fun U hU hWm => ⟨rfl, by rw [hU]; exact hv, va_K.moved hWm.alike hK, hN.warm hWm⟩⟩ rfl rfl hl.1 rfl (lv_room (Nat.le_of_ble_eq_true rfl)) dL_law_4 ⟨Nat.le_of_ble_eq_true rfl, Nat.le_of_ble_eq_true rfl⟩) hS1 (fun q _ h => h) (fun q h => h) (fun u t H2 locs2 ht hvm hp hB hz hk hS2 => ?_)
  subst hp
  have hv2 : vL G s.heap.size cV H2 := by rw [← ht]; exact hB.1
  have hz2 : H2.size = s.heap.size + 628 := by rw [hv2.1, cV_len]
  have hC := c_xP hcG hv2
  refine lv_astore_n (lv' := [(1, .ref s.heap.size), (0, .ref b)]) hx hb dL_law_7 rfl hl (by decide) rfl (fun ls hl => ?_)
  refine lw_new (cj := 11) (df := df_X12) C0 hK gin_X12 tyX12 tyX12_ok gw3 gw4 gw5 rfl df_X12_ok (Nat.le_of_ble_eq_true rfl) (Nat.le_of_ble_eq_true rfl) dL_law_8 (fun H3 z3 o3 hv3 => ?_)
  rw [hz2] at z3 o3 hv3 ⊢
  have hS3 : va_S (fun q => s.heap.size ≤ q) s.heap H3 locs2 := ⟨by omega, fun q h1 h2 => (o3 q (by omega)).trans (hS2.2.1 q h1 h2), hS2.2.2⟩
  refine lv_dup hx hb dL_law_11 rfl ?_
  refine va_callv (va_runI (As := []) (rest := [.ref (s.heap.size + 628)]) (own := RL) ⟨hx, hb, hml, hown, hts1⟩ (c_X12_init l G (s.heap.size + 628) hmG S1 hb1) (cwI 0 hts1 (gN gw149) rfl rfl rfl (hg _ gw5) (hg _ gw147) (hg _ gw148) rfl hd_initX12 ⟨Nat.le_of_ble_eq_true rfl, Nat.le_of_ble_eq_true rfl⟩) ⟨mPre.blind, fun U hU hWm => ⟨⟨rfl, by rw [hU]; exact hv3, va_K.moved hWm.alike hK, hN.warm hWm⟩, xR.move hWm (fun a h1 h2 => by rw [hU]; exact hS3.2.1 a h1 h2) (fun q hq => Nat.le_trans (Nat.le_add_right _ _) hq) hR⟩⟩ rfl rfl hl.1 rfl (lv_room (Nat.le_of_ble_eq_true rfl)) dL_law_12 ⟨Nat.le_of_ble_eq_true rfl, Nat.le_of_ble_eq_true rfl⟩) hS3 (fun q _ h => Nat.le_trans (Nat.le_add_right _ _) h) (fun q h => Nat.le_trans (Nat.le_add_right _ _) h) (fun u t H4 locs4 ht hvm hp hB4 hz4 hk4 hS4 => ?_)
  subst hp
  have hM : xP G true (mz, S0m.2) H4 := by rw [← ht, ← hM0]; exact hB4.1
  have hC4 : xP G false S0c H4 := by
    intro k q hq
    have h0 := hC k q hq
    have hlt : q.1 < H2.size := h0.lt
    exact h0.kept ((hk4 q.1 (by omega) (fun h => by have h : s.heap.size + 628 ≤ q.1 := h; omega)).trans (o3 q.1 (by omega)))
  refine lv_astore_n (lv' := [(2, .ref (s.heap.size + 628)), (1, .ref s.heap.size), (0, .ref b)]) hx hb dL_law_15 rfl hl (by decide) rfl (fun ls hl => ?_)
  refine lv_iconst (v := 0) hx hb dL_law_16 (by decide) ?_
  refine lv_istore_n (lv' := [(3, .int 0), (2, .ref (s.heap.size + 628)), (1, .ref s.heap.size), (0, .ref b)]) hx hb dL_law_17 rfl hl (by decide) rfl (fun ls hl => ?_)
  have e10 : G.2.2 10 0 = s.heap.size := hcG 10 0 (kK_mem (by decide) rfl (by decide) (by decide))
  have e200 : G.2.2 200 0 = s.heap.size + 628 := hmG 200 (by decide) (by decide)
  have K : lwK G p s m meth c b L xs := ⟨C0, hK, hR, hcG.xD, hmG.xD, hcG.le, hmG.le⟩
  have hl := lv_sub hl [3, 2, 1, 0] rfl
  refine law_loop K hL ⟨Nat.le_of_ble_eq_true rfl, Nat.le_of_ble_eq_true rfl⟩ L 0 0 0 0 0 (by omega) (by omega) (by omega) H4 locs4 ls S0c (mz, S0m.2) ⟨hC4, hM, hS4⟩ ii_0 ?_
  rw [e10, e200]
  exact hl
