/-! the label's own methods: String.length and charAt over the one literal, which lies outside the world -/
section ZSTR
variable {p : Program} {l : Launch} {e : Env} {R : Room} {s : State} {m : MethodId} {args : Array Value} {below : List Frame} {meth : Method} {c : Code} {H : Heap} {locs : List Loc} {G : xG} {b : Bool} {sz : Nat} {S : Mm} {ls : Array Slot}
theorem x_tret {ty : FieldType} {cells slots nL pc : Nat} {cc : ByteArray} {Ts : List Cond} {own : String} (X : xC G b sz p s m args c cc nL Ts own meth (some ty)) (hW : xW G b sz s H locs S) {r : Int32} {o : Int32 × Mm} (h : (r, S) = o) (hr : narrow ty (.int r) = .int r) (hd : decode cc pc = .ok (.ireturn, 1)) : W p l e R s m args below meth c H locs cells slots (MQ below (xQi G b sz o) args s cells slots (XA G b sz)) (F0 m pc ls [.int r]) :=
  W.zret (v := r) X.1 X.2.1 X.2.2.2.2.2.1 hr (fun t ht hWm => ⟨⟨r, S, rfl, h, by rw [ht]; exact hW.1, va_K.moved hWm.alike X.2.2.2.2.2.2.2.2.1⟩, hW.2.F ht⟩) hW.2.2.2 hd X.2.2.2.2.2.2.1
theorem c_J0_coder (l : Launch) (G : xG) (b : Bool) (hD : xD G b) (sz : Nat) (S : Mm) : Met l yJ0_coder_7d493 wsJ0_coder_7d493 { frames := 0, cells := 0, slots := 0, locals := 0 } (xPre G b S sz [.ref (G.2.2 194 0)]) (xQi G b sz (0, S)) 0 0 (XA G b sz) := by
  refine x_start hD (by decide) rfl (Nat.le_of_ble_eq_true rfl) (fun p e s m below meth c X hW ls hl => ?_)
  have hR := X.2.2.2.2.2.2.2.2.2.2.2.2.2.2
  have hl : lv_has ls 1 [(0, .ref (G.2.2 194 0))] := hl
  refine x_gets X hW hR.2.2.2.2.1 (List.mem_cons_of_mem _ gw871) dJ0_coder_7d493_0 ?_
  refine lv_if_eq X.1 X.2.1 (tgt := 13) dJ0_coder_7d493_3 (by decide) (fun q => absurd q (by decide)) (fun _ => ?_)
  refine lv_aload_n X.1 X.2.1 dJ0_coder_7d493_6 rfl (lv_at hl 0 rfl) ?_
  refine vk_getf X.1 X.2.1 hR.2.1 hW.2 X.2.2.2.1 (X.2.2.2.2.1 _ (List.mem_cons_of_mem _ gw872)) (fun _ h => h) dJ0_coder_7d493_7 ?_
  refine lv_goto (tgt := 14) X.1 X.2.1 dJ0_coder_7d493_10 (by decide) ?_
  exact x_tret X hW rfl rfl dJ0_coder_7d493_14
theorem c_J0_isLatin1 (l : Launch) (G : xG) (b : Bool) (hD : xD G b) (sz : Nat) (S : Mm) : Met l yJ0_isLatin1_aae02 wsJ0_isLatin1_aae02 { frames := 0, cells := 0, slots := 0, locals := 0 } (xPre G b S sz [.ref (G.2.2 194 0)]) (xQi G b sz (1, S)) 0 0 (XA G b sz) := by
  refine x_start hD (by decide) rfl (Nat.le_of_ble_eq_true rfl) (fun p e s m below meth c X hW ls hl => ?_)
  have hR := X.2.2.2.2.2.2.2.2.2.2.2.2.2.2
  have hl : lv_has ls 1 [(0, .ref (G.2.2 194 0))] := hl
  refine x_gets X hW hR.2.2.2.2.1 (List.mem_cons_of_mem _ gw871) dJ0_isLatin1_aae02_0 ?_
  refine lv_if_eq X.1 X.2.1 (tgt := 17) dJ0_isLatin1_aae02_3 (by decide) (fun q => absurd q (by decide)) (fun _ => ?_)
  refine lv_aload_n X.1 X.2.1 dJ0_isLatin1_aae02_6 rfl (lv_at hl 0 rfl) ?_
  refine vk_getf X.1 X.2.1 hR.2.1 hW.2 X.2.2.2.1 (X.2.2.2.2.1 _ (List.mem_cons_of_mem _ gw872)) (fun _ h => h) dJ0_isLatin1_aae02_7 ?_
  refine lv_if_ne X.1 X.2.1 (tgt := 17) dJ0_isLatin1_aae02_10 (by decide) (fun q => absurd rfl q) (fun _ => ?_)
  refine lv_iconst (v := 1) X.1 X.2.1 dJ0_isLatin1_aae02_13 rfl ?_
  refine lv_goto (tgt := 18) X.1 X.2.1 dJ0_isLatin1_aae02_14 (by decide) ?_
  exact x_tret X hW rfl rfl dJ0_isLatin1_aae02_18
theorem x_recS {nL : Nat} {cc : ByteArray} {Ts : List Cond} {own : String} {ret : Option FieldType} (X : xC G b sz p s m args c cc nL Ts own meth ret) (hW : xW G b sz s H locs S) : ∃ cellB : Cell, H[G.2.2 194 0]? = some cellB ∧ cellB.vm.isStatics = false ∧ s.vm.findClass RJ0 = some cellB.cls := by
  obtain ⟨cell, h1, h2, h3, h4⟩ := X.2.2.2.2.2.2.2.2.2.2.2.2.2.2.1
  have hS : va_S (XA G b sz) s.heap H locs := hW.2
  exact ⟨cell, by rw [hS.2.1 _ (Array.getElem?_eq_some_iff.mp h1).1 h4]; exact h1, h2, h3⟩
theorem c_J0_length (l : Launch) (G : xG) (b : Bool) (hD : xD G b) (sz : Nat) (S : Mm) : Met l yJ0_length_8abf5 wsJ0_length_8abf5 { frames := 1, cells := 0, slots := 0, locals := 20 } (xPre G b S sz [.ref (G.2.2 194 0)]) (xQi G b sz (22, S)) 0 0 (XA G b sz) := by
  refine x_start hD (by decide) rfl (Nat.le_of_ble_eq_true rfl) (fun p e s m below meth c X hW ls hl => ?_)
  have hR := X.2.2.2.2.2.2.2.2.2.2.2.2.2.2
  have hl : lv_has ls 1 [(0, .ref (G.2.2 194 0))] := hl
  refine lv_aload_n X.1 X.2.1 dJ0_length_8abf5_0 rfl (lv_at hl 0 rfl) ?_
  refine vk_getf X.1 X.2.1 hR.2.2.1 hW.2 X.2.2.2.1 (X.2.2.2.2.1 _ (List.mem_cons_of_mem _ gw866)) (fun _ h => h) dJ0_length_8abf5_1 ?_
  refine va_tlen X.1 X.2.1 hR.2.2.2.1 hW.2 (v := 22) rfl dJ0_length_8abf5_4 ?_
  refine lv_aload_n X.1 X.2.1 dJ0_length_8abf5_5 rfl (lv_at hl 0 rfl) ?_
  refine x_aftI X hW (x_runV (C := RJ0) (a := G.2.2 194 0) (As := []) (rest := [.int 22]) X hW (c_J0_coder l G b hD _ S) (cwV 0 X.2.2.2.2.1 (gV gw867 gw868 gw869 gw864 gw870) rfl rfl rfl ⟨rfl, hd_J0_coder_7d493⟩ ⟨Nat.le_of_ble_eq_true rfl, Nat.le_of_ble_eq_true rfl⟩) (x_recS X hW) rfl hl.1 rfl (Nat.le_of_ble_eq_true rfl) dJ0_length_8abf5_6 ⟨Nat.zero_le _, Nat.zero_le _⟩) (fun H locs hW => ?_)
  refine lv_ishr X.1 X.2.1 dJ0_length_8abf5_9 ?_
  exact x_iret X hW (congrArg some rfl) dJ0_length_8abf5_10
/-- Preconditions.checkIndex: an index that is in comes back -/
theorem c_J3_checkIndex (l : Launch) (G : xG) (b : Bool) (hD : xD G b) (sz : Nat) (S : Mm) (x n : Int32) (r : Option Nat) (h0 : ¬ x < 0) (h1 : x < n) : Met l yJ3_checkIndex_8e157 wsJ3_checkIndex_8e157 { frames := 0, cells := 0, slots := 0, locals := 0 } (xPre G b S sz [.int x, .int n, va_rf r]) (xQi G b sz (x, S)) 0 0 (XA G b sz) := by
  refine x_start hD (by decide) rfl (by cases r <;> exact Nat.le_of_ble_eq_true rfl) (fun p e s m below meth c X hW ls hl => ?_)
  have hl : lv_has ls 3 [(0, .int x), (1, .int n), (2, va_rf r)] := by cases r <;> exact hl
  refine lv_iload_n X.1 X.2.1 dJ3_checkIndex_8e157_0 rfl (lv_at hl 0 rfl) ?_
  refine lv_if_lt X.1 X.2.1 (tgt := 9) dJ3_checkIndex_8e157_1 (by decide) (fun q => absurd q h0) (fun _ => ?_)
  refine lv_iload_n X.1 X.2.1 dJ3_checkIndex_8e157_4 rfl (lv_at hl 0 rfl) ?_
  refine lv_iload_n X.1 X.2.1 dJ3_checkIndex_8e157_5 rfl (lv_at hl 1 rfl) ?_
  refine lv_icmp_lt X.1 X.2.1 (tgt := 16) dJ3_checkIndex_8e157_6 (by decide) (fun _ => ?_) (fun q => absurd h1 q)
  refine lv_iload_n X.1 X.2.1 dJ3_checkIndex_8e157_16 rfl (lv_at hl 0 rfl) ?_
  exact x_iret X hW rfl dJ3_checkIndex_8e157_17
theorem c_J0_checkIndex (l : Launch) (G : xG) (b : Bool) (hD : xD G b) (sz : Nat) (S : Mm) (x n : Int32) (h0 : ¬ x < 0) (h1 : x < n) : Met l yJ0_checkIndex_df160 wsJ0_checkIndex_df160 { frames := 1, cells := 0, slots := 0, locals := 22 } (xPre G b S sz [.int x, .int n]) (xQv G b sz ((), S)) 0 0 (XA G b sz) := by
  refine x_start hD (by decide) rfl (Nat.le_of_ble_eq_true rfl) (fun p e s m below meth c X hW ls hl => ?_)
  have hR := X.2.2.2.2.2.2.2.2.2.2.2.2.2.2
  have hl : lv_has ls 2 [(0, .int x), (1, .int n)] := hl
  obtain ⟨r, hz⟩ : ∃ r : Option Nat, va_Z "jdk/internal/util/Preconditions" "SIOOBE_FORMATTER" "Ljava/util/function/BiFunction;" (va_rf r) (XA G b sz) s s.heap := by
    rcases hR.2.2.2.2.2.1 with h | ⟨t, h⟩
    · exact ⟨none, h⟩
    · exact ⟨some t, h⟩
  refine lv_iload_n X.1 X.2.1 dJ0_checkIndex_df160_0 rfl (lv_at hl 0 rfl) ?_
  refine lv_iload_n X.1 X.2.1 dJ0_checkIndex_df160_1 rfl (lv_at hl 1 rfl) ?_
  refine x_gets X hW hz (List.mem_cons_of_mem _ gw888) dJ0_checkIndex_df160_2 ?_
  refine x_aftI X hW (x_runS (As := [.int x, .int n, va_rf r]) (rest := []) X hW (c_J3_checkIndex l G b hD _ S x n r h0 h1) (va_cwS 3 X.2.2.2.2.1 (gS gw889 gw890 gw891 gw892) rfl rfl rfl hd_J3_checkIndex_8e157 ⟨Nat.le_of_ble_eq_true rfl, Nat.le_of_ble_eq_true rfl⟩) rfl hl.1 rfl (Nat.le_of_ble_eq_true rfl) dJ0_checkIndex_df160_5 ⟨Nat.zero_le _, Nat.zero_le _⟩) (fun H locs hW => ?_)
  refine lv_pop X.1 X.2.1 dJ0_checkIndex_df160_8 rfl ?_
  exact x_vret X hW rfl dJ0_checkIndex_df160_9
theorem lab_in {i : Nat} (hi : i < 22) : ((((labL.getD i 0) &&& 255).toUInt32 % 65536).toInt32 = labL.getD i 0) ∧ narrow .char (.int (labL.getD i 0)) = .int (labL.getD i 0) := by
  have h : ∀ i, i < 22 → ((((labL.getD i 0) &&& 255).toUInt32 % 65536).toInt32 = labL.getD i 0) ∧ (((labL.getD i 0).toUInt32.toUInt16.toUInt32.toInt32) = labL.getD i 0) := by decide
  obtain ⟨h1, h2⟩ := h i hi
  exact ⟨h1, congrArg Value.int h2⟩
theorem c_J1_charAt (l : Launch) (G : xG) (b : Bool) (hD : xD G b) (sz : Nat) (S : Mm) (i : Nat) (hi : i < 22) : Met l yJ1_charAt_3b067 wsJ1_charAt_3b067 { frames := 2, cells := 0, slots := 0, locals := 43 } (xPre G b S sz [.ref (G.2.2 195 0), .int (nI i)]) (xQi G b sz (labL.getD i 0, S)) 0 0 (XA G b sz) := by
  refine x_start hD (by decide) rfl (Nat.le_of_ble_eq_true rfl) (fun p e s m below meth c X hW ls hl => ?_)
  have hR := X.2.2.2.2.2.2.2.2.2.2.2.2.2.2
  have hl : lv_has ls 2 [(0, .ref (G.2.2 195 0)), (1, .int (nI i))] := hl
  refine lv_iload_n X.1 X.2.1 dJ1_charAt_3b067_0 rfl (lv_at hl 1 rfl) ?_
  refine lv_aload_n X.1 X.2.1 dJ1_charAt_3b067_1 rfl (lv_at hl 0 rfl) ?_
  refine va_tlen X.1 X.2.1 hR.2.2.2.1 hW.2 (v := nI 22) rfl dJ1_charAt_3b067_2 ?_
  refine x_aftV X hW (x_runS (As := [.int (nI i), .int (nI 22)]) (rest := []) X hW (c_J0_checkIndex l G b hD _ S (nI i) (nI 22) (nI_pos (by omega)) (nI_lt hi (by omega))) (va_cwS 2 X.2.2.2.2.1 (gS gw885 gw886 gw864 gw887) rfl rfl rfl hd_J0_checkIndex_df160 ⟨Nat.le_of_ble_eq_true rfl, Nat.le_of_ble_eq_true rfl⟩) rfl hl.1 rfl (Nat.le_of_ble_eq_true rfl) dJ1_charAt_3b067_3 ⟨Nat.zero_le _, Nat.zero_le _⟩) (fun H locs hW => ?_)
  refine lv_aload_n X.1 X.2.1 dJ1_charAt_3b067_6 rfl (lv_at hl 0 rfl) ?_
  refine lv_iload_n X.1 X.2.1 dJ1_charAt_3b067_7 rfl (lv_at hl 1 rfl) ?_
  refine va_tb X.1 X.2.1 hR.2.2.2.1 hW.2 (vp_in_nI hi (by omega)) rfl dJ1_charAt_3b067_8 ?_
  rw [nI_clamp (by omega : i < 2 ^ 31)]
  refine lv_sipush (v := 255) X.1 X.2.1 dJ1_charAt_3b067_9 rfl ?_
  refine lv_iand X.1 X.2.1 dJ1_charAt_3b067_12 ?_
  refine lv_i2c X.1 X.2.1 dJ1_charAt_3b067_13 (lab_in hi).1 ?_
  exact x_tret X hW rfl (lab_in hi).2 dJ1_charAt_3b067_14
theorem c_J0_charAt (l : Launch) (G : xG) (b : Bool) (hD : xD G b) (sz : Nat) (S : Mm) (i : Nat) (hi : i < 22) : Met l yJ0_charAt_5068e wsJ0_charAt_5068e { frames := 3, cells := 0, slots := 0, locals := 64 } (xPre G b S sz [.ref (G.2.2 194 0), .int (nI i)]) (xQi G b sz (labL.getD i 0, S)) 0 0 (XA G b sz) := by
  refine x_start hD (by decide) rfl (Nat.le_of_ble_eq_true rfl) (fun p e s m below meth c X hW ls hl => ?_)
  have hR := X.2.2.2.2.2.2.2.2.2.2.2.2.2.2
  have hl : lv_has ls 2 [(0, .ref (G.2.2 194 0)), (1, .int (nI i))] := hl
  refine lv_aload_n X.1 X.2.1 dJ0_charAt_5068e_0 rfl (lv_at hl 0 rfl) ?_
  refine x_aftI X hW (x_runV (C := RJ0) (a := G.2.2 194 0) (As := []) (rest := []) X hW (c_J0_isLatin1 l G b hD _ S) (cwV 0 X.2.2.2.2.1 (gV gw877 gw878 gw879 gw864 gw880) rfl rfl rfl ⟨rfl, hd_J0_isLatin1_aae02⟩ ⟨Nat.le_of_ble_eq_true rfl, Nat.le_of_ble_eq_true rfl⟩) (x_recS X hW) rfl hl.1 rfl (Nat.le_of_ble_eq_true rfl) dJ0_charAt_5068e_1 ⟨Nat.zero_le _, Nat.zero_le _⟩) (fun H locs hW => ?_)
  refine lv_if_eq X.1 X.2.1 (tgt := 16) dJ0_charAt_5068e_4 (by decide) (fun q => absurd q (by decide)) (fun _ => ?_)
  refine lv_aload_n X.1 X.2.1 dJ0_charAt_5068e_7 rfl (lv_at hl 0 rfl) ?_
  refine vk_getf X.1 X.2.1 hR.2.2.1 hW.2 X.2.2.2.1 (X.2.2.2.2.1 _ (List.mem_cons_of_mem _ gw866)) (fun _ h => h) dJ0_charAt_5068e_8 ?_
  refine lv_iload_n X.1 X.2.1 dJ0_charAt_5068e_11 rfl (lv_at hl 1 rfl) ?_
  refine x_aftI X hW (x_runS (As := [.ref (G.2.2 195 0), .int (nI i)]) (rest := []) X hW (c_J1_charAt l G b hD _ S i hi) (va_cwS 2 X.2.2.2.2.1 (gS gw881 gw882 gw883 gw884) rfl rfl rfl hd_J1_charAt_3b067 ⟨Nat.le_of_ble_eq_true rfl, Nat.le_of_ble_eq_true rfl⟩) rfl hl.1 rfl (Nat.le_of_ble_eq_true rfl) dJ0_charAt_5068e_12 ⟨Nat.zero_le _, Nat.zero_le _⟩) (fun H locs hW => ?_)
  exact x_tret X hW rfl (lab_in hi).2 dJ0_charAt_5068e_15
/-! the three rows of derive -/
variable {cells slots pc : Nat} {rest : List Value} {Q : State → Prop} {nL : Nat} {ret : Option FieldType} {β : Type} {out : β}
theorem x_strLen (X : xC G b sz p s m args c cX10_derive nL wsX10_derive RX10 meth ret) (hW : xW G b sz s H locs S) (hls : ls.size = nL) (hr : (rest.map fun v => v.category).sum ≤ 8) (hR : 2 ≤ R.frames ∧ 40 ≤ R.locals) (hf : cells + 0 ≤ R.cells ∧ slots + 0 ≤ R.slots) {idx : Nat} (hg : GoodIn wsX10_derive (wsV RX10 idx RJ0 yJ0_length_8abf5 wsJ0_length_8abf5)) (hd : decode cX10_derive pc = .ok (.invokevirtual idx, 3)) {K : Int32 → Option β} (h : tp 22 K = some out)
    (kk : ∀ x H1 locs1, K x = some out → xW G b sz s H1 locs1 S → W p l e R s m args below meth c H1 locs1 cells slots Q (F0 m (pc + 3) ls (.int x :: rest))) : W p l e R s m args below meth c H locs cells slots Q (F0 m pc ls (.ref (G.2.2 194 0) :: rest)) :=
  x_aftI X hW (x_runV (C := RJ0) (a := G.2.2 194 0) (As := []) (rest := rest) X hW (c_J0_length l G b X.2.2.2.2.2.2.2.2.2.1 _ S) (cwV 0 X.2.2.2.2.1 hg rfl rfl rfl ⟨rfl, hd_J0_length_8abf5⟩ ⟨hR.1, hR.2⟩) (x_recS X hW) rfl hls rfl hr hd hf) (fun H1 locs1 hW1 => kk 22 H1 locs1 h hW1)
theorem x_strAt (X : xC G b sz p s m args c cX10_derive nL wsX10_derive RX10 meth ret) (hW : xW G b sz s H locs S) (hls : ls.size = nL) (hr : (rest.map fun v => v.category).sum ≤ 8) (hR : 4 ≤ R.frames ∧ 85 ≤ R.locals) (hf : cells + 0 ≤ R.cells ∧ slots + 0 ≤ R.slots) {idx : Nat} (hg : GoodIn wsX10_derive (wsV RX10 idx RJ0 yJ0_charAt_5068e wsJ0_charAt_5068e)) (hd : decode cX10_derive pc = .ok (.invokevirtual idx, 3)) {ix : Int32} {K : Int32 → Option β} (h : gd (inb ix 22 = true) (tp (labL.getD ix.toNatClampNeg 0) K) = some out)
    (kk : ∀ x H1 locs1, K x = some out → xW G b sz s H1 locs1 S → W p l e R s m args below meth c H1 locs1 cells slots Q (F0 m (pc + 3) ls (.int x :: rest))) : W p l e R s m args below meth c H locs cells slots Q (F0 m pc ls (.int ix :: .ref (G.2.2 194 0) :: rest)) := by
  obtain ⟨hg1, h⟩ := if_some h
  obtain ⟨i, hi, rfl⟩ := vp_in_of (inb_iff.mp hg1) (by omega)
  rw [nI_clamp (by omega)] at h
  exact x_aftI X hW (x_runV (C := RJ0) (a := G.2.2 194 0) (As := [.int (nI i)]) (rest := rest) X hW (c_J0_charAt l G b X.2.2.2.2.2.2.2.2.2.1 _ S i hi) (cwV 1 X.2.2.2.2.1 hg rfl rfl rfl ⟨rfl, hd_J0_charAt_5068e⟩ ⟨hR.1, hR.2⟩) (x_recS X hW) rfl hls rfl hr hd hf) (fun H1 locs1 hW1 => kk _ H1 locs1 h hW1)
end ZSTR
