/-! THE LAW'S LOOP -/
theorem lsub10 {L : Nat} (hL : L ≤ 5120) : (Int32.ofNat L - 10).toInt = (L : Int) - 10 := by
  have h1 : (Int32.ofNat L).toInt = (L : Int) := nI_toInt (n := L) (by omega)
  have h2 : (10 : Int32).toInt = 10 := by decide
  rw [Int32.toInt_sub, h1, h2]
  unfold Int.bmod
  simp only
  split <;> omega
theorem lgt10 {i L : Nat} (hi : i ≤ 6000) (hL : L ≤ 5120) : (nI i > Int32.ofNat L - 10) ↔ L < i + 10 := by
  show Int32.ofNat L - 10 < nI i ↔ _
  rw [Int32.lt_iff_toInt_lt, lsub10 hL, nI_toInt (by omega)]
  omega
theorem and31 (x : Int32) : ∃ k, k < 32 ∧ x &&& 31 = nI k := by
  have h : (x &&& 31).toBitVec.toNat = x.toBitVec.toNat % 32 := by
    rw [Int32.toBitVec_and, BitVec.toNat_and]
    exact Nat.and_two_pow_sub_one_eq_mod _ 5
  refine ⟨x.toBitVec.toNat % 32, Nat.mod_lt _ (by decide), ?_⟩
  apply Int32.toBitVec_inj.mp
  apply BitVec.eq_of_toNat_eq
  rw [h]
  show _ = (BitVec.ofNat 32 (x.toBitVec.toNat % 32)).toNat
  rw [BitVec.toNat_ofNat, Nat.mod_eq_of_lt (a := x.toBitVec.toNat % 32)]
  have := Nat.mod_lt x.toBitVec.toNat (show 0 < 32 by decide)
  omega
set_option maxRecDepth 100000 in
set_option maxHeartbeats 4000000 in
theorem law_loop {p : Program} {l : Launch} {e : Env} {s : State} {m : MethodId} {below : List Frame} {meth : Method} {c : Code} {G : xG} {b L : Nat} {xs : Nat → Int32} {cells slots : Nat} (K : lwK G p s m meth c b L xs) (hL : L ≤ 5120) (hf : cells + 0 ≤ room_1.cells ∧ slots + 0 ≤ room_1.slots) : ∀ (n i k0 s0 g0 l0 : Nat), L + 10 ≤ i + 10 * n + 10 → i ≤ L + 10 → 10 * k0 ≤ i → ∀ (H : Heap) (locs : List Loc) (ls : Array Slot) (C M : Mm), lwW G s H locs C M → II k0 s0 g0 l0 C M → lv_has ls 4 [(0, .ref b), (1, .ref (G.2.2 10 0)), (2, .ref (G.2.2 200 0)), (3, .int (nI i))] → W p l e room_1 s m #[Value.ref b] below meth c H locs cells slots (lw_Z below #[Value.ref b] s) (F0 m 18 ls []) := by
  obtain ⟨hx, hb, hr, hml, hown, hts, hX, hbl, hlocks, hgv⟩ := id K.1
  have hbA : ¬ (fun q : Nat => s.heap.size ≤ q) b := Nat.not_le.mpr hbl
  intro n
  induction n with
  | zero =>
    intro i k0 s0 g0 l0 hn hi hk H locs ls C M hW hI hl
    refine lv_iload_n hx hb dL_law_18 rfl (lv_at hl 3 rfl) ?_
    refine lv_aload_n hx hb dL_law_19 rfl (lv_at hl 0 rfl) ?_
    refine va_slen hx hb hX hbl hbA hW.2.2 dL_law_20 ?_
    refine lv_bipush (v := 10) hx hb dL_law_21 (by decide) ?_
    refine lv_isub hx hb dL_law_23 ?_
    refine lv_icmp_gt (tgt := 1336) hx hb dL_law_24 (by decide) (fun _ => ?_) (fun q => absurd ((lgt10 (by omega) hL).mpr (by omega)) q)
    refine lv_iconst (v := 1) hx hb dL_law_1336 (by decide) ?_
    refine va_forget (fun q hq => hW.2.2.2.2 q hq) ?_
    refine W.widen (k := 600000) (n := 7302250) hf.1 hf.2 ?_
    exact lw_ret hx hb hr hlocks dL_law_1337
  | succ n ih =>
    intro i k0 s0 g0 l0 hn hi hk H locs ls C M hW hI hl
    refine lv_iload_n hx hb dL_law_18 rfl (lv_at hl 3 rfl) ?_
    refine lv_aload_n hx hb dL_law_19 rfl (lv_at hl 0 rfl) ?_
    refine va_slen hx hb hX hbl hbA hW.2.2 dL_law_20 ?_
    refine lv_bipush (v := 10) hx hb dL_law_21 (by decide) ?_
    refine lv_isub hx hb dL_law_23 ?_
    refine lv_icmp_gt (tgt := 1336) hx hb dL_law_24 (by decide) (fun _ => ?_) (fun q => ?_)
    · refine lv_iconst (v := 1) hx hb dL_law_1336 (by decide) ?_
      refine va_forget (fun q hq => hW.2.2.2.2 q hq) ?_
      refine W.widen (k := 600000) (n := 7302250) hf.1 hf.2 ?_
      exact lw_ret hx hb hr hlocks dL_law_1337
    have hlt : i + 10 ≤ L := Nat.not_lt.mp fun z => q ((lgt10 (by omega) hL).mpr z)
    have fin0 : ∀ (H1 : Heap) (locs1 : List Loc) (C1 M1 : Mm) (k1 s1 g1 l1 : Nat), lwW G s H1 locs1 C1 M1 → II k1 s1 g1 l1 C1 M1 → k1 ≤ k0 + 1 → W p l e room_1 s m #[Value.ref b] below meth c H1 locs1 cells slots (lw_Z below #[Value.ref b] s) (F0 m 1330 ls []) := by
      intro H1 locs1 C1 M1 k1 s1 g1 l1 hW1 hI1 hk1
      refine lv_iinc (v := nI (i + 10)) (lv' := [(3, .int (nI (i + 10))), (0, .ref b), (1, .ref (G.2.2 10 0)), (2, .ref (G.2.2 200 0))]) hx hb dL_law_1330 hl (k := 3) rfl (nI_add i 10) (by decide) rfl (fun ls hl => ?_)
      refine lv_goto (tgt := 18) hx hb dL_law_1333 (by decide) ?_
      exact ih (i + 10) k1 s1 g1 l1 (by omega) (by omega) (by omega) H1 locs1 ls C1 M1 hW1 hI1 (lv_sub hl [1, 2, 3, 0] rfl)
    have fin : ∀ H1 locs1 C1 M1 s1 g1 l1, lwW G s H1 locs1 C1 M1 → II (k0 + 1) s1 g1 l1 C1 M1 → W p l e room_1 s m #[Value.ref b] below meth c H1 locs1 cells slots (lw_Z below #[Value.ref b] s) (F0 m 1330 ls []) := fun H1 locs1 C1 M1 s1 g1 l1 hW1 hI1 => fin0 H1 locs1 C1 M1 (k0 + 1) s1 g1 l1 hW1 hI1 (Nat.le_refl _)
    refine lv_aload_n hx hb dL_law_27 rfl (lv_at hl 0 rfl) ?_
    refine lv_iload_n hx hb dL_law_28 rfl (lv_at hl 3 rfl) ?_
    refine va_sld hx hb hX hbl hbA hW.2.2 (vp_in_nI (n := i) (by omega) (by omega)) dL_law_29 ?_
    refine lv_bipush (v := 31) hx hb dL_law_30 (by decide) ?_
    refine lv_iand hx hb dL_law_32 ?_
    obtain ⟨k, hk32, ek⟩ := and31 (xs (nI i).toNatClampNeg)
    rw [ek]
    rcases (show k = 0 ∨ k = 1 ∨ k = 2 ∨ k = 3 ∨ k = 4 ∨ k = 5 ∨ k = 6 ∨ k = 7 ∨ k = 8 ∨ k = 9 ∨ k = 10 ∨ k = 11 ∨ k = 12 ∨ k = 13 ∨ k = 14 ∨ k = 15 ∨ k = 16 ∨ k = 17 ∨ k = 18 ∨ k = 19 ∨ k = 20 ∨ k = 21 ∨ k = 22 ∨ k = 23 ∨ k = 24 ∨ k = 25 ∨ k = 26 ∨ k = 27 ∨ k = 28 ∨ k = 29 ∨ k = 30 ∨ k = 31 by omega) with rfl | rfl | rfl | rfl | rfl | rfl | rfl | rfl | rfl | rfl | rfl | rfl | rfl | rfl | rfl | rfl | rfl | rfl | rfl | rfl | rfl | rfl | rfl | rfl | rfl | rfl | rfl | rfl | rfl | rfl | rfl | rfl
    · refine lv_tableIn (tgt := 144) (off := 111) hx hb dL_law_33 (by decide) (by decide) (by decide) (by decide) ?_
      exact lc_feed K hL (by omega) (by omega) hW hI hl hf fin
    · refine lv_tableIn (tgt := 207) (off := 174) hx hb dL_law_33 (by decide) (by decide) (by decide) (by decide) ?_
      exact lc_end K hL (by omega) (by omega) hW hI hl hf fin
    · refine lv_tableIn (tgt := 230) (off := 197) hx hb dL_law_33 (by decide) (by decide) (by decide) (by decide) ?_
      exact lc_alter K hL (by omega) (by omega) hW hI hl hf fin
    · refine lv_tableIn (tgt := 263) (off := 230) hx hb dL_law_33 (by decide) (by decide) (by decide) (by decide) ?_
      exact lc_check K hL (by omega) (by omega) hW hI hl hf fin
    · refine lv_tableIn (tgt := 276) (off := 243) hx hb dL_law_33 (by decide) (by decide) (by decide) (by decide) ?_
      exact lc_copy K hL (by omega) (by omega) hW hI hl hf fin
    · refine lv_tableIn (tgt := 299) (off := 266) hx hb dL_law_33 (by decide) (by decide) (by decide) (by decide) ?_
      exact lc_tape K hL (by omega) (by omega) hW hI hl hf fin
    · refine lv_tableIn (tgt := 322) (off := 289) hx hb dL_law_33 (by decide) (by decide) (by decide) (by decide) ?_
      exact lc_secret K hL (by omega) (by omega) hW hI hl hf fin
    · refine lv_tableIn (tgt := 513) (off := 480) hx hb dL_law_33 (by decide) (by decide) (by decide) (by decide) ?_
      exact lc_known K hL (by omega) (by omega) hW hI hl hf fin
    · refine lv_tableIn (tgt := 704) (off := 671) hx hb dL_law_33 (by decide) (by decide) (by decide) (by decide) ?_
      exact lc_nonce K hL (by omega) (by omega) hW hI hl hf fin
    · refine lv_tableIn (tgt := 895) (off := 862) hx hb dL_law_33 (by decide) (by decide) (by decide) (by decide) ?_
      exact lc_size K hL (by omega) (by omega) hW hI hl hf fin
    · refine lv_tableIn (tgt := 918) (off := 885) hx hb dL_law_33 (by decide) (by decide) (by decide) (by decide) ?_
      exact lc_limit K hL (by omega) (by omega) hW hI hl hf fin
    · refine lv_tableIn (tgt := 941) (off := 908) hx hb dL_law_33 (by decide) (by decide) (by decide) (by decide) ?_
      exact lc_draw K hL (by omega) (by omega) hW hI hl hf fin
    · refine lv_tableIn (tgt := 964) (off := 931) hx hb dL_law_33 (by decide) (by decide) (by decide) (by decide) ?_
      exact lc_noise K hL (by omega) (by omega) hW hI hl hf fin
    · refine lv_tableIn (tgt := 997) (off := 964) hx hb dL_law_33 (by decide) (by decide) (by decide) (by decide) ?_
      exact lc_put K hL (by omega) (by omega) hW hI hl hf fin
    · refine lv_tableIn (tgt := 1020) (off := 987) hx hb dL_law_33 (by decide) (by decide) (by decide) (by decide) ?_
      exact lc_join K hL (by omega) (by omega) hW hI hl hf fin
    · refine lv_tableIn (tgt := 1043) (off := 1010) hx hb dL_law_33 (by decide) (by decide) (by decide) (by decide) ?_
      exact lc_leave K hL (by omega) (by omega) hW hI hl hf fin
    · refine lv_tableIn (tgt := 1076) (off := 1043) hx hb dL_law_33 (by decide) (by decide) (by decide) (by decide) ?_
      exact lc_submit K hL (by omega) (by omega) hW hI hl hf fin
    · refine lv_tableIn (tgt := 1109) (off := 1076) hx hb dL_law_33 (by decide) (by decide) (by decide) (by decide) ?_
      exact lc_go K hL (by omega) (by omega) hW hI hl hf fin
    · refine lv_tableIn (tgt := 1132) (off := 1099) hx hb dL_law_33 (by decide) (by decide) (by decide) (by decide) ?_
      exact lc_ended K hL (by omega) (by omega) hW hI hl hf fin
    · refine lv_tableIn (tgt := 1155) (off := 1122) hx hb dL_law_33 (by decide) (by decide) (by decide) (by decide) ?_
      exact lc_node K hL (by omega) (by omega) hW hI hl hf fin
    · refine lv_tableIn (tgt := 1188) (off := 1155) hx hb dL_law_33 (by decide) (by decide) (by decide) (by decide) ?_
      exact lc_key K hL (by omega) (by omega) hW hI hl hf fin
    · refine lv_tableIn (tgt := 1231) (off := 1198) hx hb dL_law_33 (by decide) (by decide) (by decide) (by decide) ?_
      exact lc_delivered K hL (by omega) (by omega) hW hI hl hf fin
    · refine lv_tableIn (tgt := 1274) (off := 1241) hx hb dL_law_33 (by decide) (by decide) (by decide) (by decide) ?_
      exact lc_air K hL (by omega) (by omega) hW hI hl hf fin
    · refine lv_tableIn (tgt := 1307) (off := 1274) hx hb dL_law_33 (by decide) (by decide) (by decide) (by decide) ?_
      exact lc_count K hL (by omega) (by omega) hW hI hl hf fin
    · refine lv_tableOut (tgt := 1330) hx hb dL_law_33 (by decide) (by decide) ?_
      exact fin0 _ _ _ _ _ _ _ _ hW hI (Nat.le_succ _)
    · refine lv_tableOut (tgt := 1330) hx hb dL_law_33 (by decide) (by decide) ?_
      exact fin0 _ _ _ _ _ _ _ _ hW hI (Nat.le_succ _)
    · refine lv_tableOut (tgt := 1330) hx hb dL_law_33 (by decide) (by decide) ?_
      exact fin0 _ _ _ _ _ _ _ _ hW hI (Nat.le_succ _)
    · refine lv_tableOut (tgt := 1330) hx hb dL_law_33 (by decide) (by decide) ?_
      exact fin0 _ _ _ _ _ _ _ _ hW hI (Nat.le_succ _)
    · refine lv_tableOut (tgt := 1330) hx hb dL_law_33 (by decide) (by decide) ?_
      exact fin0 _ _ _ _ _ _ _ _ hW hI (Nat.le_succ _)
    · refine lv_tableOut (tgt := 1330) hx hb dL_law_33 (by decide) (by decide) ?_
      exact fin0 _ _ _ _ _ _ _ _ hW hI (Nat.le_succ _)
    · refine lv_tableOut (tgt := 1330) hx hb dL_law_33 (by decide) (by decide) ?_
      exact fin0 _ _ _ _ _ _ _ _ hW hI (Nat.le_succ _)
    · refine lv_tableOut (tgt := 1330) hx hb dL_law_33 (by decide) (by decide) ?_
      exact fin0 _ _ _ _ _ _ _ _ hW hI (Nat.le_succ _)
