/-! THE LAW: what is fixed, what moves; reading the script; the two calls of a case -/
def lwK (G : xG) (p : Program) (s : State) (m : MethodId) (meth : Method) (c : Code) (b L : Nat) (xs : Nat → Int32) : Prop :=
  lw_At p s m meth c b L xs ∧ xK G s ∧ xR G (fun q => s.heap.size ≤ q) s ∧ xD G false ∧ xD G true ∧ (∀ q ∈ kK false, s.heap.size ≤ G.2.2 q.1 q.2 ∧ G.2.2 q.1 q.2 < s.heap.size + 628) ∧ (∀ q ∈ kK true, s.heap.size + 628 ≤ G.2.2 q.1 q.2)
def lwW (G : xG) (s : State) (H : Heap) (locs : List Loc) (C M : Mm) : Prop := xP G false C H ∧ xP G true M H ∧ va_S (fun q => s.heap.size ≤ q) s.heap H locs
def lgv (x y : Int32) : Int64 := (x.toInt64 <<< ((32 : Int32).toInt64 &&& 63)) ||| (y.toInt64 &&& 4294967295)
theorem lwK.ts {G : xG} {p : Program} {s : State} {m : MethodId} {meth : Method} {c : Code} {b L : Nat} {xs : Nat → Int32} (K : lwK G p s m meth c b L xs) : ∀ w ∈ (Cond.classLink RL 7 RX11 :: GW), w.before #[Value.ref b] s = true := by
  obtain ⟨-, -, -, -, -, hts, -, -, -, -⟩ := K.1
  intro w hw
  rcases List.mem_cons.mp hw with rfl | h
  · exact hts _ (gwL _ gw0)
  · exact hts _ (gwL _ h)
theorem II.live {c s g l : Nat} {C M : Mm} (h : II c s g l C M) (hc : c < 512) : l < 2 ^ 31 := by
  obtain ⟨h1, h2, h3, -, -, -, -, -, -, -, -, -, -, -, -, -, -, -, -, -, -, -, -, hLiv, -, -, -, -, -, -, -⟩ := h
  have := live_g hLiv (by omega)
  omega
theorem xP.oth {G : xG} {a b : Bool} {S : Mm} {H H1 : Heap} (hP : xP G b S H) (hap : ∀ q ∈ kK a, ∀ q' ∈ kK b, G.2.2 q.1 q.2 ≠ G.2.2 q'.1 q'.2) (hk : ∀ q : Nat, q < H.size → ¬ XA G a H.size q → H1[q]? = H[q]?) : xP G b S H1 := by
  intro k q hq
  have h0 := hP k q hq
  have hz : ∃ z, (kK b)[k]? = some z := by
    cases hz : (kK b)[k]? with
    | none => unfold wl at hq; rw [List.getElem?_map, hz] at hq; cases hq
    | some z => exact ⟨z, rfl⟩
  obtain ⟨z, hz⟩ := hz
  rw [wl_at hz] at hq
  cases hq
  have hlt : G.2.2 z.1 z.2 < H.size := h0.lt
  refine h0.kept (hk _ hlt ?_)
  rintro (⟨y, hy, e⟩ | h)
  · exact hap y hy z (List.mem_of_getElem? hz) e
  · exact absurd hlt (Nat.not_lt.mpr h)
section LROW
variable {p : Program} {l : Launch} {e : Env} {s : State} {m : MethodId} {below : List Frame} {meth : Method} {c : Code} {H : Heap} {locs : List Loc} {cells slots : Nat} {Q : State → Prop}
variable {pc : Nat} {ls : Array Slot} {rest : List Value} {G : xG} {b L : Nat} {xs : Nat → Int32} {C M : Mm}
theorem lw_ld (K : lwK G p s m meth c b L xs) (hW : lwW G s H locs C M) {i k pc2 : Nat} {x1 x2 : Value} (hl : lv_has ls 4 [(0, .ref b), (1, x1), (2, x2), (3, .int (nI i))]) (hk : i + k < L) (hL : L ≤ 5120) (d0 : decode code pc = .ok (.aload_n 0, 1)) (d1 : decode code (pc + 1) = .ok (.iload_n 3, 1)) (hp : ∀ st : List Value, W p l e room_1 s m #[Value.ref b] below meth c H locs cells slots Q (F0 m pc2 ls (.int (nI k) :: st)) → W p l e room_1 s m #[Value.ref b] below meth c H locs cells slots Q (F0 m (pc + 1 + 1) ls st)) (d3 : decode code pc2 = .ok (.iadd, 1)) (d4 : decode code (pc2 + 1) = .ok (.iaload, 1))
    (kk : W p l e room_1 s m #[Value.ref b] below meth c H locs cells slots Q (F0 m (pc2 + 1 + 1) ls (.int (xs (i + k)) :: rest))) : W p l e room_1 s m #[Value.ref b] below meth c H locs cells slots Q (F0 m pc ls rest) := by
  obtain ⟨hx, hb, -, -, hown, hts, hX, hbl, -, -⟩ := K.1
  refine lv_aload_n hx hb d0 rfl (lv_at hl 0 rfl) ?_
  refine lv_iload_n hx hb d1 rfl (lv_at hl 3 rfl) ?_
  refine hp _ ?_
  refine lv_iadd hx hb d3 ?_
  rw [nI_add]
  refine va_sld hx hb hX hbl (Nat.not_le.mpr hbl) hW.2.2 (vp_in_nI hk (by omega)) d4 ?_
  rw [nI_clamp (by omega)]
  exact kk
theorem lw_cC (K : lwK G p s m meth c b L xs) (hW : lwW G s H locs C M) {o : Int32 × Mm} {y : MethodName} {ws : List Cond} {rm : Room} {As st0 : List Value} {n idx maxL : Nat} {bytes : ByteArray} {ret : Option FieldType} (hM : Met l y ws rm (xPre G false C H.size (.ref (G.2.2 10 0) :: As)) (xQi G false H.size o) 0 0 (XA G false H.size)) (cw : CallW room_1 s #[Value.ref b] RL RX11 idx y bytes maxL ret ws rm 0 0 n) (hn : As.length = n) (hls : ls.size = 4) (hst : st0 = As.reverse ++ .ref (G.2.2 10 0) :: rest) (hr : (rest.map fun v => v.category).sum ≤ 8) (hd : decode code pc = .ok (.invokevirtual idx, 3)) (hf : cells + 0 ≤ room_1.cells ∧ slots + 0 ≤ room_1.slots)
    (kk : ∀ H1 locs1, lwW G s H1 locs1 o.2 M → W p l e room_1 s m #[Value.ref b] below meth c H1 locs1 cells slots Q (F0 m (pc + 3) ls (.int o.1 :: rest))) : W p l e room_1 s m #[Value.ref b] below meth c H locs cells slots Q (F0 m pc ls st0) := by
  obtain ⟨⟨hx, hb, -, hml, hown, hts, hX, hbl, -, -⟩, hK, hR, hD0, hD1, hA0, hA1⟩ := K
  have hA : ∀ q ∈ kK false, s.heap.size ≤ G.2.2 q.1 q.2 := fun q hq => (hA0 q hq).1
  have hp := k_pre (B := s.heap.size) hW.1 hW.2.2 hK hR hA (Nat.le_refl _) (.ref (G.2.2 10 0) :: As)
  have hs := k_sub (b := false) (B := s.heap.size) (G := G) hW.2.2 hA (Nat.le_refl _)
  refine va_calli (va_runV (own := RL) (rest := rest) ⟨hx, hb, hml, hown, hts⟩ hM cw ⟨hp.1, k_recv hW.1 hK ob_Cell z_1, hp.2⟩ rfl hn hls hst (lv_room hr) hd hf) hW.2.2 (fun q _ h => hs q h) hs (fun r u t H1 locs1 ht hvm hpo hB hz hk hS1 => ?_)
  subst hpo
  exact kk H1 locs1 ⟨by rw [← ht]; exact hB.1, xP.oth hW.2.1 (fun q hq q' hq' e => by have h1 := (hA0 q hq).2; have h2 := hA1 q' hq'; omega) hk, hS1⟩
theorem lw_cM (K : lwK G p s m meth c b L xs) (hW : lwW G s H locs C M) {o : Int32 × Mm} {y : MethodName} {ws : List Cond} {rm : Room} {As st0 : List Value} {n idx maxL : Nat} {bytes : ByteArray} {ret : Option FieldType} (hM : Met l y ws rm (xPre G true M H.size (.ref (G.2.2 200 0) :: As)) (xQi G true H.size o) 0 0 (XA G true H.size)) (cw : CallW room_1 s #[Value.ref b] RL RX12 idx y bytes maxL ret ws rm 0 0 n) (hn : As.length = n) (hls : ls.size = 4) (hst : st0 = As.reverse ++ .ref (G.2.2 200 0) :: rest) (hr : (rest.map fun v => v.category).sum ≤ 8) (hd : decode code pc = .ok (.invokevirtual idx, 3)) (hf : cells + 0 ≤ room_1.cells ∧ slots + 0 ≤ room_1.slots)
    (kk : ∀ H1 locs1, lwW G s H1 locs1 C o.2 → W p l e room_1 s m #[Value.ref b] below meth c H1 locs1 cells slots Q (F0 m (pc + 3) ls (.int o.1 :: rest))) : W p l e room_1 s m #[Value.ref b] below meth c H locs cells slots Q (F0 m pc ls st0) := by
  obtain ⟨⟨hx, hb, -, hml, hown, hts, hX, hbl, -, -⟩, hK, hR, hD0, hD1, hA0, hA1⟩ := K
  have hA : ∀ q ∈ kK true, s.heap.size ≤ G.2.2 q.1 q.2 := fun q hq => Nat.le_trans (Nat.le_add_right _ _) (hA1 q hq)
  have hp := k_pre (B := s.heap.size) hW.2.1 hW.2.2 hK hR hA (Nat.le_refl _) (.ref (G.2.2 200 0) :: As)
  have hs := k_sub (b := true) (B := s.heap.size) (G := G) hW.2.2 hA (Nat.le_refl _)
  refine va_calli (va_runV (own := RL) (rest := rest) ⟨hx, hb, hml, hown, hts⟩ hM cw ⟨hp.1, k_recv hW.2.1 hK ob_Model z_1, hp.2⟩ rfl hn hls hst (lv_room hr) hd hf) hW.2.2 (fun q _ h => hs q h) hs (fun r u t H1 locs1 ht hvm hpo hB hz hk hS1 => ?_)
  subst hpo
  exact kk H1 locs1 ⟨xP.oth hW.1 (fun q hq q' hq' e => by have h1 := hA1 q hq; have h2 := (hA0 q' hq').2; omega) hk, by rw [← ht]; exact hB.1, hS1⟩
end LROW
