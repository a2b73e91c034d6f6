/-! WirelessCellModel(): its cells made, then its own world -/
section GROWS
variable {p : Program} {l : Launch} {e : Env} {R : Room} {s : State} {m : MethodId} {args : Array Value} {below : List Frame} {meth : Method} {c : Code} {H : Heap} {locs : List Loc} {cells slots : Nat} {Q : State → Prop}
variable {cc : ByteArray} {pc : Nat} {ls : Array Slot} {rest : List Value} {G : xG} {B nL : Nat} {Ts : List Cond} {own : String} {S : Mm} {b : Bool}
theorem k_pre (hP : xP G b S H) (hS : va_S (fun q => B ≤ q) s.heap H locs) (hK : xK G s) (hR : xR G (fun q => B ≤ q) s) (hA : ∀ q ∈ kK b, B ≤ G.2.2 q.1 q.2) (hB : B ≤ s.heap.size) (As : List Value) : PreS s H (xPre G b S H.size As) As := by
  refine ⟨xPre.blind, fun U hU hWm => ⟨rfl, by rw [hU], by rw [hU]; exact hP, va_K.moved hWm.alike hK, xR.move hWm (fun a h1 h2 => by rw [hU]; exact hS.2.1 a h1 h2) (fun q hq => ?_) hR⟩⟩
  rcases hq with ⟨z, hz, rfl⟩ | hq
  · exact hA z hz
  · exact Nat.le_trans hB (Nat.le_trans hS.1 hq)
theorem k_sub (hS : va_S (fun q => B ≤ q) s.heap H locs) (hA : ∀ q ∈ kK b, B ≤ G.2.2 q.1 q.2) (hB : B ≤ s.heap.size) : ∀ q, XA G b H.size q → B ≤ q := by
  intro q hq
  rcases hq with ⟨z, hz, rfl⟩ | hq
  · exact hA z hz
  · exact Nat.le_trans hB (Nat.le_trans hS.1 hq)
theorem k_recv (hP : xP G b S H) (hK : xK G s) {ck mm i : Nat} {C : String} {T : u_T} {N : Nat} (hO : xOb b ck mm C T N) (hi : i < mm) : ∃ cellB : Cell, H[G.2.2 ck i]? = some cellB ∧ cellB.vm.isStatics = false ∧ s.vm.findClass C = some cellB.cls := by
  obtain ⟨h1, h2, h3, h4, h5⟩ := hO
  subst h5
  obtain ⟨q, hq, hw⟩ := xP.ix (G := G) (S := S) (kK_mem h1 h2 (by omega) hi)
  have he : (wl G S b)[q]? = some (G.2.2 ck i, .inr (kn ck, (kf ck).map (fv G S i))) := by rw [hw]; unfold en; rw [if_pos h3]
  exact va_recv hK hP h4 he
def gW (G : xG) (B : Nat) (s : State) (H : Heap) (locs : List Loc) (S : Mm) : Prop := xP G true S H ∧ va_S (fun q => B ≤ q) s.heap H locs
theorem g_getR (X : yC G B p s m args c cc nL Ts own meth) (hW : gW G B s H locs S) {ck k f mm i idx : Nat} {C : String} {T : u_T} {N : Nat} (hF : xFd true ck k 2 f mm C T N) (hin : ∀ w ∈ u_ws C T N, w ∈ Ts) (hl : Cond.fieldLink own idx (T k).1 (T k).2.1 (T k).2.2.1 ∈ Ts) (hi : i < mm) (hd : decode cc pc = .ok (.getfield idx, 3))
    (kk : W p l e R s m args below meth c H locs cells slots Q (F0 m (pc + 3) ls (.ref (G.2.2 f i) :: rest))) : W p l e R s m args below meth c H locs cells slots Q (F0 m pc ls (.ref (G.2.2 ck i) :: rest)) := by
  obtain ⟨h1, h2, h3, h4, h5, h6, h7⟩ := hF
  subst h7
  obtain ⟨q, hq, hw⟩ := xP.ix (G := G) (S := S) (kK_mem h1 h2 (by omega) hi)
  have he : (wl G S true)[q]? = some (G.2.2 ck i, .inr (kn ck, (kf ck).map (fv G S i))) := by rw [hw]; unfold en; rw [if_pos h3]
  exact va_get (v := .ref (G.2.2 f i)) X.1 X.2.1 X.2.2.2.2.1 hin X.2.2.2.1 X.2.2.2.2.2.2.2.2.1 hW.1 q he h4 k h5 (X.2.2.2.2.1 _ hl) (fun _ h => h) (by rw [List.getElem?_map, h6]; rfl) hd kk
theorem g_iast (X : yC G B p s m args c cc nL Ts own meth) (hD : xD G true) (hAA : ∀ q ∈ kK true, B ≤ G.2.2 q.1 q.2) (hW : gW G B s H locs S) {ck n : Nat} {ix v : Int32} (hA : xAr true ck 1 n 1) (hix : vp_in ix n) (hd : decode cc pc = .ok (.iastore, 1))
    (kk : ∀ H1 locs1, gW G B s H1 locs1 (wrI S ck 0 ix.toNatClampNeg v) → W p l e R s m args below meth c H1 locs1 cells slots Q (F0 m (pc + 1) ls rest)) : W p l e R s m args below meth c H locs cells slots Q (F0 m pc ls (.int v :: .int ix :: .ref (G.2.2 ck 0) :: rest)) := by
  obtain ⟨h1, h2, h3, h4, h5⟩ := hA
  obtain ⟨q, hq, hw⟩ := xP.ix (G := G) (S := S) (kK_mem (i := 0) h1 h2 (by omega) (by omega))
  rw [en_int (Or.inl h3), (ka_of h1).1 h3, h4] at hw
  have hD2 : va_D (fun q => B ≤ q) (wl G S true) := by
    refine ⟨(xD.va (sz := 0) hD).1, fun k z hz => ?_⟩
    unfold wl at hz
    rw [List.getElem?_map] at hz
    cases hy : (kK true)[k]? with
    | none => rw [hy] at hz; cases hz
    | some y =>
      rw [hy] at hz
      cases hz
      exact hAA y (List.mem_of_getElem? hy)
  refine va_iast X.1 X.2.1 X.2.2.2.2.2.2.2.2.1 hW.1 hD2 hW.2 q 1 hw rfl hix hd (fun H1 locs1 hP _ hS => kk H1 locs1 ⟨xP.set hq ?_ (fun c' i' hm hn => en_wrA (by omega) hm hn), hS⟩)
  rw [en_int (Or.inl h3), (ka_of h1).1 h3, h4]
  have hf : (wrI S ck 0 ix.toNatClampNeg v).1 ck 0 = upd (S.1 ck 0) ix.toNatClampNeg v := by
    funext d
    show (if ck = ck ∧ 0 = 0 ∧ d = ix.toNatClampNeg then v else S.1 ck 0 d) = if d = ix.toNatClampNeg then v else S.1 ck 0 d
    by_cases hd : d = ix.toNatClampNeg
    · rw [if_pos ⟨rfl, rfl, hd⟩, if_pos hd]
    · rw [if_neg (fun q => hd q.2.2), if_neg hd]
  rw [hf]
  exact hP
end GROWS
theorem cf_X12 {w0 : Cond} : yF RX12 TX12 107 11 tyX12 (w0 :: GW) := ⟨fun w h => List.mem_cons_of_mem _ (gin_X12 w h), tyX12_ok, nmX12, rfl⟩
def df_X12 : List Value := [.int 0, .null, .null, .null, .int 0, .long 0, .null, .null, .null, .null, .null, .null, .null, .null, .null, .null, .null, .null, .int 0, .null, .null, .null, .null, .null, .null, .null, .null, .null, .null, .null, .null, .null, .null, .null, .null, .null, .null, .null, .null, .null, .null, .null, .null, .null, .null, .null, .null, .null, .null, .null, .null, .null, .null, .null, .int 0, .int 0, .null, .int 0, .int 0, .null, .int 0, .null, .int 0, .int 0, .int 0, .int 0, .int 0, .int 0, .int 0, .null, .null, .null, .null, .null, .null, .int 0, .null, .null, .null, .null, .null, .null, .null, .null, .null, .null, .null, .null, .null, .null, .int 0, .null, .null, .null, .int 0, .null, .null, .int 0, .null, .null, .null, .null, .null, .null, .null, .null, .null]
theorem df_X12_ok (B : Nat) : ∀ j, j < 107 → defaultValue (tyX12 j) = vp_V (df_X12.map (shV B)) j := by
  intro j hj
  have h : ∀ x : Nat, x < 107 → defaultValue (tyX12 x) = vp_V df_X12 x := by decide +kernel
  rw [h j hj]
  rfl
/-- the reference's memory when its cells are made -/
def S0m : Mm := (fun c _ _ => if c = 292 then 255 else if c = 293 then 4 else if c = 299 then 3 else 0, fun _ _ _ => 0, fun _ _ _ => 0)
def mF : List Value := (kf 200).map (fun q => if q.1 = 0 then .int (S0m.1 q.2 0 0) else if q.1 = 1 then .long 0 else .ref (q.2 - 200))
def mN : List pE := (List.range 87).map (fun j => pA (ka (201 + j)) (kn (201 + j)))
def mG (G : xG) (B : Nat) : Prop := ∀ c, 200 ≤ c → c < 288 → G.2.2 c 0 = B + (c - 200)
theorem kK_t {c i : Nat} (h : (c, i) ∈ kK true) : 200 ≤ c ∧ c < 288 ∧ i = 0 := by
  obtain ⟨h1, h2, h3, h4⟩ := kK_of h
  have hd : ∀ c, c < 400 → sd c = true → kt c < 5 → 200 ≤ c ∧ c < 288 ∧ kc c = 1 := by decide +kernel
  obtain ⟨a, b, d⟩ := hd c h1 h2 h3
  exact ⟨a, b, by omega⟩
theorem mG.le {G : xG} {B : Nat} (h : mG G B) : ∀ q ∈ kK true, B ≤ G.2.2 q.1 q.2 := by
  intro q hq
  obtain ⟨c, i⟩ := q
  obtain ⟨a, b, rfl⟩ := kK_t hq
  show B ≤ G.2.2 c 0
  rw [h c a b]
  exact Nat.le_add_right _ _
theorem kKt_ix : ∀ i : Nat, i < 88 → (kK true)[i]? = some (200 + i, 0) := by decide +kernel
theorem kKt_len : (kK true).length = 88 := by decide +kernel
theorem mG.xD {G : xG} {B : Nat} (h : mG G B) : xD G true := by
  intro i j q q' hi hj he
  have li := (List.getElem?_eq_some_iff.mp hi).1
  have lj := (List.getElem?_eq_some_iff.mp hj).1
  rw [kKt_len] at li lj
  rw [kKt_ix i li] at hi
  rw [kKt_ix j lj] at hj
  cases hi
  cases hj
  have he : G.2.2 (200 + i) 0 = G.2.2 (200 + j) 0 := he
  rw [h _ (by omega) (by omega), h _ (by omega) (by omega)] at he
  omega
theorem m_xP {G : xG} {B : Nat} {H : Heap} (hG : mG G B) (hv : vL G B (.inr (11, mF) :: mN) H) : xP G true S0m H := by
  intro k q hq
  have hk : k < 88 := by
    have := (List.getElem?_eq_some_iff.mp hq).1
    unfold wl at this
    rw [List.length_map, kKt_len] at this
    exact this
  rw [wl_at (kKt_ix k hk)] at hq
  cases hq
  show va_at G.1 vwCl (G.2.2 (200 + k) 0, en G S0m (200 + k) 0) H
  rw [hG _ (by omega) (by omega), show 200 + k - 200 = k by omega]
  by_cases h0 : k = 0
  · subst h0
    have h := hv.2 0 _ rfl
    have e1 : pt G B (.inr (11, mF)) = en G S0m (200 + 0) 0 := by
      unfold en
      rw [if_pos (show kt (200 + 0) = 0 by decide)]
      show (.inr (11, mF.map (shV B)) : va_E) = .inr (kn (200 + 0), (kf (200 + 0)).map (fv G S0m 0))
      unfold mF
      rw [List.map_map]
      congr 2
      apply List.map_congr_left
      intro q hq
      have hd : ∀ q ∈ kf 200, q.1 = 0 ∨ q.1 = 1 ∨ (q.1 = 2 ∧ 200 ≤ q.2 ∧ q.2 < 288) := by decide +kernel
      show shV B (if q.1 = 0 then .int (S0m.1 q.2 0 0) else if q.1 = 1 then .long 0 else .ref (q.2 - 200)) = fv G S0m 0 q
      unfold fv
      rcases hd q hq with z | z | ⟨z, z1, z2⟩
      · rw [if_pos z, if_pos z]
        rfl
      · rw [if_neg (by omega), if_pos z, if_neg (by omega), if_pos z]
        rfl
      · rw [if_neg (by omega), if_neg (by omega), if_neg (by omega), if_neg (by omega), hG _ z1 z2]
        rfl
    rw [← e1]
    exact h
  · have h := hv.2 k (pA (ka (200 + k)) (kn (200 + k))) (by
      obtain ⟨j, rfl⟩ : ∃ j, k = j + 1 := ⟨k - 1, by omega⟩
      show mN[j]? = _
      unfold mN
      rw [List.getElem?_map, List.getElem?_range (by omega), show 200 + (j + 1) = 201 + j by omega]
      rfl)
    have hd : ∀ k : Nat, k < 88 → k = 0 ∨ (kt (200 + k) = 1 ∧ ka (200 + k) = 1) ∨ (kt (200 + k) = 2 ∧ ka (200 + k) = 2) ∨ (kt (200 + k) = 3 ∧ ka (200 + k) = 3) := by decide +kernel
    have hz : S0m.1 (200 + k) 0 = fun _ => 0 := by
      funext j
      show (if 200 + k = 292 then (255 : Int32) else if 200 + k = 293 then 4 else if 200 + k = 299 then 3 else 0) = 0
      rw [if_neg (by omega), if_neg (by omega), if_neg (by omega)]
    have e1 : pt G B (pA (ka (200 + k)) (kn (200 + k))) = en G S0m (200 + k) 0 := by
      unfold en
      rw [hz]
      rcases hd k hk with z | ⟨z, y⟩ | ⟨z, y⟩ | ⟨z, y⟩
      · exact absurd z h0
      · rw [z, y]; rfl
      · rw [z, y]; rfl
      · rw [z, y]; rfl
    rw [← e1]
    exact h
def mIt (S : Mm) (i : Nat) : Mm := wrI (wrI (wrI (wrI S 218 0 i 1) 219 0 i 1) 249 0 i 7) 254 0 i (-1)
def mI (S : Mm) (i : Nat) : Mm := (List.range i).foldl mIt S
theorem mI_s (S : Mm) (i : Nat) : mI S (i + 1) = mIt (mI S i) i := by unfold mI; rw [List.range_succ, List.foldl_append]; rfl
def mPre (G : xG) (B : Nat) (av : List Value) : Array Value → State → Prop := fun a U => yPre G B [.inr (11, df_X12)] av a U ∧ xR G (fun q => B ≤ q) U
def rmX12_init : Room := { frames := 3, cells := 87, slots := 166410, locals := 68 }
set_option maxRecDepth 100000 in
set_option maxHeartbeats 4000000 in
theorem w_X12_loop {p : Program} {l : Launch} {e : Env} {s : State} {m : MethodId} {args : Array Value} {below : List Frame} {meth : Method} {c : Code} {G : xG} {B : Nat} {S : Mm} (X : yC G B p s m args c cX12_init 2 wsX12_init RX12 meth) (hG : mG G B) : ∀ (k i : Nat), i + k = 9 → ∀ (H : Heap) (locs : List Loc) (ls : Array Slot), gW G B s H locs (mI S i) → lv_has ls 2 [(0, .ref (G.2.2 200 0)), (1, .int (Int32.ofNat i))] → W p l e rmX12_init s m args below meth c H locs 87 166410 (MQ below (va_Qv (fun u : Mm => u = mI S 9) (xB G true) (fun q => B ≤ q)) args s 87 166410 (fun q => B ≤ q)) (F0 m 746 ls []) := by
  intro k
  induction k with
  | zero =>
    intro i hi H locs ls hW hl
    have h9 : i = 9 := by omega
    subst h9
    refine lv_iload_n X.1 X.2.1 dX12_init_746 rfl (lv_at hl 1 rfl) ?_
    refine lv_bipush (v := 9) X.1 X.2.1 dX12_init_747 rfl ?_
    refine lv_icmp_ge (tgt := 787) X.1 X.2.1 dX12_init_749 (by decide) (fun _ => ?_) (fun q => absurd (by decide) q)
    exact W.vret X.1 X.2.1 X.2.2.2.2.2.1 (fun t ht hWm => ⟨⟨_, rfl, rfl, by rw [ht]; exact hW.1, va_K.moved hWm.alike X.2.2.2.2.2.2.2.2.1⟩, hW.2.F ht⟩) hW.2.2.2 dX12_init_787 X.2.2.2.2.2.2.1
  | succ k ih =>
    intro i hi H locs ls hW hl
    obtain ⟨-, f2, f3, f4⟩ := i9 i (by omega)
    have hin : vp_in (Int32.ofNat i) 9 := fun q => q.elim f3 (fun z => by rw [f2] at z; omega)
    have hD := hG.xD
    have hA := hG.le
    refine lv_iload_n X.1 X.2.1 dX12_init_746 rfl (lv_at hl 1 rfl) ?_
    refine lv_bipush (v := 9) X.1 X.2.1 dX12_init_747 rfl ?_
    refine lv_icmp_ge (tgt := 787) X.1 X.2.1 dX12_init_749 (by decide) (fun q => absurd q (i8 i (by omega))) (fun _ => ?_)
    refine lv_aload_n X.1 X.2.1 dX12_init_752 rfl (lv_at hl 0 rfl) ?_
    refine g_getR X hW fd_Model_state cf_X12.1 (List.mem_cons_of_mem _ gw168) z_1 dX12_init_753 ?_
    refine lv_iload_n X.1 X.2.1 dX12_init_756 rfl (lv_at hl 1 rfl) ?_
    refine lv_iconst (v := 1) X.1 X.2.1 dX12_init_757 rfl ?_
    refine g_iast X hD hA hW ar_218 hin dX12_init_758 (fun H locs hW => ?_)
    refine lv_aload_n X.1 X.2.1 dX12_init_759 rfl (lv_at hl 0 rfl) ?_
    refine g_getR X hW fd_Model_asState cf_X12.1 (List.mem_cons_of_mem _ gw169) z_1 dX12_init_760 ?_
    refine lv_iload_n X.1 X.2.1 dX12_init_763 rfl (lv_at hl 1 rfl) ?_
    refine lv_iconst (v := 1) X.1 X.2.1 dX12_init_764 rfl ?_
    refine g_iast X hD hA hW ar_219 hin dX12_init_765 (fun H locs hW => ?_)
    refine lv_aload_n X.1 X.2.1 dX12_init_766 rfl (lv_at hl 0 rfl) ?_
    refine g_getR X hW fd_Model_cw cf_X12.1 (List.mem_cons_of_mem _ gw200) z_1 dX12_init_767 ?_
    refine lv_iload_n X.1 X.2.1 dX12_init_770 rfl (lv_at hl 1 rfl) ?_
    refine lv_bipush (v := 7) X.1 X.2.1 dX12_init_771 rfl ?_
    refine g_iast X hD hA hW ar_249 hin dX12_init_773 (fun H locs hW => ?_)
    refine lv_aload_n X.1 X.2.1 dX12_init_774 rfl (lv_at hl 0 rfl) ?_
    refine g_getR X hW fd_Model_sending cf_X12.1 (List.mem_cons_of_mem _ gw208) z_1 dX12_init_775 ?_
    refine lv_iload_n X.1 X.2.1 dX12_init_778 rfl (lv_at hl 1 rfl) ?_
    refine lv_iconst (v := -1) X.1 X.2.1 dX12_init_779 rfl ?_
    refine g_iast X hD hA hW ar_254 hin dX12_init_780 (fun H locs hW => ?_)
    refine lv_iinc (v := Int32.ofNat (i + 1)) (lv' := [(1, .int (Int32.ofNat (i + 1))), (0, .ref (G.2.2 200 0))]) X.1 X.2.1 dX12_init_781 hl (k := 1) rfl f4 (by decide) rfl (fun ls hl => ?_)
    refine lv_goto (tgt := 746) X.1 X.2.1 dX12_init_784 (by decide) ?_
    refine ih (i + 1) (by omega) _ _ _ ?_ (lv_sub hl [1, 0] rfl)
    rw [mI_s]
    rw [f2] at hW
    exact hW
set_option maxRecDepth 100000 in
set_option maxHeartbeats 4000000 in
theorem c_X12_init (l : Launch) (G : xG) (B : Nat) (hG : mG G B) (S1 : Mm) (hb : F_X12_findBoxes S0m = some ((), S1)) : Met l yX12_init wsX12_init rmX12_init (mPre G B [.ref (B + 0)]) (va_Qv (fun u : Mm => u = mI S1 9) (xB G true) (fun q => B ≤ q)) 87 166410 (fun q => B ≤ q) := by
  refine Met.ofW (cc := cX12_init) (maxL := 2) (ret := none) (by decide) rfl ?_
  intro p e s m args below meth c s₁ BB hml hv
  obtain ⟨⟨rfl, hP, hK, hN⟩, hR⟩ := hv
  rw [lg_entry_eq]
  have hBs : B ≤ s.heap.size := by rw [hP.1]; exact Nat.le_add_right _ _
  have X : yC G B p s m [Value.ref (B + 0)].toArray c cX12_init 2 wsX12_init RX12 meth := ⟨BB.exec, BB.bytes, hml, findClass_of_methodNamed BB.named, atoms_spec (ws := wsX12_init) BB.pre, BB.returns, BB.notSynchronized, (name_of_methodNamed BB.named BB.method).1.trans rfl, hK, hBs, hN⟩
  have hl := lv_entry [.ref (B + 0)] (n := 2) (Nat.le_of_ble_eq_true rfl)
  generalize (lg_sl ([.ref (B + 0)]) ++ List.replicate (2 - (lg_sl ([.ref (B + 0)])).length) Slot.unset).toArray = ls at hl ⊢
  have hl : lv_has ls 2 [(0, .ref (B + 0))] := hl
  have h0 : ls[0]? = some (.val (.ref (B + 0))) := lv_at hl 0 rfl
  have ht : 0 < ([.inr (11, df_X12)] : List pE).length := Nat.zero_lt_one
  have hW : yW G B s s.heap [] (zl [.inr (11, df_X12)] 0 11 df_X12 []) := ⟨hP, va_S.rf⟩
  have hfl : df_X12.length = 107 := rfl
  have hNl : ([] : List pE).length = 0 := rfl
  refine z_obj X (List.mem_cons_of_mem _ gw150) (List.mem_cons_of_mem _ gw11) (List.mem_cons_of_mem _ gw12) hl h0 ⟨Nat.le_of_ble_eq_true rfl, Nat.le_of_ble_eq_true rfl⟩ dX12_init_0 dX12_init_1 ?_
  refine z_na (pc2 := 6) X cf_X12 ht hfl hNl hW h0 dX12_init_4 (fun _ h => lv_iconst (v := 5) X.1 X.2.1 dX12_init_5 rfl h) (List.mem_cons_of_mem _ gw38) rfl (Or.inl ⟨rfl, rfl⟩) (a := 1) (N' := 5) (by decide) (by decide) (by decide) (cells' := 1) (slots' := 5) rfl rfl (Nat.le_of_ble_eq_true rfl) (Nat.le_of_ble_eq_true rfl) dX12_init_6 1 (by decide) (by decide) (List.mem_cons_of_mem _ gw151) rfl (fun _ => rfl) (fun _ => rfl) dX12_init_8 (fun H locs hfl hNl hW => ?_)
  refine z_na (pc2 := 14) X cf_X12 ht hfl hNl hW h0 dX12_init_11 (fun _ h => lv_bipush (v := 80) X.1 X.2.1 dX12_init_12 rfl h) (List.mem_cons_of_mem _ gw38) rfl (Or.inl ⟨rfl, rfl⟩) (a := 1) (N' := 80) (by decide) (by decide) (by decide) (cells' := 2) (slots' := 85) rfl rfl (Nat.le_of_ble_eq_true rfl) (Nat.le_of_ble_eq_true rfl) dX12_init_14 2 (by decide) (by decide) (List.mem_cons_of_mem _ gw152) rfl (fun _ => rfl) (fun _ => rfl) dX12_init_16 (fun H locs hfl hNl hW => ?_)
  refine z_na (pc2 := 22) X cf_X12 ht hfl hNl hW h0 dX12_init_19 (fun _ h => lv_bipush (v := 64) X.1 X.2.1 dX12_init_20 rfl h) (List.mem_cons_of_mem _ gw38) rfl (Or.inl ⟨rfl, rfl⟩) (a := 1) (N' := 64) (by decide) (by decide) (by decide) (cells' := 3) (slots' := 149) rfl rfl (Nat.le_of_ble_eq_true rfl) (Nat.le_of_ble_eq_true rfl) dX12_init_22 3 (by decide) (by decide) (List.mem_cons_of_mem _ gw153) rfl (fun _ => rfl) (fun _ => rfl) dX12_init_24 (fun H locs hfl hNl hW => ?_)
  refine z_na (pc2 := 30) X cf_X12 ht hfl hNl hW h0 dX12_init_27 (fun _ h => lv_bipush (v := 20) X.1 X.2.1 dX12_init_28 rfl h) (List.mem_cons_of_mem _ gw38) rfl (Or.inl ⟨rfl, rfl⟩) (a := 1) (N' := 20) (by decide) (by decide) (by decide) (cells' := 4) (slots' := 169) rfl rfl (Nat.le_of_ble_eq_true rfl) (Nat.le_of_ble_eq_true rfl) dX12_init_30 6 (by decide) (by decide) (List.mem_cons_of_mem _ gw154) rfl (fun _ => rfl) (fun _ => rfl) dX12_init_32 (fun H locs hfl hNl hW => ?_)
  refine z_na (pc2 := 38) X cf_X12 ht hfl hNl hW h0 dX12_init_35 (fun _ h => lv_bipush (v := 64) X.1 X.2.1 dX12_init_36 rfl h) (List.mem_cons_of_mem _ gw38) rfl (Or.inl ⟨rfl, rfl⟩) (a := 1) (N' := 64) (by decide) (by decide) (by decide) (cells' := 5) (slots' := 233) rfl rfl (Nat.le_of_ble_eq_true rfl) (Nat.le_of_ble_eq_true rfl) dX12_init_38 7 (by decide) (by decide) (List.mem_cons_of_mem _ gw155) rfl (fun _ => rfl) (fun _ => rfl) dX12_init_40 (fun H locs hfl hNl hW => ?_)
  refine z_na (pc2 := 46) X cf_X12 ht hfl hNl hW h0 dX12_init_43 (fun _ h => lv_bipush (v := 20) X.1 X.2.1 dX12_init_44 rfl h) (List.mem_cons_of_mem _ gw38) rfl (Or.inl ⟨rfl, rfl⟩) (a := 1) (N' := 20) (by decide) (by decide) (by decide) (cells' := 6) (slots' := 253) rfl rfl (Nat.le_of_ble_eq_true rfl) (Nat.le_of_ble_eq_true rfl) dX12_init_46 8 (by decide) (by decide) (List.mem_cons_of_mem _ gw156) rfl (fun _ => rfl) (fun _ => rfl) dX12_init_48 (fun H locs hfl hNl hW => ?_)
  refine z_na (pc2 := 55) X cf_X12 ht hfl hNl hW h0 dX12_init_51 (fun _ h => lv_sipush (v := 256) X.1 X.2.1 dX12_init_52 rfl h) (List.mem_cons_of_mem _ gw38) rfl (Or.inl ⟨rfl, rfl⟩) (a := 1) (N' := 256) (by decide) (by decide) (by decide) (cells' := 7) (slots' := 509) rfl rfl (Nat.le_of_ble_eq_true rfl) (Nat.le_of_ble_eq_true rfl) dX12_init_55 9 (by decide) (by decide) (List.mem_cons_of_mem _ gw157) rfl (fun _ => rfl) (fun _ => rfl) dX12_init_57 (fun H locs hfl hNl hW => ?_)
  refine z_na (pc2 := 64) X cf_X12 ht hfl hNl hW h0 dX12_init_60 (fun _ h => lv_sipush (v := 176) X.1 X.2.1 dX12_init_61 rfl h) (List.mem_cons_of_mem _ gw38) rfl (Or.inl ⟨rfl, rfl⟩) (a := 1) (N' := 176) (by decide) (by decide) (by decide) (cells' := 8) (slots' := 685) rfl rfl (Nat.le_of_ble_eq_true rfl) (Nat.le_of_ble_eq_true rfl) dX12_init_64 10 (by decide) (by decide) (List.mem_cons_of_mem _ gw158) rfl (fun _ => rfl) (fun _ => rfl) dX12_init_66 (fun H locs hfl hNl hW => ?_)
  refine z_na (pc2 := 72) X cf_X12 ht hfl hNl hW h0 dX12_init_69 (fun _ h => lv_bipush (v := 16) X.1 X.2.1 dX12_init_70 rfl h) (List.mem_cons_of_mem _ gw38) rfl (Or.inl ⟨rfl, rfl⟩) (a := 1) (N' := 16) (by decide) (by decide) (by decide) (cells' := 9) (slots' := 701) rfl rfl (Nat.le_of_ble_eq_true rfl) (Nat.le_of_ble_eq_true rfl) dX12_init_72 11 (by decide) (by decide) (List.mem_cons_of_mem _ gw159) rfl (fun _ => rfl) (fun _ => rfl) dX12_init_74 (fun H locs hfl hNl hW => ?_)
  refine z_na (pc2 := 80) X cf_X12 ht hfl hNl hW h0 dX12_init_77 (fun _ h => lv_bipush (v := 16) X.1 X.2.1 dX12_init_78 rfl h) (List.mem_cons_of_mem _ gw38) rfl (Or.inl ⟨rfl, rfl⟩) (a := 1) (N' := 16) (by decide) (by decide) (by decide) (cells' := 10) (slots' := 717) rfl rfl (Nat.le_of_ble_eq_true rfl) (Nat.le_of_ble_eq_true rfl) dX12_init_80 12 (by decide) (by decide) (List.mem_cons_of_mem _ gw160) rfl (fun _ => rfl) (fun _ => rfl) dX12_init_82 (fun H locs hfl hNl hW => ?_)
  refine z_na (pc2 := 88) X cf_X12 ht hfl hNl hW h0 dX12_init_85 (fun _ h => lv_bipush (v := 13) X.1 X.2.1 dX12_init_86 rfl h) (List.mem_cons_of_mem _ gw38) rfl (Or.inl ⟨rfl, rfl⟩) (a := 1) (N' := 13) (by decide) (by decide) (by decide) (cells' := 11) (slots' := 730) rfl rfl (Nat.le_of_ble_eq_true rfl) (Nat.le_of_ble_eq_true rfl) dX12_init_88 13 (by decide) (by decide) (List.mem_cons_of_mem _ gw161) rfl (fun _ => rfl) (fun _ => rfl) dX12_init_90 (fun H locs hfl hNl hW => ?_)
  refine z_na (pc2 := 96) X cf_X12 ht hfl hNl hW h0 dX12_init_93 (fun _ h => lv_bipush (v := 16) X.1 X.2.1 dX12_init_94 rfl h) (List.mem_cons_of_mem _ gw38) rfl (Or.inl ⟨rfl, rfl⟩) (a := 1) (N' := 16) (by decide) (by decide) (by decide) (cells' := 12) (slots' := 746) rfl rfl (Nat.le_of_ble_eq_true rfl) (Nat.le_of_ble_eq_true rfl) dX12_init_96 14 (by decide) (by decide) (List.mem_cons_of_mem _ gw162) rfl (fun _ => rfl) (fun _ => rfl) dX12_init_98 (fun H locs hfl hNl hW => ?_)
  refine z_na (pc2 := 104) X cf_X12 ht hfl hNl hW h0 dX12_init_101 (fun _ h => lv_bipush (v := 16) X.1 X.2.1 dX12_init_102 rfl h) (List.mem_cons_of_mem _ gw38) rfl (Or.inl ⟨rfl, rfl⟩) (a := 1) (N' := 16) (by decide) (by decide) (by decide) (cells' := 13) (slots' := 762) rfl rfl (Nat.le_of_ble_eq_true rfl) (Nat.le_of_ble_eq_true rfl) dX12_init_104 15 (by decide) (by decide) (List.mem_cons_of_mem _ gw163) rfl (fun _ => rfl) (fun _ => rfl) dX12_init_106 (fun H locs hfl hNl hW => ?_)
  refine z_na (pc2 := 112) X cf_X12 ht hfl hNl hW h0 dX12_init_109 (fun _ h => lv_bipush (v := 8) X.1 X.2.1 dX12_init_110 rfl h) (List.mem_cons_of_mem _ gw38) rfl (Or.inl ⟨rfl, rfl⟩) (a := 1) (N' := 8) (by decide) (by decide) (by decide) (cells' := 14) (slots' := 770) rfl rfl (Nat.le_of_ble_eq_true rfl) (Nat.le_of_ble_eq_true rfl) dX12_init_112 16 (by decide) (by decide) (List.mem_cons_of_mem _ gw164) rfl (fun _ => rfl) (fun _ => rfl) dX12_init_114 (fun H locs hfl hNl hW => ?_)
  refine z_na (pc2 := 121) X cf_X12 ht hfl hNl hW h0 dX12_init_117 (fun _ h => lv_sipush (v := 300) X.1 X.2.1 dX12_init_118 rfl h) (List.mem_cons_of_mem _ gw38) rfl (Or.inl ⟨rfl, rfl⟩) (a := 1) (N' := 300) (by decide) (by decide) (by decide) (cells' := 15) (slots' := 1070) rfl rfl (Nat.le_of_ble_eq_true rfl) (Nat.le_of_ble_eq_true rfl) dX12_init_121 17 (by decide) (by decide) (List.mem_cons_of_mem _ gw165) rfl (fun _ => rfl) (fun _ => rfl) dX12_init_123 (fun H locs hfl hNl hW => ?_)
  refine z_na (pc2 := 130) X cf_X12 ht hfl hNl hW h0 dX12_init_126 (fun _ h => lv_sipush (v := 576) X.1 X.2.1 dX12_init_127 rfl h) (List.mem_cons_of_mem _ gw38) rfl (Or.inl ⟨rfl, rfl⟩) (a := 1) (N' := 576) (by decide) (by decide) (by decide) (cells' := 16) (slots' := 1646) rfl rfl (Nat.le_of_ble_eq_true rfl) (Nat.le_of_ble_eq_true rfl) dX12_init_130 19 (by decide) (by decide) (List.mem_cons_of_mem _ gw166) rfl (fun _ => rfl) (fun _ => rfl) dX12_init_132 (fun H locs hfl hNl hW => ?_)
  refine z_na (pc2 := 139) X cf_X12 ht hfl hNl hW h0 dX12_init_135 (fun _ h => lv_sipush (v := 288) X.1 X.2.1 dX12_init_136 rfl h) (List.mem_cons_of_mem _ gw38) rfl (Or.inl ⟨rfl, rfl⟩) (a := 1) (N' := 288) (by decide) (by decide) (by decide) (cells' := 17) (slots' := 1934) rfl rfl (Nat.le_of_ble_eq_true rfl) (Nat.le_of_ble_eq_true rfl) dX12_init_139 20 (by decide) (by decide) (List.mem_cons_of_mem _ gw167) rfl (fun _ => rfl) (fun _ => rfl) dX12_init_141 (fun H locs hfl hNl hW => ?_)
  refine z_na (pc2 := 147) X cf_X12 ht hfl hNl hW h0 dX12_init_144 (fun _ h => lv_bipush (v := 9) X.1 X.2.1 dX12_init_145 rfl h) (List.mem_cons_of_mem _ gw38) rfl (Or.inl ⟨rfl, rfl⟩) (a := 1) (N' := 9) (by decide) (by decide) (by decide) (cells' := 18) (slots' := 1943) rfl rfl (Nat.le_of_ble_eq_true rfl) (Nat.le_of_ble_eq_true rfl) dX12_init_147 21 (by decide) (by decide) (List.mem_cons_of_mem _ gw168) rfl (fun _ => rfl) (fun _ => rfl) dX12_init_149 (fun H locs hfl hNl hW => ?_)
  refine z_na (pc2 := 155) X cf_X12 ht hfl hNl hW h0 dX12_init_152 (fun _ h => lv_bipush (v := 9) X.1 X.2.1 dX12_init_153 rfl h) (List.mem_cons_of_mem _ gw38) rfl (Or.inl ⟨rfl, rfl⟩) (a := 1) (N' := 9) (by decide) (by decide) (by decide) (cells' := 19) (slots' := 1952) rfl rfl (Nat.le_of_ble_eq_true rfl) (Nat.le_of_ble_eq_true rfl) dX12_init_155 22 (by decide) (by decide) (List.mem_cons_of_mem _ gw169) rfl (fun _ => rfl) (fun _ => rfl) dX12_init_157 (fun H locs hfl hNl hW => ?_)
  refine z_na (pc2 := 163) X cf_X12 ht hfl hNl hW h0 dX12_init_160 (fun _ h => lv_bipush (v := 9) X.1 X.2.1 dX12_init_161 rfl h) (List.mem_cons_of_mem _ gw58) rfl (Or.inr (Or.inl ⟨rfl, rfl⟩)) (a := 2) (N' := 9) (by decide) (by decide) (by decide) (cells' := 20) (slots' := 1961) rfl rfl (Nat.le_of_ble_eq_true rfl) (Nat.le_of_ble_eq_true rfl) dX12_init_163 23 (by decide) (by decide) (List.mem_cons_of_mem _ gw170) rfl (fun _ => rfl) (fun _ => rfl) dX12_init_165 (fun H locs hfl hNl hW => ?_)
  refine z_na (pc2 := 172) X cf_X12 ht hfl hNl hW h0 dX12_init_168 (fun _ h => lv_sipush (v := 288) X.1 X.2.1 dX12_init_169 rfl h) (List.mem_cons_of_mem _ gw38) rfl (Or.inl ⟨rfl, rfl⟩) (a := 1) (N' := 288) (by decide) (by decide) (by decide) (cells' := 21) (slots' := 2249) rfl rfl (Nat.le_of_ble_eq_true rfl) (Nat.le_of_ble_eq_true rfl) dX12_init_172 24 (by decide) (by decide) (List.mem_cons_of_mem _ gw171) rfl (fun _ => rfl) (fun _ => rfl) dX12_init_174 (fun H locs hfl hNl hW => ?_)
  refine z_na (pc2 := 180) X cf_X12 ht hfl hNl hW h0 dX12_init_177 (fun _ h => lv_bipush (v := 18) X.1 X.2.1 dX12_init_178 rfl h) (List.mem_cons_of_mem _ gw58) rfl (Or.inr (Or.inl ⟨rfl, rfl⟩)) (a := 2) (N' := 18) (by decide) (by decide) (by decide) (cells' := 22) (slots' := 2267) rfl rfl (Nat.le_of_ble_eq_true rfl) (Nat.le_of_ble_eq_true rfl) dX12_init_180 25 (by decide) (by decide) (List.mem_cons_of_mem _ gw172) rfl (fun _ => rfl) (fun _ => rfl) dX12_init_182 (fun H locs hfl hNl hW => ?_)
  refine z_na (pc2 := 189) X cf_X12 ht hfl hNl hW h0 dX12_init_185 (fun _ h => lv_sipush (v := 864) X.1 X.2.1 dX12_init_186 rfl h) (List.mem_cons_of_mem _ gw38) rfl (Or.inl ⟨rfl, rfl⟩) (a := 1) (N' := 864) (by decide) (by decide) (by decide) (cells' := 23) (slots' := 3131) rfl rfl (Nat.le_of_ble_eq_true rfl) (Nat.le_of_ble_eq_true rfl) dX12_init_189 26 (by decide) (by decide) (List.mem_cons_of_mem _ gw173) rfl (fun _ => rfl) (fun _ => rfl) dX12_init_191 (fun H locs hfl hNl hW => ?_)
  refine z_na (pc2 := 197) X cf_X12 ht hfl hNl hW h0 dX12_init_194 (fun _ h => lv_bipush (v := 18) X.1 X.2.1 dX12_init_195 rfl h) (List.mem_cons_of_mem _ gw58) rfl (Or.inr (Or.inl ⟨rfl, rfl⟩)) (a := 2) (N' := 18) (by decide) (by decide) (by decide) (cells' := 24) (slots' := 3149) rfl rfl (Nat.le_of_ble_eq_true rfl) (Nat.le_of_ble_eq_true rfl) dX12_init_197 27 (by decide) (by decide) (List.mem_cons_of_mem _ gw174) rfl (fun _ => rfl) (fun _ => rfl) dX12_init_199 (fun H locs hfl hNl hW => ?_)
  refine z_na (pc2 := 206) X cf_X12 ht hfl hNl hW h0 dX12_init_202 (fun _ h => lv_sipush (v := 288) X.1 X.2.1 dX12_init_203 rfl h) (List.mem_cons_of_mem _ gw38) rfl (Or.inl ⟨rfl, rfl⟩) (a := 1) (N' := 288) (by decide) (by decide) (by decide) (cells' := 25) (slots' := 3437) rfl rfl (Nat.le_of_ble_eq_true rfl) (Nat.le_of_ble_eq_true rfl) dX12_init_206 28 (by decide) (by decide) (List.mem_cons_of_mem _ gw175) rfl (fun _ => rfl) (fun _ => rfl) dX12_init_208 (fun H locs hfl hNl hW => ?_)
  refine z_na (pc2 := 214) X cf_X12 ht hfl hNl hW h0 dX12_init_211 (fun _ h => lv_bipush (v := 18) X.1 X.2.1 dX12_init_212 rfl h) (List.mem_cons_of_mem _ gw176) rfl (Or.inr (Or.inr ⟨rfl, rfl⟩)) (a := 3) (N' := 18) (by decide) (by decide) (by decide) (cells' := 26) (slots' := 3455) rfl rfl (Nat.le_of_ble_eq_true rfl) (Nat.le_of_ble_eq_true rfl) dX12_init_214 29 (by decide) (by decide) (List.mem_cons_of_mem _ gw177) rfl (fun _ => rfl) (fun _ => rfl) dX12_init_216 (fun H locs hfl hNl hW => ?_)
  refine z_na (pc2 := 222) X cf_X12 ht hfl hNl hW h0 dX12_init_219 (fun _ h => lv_bipush (v := 18) X.1 X.2.1 dX12_init_220 rfl h) (List.mem_cons_of_mem _ gw176) rfl (Or.inr (Or.inr ⟨rfl, rfl⟩)) (a := 3) (N' := 18) (by decide) (by decide) (by decide) (cells' := 27) (slots' := 3473) rfl rfl (Nat.le_of_ble_eq_true rfl) (Nat.le_of_ble_eq_true rfl) dX12_init_222 30 (by decide) (by decide) (List.mem_cons_of_mem _ gw178) rfl (fun _ => rfl) (fun _ => rfl) dX12_init_224 (fun H locs hfl hNl hW => ?_)
  refine z_na (pc2 := 230) X cf_X12 ht hfl hNl hW h0 dX12_init_227 (fun _ h => lv_bipush (v := 18) X.1 X.2.1 dX12_init_228 rfl h) (List.mem_cons_of_mem _ gw58) rfl (Or.inr (Or.inl ⟨rfl, rfl⟩)) (a := 2) (N' := 18) (by decide) (by decide) (by decide) (cells' := 28) (slots' := 3491) rfl rfl (Nat.le_of_ble_eq_true rfl) (Nat.le_of_ble_eq_true rfl) dX12_init_230 31 (by decide) (by decide) (List.mem_cons_of_mem _ gw179) rfl (fun _ => rfl) (fun _ => rfl) dX12_init_232 (fun H locs hfl hNl hW => ?_)
  refine z_na (pc2 := 238) X cf_X12 ht hfl hNl hW h0 dX12_init_235 (fun _ h => lv_bipush (v := 18) X.1 X.2.1 dX12_init_236 rfl h) (List.mem_cons_of_mem _ gw38) rfl (Or.inl ⟨rfl, rfl⟩) (a := 1) (N' := 18) (by decide) (by decide) (by decide) (cells' := 29) (slots' := 3509) rfl rfl (Nat.le_of_ble_eq_true rfl) (Nat.le_of_ble_eq_true rfl) dX12_init_238 32 (by decide) (by decide) (List.mem_cons_of_mem _ gw180) rfl (fun _ => rfl) (fun _ => rfl) dX12_init_240 (fun H locs hfl hNl hW => ?_)
  refine z_na (pc2 := 246) X cf_X12 ht hfl hNl hW h0 dX12_init_243 (fun _ h => lv_bipush (v := 18) X.1 X.2.1 dX12_init_244 rfl h) (List.mem_cons_of_mem _ gw38) rfl (Or.inl ⟨rfl, rfl⟩) (a := 1) (N' := 18) (by decide) (by decide) (by decide) (cells' := 30) (slots' := 3527) rfl rfl (Nat.le_of_ble_eq_true rfl) (Nat.le_of_ble_eq_true rfl) dX12_init_246 33 (by decide) (by decide) (List.mem_cons_of_mem _ gw181) rfl (fun _ => rfl) (fun _ => rfl) dX12_init_248 (fun H locs hfl hNl hW => ?_)
  refine z_na (pc2 := 254) X cf_X12 ht hfl hNl hW h0 dX12_init_251 (fun _ h => lv_bipush (v := 18) X.1 X.2.1 dX12_init_252 rfl h) (List.mem_cons_of_mem _ gw38) rfl (Or.inl ⟨rfl, rfl⟩) (a := 1) (N' := 18) (by decide) (by decide) (by decide) (cells' := 31) (slots' := 3545) rfl rfl (Nat.le_of_ble_eq_true rfl) (Nat.le_of_ble_eq_true rfl) dX12_init_254 34 (by decide) (by decide) (List.mem_cons_of_mem _ gw182) rfl (fun _ => rfl) (fun _ => rfl) dX12_init_256 (fun H locs hfl hNl hW => ?_)
  refine z_na (pc2 := 263) X cf_X12 ht hfl hNl hW h0 dX12_init_259 (fun _ h => lv_sipush (v := 3744) X.1 X.2.1 dX12_init_260 rfl h) (List.mem_cons_of_mem _ gw38) rfl (Or.inl ⟨rfl, rfl⟩) (a := 1) (N' := 3744) (by decide) (by decide) (by decide) (cells' := 32) (slots' := 7289) rfl rfl (Nat.le_of_ble_eq_true rfl) (Nat.le_of_ble_eq_true rfl) dX12_init_263 35 (by decide) (by decide) (List.mem_cons_of_mem _ gw183) rfl (fun _ => rfl) (fun _ => rfl) dX12_init_265 (fun H locs hfl hNl hW => ?_)
  refine z_na (pc2 := 271) X cf_X12 ht hfl hNl hW h0 dX12_init_268 (fun _ h => lv_bipush (v := 48) X.1 X.2.1 dX12_init_269 rfl h) (List.mem_cons_of_mem _ gw38) rfl (Or.inl ⟨rfl, rfl⟩) (a := 1) (N' := 48) (by decide) (by decide) (by decide) (cells' := 33) (slots' := 7337) rfl rfl (Nat.le_of_ble_eq_true rfl) (Nat.le_of_ble_eq_true rfl) dX12_init_271 36 (by decide) (by decide) (List.mem_cons_of_mem _ gw184) rfl (fun _ => rfl) (fun _ => rfl) dX12_init_273 (fun H locs hfl hNl hW => ?_)
  refine z_na (pc2 := 279) X cf_X12 ht hfl hNl hW h0 dX12_init_276 (fun _ h => lv_bipush (v := 9) X.1 X.2.1 dX12_init_277 rfl h) (List.mem_cons_of_mem _ gw38) rfl (Or.inl ⟨rfl, rfl⟩) (a := 1) (N' := 9) (by decide) (by decide) (by decide) (cells' := 34) (slots' := 7346) rfl rfl (Nat.le_of_ble_eq_true rfl) (Nat.le_of_ble_eq_true rfl) dX12_init_279 37 (by decide) (by decide) (List.mem_cons_of_mem _ gw185) rfl (fun _ => rfl) (fun _ => rfl) dX12_init_281 (fun H locs hfl hNl hW => ?_)
  refine z_na (pc2 := 287) X cf_X12 ht hfl hNl hW h0 dX12_init_284 (fun _ h => lv_bipush (v := 108) X.1 X.2.1 dX12_init_285 rfl h) (List.mem_cons_of_mem _ gw38) rfl (Or.inl ⟨rfl, rfl⟩) (a := 1) (N' := 108) (by decide) (by decide) (by decide) (cells' := 35) (slots' := 7454) rfl rfl (Nat.le_of_ble_eq_true rfl) (Nat.le_of_ble_eq_true rfl) dX12_init_287 38 (by decide) (by decide) (List.mem_cons_of_mem _ gw186) rfl (fun _ => rfl) (fun _ => rfl) dX12_init_289 (fun H locs hfl hNl hW => ?_)
  refine z_na (pc2 := 295) X cf_X12 ht hfl hNl hW h0 dX12_init_292 (fun _ h => lv_bipush (v := 108) X.1 X.2.1 dX12_init_293 rfl h) (List.mem_cons_of_mem _ gw38) rfl (Or.inl ⟨rfl, rfl⟩) (a := 1) (N' := 108) (by decide) (by decide) (by decide) (cells' := 36) (slots' := 7562) rfl rfl (Nat.le_of_ble_eq_true rfl) (Nat.le_of_ble_eq_true rfl) dX12_init_295 39 (by decide) (by decide) (List.mem_cons_of_mem _ gw187) rfl (fun _ => rfl) (fun _ => rfl) dX12_init_297 (fun H locs hfl hNl hW => ?_)
  refine z_na (pc2 := 303) X cf_X12 ht hfl hNl hW h0 dX12_init_300 (fun _ h => lv_bipush (v := 108) X.1 X.2.1 dX12_init_301 rfl h) (List.mem_cons_of_mem _ gw38) rfl (Or.inl ⟨rfl, rfl⟩) (a := 1) (N' := 108) (by decide) (by decide) (by decide) (cells' := 37) (slots' := 7670) rfl rfl (Nat.le_of_ble_eq_true rfl) (Nat.le_of_ble_eq_true rfl) dX12_init_303 40 (by decide) (by decide) (List.mem_cons_of_mem _ gw188) rfl (fun _ => rfl) (fun _ => rfl) dX12_init_305 (fun H locs hfl hNl hW => ?_)
  refine z_na (pc2 := 311) X cf_X12 ht hfl hNl hW h0 dX12_init_308 (fun _ h => lv_bipush (v := 108) X.1 X.2.1 dX12_init_309 rfl h) (List.mem_cons_of_mem _ gw38) rfl (Or.inl ⟨rfl, rfl⟩) (a := 1) (N' := 108) (by decide) (by decide) (by decide) (cells' := 38) (slots' := 7778) rfl rfl (Nat.le_of_ble_eq_true rfl) (Nat.le_of_ble_eq_true rfl) dX12_init_311 41 (by decide) (by decide) (List.mem_cons_of_mem _ gw189) rfl (fun _ => rfl) (fun _ => rfl) dX12_init_313 (fun H locs hfl hNl hW => ?_)
  refine z_na (pc2 := 319) X cf_X12 ht hfl hNl hW h0 dX12_init_316 (fun _ h => lv_bipush (v := 108) X.1 X.2.1 dX12_init_317 rfl h) (List.mem_cons_of_mem _ gw38) rfl (Or.inl ⟨rfl, rfl⟩) (a := 1) (N' := 108) (by decide) (by decide) (by decide) (cells' := 39) (slots' := 7886) rfl rfl (Nat.le_of_ble_eq_true rfl) (Nat.le_of_ble_eq_true rfl) dX12_init_319 42 (by decide) (by decide) (List.mem_cons_of_mem _ gw190) rfl (fun _ => rfl) (fun _ => rfl) dX12_init_321 (fun H locs hfl hNl hW => ?_)
  refine z_na (pc2 := 327) X cf_X12 ht hfl hNl hW h0 dX12_init_324 (fun _ h => lv_bipush (v := 108) X.1 X.2.1 dX12_init_325 rfl h) (List.mem_cons_of_mem _ gw38) rfl (Or.inl ⟨rfl, rfl⟩) (a := 1) (N' := 108) (by decide) (by decide) (by decide) (cells' := 40) (slots' := 7994) rfl rfl (Nat.le_of_ble_eq_true rfl) (Nat.le_of_ble_eq_true rfl) dX12_init_327 43 (by decide) (by decide) (List.mem_cons_of_mem _ gw191) rfl (fun _ => rfl) (fun _ => rfl) dX12_init_329 (fun H locs hfl hNl hW => ?_)
  refine z_na (pc2 := 335) X cf_X12 ht hfl hNl hW h0 dX12_init_332 (fun _ h => lv_bipush (v := 108) X.1 X.2.1 dX12_init_333 rfl h) (List.mem_cons_of_mem _ gw38) rfl (Or.inl ⟨rfl, rfl⟩) (a := 1) (N' := 108) (by decide) (by decide) (by decide) (cells' := 41) (slots' := 8102) rfl rfl (Nat.le_of_ble_eq_true rfl) (Nat.le_of_ble_eq_true rfl) dX12_init_335 44 (by decide) (by decide) (List.mem_cons_of_mem _ gw192) rfl (fun _ => rfl) (fun _ => rfl) dX12_init_337 (fun H locs hfl hNl hW => ?_)
  refine z_na (pc2 := 344) X cf_X12 ht hfl hNl hW h0 dX12_init_340 (fun _ h => lv_sipush (v := 22464) X.1 X.2.1 dX12_init_341 rfl h) (List.mem_cons_of_mem _ gw38) rfl (Or.inl ⟨rfl, rfl⟩) (a := 1) (N' := 22464) (by decide) (by decide) (by decide) (cells' := 42) (slots' := 30566) rfl rfl (Nat.le_of_ble_eq_true rfl) (Nat.le_of_ble_eq_true rfl) dX12_init_344 45 (by decide) (by decide) (List.mem_cons_of_mem _ gw193) rfl (fun _ => rfl) (fun _ => rfl) dX12_init_346 (fun H locs hfl hNl hW => ?_)
  refine z_na (pc2 := 352) X cf_X12 ht hfl hNl hW h0 dX12_init_349 (fun _ h => lv_bipush (v := 9) X.1 X.2.1 dX12_init_350 rfl h) (List.mem_cons_of_mem _ gw38) rfl (Or.inl ⟨rfl, rfl⟩) (a := 1) (N' := 9) (by decide) (by decide) (by decide) (cells' := 43) (slots' := 30575) rfl rfl (Nat.le_of_ble_eq_true rfl) (Nat.le_of_ble_eq_true rfl) dX12_init_352 46 (by decide) (by decide) (List.mem_cons_of_mem _ gw194) rfl (fun _ => rfl) (fun _ => rfl) dX12_init_354 (fun H locs hfl hNl hW => ?_)
  refine z_na (pc2 := 360) X cf_X12 ht hfl hNl hW h0 dX12_init_357 (fun _ h => lv_bipush (v := 9) X.1 X.2.1 dX12_init_358 rfl h) (List.mem_cons_of_mem _ gw58) rfl (Or.inr (Or.inl ⟨rfl, rfl⟩)) (a := 2) (N' := 9) (by decide) (by decide) (by decide) (cells' := 44) (slots' := 30584) rfl rfl (Nat.le_of_ble_eq_true rfl) (Nat.le_of_ble_eq_true rfl) dX12_init_360 47 (by decide) (by decide) (List.mem_cons_of_mem _ gw195) rfl (fun _ => rfl) (fun _ => rfl) dX12_init_362 (fun H locs hfl hNl hW => ?_)
  refine z_na (pc2 := 369) X cf_X12 ht hfl hNl hW h0 dX12_init_365 (fun _ h => lv_sipush (v := 2700) X.1 X.2.1 dX12_init_366 rfl h) (List.mem_cons_of_mem _ gw38) rfl (Or.inl ⟨rfl, rfl⟩) (a := 1) (N' := 2700) (by decide) (by decide) (by decide) (cells' := 45) (slots' := 33284) rfl rfl (Nat.le_of_ble_eq_true rfl) (Nat.le_of_ble_eq_true rfl) dX12_init_369 48 (by decide) (by decide) (List.mem_cons_of_mem _ gw196) rfl (fun _ => rfl) (fun _ => rfl) dX12_init_371 (fun H locs hfl hNl hW => ?_)
  refine z_na (pc2 := 377) X cf_X12 ht hfl hNl hW h0 dX12_init_374 (fun _ h => lv_bipush (v := 9) X.1 X.2.1 dX12_init_375 rfl h) (List.mem_cons_of_mem _ gw38) rfl (Or.inl ⟨rfl, rfl⟩) (a := 1) (N' := 9) (by decide) (by decide) (by decide) (cells' := 46) (slots' := 33293) rfl rfl (Nat.le_of_ble_eq_true rfl) (Nat.le_of_ble_eq_true rfl) dX12_init_377 49 (by decide) (by decide) (List.mem_cons_of_mem _ gw197) rfl (fun _ => rfl) (fun _ => rfl) dX12_init_379 (fun H locs hfl hNl hW => ?_)
  refine z_na (pc2 := 385) X cf_X12 ht hfl hNl hW h0 dX12_init_382 (fun _ h => lv_bipush (v := 9) X.1 X.2.1 dX12_init_383 rfl h) (List.mem_cons_of_mem _ gw38) rfl (Or.inl ⟨rfl, rfl⟩) (a := 1) (N' := 9) (by decide) (by decide) (by decide) (cells' := 47) (slots' := 33302) rfl rfl (Nat.le_of_ble_eq_true rfl) (Nat.le_of_ble_eq_true rfl) dX12_init_385 50 (by decide) (by decide) (List.mem_cons_of_mem _ gw198) rfl (fun _ => rfl) (fun _ => rfl) dX12_init_387 (fun H locs hfl hNl hW => ?_)
  refine z_na (pc2 := 393) X cf_X12 ht hfl hNl hW h0 dX12_init_390 (fun _ h => lv_bipush (v := 9) X.1 X.2.1 dX12_init_391 rfl h) (List.mem_cons_of_mem _ gw38) rfl (Or.inl ⟨rfl, rfl⟩) (a := 1) (N' := 9) (by decide) (by decide) (by decide) (cells' := 48) (slots' := 33311) rfl rfl (Nat.le_of_ble_eq_true rfl) (Nat.le_of_ble_eq_true rfl) dX12_init_393 51 (by decide) (by decide) (List.mem_cons_of_mem _ gw199) rfl (fun _ => rfl) (fun _ => rfl) dX12_init_395 (fun H locs hfl hNl hW => ?_)
  refine z_na (pc2 := 401) X cf_X12 ht hfl hNl hW h0 dX12_init_398 (fun _ h => lv_bipush (v := 9) X.1 X.2.1 dX12_init_399 rfl h) (List.mem_cons_of_mem _ gw38) rfl (Or.inl ⟨rfl, rfl⟩) (a := 1) (N' := 9) (by decide) (by decide) (by decide) (cells' := 49) (slots' := 33320) rfl rfl (Nat.le_of_ble_eq_true rfl) (Nat.le_of_ble_eq_true rfl) dX12_init_401 52 (by decide) (by decide) (List.mem_cons_of_mem _ gw200) rfl (fun _ => rfl) (fun _ => rfl) dX12_init_403 (fun H locs hfl hNl hW => ?_)
  refine z_na (pc2 := 409) X cf_X12 ht hfl hNl hW h0 dX12_init_406 (fun _ h => lv_bipush (v := 9) X.1 X.2.1 dX12_init_407 rfl h) (List.mem_cons_of_mem _ gw38) rfl (Or.inl ⟨rfl, rfl⟩) (a := 1) (N' := 9) (by decide) (by decide) (by decide) (cells' := 50) (slots' := 33329) rfl rfl (Nat.le_of_ble_eq_true rfl) (Nat.le_of_ble_eq_true rfl) dX12_init_409 53 (by decide) (by decide) (List.mem_cons_of_mem _ gw201) rfl (fun _ => rfl) (fun _ => rfl) dX12_init_411 (fun H locs hfl hNl hW => ?_)
  refine z_pv (pc2 := 418) (v := .int 255) X cf_X12 ht hfl hW h0 dX12_init_414 (fun _ h => lv_sipush (v := 255) X.1 X.2.1 dX12_init_415 rfl h) rfl 54 (by decide) (by decide) (List.mem_cons_of_mem _ gw202) rfl rfl rfl dX12_init_418 (fun H locs hfl hW => ?_)
  refine z_pv (pc2 := 423) (v := .int 4) X cf_X12 ht hfl hW h0 dX12_init_421 (fun _ h => lv_iconst (v := 4) X.1 X.2.1 dX12_init_422 rfl h) rfl 55 (by decide) (by decide) (List.mem_cons_of_mem _ gw203) rfl rfl rfl dX12_init_423 (fun H locs hfl hW => ?_)
  refine z_na (pc2 := 430) X cf_X12 ht hfl hNl hW h0 dX12_init_426 (fun _ h => lv_sipush (v := 200) X.1 X.2.1 dX12_init_427 rfl h) (List.mem_cons_of_mem _ gw38) rfl (Or.inl ⟨rfl, rfl⟩) (a := 1) (N' := 200) (by decide) (by decide) (by decide) (cells' := 51) (slots' := 33529) rfl rfl (Nat.le_of_ble_eq_true rfl) (Nat.le_of_ble_eq_true rfl) dX12_init_430 56 (by decide) (by decide) (List.mem_cons_of_mem _ gw204) rfl (fun _ => rfl) (fun _ => rfl) dX12_init_432 (fun H locs hfl hNl hW => ?_)
  refine z_na (pc2 := 439) X cf_X12 ht hfl hNl hW h0 dX12_init_435 (fun _ h => lv_sipush (v := 200) X.1 X.2.1 dX12_init_436 rfl h) (List.mem_cons_of_mem _ gw38) rfl (Or.inl ⟨rfl, rfl⟩) (a := 1) (N' := 200) (by decide) (by decide) (by decide) (cells' := 52) (slots' := 33729) rfl rfl (Nat.le_of_ble_eq_true rfl) (Nat.le_of_ble_eq_true rfl) dX12_init_439 59 (by decide) (by decide) (List.mem_cons_of_mem _ gw205) rfl (fun _ => rfl) (fun _ => rfl) dX12_init_441 (fun H locs hfl hNl hW => ?_)
  refine z_na (pc2 := 448) X cf_X12 ht hfl hNl hW h0 dX12_init_444 (fun _ h => lv_sipush (v := 208) X.1 X.2.1 dX12_init_445 rfl h) (List.mem_cons_of_mem _ gw38) rfl (Or.inl ⟨rfl, rfl⟩) (a := 1) (N' := 208) (by decide) (by decide) (by decide) (cells' := 53) (slots' := 33937) rfl rfl (Nat.le_of_ble_eq_true rfl) (Nat.le_of_ble_eq_true rfl) dX12_init_448 61 (by decide) (by decide) (List.mem_cons_of_mem _ gw206) rfl (fun _ => rfl) (fun _ => rfl) dX12_init_450 (fun H locs hfl hNl hW => ?_)
  refine z_pv (pc2 := 455) (v := .int 3) X cf_X12 ht hfl hW h0 dX12_init_453 (fun _ h => lv_iconst (v := 3) X.1 X.2.1 dX12_init_454 rfl h) rfl 64 (by decide) (by decide) (List.mem_cons_of_mem _ gw207) rfl rfl rfl dX12_init_455 (fun H locs hfl hW => ?_)
  refine z_na (pc2 := 461) X cf_X12 ht hfl hNl hW h0 dX12_init_458 (fun _ h => lv_bipush (v := 9) X.1 X.2.1 dX12_init_459 rfl h) (List.mem_cons_of_mem _ gw38) rfl (Or.inl ⟨rfl, rfl⟩) (a := 1) (N' := 9) (by decide) (by decide) (by decide) (cells' := 54) (slots' := 33946) rfl rfl (Nat.le_of_ble_eq_true rfl) (Nat.le_of_ble_eq_true rfl) dX12_init_461 69 (by decide) (by decide) (List.mem_cons_of_mem _ gw208) rfl (fun _ => rfl) (fun _ => rfl) dX12_init_463 (fun H locs hfl hNl hW => ?_)
  refine z_na (pc2 := 469) X cf_X12 ht hfl hNl hW h0 dX12_init_466 (fun _ h => lv_bipush (v := 9) X.1 X.2.1 dX12_init_467 rfl h) (List.mem_cons_of_mem _ gw58) rfl (Or.inr (Or.inl ⟨rfl, rfl⟩)) (a := 2) (N' := 9) (by decide) (by decide) (by decide) (cells' := 55) (slots' := 33955) rfl rfl (Nat.le_of_ble_eq_true rfl) (Nat.le_of_ble_eq_true rfl) dX12_init_469 70 (by decide) (by decide) (List.mem_cons_of_mem _ gw209) rfl (fun _ => rfl) (fun _ => rfl) dX12_init_471 (fun H locs hfl hNl hW => ?_)
  refine z_na (pc2 := 477) X cf_X12 ht hfl hNl hW h0 dX12_init_474 (fun _ h => lv_bipush (v := 9) X.1 X.2.1 dX12_init_475 rfl h) (List.mem_cons_of_mem _ gw38) rfl (Or.inl ⟨rfl, rfl⟩) (a := 1) (N' := 9) (by decide) (by decide) (by decide) (cells' := 56) (slots' := 33964) rfl rfl (Nat.le_of_ble_eq_true rfl) (Nat.le_of_ble_eq_true rfl) dX12_init_477 71 (by decide) (by decide) (List.mem_cons_of_mem _ gw210) rfl (fun _ => rfl) (fun _ => rfl) dX12_init_479 (fun H locs hfl hNl hW => ?_)
  refine z_na (pc2 := 485) X cf_X12 ht hfl hNl hW h0 dX12_init_482 (fun _ h => lv_bipush (v := 9) X.1 X.2.1 dX12_init_483 rfl h) (List.mem_cons_of_mem _ gw38) rfl (Or.inl ⟨rfl, rfl⟩) (a := 1) (N' := 9) (by decide) (by decide) (by decide) (cells' := 57) (slots' := 33973) rfl rfl (Nat.le_of_ble_eq_true rfl) (Nat.le_of_ble_eq_true rfl) dX12_init_485 72 (by decide) (by decide) (List.mem_cons_of_mem _ gw211) rfl (fun _ => rfl) (fun _ => rfl) dX12_init_487 (fun H locs hfl hNl hW => ?_)
  refine z_na (pc2 := 493) X cf_X12 ht hfl hNl hW h0 dX12_init_490 (fun _ h => lv_bipush (v := 9) X.1 X.2.1 dX12_init_491 rfl h) (List.mem_cons_of_mem _ gw38) rfl (Or.inl ⟨rfl, rfl⟩) (a := 1) (N' := 9) (by decide) (by decide) (by decide) (cells' := 58) (slots' := 33982) rfl rfl (Nat.le_of_ble_eq_true rfl) (Nat.le_of_ble_eq_true rfl) dX12_init_493 73 (by decide) (by decide) (List.mem_cons_of_mem _ gw212) rfl (fun _ => rfl) (fun _ => rfl) dX12_init_495 (fun H locs hfl hNl hW => ?_)
  refine z_na (pc2 := 501) X cf_X12 ht hfl hNl hW h0 dX12_init_498 (fun _ h => lv_bipush (v := 9) X.1 X.2.1 dX12_init_499 rfl h) (List.mem_cons_of_mem _ gw176) rfl (Or.inr (Or.inr ⟨rfl, rfl⟩)) (a := 3) (N' := 9) (by decide) (by decide) (by decide) (cells' := 59) (slots' := 33991) rfl rfl (Nat.le_of_ble_eq_true rfl) (Nat.le_of_ble_eq_true rfl) dX12_init_501 74 (by decide) (by decide) (List.mem_cons_of_mem _ gw213) rfl (fun _ => rfl) (fun _ => rfl) dX12_init_503 (fun H locs hfl hNl hW => ?_)
  refine z_na (pc2 := 510) X cf_X12 ht hfl hNl hW h0 dX12_init_506 (fun _ h => lv_sipush (v := 300) X.1 X.2.1 dX12_init_507 rfl h) (List.mem_cons_of_mem _ gw38) rfl (Or.inl ⟨rfl, rfl⟩) (a := 1) (N' := 300) (by decide) (by decide) (by decide) (cells' := 60) (slots' := 34291) rfl rfl (Nat.le_of_ble_eq_true rfl) (Nat.le_of_ble_eq_true rfl) dX12_init_510 76 (by decide) (by decide) (List.mem_cons_of_mem _ gw214) rfl (fun _ => rfl) (fun _ => rfl) dX12_init_512 (fun H locs hfl hNl hW => ?_)
  refine z_na (pc2 := 519) X cf_X12 ht hfl hNl hW h0 dX12_init_515 (fun _ h => lv_sipush (v := 300) X.1 X.2.1 dX12_init_516 rfl h) (List.mem_cons_of_mem _ gw38) rfl (Or.inl ⟨rfl, rfl⟩) (a := 1) (N' := 300) (by decide) (by decide) (by decide) (cells' := 61) (slots' := 34591) rfl rfl (Nat.le_of_ble_eq_true rfl) (Nat.le_of_ble_eq_true rfl) dX12_init_519 77 (by decide) (by decide) (List.mem_cons_of_mem _ gw215) rfl (fun _ => rfl) (fun _ => rfl) dX12_init_521 (fun H locs hfl hNl hW => ?_)
  refine z_na (pc2 := 528) X cf_X12 ht hfl hNl hW h0 dX12_init_524 (fun _ h => lv_sipush (v := 300) X.1 X.2.1 dX12_init_525 rfl h) (List.mem_cons_of_mem _ gw38) rfl (Or.inl ⟨rfl, rfl⟩) (a := 1) (N' := 300) (by decide) (by decide) (by decide) (cells' := 62) (slots' := 34891) rfl rfl (Nat.le_of_ble_eq_true rfl) (Nat.le_of_ble_eq_true rfl) dX12_init_528 78 (by decide) (by decide) (List.mem_cons_of_mem _ gw216) rfl (fun _ => rfl) (fun _ => rfl) dX12_init_530 (fun H locs hfl hNl hW => ?_)
  refine z_na (pc2 := 537) X cf_X12 ht hfl hNl hW h0 dX12_init_533 (fun _ h => lv_sipush (v := 300) X.1 X.2.1 dX12_init_534 rfl h) (List.mem_cons_of_mem _ gw58) rfl (Or.inr (Or.inl ⟨rfl, rfl⟩)) (a := 2) (N' := 300) (by decide) (by decide) (by decide) (cells' := 63) (slots' := 35191) rfl rfl (Nat.le_of_ble_eq_true rfl) (Nat.le_of_ble_eq_true rfl) dX12_init_537 79 (by decide) (by decide) (List.mem_cons_of_mem _ gw217) rfl (fun _ => rfl) (fun _ => rfl) dX12_init_539 (fun H locs hfl hNl hW => ?_)
  refine z_na (pc2 := 546) X cf_X12 ht hfl hNl hW h0 dX12_init_542 (fun _ h => lv_sipush (v := 300) X.1 X.2.1 dX12_init_543 rfl h) (List.mem_cons_of_mem _ gw38) rfl (Or.inl ⟨rfl, rfl⟩) (a := 1) (N' := 300) (by decide) (by decide) (by decide) (cells' := 64) (slots' := 35491) rfl rfl (Nat.le_of_ble_eq_true rfl) (Nat.le_of_ble_eq_true rfl) dX12_init_546 80 (by decide) (by decide) (List.mem_cons_of_mem _ gw218) rfl (fun _ => rfl) (fun _ => rfl) dX12_init_548 (fun H locs hfl hNl hW => ?_)
  refine z_na (pc2 := 554) X cf_X12 ht hfl hNl hW h0 dX12_init_551 (fun _ h => lv_ldc (v := 90000) X.1 X.2.1 X.2.2.2.1 (X.2.2.2.2.1 _ (List.mem_cons_of_mem _ gw219)) dX12_init_552 h) (List.mem_cons_of_mem _ gw38) rfl (Or.inl ⟨rfl, rfl⟩) (a := 1) (N' := 90000) (by decide) (by decide) (by decide) (cells' := 65) (slots' := 125491) rfl rfl (Nat.le_of_ble_eq_true rfl) (Nat.le_of_ble_eq_true rfl) dX12_init_554 81 (by decide) (by decide) (List.mem_cons_of_mem _ gw220) rfl (fun _ => rfl) (fun _ => rfl) dX12_init_556 (fun H locs hfl hNl hW => ?_)
  refine z_na (pc2 := 562) X cf_X12 ht hfl hNl hW h0 dX12_init_559 (fun _ h => lv_bipush (v := 40) X.1 X.2.1 dX12_init_560 rfl h) (List.mem_cons_of_mem _ gw38) rfl (Or.inl ⟨rfl, rfl⟩) (a := 1) (N' := 40) (by decide) (by decide) (by decide) (cells' := 66) (slots' := 125531) rfl rfl (Nat.le_of_ble_eq_true rfl) (Nat.le_of_ble_eq_true rfl) dX12_init_562 82 (by decide) (by decide) (List.mem_cons_of_mem _ gw221) rfl (fun _ => rfl) (fun _ => rfl) dX12_init_564 (fun H locs hfl hNl hW => ?_)
  refine z_na (pc2 := 570) X cf_X12 ht hfl hNl hW h0 dX12_init_567 (fun _ h => lv_bipush (v := 40) X.1 X.2.1 dX12_init_568 rfl h) (List.mem_cons_of_mem _ gw38) rfl (Or.inl ⟨rfl, rfl⟩) (a := 1) (N' := 40) (by decide) (by decide) (by decide) (cells' := 67) (slots' := 125571) rfl rfl (Nat.le_of_ble_eq_true rfl) (Nat.le_of_ble_eq_true rfl) dX12_init_570 83 (by decide) (by decide) (List.mem_cons_of_mem _ gw222) rfl (fun _ => rfl) (fun _ => rfl) dX12_init_572 (fun H locs hfl hNl hW => ?_)
  refine z_na (pc2 := 578) X cf_X12 ht hfl hNl hW h0 dX12_init_575 (fun _ h => lv_bipush (v := 40) X.1 X.2.1 dX12_init_576 rfl h) (List.mem_cons_of_mem _ gw38) rfl (Or.inl ⟨rfl, rfl⟩) (a := 1) (N' := 40) (by decide) (by decide) (by decide) (cells' := 68) (slots' := 125611) rfl rfl (Nat.le_of_ble_eq_true rfl) (Nat.le_of_ble_eq_true rfl) dX12_init_578 84 (by decide) (by decide) (List.mem_cons_of_mem _ gw223) rfl (fun _ => rfl) (fun _ => rfl) dX12_init_580 (fun H locs hfl hNl hW => ?_)
  refine z_na (pc2 := 586) X cf_X12 ht hfl hNl hW h0 dX12_init_583 (fun _ h => lv_bipush (v := 40) X.1 X.2.1 dX12_init_584 rfl h) (List.mem_cons_of_mem _ gw38) rfl (Or.inl ⟨rfl, rfl⟩) (a := 1) (N' := 40) (by decide) (by decide) (by decide) (cells' := 69) (slots' := 125651) rfl rfl (Nat.le_of_ble_eq_true rfl) (Nat.le_of_ble_eq_true rfl) dX12_init_586 85 (by decide) (by decide) (List.mem_cons_of_mem _ gw224) rfl (fun _ => rfl) (fun _ => rfl) dX12_init_588 (fun H locs hfl hNl hW => ?_)
  refine z_na (pc2 := 594) X cf_X12 ht hfl hNl hW h0 dX12_init_591 (fun _ h => lv_bipush (v := 40) X.1 X.2.1 dX12_init_592 rfl h) (List.mem_cons_of_mem _ gw38) rfl (Or.inl ⟨rfl, rfl⟩) (a := 1) (N' := 40) (by decide) (by decide) (by decide) (cells' := 70) (slots' := 125691) rfl rfl (Nat.le_of_ble_eq_true rfl) (Nat.le_of_ble_eq_true rfl) dX12_init_594 86 (by decide) (by decide) (List.mem_cons_of_mem _ gw225) rfl (fun _ => rfl) (fun _ => rfl) dX12_init_596 (fun H locs hfl hNl hW => ?_)
  refine z_na (pc2 := 603) X cf_X12 ht hfl hNl hW h0 dX12_init_599 (fun _ h => lv_sipush (v := 12000) X.1 X.2.1 dX12_init_600 rfl h) (List.mem_cons_of_mem _ gw38) rfl (Or.inl ⟨rfl, rfl⟩) (a := 1) (N' := 12000) (by decide) (by decide) (by decide) (cells' := 71) (slots' := 137691) rfl rfl (Nat.le_of_ble_eq_true rfl) (Nat.le_of_ble_eq_true rfl) dX12_init_603 87 (by decide) (by decide) (List.mem_cons_of_mem _ gw226) rfl (fun _ => rfl) (fun _ => rfl) dX12_init_605 (fun H locs hfl hNl hW => ?_)
  refine z_na (pc2 := 611) X cf_X12 ht hfl hNl hW h0 dX12_init_608 (fun _ h => lv_bipush (v := 30) X.1 X.2.1 dX12_init_609 rfl h) (List.mem_cons_of_mem _ gw38) rfl (Or.inl ⟨rfl, rfl⟩) (a := 1) (N' := 30) (by decide) (by decide) (by decide) (cells' := 72) (slots' := 137721) rfl rfl (Nat.le_of_ble_eq_true rfl) (Nat.le_of_ble_eq_true rfl) dX12_init_611 88 (by decide) (by decide) (List.mem_cons_of_mem _ gw227) rfl (fun _ => rfl) (fun _ => rfl) dX12_init_613 (fun H locs hfl hNl hW => ?_)
  refine z_na (pc2 := 619) X cf_X12 ht hfl hNl hW h0 dX12_init_616 (fun _ h => lv_bipush (v := 30) X.1 X.2.1 dX12_init_617 rfl h) (List.mem_cons_of_mem _ gw38) rfl (Or.inl ⟨rfl, rfl⟩) (a := 1) (N' := 30) (by decide) (by decide) (by decide) (cells' := 73) (slots' := 137751) rfl rfl (Nat.le_of_ble_eq_true rfl) (Nat.le_of_ble_eq_true rfl) dX12_init_619 89 (by decide) (by decide) (List.mem_cons_of_mem _ gw228) rfl (fun _ => rfl) (fun _ => rfl) dX12_init_621 (fun H locs hfl hNl hW => ?_)
  refine z_na (pc2 := 627) X cf_X12 ht hfl hNl hW h0 dX12_init_624 (fun _ h => lv_bipush (v := 20) X.1 X.2.1 dX12_init_625 rfl h) (List.mem_cons_of_mem _ gw38) rfl (Or.inl ⟨rfl, rfl⟩) (a := 1) (N' := 20) (by decide) (by decide) (by decide) (cells' := 74) (slots' := 137771) rfl rfl (Nat.le_of_ble_eq_true rfl) (Nat.le_of_ble_eq_true rfl) dX12_init_627 91 (by decide) (by decide) (List.mem_cons_of_mem _ gw229) rfl (fun _ => rfl) (fun _ => rfl) dX12_init_629 (fun H locs hfl hNl hW => ?_)
  refine z_na (pc2 := 635) X cf_X12 ht hfl hNl hW h0 dX12_init_632 (fun _ h => lv_bipush (v := 20) X.1 X.2.1 dX12_init_633 rfl h) (List.mem_cons_of_mem _ gw38) rfl (Or.inl ⟨rfl, rfl⟩) (a := 1) (N' := 20) (by decide) (by decide) (by decide) (cells' := 75) (slots' := 137791) rfl rfl (Nat.le_of_ble_eq_true rfl) (Nat.le_of_ble_eq_true rfl) dX12_init_635 92 (by decide) (by decide) (List.mem_cons_of_mem _ gw230) rfl (fun _ => rfl) (fun _ => rfl) dX12_init_637 (fun H locs hfl hNl hW => ?_)
  refine z_na (pc2 := 644) X cf_X12 ht hfl hNl hW h0 dX12_init_640 (fun _ h => lv_sipush (v := 6000) X.1 X.2.1 dX12_init_641 rfl h) (List.mem_cons_of_mem _ gw38) rfl (Or.inl ⟨rfl, rfl⟩) (a := 1) (N' := 6000) (by decide) (by decide) (by decide) (cells' := 76) (slots' := 143791) rfl rfl (Nat.le_of_ble_eq_true rfl) (Nat.le_of_ble_eq_true rfl) dX12_init_644 93 (by decide) (by decide) (List.mem_cons_of_mem _ gw231) rfl (fun _ => rfl) (fun _ => rfl) dX12_init_646 (fun H locs hfl hNl hW => ?_)
  refine z_na (pc2 := 652) X cf_X12 ht hfl hNl hW h0 dX12_init_649 (fun _ h => lv_bipush (v := 14) X.1 X.2.1 dX12_init_650 rfl h) (List.mem_cons_of_mem _ gw38) rfl (Or.inl ⟨rfl, rfl⟩) (a := 1) (N' := 14) (by decide) (by decide) (by decide) (cells' := 77) (slots' := 143805) rfl rfl (Nat.le_of_ble_eq_true rfl) (Nat.le_of_ble_eq_true rfl) dX12_init_652 95 (by decide) (by decide) (List.mem_cons_of_mem _ gw232) rfl (fun _ => rfl) (fun _ => rfl) dX12_init_654 (fun H locs hfl hNl hW => ?_)
  refine z_na (pc2 := 661) X cf_X12 ht hfl hNl hW h0 dX12_init_657 (fun _ h => lv_sipush (v := 300) X.1 X.2.1 dX12_init_658 rfl h) (List.mem_cons_of_mem _ gw38) rfl (Or.inl ⟨rfl, rfl⟩) (a := 1) (N' := 300) (by decide) (by decide) (by decide) (cells' := 78) (slots' := 144105) rfl rfl (Nat.le_of_ble_eq_true rfl) (Nat.le_of_ble_eq_true rfl) dX12_init_661 96 (by decide) (by decide) (List.mem_cons_of_mem _ gw233) rfl (fun _ => rfl) (fun _ => rfl) dX12_init_663 (fun H locs hfl hNl hW => ?_)
  refine z_na (pc2 := 669) X cf_X12 ht hfl hNl hW h0 dX12_init_666 (fun _ h => lv_bipush (v := 81) X.1 X.2.1 dX12_init_667 rfl h) (List.mem_cons_of_mem _ gw38) rfl (Or.inl ⟨rfl, rfl⟩) (a := 1) (N' := 81) (by decide) (by decide) (by decide) (cells' := 79) (slots' := 144186) rfl rfl (Nat.le_of_ble_eq_true rfl) (Nat.le_of_ble_eq_true rfl) dX12_init_669 98 (by decide) (by decide) (List.mem_cons_of_mem _ gw234) rfl (fun _ => rfl) (fun _ => rfl) dX12_init_671 (fun H locs hfl hNl hW => ?_)
  refine z_na (pc2 := 677) X cf_X12 ht hfl hNl hW h0 dX12_init_674 (fun _ h => lv_bipush (v := 81) X.1 X.2.1 dX12_init_675 rfl h) (List.mem_cons_of_mem _ gw58) rfl (Or.inr (Or.inl ⟨rfl, rfl⟩)) (a := 2) (N' := 81) (by decide) (by decide) (by decide) (cells' := 80) (slots' := 144267) rfl rfl (Nat.le_of_ble_eq_true rfl) (Nat.le_of_ble_eq_true rfl) dX12_init_677 99 (by decide) (by decide) (List.mem_cons_of_mem _ gw235) rfl (fun _ => rfl) (fun _ => rfl) dX12_init_679 (fun H locs hfl hNl hW => ?_)
  refine z_na (pc2 := 685) X cf_X12 ht hfl hNl hW h0 dX12_init_682 (fun _ h => lv_bipush (v := 9) X.1 X.2.1 dX12_init_683 rfl h) (List.mem_cons_of_mem _ gw38) rfl (Or.inl ⟨rfl, rfl⟩) (a := 1) (N' := 9) (by decide) (by decide) (by decide) (cells' := 81) (slots' := 144276) rfl rfl (Nat.le_of_ble_eq_true rfl) (Nat.le_of_ble_eq_true rfl) dX12_init_685 100 (by decide) (by decide) (List.mem_cons_of_mem _ gw236) rfl (fun _ => rfl) (fun _ => rfl) dX12_init_687 (fun H locs hfl hNl hW => ?_)
  refine z_na (pc2 := 693) X cf_X12 ht hfl hNl hW h0 dX12_init_690 (fun _ h => lv_bipush (v := 9) X.1 X.2.1 dX12_init_691 rfl h) (List.mem_cons_of_mem _ gw38) rfl (Or.inl ⟨rfl, rfl⟩) (a := 1) (N' := 9) (by decide) (by decide) (by decide) (cells' := 82) (slots' := 144285) rfl rfl (Nat.le_of_ble_eq_true rfl) (Nat.le_of_ble_eq_true rfl) dX12_init_693 101 (by decide) (by decide) (List.mem_cons_of_mem _ gw237) rfl (fun _ => rfl) (fun _ => rfl) dX12_init_695 (fun H locs hfl hNl hW => ?_)
  refine z_na (pc2 := 702) X cf_X12 ht hfl hNl hW h0 dX12_init_698 (fun _ h => lv_sipush (v := 300) X.1 X.2.1 dX12_init_699 rfl h) (List.mem_cons_of_mem _ gw38) rfl (Or.inl ⟨rfl, rfl⟩) (a := 1) (N' := 300) (by decide) (by decide) (by decide) (cells' := 83) (slots' := 144585) rfl rfl (Nat.le_of_ble_eq_true rfl) (Nat.le_of_ble_eq_true rfl) dX12_init_702 102 (by decide) (by decide) (List.mem_cons_of_mem _ gw238) rfl (fun _ => rfl) (fun _ => rfl) dX12_init_704 (fun H locs hfl hNl hW => ?_)
  refine z_na (pc2 := 710) X cf_X12 ht hfl hNl hW h0 dX12_init_707 (fun _ h => lv_bipush (v := 9) X.1 X.2.1 dX12_init_708 rfl h) (List.mem_cons_of_mem _ gw38) rfl (Or.inl ⟨rfl, rfl⟩) (a := 1) (N' := 9) (by decide) (by decide) (by decide) (cells' := 84) (slots' := 144594) rfl rfl (Nat.le_of_ble_eq_true rfl) (Nat.le_of_ble_eq_true rfl) dX12_init_710 103 (by decide) (by decide) (List.mem_cons_of_mem _ gw239) rfl (fun _ => rfl) (fun _ => rfl) dX12_init_712 (fun H locs hfl hNl hW => ?_)
  refine z_na (pc2 := 718) X cf_X12 ht hfl hNl hW h0 dX12_init_715 (fun _ h => lv_bipush (v := 108) X.1 X.2.1 dX12_init_716 rfl h) (List.mem_cons_of_mem _ gw38) rfl (Or.inl ⟨rfl, rfl⟩) (a := 1) (N' := 108) (by decide) (by decide) (by decide) (cells' := 85) (slots' := 144702) rfl rfl (Nat.le_of_ble_eq_true rfl) (Nat.le_of_ble_eq_true rfl) dX12_init_718 104 (by decide) (by decide) (List.mem_cons_of_mem _ gw240) rfl (fun _ => rfl) (fun _ => rfl) dX12_init_720 (fun H locs hfl hNl hW => ?_)
  refine z_na (pc2 := 726) X cf_X12 ht hfl hNl hW h0 dX12_init_723 (fun _ h => lv_bipush (v := 108) X.1 X.2.1 dX12_init_724 rfl h) (List.mem_cons_of_mem _ gw38) rfl (Or.inl ⟨rfl, rfl⟩) (a := 1) (N' := 108) (by decide) (by decide) (by decide) (cells' := 86) (slots' := 144810) rfl rfl (Nat.le_of_ble_eq_true rfl) (Nat.le_of_ble_eq_true rfl) dX12_init_726 105 (by decide) (by decide) (List.mem_cons_of_mem _ gw241) rfl (fun _ => rfl) (fun _ => rfl) dX12_init_728 (fun H locs hfl hNl hW => ?_)
  refine z_na (pc2 := 735) X cf_X12 ht hfl hNl hW h0 dX12_init_731 (fun _ h => lv_sipush (v := 21600) X.1 X.2.1 dX12_init_732 rfl h) (List.mem_cons_of_mem _ gw38) rfl (Or.inl ⟨rfl, rfl⟩) (a := 1) (N' := 21600) (by decide) (by decide) (by decide) (cells' := 87) (slots' := 166410) rfl rfl (Nat.le_of_ble_eq_true rfl) (Nat.le_of_ble_eq_true rfl) dX12_init_735 106 (by decide) (by decide) (List.mem_cons_of_mem _ gw242) rfl (fun _ => rfl) (fun _ => rfl) dX12_init_737 (fun H locs hfl hNl hW => ?_)
  have hW : yW G B s H locs (.inr (11, mF) :: mN) := hW
  have hP := m_xP hG hW.1
  have e0 : B + 0 = G.2.2 200 0 := (hG 200 (Nat.le_refl _) (by decide)).symm
  rw [e0] at hl
  refine lv_aload_n X.1 X.2.1 dX12_init_740 rfl (lv_at hl 0 rfl) ?_
  have hpr := k_pre (b := true) hP hW.2 hK hR hG.le hBs [.ref (G.2.2 200 0)]
  refine va_callv (va_runV (As := []) (rest := []) ⟨X.1, X.2.1, X.2.2.1, X.2.2.2.1, X.2.2.2.2.1⟩ (c_X12_findBoxes l G hG.xD H.size S0m _ hb) (cwV 0 X.2.2.2.2.1 (gV gw243 gw244 gw245 gw5 gw246) rfl rfl rfl ⟨rfl, hd_X12_findBoxes⟩ ⟨Nat.le_of_ble_eq_true rfl, Nat.le_of_ble_eq_true rfl⟩) ⟨hpr.1, k_recv hP hK ob_Model z_1, hpr.2⟩ rfl rfl hl.1 rfl (lv_room (Nat.le_of_ble_eq_true rfl)) dX12_init_741 ⟨Nat.le_of_ble_eq_true rfl, Nat.le_of_ble_eq_true rfl⟩) hW.2 (fun q _ h => k_sub hW.2 hG.le hBs q h) (k_sub hW.2 hG.le hBs) (fun u t H1 locs1 ht hvm hw hB hz hk hS => ?_)
  cases hw
  have hW1 : gW G B s H1 locs1 S1 := ⟨by rw [← ht]; exact hB.1, hS⟩
  refine lv_iconst (v := 0) X.1 X.2.1 dX12_init_744 rfl ?_
  refine lv_istore_n (lv' := [(1, .int 0), (0, .ref (G.2.2 200 0))]) X.1 X.2.1 dX12_init_745 rfl hl (by decide) rfl (fun ls hl => ?_)
  exact w_X12_loop X hG 9 0 rfl _ _ _ hW1 (lv_sub hl [1, 0] rfl)
