/-! Arrays.fill on a new array, Queue() -/
theorem i9 : ∀ i : Nat, i < 12 → ¬ (12 : Int32) ≤ Int32.ofNat i ∧ (Int32.ofNat i).toNatClampNeg = i ∧ ¬ Int32.ofNat i < 0 ∧ Int32.ofNat i + 1 = Int32.ofNat (i + 1) := by decide +kernel
theorem i8 : ∀ i : Nat, i < 9 → ¬ (9 : Int32) ≤ Int32.ofNat i := by decide +kernel
section FILL
variable {p : Program} {l : Launch} {e : Env} {R : Room} {s : State} {m : MethodId} {args : Array Value} {below : List Frame} {meth : Method} {c : Code} {H : Heap} {locs : List Loc} {cells slots : Nat} {Q : State → Prop}
variable {cc : ByteArray} {pc : Nat} {ls : Array Slot} {rest : List Value} {G : xG} {B : Nat} {V : List pE}
theorem y_iast (hx : p.tables.exec = Jvm.exec) (hb : c.code = cc) (hK : xK G s) (hW : yW G B s H locs V) {n j : Nat} {is : List Int32} (hat : V[j]? = some (.inl (1, n, is, []))) {i x : Int32} (hi : i.toNatClampNeg = is.length) (h0 : ¬ i < 0) (hlt : is.length < n) (hd : decode cc pc = .ok (.iastore, 1))
    (kk : ∀ H1 locs1, yW G B s H1 locs1 (V.set j (.inl (1, n, is ++ [x], []))) → W p l e R s m args below meth c H1 locs1 cells slots Q (F0 m (pc + 1) ls rest)) : W p l e R s m args below meth c H locs cells slots Q (F0 m pc ls (.int x :: .int i :: .ref (B + j) :: rest)) := by
  have hA : H[B + j]? = some (arrV (G.2.1 1) n (fun a => .int (is.getD a 0))) := hW.1.2 j _ hat
  refine W.iast hx hb hA ((hK.2 1 _ rfl).1 n (fun a => .int (is.getD a 0))) (fun q => by cases q) (by rw [arrV_size, hi]; exact fun q => q.elim h0 (fun z => by omega)) rfl rfl hd fun H1 f1 z oq => ?_
  refine kk H1 _ ⟨hW.1.put z oq ?_, ⟨by rw [z]; exact hW.2.1, fun q a b => by rw [oq q (fun z => b (by show B ≤ q; rw [z]; exact Nat.le_add_right _ _))]; exact hW.2.2.1 q a b, fun q hq => by
      rcases List.mem_append.mp hq with h | h
      · exact hW.2.2.2 q h
      · rw [List.mem_singleton.mp h]; exact Nat.le_add_right _ _⟩⟩
  show H1[B + j]? = some (arrV (G.2.1 1) n (fun a => .int ((is ++ [x]).getD a 0)))
  rw [f1, arrV_store, hi]
  refine congrArg some (congrArg (arrV _ _) (funext fun a => ?_))
  unfold updV
  by_cases ha : a = is.length
  · rw [if_pos ha, ha]
    simp
  · rw [if_neg ha]
    by_cases hl : a < is.length
    · simp [List.getD, List.getElem?_append_left hl]
    · have h1 : is[a]? = none := List.getElem?_eq_none (by omega)
      have h2 : (is ++ [x])[a]? = none := List.getElem?_eq_none (by rw [List.length_append]; show is.length + 1 ≤ a; omega)
      simp [List.getD, h1, h2]
end FILL
theorem set2 {V : List pE} {j : Nat} {x y : pE} : (V.set j x).set j y = V.set j y := List.set_set ..
set_option maxRecDepth 100000 in
set_option maxHeartbeats 4000000 in
theorem c_fill9 (l : Launch) (G : xG) (B : Nat) (V : List pE) (j : Nat) (x : Int32) (hat : V[j]? = some (.inl (1, 9, [], []))) : Met l yJ7_fill_53178 wsJ7_fill_53178 rmJ7_fill_53178 (yPre G B V [.ref (B + j), .int x]) (yQ G B (V.set j (.inl (1, 9, List.replicate 9 x, [])))) 0 0 (fun q => B ≤ q) := by
  refine Met.ofW (cc := cJ7_fill_53178) (maxL := 4) (ret := none) (by decide) rfl ?_
  intro p e s m args below meth c s₁ BB hml hv
  obtain ⟨rfl, hP, hK, hN⟩ := hv
  have hx := BB.exec
  have hb := BB.bytes
  have hr := BB.returns
  have hlocks := BB.notSynchronized
  have hjl : j < V.length := (List.getElem?_eq_some_iff.mp hat).1
  rw [lg_entry_eq]
  have hl := lv_entry [.ref (B + j), .int x] (n := 4) (Nat.le_of_ble_eq_true rfl)
  generalize (lg_sl ([.ref (B + j), .int x]) ++ List.replicate (4 - (lg_sl ([.ref (B + j), .int x])).length) Slot.unset).toArray = ls at hl ⊢
  have hl : lv_has ls 4 [(0, .ref (B + j)), (1, .int x)] := hl
  have hW : yW G B s s.heap [] V := ⟨hP, va_S.rf⟩
  have loop : ∀ (k i : Nat), i + k = 9 → ∀ (H : Heap) (locs : List Loc) (ls : Array Slot), yW G B s H locs (V.set j (.inl (1, 9, List.replicate i x, []))) → lv_has ls 4 [(0, .ref (B + j)), (1, .int x), (2, .int (Int32.ofNat i)), (3, .int 9)] → W p l e (headSpec wsJ7_fill_53178 rmJ7_fill_53178).room s m [Value.ref (B + j), .int x].toArray below meth c H locs 0 0 (MQ below (yQ G B (V.set j (.inl (1, 9, List.replicate 9 x, [])))) [Value.ref (B + j), .int x].toArray s 0 0 (fun q => B ≤ q)) (F0 m 5 ls []) := by
    intro k
    induction k with
    | zero =>
      intro i hi H locs ls hW hl
      have h9 : i = 9 := by omega
      subst h9
      refine lv_iload_n hx hb dJ7_fill_53178_5 rfl (lv_at hl 2 rfl) ?_
      refine lv_iload_n hx hb dJ7_fill_53178_6 rfl (lv_at hl 3 rfl) ?_
      refine lv_icmp_ge (tgt := 20) hx hb dJ7_fill_53178_7 (by decide) (fun _ => ?_) (fun q => absurd (by decide) q)
      exact W.vret hx hb hr (fun t ht hWm => ⟨⟨_, rfl, rfl, by rw [ht]; exact hW.1, va_K.moved hWm.alike hK⟩, hW.2.F ht⟩) hW.2.2.2 dJ7_fill_53178_20 hlocks
    | succ k ih =>
      intro i hi H locs ls hW hl
      obtain ⟨-, f2, f3, f4⟩ := i9 i (by omega)
      refine lv_iload_n hx hb dJ7_fill_53178_5 rfl (lv_at hl 2 rfl) ?_
      refine lv_iload_n hx hb dJ7_fill_53178_6 rfl (lv_at hl 3 rfl) ?_
      refine lv_icmp_ge (tgt := 20) hx hb dJ7_fill_53178_7 (by decide) (fun q => absurd q (i8 i (by omega))) (fun _ => ?_)
      refine lv_aload_n hx hb dJ7_fill_53178_10 rfl (lv_at hl 0 rfl) ?_
      refine lv_iload_n hx hb dJ7_fill_53178_11 rfl (lv_at hl 2 rfl) ?_
      refine lv_iload_n hx hb dJ7_fill_53178_12 rfl (lv_at hl 1 rfl) ?_
      refine y_iast hx hb hK hW (List.getElem?_set_self hjl) (by rw [f2, List.length_replicate]) f3 (by rw [List.length_replicate]; omega) dJ7_fill_53178_13 (fun H locs hW => ?_)
      refine lv_iinc (v := Int32.ofNat (i + 1)) (lv' := [(2, .int (Int32.ofNat (i + 1))), (0, .ref (B + j)), (1, .int x), (3, .int 9)]) hx hb dJ7_fill_53178_14 hl (k := 2) rfl f4 (by decide) rfl (fun ls hl => ?_)
      refine lv_goto (tgt := 5) hx hb dJ7_fill_53178_17 (by decide) ?_
      rw [set2, show List.replicate i x ++ [x] = List.replicate (i + 1) x from List.replicate_succ'.symm] at hW
      exact ih (i + 1) (by omega) _ _ _ hW (lv_sub hl [1, 2, 0, 3] rfl)
  refine lv_iconst (v := 0) hx hb dJ7_fill_53178_0 rfl ?_
  refine lv_istore_n (lv' := [(2, .int 0), (0, .ref (B + j)), (1, .int x)]) hx hb dJ7_fill_53178_1 rfl hl (by decide) rfl (fun ls hl => ?_)
  refine lv_aload_n hx hb dJ7_fill_53178_2 rfl (lv_at hl 1 rfl) ?_
  have hP1 : va_P G.1 vwCl [(B + j, pt G B (.inl (1, 9, [], [])))] s.heap := by
    intro k q hk
    have h0 : k < 1 := (List.getElem?_eq_some_iff.mp hk).1
    rw [show k = 0 by omega] at hk
    cases hk
    exact hP.2 j _ hat
  refine va_alen (v := 9) hx hb hK hP1 0 1 rfl rfl rfl dJ7_fill_53178_3 ?_
  refine lv_istore_n (lv' := [(3, .int 9), (2, .int 0), (0, .ref (B + j)), (1, .int x)]) hx hb dJ7_fill_53178_4 rfl hl (by decide) rfl (fun ls hl => ?_)
  refine loop 9 0 rfl _ _ _ ?_ (lv_sub hl [2, 3, 1, 0] rfl)
  have e1 : V.set j (.inl (1, 9, List.replicate 0 x, [])) = V := by
    apply List.ext_getElem?
    intro a
    by_cases ha : j = a
    · subst ha
      rw [List.getElem?_set_self hjl, hat]
      rfl
    · rw [List.getElem?_set_ne ha]
  rw [e1]
  exact hW
/-! Queue() -/
def qR (n i : Nat) : List Nat := (List.range i).map (fun j => n + (1 + 2 * j))
def qC (n i : Nat) : List pE := (List.range i).flatMap (fun j => .inr (5, fin_X6 (n + (1 + 2 * j + 1))) :: new_X6 (n + (1 + 2 * j + 1)))
def qN (n i : Nat) : List pE := .inl (6, 12, [], qR n i) :: qC n i
theorem qR_s (n i : Nat) : qR n (i + 1) = qR n i ++ [n + (1 + 2 * i)] := by unfold qR; rw [List.range_succ, List.map_append]; rfl
theorem qC_s (n i : Nat) : qC n (i + 1) = qC n i ++ .inr (5, fin_X6 (n + (1 + 2 * i + 1))) :: new_X6 (n + (1 + 2 * i + 1)) := by unfold qC; rw [List.range_succ, List.flatMap_append]; simp
theorem qC_len (n i : Nat) : (qC n i).length = 2 * i := by
  induction i with
  | zero => rfl
  | succ i ih => rw [qC_s, List.length_append, ih, List.length_cons, new_X6_len]; omega
theorem qN_len (n i : Nat) : (qN n i).length = 1 + 2 * i := by unfold qN; rw [List.length_cons, qC_len]; omega
def fin_X9 (n : Nat) : List Value := [.ref (n + 0), .int 0, .int 0, .int 0]
def new_X9 (n : Nat) : List pE := qN n 12
theorem new_X9_len (n : Nat) : (new_X9 n).length = 25 := qN_len n 12
def df_X9 : List Value := [.null, .int 0, .int 0, .int 0]
theorem cf_X9 {w0 : Cond} : yF RX9 TX9 4 8 tyX9 (w0 :: GW) := ⟨fun w h => List.mem_cons_of_mem _ (gin_X9 w h), tyX9_ok, nmX9, rfl⟩
theorem df_X9_ok (B : Nat) : ∀ j, j < 4 → defaultValue (tyX9 j) = vp_V (df_X9.map (shV B)) j := by
  intro j hj
  rcases (show j = 0 ∨ j = 1 ∨ j = 2 ∨ j = 3 by omega) with rfl | rfl | rfl | rfl <;> rfl
def rmX9_init : Room := { frames := 2, cells := 25, slots := 2616, locals := 32 }
theorem hd_init6 : yX6_init.cls ≠ "java/lang/invoke/MethodHandle" ∧ yX6_init.cls ≠ "java/lang/invoke/VarHandle" ∧ (parseMethodDescriptor yX6_init.desc).map (fun d => d.parameters.length) = some 0 := by decide +kernel
set_option maxRecDepth 100000 in
set_option maxHeartbeats 4000000 in
theorem w_X9_init {p : Program} {l : Launch} {e : Env} {s : State} {m : MethodId} {args : Array Value} {below : List Frame} {meth : Method} {c : Code} {G : xG} {B t : Nat} {V : List pE} (X : yC G B p s m args c cX9_init 2 wsX9_init RX9 meth) (ht : t < V.length) : ∀ (k i : Nat), i + k = 12 → ∀ (H : Heap) (locs : List Loc) (ls : Array Slot), yW G B s H locs (zl V t 8 (fin_X9 V.length) (qN V.length i)) → lv_has ls 2 [(0, .ref (B + t)), (1, .int (Int32.ofNat i))] → W p l e rmX9_init s m args below meth c H locs (1 + 2 * i) (12 + 217 * i) (MQ below (yQ G B (zl V t 8 (fin_X9 V.length) (new_X9 V.length))) args s 25 2616 (fun q => B ≤ q)) (F0 m 15 ls []) := by
  intro k
  induction k with
  | zero =>
    intro i hi H locs ls hW hl
    have h9 : i = 12 := by omega
    subst h9
    refine lv_iload_n X.1 X.2.1 dX9_init_15 rfl (lv_at hl 1 rfl) ?_
    refine lv_bipush (v := 12) X.1 X.2.1 dX9_init_16 rfl ?_
    refine lv_icmp_ge (tgt := 40) X.1 X.2.1 dX9_init_18 (by decide) (fun _ => ?_) (fun q => absurd (by decide) q)
    exact y_ret X hW dX9_init_40
  | succ k ih =>
    intro i hi H locs ls hW hl
    obtain ⟨f1, f2, f3, f4⟩ := i9 i (by omega)
    refine lv_iload_n X.1 X.2.1 dX9_init_15 rfl (lv_at hl 1 rfl) ?_
    refine lv_bipush (v := 12) X.1 X.2.1 dX9_init_16 rfl ?_
    refine lv_icmp_ge (tgt := 40) X.1 X.2.1 dX9_init_18 (by decide) (fun q => absurd q f1) (fun _ => ?_)
    refine lv_aload_n X.1 X.2.1 dX9_init_21 rfl (lv_at hl 0 rfl) ?_
    refine y_get (k := 0) (v := .ref (V.length + 0)) X hW (zl_at ht) cf_X9.1 rfl (by decide) (List.mem_cons_of_mem _ gw119) rfl dX9_init_22 ?_
    refine lv_iload_n X.1 X.2.1 dX9_init_25 rfl (lv_at hl 1 rfl) ?_
    refine z_cal (pc2 := 30) (fin := fin_X6) (news := new_X6) (av := []) (mc := 1) (ms := 208) (cells' := 1 + 2 * (i + 1)) (slots' := 12 + 217 * (i + 1)) X (qN_len V.length i) hW cf_X6 (List.mem_cons_of_mem _ gw118) (List.mem_cons_of_mem _ gw120) (List.mem_cons_of_mem _ gw121) (df_X6_ok B) rfl rfl (show 1 + 2 * i + 1 ≤ 25 by omega) (show 12 + 217 * i + 9 ≤ 2616 by omega) dX9_init_26 dX9_init_29 new_X6_len (fun _ _ _ h => h) (fun H1 hW1 => va_runIN ⟨X.1, X.2.1, X.2.2.1, X.2.2.2.1, X.2.2.2.2.1⟩ ((c_X6_init l G B).use (qN_len V.length i)) ⟨va_cnB 0 X.2.2.2.2.1 (gN gw123) rfl rfl rfl X.2.2.2.2.2.2.2.2.2.2.1.2.2.2.2.2.2.2 (X.2.2.2.2.1 _ (List.mem_cons_of_mem _ gw121)) hd_init6 ⟨Nat.le_of_ble_eq_true rfl, Nat.le_of_ble_eq_true rfl⟩, rfl, X.2.2.2.2.1 _ (List.mem_cons_of_mem _ gw122)⟩ (y_pre X hW1 _) rfl rfl hl.1 rfl (lv_room (Nat.le_of_ble_eq_true rfl)) dX9_init_30 ⟨show 1 + 2 * i + 1 + 1 ≤ 25 by omega, show 12 + 217 * i + 9 + 208 ≤ 2616 by omega⟩) (by omega) (by omega) (fun H locs hNl hW => ?_)
    refine y_aast (cj := 5) X hW (zl_in.trans rfl) (by decide) (v := V.length + (1 + 2 * i)) (zl_in.trans (by rw [List.getElem?_append_right (by rw [qN_len]; omega), qN_len, Nat.sub_self]; rfl)) rfl rfl (by rw [f2]; unfold qR; rw [List.length_map, List.length_range]) f3 (by unfold qR; rw [List.length_map, List.length_range]; omega) dX9_init_33 (fun H locs hW => ?_)
    rw [zl_inset] at hW
    have e1 : (qN V.length i ++ (.inr (5, fin_X6 (V.length + (1 + 2 * i + 1))) : pE) :: new_X6 (V.length + (1 + 2 * i + 1))).set 0 (.inl (6, 12, [], qR V.length i ++ [V.length + (1 + 2 * i)])) = qN V.length (i + 1) := by
      unfold qN
      rw [qR_s, qC_s]
      rfl
    rw [e1] at hW
    refine lv_iinc (v := Int32.ofNat (i + 1)) (lv' := [(1, .int (Int32.ofNat (i + 1))), (0, .ref (B + t))]) X.1 X.2.1 dX9_init_34 hl (k := 1) rfl f4 (by decide) rfl (fun ls hl => ?_)
    refine lv_goto (tgt := 15) X.1 X.2.1 dX9_init_37 (by decide) ?_
    exact ih (i + 1) (by omega) _ _ _ hW (lv_sub hl [1, 0] rfl)
set_option maxRecDepth 100000 in
set_option maxHeartbeats 4000000 in
theorem c_X9_init (l : Launch) (G : xG) (B : Nat) : yM l G B yX9_init wsX9_init rmX9_init 8 df_X9 fin_X9 new_X9 [] 25 2616 := by
  intro V t ht
  refine y_start (cc := cX9_init) (maxL := 2) (by decide) rfl rfl (Nat.le_of_ble_eq_true rfl) (fun p e s m below meth c X hW ls hl => ?_)
  have h0 : ls[0]? = some (.val (.ref (B + t))) := lv_at hl 0 rfl
  have hW : yW G B s s.heap [] (zl V t 8 df_X9 []) := by unfold zl; rw [List.append_nil]; exact hW
  have hfl : df_X9.length = 4 := rfl
  have hNl : ([] : List pE).length = 0 := rfl
  refine z_obj X (List.mem_cons_of_mem _ gw117) (List.mem_cons_of_mem _ gw11) (List.mem_cons_of_mem _ gw12) hl h0 ⟨Nat.le_of_ble_eq_true rfl, Nat.le_of_ble_eq_true rfl⟩ dX9_init_0 dX9_init_1 ?_
  refine z_nq (pc2 := 7) (a := 6) X cf_X9 ht hfl hNl hW h0 dX9_init_4 (fun _ h => lv_bipush (v := 12) X.1 X.2.1 dX9_init_5 rfl h) (List.mem_cons_of_mem _ gw118) X.2.2.2.2.2.2.2.2.2.2.2.2.2.1 rfl (by decide) (N' := 12) (by decide) (by decide) (by decide) (cells' := 1) (slots' := 12) rfl rfl (Nat.le_of_ble_eq_true rfl) (Nat.le_of_ble_eq_true rfl) dX9_init_7 0 (by decide) (by decide) (List.mem_cons_of_mem _ gw119) rfl (fun _ => rfl) (fun _ => rfl) dX9_init_10 (fun H locs hfl hNl hW => ?_)
  refine lv_iconst (v := 0) X.1 X.2.1 dX9_init_13 rfl ?_
  refine lv_istore_n (lv' := [(1, .int 0), (0, .ref (B + t))]) X.1 X.2.1 dX9_init_14 rfl hl (by decide) rfl (fun ls hl => ?_)
  exact w_X9_init X ht 12 0 rfl _ _ _ hW (lv_sub hl [1, 0] rfl)
