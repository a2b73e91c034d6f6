/-! CONSTRUCTORS: whole statements. An object of class ci at the place t of V, its fields fs; the new cells N behind V -/
def yM (l : Launch) (G : xG) (B : Nat) (y : MethodName) (ws : List Cond) (rm : Room) (cj : Nat) (df : List Value) (fin : Nat → List Value) (news : Nat → List pE) (av : List Value) (mc ms : Nat) : Prop :=
  ∀ (V : List pE) (t : Nat), t < V.length → Met l y ws rm (yPre G B (V.set t (.inr (cj, df))) (.ref (B + t) :: av)) (yQ G B (zl V t cj (fin V.length) (news V.length))) mc ms (fun q => B ≤ q)
def yF (C : String) (T : u_T) (NN ci : Nat) (ty0 : Nat → FieldType) (Ts : List Cond) : Prop := (∀ w ∈ u_ws C T NN, w ∈ Ts) ∧ (∀ k, k < NN → parseFieldDescriptor (T k).2.2.1 = some (ty0 k)) ∧ (∀ a, a < NN → ∀ b, b < NN → a ≠ b → (T a).2.1 ≠ (T b).2.1) ∧ vwCl[ci]? = some (C, T, NN)
theorem zl_snoc {V N : List pE} {t ci kN : Nat} {fs : List Value} {x y : pE} {Z : List pE} (hN : N.length = kN) : (zl V t ci fs (N ++ [x])).set (V.length + kN) y ++ Z = zl V t ci fs (N ++ y :: Z) := by
  rw [zl_inset, List.set_append_right _ _ (by omega), show kN - N.length = 0 by omega]
  unfold zl
  rw [List.append_assoc, List.append_assoc]
  rfl
theorem yM.use {l : Launch} {G : xG} {B : Nat} {y : MethodName} {ws : List Cond} {rm : Room} {cj : Nat} {df : List Value} {fin : Nat → List Value} {news : Nat → List pE} {av : List Value} {mc ms : Nat} (h : yM l G B y ws rm cj df fin news av mc ms) {V N : List pE} {t ci kN : Nat} {fs : List Value} (hN : N.length = kN) :
    Met l y ws rm (yPre G B (zl V t ci fs (N ++ [.inr (cj, df)])) (.ref (B + (V.length + kN)) :: av)) (yQ G B (zl V t ci fs (N ++ .inr (cj, fin (V.length + (kN + 1))) :: news (V.length + (kN + 1))))) mc ms (fun q => B ≤ q) := by
  have hL : (zl V t ci fs (N ++ [.inr (cj, df)])).length = V.length + (kN + 1) := by rw [zl_len, List.length_append, hN]; rfl
  have h1 := h (zl V t ci fs (N ++ [.inr (cj, df)])) (V.length + kN) (by rw [hL]; omega)
  have e1 : (zl V t ci fs (N ++ [.inr (cj, df)])).set (V.length + kN) (.inr (cj, df)) = zl V t ci fs (N ++ [.inr (cj, df)]) := by
    have := zl_snoc (V := V) (t := t) (ci := ci) (fs := fs) (x := .inr (cj, df)) (y := .inr (cj, df)) (Z := []) hN
    rw [List.append_nil] at this
    exact this
  rw [e1, hL] at h1
  have e2 : zl (zl V t ci fs (N ++ [.inr (cj, df)])) (V.length + kN) cj (fin (V.length + (kN + 1))) (news (V.length + (kN + 1))) = zl V t ci fs (N ++ .inr (cj, fin (V.length + (kN + 1))) :: news (V.length + (kN + 1))) := zl_snoc hN
  rw [e2] at h1
  exact h1
section ZROWS
variable {p : Program} {l : Launch} {e : Env} {R : Room} {s : State} {m : MethodId} {args : Array Value} {below : List Frame} {meth : Method} {c : Code} {H : Heap} {locs : List Loc} {cells slots : Nat} {Q : State → Prop}
variable {cc : ByteArray} {pc pc2 : Nat} {ls : Array Slot} {rest : List Value} {G : xG} {B nL : Nat} {Ts : List Cond} {own : String} {V N : List pE} {t ci kN M : Nat} {fs : List Value} {C : String} {T : u_T} {NN : Nat} {ty0 : Nat → FieldType} {cells' slots' : Nat}
/-- aload_0, a number, newarray, putfield -/
theorem z_na (X : yC G B p s m args c cc nL Ts own meth) (hF : yF C T NN ci ty0 Ts) (ht : t < V.length) (hfl : fs.length = M) (hNl : N.length = kN) (hW : yW G B s H locs (zl V t ci fs N)) (h0 : ls[0]? = some (.val (.ref (B + t)))) (d0 : decode cc pc = .ok (.aload_n 0, 1))
    {n : Int32} (hp : ∀ st, W p l e R s m args below meth c H locs cells slots Q (F0 m pc2 ls (.int n :: st)) → W p l e R s m args below meth c H locs cells slots Q (F0 m (pc + 1) ls st)) {atype : ArrayType} {ty : FieldType} (harr : Cond.arrayClass ty ∈ Ts) (hty : newarray.typeOf atype = ty) {a : Nat} (ha : (a = 1 ∧ ty = .int) ∨ (a = 2 ∧ ty = .boolean) ∨ (a = 3 ∧ ty = .long)) {N' : Nat} (hn : ¬ n < 0) (hN : n.toNatClampNeg = N') (hb : N' * 8 ≤ 536870912) (e1 : cells + 1 = cells') (e2 : slots + N' = slots') (hc : cells' ≤ R.cells) (hs : slots' ≤ R.slots) (d2 : decode cc pc2 = .ok (.newarray atype, 2))
    {idx : Nat} (k : Nat) (hk : k < NN) (hkM : k < M) (hlink : Cond.fieldLink own idx (T k).1 (T k).2.1 (T k).2.2.1 ∈ Ts) (hdecl : (T k).1 = own) (hnr : ∀ x : Nat, narrow (ty0 k) (.ref x) = .ref x) (hfr : ∀ x : Nat, fits (ty0 k) (.ref x) = true) (d3 : decode cc (pc2 + 2) = .ok (.putfield idx, 3))
    (kk : ∀ H1 locs1, (fs.set k (.ref (V.length + kN))).length = M → (N ++ [pA a N']).length = kN + 1 → yW G B s H1 locs1 (zl V t ci (fs.set k (.ref (V.length + kN))) (N ++ [pA a N'])) → W p l e R s m args below meth c H1 locs1 cells' slots' Q (F0 m (pc2 + 5) ls [])) : W p l e R s m args below meth c H locs cells slots Q (F0 m pc ls []) := by
  refine lv_aload_n X.1 X.2.1 d0 rfl h0 (hp _ ?_)
  refine y_newa X hW harr hty ha hn hN hb e1 e2 hc hs d2 (fun H1 hW1 => ?_)
  rw [zl_push] at hW1
  rw [zl_len, hNl]
  refine y_put X hW1 (zl_at ht) hF.1 ty0 hF.2.1 hF.2.2.1 hF.2.2.2 hk hlink hdecl (v := .ref (V.length + kN)) (hnr _) (hfr _) (by rw [hfl]; exact hkM) d3 (fun H2 locs2 hW2 => ?_)
  rw [zl_set ht] at hW2
  exact kk H2 locs2 (by rw [List.length_set]; exact hfl) (by rw [List.length_append, hNl]; rfl) hW2
/-- aload_0, a number, putfield -/
theorem z_pv (X : yC G B p s m args c cc nL Ts own meth) (hF : yF C T NN ci ty0 Ts) (ht : t < V.length) (hfl : fs.length = M) (hW : yW G B s H locs (zl V t ci fs N)) (h0 : ls[0]? = some (.val (.ref (B + t)))) (d0 : decode cc pc = .ok (.aload_n 0, 1))
    {v : Value} (hp : ∀ st, W p l e R s m args below meth c H locs cells slots Q (F0 m pc2 ls (v :: st)) → W p l e R s m args below meth c H locs cells slots Q (F0 m (pc + 1) ls st)) (hv : shV B v = v)
    {idx : Nat} (k : Nat) (hk : k < NN) (hkM : k < M) (hlink : Cond.fieldLink own idx (T k).1 (T k).2.1 (T k).2.2.1 ∈ Ts) (hdecl : (T k).1 = own) (hnr : narrow (ty0 k) v = v) (hfr : fits (ty0 k) v = true) (d3 : decode cc pc2 = .ok (.putfield idx, 3))
    (kk : ∀ H1 locs1, (fs.set k v).length = M → yW G B s H1 locs1 (zl V t ci (fs.set k v) N) → W p l e R s m args below meth c H1 locs1 cells slots Q (F0 m (pc2 + 3) ls [])) : W p l e R s m args below meth c H locs cells slots Q (F0 m pc ls []) := by
  refine lv_aload_n X.1 X.2.1 d0 rfl h0 (hp _ ?_)
  have h := y_put (l := l) (e := e) (R := R) (below := below) (cells := cells) (slots := slots) (Q := Q) (ls := ls) (rest := []) X hW (zl_at ht) hF.1 ty0 hF.2.1 hF.2.2.1 hF.2.2.2 hk hlink hdecl (v := v) (by rw [hv]; exact hnr) (by rw [hv]; exact hfr) (by rw [hfl]; exact hkM) d3 (fun H2 locs2 hW2 => by
    rw [zl_set ht] at hW2
    exact kk H2 locs2 (by rw [List.length_set]; exact hfl) hW2)
  rw [hv] at h
  exact h
/-- aload_0, two numbers, multianewarray, putfield -/
theorem z_mna (X : yC G B p s m args c cc nL Ts own meth) (hF : yF C T NN ci ty0 Ts) (ht : t < V.length) (hfl : fs.length = M) (hNl : N.length = kN) (hW : yW G B s H locs (zl V t ci fs N)) (h0 : ls[0]? = some (.val (.ref (B + t)))) (d0 : decode cc pc = .ok (.aload_n 0, 1))
    {n n2 : Int32} (hp : ∀ st, W p l e R s m args below meth c H locs cells slots Q (F0 m pc2 ls (.int n2 :: .int n :: st)) → W p l e R s m args below meth c H locs cells slots Q (F0 m (pc + 1) ls st)) {index : Nat} (hcl : Cond.classLink own index "[[I" ∈ Ts) (harr : Cond.arrayClass .int ∈ Ts) {N' K' : Nat} (hn : ¬ n < 0) (hk2 : ¬ n2 < 0) (hN : n.toNatClampNeg = N') (hM : n2.toNatClampNeg = K') (hb1 : N' * 4 ≤ 536870912) (hb2 : K' * 4 ≤ 536870912) (e1 : cells + 1 + N' = cells') (e2 : slots + N' + N' * K' = slots') (hc : cells' ≤ R.cells) (hs : slots' ≤ R.slots) (d2 : decode cc pc2 = .ok (.multianewarray index 2, 4))
    {idx : Nat} (k : Nat) (hk : k < NN) (hkM : k < M) (hlink : Cond.fieldLink own idx (T k).1 (T k).2.1 (T k).2.2.1 ∈ Ts) (hdecl : (T k).1 = own) (hnr : ∀ x : Nat, narrow (ty0 k) (.ref x) = .ref x) (hfr : ∀ x : Nat, fits (ty0 k) (.ref x) = true) (d3 : decode cc (pc2 + 4) = .ok (.putfield idx, 3))
    (kk : ∀ H1 locs1, (fs.set k (.ref (V.length + kN))).length = M → (N ++ pM (V.length + kN) N' K').length = kN + 1 + N' → yW G B s H1 locs1 (zl V t ci (fs.set k (.ref (V.length + kN))) (N ++ pM (V.length + kN) N' K')) → W p l e R s m args below meth c H1 locs1 cells' slots' Q (F0 m (pc2 + 7) ls [])) : W p l e R s m args below meth c H locs cells slots Q (F0 m pc ls []) := by
  refine lv_aload_n X.1 X.2.1 d0 rfl h0 (hp _ ?_)
  refine y_mna X hW hcl harr hn hk2 hN hM hb1 hb2 e1 e2 hc hs d2 (fun H1 hW1 => ?_)
  rw [zl_len, hNl] at hW1 ⊢
  have e3 : zl V t ci fs N ++ pM (V.length + kN) N' K' = zl V t ci fs (N ++ pM (V.length + kN) N' K') := by unfold zl; rw [List.append_assoc]
  rw [e3] at hW1
  refine y_put X hW1 (zl_at ht) hF.1 ty0 hF.2.1 hF.2.2.1 hF.2.2.2 hk hlink hdecl (v := .ref (V.length + kN)) (hnr _) (hfr _) (by rw [hfl]; exact hkM) d3 (fun H2 locs2 hW2 => ?_)
  rw [zl_set ht] at hW2
  exact kk H2 locs2 (by rw [List.length_set]; exact hfl) (by rw [List.length_append, hNl, pM_len]; omega) hW2
/-- aload_0, a number, anewarray, putfield -/
theorem z_nq (X : yC G B p s m args c cc nL Ts own meth) (hF : yF C T NN ci ty0 Ts) (ht : t < V.length) (hfl : fs.length = M) (hNl : N.length = kN) (hW : yW G B s H locs (zl V t ci fs N)) (h0 : ls[0]? = some (.val (.ref (B + t)))) (d0 : decode cc pc = .ok (.aload_n 0, 1))
    {n : Int32} (hp : ∀ st, W p l e R s m args below meth c H locs cells slots Q (F0 m pc2 ls (.int n :: st)) → W p l e R s m args below meth c H locs cells slots Q (F0 m (pc + 1) ls st)) {CC : String} {index a : Nat} (hcl : Cond.classLink own index CC ∈ Ts) (hov : va_AO CC s) (ha : (tyL G)[a]? = some (G.2.1 a, .object CC)) (ha3 : 3 < a) {N' : Nat} (hn : ¬ n < 0) (hN : n.toNatClampNeg = N') (hb : N' * 4 ≤ 536870912) (e1 : cells + 1 = cells') (e2 : slots + N' = slots') (hc : cells' ≤ R.cells) (hs : slots' ≤ R.slots) (d2 : decode cc pc2 = .ok (.anewarray index, 3))
    {idx : Nat} (k : Nat) (hk : k < NN) (hkM : k < M) (hlink : Cond.fieldLink own idx (T k).1 (T k).2.1 (T k).2.2.1 ∈ Ts) (hdecl : (T k).1 = own) (hnr : ∀ x : Nat, narrow (ty0 k) (.ref x) = .ref x) (hfr : ∀ x : Nat, fits (ty0 k) (.ref x) = true) (d3 : decode cc (pc2 + 3) = .ok (.putfield idx, 3))
    (kk : ∀ H1 locs1, (fs.set k (.ref (V.length + kN))).length = M → (N ++ [pA a N']).length = kN + 1 → yW G B s H1 locs1 (zl V t ci (fs.set k (.ref (V.length + kN))) (N ++ [pA a N'])) → W p l e R s m args below meth c H1 locs1 cells' slots' Q (F0 m (pc2 + 6) ls [])) : W p l e R s m args below meth c H locs cells slots Q (F0 m pc ls []) := by
  refine lv_aload_n X.1 X.2.1 d0 rfl h0 (hp _ ?_)
  refine y_newq X hW hcl hov ha ha3 hn hN hb e1 e2 hc hs d2 (fun H1 hW1 => ?_)
  rw [zl_push] at hW1
  rw [zl_len, hNl]
  refine y_put X hW1 (zl_at ht) hF.1 ty0 hF.2.1 hF.2.2.1 hF.2.2.2 hk hlink hdecl (v := .ref (V.length + kN)) (hnr _) (hfr _) (by rw [hfl]; exact hkM) d3 (fun H2 locs2 hW2 => ?_)
  rw [zl_set ht] at hW2
  exact kk H2 locs2 (by rw [List.length_set]; exact hfl) (by rw [List.length_append, hNl]; rfl) hW2
/-- new, dup, (arguments), invokespecial <init>: the object's own cells come behind it -/
theorem z_cal (X : yC G B p s m args c cc nL Ts own meth) (hNl : N.length = kN) (hW : yW G B s H locs (zl V t ci fs N)) {C2 : String} {T2 : u_T} {N2 cj index : Nat} {ty2 : Nat → FieldType} (hF2 : yF C2 T2 N2 cj ty2 Ts) (hcl : Cond.classLink own index C2 ∈ Ts) (hinst : Cond.instantiable C2 N2 ∈ Ts) (hini : Cond.initialized C2 ∈ Ts) {df : List Value} (hfs : ∀ j, j < N2 → defaultValue (ty2 j) = vp_V (df.map (shV B)) j) {c1 s1 : Nat} (e1 : cells + 1 = c1) (e2 : slots + N2 = s1) (hcc : c1 ≤ R.cells) (hss : s1 ≤ R.slots) (d0 : decode cc pc = .ok (.new index, 3)) (d1 : decode cc (pc + 3) = .ok (.dup, 1))
    {fin : Nat → List Value} {news : Nat → List pE} {av : List Value} {mc ms nl : Nat} (hnl : ∀ n, (news n).length = nl)
    (hp : ∀ (H1 : Heap) (locs1 : List Loc) (st : List Value), W p l e R s m args below meth c H1 locs1 c1 s1 Q (F0 m pc2 ls (av.reverse ++ st)) → W p l e R s m args below meth c H1 locs1 c1 s1 Q (F0 m (pc + 4) ls st))
    (hr : ∀ H1, yW G B s H1 locs (zl V t ci fs (N ++ [.inr (cj, df)])) → va_Run p l e R s m args below meth c H1 locs c1 s1 mc ms (F0 m pc2 ls (av.reverse ++ .ref (B + (V.length + kN)) :: .ref (B + (V.length + kN)) :: rest)) (.ref (B + (V.length + kN)) :: rest) (yQ G B (zl V t ci fs (N ++ .inr (cj, fin (V.length + (kN + 1))) :: news (V.length + (kN + 1)))) (Value.ref (B + (V.length + kN)) :: av).toArray) (fun q => B ≤ q)) (e3 : c1 + mc = cells') (e4 : s1 + ms = slots')
    (kk : ∀ H1 locs1, (N ++ (.inr (cj, fin (V.length + (kN + 1))) : pE) :: news (V.length + (kN + 1))).length = kN + 1 + nl → yW G B s H1 locs1 (zl V t ci fs (N ++ .inr (cj, fin (V.length + (kN + 1))) :: news (V.length + (kN + 1)))) → W p l e R s m args below meth c H1 locs1 cells' slots' Q (F0 m (pc2 + 3) ls (.ref (B + (V.length + kN)) :: rest))) : W p l e R s m args below meth c H locs cells slots Q (F0 m pc ls rest) := by
  refine y_new X hW hF2.1 ty2 hF2.2.1 hcl hinst hini hF2.2.2.2 hfs e1 e2 hcc hss d0 (fun H1 hW1 => ?_)
  rw [zl_push] at hW1
  rw [zl_len, hNl]
  refine lv_dup X.1 X.2.1 d1 rfl ?_
  refine hp H1 locs _ ?_
  refine y_call hW1 (hr H1 hW1) e3 e4 (fun H2 locs2 hW2 => kk H2 locs2 ?_ hW2)
  rw [List.length_append, List.length_cons, hnl, hNl]
  omega
end ZROWS
section ZROWS2
variable {p : Program} {l : Launch} {e : Env} {R : Room} {s : State} {m : MethodId} {args : Array Value} {below : List Frame} {meth : Method} {c : Code} {H : Heap} {locs : List Loc} {cells slots : Nat} {Q : State → Prop}
variable {cc : ByteArray} {pc pc2 : Nat} {ls : Array Slot} {rest : List Value} {G : xG} {B nL : Nat} {Ts : List Cond} {own : String} {V N : List pE} {t ci M x : Nat} {fs : List Value} {C : String} {T : u_T} {NN : Nat} {ty0 : Nat → FieldType}
/-- putfield of a new cell -/
theorem z_pr (X : yC G B p s m args c cc nL Ts own meth) (hF : yF C T NN ci ty0 Ts) (ht : t < V.length) (hfl : fs.length = M) (hW : yW G B s H locs (zl V t ci fs N))
    {idx : Nat} (k : Nat) (hk : k < NN) (hkM : k < M) (hlink : Cond.fieldLink own idx (T k).1 (T k).2.1 (T k).2.2.1 ∈ Ts) (hdecl : (T k).1 = own) (hnr : ∀ x : Nat, narrow (ty0 k) (.ref x) = .ref x) (hfr : ∀ x : Nat, fits (ty0 k) (.ref x) = true) (d3 : decode cc pc = .ok (.putfield idx, 3))
    (kk : ∀ H1 locs1, (fs.set k (.ref x)).length = M → yW G B s H1 locs1 (zl V t ci (fs.set k (.ref x)) N) → W p l e R s m args below meth c H1 locs1 cells slots Q (F0 m (pc + 3) ls [])) : W p l e R s m args below meth c H locs cells slots Q (F0 m pc ls [.ref (B + x), .ref (B + t)]) := by
  refine y_put X hW (zl_at ht) hF.1 ty0 hF.2.1 hF.2.2.1 hF.2.2.2 hk hlink hdecl (v := .ref x) (hnr _) (hfr _) (by rw [hfl]; exact hkM) d3 (fun H2 locs2 hW2 => ?_)
  rw [zl_set ht] at hW2
  exact kk H2 locs2 (by rw [List.length_set]; exact hfl) hW2
end ZROWS2
