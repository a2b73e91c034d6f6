/-! CONSTRUCTORS: more rows; an object under construction at the place t of V, the new cells N behind V -/
theorem vL.app {G : xG} {B : Nat} {V M : List pE} {H H1 : Heap} (h : vL G B V H) (hz : H1.size = H.size + M.length) (ho : ∀ q, q < H.size → H1[q]? = H[q]?) (he : ∀ j q, M[j]? = some q → va_at G.1 vwCl (H.size + j, pt G B q) H1) : vL G B (V ++ M) H1 := by
  refine ⟨by rw [hz, h.1, List.length_append]; omega, fun j q hj => ?_⟩
  by_cases hl : j < V.length
  · rw [List.getElem?_append_left hl] at hj
    exact (h.2 j q hj).kept (ho _ (by rw [h.1]; exact Nat.add_lt_add_left hl B))
  · rw [List.getElem?_append_right (by omega)] at hj
    have := he _ _ hj
    rw [show B + j = H.size + (j - V.length) by rw [h.1]; omega]
    exact this
theorem yr_outer (c : ClassId) (N h0 i : Nat) : Jvm.Free.Multi.outerC c N h0 i = arrV c N (fun j => va_rf (if j < i then some (h0 + 1 + j) else none)) := by
  induction i with
  | zero =>
    have h : (fun j => va_rf (if j < 0 then some (h0 + 1 + j) else none)) = fun _ => Value.null := funext fun j => by rw [if_neg (Nat.not_lt_zero j)]; rfl
    rw [h]
    exact arrV_new c N .null
  | succ i ih =>
    have h : Jvm.Free.Multi.outerC c N h0 (i + 1) = (Jvm.Free.Multi.outerC c N h0 i).setSlot i (.ref (h0 + 1 + i)) := rfl
    rw [h, ih, arrV_store]
    congr 1
    funext j
    show (if j = i then Value.ref (h0 + 1 + i) else va_rf (if j < i then some (h0 + 1 + j) else none)) = va_rf (if j < i + 1 then some (h0 + 1 + j) else none)
    rcases Nat.lt_trichotomy j i with q | q | q
    · rw [if_neg (by omega), if_pos q, if_pos (by omega)]
    · rw [if_pos q, if_pos (by omega), q]
      rfl
    · rw [if_neg (by omega), if_neg (by omega), if_neg (by omega)]
section YROWS2
variable {p : Program} {l : Launch} {e : Env} {R : Room} {s : State} {m : MethodId} {args : Array Value} {below : List Frame} {meth : Method} {c : Code} {H : Heap} {locs : List Loc} {cells slots : Nat} {Q : State → Prop}
variable {cc : ByteArray} {pc : Nat} {ls : Array Slot} {rest : List Value} {G : xG} {B nL : Nat} {Ts : List Cond} {own : String} {V N : List pE} {t ci : Nat} {fs : List Value}
def pA (a n : Nat) : pE := .inl (a, n, [], [])
/-- the rows of a new array of int arrays, its own place being o -/
def pM (o n k : Nat) : List pE := .inl (7, n, [], (List.range n).map (o + 1 + ·)) :: List.replicate n (pA 1 k)
theorem pM_len {o n k : Nat} : (pM o n k).length = n + 1 := by unfold pM; rw [List.length_cons, List.length_replicate]
theorem y_mna (X : yC G B p s m args c cc nL Ts own meth) (hW : yW G B s H locs V) {index : Nat} (hcl : Cond.classLink own index "[[I" ∈ Ts) (harr : Cond.arrayClass .int ∈ Ts) {n k : Int32} {N' K' : Nat} (hn : ¬ n < 0) (hk : ¬ k < 0) (hN : n.toNatClampNeg = N') (hM : k.toNatClampNeg = K') (hb1 : N' * 4 ≤ 536870912) (hb2 : K' * 4 ≤ 536870912) {cells' slots' : Nat} (e1 : cells + 1 + N' = cells') (e2 : slots + N' + N' * K' = slots') (hc : cells' ≤ R.cells) (hs : slots' ≤ R.slots) (hd : decode cc pc = .ok (.multianewarray index 2, 4))
    (kk : ∀ H1, yW G B s H1 locs (V ++ pM V.length N' K') → W p l e R s m args below meth c H1 locs cells' slots' Q (F0 m (pc + 4) ls (.ref (B + V.length) :: rest))) : W p l e R s m args below meth c H locs cells slots Q (F0 m pc ls (.int k :: .int n :: rest)) := by
  subst hN
  subst hM
  subst e1
  subst e2
  have hK := X.2.2.2.2.2.2.2.2.1
  have hov : (Cond.arrayOver (.array .int)).before args s = true := X.2.2.2.2.2.2.2.2.2.2.2.2.2.2
  intro T hT Xs
  obtain ⟨vm₁, cA, comp, -, fA, fC, hO, -, X', step⟩ := Xs.multianewarray2F (ty := .int) X.1 X.2.2.2.1 (X.2.2.2.2.1 _ hcl) hov (X.2.2.2.2.1 _ harr) (g := F0 m pc ls (.int k :: .int n :: rest)) rfl (by rw [X.2.1]; exact hd) rfl hn hk hb1 hb2 (by omega) rfl rfl (by omega) (by omega)
  have hcy : s.vm.findClass (FieldType.array .int).toString = some (G.2.1 1) := (hK.2 1 _ rfl).2
  have ec : some (G.2.1 1) = some comp := hcy.symm.trans fC
  cases ec
  have hcA : cA = G.2.1 7 := Option.some.inj (fA.symm.trans (show s.vm.findClass ("[" ++ (FieldType.array .int).toString) = some (G.2.1 7) from (hK.2 7 _ rfl).2))
  subst hcA
  generalize hF : Jvm.Free.Multi.fill (T.setVm vm₁) (G.2.1 7) (G.2.1 1) n.toNatClampNeg k.toNatClampNeg (defaultValue .int) n.toNatClampNeg = F at X' step
  have hTh : (T.setVm vm₁).heap = H := hT
  obtain ⟨f1, f2, -, -⟩ := Jvm.Free.Multi.fill_facts (T.setVm vm₁) (G.2.1 7) (G.2.1 1) n.toNatClampNeg k.toNatClampNeg (defaultValue .int) n.toNatClampNeg
  rw [hF, hTh] at f1 f2
  have hold : ∀ x : Nat, x < H.size → F.heap[x]? = H[x]? := fun x hx => by
    have := Jvm.Free.Multi.fill_old (T.setVm vm₁) (G.2.1 7) (G.2.1 1) n.toNatClampNeg k.toNatClampNeg (defaultValue .int) (a := x) (by rw [hTh]; exact hx) n.toNatClampNeg
    rw [hF, hTh] at this
    exact this
  have hrow : ∀ j : Nat, j < n.toNatClampNeg → F.heap[H.size + 1 + j]? = some (arrV (G.2.1 1) k.toNatClampNeg (fun _ => .int 0)) := fun j hj => by
    have := Jvm.Free.Multi.fill_inner (T.setVm vm₁) (G.2.1 7) (G.2.1 1) n.toNatClampNeg k.toNatClampNeg (defaultValue .int) n.toNatClampNeg j hj
    rw [hF, hTh] at this
    rw [this, ← arrV_new]
    rfl
  rw [yr_outer] at f2
  have hv : vL G B (V ++ pM V.length n.toNatClampNeg k.toNatClampNeg) F.heap := by
    refine hW.1.app (by rw [pM_len, f1]; omega) hold (fun j q hj => ?_)
    cases j with
    | zero =>
      cases hj
      show F.heap[H.size]? = some (vp_cell _ _)
      rw [f2]
      rw [if_neg (show ¬ (7 : Nat) < 3 by decide), if_neg (show ¬ (7 : Nat) = 3 by decide), vp_cell_q]
      refine congrArg some (congrArg (arrV _ _) (funext fun j => ?_))
      show va_rf _ = va_rf ((((List.range n.toNatClampNeg).map (V.length + 1 + ·))[j]?).map (B + ·))
      rw [List.getElem?_map]
      by_cases hj : j < n.toNatClampNeg
      · rw [if_pos hj, List.getElem?_range hj, hW.1.1]
        show va_rf (some _) = va_rf (some _)
        rw [show B + V.length + 1 + j = B + (V.length + 1 + j) by omega]
      · rw [if_neg hj, List.getElem?_eq_none (by rw [List.length_range]; omega)]
        rfl
    | succ j =>
      have hj' : (List.replicate n.toNatClampNeg (pA 1 k.toNatClampNeg))[j]? = some q := hj
      rw [List.getElem?_replicate] at hj'
      by_cases hlt : j < n.toNatClampNeg
      · rw [if_pos hlt] at hj'
        cases hj'
        show F.heap[H.size + (j + 1)]? = some (vp_cell _ _)
        rw [show H.size + (j + 1) = H.size + 1 + j by omega, hrow j hlt]
        rfl
      · rw [if_neg hlt] at hj'
        cases hj'
  obtain ⟨t, a1, b1⟩ := kk F.heap ⟨hv, vLS hW.2 (by omega) hold⟩ F rfl X'
  have hstep := step t
  rw [hT, hW.1.1] at hstep
  exact ⟨t, hstep a1, b1⟩
/-- a reference field of an object -/
theorem y_get (X : yC G B p s m args c cc nL Ts own meth) (hW : yW G B s H locs V) {C : String} {T : u_T} {N' cj index k j : Nat} {fs : List Value} (hat : V[j]? = some (.inr (cj, fs))) (hin : ∀ w ∈ u_ws C T N', w ∈ Ts) (hc : vwCl[cj]? = some (C, T, N')) (hk : k < N') (hlink : Cond.fieldLink own index (T k).1 (T k).2.1 (T k).2.2.1 ∈ Ts) {v : Value} (hv : fs[k]? = some v) (hd : decode cc pc = .ok (.getfield index, 3))
    (kk : W p l e R s m args below meth c H locs cells slots Q (F0 m (pc + 3) ls (shV B v :: rest))) : W p l e R s m args below meth c H locs cells slots Q (F0 m pc ls (.ref (B + j) :: rest)) := by
  have hP : va_P G.1 vwCl [(B + j, .inr (cj, fs.map (shV B)))] H := by
    intro k q hk
    have h0 : k < 1 := (List.getElem?_eq_some_iff.mp hk).1
    rw [show k = 0 by omega] at hk
    cases hk
    exact hW.1.2 j _ hat
  exact va_get X.1 X.2.1 X.2.2.2.2.1 hin X.2.2.2.1 X.2.2.2.2.2.2.2.2.1 hP 0 rfl hc k hk (X.2.2.2.2.1 _ hlink) (fun _ h => h) (by rw [List.getElem?_map, hv]; rfl) hd kk
/-- the next place of an array of references -/
theorem y_aast (X : yC G B p s m args c cc nL Ts own meth) (hW : yW G B s H locs V) {a n j cj v : Nat} {rs : List Nat} {is : List Int32} {vs : List Value} {r : vw_C} (hat : V[j]? = some (.inl (a, n, is, rs))) (ha3 : 3 < a) (hv : V[v]? = some (.inr (cj, vs))) (hc : vwCl[cj]? = some r) (ht : (tyL G)[a]? = some (G.2.1 a, .object r.1)) {i : Int32} (hi : i.toNatClampNeg = rs.length) (h0 : ¬ i < 0) (hlt : rs.length < n) (hd : decode cc pc = .ok (.aastore, 1))
    (kk : ∀ H1 locs1, yW G B s H1 locs1 (V.set j (.inl (a, n, is, rs ++ [v]))) → W p l e R s m args below meth c H1 locs1 cells slots Q (F0 m (pc + 1) ls rest)) : W p l e R s m args below meth c H locs cells slots Q (F0 m pc ls (.ref (B + v) :: .int i :: .ref (B + j) :: rest)) := by
  have hK := X.2.2.2.2.2.2.2.2.1
  have hA : H[B + j]? = some (arrV (G.2.1 a) n (fun x => va_rf ((rs[x]?).map (B + ·)))) := by
    have h : H[B + j]? = some (vp_cell _ _) := hW.1.2 j _ hat
    rw [if_neg (show ¬ a < 3 by omega), if_neg (show ¬ a = 3 by omega), vp_cell_q] at h
    exact h
  obtain ⟨r', hr', cellV, g1, g2, g3, -⟩ := hW.1.2 v _ hv
  have hcls := (hK.1 cj r hc).2
  obtain ⟨kA, comp, k1, k2, k3, -⟩ := (hK.2 a _ ht).2
  have hcomp : comp = G.1.1 cj := Option.some.inj (k3.symm.trans hcls.1)
  subst hcomp
  obtain ⟨kC, hkC, -⟩ := hcls.2
  refine W.aast X.1 X.2.1 hA (fun q h => by cases h) (fun h => by cases h) k1 k2 rfl hkC ⟨h0, by rw [arrV_size, hi]; exact hlt⟩ g1 (fun q h => by rw [g3] at h; cases h) (by rw [g2]; exact hkC) (by rw [g2]; exact va_assign hcls) rfl rfl hd fun H1 f1 z oq => ?_
  refine kk H1 _ ⟨hW.1.put z oq ?_, ⟨by rw [z]; exact hW.2.1, fun q a b => by rw [oq q (fun z => b (by show B ≤ q; rw [z]; exact Nat.le_add_right _ _))]; exact hW.2.2.1 q a b, fun q hq => by
      rcases List.mem_append.mp hq with h | h
      · exact hW.2.2.2 q h
      · rw [List.mem_singleton.mp h]; exact Nat.le_add_right _ _⟩⟩
  show H1[B + j]? = some (vp_cell _ _)
  rw [if_neg (show ¬ a < 3 by omega), if_neg (show ¬ a = 3 by omega), vp_cell_q, f1, arrV_store, hi]
  refine congrArg some (congrArg (arrV _ _) (funext fun x => ?_))
  show updV (fun x => va_rf ((rs[x]?).map (B + ·))) rs.length (.ref (B + v)) x = va_rf (((rs ++ [v])[x]?).map (B + ·))
  by_cases hx : x = rs.length
  · subst hx
    simp [updV, va_rf]
  · unfold updV
    rw [if_neg hx]
    by_cases hl : x < rs.length
    · rw [List.getElem?_append_left hl]
    · have h1 : rs[x]? = none := List.getElem?_eq_none (by omega)
      have h2 : (rs ++ [v])[x]? = none := List.getElem?_eq_none (by rw [List.length_append]; show rs.length + 1 ≤ x; omega)
      show va_rf ((rs[x]?).map (B + ·)) = va_rf (((rs ++ [v])[x]?).map (B + ·))
      rw [h1, h2]
theorem y_pre (X : yC G B p s m args c cc nL Ts own meth) (hW : yW G B s H locs V) (As : List Value) : PreS s H (yPre G B V As) As :=
  ⟨yPre.blind, fun U hU hWm => ⟨rfl, by rw [hU]; exact hW.1, va_K.moved hWm.alike X.2.2.2.2.2.2.2.2.1, X.2.2.2.2.2.2.2.2.2.2.warm hWm⟩⟩
theorem y_call (hW : yW G B s H locs V) {out : List pE} {a : Array Value} {st0 : List Value} {mc ms cells' slots' : Nat} (hr : va_Run p l e R s m args below meth c H locs cells slots mc ms (F0 m pc ls st0) rest (yQ G B out a) (fun q => B ≤ q)) (e1 : cells + mc = cells') (e2 : slots + ms = slots')
    (kk : ∀ H1 locs1, yW G B s H1 locs1 out → W p l e R s m args below meth c H1 locs1 cells' slots' Q (F0 m (pc + 3) ls rest)) : W p l e R s m args below meth c H locs cells slots Q (F0 m pc ls st0) := by
  subst e1
  subst e2
  refine va_callv hr hW.2 (fun q _ h => h) (fun q h => h) (fun u t H1 locs1 ht hvm hp hb hz hk hS => ?_)
  subst hp
  exact kk H1 locs1 ⟨by rw [← ht]; exact hb.1, hS⟩
theorem y_start {y : MethodName} {ws ws' : List Cond} {rm : Room} {maxL mc ms : Nat} {av : List Value} {Qc : Array Value → State → Outcome → State → Prop} (hy : plainName y.cls = true) (hnm : y.name = "<init>") (hw : ws = Cond.code y cc maxL none :: ws') (hn : (lg_sl av).length ≤ maxL)
    (body : ∀ p e s m below meth c, yC G B p s m av.toArray c cc maxL ws y.cls meth → yW G B s s.heap [] V → ∀ ls, lv_has ls maxL (lv_args 0 av) → W p l e rm s m av.toArray below meth c s.heap [] 0 0 (MQ below Qc av.toArray s mc ms (fun q => B ≤ q)) (F0 m 0 ls [])) : Met l y ws rm (yPre G B V av) Qc mc ms (fun q => B ≤ q) := by
  refine Met.ofW (cc := cc) (maxL := maxL) (ret := none) hy hw ?_
  intro p e s m args below meth c s₁ BB hml hv
  obtain ⟨rfl, hP, hK, hN⟩ := hv
  rw [lg_entry_eq]
  exact body p e s m below meth c ⟨BB.exec, BB.bytes, hml, findClass_of_methodNamed BB.named, atoms_spec (ws := ws) BB.pre, BB.returns, BB.notSynchronized, (name_of_methodNamed BB.named BB.method).1.trans hnm, hK, by rw [hP.1]; exact Nat.le_add_right _ _, hN⟩ ⟨hP, va_S.rf⟩ _ (lv_entry av hn)
theorem y_ret (X : yC G B p s m args c cc nL Ts own meth) (hW : yW G B s H locs V) (hd : decode cc pc = .ok (.return_, 1)) : W p l e R s m args below meth c H locs cells slots (MQ below (yQ G B V) args s cells slots (fun q => B ≤ q)) (F0 m pc ls []) :=
  W.vret X.1 X.2.1 X.2.2.2.2.2.1 (fun t ht hWm => ⟨⟨V, rfl, rfl, by rw [ht]; exact hW.1, va_K.moved hWm.alike X.2.2.2.2.2.2.2.2.1⟩, hW.2.F ht⟩) hW.2.2.2 hd X.2.2.2.2.2.2.1
/-! whole statements of a constructor -/
theorem z_obj (X : yC G B p s m args c cc nL Ts own meth) {idx : Nat} (h1 : Cond.methodLink own idx objectInit ∈ Ts) (h2 : Cond.instanceMethod objectInit ∈ Ts) (h3 : Cond.code objectInit ⟨#[0xb1]⟩ 1 none ∈ Ts) {lv : List (Nat × Value)} (hl : lv_has ls nL lv) (h0 : ls[0]? = some (.val (.ref (B + t)))) (hR : 1 ≤ R.frames ∧ 12 ≤ R.locals) (d0 : decode cc 0 = .ok (.aload_n 0, 1)) (d1 : decode cc 1 = .ok (.invokespecial idx, 3))
    (kk : W p l e R s m args below meth c H locs cells slots Q (F0 m 4 ls [])) : W p l e R s m args below meth c H locs cells slots Q (F0 m 0 ls []) := by
  refine lv_aload_n X.1 X.2.1 d0 rfl h0 ?_
  exact W.objInit X.1 X.2.1 X.2.2.2.1 (X.2.2.2.2.1 _ h1) (X.2.2.2.2.1 _ h2) (X.2.2.2.2.1 _ h3) rfl (by rw [X.2.2.1]; exact hl.1) rfl d1 hR.1 hR.2 kk
end YROWS2
