/-! CONSTRUCTORS: the cells made since the heap had B cells, as a list of pictures (references are counted from B) -/
abbrev pE : Type := (Nat × Nat × List Int32 × List Nat) ⊕ (Nat × List Value)
def shV (B : Nat) : Value → Value
  | .ref a => .ref (B + a)
  | v => v
def pt (G : xG) (B : Nat) : pE → va_E
  | .inl q => .inl (G.2.1 q.1, q.2.1, if q.1 < 3 then .inl (fun j => q.2.2.1.getD j 0) else if q.1 = 3 then .inr (.inl fun _ => 0) else .inr (.inr (.inr (.inr fun j => (q.2.2.2[j]?).map (B + ·)))))
  | .inr o => .inr (o.1, o.2.map (shV B))
def vL (G : xG) (B : Nat) (V : List pE) (H : Heap) : Prop := H.size = B + V.length ∧ ∀ j q, V[j]? = some q → va_at G.1 vwCl (B + j, pt G B q) H
theorem vL.push {G : xG} {B : Nat} {V : List pE} {H H1 : Heap} {x : pE} (h : vL G B V H) (hz : H1.size = H.size + 1) (ho : ∀ q, q < H.size → H1[q]? = H[q]?) (he : va_at G.1 vwCl (H.size, pt G B x) H1) : vL G B (V ++ [x]) H1 := by
  refine ⟨by rw [hz, h.1, List.length_append]; rfl, fun j q hj => ?_⟩
  by_cases hl : j < V.length
  · rw [List.getElem?_append_left hl] at hj
    exact (h.2 j q hj).kept (ho _ (by rw [h.1]; exact Nat.add_lt_add_left hl B))
  · rw [List.getElem?_append_right (by omega)] at hj
    have hz : j - V.length < 1 := (List.getElem?_eq_some_iff.mp hj).1
    rw [show j - V.length = 0 by omega] at hj
    cases hj
    rw [show B + j = H.size by rw [h.1]; omega]
    exact he
theorem vL.put {G : xG} {B : Nat} {V : List pE} {H H1 : Heap} {x : pE} {t : Nat} (h : vL G B V H) (hz : H1.size = H.size) (ho : ∀ q, q ≠ B + t → H1[q]? = H[q]?) (he : va_at G.1 vwCl (B + t, pt G B x) H1) : vL G B (V.set t x) H1 := by
  refine ⟨by rw [hz, h.1, List.length_set], fun j q hj => ?_⟩
  by_cases hjt : t = j
  · subst hjt
    have hl : t < V.length := by
      have := (List.getElem?_eq_some_iff.mp hj).1
      rwa [List.length_set] at this
    rw [List.getElem?_set_self hl] at hj
    cases hj
    exact he
  · rw [List.getElem?_set_ne hjt] at hj
    exact (h.2 j q hj).kept (ho _ (fun z => hjt (by omega)))
def zl (V : List pE) (t ci : Nat) (fs : List Value) (N : List pE) : List pE := V.set t (.inr (ci, fs)) ++ N
theorem zl_len {V : List pE} {t ci : Nat} {fs : List Value} {N : List pE} : (zl V t ci fs N).length = V.length + N.length := by unfold zl; rw [List.length_append, List.length_set]
theorem zl_at {V : List pE} {t ci : Nat} {fs : List Value} {N : List pE} (h : t < V.length) : (zl V t ci fs N)[t]? = some (.inr (ci, fs)) := by
  unfold zl
  rw [List.getElem?_append_left (by rw [List.length_set]; exact h), List.getElem?_set_self h]
theorem zl_set {V : List pE} {t ci : Nat} {fs fs' : List Value} {N : List pE} (h : t < V.length) : (zl V t ci fs N).set t (.inr (ci, fs')) = zl V t ci fs' N := by
  unfold zl
  rw [List.set_append_left _ _ (by rw [List.length_set]; exact h), List.set_set]
theorem zl_push {V : List pE} {t ci : Nat} {fs : List Value} {N : List pE} {x : pE} : zl V t ci fs N ++ [x] = zl V t ci fs (N ++ [x]) := by
  unfold zl
  rw [List.append_assoc]
theorem zl_in {V : List pE} {t ci : Nat} {fs : List Value} {N : List pE} {j : Nat} : (zl V t ci fs N)[V.length + j]? = N[j]? := by
  unfold zl
  rw [List.getElem?_append_right (by rw [List.length_set]; omega), List.length_set]
  congr 1
  omega
theorem zl_inset {V : List pE} {t ci : Nat} {fs : List Value} {N : List pE} {j : Nat} {x : pE} : (zl V t ci fs N).set (V.length + j) x = zl V t ci fs (N.set j x) := by
  unfold zl
  rw [List.set_append_right _ _ (by rw [List.length_set]; omega), List.length_set]
  congr 2
  omega
/-! what stays outside: links to nest mates' constructors, arrays over classes -/
def yOA (U : State) : Prop := (Cond.arrayOver (.array .int)).before #[] U = true
theorem y_idx (vm : Vm) (g : Kind → Bool) : (vm.bare.classes.findIdx? fun (x : Class) => g x.kind) = (vm.classes.findIdx? fun (x : Class) => g x.kind) := by
  simp only [Vm.bare, Array.findIdx?_map]
  rfl
theorem yOA.moved {u U : State} (hvm : u.vm.Alike U.vm) (h : yOA u) : yOA U := by
  obtain ⟨comp, c, k, h1, h2, h3, h4, h5⟩ := arrayOverA_spec h
  obtain ⟨k', hk', he⟩ := hvm.2.2 _ _ h3
  have key : ∀ g : Kind → Bool, (u.vm.classes.findIdx? fun (x : Class) => g x.kind) = some c → (U.vm.classes.findIdx? fun (x : Class) => g x.kind) = some c := by
    intro g hg
    rw [← y_idx U.vm g]
    first | rw [hvm.bare_eq] | rw [← hvm.bare_eq]
    rw [y_idx]
    exact hg
  have hi := key (fun kd : Kind => match kd with | .array component _ => component == comp | _ => false) h2
  have hkind : k'.kind = .array comp (.array .int) := by rw [he]; exact h4
  have f1 : U.vm.findClass (FieldType.array .int).toString = some comp := by rw [hvm.findClass]; exact h1
  have f2 : U.vm.findClass ("[" ++ (FieldType.array .int).toString) = some c := by rw [hvm.findClass]; exact h5
  unfold yOA Cond.before Cond.holds
  simp only [Cond.value]
  rw [f1, Option.bind_some]
  refine (congrArg (fun o : Option Nat => (o.bind (fun c => (U.vm.classes[c]?).map fun (k : Class) => match k.kind with | .array _ ty => decide (ty = FieldType.array .int) && decide (U.vm.findClass ("[" ++ (FieldType.array .int).toString) = some c) | _ => false) == some true)) hi).trans ?_
  simp [hk', hkind, f2]
def yN (U : State) : Prop := (va_Nw (.methodLinkNest RX11 26 yX5_init RX11) U ∧ va_Nw (.methodLinkNest RX11 33 yX8_init RX11) U ∧ va_Nw (.methodLinkNest RX11 40 yX1_init RX11) U ∧ va_Nw (.methodLinkNest RX11 47 yX10_init RX11) U ∧ va_Nw (.methodLinkNest RX11 54 yX0_init RX11) U ∧ va_Nw (.methodLinkNest RX11 82 yX4_init RX11) U ∧ va_Nw (.methodLinkNest RX7 24 yX3_init RX11) U ∧ va_Nw (.methodLinkNest RX9 15 yX6_init RX11) U) ∧ va_AO RX7 U ∧ va_AO RX4 U ∧ va_AO RX6 U ∧ yOA U
theorem yN.warm {s U : State} (hW : s.WarmedH U.vm) (h : yN s) : yN U := by
  obtain ⟨⟨h1, h2, h3, h4, h5, h6, h7, h8⟩, a1, a2, a3, a4⟩ := h
  exact ⟨⟨h1.warmM hW, h2.warmM hW, h3.warmM hW, h4.warmM hW, h5.warmM hW, h6.warmM hW, h7.warmM hW, h8.warmM hW⟩, a1.moved hW.alike, a2.moved hW.alike, a3.moved hW.alike, a4.moved hW.alike⟩
def yPre (G : xG) (B : Nat) (V : List pE) (av : List Value) : Array Value → State → Prop := va_Pc av (fun U => vL G B V U.heap ∧ xK G U ∧ yN U)
abbrev yQ (G : xG) (B : Nat) (out : List pE) := va_Qv (fun u : List pE => u = out) (fun u t => vL G B u t.heap ∧ xK G t) (fun q => B ≤ q)
theorem yPre.blind {G : xG} {B : Nat} {V : List pE} {av : List Value} : FrameBlind (yPre G B V av) := by
  intro a U g mk h
  obtain ⟨h0, h1, h2, ⟨n1, n2, n3, n4, n5, n6, n7, n8⟩, a1, a2, a3, a4⟩ := h
  have hv : U.vm.Alike (U.calling g mk a).vm := Vm.Alike.refl U.vm
  exact ⟨h0, h1, va_K.moved (u := U) (U := U.calling g mk a) hv h2, ⟨n1.same rfl rfl, n2.same rfl rfl, n3.same rfl rfl, n4.same rfl rfl, n5.same rfl rfl, n6.same rfl rfl, n7.same rfl rfl, n8.same rfl rfl⟩, a1.moved hv, a2.moved hv, a3.moved hv, a4.moved hv⟩
def yC (G : xG) (B : Nat) (p : Program) (s : State) (m : MethodId) (args : Array Value) (c : Code) (cc : ByteArray) (nL : Nat) (Ts : List Cond) (own : String) (meth : Method) : Prop :=
  p.tables.exec = Jvm.exec ∧ c.code = cc ∧ c.maxLocals = nL ∧ s.vm.findClass own = some m.cls ∧ (∀ w ∈ Ts, w.before args s = true) ∧ meth.sig.returnType = none ∧ meth.locks = false ∧ meth.name = "<init>" ∧ xK G s ∧ B ≤ s.heap.size ∧ yN s
def yW (G : xG) (B : Nat) (s : State) (H : Heap) (locs : List Loc) (V : List pE) : Prop := vL G B V H ∧ va_S (fun q => B ≤ q) s.heap H locs
section YROWS
variable {p : Program} {l : Launch} {e : Env} {R : Room} {s : State} {m : MethodId} {args : Array Value} {below : List Frame} {meth : Method} {c : Code} {H : Heap} {locs : List Loc} {cells slots : Nat} {Q : State → Prop}
variable {cc : ByteArray} {pc : Nat} {ls : Array Slot} {rest : List Value} {G : xG} {B nL : Nat} {Ts : List Cond} {own : String} {V N : List pE} {t ci : Nat} {fs : List Value}
theorem vLS {s : State} {H H1 : Heap} {locs : List Loc} (hS : va_S (fun q => B ≤ q) s.heap H locs) (hz : H.size ≤ H1.size) (ho : ∀ q, q < H.size → H1[q]? = H[q]?) : va_S (fun q => B ≤ q) s.heap H1 locs :=
  ⟨Nat.le_trans hS.1 hz, fun x h1 h2 => (ho x (Nat.lt_of_lt_of_le h1 hS.1)).trans (hS.2.1 x h1 h2), hS.2.2⟩
/-- new array of numbers -/
theorem y_newa (X : yC G B p s m args c cc nL Ts own meth) (hW : yW G B s H locs V) {atype : ArrayType} {ty : FieldType} (harr : Cond.arrayClass ty ∈ Ts) (hty : newarray.typeOf atype = ty) {a : Nat} (ha : (a = 1 ∧ ty = .int) ∨ (a = 2 ∧ ty = .boolean) ∨ (a = 3 ∧ ty = .long)) {n : Int32} {N' : Nat} (hn : ¬ n < 0) (hN : n.toNatClampNeg = N') (hb : N' * 8 ≤ 536870912) {cells' slots' : Nat} (e1 : cells + 1 = cells') (e2 : slots + N' = slots') (hc : cells' ≤ R.cells) (hs : slots' ≤ R.slots) (hd : decode cc pc = .ok (.newarray atype, 2))
    (kk : ∀ H1, yW G B s H1 locs (V ++ [.inl (a, N', [], [])]) → W p l e R s m args below meth c H1 locs cells' slots' Q (F0 m (pc + 2) ls (.ref (B + V.length) :: rest))) : W p l e R s m args below meth c H locs cells slots Q (F0 m pc ls (.int n :: rest)) := by
  subst hty
  subst e1
  subst e2
  refine va_newaK X.1 X.2.1 (X.2.2.2.2.1 _ harr) rfl hd rfl hn hN (Nat.le_trans (Nat.mul_le_mul_left _ ?_) hb) hc hs hW.1.1 fun H1 cA f1 z1 o1 hAr hNm => kk H1 ⟨hW.1.push (by rw [z1, hW.1.1]) (fun q hq => o1 q (by rw [← hW.1.1]; exact hq)) ?_, vLS hW.2 (by rw [z1, hW.1.1]; omega) (fun q hq => o1 q (by rw [← hW.1.1]; exact hq))⟩
  · rcases ha with ⟨-, h⟩ | ⟨-, h⟩ | ⟨-, h⟩ <;> rw [h] <;> decide
  · have hK := X.2.2.2.2.2.2.2.2.1
    rw [hW.1.1]
    rcases ha with ⟨rfl, h⟩ | ⟨rfl, h⟩ | ⟨rfl, h⟩
    · have h2 : s.vm.findClass ("[" ++ FieldType.int.toString) = some (G.2.1 1) := (hK.2 1 _ rfl).2
      rw [h] at hNm f1
      cases Option.some.inj (h2.symm.trans hNm)
      exact f1
    · have h2 : s.vm.findClass ("[" ++ FieldType.boolean.toString) = some (G.2.1 2) := (hK.2 2 _ rfl).2
      rw [h] at hNm f1
      cases Option.some.inj (h2.symm.trans hNm)
      exact f1
    · have h2 : s.vm.findClass ("[" ++ FieldType.long.toString) = some (G.2.1 3) := (hK.2 3 _ rfl).2
      rw [h] at hNm f1
      cases Option.some.inj (h2.symm.trans hNm)
      exact f1
/-- new array of references -/
theorem y_newq (X : yC G B p s m args c cc nL Ts own meth) (hW : yW G B s H locs V) {C : String} {index a : Nat} (hcl : Cond.classLink own index C ∈ Ts) (hov : va_AO C s) (ha : (tyL G)[a]? = some (G.2.1 a, .object C)) (ha3 : 3 < a) {n : Int32} {N' : Nat} (hn : ¬ n < 0) (hN : n.toNatClampNeg = N') (hb : N' * 4 ≤ 536870912) {cells' slots' : Nat} (e1 : cells + 1 = cells') (e2 : slots + N' = slots') (hc : cells' ≤ R.cells) (hs : slots' ≤ R.slots) (hd : decode cc pc = .ok (.anewarray index, 3))
    (kk : ∀ H1, yW G B s H1 locs (V ++ [.inl (a, N', [], [])]) → W p l e R s m args below meth c H1 locs cells' slots' Q (F0 m (pc + 3) ls (.ref (B + V.length) :: rest))) : W p l e R s m args below meth c H locs cells slots Q (F0 m pc ls (.int n :: rest)) := by
  subst e1
  subst e2
  subst hN
  have hK := X.2.2.2.2.2.2.2.2.1
  rw [← hW.1.1] at kk
  refine W.anew X.1 X.2.1 X.2.2.2.1 (X.2.2.2.2.1 _ hcl) (va_AO.use hov) rfl hd rfl hn hb hc hs fun cA kA comp f1 f2 f3 f4 => ?_
  generalize hH1 : H.push ({ cls := cA, slots := Array.replicate n.toNatClampNeg .null, vm := .none } : Cell) = H1
  have z1 : H1.size = H.size + 1 := by rw [← hH1, Array.size_push]
  have e1 : H1[H.size]? = some (arrV cA n.toNatClampNeg (fun _ => .null)) := by rw [← hH1, Array.getElem?_push_size, ← arrV_new]
  have o1 : ∀ q : Nat, q < H.size → H1[q]? = H[q]? := fun q hq => by rw [← hH1, Array.getElem?_push, if_neg (Nat.ne_of_lt hq)]
  have hA : cA = G.2.1 a := by
    obtain ⟨_, _, _, _, _, h4⟩ := (hK.2 a _ ha).2
    exact Option.some.inj (f1.symm.trans h4)
  subst hA
  refine kk H1 ⟨hW.1.push z1 o1 ?_, vLS hW.2 (by omega) o1⟩
  show H1[H.size]? = some (vp_cell _ _)
  rw [if_neg (show ¬ a < 3 by omega), if_neg (show ¬ a = 3 by omega), vp_cell_q, e1]
  rfl
/-- new object -/
theorem y_new (X : yC G B p s m args c cc nL Ts own meth) (hW : yW G B s H locs V) {C : String} {T : u_T} {N' cj index : Nat} (hin : ∀ w ∈ u_ws C T N', w ∈ Ts) (ty : Nat → FieldType) (hty : ∀ k, k < N' → parseFieldDescriptor (T k).2.2.1 = some (ty k)) (hcl : Cond.classLink own index C ∈ Ts) (hinst : Cond.instantiable C N' ∈ Ts) (hini : Cond.initialized C ∈ Ts) (hc : vwCl[cj]? = some (C, T, N')) {df : List Value} (hfs : ∀ j, j < N' → defaultValue (ty j) = vp_V (df.map (shV B)) j) {cells' slots' : Nat} (e1 : cells + 1 = cells') (e2 : slots + N' = slots') (hcc : cells' ≤ R.cells) (hss : slots' ≤ R.slots) (hd : decode cc pc = .ok (.new index, 3))
    (kk : ∀ H1, yW G B s H1 locs (V ++ [.inr (cj, df)]) → W p l e R s m args below meth c H1 locs cells' slots' Q (F0 m (pc + 3) ls (.ref (B + V.length) :: rest))) : W p l e R s m args below meth c H locs cells slots Q (F0 m pc ls rest) := by
  subst e1
  subst e2
  have hKn := X.2.2.2.2.2.2.2.2.1.1 cj _ hc
  refine W.newcK X.1 X.2.1 X.2.2.2.1 (X.2.2.2.2.1 _ hcl) (X.2.2.2.2.1 _ hinst) (X.2.2.2.2.1 _ hini) rfl hd hcc hss hKn.2.1 hW.1.1 fun H1 kC hkC f1 z1 o1 => ?_
  rw [← hW.1.1] at f1 z1 o1
  exact kk H1 ⟨hW.1.push z1 o1 ⟨_, hc, (u_born ty X.2.2.2.2.1 hin hKn hkC f1 hty).to hfs⟩, vLS hW.2 (by omega) o1⟩
/-- putfield in a constructor -/
theorem y_put (X : yC G B p s m args c cc nL Ts own meth) (hW : yW G B s H locs V) {C : String} {T : u_T} {N' cj index k j : Nat} {fs : List Value} (hat : V[j]? = some (.inr (cj, fs))) (hin : ∀ w ∈ u_ws C T N', w ∈ Ts) (ty0 : Nat → FieldType) (hty : ∀ k, k < N' → parseFieldDescriptor (T k).2.2.1 = some (ty0 k)) (hnm : ∀ a, a < N' → ∀ b, b < N' → a ≠ b → (T a).2.1 ≠ (T b).2.1) (hc : vwCl[cj]? = some (C, T, N')) (hk : k < N') (hlink : Cond.fieldLink own index (T k).1 (T k).2.1 (T k).2.2.1 ∈ Ts) (hdecl : (T k).1 = own) {v : Value} (hn : narrow (ty0 k) (shV B v) = shV B v) (hfit : fits (ty0 k) (shV B v) = true) (hl : k < fs.length) (hd : decode cc pc = .ok (.putfield index, 3))
    (kk : ∀ H1 locs1, yW G B s H1 locs1 (V.set j (.inr (cj, fs.set k v))) → W p l e R s m args below meth c H1 locs1 cells slots Q (F0 m (pc + 3) ls rest)) : W p l e R s m args below meth c H locs cells slots Q (F0 m pc ls (shV B v :: .ref (B + j) :: rest)) := by
  have hts := X.2.2.2.2.1
  have hown := X.2.2.2.1
  have hK := X.2.2.2.2.2.2.2.2.1
  have hap := va_apart (own := own) hts hin ty0 hty hnm hK hc
  obtain ⟨r, h1, cell, q1, q2, q3, q4⟩ := hW.1.2 j _ hat
  have hr : r = (C, T, N') := Option.some.inj (h1.symm.trans hc)
  subst hr
  obtain ⟨hS, hfc, kC, hkC, hkind⟩ := hK.1 cj _ hc
  obtain ⟨cf, kf, fi, f, hi, hsl⟩ := hS k hk
  have hlay := hts _ (hin _ (u_in_lay hk))
  have hst := (u_facts hfc hkC (u_lays hts hin hk) hi).1
  have hBj : B ≤ B + j := Nat.le_add_right _ _
  have fin : ∀ (H' : Heap), H'[B + j]? = some (cell.setSlot f.slot (shV B v)) → H'.size = H.size → (∀ q, q ≠ B + j → H'[q]? = H[q]?) → ∀ locs1, (∀ q ∈ locs1, B ≤ q.base) → yW G B s H' locs1 (V.set j (.inr (cj, fs.set k v))) := by
    intro H' g1 g2 g3 locs1 hL
    refine ⟨hW.1.put g2 g3 ⟨_, hc, t_OB.to (V := updV (vp_V (fs.map (shV B))) k (shV B v)) ⟨cell.setSlot (G.1.2 cj k) (shV B v), by rw [hsl] at g1; exact g1, q2, q3, t_set q4 hap hk (shV B v)⟩ (fun a _ => ?_)⟩, ⟨by rw [g2]; exact hW.2.1, fun q a b => by rw [g3 q (fun z => b (by omega))]; exact hW.2.2.1 q a b, hL⟩⟩
    rw [vp_updV_set (by rw [List.length_map]; exact hl), List.map_set]
  by_cases hfin : (T k).2.2.2 = true
  · unfold u_lay at hlay
    rw [if_pos hfin] at hlay
    have hcf : m.cls = cf := by
      obtain ⟨_, _, c', _, _, _, -, -, hf', -, -, -, hown2, -⟩ := Cond.laysFinal_spec hlay
      have e1 : c' = cf := by have := hi.symm.trans hf'; simp at this; exact this.1.symm
      rw [hdecl] at hown2
      rw [← e1]; exact Option.some.inj (hown.symm.trans hown2)
    have h6 := u_fits hfc hkC hkind (Or.inr hlay) hi (hty k hk) hn hfit
    refine W.putFinK X.1 X.2.1 hown (hts _ hlink) hi hst hcf X.2.2.2.2.2.2.2.1 (by rw [q2]; exact h6) q1 q3 (by rw [hsl]; exact k2_hasslot (q4 k hk)) rfl rfl hd fun H' g1 g2 g3 => ?_
    exact kk H' _ (fin H' g1 g2 g3 _ (fun q hq => by
      rcases List.mem_append.mp hq with h | h
      · exact hW.2.2.2 q h
      · rw [List.mem_singleton.mp h]; exact hBj))
  · have hfin : (T k).2.2.2 = false := by simpa using hfin
    unfold u_lay at hlay
    rw [if_neg (by rw [hfin]; decide)] at hlay
    have h6 := u_store hfc hkC hkind hlay hi (hty k hk) hn hfit
    refine W.putK X.1 X.2.1 (f := f) ⟨hown, hts _ hlink, ⟨_, _, _, hi⟩, hst⟩ (by rw [q2]; exact h6) q1 q3 (by rw [hsl]; exact k2_hasslot (q4 k hk)) rfl rfl hd fun H' g1 g2 g3 => ?_
    exact kk H' _ (fin H' g1 g2 g3 _ (fun q hq => by
      rcases List.mem_append.mp hq with h | h
      · exact hW.2.2.2 q h
      · rw [List.mem_singleton.mp h]; exact hBj))
end YROWS
