section XROWS
variable {p : Program} {l : Launch} {e : Env} {R : Room} {s : State} {m : MethodId} {args : Array Value} {below : List Frame} {meth : Method} {c : Code} {H : Heap} {locs : List Loc} {cells slots : Nat} {Q : State → Prop}
variable {cc : ByteArray} {pc : Nat} {ls : Array Slot} {rest : List Value} {G : xG} {b : Bool} {sz nL : Nat} {Ts : List Cond} {own : String} {ret : Option FieldType} {S : Mm} {β : Type} {out : β}
/-- a field of a kind of object: its place k, its tag t, its comp f -/
def xFd (b : Bool) (ck k t f mm : Nat) (C : String) (T : u_T) (N : Nat) : Prop := ck < nk ∧ sd ck = b ∧ kt ck = 0 ∧ vwCl[kn ck]? = some (C, T, N) ∧ k < N ∧ (kf ck)[k]? = some (t, f) ∧ kc ck = mm
theorem x_get0 (X : xC G b sz p s m args c cc nL Ts own meth ret) (hW : xW G b sz s H locs S) {ck k t f mm i idx : Nat} {C : String} {T : u_T} {N : Nat} (hF : xFd b ck k t f mm C T N) (hin : ∀ w ∈ u_ws C T N, w ∈ Ts) (hl : Cond.fieldLink own idx (T k).1 (T k).2.1 (T k).2.2.1 ∈ Ts) (hi : i < mm) (hd : decode cc pc = .ok (.getfield idx, 3))
    (kk : W p l e R s m args below meth c H locs cells slots Q (F0 m (pc + 3) ls (fv G S i (t, f) :: rest))) : W p l e R s m args below meth c H locs cells slots Q (F0 m pc ls (.ref (G.2.2 ck i) :: rest)) := by
  obtain ⟨h1, h2, h3, h4, h5, h6, h7⟩ := hF
  subst h7
  obtain ⟨q, hq, hw⟩ := xP.ix (G := G) (S := S) (kK_mem h1 h2 (by omega) hi)
  have he : (wl G S b)[q]? = some (G.2.2 ck i, .inr (kn ck, (kf ck).map (fv G S i))) := by rw [hw]; unfold en; rw [if_pos h3]
  refine va_get (v := fv G S i (t, f)) X.1 X.2.1 X.2.2.2.2.1 hin X.2.2.2.1 X.2.2.2.2.2.2.2.2.1 hW.1 q he h4 k h5 (X.2.2.2.2.1 _ hl) (fun _ h => h) (by rw [List.getElem?_map, h6]; rfl) hd kk
theorem x_getI (X : xC G b sz p s m args c cc nL Ts own meth ret) (hW : xW G b sz s H locs S) {ck k f mm i idx : Nat} {C : String} {T : u_T} {N : Nat} (hF : xFd b ck k 0 f mm C T N) (hin : ∀ w ∈ u_ws C T N, w ∈ Ts) (hl : Cond.fieldLink own idx (T k).1 (T k).2.1 (T k).2.2.1 ∈ Ts) (hi : i < mm) (hd : decode cc pc = .ok (.getfield idx, 3)) {K : Int32 → Option β} (h : gf S f i K = some out)
    (kk : ∀ x, K x = some out → W p l e R s m args below meth c H locs cells slots Q (F0 m (pc + 3) ls (.int x :: rest))) : W p l e R s m args below meth c H locs cells slots Q (F0 m pc ls (.ref (G.2.2 ck i) :: rest)) :=
  x_get0 X hW hF hin hl hi hd (kk (S.1 f i 0) h)
theorem x_getL (X : xC G b sz p s m args c cc nL Ts own meth ret) (hW : xW G b sz s H locs S) {ck k f mm i idx : Nat} {C : String} {T : u_T} {N : Nat} (hF : xFd b ck k 1 f mm C T N) (hin : ∀ w ∈ u_ws C T N, w ∈ Ts) (hl : Cond.fieldLink own idx (T k).1 (T k).2.1 (T k).2.2.1 ∈ Ts) (hi : i < mm) (hd : decode cc pc = .ok (.getfield idx, 3)) {K : Int64 → Option β} (h : gl S f i K = some out)
    (kk : ∀ x, K x = some out → W p l e R s m args below meth c H locs cells slots Q (F0 m (pc + 3) ls (.long x :: rest))) : W p l e R s m args below meth c H locs cells slots Q (F0 m pc ls (.ref (G.2.2 ck i) :: rest)) :=
  x_get0 X hW hF hin hl hi hd (kk (S.2.1 f i 0) h)
theorem x_getR (X : xC G b sz p s m args c cc nL Ts own meth ret) (hW : xW G b sz s H locs S) {ck k f mm i idx : Nat} {C : String} {T : u_T} {N : Nat} (hF : xFd b ck k 2 f mm C T N) (hin : ∀ w ∈ u_ws C T N, w ∈ Ts) (hl : Cond.fieldLink own idx (T k).1 (T k).2.1 (T k).2.2.1 ∈ Ts) (hi : i < mm) (hd : decode cc pc = .ok (.getfield idx, 3))
    (kk : W p l e R s m args below meth c H locs cells slots Q (F0 m (pc + 3) ls (.ref (G.2.2 f i) :: rest))) : W p l e R s m args below meth c H locs cells slots Q (F0 m pc ls (.ref (G.2.2 ck i) :: rest)) :=
  x_get0 X hW hF hin hl hi hd kk
/-- putfield of a number -/
theorem x_put0 (X : xC G b sz p s m args c cc nL Ts own meth ret) (hW : xW G b sz s H locs S) {ck k t f mm i idx : Nat} {C : String} {T : u_T} {N : Nat} (hF : xFd b ck k t f mm C T N) (hin : ∀ w ∈ u_ws C T N, w ∈ Ts) (hl : Cond.fieldLink own idx (T k).1 (T k).2.1 (T k).2.2.1 ∈ Ts) (hi : i < mm) (hd : decode cc pc = .ok (.putfield idx, 3))
    (ty0 : Nat → FieldType) (hty : ∀ k, k < N → parseFieldDescriptor (T k).2.2.1 = some (ty0 k)) (hnm : ∀ a, a < N → ∀ b, b < N → a ≠ b → (T a).2.1 ≠ (T b).2.1) (hfin : (T k).2.2.2 = false) {v : Value} (hn : narrow (ty0 k) v = v) (hfit : fits (ty0 k) v = true) (S' : Mm)
    (hv : fv G S' i (t, f) = v) (hself : ∀ e ∈ kf ck, e ≠ (t, f) → fv G S' i e = fv G S i e) (hnd : ∀ a, (kf ck)[a]? = some (t, f) → a = k) (hoth : ∀ c' i', (c', i') ∈ kK b → ¬ (c' = ck ∧ i' = i) → en G S' c' i' = en G S c' i')
    (kk : ∀ H1 locs1, xW G b sz s H1 locs1 S' → W p l e R s m args below meth c H1 locs1 cells slots Q (F0 m (pc + 3) ls rest)) : W p l e R s m args below meth c H locs cells slots Q (F0 m pc ls (v :: .ref (G.2.2 ck i) :: rest)) := by
  obtain ⟨h1, h2, h3, h4, h5, h6, h7⟩ := hF
  subst h7
  obtain ⟨q, hq, hw⟩ := xP.ix (G := G) (S := S) (kK_mem h1 h2 (by omega) hi)
  have he : (wl G S b)[q]? = some (G.2.2 ck i, .inr (kn ck, (kf ck).map (fv G S i))) := by rw [hw]; unfold en; rw [if_pos h3]
  have hlen : k < ((kf ck).map (fv G S i)).length := by rw [List.length_map]; exact (List.getElem?_eq_some_iff.mp h6).1
  have hen : en G S' ck i = .inr (kn ck, ((kf ck).map (fv G S i)).set k v) := by
    unfold en
    rw [if_pos h3]
    congr 2
    apply List.ext_getElem?
    intro a
    by_cases ha : a = k
    · subst ha
      rw [List.getElem?_set_self hlen, List.getElem?_map, h6]
      exact congrArg some hv
    · rw [List.getElem?_set_ne (Ne.symm ha), List.getElem?_map, List.getElem?_map]
      cases hz : (kf ck)[a]? with
      | none => rfl
      | some z => exact congrArg some (hself z (List.mem_of_getElem? hz) (fun e => ha (hnd a (by rw [hz, e]))))
  refine va_put X.1 X.2.1 X.2.2.2.2.1 hin ty0 hty hnm X.2.2.2.1 X.2.2.2.2.2.2.2.2.1 hW.1 (xD.va X.2.2.2.2.2.2.2.2.2.1) hW.2 q he h4 k h5 (X.2.2.2.2.1 _ hl) (fun _ h => h) hfin (hty k h5) hn hfit hlen hd (fun H1 locs1 hP _ hS => kk H1 locs1 ⟨xP.set hq (by rw [hen]; exact hP) hoth, hS⟩)
def ndOk : Bool := (List.range nk).all fun c => (List.range (kf c).length).all fun x => (List.range (kf c).length).all fun y => (x == y) || !((kf c)[x]? == (kf c)[y]?)
theorem ndOk_t : ndOk = true := by decide +kernel
theorem nd_of {c x y : Nat} {q : Nat × Nat} (hc : c < nk) (hx : (kf c)[x]? = some q) (hy : (kf c)[y]? = some q) : x = y := by
  have lx := (List.getElem?_eq_some_iff.mp hx).1
  have ly := (List.getElem?_eq_some_iff.mp hy).1
  have h := List.all_eq_true.mp (List.all_eq_true.mp (List.all_eq_true.mp ndOk_t c (List.mem_range.mpr hc)) x (List.mem_range.mpr lx)) y (List.mem_range.mpr ly)
  rw [hx, hy] at h
  simpa using h
theorem x_putI (X : xC G b sz p s m args c cc nL Ts own meth ret) (hW : xW G b sz s H locs S) {ck k f mm i idx : Nat} {C : String} {T : u_T} {N : Nat} (hF : xFd b ck k 0 f mm C T N) (hin : ∀ w ∈ u_ws C T N, w ∈ Ts) (hl : Cond.fieldLink own idx (T k).1 (T k).2.1 (T k).2.2.1 ∈ Ts) (hi : i < mm) (hd : decode cc pc = .ok (.putfield idx, 3))
    (ty0 : Nat → FieldType) (hty : ∀ k, k < N → parseFieldDescriptor (T k).2.2.1 = some (ty0 k)) (hnm : ∀ a, a < N → ∀ b, b < N → a ≠ b → (T a).2.1 ≠ (T b).2.1) (hfin : (T k).2.2.2 = false) {v : Int32} (hn : narrow (ty0 k) (.int v) = .int v) (hfit : fits (ty0 k) (.int v) = true) {K : Mm → Option β} (h : pf S f i v K = some out)
    (kk : ∀ S1 H1 locs1, K S1 = some out → xW G b sz s H1 locs1 S1 → W p l e R s m args below meth c H1 locs1 cells slots Q (F0 m (pc + 3) ls rest)) : W p l e R s m args below meth c H locs cells slots Q (F0 m pc ls (.int v :: .ref (G.2.2 ck i) :: rest)) := by
  have h6 := hF.2.2.2.2.2.1
  have hmem := List.mem_of_getElem? h6
  have ho := ow_of hF.1 hmem (fun z => by cases z)
  refine x_put0 X hW hF hin hl hi hd ty0 hty hnm hfin hn hfit (wrI S f i 0 v) ?_ ?_ (fun a ha => nd_of hF.1 ha h6) (fun c' i' hm hn' => en_wrF ho.2 hm (fun q => hn' ⟨by rw [← ho.1]; exact q.1, q.2⟩)) (fun H1 locs1 hw => kk _ H1 locs1 h hw)
  · show Value.int (if f = f ∧ i = i ∧ 0 = 0 then v else _) = _
    rw [if_pos ⟨rfl, rfl, rfl⟩]
  · intro z hz hne
    unfold fv
    by_cases h1 : z.1 = 0
    · rw [if_pos h1, if_pos h1]
      show Value.int (if z.2 = f ∧ i = i ∧ 0 = 0 then v else S.1 z.2 i 0) = _
      rw [if_neg (fun q => hne (by obtain ⟨z1, z2⟩ := z; cases h1; cases q.1; rfl))]
    · rw [if_neg h1, if_neg h1]
      rfl
theorem x_putL (X : xC G b sz p s m args c cc nL Ts own meth ret) (hW : xW G b sz s H locs S) {ck k f mm i idx : Nat} {C : String} {T : u_T} {N : Nat} (hF : xFd b ck k 1 f mm C T N) (hin : ∀ w ∈ u_ws C T N, w ∈ Ts) (hl : Cond.fieldLink own idx (T k).1 (T k).2.1 (T k).2.2.1 ∈ Ts) (hi : i < mm) (hd : decode cc pc = .ok (.putfield idx, 3))
    (ty0 : Nat → FieldType) (hty : ∀ k, k < N → parseFieldDescriptor (T k).2.2.1 = some (ty0 k)) (hnm : ∀ a, a < N → ∀ b, b < N → a ≠ b → (T a).2.1 ≠ (T b).2.1) (hfin : (T k).2.2.2 = false) {v : Int64} (hn : narrow (ty0 k) (.long v) = .long v) (hfit : fits (ty0 k) (.long v) = true) {K : Mm → Option β} (h : pl S f i v K = some out)
    (kk : ∀ S1 H1 locs1, K S1 = some out → xW G b sz s H1 locs1 S1 → W p l e R s m args below meth c H1 locs1 cells slots Q (F0 m (pc + 3) ls rest)) : W p l e R s m args below meth c H locs cells slots Q (F0 m pc ls (.long v :: .ref (G.2.2 ck i) :: rest)) := by
  have h6 := hF.2.2.2.2.2.1
  have hmem := List.mem_of_getElem? h6
  have ho := ow_of hF.1 hmem (fun z => by cases z)
  refine x_put0 X hW hF hin hl hi hd ty0 hty hnm hfin hn hfit (wrL S f i 0 v) ?_ ?_ (fun a ha => nd_of hF.1 ha h6) (fun c' i' hm hn' => en_wrFL ho.2 hm (fun q => hn' ⟨by rw [← ho.1]; exact q.1, q.2⟩)) (fun H1 locs1 hw => kk _ H1 locs1 h hw)
  · show Value.long (if f = f ∧ i = i ∧ 0 = 0 then v else _) = _
    rw [if_pos ⟨rfl, rfl, rfl⟩]
  · intro z hz hne
    unfold fv
    by_cases h1 : z.1 = 0
    · rw [if_pos h1, if_pos h1]
      rfl
    · rw [if_neg h1, if_neg h1]
      by_cases h2 : z.1 = 1
      · rw [if_pos h2, if_pos h2]
        show Value.long (if z.2 = f ∧ i = i ∧ 0 = 0 then v else S.2.1 z.2 i 0) = _
        rw [if_neg (fun q => hne (by obtain ⟨z1, z2⟩ := z; cases h2; cases q.1; rfl))]
      · rw [if_neg h2, if_neg h2]
/-! arrays of a kind that is known: ck, its length n, how many there are m -/
def xAr (b : Bool) (ck t n m : Nat) : Prop := ck < nk ∧ sd ck = b ∧ kt ck = t ∧ kn ck = n ∧ kc ck = m
theorem xAr.ty {b : Bool} {ck n m : Nat} (hA : xAr b ck 1 n m) (G : xG) (hka : ka ck = 1) : (tyL G)[1]? = some (G.2.1 (ka ck), .int) := by rw [hka]; rfl
def kaOk : Bool := (List.range nk).all fun c => (kt c != 1 || ka c == 1) && ((kt c != 2 || ka c == 2) && (kt c != 3 || ka c == 3))
theorem kaOk_t : kaOk = true := by decide +kernel
theorem ka_of {c : Nat} (hc : c < nk) : (kt c = 1 → ka c = 1) ∧ (kt c = 2 → ka c = 2) ∧ (kt c = 3 → ka c = 3) := by
  have h := List.all_eq_true.mp kaOk_t c (List.mem_range.mpr hc)
  simp only [Bool.and_eq_true, Bool.or_eq_true, bne_iff_ne, beq_iff_eq, ne_eq] at h
  exact ⟨fun q => h.1.resolve_left (fun z => z q), fun q => h.2.1.resolve_left (fun z => z q), fun q => h.2.2.resolve_left (fun z => z q)⟩
theorem en_int {G : xG} {S : Mm} {ck i : Nat} (h : kt ck = 1 ∨ kt ck = 2) : en G S ck i = .inl (G.2.1 (ka ck), kn ck, .inl (S.1 ck i)) := by
  unfold en
  rw [if_neg (by omega), if_neg (by omega), if_neg (by omega)]
theorem ub {i m n : Nat} {ix : Int32} (h : (Nat.blt i m && inb ix n) = true) : i < m ∧ vp_in ix n := by
  rw [Bool.and_eq_true, Nat.blt_eq] at h
  exact ⟨h.1, inb_iff.mp h.2⟩
theorem x_iald (X : xC G b sz p s m args c cc nL Ts own meth ret) (hW : xW G b sz s H locs S) {ck i n mm : Nat} {ix : Int32} (hA : xAr b ck 1 n mm) (hd : decode cc pc = .ok (.iaload, 1)) {K : Int32 → Option β} (h : ldA S ck i n mm ix K = some out)
    (kk : ∀ x, K x = some out → W p l e R s m args below meth c H locs cells slots Q (F0 m (pc + 1) ls (.int x :: rest))) : W p l e R s m args below meth c H locs cells slots Q (F0 m pc ls (.int ix :: .ref (G.2.2 ck i) :: rest)) := by
  obtain ⟨h1, h2, h3, h4, h5⟩ := hA
  obtain ⟨hg, h⟩ := if_some h
  obtain ⟨g1, g2⟩ := ub hg
  obtain ⟨q, hq, hw⟩ := xP.ix (G := G) (S := S) (kK_mem (i := i) h1 h2 (by omega) (by omega))
  rw [en_int (Or.inl h3), (ka_of h1).1 h3, h4] at hw
  exact va_iald X.1 X.2.1 X.2.2.2.2.2.2.2.2.1 hW.1 q 1 hw rfl g2 hd (kk _ h)
theorem x_zald (X : xC G b sz p s m args c cc nL Ts own meth ret) (hW : xW G b sz s H locs S) {ck i n mm : Nat} {ix : Int32} (hA : xAr b ck 2 n mm) (hd : decode cc pc = .ok (.baload, 1)) {K : Int32 → Option β} (h : ldA S ck i n mm ix K = some out)
    (kk : ∀ x, K x = some out → W p l e R s m args below meth c H locs cells slots Q (F0 m (pc + 1) ls (.int x :: rest))) : W p l e R s m args below meth c H locs cells slots Q (F0 m pc ls (.int ix :: .ref (G.2.2 ck i) :: rest)) := by
  obtain ⟨h1, h2, h3, h4, h5⟩ := hA
  obtain ⟨hg, h⟩ := if_some h
  obtain ⟨g1, g2⟩ := ub hg
  obtain ⟨q, hq, hw⟩ := xP.ix (G := G) (S := S) (kK_mem (i := i) h1 h2 (by omega) (by omega))
  rw [en_int (Or.inr h3), (ka_of h1).2.1 h3, h4] at hw
  exact va_zald X.1 X.2.1 X.2.2.2.2.2.2.2.2.1 hW.1 q 2 hw rfl g2 hd (kk _ h)
theorem x_lald (X : xC G b sz p s m args c cc nL Ts own meth ret) (hW : xW G b sz s H locs S) {ck i n mm : Nat} {ix : Int32} (hA : xAr b ck 3 n mm) (hd : decode cc pc = .ok (.laload, 1)) {K : Int64 → Option β} (h : ldL S ck i n mm ix K = some out)
    (kk : ∀ x, K x = some out → W p l e R s m args below meth c H locs cells slots Q (F0 m (pc + 1) ls (.long x :: rest))) : W p l e R s m args below meth c H locs cells slots Q (F0 m pc ls (.int ix :: .ref (G.2.2 ck i) :: rest)) := by
  obtain ⟨h1, h2, h3, h4, h5⟩ := hA
  obtain ⟨hg, h⟩ := if_some h
  obtain ⟨g1, g2⟩ := ub hg
  obtain ⟨q, hq, hw⟩ := xP.ix (G := G) (S := S) (kK_mem (i := i) h1 h2 (by omega) (by omega))
  have he : en G S ck i = .inl (G.2.1 (ka ck), kn ck, .inr (.inl (S.2.1 ck i))) := by unfold en; rw [if_neg (by omega), if_pos h3]
  rw [he, (ka_of h1).2.2 h3, h4] at hw
  exact va_lald X.1 X.2.1 X.2.2.2.2.2.2.2.2.1 hW.1 q 3 hw rfl g2 hd (kk _ h)
theorem x_aald (X : xC G b sz p s m args c cc nL Ts own meth ret) (hW : xW G b sz s H locs S) {ck i n mm ct mt : Nat} {ix : Int32} (hA : xAr b ck 4 n mm) (hx : kx ck = ct) {ty : FieldType} (hty : (tyL G)[ka ck]? = some (G.2.1 (ka ck), ty)) (hr : ty.isReference = true) (hd : decode cc pc = .ok (.aaload, 1)) {K : Nat → Option β} (h : ldR S ck i n mm ix mt K = some out)
    (kk : ∀ x, x < mt → K x = some out → W p l e R s m args below meth c H locs cells slots Q (F0 m (pc + 1) ls (.ref (G.2.2 ct x) :: rest))) : W p l e R s m args below meth c H locs cells slots Q (F0 m pc ls (.int ix :: .ref (G.2.2 ck i) :: rest)) := by
  obtain ⟨h1, h2, h3, h4, h5⟩ := hA
  obtain ⟨hg, h⟩ := if_some h
  rw [Bool.and_eq_true, Nat.blt_eq] at hg
  obtain ⟨g1, g2⟩ := ub hg.1
  obtain ⟨q, hq, hw⟩ := xP.ix (G := G) (S := S) (kK_mem (i := i) h1 h2 (by omega) (by omega))
  have he : en G S ck i = .inl (G.2.1 (ka ck), kn ck, .inr (.inr (.inr (.inr fun j => some (G.2.2 (kx ck) (S.2.2 ck i j)))))) := by unfold en; rw [if_neg (by omega), if_neg (by omega), if_pos h3]
  rw [he, h4, hx] at hw
  have hlt : ix.toNatClampNeg < n := Nat.not_le.mp fun q => g2 (Or.inr q)
  have hK := X.2.2.2.2.2.2.2.2.1
  exact W.aald (v := .ref (G.2.2 ct (S.2.2 ck i ix.toNatClampNeg))) (ty := ty) X.1 X.2.1 (hW.1 q _ hw) ((hK.2 (ka ck) _ hty).1 n (fun j => va_rf (some (G.2.2 ct (S.2.2 ck i j))))) hr (fun q => by cases q) (by show ¬ (ix < 0 ∨ (arrV _ _ _).slots.size ≤ _); rw [arrV_size]; exact g2) (by show (arrV _ _ _).slots[_]? = _; rw [arrV_read _ _ hlt]; rfl) rfl rfl hd (kk _ hg.2 h)
theorem x_iast (X : xC G b sz p s m args c cc nL Ts own meth ret) (hW : xW G b sz s H locs S) {ck i n mm : Nat} {ix v : Int32} (hA : xAr b ck 1 n mm) (hd : decode cc pc = .ok (.iastore, 1)) {K : Mm → Option β} (h : stA S ck i n mm ix v K = some out)
    (kk : ∀ S1 H1 locs1, K S1 = some out → xW G b sz s H1 locs1 S1 → W p l e R s m args below meth c H1 locs1 cells slots Q (F0 m (pc + 1) ls rest)) : W p l e R s m args below meth c H locs cells slots Q (F0 m pc ls (.int v :: .int ix :: .ref (G.2.2 ck i) :: rest)) := by
  obtain ⟨h1, h2, h3, h4, h5⟩ := hA
  obtain ⟨hg, h⟩ := if_some h
  obtain ⟨g1, g2⟩ := ub hg
  obtain ⟨q, hq, hw⟩ := xP.ix (G := G) (S := S) (kK_mem (i := i) h1 h2 (by omega) (by omega))
  rw [en_int (Or.inl h3), (ka_of h1).1 h3, h4] at hw
  refine va_iast X.1 X.2.1 X.2.2.2.2.2.2.2.2.1 hW.1 (xD.va X.2.2.2.2.2.2.2.2.2.1) hW.2 q 1 hw rfl g2 hd (fun H1 locs1 hP _ hS => kk _ H1 locs1 h ⟨xP.set hq ?_ (fun c' i' hm hn => en_wrA (by omega) hm hn), hS⟩)
  rw [en_int (Or.inl h3), (ka_of h1).1 h3, h4]
  have hf : (wrI S ck i ix.toNatClampNeg v).1 ck i = upd (S.1 ck i) ix.toNatClampNeg v := by
    funext d
    show (if ck = ck ∧ i = i ∧ d = ix.toNatClampNeg then v else S.1 ck i d) = if d = ix.toNatClampNeg then v else S.1 ck i d
    by_cases hd : d = ix.toNatClampNeg
    · rw [if_pos ⟨rfl, rfl, hd⟩, if_pos hd]
    · rw [if_neg (fun q => hd q.2.2), if_neg hd]
  rw [hf]
  exact hP
theorem x_zast (X : xC G b sz p s m args c cc nL Ts own meth ret) (hW : xW G b sz s H locs S) {ck i n mm : Nat} {ix v : Int32} (hA : xAr b ck 2 n mm) (hd : decode cc pc = .ok (.bastore, 1)) {K : Mm → Option β} (h : stA S ck i n mm ix (v &&& 1) K = some out)
    (kk : ∀ S1 H1 locs1, K S1 = some out → xW G b sz s H1 locs1 S1 → W p l e R s m args below meth c H1 locs1 cells slots Q (F0 m (pc + 1) ls rest)) : W p l e R s m args below meth c H locs cells slots Q (F0 m pc ls (.int v :: .int ix :: .ref (G.2.2 ck i) :: rest)) := by
  obtain ⟨h1, h2, h3, h4, h5⟩ := hA
  obtain ⟨hg, h⟩ := if_some h
  obtain ⟨g1, g2⟩ := ub hg
  obtain ⟨q, hq, hw⟩ := xP.ix (G := G) (S := S) (kK_mem (i := i) h1 h2 (by omega) (by omega))
  rw [en_int (Or.inr h3), (ka_of h1).2.1 h3, h4] at hw
  refine va_zast X.1 X.2.1 X.2.2.2.2.2.2.2.2.1 hW.1 (xD.va X.2.2.2.2.2.2.2.2.2.1) hW.2 q 2 hw rfl g2 hd (fun H1 locs1 hP _ hS => kk _ H1 locs1 h ⟨xP.set hq ?_ (fun c' i' hm hn => en_wrA (by omega) hm hn), hS⟩)
  rw [en_int (Or.inr h3), (ka_of h1).2.1 h3, h4]
  have hz : vp_nar .boolean v = v &&& 1 := rfl
  rw [hz] at hP
  have hf : (wrI S ck i ix.toNatClampNeg (v &&& 1)).1 ck i = upd (S.1 ck i) ix.toNatClampNeg (v &&& 1) := by
    funext d
    show (if ck = ck ∧ i = i ∧ d = ix.toNatClampNeg then v &&& 1 else S.1 ck i d) = if d = ix.toNatClampNeg then v &&& 1 else S.1 ck i d
    by_cases hd : d = ix.toNatClampNeg
    · rw [if_pos ⟨rfl, rfl, hd⟩, if_pos hd]
    · rw [if_neg (fun q => hd q.2.2), if_neg hd]
  rw [hf]
  exact hP
theorem x_last (X : xC G b sz p s m args c cc nL Ts own meth ret) (hW : xW G b sz s H locs S) {ck i n mm : Nat} {ix : Int32} {v : Int64} (hA : xAr b ck 3 n mm) (hd : decode cc pc = .ok (.lastore, 1)) {K : Mm → Option β} (h : stL S ck i n mm ix v K = some out)
    (kk : ∀ S1 H1 locs1, K S1 = some out → xW G b sz s H1 locs1 S1 → W p l e R s m args below meth c H1 locs1 cells slots Q (F0 m (pc + 1) ls rest)) : W p l e R s m args below meth c H locs cells slots Q (F0 m pc ls (.long v :: .int ix :: .ref (G.2.2 ck i) :: rest)) := by
  obtain ⟨h1, h2, h3, h4, h5⟩ := hA
  obtain ⟨hg, h⟩ := if_some h
  obtain ⟨g1, g2⟩ := ub hg
  obtain ⟨q, hq, hw⟩ := xP.ix (G := G) (S := S) (kK_mem (i := i) h1 h2 (by omega) (by omega))
  have he : ∀ S : Mm, en G S ck i = .inl (G.2.1 (ka ck), kn ck, .inr (.inl (S.2.1 ck i))) := by intro S; unfold en; rw [if_neg (by omega), if_pos h3]
  rw [he, (ka_of h1).2.2 h3, h4] at hw
  refine va_last X.1 X.2.1 X.2.2.2.2.2.2.2.2.1 hW.1 (xD.va X.2.2.2.2.2.2.2.2.2.1) hW.2 q 3 hw rfl g2 hd (fun H1 locs1 hP _ hS => kk _ H1 locs1 h ⟨xP.set hq ?_ (fun c' i' hm hn => en_wrAL (by omega) hm hn), hS⟩)
  rw [he, (ka_of h1).2.2 h3, h4]
  have hf : (wrL S ck i ix.toNatClampNeg v).2.1 ck i = vp_updL (S.2.1 ck i) ix.toNatClampNeg v := by
    funext d
    show (if ck = ck ∧ i = i ∧ d = ix.toNatClampNeg then v else S.2.1 ck i d) = if d = ix.toNatClampNeg then v else S.2.1 ck i d
    by_cases hd : d = ix.toNatClampNeg
    · rw [if_pos ⟨rfl, rfl, hd⟩, if_pos hd]
    · rw [if_neg (fun q => hd q.2.2), if_neg hd]
  rw [hf]
  exact hP
end XROWS
