section YROWS
variable {p : Program} {l : Launch} {e : Env} {R : Room} {s : State} {m : MethodId} {args : Array Value} {below : List Frame} {meth : Method} {c : Code} {H : Heap} {locs : List Loc} {cells slots : Nat} {Q : State → Prop}
variable {cc : ByteArray} {pc : Nat} {ls : Array Slot} {rest : List Value} {G : xG} {b : Bool} {sz nL : Nat} {Ts : List Cond} {own : String} {ret : Option FieldType} {S : Mm} {β : Type} {out : β}
theorem okW_of {b : Bool} {ck i : Nat} (h : okW b ck i = true) : kt ck = 1 ∧ ck < nk ∧ sd ck = b ∧ i < kc ck := by
  unfold okW at h
  simp only [Bool.and_eq_true, Nat.beq_eq, Nat.blt_eq, beq_iff_eq] at h
  exact ⟨h.1, h.2.1, h.2.2.1, h.2.2.2⟩
theorem okP_of {b : Bool} {ck i : Nat} (h : okP b ck i = true) : (kt ck = 6 ∧ i = 0) ∨ (kt ck = 1 ∧ ck < nk ∧ sd ck = b ∧ i < kc ck) := by
  unfold okP at h
  simp only [Bool.or_eq_true, Bool.and_eq_true, Nat.beq_eq, Nat.blt_eq, beq_iff_eq] at h
  exact h.imp id (fun h => ⟨h.1, h.2.1, h.2.2.1, h.2.2.2⟩)
theorem x_ialdP (X : xC G b sz p s m args c cc nL Ts own meth ret) (hW : xW G b sz s H locs S) {ck i : Nat} {ix : Int32} (hd : decode cc pc = .ok (.iaload, 1)) {K : Int32 → Option β} (h : ldP b S ck i ix K = some out)
    (kk : ∀ x, K x = some out → W p l e R s m args below meth c H locs cells slots Q (F0 m (pc + 1) ls (.int x :: rest))) : W p l e R s m args below meth c H locs cells slots Q (F0 m pc ls (.int ix :: .ref (G.2.2 ck i) :: rest)) := by
  obtain ⟨hg, h⟩ := if_some h
  rw [Bool.and_eq_true] at hg
  have g2 := inb_iff.mp hg.2
  have hS : va_S (XA G b sz) s.heap H locs := hW.2
  rcases okP_of hg.1 with ⟨h6, rfl⟩ | ⟨h1, h2, h3, h4⟩
  · refine va_ti X.1 X.2.1 (X.2.2.2.2.2.2.2.2.2.2.1 ck h6) hS g2 rfl hd ?_
    have e : rdI S ck 0 ix.toNatClampNeg = sc ck ix.toNatClampNeg := by unfold rdI; rw [if_pos h6]
    rw [e] at h
    exact kk _ h
  · refine x_iald X hW (n := kn ck) (mm := kc ck) ⟨h2, h3, h1, rfl, rfl⟩ hd (K := K) ?_ kk
    unfold ldA
    have e : rdI S ck i ix.toNatClampNeg = S.1 ck i ix.toNatClampNeg := by unfold rdI; rw [if_neg (by omega)]
    rw [if_pos (by rw [Bool.and_eq_true, Nat.blt_eq]; exact ⟨h4, hg.2⟩), ← e]
    exact h
theorem x_iastP (X : xC G b sz p s m args c cc nL Ts own meth ret) (hW : xW G b sz s H locs S) {ck i : Nat} {ix v : Int32} (hd : decode cc pc = .ok (.iastore, 1)) {K : Mm → Option β} (h : stP b S ck i ix v K = some out)
    (kk : ∀ S1 H1 locs1, K S1 = some out → xW G b sz s H1 locs1 S1 → W p l e R s m args below meth c H1 locs1 cells slots Q (F0 m (pc + 1) ls rest)) : W p l e R s m args below meth c H locs cells slots Q (F0 m pc ls (.int v :: .int ix :: .ref (G.2.2 ck i) :: rest)) := by
  obtain ⟨hg, h⟩ := if_some h
  rw [Bool.and_eq_true] at hg
  obtain ⟨h1, h2, h3, h4⟩ := okW_of hg.1
  refine x_iast X hW (n := kn ck) (mm := kc ck) ⟨h2, h3, h1, rfl, rfl⟩ hd (K := K) ?_ kk
  unfold stA
  rw [if_pos (by rw [Bool.and_eq_true, Nat.blt_eq]; exact ⟨h4, hg.2⟩)]
  exact h
theorem x_lenP (X : xC G b sz p s m args c cc nL Ts own meth ret) (hW : xW G b sz s H locs S) {ck i : Nat} (hd : decode cc pc = .ok (.arraylength, 1)) {K : Int32 → Option β} (h : lnP b ck i K = some out)
    (kk : ∀ x, K x = some out → W p l e R s m args below meth c H locs cells slots Q (F0 m (pc + 1) ls (.int x :: rest))) : W p l e R s m args below meth c H locs cells slots Q (F0 m pc ls (.ref (G.2.2 ck i) :: rest)) := by
  obtain ⟨hg, h'⟩ := if_some h
  clear h
  have h := h'
  clear h'
  have hS : va_S (XA G b sz) s.heap H locs := hW.2
  rcases okP_of hg with ⟨h6, rfl⟩ | ⟨h1, h2, h3, h4⟩
  · exact va_tlen X.1 X.2.1 (X.2.2.2.2.2.2.2.2.2.2.1 ck h6) hS rfl hd (kk _ h)
  · obtain ⟨q, hq, hw⟩ := xP.ix (G := G) (S := S) (kK_mem (i := i) h2 h3 (by omega) h4)
    rw [en_int (Or.inl h1), (ka_of h2).1 h1] at hw
    exact va_alen (ty := .int) X.1 X.2.1 X.2.2.2.2.2.2.2.2.1 hW.1 q 1 hw rfl rfl hd (kk _ h)
theorem x_gets (X : xC G b sz p s m args c cc nL Ts own meth ret) (hW : xW G b sz s H locs S) {C n d : String} {v : Value} {idx : Nat} (hZ : va_Z C n d v (XA G b sz) s s.heap) (hl : Cond.fieldLink own idx C n d ∈ Ts) (hd : decode cc pc = .ok (.getstatic idx, 3))
    (kk : W p l e R s m args below meth c H locs cells slots Q (F0 m (pc + 3) ls (v :: rest))) : W p l e R s m args below meth c H locs cells slots Q (F0 m pc ls rest) :=
  va_gets X.1 X.2.1 hZ hW.2 X.2.2.2.1 (X.2.2.2.2.1 _ hl) (fun _ h => h) hd kk
/-- a row of an array of rows takes another's place -/
theorem x_aastR (X : xC G b sz p s m args c cc nL Ts own meth ret) (hW : xW G b sz s H locs S) {ck i n mm ct mt v : Nat} {ix : Int32} (hA : xAr b ck 4 n mm) (hx : kx ck = ct) (hka : ka ck = 7) (hT : xAr b ct 1 (kn ct) mt) (hv : v < mt) (hd : decode cc pc = .ok (.aastore, 1)) {K : Mm → Option β} (h : stR S ck i n mm ix v K = some out)
    (kk : ∀ S1 H1 locs1, K S1 = some out → xW G b sz s H1 locs1 S1 → W p l e R s m args below meth c H1 locs1 cells slots Q (F0 m (pc + 1) ls rest)) : W p l e R s m args below meth c H locs cells slots Q (F0 m pc ls (.ref (G.2.2 ct v) :: .int ix :: .ref (G.2.2 ck i) :: rest)) := by
  obtain ⟨h1, h2, h3, h4, h5⟩ := hA
  obtain ⟨t1, t2, t3, -, t5⟩ := hT
  obtain ⟨hg, h⟩ := if_some h
  obtain ⟨g1, g2⟩ := ub hg
  obtain ⟨q, hq, hw⟩ := xP.ix (G := G) (S := S) (kK_mem (i := i) h1 h2 (by omega) (by omega))
  obtain ⟨q', -, hw'⟩ := xP.ix (G := G) (S := S) (kK_mem (i := v) t1 t2 (by omega) (by omega))
  have he : ∀ S : Mm, en G S ck i = .inl (G.2.1 (ka ck), kn ck, .inr (.inr (.inr (.inr fun j => some (G.2.2 (kx ck) (S.2.2 ck i j)))))) := by intro S; unfold en; rw [if_neg (by omega), if_neg (by omega), if_pos h3]
  rw [he, h4, hx, hka] at hw
  rw [en_int (Or.inl t3), (ka_of t1).1 t3] at hw'
  have hcell := hW.1 q _ hw
  have hcv := hW.1 q' _ hw'
  obtain ⟨kA, k1, k2⟩ := X.2.2.2.2.2.2.2.2.2.2.2.2.2.1
  obtain ⟨-, kI, kI1, -⟩ := (X.2.2.2.2.2.2.2.2.1.2 1 _ rfl).1 (kn ct) (fun j => .int (S.1 ct v j))
  have hlt : ix.toNatClampNeg < n := Nat.not_le.mp fun q => g2 (Or.inr q)
  have hD := xD.va (S := S) (sz := sz) X.2.2.2.2.2.2.2.2.2.1
  refine W.aast X.1 X.2.1 hcell (fun q h => by cases h) (fun h => by cases h) k1 k2 rfl kI1 ⟨fun z => g2 (Or.inl z), by show _ < (arrV _ _ _).slots.size; rw [arrV_size]; exact hlt⟩ hcv (fun q h => by cases h) kI1 (by show ((G.2.1 1 == G.2.1 1) || _) = true; rw [beq_self_eq_true]; rfl) rfl rfl hd fun H1 e z oq => ?_
  refine kk _ H1 _ h ⟨xP.set (S := S) hq (va_P.set (ws := wl G S b) hW.1 hD hw ?_ oq) (fun c' i' hm hn => en_wrAR hm hn), hW.2.put z oq (hD.2 q _ hw)⟩
  rw [he, h4, hx, hka]
  show H1[G.2.2 ck i]? = some (vp_cell _ _)
  rw [e]
  show some ((arrV (G.2.1 7) n fun j => va_rf (some (G.2.2 ct (S.2.2 ck i j)))).setSlot _ _) = some (arrV (G.2.1 7) n fun j => va_rf (some (G.2.2 ct ((wrR S ck i ix.toNatClampNeg v).2.2 ck i j))))
  rw [arrV_store]
  congr 2
  funext d
  by_cases hdd : d = ix.toNatClampNeg
  · subst hdd
    simp [updV, wrR, va_rf]
  · simp [updV, wrR, hdd]
/-! branches -/
theorem x_if_eq (X : xC G b sz p s m args c cc nL Ts own meth ret) {x : Int32} {off : Int} {tgt : Nat} (hd : decode cc pc = .ok (.ifCond .eq off, 3)) (ht : (pc : Int) + off = (tgt : Int)) {A B : Option β} (h : (if x = 0 then A else B) = some out) (k1 : A = some out → W p l e R s m args below meth c H locs cells slots Q (F0 m tgt ls rest)) (k2 : B = some out → W p l e R s m args below meth c H locs cells slots Q (F0 m (pc + 3) ls rest)) : W p l e R s m args below meth c H locs cells slots Q (F0 m pc ls (.int x :: rest)) :=
  lv_if_eq X.1 X.2.1 hd ht (fun q => k1 ((if_pos q).symm.trans h)) (fun q => k2 ((if_neg q).symm.trans h))
theorem x_if_ne (X : xC G b sz p s m args c cc nL Ts own meth ret) {x : Int32} {off : Int} {tgt : Nat} (hd : decode cc pc = .ok (.ifCond .ne off, 3)) (ht : (pc : Int) + off = (tgt : Int)) {A B : Option β} (h : (if x = 0 then B else A) = some out) (k1 : A = some out → W p l e R s m args below meth c H locs cells slots Q (F0 m tgt ls rest)) (k2 : B = some out → W p l e R s m args below meth c H locs cells slots Q (F0 m (pc + 3) ls rest)) : W p l e R s m args below meth c H locs cells slots Q (F0 m pc ls (.int x :: rest)) :=
  lv_if_ne X.1 X.2.1 hd ht (fun q => k1 ((if_neg q).symm.trans h)) (fun q => k2 ((if_pos q).symm.trans h))
theorem x_if_lt (X : xC G b sz p s m args c cc nL Ts own meth ret) {x : Int32} {off : Int} {tgt : Nat} (hd : decode cc pc = .ok (.ifCond .lt off, 3)) (ht : (pc : Int) + off = (tgt : Int)) {A B : Option β} (h : (if x < 0 then A else B) = some out) (k1 : A = some out → W p l e R s m args below meth c H locs cells slots Q (F0 m tgt ls rest)) (k2 : B = some out → W p l e R s m args below meth c H locs cells slots Q (F0 m (pc + 3) ls rest)) : W p l e R s m args below meth c H locs cells slots Q (F0 m pc ls (.int x :: rest)) :=
  lv_if_lt X.1 X.2.1 hd ht (fun q => k1 ((if_pos q).symm.trans h)) (fun q => k2 ((if_neg q).symm.trans h))
theorem x_if_ge (X : xC G b sz p s m args c cc nL Ts own meth ret) {x : Int32} {off : Int} {tgt : Nat} (hd : decode cc pc = .ok (.ifCond .ge off, 3)) (ht : (pc : Int) + off = (tgt : Int)) {A B : Option β} (h : (if 0 ≤ x then A else B) = some out) (k1 : A = some out → W p l e R s m args below meth c H locs cells slots Q (F0 m tgt ls rest)) (k2 : B = some out → W p l e R s m args below meth c H locs cells slots Q (F0 m (pc + 3) ls rest)) : W p l e R s m args below meth c H locs cells slots Q (F0 m pc ls (.int x :: rest)) :=
  lv_if_ge X.1 X.2.1 hd ht (fun q => k1 ((if_pos q).symm.trans h)) (fun q => k2 ((if_neg q).symm.trans h))
theorem x_if_gt (X : xC G b sz p s m args c cc nL Ts own meth ret) {x : Int32} {off : Int} {tgt : Nat} (hd : decode cc pc = .ok (.ifCond .gt off, 3)) (ht : (pc : Int) + off = (tgt : Int)) {A B : Option β} (h : (if 0 < x then A else B) = some out) (k1 : A = some out → W p l e R s m args below meth c H locs cells slots Q (F0 m tgt ls rest)) (k2 : B = some out → W p l e R s m args below meth c H locs cells slots Q (F0 m (pc + 3) ls rest)) : W p l e R s m args below meth c H locs cells slots Q (F0 m pc ls (.int x :: rest)) :=
  lv_if_gt X.1 X.2.1 hd ht (fun q => k1 ((if_pos q).symm.trans h)) (fun q => k2 ((if_neg q).symm.trans h))
theorem x_if_le (X : xC G b sz p s m args c cc nL Ts own meth ret) {x : Int32} {off : Int} {tgt : Nat} (hd : decode cc pc = .ok (.ifCond .le off, 3)) (ht : (pc : Int) + off = (tgt : Int)) {A B : Option β} (h : (if x ≤ 0 then A else B) = some out) (k1 : A = some out → W p l e R s m args below meth c H locs cells slots Q (F0 m tgt ls rest)) (k2 : B = some out → W p l e R s m args below meth c H locs cells slots Q (F0 m (pc + 3) ls rest)) : W p l e R s m args below meth c H locs cells slots Q (F0 m pc ls (.int x :: rest)) :=
  lv_if_le X.1 X.2.1 hd ht (fun q => k1 ((if_pos q).symm.trans h)) (fun q => k2 ((if_neg q).symm.trans h))
theorem x_icmp_eq (X : xC G b sz p s m args c cc nL Ts own meth ret) {x y : Int32} {off : Int} {tgt : Nat} (hd : decode cc pc = .ok (.if_icmp .eq off, 3)) (ht : (pc : Int) + off = (tgt : Int)) {A B : Option β} (h : (if x = y then A else B) = some out) (k1 : A = some out → W p l e R s m args below meth c H locs cells slots Q (F0 m tgt ls rest)) (k2 : B = some out → W p l e R s m args below meth c H locs cells slots Q (F0 m (pc + 3) ls rest)) : W p l e R s m args below meth c H locs cells slots Q (F0 m pc ls (.int y :: .int x :: rest)) :=
  lv_icmp_eq X.1 X.2.1 hd ht (fun q => k1 ((if_pos q).symm.trans h)) (fun q => k2 ((if_neg q).symm.trans h))
theorem x_icmp_ne (X : xC G b sz p s m args c cc nL Ts own meth ret) {x y : Int32} {off : Int} {tgt : Nat} (hd : decode cc pc = .ok (.if_icmp .ne off, 3)) (ht : (pc : Int) + off = (tgt : Int)) {A B : Option β} (h : (if x = y then B else A) = some out) (k1 : A = some out → W p l e R s m args below meth c H locs cells slots Q (F0 m tgt ls rest)) (k2 : B = some out → W p l e R s m args below meth c H locs cells slots Q (F0 m (pc + 3) ls rest)) : W p l e R s m args below meth c H locs cells slots Q (F0 m pc ls (.int y :: .int x :: rest)) :=
  lv_icmp_ne X.1 X.2.1 hd ht (fun q => k1 ((if_neg q).symm.trans h)) (fun q => k2 ((if_pos q).symm.trans h))
theorem x_icmp_lt (X : xC G b sz p s m args c cc nL Ts own meth ret) {x y : Int32} {off : Int} {tgt : Nat} (hd : decode cc pc = .ok (.if_icmp .lt off, 3)) (ht : (pc : Int) + off = (tgt : Int)) {A B : Option β} (h : (if x < y then A else B) = some out) (k1 : A = some out → W p l e R s m args below meth c H locs cells slots Q (F0 m tgt ls rest)) (k2 : B = some out → W p l e R s m args below meth c H locs cells slots Q (F0 m (pc + 3) ls rest)) : W p l e R s m args below meth c H locs cells slots Q (F0 m pc ls (.int y :: .int x :: rest)) :=
  lv_icmp_lt X.1 X.2.1 hd ht (fun q => k1 ((if_pos q).symm.trans h)) (fun q => k2 ((if_neg q).symm.trans h))
theorem x_icmp_ge (X : xC G b sz p s m args c cc nL Ts own meth ret) {x y : Int32} {off : Int} {tgt : Nat} (hd : decode cc pc = .ok (.if_icmp .ge off, 3)) (ht : (pc : Int) + off = (tgt : Int)) {A B : Option β} (h : (if y ≤ x then A else B) = some out) (k1 : A = some out → W p l e R s m args below meth c H locs cells slots Q (F0 m tgt ls rest)) (k2 : B = some out → W p l e R s m args below meth c H locs cells slots Q (F0 m (pc + 3) ls rest)) : W p l e R s m args below meth c H locs cells slots Q (F0 m pc ls (.int y :: .int x :: rest)) :=
  lv_icmp_ge X.1 X.2.1 hd ht (fun q => k1 ((if_pos q).symm.trans h)) (fun q => k2 ((if_neg q).symm.trans h))
theorem x_icmp_gt (X : xC G b sz p s m args c cc nL Ts own meth ret) {x y : Int32} {off : Int} {tgt : Nat} (hd : decode cc pc = .ok (.if_icmp .gt off, 3)) (ht : (pc : Int) + off = (tgt : Int)) {A B : Option β} (h : (if y < x then A else B) = some out) (k1 : A = some out → W p l e R s m args below meth c H locs cells slots Q (F0 m tgt ls rest)) (k2 : B = some out → W p l e R s m args below meth c H locs cells slots Q (F0 m (pc + 3) ls rest)) : W p l e R s m args below meth c H locs cells slots Q (F0 m pc ls (.int y :: .int x :: rest)) :=
  lv_icmp_gt X.1 X.2.1 hd ht (fun q => k1 ((if_pos q).symm.trans h)) (fun q => k2 ((if_neg q).symm.trans h))
theorem x_icmp_le (X : xC G b sz p s m args c cc nL Ts own meth ret) {x y : Int32} {off : Int} {tgt : Nat} (hd : decode cc pc = .ok (.if_icmp .le off, 3)) (ht : (pc : Int) + off = (tgt : Int)) {A B : Option β} (h : (if x ≤ y then A else B) = some out) (k1 : A = some out → W p l e R s m args below meth c H locs cells slots Q (F0 m tgt ls rest)) (k2 : B = some out → W p l e R s m args below meth c H locs cells slots Q (F0 m (pc + 3) ls rest)) : W p l e R s m args below meth c H locs cells slots Q (F0 m pc ls (.int y :: .int x :: rest)) :=
  lv_icmp_le X.1 X.2.1 hd ht (fun q => k1 ((if_pos q).symm.trans h)) (fun q => k2 ((if_neg q).symm.trans h))
/-- a computed number gets a name -/
theorem x_top {v : Int32} {K : Int32 → Option β} (h : tp v K = some out) (kk : ∀ x, K x = some out → W p l e R s m args below meth c H locs cells slots Q (F0 m pc ls (.int x :: rest))) : W p l e R s m args below meth c H locs cells slots Q (F0 m pc ls (.int v :: rest)) := kk v h
theorem x_topL {v : Int64} {K : Int64 → Option β} (h : tp v K = some out) (kk : ∀ x, K x = some out → W p l e R s m args below meth c H locs cells slots Q (F0 m pc ls (.long x :: rest))) : W p l e R s m args below meth c H locs cells slots Q (F0 m pc ls (.long v :: rest)) := kk v h
/-! answers -/
theorem x_iret (X : xC G b sz p s m args c cc nL Ts own meth (some .int)) (hW : xW G b sz s H locs S) {r : Int32} {o : Int32 × Mm} (h : some (r, S) = some o) (hd : decode cc pc = .ok (.ireturn, 1)) : W p l e R s m args below meth c H locs cells slots (MQ below (xQi G b sz o) args s cells slots (XA G b sz)) (F0 m pc ls [.int r]) :=
  W.iret (v := r) X.1 X.2.1 X.2.2.2.2.2.1 (fun t ht hWm => ⟨⟨r, S, rfl, Option.some.inj h, by rw [ht]; exact hW.1, va_K.moved hWm.alike X.2.2.2.2.2.2.2.2.1⟩, hW.2.F ht⟩) hW.2.2.2 hd X.2.2.2.2.2.2.1
theorem x_zret (X : xC G b sz p s m args c cc nL Ts own meth (some .boolean)) (hW : xW G b sz s H locs S) {r : Int32} {o : Int32 × Mm} (h : some (r, S) = some o) (hr : r &&& 1 = r) (hd : decode cc pc = .ok (.ireturn, 1)) : W p l e R s m args below meth c H locs cells slots (MQ below (xQi G b sz o) args s cells slots (XA G b sz)) (F0 m pc ls [.int r]) :=
  W.zret (v := r) X.1 X.2.1 X.2.2.2.2.2.1 (congrArg Value.int hr) (fun t ht hWm => ⟨⟨r, S, rfl, Option.some.inj h, by rw [ht]; exact hW.1, va_K.moved hWm.alike X.2.2.2.2.2.2.2.2.1⟩, hW.2.F ht⟩) hW.2.2.2 hd X.2.2.2.2.2.2.1
theorem x_lret (X : xC G b sz p s m args c cc nL Ts own meth (some .long)) (hW : xW G b sz s H locs S) {r : Int64} {o : Int64 × Mm} (h : some (r, S) = some o) (hd : decode cc pc = .ok (.lreturn, 1)) : W p l e R s m args below meth c H locs cells slots (MQ below (xQl G b sz o) args s cells slots (XA G b sz)) (F0 m pc ls [.long r]) :=
  W.lret (v := r) X.1 X.2.1 X.2.2.2.2.2.1 (fun t ht hWm => ⟨⟨r, S, rfl, Option.some.inj h, by rw [ht]; exact hW.1, va_K.moved hWm.alike X.2.2.2.2.2.2.2.2.1⟩, hW.2.F ht⟩) hW.2.2.2 hd X.2.2.2.2.2.2.1
theorem x_vret (X : xC G b sz p s m args c cc nL Ts own meth none) (hW : xW G b sz s H locs S) {o : Unit × Mm} (h : some ((), S) = some o) (hd : decode cc pc = .ok (.return_, 1)) : W p l e R s m args below meth c H locs cells slots (MQ below (xQv G b sz o) args s cells slots (XA G b sz)) (F0 m pc ls []) :=
  W.vret X.1 X.2.1 X.2.2.2.2.2.1 (fun t ht hWm => ⟨⟨S, rfl, Option.some.inj h, by rw [ht]; exact hW.1, va_K.moved hWm.alike X.2.2.2.2.2.2.2.2.1⟩, hW.2.F ht⟩) hW.2.2.2 hd X.2.2.2.2.2.2.1
theorem x_aret (X : xC G b sz p s m args c cc nL Ts own meth ret) (hW : xW G b sz s H locs S) {rt : FieldType} (hret : ret = some rt) (hrt : (∃ n, rt = .object n) ∨ ∃ t, rt = .array t) {k r : Nat} {o : Option Nat × Mm} (h : some (some r, S) = some o) (hd : decode cc pc = .ok (.areturn, 1)) : W p l e R s m args below meth c H locs cells slots (MQ below (xQq G b sz k o) args s cells slots (XA G b sz)) (F0 m pc ls [.ref (G.2.2 k r)]) := by
  subst hret
  cases h
  exact W.aret (v := .ref (G.2.2 k r)) X.1 X.2.1 X.2.2.2.2.2.1 hrt (Or.inr ⟨_, rfl⟩) (fun t ht hWm => ⟨⟨some (G.2.2 k r), S, rfl, ⟨rfl, rfl⟩, by rw [ht]; exact hW.1, va_K.moved hWm.alike X.2.2.2.2.2.2.2.2.1⟩, hW.2.F ht⟩) hW.2.2.2 hd X.2.2.2.2.2.2.1
theorem x_nret (X : xC G b sz p s m args c cc nL Ts own meth ret) (hW : xW G b sz s H locs S) {rt : FieldType} (hret : ret = some rt) (hrt : (∃ n, rt = .object n) ∨ ∃ t, rt = .array t) {k : Nat} {o : Option Nat × Mm} (h : some (none, S) = some o) (hd : decode cc pc = .ok (.areturn, 1)) : W p l e R s m args below meth c H locs cells slots (MQ below (xQq G b sz k o) args s cells slots (XA G b sz)) (F0 m pc ls [.null]) := by
  subst hret
  cases h
  exact W.aret (v := .null) X.1 X.2.1 X.2.2.2.2.2.1 hrt (Or.inl rfl) (fun t ht hWm => ⟨⟨none, S, rfl, ⟨rfl, rfl⟩, by rw [ht]; exact hW.1, va_K.moved hWm.alike X.2.2.2.2.2.2.2.2.1⟩, hW.2.F ht⟩) hW.2.2.2 hd X.2.2.2.2.2.2.1
/-! a method's start -/
theorem x_start {y : MethodName} {ws ws' : List Cond} {rm : Room} {maxL : Nat} {av : List Value} {Qc : Array Value → State → Outcome → State → Prop} (hD : xD G b) (hy : plainName y.cls = true) (hw : ws = Cond.code y cc maxL ret :: ws') (hn : (lg_sl av).length ≤ maxL)
    (body : ∀ p e s m below meth c, xC G b sz p s m av.toArray c cc maxL ws y.cls meth ret → xW G b sz s s.heap [] S → ∀ ls, lv_has ls maxL (lv_args 0 av) → W p l e rm s m av.toArray below meth c s.heap [] 0 0 (MQ below Qc av.toArray s 0 0 (XA G b sz)) (F0 m 0 ls [])) : Met l y ws rm (xPre G b S sz av) Qc 0 0 (XA G b sz) := by
  refine Met.ofW (cc := cc) (maxL := maxL) (ret := ret) hy hw ?_
  intro p e s m args below meth c s₁ B hml hv
  obtain ⟨rfl, hsz, hP, hK, hR⟩ := hv
  rw [lg_entry_eq]
  exact body p e s m below meth c ⟨B.exec, B.bytes, hml, findClass_of_methodNamed B.named, atoms_spec (ws := ws) B.pre, B.returns, B.notSynchronized, hsz, hK, hD, hR⟩ ⟨hP, va_S.rf⟩ _ (lv_entry av hn)
/-! calls -/
theorem x_pre (X : xC G b sz p s m args c cc nL Ts own meth ret) (hW : xW G b sz s H locs S) (As : List Value) : PreS s H (xPre G b S H.size As) As := by
  have hS : va_S (XA G b sz) s.heap H locs := hW.2
  refine ⟨xPre.blind, fun U hU hWm => ⟨rfl, by rw [hU], by rw [hU]; exact hW.1, va_K.moved hWm.alike X.2.2.2.2.2.2.2.2.1, xR.move hWm (fun a h1 h2 => by rw [hU]; exact hS.2.1 a h1 h2) (XA.mono ?_) X.2.2.2.2.2.2.2.2.2.2⟩⟩
  rw [← X.2.2.2.2.2.2.2.1]
  exact hS.1
def xOb (b : Bool) (ck mm : Nat) (C : String) (T : u_T) (N : Nat) : Prop := ck < nk ∧ sd ck = b ∧ kt ck = 0 ∧ vwCl[kn ck]? = some (C, T, N) ∧ kc ck = mm
theorem x_recv (X : xC G b sz p s m args c cc nL Ts own meth ret) (hW : xW G b sz s H locs S) {ck mm i : Nat} {C : String} {T : u_T} {N : Nat} (hO : xOb b ck mm C T N) (hi : i < mm) : ∃ cellB : Cell, H[G.2.2 ck i]? = some cellB ∧ cellB.vm.isStatics = false ∧ s.vm.findClass C = some cellB.cls := by
  obtain ⟨h1, h2, h3, h4, h5⟩ := hO
  subst h5
  obtain ⟨q, hq, hw⟩ := xP.ix (G := G) (S := S) (kK_mem h1 h2 (by omega) hi)
  have he : (wl G S b)[q]? = some (G.2.2 ck i, .inr (kn ck, (kf ck).map (fv G S i))) := by rw [hw]; unfold en; rw [if_pos h3]
  exact va_recv X.2.2.2.2.2.2.2.2.1 hW.1 h4 he
variable {y : MethodName} {bytes : ByteArray} {maxL n idx : Nat} {retY : Option FieldType} {wsY : List Cond} {rmY : Room} {As : List Value} {Qc : Array Value → State → Outcome → State → Prop} {st0 : List Value}
theorem x_runS (X : xC G b sz p s m args c cc nL Ts own meth ret) (hW : xW G b sz s H locs S) (hM : Met l y wsY rmY (xPre G b S H.size As) Qc 0 0 (XA G b H.size)) (cw : CallB R s args own idx y bytes maxL retY wsY rmY 0 0 n ∧ (Cond.static y).before args s = true) (hn : As.length = n) (hls : ls.size = nL) (hst : st0 = As.reverse ++ rest) (hr : (rest.map fun v => v.category).sum ≤ 8) (hd : decode cc pc = .ok (.invokestatic idx, 3)) (hf : cells + 0 ≤ R.cells ∧ slots + 0 ≤ R.slots) :
    va_Run p l e R s m args below meth c H locs cells slots 0 0 (F0 m pc ls st0) rest (Qc As.toArray) (XA G b H.size) :=
  va_runS ⟨X.1, X.2.1, X.2.2.1, X.2.2.2.1, X.2.2.2.2.1⟩ hM cw (x_pre X hW As) rfl hn hls hst (lv_room hr) hd hf
theorem x_runSN (X : xC G b sz p s m args c cc nL Ts own meth ret) (hW : xW G b sz s H locs S) {host : String} (hM : Met l y wsY rmY (xPre G b S H.size As) Qc 0 0 (XA G b H.size)) (cw : va_CN R s args own idx y host bytes maxL retY wsY rmY 0 0 n ∧ (Cond.static y).before args s = true ∧ True) (hn : As.length = n) (hls : ls.size = nL) (hst : st0 = As.reverse ++ rest) (hr : (rest.map fun v => v.category).sum ≤ 8) (hd : decode cc pc = .ok (.invokestatic idx, 3)) (hf : cells + 0 ≤ R.cells ∧ slots + 0 ≤ R.slots) :
    va_Run p l e R s m args below meth c H locs cells slots 0 0 (F0 m pc ls st0) rest (Qc As.toArray) (XA G b H.size) :=
  va_runSN ⟨X.1, X.2.1, X.2.2.1, X.2.2.2.1, X.2.2.2.2.1⟩ hM cw (x_pre X hW As) rfl hn hls hst (lv_room hr) hd hf
theorem x_runV (X : xC G b sz p s m args c cc nL Ts own meth ret) (hW : xW G b sz s H locs S) {C : String} {a : Nat} (hM : Met l y wsY rmY (xPre G b S H.size (.ref a :: As)) Qc 0 0 (XA G b H.size)) (cw : CallW R s args own C idx y bytes maxL retY wsY rmY 0 0 n) (hrec : ∃ cellB : Cell, H[a]? = some cellB ∧ cellB.vm.isStatics = false ∧ s.vm.findClass C = some cellB.cls) (hn : As.length = n) (hls : ls.size = nL) (hst : st0 = As.reverse ++ .ref a :: rest) (hr : (rest.map fun v => v.category).sum ≤ 8) (hd : decode cc pc = .ok (.invokevirtual idx, 3)) (hf : cells + 0 ≤ R.cells ∧ slots + 0 ≤ R.slots) :
    va_Run p l e R s m args below meth c H locs cells slots 0 0 (F0 m pc ls st0) rest (Qc (Value.ref a :: As).toArray) (XA G b H.size) :=
  va_runV ⟨X.1, X.2.1, X.2.2.1, X.2.2.2.1, X.2.2.2.2.1⟩ hM cw ⟨(x_pre X hW (.ref a :: As)).1, hrec, (x_pre X hW (.ref a :: As)).2⟩ rfl hn hls hst (lv_room hr) hd hf
theorem x_subA (X : xC G b sz p s m args c cc nL Ts own meth ret) (hW : xW G b sz s H locs S) : ∀ q, XA G b H.size q → XA G b sz q := by
  refine XA.mono ?_
  rw [← X.2.2.2.2.2.2.2.1]
  exact hW.2.1
theorem x_aftI (X : xC G b sz p s m args c cc nL Ts own meth ret) (hW : xW G b sz s H locs S) {a : Array Value} {r : Int32} {S1 : Mm} (hr : va_Run p l e R s m args below meth c H locs cells slots 0 0 (F0 m pc ls st0) rest (xQi G b H.size (r, S1) a) (XA G b H.size))
    (kk : ∀ H1 locs1, xW G b sz s H1 locs1 S1 → W p l e R s m args below meth c H1 locs1 cells slots Q (F0 m (pc + 3) ls (.int r :: rest))) : W p l e R s m args below meth c H locs cells slots Q (F0 m pc ls st0) := by
  refine va_calli hr hW.2 (fun q _ h => x_subA X hW q h) (x_subA X hW) (fun r' u t H1 locs1 ht hvm hw hB hz hk hS => ?_)
  cases hw
  exact kk H1 locs1 ⟨by rw [← ht]; exact hB.1, hS⟩
theorem x_aftL (X : xC G b sz p s m args c cc nL Ts own meth ret) (hW : xW G b sz s H locs S) {a : Array Value} {r : Int64} {S1 : Mm} (hr : va_Run p l e R s m args below meth c H locs cells slots 0 0 (F0 m pc ls st0) rest (xQl G b H.size (r, S1) a) (XA G b H.size))
    (kk : ∀ H1 locs1, xW G b sz s H1 locs1 S1 → W p l e R s m args below meth c H1 locs1 cells slots Q (F0 m (pc + 3) ls (.long r :: rest))) : W p l e R s m args below meth c H locs cells slots Q (F0 m pc ls st0) := by
  refine va_calll hr hW.2 (fun q _ h => x_subA X hW q h) (x_subA X hW) (fun r' u t H1 locs1 ht hvm hw hB hz hk hS => ?_)
  cases hw
  exact kk H1 locs1 ⟨by rw [← ht]; exact hB.1, hS⟩
theorem x_aftV (X : xC G b sz p s m args c cc nL Ts own meth ret) (hW : xW G b sz s H locs S) {a : Array Value} {r : Unit} {S1 : Mm} (hr : va_Run p l e R s m args below meth c H locs cells slots 0 0 (F0 m pc ls st0) rest (xQv G b H.size (r, S1) a) (XA G b H.size))
    (kk : ∀ H1 locs1, xW G b sz s H1 locs1 S1 → W p l e R s m args below meth c H1 locs1 cells slots Q (F0 m (pc + 3) ls rest)) : W p l e R s m args below meth c H locs cells slots Q (F0 m pc ls st0) := by
  refine va_callv hr hW.2 (fun q _ h => x_subA X hW q h) (x_subA X hW) (fun u t H1 locs1 ht hvm hw hB hz hk hS => ?_)
  cases hw
  exact kk H1 locs1 ⟨by rw [← ht]; exact hB.1, hS⟩
theorem x_aftQ (X : xC G b sz p s m args c cc nL Ts own meth ret) (hW : xW G b sz s H locs S) {a : Array Value} {k : Nat} {r : Option Nat} {S1 : Mm} (hr : va_Run p l e R s m args below meth c H locs cells slots 0 0 (F0 m pc ls st0) rest (xQq G b H.size k (r, S1) a) (XA G b H.size))
    (kk : ∀ H1 locs1, xW G b sz s H1 locs1 S1 → W p l e R s m args below meth c H1 locs1 cells slots Q (F0 m (pc + 3) ls (va_rf (r.map (G.2.2 k)) :: rest))) : W p l e R s m args below meth c H locs cells slots Q (F0 m pc ls st0) := by
  refine va_callq hr hW.2 (fun q _ h => x_subA X hW q h) (x_subA X hW) (fun r' u t H1 locs1 ht hvm hw hB hz hk hS => ?_)
  obtain ⟨rfl, rfl⟩ := hw
  exact kk H1 locs1 ⟨by rw [← ht]; exact hB.1, hS⟩
theorem x_nn {k mt : Nat} {r : Option Nat} {K : Nat → Option β} (h : nn r mt K = some out) (kk : ∀ x, x < mt → K x = some out → W p l e R s m args below meth c H locs cells slots Q (F0 m pc ls (.ref (G.2.2 k x) :: rest))) : W p l e R s m args below meth c H locs cells slots Q (F0 m pc ls (va_rf (r.map (G.2.2 k)) :: rest)) := by
  cases r with
  | none => cases h
  | some x =>
    obtain ⟨g, h⟩ := if_some (c := Nat.blt x mt = true) h
    exact kk x (by rw [Nat.blt_eq] at g; exact g) h
theorem x_nu {k mt : Nat} {r : Option Nat} {k0 : Option β} {K : Nat → Option β} (h : nu r mt k0 K = some out) (kn : k0 = some out → W p l e R s m args below meth c H locs cells slots Q (F0 m pc ls (.null :: rest))) (kk : ∀ x, x < mt → K x = some out → W p l e R s m args below meth c H locs cells slots Q (F0 m pc ls (.ref (G.2.2 k x) :: rest))) : W p l e R s m args below meth c H locs cells slots Q (F0 m pc ls (va_rf (r.map (G.2.2 k)) :: rest)) := by
  cases r with
  | none => exact kn h
  | some x =>
    obtain ⟨g, h⟩ := if_some (c := Nat.blt x mt = true) h
    exact kk x (by rw [Nat.blt_eq] at g; exact g) h
/-- System.arraycopy of ints -/
theorem x_acopy (X : xC G b sz p s m args c cc nL Ts own meth ret) (hW : xW G b sz s H locs S) (hls : ls.size = nL) {c0 i0 c1 i1 : Nat} {sp dp n : Int32} (h1 : Cond.methodLink own idx arraycopyName ∈ Ts) (h2 : Cond.native arraycopyName ∈ Ts) (h3 : Cond.static arraycopyName ∈ Ts) (h4 : Cond.initialized "java/lang/System" ∈ Ts) (hfr : 1 ≤ R.frames) (hlo : (rest.map fun v => v.category).sum + (nativeFrameWords "java/lang/System" "arraycopy" 5 + 11) ≤ R.locals) (hd : decode cc pc = .ok (.invokestatic idx, 3)) {K : Mm → Option β} (h : cpP b S c0 i0 sp c1 i1 dp n K = some out)
    (kk : ∀ S1 H1 locs1, K S1 = some out → xW G b sz s H1 locs1 S1 → W p l e R s m args below meth c H1 locs1 cells slots Q (F0 m (pc + 3) ls rest)) : W p l e R s m args below meth c H locs cells slots Q (F0 m pc ls (.int n :: .int dp :: .ref (G.2.2 c1 i1) :: .int sp :: .ref (G.2.2 c0 i0) :: rest)) := by
  obtain ⟨hg, h⟩ := if_some h
  simp only [Bool.and_eq_true, decide_eq_true_eq, Nat.ble_eq] at hg
  obtain ⟨⟨ho0, ho1⟩, ⟨hsp, hdp, hnn⟩, hl0, hl1⟩ := hg
  obtain ⟨w1, w2, w3, w4⟩ := okW_of ho1
  have hS : va_S (XA G b sz) s.heap H locs := hW.2
  have hK := X.2.2.2.2.2.2.2.2.1
  have hD := xD.va (S := S) (sz := sz) X.2.2.2.2.2.2.2.2.2.1
  have hsrc : ∃ cs : Cell, H[G.2.2 c0 i0]? = some cs ∧ s.isArrayOf cs .int ∧ cs.vm ≠ .unknown ∧ kn c0 ≤ cs.slots.size ∧ ∀ j, j < kn c0 → cs.slots[j]? = some (.int (rdI S c0 i0 j)) := by
    rcases okP_of ho0 with ⟨h6, rfl⟩ | ⟨g1, g2, g3, g4⟩
    · obtain ⟨cell, a1, a2, a3, a4, a5, a6, a7⟩ := X.2.2.2.2.2.2.2.2.2.2.1 c0 h6
      exact ⟨cell, by rw [hS.2.1 _ (Array.getElem?_eq_some_iff.mp a1).1 a7]; exact a1, a2, a3, a4, fun j hj => by rw [a6 j hj]; unfold rdI; rw [if_pos h6]⟩
    · obtain ⟨q, hq, hw⟩ := xP.ix (G := G) (S := S) (kK_mem (i := i0) g2 g3 (by omega) g4)
      rw [en_int (Or.inl g1), (ka_of g2).1 g1] at hw
      refine ⟨arrV (G.2.1 1) (kn c0) (fun j => .int (S.1 c0 i0 j)), hW.1 q _ hw, (hK.2 1 _ rfl).1 (kn c0) (fun j => .int (S.1 c0 i0 j)), (fun z => by cases z), by rw [arrV_size]; exact Nat.le_refl _, fun j hj => ?_⟩
      rw [arrV_read _ _ hj]
      unfold rdI
      rw [if_neg (by omega)]
  obtain ⟨cs, b1, b2, b3, b4, b5⟩ := hsrc
  obtain ⟨q1, hq1, hw1⟩ := xP.ix (G := G) (S := S) (kK_mem (i := i1) w2 w3 (by omega) w4)
  rw [en_int (Or.inl w1), (ka_of w2).1 w1] at hw1
  have hc1 : H[G.2.2 c1 i1]? = some (arrV (G.2.1 1) (kn c1) (fun j => .int (S.1 c1 i1 j))) := hW.1 q1 _ hw1
  have nn : ∀ z : Int32, 0 ≤ z → z.toInt = (z.toNatClampNeg : Int) := by
    intro z hz
    have hz0 : (0 : Int) ≤ z.toInt := by simpa using Int32.le_iff_toInt_le.mp hz
    show z.toInt = ((z.toInt.toNat : Nat) : Int)
    omega
  obtain ⟨b6, k0, hk0, cm0, hkk0⟩ := b2
  obtain ⟨-, k1, hk1, cm1, hkk1⟩ := (hK.2 1 _ rfl).1 (kn c1) (fun j => .int (S.1 c1 i1 j))
  intro T hT Y
  obtain ⟨vm', X', step⟩ := Y.arraycopy X.1 X.2.2.2.1 (X.2.2.2.2.1 _ h1) (X.2.2.2.2.1 _ h2) (X.2.2.2.2.1 _ h3) (X.2.2.2.2.1 _ h4) (src := G.2.2 c0 i0) (dst := G.2.2 c1 i1) (cs := cs) (cd := arrV (G.2.1 1) (kn c1) (fun j => .int (S.1 c1 i1 j))) (srcPos := sp) (destPos := dp) (n := n) (by rw [hT]; exact b1) (by rw [hT]; exact hc1)
    b6 (fun _ h => by cases h) b3 (fun h => by cases h) hk0 hk1 hkk0 hkk1 (by simp [refKind]) (Int32.not_lt.mpr hsp) (Int32.not_lt.mpr hdp) (Int32.not_lt.mpr hnn)
    (by rw [nn sp hsp, nn n hnn]; omega)
    (by rw [nn dp hdp, nn n hnn, arrV_size]; omega)
    (fun vm₁ _ i hi => by
      have e : cs.slots.getD (sp.toNatClampNeg + i) .null = .int (rdI S c0 i0 (sp.toNatClampNeg + i)) := by
        rw [Array.getD_eq_getD_getElem?, b5 _ (by omega)]
        rfl
      rw [e]
      exact ⟨rfl, trivial⟩)
    (g := F0 m pc ls (.int n :: .int dp :: .ref (G.2.2 c1 i1) :: .int sp :: .ref (G.2.2 c0 i0) :: rest)) rfl (by rw [X.2.2.1]; exact hls) (rest := rest) rfl (by rw [X.2.1]; exact hd) hfr (by show 2 * 0 + _ + _ ≤ _; omega)
  have e1 : copied cs (arrV (G.2.1 1) (kn c1) (fun j => .int (S.1 c1 i1 j))) sp dp n = arrV (G.2.1 1) (kn c1) (fun j => .int (va_cpy (rdI S c0 i0) (S.1 c1 i1) sp.toNatClampNeg dp.toNatClampNeg n.toNatClampNeg j)) := va_copiedX (fun z => .int z) cs (G.2.1 1) (rdI S c0 i0) (S.1 c1 i1) b5 hl0
  rw [e1] at X' step
  have hl : G.2.2 c1 i1 < H.size := (Array.getElem?_eq_some_iff.mp hc1).1
  generalize hcl : arrV (G.2.1 1) (kn c1) (fun j => .int (va_cpy (rdI S c0 i0) (S.1 c1 i1) sp.toNatClampNeg dp.toNatClampNeg n.toNatClampNeg j)) = cell' at X' step
  have hheap : ((T.setVm vm').setCell (G.2.2 c1 i1) cell').heap = H.setIfInBounds (G.2.2 c1 i1) cell' := by rw [← hT]; rfl
  have oq : ∀ q : Nat, q ≠ G.2.2 c1 i1 → (H.setIfInBounds (G.2.2 c1 i1) cell')[q]? = H[q]? := fun q hq => by simp [Array.getElem?_setIfInBounds, Ne.symm hq]
  have hself : (H.setIfInBounds (G.2.2 c1 i1) cell')[G.2.2 c1 i1]? = some cell' := by simp [Array.getElem?_setIfInBounds, hl]
  have hA1 : XA G b sz (G.2.2 c1 i1) := hD.2 q1 _ hw1
  have hat : va_at G.1 vwCl (G.2.2 c1 i1, en G (cpI S c0 i0 sp.toNatClampNeg c1 i1 dp.toNatClampNeg n.toNatClampNeg) c1 i1) (H.setIfInBounds (G.2.2 c1 i1) cell') := by
    rw [en_int (Or.inl w1), (ka_of w2).1 w1]
    show (H.setIfInBounds (G.2.2 c1 i1) cell')[G.2.2 c1 i1]? = some (vp_cell _ _)
    rw [hself, ← hcl, vp_cell_i]
    congr 2
    funext d
    show Value.int (if dp.toNatClampNeg ≤ d ∧ d < dp.toNatClampNeg + n.toNatClampNeg then _ else _) = Value.int (if c1 = c1 ∧ i1 = i1 ∧ dp.toNatClampNeg ≤ d ∧ d < dp.toNatClampNeg + n.toNatClampNeg then _ else _)
    by_cases hdd : dp.toNatClampNeg ≤ d ∧ d < dp.toNatClampNeg + n.toNatClampNeg
    · rw [if_pos hdd, if_pos ⟨rfl, rfl, hdd⟩]
    · rw [if_neg hdd, if_neg (fun z => hdd z.2.2)]
  obtain ⟨t, a1, b1'⟩ := kk _ (H.setIfInBounds (G.2.2 c1 i1) cell') _ h ⟨xP.set (S := S) hq1 (va_P.set (ws := wl G S b) hW.1 hD hw1 hat oq) (fun c' i' hm hn => en_chA (S := S) rfl (fun a x d hax => if_neg (fun z => hax ⟨z.1, z.2.1⟩)) (by omega) hm hn), ⟨by simp; exact hS.1, fun q g1 g2 => by rw [oq q (fun e => g2 (by rw [e]; exact hA1))]; exact hS.2.1 q g1 g2, fun q hq => by
      rcases List.mem_append.mp hq with h | h
      · exact hS.2.2 q h
      · obtain ⟨z, -, hz⟩ := List.mem_map.mp h
        rw [← hz]
        exact hA1⟩⟩ _ hheap X'
  exact ⟨t, step t a1, b1'⟩
theorem x_ldcS (X : xC G b sz p s m args c cX10_derive nL Ts RX10 meth ret) (hW : xW G b sz s H locs S) (hd : decode cX10_derive pc = .ok (.ldc 30, 2)) (kk : W p l e R s m args below meth c H locs cells slots Q (F0 m (pc + 2) ls (.ref (G.2.2 194 0) :: rest))) : W p l e R s m args below meth c H locs cells slots Q (F0 m pc ls rest) :=
  va_ldcS X.1 X.2.1 X.2.2.2.1 X.2.2.2.2.2.2.2.2.2.2.2.2.2.2.2.2.2.2.2.2 hd kk
end YROWS
