def R_law : String := "WirelessCellLaw"
def lw_P (b : Addr) (xs : List Int32) (args : Array Value) (s : State) : Prop := args = #[.ref b] ∧ s.IntsAt b xs ∧ xs.length ≤ 5120 ∧ (Jvm.Cond.and given_1 narrow_1).before args s = true
def lw_Q (_ : Array Value) (s : State) (o : Outcome) (t : State) : Prop := o = .returned (some (.int 1)) ∧ Framed s o t [] 600000 7302250
def lw_Z (below : List Frame) (a : Array Value) (s : State) : State → Prop := fun t => ∃ o, t.status = .running ∧ Ended t below o ∧ lw_Q a s o t
/-- the law's own end, with 1 on the stack, nothing written that was there before, its room as the claim has it -/
theorem lw_ret {p : Program} {l : Launch} {e : Env} {s : State} {m : MethodId} {below : List Frame} {meth : Method} {c : Code} {b : Nat} (hx : p.tables.exec = Jvm.exec) (hb : c.code = code) (hr : meth.sig.returnType = ret) (hlocks : meth.locks = false) {pc : Nat} {H : Heap} {ls : Array Slot} (hdg : decode code pc = .ok (.ireturn, 1)) : W p l e room_1 s m #[Value.ref b] below meth c H [] 600000 7302250 (lw_Z below #[Value.ref b] s) (F0 m pc ls [.int 1]) := by
  intro T hT X
  obtain ⟨fs, hret, hrun, hended, hW, hframe⟩ := X.leave (v := some (.int 1)) (hlocks := hlocks) (fun h => by rw [hr] at h; cases h)
  have hmeth' : T.vm.method? m = some meth := X.method'
  refine ⟨T.setFrames fs, ?_, .returned (some (.int 1)), hrun, hended, rfl, ⟨_, rfl⟩, hW, hframe⟩
  jvm_step X.here [X.here.top, hx, hb, hdg, hmeth', hr, ret, narrow_b1]
  (try refine ⟨rfl, ?_⟩); (try refine ⟨rfl, ?_⟩)
  first | (intro acts; rw [hret _ acts rfl rfl rfl]) | rw [hret _ _ rfl rfl rfl]
  exact Steps.refl _
/-- what holds at the law's entry: the machine, the code, the tables' words (any of lw_tbl by 'hts w (by decide +kernel)'), the script of L ints xs at the cell b, what the Statement gives of the start (any of its parts by flat_of_before) -/
def lw_At (p : Program) (s : State) (m : MethodId) (meth : Method) (c : Code) (b L : Nat) (xs : Nat → Int32) : Prop :=
  p.tables.exec = Jvm.exec ∧ c.code = code ∧ meth.sig.returnType = ret ∧ c.maxLocals = 4 ∧ s.vm.findClass R_law = some m.cls ∧ (∀ w ∈ lw_tbl, w.before #[Value.ref b] s = true) ∧ va_X b L xs s s.heap ∧ b < s.heap.size ∧ meth.locks = false ∧ (Jvm.Cond.and given_1 narrow_1).before #[Value.ref b] s = true
/-! the Statement's words of the start, by their places -/
abbrev fT : Cond := Jvm.Cond.and given_1 narrow_1
theorem fl_seg {T : Cond} {base n : Nat} {f : Nat → Cond} (h : ((flatC T).drop base).take n = (List.range n).map f) {j : Nat} (hj : j < n) : f j ∈ flatC T := by
  have h1 : f j ∈ (List.range n).map f := List.mem_map.mpr ⟨j, List.mem_range.mpr hj, rfl⟩
  rw [← h] at h1
  exact List.mem_of_mem_drop (List.mem_of_mem_take h1)
abbrev tC : Term := .static RX2 "CRC" "[I"
abbrev tH : Term := .static RX2 "HEAD" "[I"
abbrev tB : Term := .static RX2 "HAND_BYTES" "[I"
abbrev tS : Term := .static RX0 "SBOX" "[I"
abbrev tL : Term := .string RX10 30
abbrev tV : Term := .field tL "java/lang/String" "value" "[B"
def sgf (t : Term) (l : List Int32) : Nat → Cond := fun j => .eq (.elem t (.int (Int32.ofNat j))) (.int (l.getD j 0))
theorem sg_C : ((flatC fT).drop 7).take 16 = (List.range 16).map (sgf tC sc190) := by decide +kernel
theorem sg_H : ((flatC fT).drop 26).take 6 = (List.range 6).map (sgf tH sc191) := by decide +kernel
theorem sg_S : ((flatC fT).drop 35).take 256 = (List.range 256).map (sgf tS sc193) := by decide +kernel
theorem sg_B : ((flatC fT).drop 294).take 5 = (List.range 5).map (sgf tB sc192) := by decide +kernel
theorem sg_V : ((flatC fT).drop 308).take 22 = (List.range 22).map (sgf tV labL) := by decide +kernel
theorem fl_arC : (Cond.arrayOf tC .int) ∈ flatC fT := List.mem_of_getElem? (i := 5) (by decide +kernel)
theorem fl_arH : (Cond.arrayOf tH .int) ∈ flatC fT := List.mem_of_getElem? (i := 24) (by decide +kernel)
theorem fl_arS : (Cond.arrayOf tS .int) ∈ flatC fT := List.mem_of_getElem? (i := 33) (by decide +kernel)
theorem fl_arB : (Cond.arrayOf tB .int) ∈ flatC fT := List.mem_of_getElem? (i := 292) (by decide +kernel)
theorem fl_arV : (Cond.arrayOf tV .byte) ∈ flatC fT := List.mem_of_getElem? (i := 306) (by decide +kernel)
theorem fl_leC : (Cond.eq (.length tC) (.int (Int32.ofNat 16))) ∈ flatC fT := List.mem_of_getElem? (i := 6) (by decide +kernel)
theorem fl_leH : (Cond.eq (.length tH) (.int (Int32.ofNat 6))) ∈ flatC fT := List.mem_of_getElem? (i := 25) (by decide +kernel)
theorem fl_leS : (Cond.eq (.length tS) (.int (Int32.ofNat 256))) ∈ flatC fT := List.mem_of_getElem? (i := 34) (by decide +kernel)
theorem fl_leB : (Cond.eq (.length tB) (.int (Int32.ofNat 5))) ∈ flatC fT := List.mem_of_getElem? (i := 293) (by decide +kernel)
theorem fl_leV : (Cond.eq (.length tV) (.int (Int32.ofNat 22))) ∈ flatC fT := List.mem_of_getElem? (i := 307) (by decide +kernel)
theorem fl_cp : (Cond.eq (.static "java/lang/String" "COMPACT_STRINGS" "Z") (.int 1)) ∈ flatC fT := List.mem_of_getElem? (i := 299) (by decide +kernel)
theorem fl_fm : (Cond.isRef (.static "jdk/internal/util/Preconditions" "SIOOBE_FORMATTER" "Ljava/util/function/BiFunction;")) ∈ flatC fT := List.mem_of_getElem? (i := 300) (by decide +kernel)
theorem fl_ex : (Cond.exactly tL "java/lang/String") ∈ flatC fT := List.mem_of_getElem? (i := 304) (by decide +kernel)
theorem fl_co : (Cond.eq (.field tL "java/lang/String" "coder" "B") (.int 0)) ∈ flatC fT := List.mem_of_getElem? (i := 305) (by decide +kernel)
theorem kt6 {c : Nat} (h : kt c = 6) : c = 190 ∨ c = 191 ∨ c = 192 ∨ c = 193 := by
  by_cases hc : c < 400
  · have hd : ∀ c, c < 400 → kt c = 6 → c = 190 ∨ c = 191 ∨ c = 192 ∨ c = 193 := by decide +kernel
    exact hd c hc h
  · exfalso
    unfold kt at h
    rw [List.getD_eq_getElem?_getD, List.getElem?_eq_none (by rw [show ktL.length = 400 by decide +kernel]; omega)] at h
    exact absurd h (by decide)
theorem tab_of {args : Array Value} {s : State} {tm : Term} {ty : FieldType} {N : Nat} {l : List Int32} {A : Nat → Prop} (hfl : ∀ w ∈ flatC fT, w.before args s = true) (hN : N < 2 ^ 31) {base : Nat} (h1 : (Cond.arrayOf tm ty) ∈ flatC fT) (h2 : (Cond.eq (.length tm) (.int (Int32.ofNat N))) ∈ flatC fT) (h3 : ((flatC fT).drop base).take N = (List.range N).map (sgf tm l)) (hA : ∀ a : Nat, a < s.heap.size → ¬ A a) : ∃ t : Nat, tm.eval args s none [] s = some (.ref t) ∧ va_T ty t N (fun j => .int (l.getD j 0)) A s s.heap :=
  va_Tof hN (hfl _ h1) (va_eqt (hfl _ h2)) (fun j hj => va_eqt (hfl _ (fl_seg h3 hj))) hA
theorem arr_of {args : Array Value} {s : State} {ty : FieldType} (h : (Cond.arrayClass ty).before args s = true) : ∃ c, ArrOfT s c ty ∧ s.vm.findClass ("[" ++ ty.toString) = some c := by
  obtain ⟨c, k, comp, h1, h2, h3⟩ := Cond.arrayClass_spec h
  exact ⟨c, fun n z => ⟨fun k h => (by cases h), k, h2, comp, h3⟩, h1⟩
theorem aro_of {args : Array Value} {s : State} {C : String} (h : (Cond.arrayOver (.object C)).before args s = true) : ∃ c, ArrOfT s c (.object C) ∧ va_RA s c (.object C) := by
  obtain ⟨comp, c, k, h1, h2, h3, h4, h5⟩ := Cond.arrayOver_spec h
  exact ⟨c, fun n z => ⟨fun k h => (by cases h), k, h3, comp, h4⟩, k, comp, h3, h4, h1, h5⟩
/-- the classes' numbers and slots -/
theorem cls_ex {args : Array Value} {s : State} (hg : ∀ w ∈ GW, w.before args s = true) : ∃ D : va_G, ∀ (c : Nat) (q : vw_C), vwCl[c]? = some q → u_Kn s q.1 q.2.1 q.2.2 (D.1 c) (D.2 c) := by
  obtain ⟨c0, i0, k0⟩ := u_known (C := RX0) (T := TX0) (N := 5) (n := 5) hg gin_X0 (hg _ gw35)
  obtain ⟨c1, i1, k1⟩ := u_known (C := RX1) (T := TX1) (N := 3) (n := 3) hg gin_X1 (hg _ gw27)
  obtain ⟨c2, i2, k2⟩ := u_known (C := RX3) (T := TX3) (N := 4) (n := 4) hg gin_X3 (hg _ gw103)
  obtain ⟨c3, i3, k3⟩ := u_known (C := RX4) (T := TX4) (N := 14) (n := 14) hg gin_X4 (hg _ gw47)
  obtain ⟨c4, i4, k4⟩ := u_known (C := RX5) (T := TX5) (N := 18) (n := 18) hg gin_X5 (hg _ gw19)
  obtain ⟨c5, i5, k5⟩ := u_known (C := RX6) (T := TX6) (N := 9) (n := 9) hg gin_X6 (hg _ gw120)
  obtain ⟨c6, i6, k6⟩ := u_known (C := RX7) (T := TX7) (N := 19) (n := 19) hg gin_X7 (hg _ gw45)
  obtain ⟨c7, i7, k7⟩ := u_known (C := RX8) (T := TX8) (N := 4) (n := 4) hg gin_X8 (hg _ gw23)
  obtain ⟨c8, i8, k8⟩ := u_known (C := RX9) (T := TX9) (N := 4) (n := 4) hg gin_X9 (hg _ gw99)
  obtain ⟨c9, i9, k9⟩ := u_known (C := RX10) (T := TX10) (N := 6) (n := 6) hg gin_X10 (hg _ gw31)
  obtain ⟨c10, i10, k10⟩ := u_known (C := RX11) (T := TX11) (N := 17) (n := 17) hg gin_X11 (hg _ gw1)
  obtain ⟨c11, i11, k11⟩ := u_known (C := RX12) (T := TX12) (N := 107) (n := 107) hg gin_X12 (hg _ gw4)
  refine ⟨(fun k => if k = 0 then c0 else if k = 1 then c1 else if k = 2 then c2 else if k = 3 then c3 else if k = 4 then c4 else if k = 5 then c5 else if k = 6 then c6 else if k = 7 then c7 else if k = 8 then c8 else if k = 9 then c9 else if k = 10 then c10 else c11, fun k => if k = 0 then i0 else if k = 1 then i1 else if k = 2 then i2 else if k = 3 then i3 else if k = 4 then i4 else if k = 5 then i5 else if k = 6 then i6 else if k = 7 then i7 else if k = 8 then i8 else if k = 9 then i9 else if k = 10 then i10 else i11), fun k q hq => ?_⟩
  match k, hq with
  | 0, hq => cases hq; exact k0
  | 1, hq => cases hq; exact k1
  | 2, hq => cases hq; exact k2
  | 3, hq => cases hq; exact k3
  | 4, hq => cases hq; exact k4
  | 5, hq => cases hq; exact k5
  | 6, hq => cases hq; exact k6
  | 7, hq => cases hq; exact k7
  | 8, hq => cases hq; exact k8
  | 9, hq => cases hq; exact k9
  | 10, hq => cases hq; exact k10
  | 11, hq => cases hq; exact k11
  | k + 12, hq => simp [vwCl] at hq
/-- the numbers of classes and arrays, the addresses of all cells: out of what holds at the law's entry -/
theorem g_ex {p : Program} {s : State} {m : MethodId} {meth : Method} {c : Code} {b L : Nat} {xs : Nat → Int32} (C0 : lw_At p s m meth c b L xs) : ∃ G : xG, xK G s ∧ xR G (fun q => s.heap.size ≤ q) s ∧ yN s ∧ cG G s.heap.size ∧ mG G (s.heap.size + 628) := by
  obtain ⟨hx, hb, hr, hml, hown, hts, hX, hbl, hlocks, hgv⟩ := C0
  have hg : ∀ w ∈ GW, w.before #[Value.ref b] s = true := fun w h => hts w (gwL w h)
  have hfl : ∀ w ∈ flatC fT, w.before #[Value.ref b] s = true := flat_of_before _ hgv
  have hA : ∀ a : Nat, a < s.heap.size → ¬ (fun q : Nat => s.heap.size ≤ q) a := fun a h => Nat.not_le.mpr h
  obtain ⟨D, hD⟩ := cls_ex hg
  obtain ⟨aB, b1, b2⟩ := arr_of (hts _ tx_acB)
  obtain ⟨aI, i1, i2⟩ := arr_of (hts _ tx_acI)
  obtain ⟨aZ, z1, z2⟩ := arr_of (hts _ tx_acZ)
  obtain ⟨aJ, j1, j2⟩ := arr_of (hts _ tx_acJ)
  obtain ⟨a4, n1, n2⟩ := aro_of (hts _ tx_ov7)
  obtain ⟨a5, l1, l2⟩ := aro_of (hts _ tx_ov4)
  obtain ⟨a6, m1, m2⟩ := aro_of (hts _ tx_ov6)
  obtain ⟨comp, a7, kA, o1, o2, o3, o4, o5⟩ := arrayOverA_spec (hts _ tx_ovA)
  have hcomp : comp = aI := Option.some.inj (o1.symm.trans i2)
  subst hcomp
  obtain ⟨tc, ec, Tc⟩ := tab_of (A := fun q => s.heap.size ≤ q) hfl (by decide) fl_arC fl_leC sg_C hA
  obtain ⟨th, eh, Th⟩ := tab_of (A := fun q => s.heap.size ≤ q) hfl (by decide) fl_arH fl_leH sg_H hA
  obtain ⟨tb, eb, Tb⟩ := tab_of (A := fun q => s.heap.size ≤ q) hfl (by decide) fl_arB fl_leB sg_B hA
  obtain ⟨ts, es, Ts⟩ := tab_of (A := fun q => s.heap.size ≤ q) hfl (by decide) fl_arS fl_leS sg_S hA
  obtain ⟨tv, ev, Tv⟩ := tab_of (A := fun q => s.heap.size ≤ q) hfl (by decide) fl_arV fl_leV sg_V hA
  obtain ⟨tl, cl, cA, kL, q1, q2, q3, q4, q5, q6, -⟩ := Cond.exactly_spec (args := #[Value.ref b]) (first := s) (o := none) (s := s) (idx := []) (t := tL) (cls := "java/lang/String") (hfl _ fl_ex)
  refine ⟨(D, (fun k => if k = 0 then aB else if k = 1 then comp else if k = 2 then aZ else if k = 3 then aJ else if k = 4 then a4 else if k = 5 then a5 else if k = 6 then a6 else a7), fun c i => if c < 59 then s.heap.size + oF c i else if c = 190 then tc else if c = 191 then th else if c = 192 then tb else if c = 193 then ts else if c = 194 then tl else if c = 195 then tv else s.heap.size + 628 + (c - 200)), ⟨hD, ?_⟩, ?_, ?_, ?_, ?_⟩
  · intro k q hq
    match k, hq with
    | 0, hq => cases hq; exact ⟨b1, b2⟩
    | 1, hq => cases hq; exact ⟨i1, i2⟩
    | 2, hq => cases hq; exact ⟨z1, z2⟩
    | 3, hq => cases hq; exact ⟨j1, j2⟩
    | 4, hq => cases hq; exact ⟨n1, n2⟩
    | 5, hq => cases hq; exact ⟨l1, l2⟩
    | 6, hq => cases hq; exact ⟨m1, m2⟩
    | 7, hq => cases hq; exact ⟨fun n z => ⟨fun k h => (by cases h), kA, o3, comp, o4⟩, o5⟩
    | k + 8, hq => simp [tyL] at hq
  · refine ⟨fun c hc => ?_, ⟨va_Zof (hts _ tx_lsC) (hts _ tx_in2) ec hA, va_Zof (hts _ tx_lsH) (hts _ tx_in2) eh hA, va_Zof (hts _ tx_lsB) (hts _ tx_in2) eb hA, va_Zof (hts _ tx_lsS) (hts _ tx_in0) es hA⟩, ⟨va_Nw.of rfl (hts _ tx_nest32), va_Nw.of rfl (hts _ tx_nest42)⟩, ⟨kA, o3, o4⟩, ⟨cA, q3, q5, by rw [q6]; exact q2, hA _ (Array.getElem?_eq_some_iff.mp q3).1⟩, vk_OFof q1 (va_eqt (hfl _ fl_co)) hA, vk_OFof q1 ev hA, Tv, va_Zof (hts _ tx_lsT) (hts _ tx_inT) (va_eqi (hfl _ fl_cp)) hA, va_Zqof (hts _ tx_lsF) (hts _ tx_inF) (hfl _ fl_fm) hA, vk_R.of (hts _ tx_sr) q1⟩
    rcases kt6 hc with rfl | rfl | rfl | rfl
    · exact Tc
    · exact Th
    · exact Tb
    · exact Ts
  · exact ⟨⟨va_Nw.of rfl (hts _ tx_nest26), va_Nw.of rfl (hts _ tx_nest33), va_Nw.of rfl (hts _ tx_nest40), va_Nw.of rfl (hts _ tx_nest47), va_Nw.of rfl (hts _ tx_nest54), va_Nw.of rfl (hts _ tx_nest82), va_Nw.of rfl (hts _ tx_nest24), va_Nw.of rfl (hts _ tx_nest15)⟩, va_AO.of (hts _ tx_ov7), va_AO.of (hts _ tx_ov4), va_AO.of (hts _ tx_ov6), hts _ tx_ovA⟩
  · intro c i hm
    obtain ⟨h1, h2, h3, h4⟩ := kK_of hm
    exact if_pos (kd_c c h1 h2 h3).1
  · intro c h1 h2
    show (if c < 59 then _ else if c = 190 then tc else if c = 191 then th else if c = 192 then tb else if c = 193 then ts else if c = 194 then tl else if c = 195 then tv else s.heap.size + 628 + (c - 200)) = _
    rw [if_neg (by omega), if_neg (by omega), if_neg (by omega), if_neg (by omega), if_neg (by omega), if_neg (by omega), if_neg (by omega)]
