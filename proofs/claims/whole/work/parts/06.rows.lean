/-! what stays outside the world: statics, the label, two links to a nest mate's private methods -/
def labL : List Int32 := [80, 97, 105, 114, 119, 105, 115, 101, 32, 107, 101, 121, 32, 101, 120, 112, 97, 110, 115, 105, 111, 110]
/-- the rows of an array of rows are int arrays -/
def xAA (G : xG) (U : State) : Prop := ∃ kA : Class, U.vm.classes[G.2.1 7]? = some kA ∧ kA.kind = .array (G.2.1 1) (.array .int)
theorem xAA.moved {G : xG} {u U : State} (hvm : u.vm.Alike U.vm) (h : xAA G u) : xAA G U := by
  obtain ⟨kA, h1, h2⟩ := h
  obtain ⟨k', hk', he⟩ := hvm.2.2 _ _ h1
  exact ⟨k', hk', by rw [he]; exact h2⟩
def xR (G : xG) (A : Nat → Prop) (U : State) : Prop :=
  (∀ c, kt c = 6 → va_T .int (G.2.2 c 0) (kn c) (fun j => .int (sc c j)) A U U.heap) ∧
  (va_Z RX2 "CRC" "[I" (.ref (G.2.2 190 0)) A U U.heap ∧ va_Z RX2 "HEAD" "[I" (.ref (G.2.2 191 0)) A U U.heap ∧ va_Z RX2 "HAND_BYTES" "[I" (.ref (G.2.2 192 0)) A U U.heap ∧ va_Z RX0 "SBOX" "[I" (.ref (G.2.2 193 0)) A U U.heap) ∧
  (va_Nw (.methodLinkNest RX2 32 yX11_isNode RX11) U ∧ va_Nw (.methodLinkNest RX10 42 yX2_writeAddress RX11) U) ∧ xAA G U ∧
  (va_O "java/lang/String" (G.2.2 194 0) A U U.heap ∧ va_OF "java/lang/String" "coder" "B" (.int 0) (G.2.2 194 0) A U U.heap ∧ va_OF "java/lang/String" "value" "[B" (.ref (G.2.2 195 0)) (G.2.2 194 0) A U U.heap ∧ va_T .byte (G.2.2 195 0) 22 (fun j => .int (labL.getD j 0)) A U U.heap ∧ va_Z "java/lang/String" "COMPACT_STRINGS" "Z" (.int 1) A U U.heap ∧ va_Zq "jdk/internal/util/Preconditions" "SIOOBE_FORMATTER" "Ljava/util/function/BiFunction;" A U U.heap ∧ vk_R RX10 30 "Pairwise key expansion" (G.2.2 194 0) U)
theorem xR.move {G : xG} {A B : Nat → Prop} {s U : State} (hW : s.WarmedH U.vm) (hq : ∀ a : Nat, a < s.heap.size → ¬ A a → U.heap[a]? = s.heap[a]?) (hAB : ∀ q, B q → A q) (h : xR G A s) : xR G B U := by
  obtain ⟨h1, ⟨z1, z2, z3, z4⟩, ⟨n1, n2⟩, aa, s1, s2, s3, s4, s5, s6, s7⟩ := h
  have hv := hW.alike
  exact ⟨fun c hc => (((h1 c hc).moved hv).kept hq).narrow hAB, ⟨((z1.moved hv).kept hq).narrow hAB, ((z2.moved hv).kept hq).narrow hAB, ((z3.moved hv).kept hq).narrow hAB, ((z4.moved hv).kept hq).narrow hAB⟩, ⟨n1.warmM hW, n2.warmM hW⟩, aa.moved hv, ((s1.moved hv).kept hq).narrow hAB, ((s2.moved hv).kept hq).narrow hAB, ((s3.moved hv).kept hq).narrow hAB, ((s4.moved hv).kept hq).narrow hAB, ((s5.moved hv).kept hq).narrow hAB, ((s6.moved hv).kept hq).narrow hAB, s7.warm hW⟩
theorem XA.mono {G : xG} {b : Bool} {x y : Nat} (h : x ≤ y) : ∀ q, XA G b y q → XA G b x q := fun _ hq => hq.elim Or.inl (fun h2 => Or.inr (Nat.le_trans h h2))
/-! what is fixed during a method, and what moves -/
def xC (G : xG) (b : Bool) (sz : Nat) (p : Program) (s : State) (m : MethodId) (args : Array Value) (c : Code) (cc : ByteArray) (nL : Nat) (Ts : List Cond) (own : String) (meth : Method) (ret : Option FieldType) : Prop :=
  p.tables.exec = Jvm.exec ∧ c.code = cc ∧ c.maxLocals = nL ∧ s.vm.findClass own = some m.cls ∧ (∀ w ∈ Ts, w.before args s = true) ∧ meth.sig.returnType = ret ∧ meth.locks = false ∧ s.heap.size = sz ∧ xK G s ∧ xD G b ∧ xR G (XA G b sz) s
def xW (G : xG) (b : Bool) (sz : Nat) (s : State) (H : Heap) (locs : List Loc) (S : Mm) : Prop := xP G b S H ∧ va_S (XA G b sz) s.heap H locs
def xPre (G : xG) (b : Bool) (S : Mm) (sz : Nat) (av : List Value) : Array Value → State → Prop := va_Pc av (fun U => U.heap.size = sz ∧ xP G b S U.heap ∧ xK G U ∧ xR G (XA G b sz) U)
def xB (G : xG) (b : Bool) : Mm → State → Prop := fun u t => xP G b u t.heap ∧ xK G t
abbrev xQi (G : xG) (b : Bool) (sz : Nat) (out : Int32 × Mm) := va_Qi (fun (r : Int32) (u : Mm) => (r, u) = out) (xB G b) (XA G b sz)
abbrev xQl (G : xG) (b : Bool) (sz : Nat) (out : Int64 × Mm) := va_Ql (fun (r : Int64) (u : Mm) => (r, u) = out) (xB G b) (XA G b sz)
abbrev xQv (G : xG) (b : Bool) (sz : Nat) (out : Unit × Mm) := va_Qv (fun (u : Mm) => ((), u) = out) (xB G b) (XA G b sz)
/-- an answer that is a cell of the kind k, or null -/
abbrev xQq (G : xG) (b : Bool) (sz : Nat) (k : Nat) (out : Option Nat × Mm) := va_Qq (fun (r : Option Nat) (u : Mm) => r = out.1.map (G.2.2 k) ∧ u = out.2) (xB G b) (XA G b sz)
theorem xPre.blind {G : xG} {b : Bool} {S : Mm} {sz : Nat} {av : List Value} : FrameBlind (xPre G b S sz av) := by
  intro a U g mk h
  obtain ⟨h0, h1, h2, h3, h4⟩ := h
  refine ⟨h0, h1, h2, va_K.moved (u := U) (U := U.calling g mk a) (Vm.Alike.refl U.vm) h3, ?_⟩
  obtain ⟨h1, ⟨z1, z2, z3, z4⟩, ⟨n1, n2⟩, aa, s1, s2, s3, s4, s5, s6, s7⟩ := h4
  have hv : U.vm.Alike (U.calling g mk a).vm := Vm.Alike.refl U.vm
  exact ⟨fun c hc => (h1 c hc).moved hv, ⟨z1.moved hv, z2.moved hv, z3.moved hv, z4.moved hv⟩, ⟨n1.same rfl rfl, n2.same rfl rfl⟩, aa.moved hv, s1.moved hv, s2.moved hv, s3.moved hv, s4.moved hv, s5.moved hv, s6.moved hv, s7.same rfl⟩
/-! the words of the functions that the methods compute -/
section
variable {α β : Type}
def gf (S : Mm) (f i : Nat) (K : Int32 → Option β) : Option β := K (S.1 f i 0)
def gl (S : Mm) (f i : Nat) (K : Int64 → Option β) : Option β := K (S.2.1 f i 0)
def pf (S : Mm) (f i : Nat) (v : Int32) (K : Mm → Option β) : Option β := K (wrI S f i 0 v)
def pl (S : Mm) (f i : Nat) (v : Int64) (K : Mm → Option β) : Option β := K (wrL S f i 0 v)
def tp (v : α) (K : α → Option β) : Option β := K v
def gd (c : Prop) [Decidable c] (k : Option β) : Option β := if c then k else none
def inb (i : Int32) (n : Nat) : Bool := decide (0 ≤ i) && Nat.blt i.toNatClampNeg n
def ldA (S : Mm) (c i n m : Nat) (ix : Int32) (K : Int32 → Option β) : Option β := if Nat.blt i m && inb ix n then K (S.1 c i ix.toNatClampNeg) else none
def ldL (S : Mm) (c i n m : Nat) (ix : Int32) (K : Int64 → Option β) : Option β := if Nat.blt i m && inb ix n then K (S.2.1 c i ix.toNatClampNeg) else none
def ldR (S : Mm) (c i n m : Nat) (ix : Int32) (mt : Nat) (K : Nat → Option β) : Option β := if (Nat.blt i m && inb ix n) && Nat.blt (S.2.2 c i ix.toNatClampNeg) mt then K (S.2.2 c i ix.toNatClampNeg) else none
def stA (S : Mm) (c i n m : Nat) (ix : Int32) (v : Int32) (K : Mm → Option β) : Option β := if Nat.blt i m && inb ix n then K (wrI S c i ix.toNatClampNeg v) else none
def stL (S : Mm) (c i n m : Nat) (ix : Int32) (v : Int64) (K : Mm → Option β) : Option β := if Nat.blt i m && inb ix n then K (wrL S c i ix.toNatClampNeg v) else none
def stR (S : Mm) (c i n m : Nat) (ix : Int32) (v : Nat) (K : Mm → Option β) : Option β := if Nat.blt i m && inb ix n then K (wrR S c i ix.toNatClampNeg v) else none
def okP (b : Bool) (c i : Nat) : Bool := (Nat.beq (kt c) 6 && Nat.beq i 0) || (Nat.beq (kt c) 1 && (Nat.blt c nk && ((sd c == b) && Nat.blt i (kc c))))
def okW (b : Bool) (c i : Nat) : Bool := Nat.beq (kt c) 1 && (Nat.blt c nk && ((sd c == b) && Nat.blt i (kc c)))
def ldP (b : Bool) (S : Mm) (c i : Nat) (ix : Int32) (K : Int32 → Option β) : Option β := if okP b c i && inb ix (kn c) then K (rdI S c i ix.toNatClampNeg) else none
def stP (b : Bool) (S : Mm) (c i : Nat) (ix : Int32) (v : Int32) (K : Mm → Option β) : Option β := if okW b c i && inb ix (kn c) then K (wrI S c i ix.toNatClampNeg v) else none
def lnP (b : Bool) (c i : Nat) (K : Int32 → Option β) : Option β := if okP b c i then K (nI (kn c)) else none
def cpP (b : Bool) (S : Mm) (c0 i0 : Nat) (sp : Int32) (c1 i1 : Nat) (dp n : Int32) (K : Mm → Option β) : Option β :=
  if (okP b c0 i0 && okW b c1 i1) && ((decide (0 ≤ sp) && (decide (0 ≤ dp) && decide (0 ≤ n))) && (Nat.ble (sp.toNatClampNeg + n.toNatClampNeg) (kn c0) && Nat.ble (dp.toNatClampNeg + n.toNatClampNeg) (kn c1))) then K (cpI S c0 i0 sp.toNatClampNeg c1 i1 dp.toNatClampNeg n.toNatClampNeg) else none
def cl (o : Option (α × Mm)) (K : α → Mm → Option β) : Option β := match o with
  | some q => K q.1 q.2
  | none => none
/-- an answer that is a cell: never null, or null too -/
def nn (r : Option Nat) (mt : Nat) (K : Nat → Option β) : Option β := match r with
  | some x => if Nat.blt x mt then K x else none
  | none => none
def nu (r : Option Nat) (mt : Nat) (k : Option β) (K : Nat → Option β) : Option β := match r with
  | some x => if Nat.blt x mt then K x else none
  | none => k
theorem cl_some {o : Option (α × Mm)} {K : α → Mm → Option β} {out : β} (h : cl o K = some out) : ∃ r S1, o = some (r, S1) ∧ K r S1 = some out := by
  unfold cl at h
  cases o with
  | none => cases h
  | some q => exact ⟨q.1, q.2, rfl, h⟩
theorem if_some {c : Prop} [Decidable c] {k : Option β} {out : β} (h : (if c then k else none) = some out) : c ∧ k = some out := by
  by_cases hc : c
  · rw [if_pos hc] at h; exact ⟨hc, h⟩
  · rw [if_neg hc] at h; cases h
theorem inb_iff {i : Int32} {n : Nat} : inb i n = true ↔ vp_in i n := by
  unfold inb vp_in
  rw [Bool.and_eq_true, decide_eq_true_eq, Nat.blt_eq]
  constructor
  · rintro ⟨h1, h2⟩ (h | h)
    · exact Int32.not_lt.mpr h1 h
    · omega
  · intro h
    exact ⟨Int32.not_lt.mp fun q => h (Or.inl q), Nat.not_le.mp fun q => h (Or.inr q)⟩
end
def fu : Nat := 100000
def iu (x y : Int32) : Int32 := (x.toUInt32 >>> (y.toUInt32 &&& Int32.toUInt32 31)).toInt32
theorem z_1 : 0 < 1 := Nat.zero_lt_one
abbrev wX (p : Program) (l : Launch) (e : Env) (R : Room) (s : State) (m : MethodId) (args : Array Value) (below : List Frame) (meth : Method) (c : Code) (H : Heap) (locs : List Loc) (Qc : Array Value → State → Outcome → State → Prop) (A : Nat → Prop) (pc : Nat) (ls : Array Slot) (st : List Value) : Prop := W p l e R s m args below meth c H locs 0 0 (MQ below Qc args s 0 0 A) (F0 m pc ls st)
theorem x_ite {β : Type} {out : β} {c P : Prop} [Decidable c] {A B : Option β} (h : (if c then A else B) = some out) (k1 : c → A = some out → P) (k2 : ¬ c → B = some out → P) : P := by
  by_cases hc : c
  · exact k1 hc ((if_pos hc).symm.trans h)
  · exact k2 hc ((if_neg hc).symm.trans h)
