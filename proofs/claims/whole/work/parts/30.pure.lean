/-! PURE ROWS: the functions of the methods, read as mathematics -/
theorem fu_n {N : Nat} (h : N < 100000) : ∃ n, fu = n + N + 1 := ⟨99999 - N, by unfold fu; omega⟩
theorem loop0 {σ R : Type} (L : Nat → σ → R) (st : Nat → σ) (N : Nat) {r : R} (hN : N < 100000) (hs : ∀ n j, j < N → L (n + 1) (st j) = L n (st (j + 1))) (hx : ∀ n, L (n + 1) (st N) = r) : L fu (st 0) = r := by
  have key : ∀ k, k ≤ N → ∀ n, L (n + k) (st (N - k)) = L n (st N) := by
    intro k
    induction k with
    | zero => intro _ n; rfl
    | succ k ih =>
      intro hk n
      have h1 := hs (n + k) (N - (k + 1)) (by omega)
      have e : N - (k + 1) + 1 = N - k := by omega
      rw [e] at h1
      rw [← ih (by omega) n, ← h1]
      rfl
  obtain ⟨n, hn⟩ := fu_n hN
  have h := key N (Nat.le_refl _) (n + 1)
  rw [Nat.sub_self, hx n] at h
  rw [hn, ← h]
  congr 1
  omega
/-! a block of numbers written -/
def blk (S : Mm) (c i at' len : Nat) (f : Nat → Int32) : Mm := (fun a b d => if a = c ∧ b = i ∧ at' ≤ d ∧ d < at' + len then f (d - at') else S.1 a b d, S.2)
theorem Mm_ext {S T : Mm} (h1 : ∀ a b d, S.1 a b d = T.1 a b d) (h2 : S.2 = T.2) : S = T := by
  obtain ⟨s1, s2⟩ := S
  obtain ⟨t1, t2⟩ := T
  cases h2
  congr 1
  funext a b d
  exact h1 a b d
theorem blk_0 (S : Mm) (c i at' : Nat) (f : Nat → Int32) : blk S c i at' 0 f = S := by
  refine Mm_ext (fun a b d => ?_) rfl
  show (if a = c ∧ b = i ∧ at' ≤ d ∧ d < at' + 0 then _ else _) = _
  rw [if_neg (by omega)]
theorem blk_succ (S : Mm) (c i at' n : Nat) (f : Nat → Int32) : wrI (blk S c i at' n f) c i (at' + n) (f n) = blk S c i at' (n + 1) f := by
  refine Mm_ext (fun a b d => ?_) rfl
  show (if a = c ∧ b = i ∧ d = at' + n then f n else if a = c ∧ b = i ∧ at' ≤ d ∧ d < at' + n then f (d - at') else S.1 a b d) = if a = c ∧ b = i ∧ at' ≤ d ∧ d < at' + (n + 1) then f (d - at') else S.1 a b d
  by_cases h1 : a = c ∧ b = i
  · by_cases h2 : d = at' + n
    · rw [if_pos ⟨h1.1, h1.2, h2⟩, if_pos ⟨h1.1, h1.2, by omega, by omega⟩, h2, Nat.add_sub_cancel_left]
    · rw [if_neg (fun q => h2 q.2.2)]
      by_cases h3 : at' ≤ d ∧ d < at' + n
      · rw [if_pos ⟨h1.1, h1.2, h3⟩, if_pos ⟨h1.1, h1.2, by omega, by omega⟩]
      · rw [if_neg (fun q => h3 q.2.2), if_neg (fun q => h3 ⟨q.2.2.1, by omega⟩)]
  · rw [if_neg (fun q => h1 ⟨q.1, q.2.1⟩), if_neg (fun q => h1 ⟨q.1, q.2.1⟩), if_neg (fun q => h1 ⟨q.1, q.2.1⟩)]
theorem cpI_blk (S : Mm) (c0 i0 sp c1 i1 dp n : Nat) : cpI S c0 i0 sp c1 i1 dp n = blk S c1 i1 dp n (fun k => rdI S c0 i0 (sp + k)) := rfl
theorem blk_in {S : Mm} {c i at' len d : Nat} {f : Nat → Int32} (h1 : at' ≤ d) (h2 : d < at' + len) : (blk S c i at' len f).1 c i d = f (d - at') := if_pos ⟨rfl, rfl, h1, h2⟩
theorem blk_out {S : Mm} {c i at' len a b d : Nat} {f : Nat → Int32} (h : ¬ (a = c ∧ b = i ∧ at' ≤ d ∧ d < at' + len)) : (blk S c i at' len f).1 a b d = S.1 a b d := if_neg h
theorem blk_ne {S : Mm} {c i at' len a : Nat} {f : Nat → Int32} (h : ¬ a = c) : (blk S c i at' len f).1 a = S.1 a := by
  funext b d
  exact if_neg (fun q => h q.1)
theorem wrI_s {S : Mm} {c i j : Nat} {v : Int32} : (wrI S c i j v).1 c i j = v := if_pos ⟨rfl, rfl, rfl⟩
theorem wrI_o {S : Mm} {c i j a b d : Nat} {v : Int32} (h : ¬ (a = c ∧ b = i ∧ d = j)) : (wrI S c i j v).1 a b d = S.1 a b d := if_neg h
theorem wrI_ne {S : Mm} {c i j a : Nat} {v : Int32} (h : ¬ a = c) : (wrI S c i j v).1 a = S.1 a := by
  funext b d
  exact if_neg (fun q => h q.1)
/-! guards that hold -/
theorem inb_n {j n : Nat} (h : j < n) (hn : n < 2 ^ 31) : inb (nI j) n = true := inb_iff.mpr (vp_in_nI h hn)
section
variable {β : Type}
theorem tp_eq {α : Type} {v : α} {K : α → Option β} : tp v K = K v := rfl
theorem cl_eq {α : Type} {r : α} {S1 : Mm} {K : α → Mm → Option β} : cl (some (r, S1)) K = K r S1 := rfl
theorem gf_eq {S : Mm} {f i : Nat} {K : Int32 → Option β} : gf S f i K = K (S.1 f i 0) := rfl
theorem pf_eq {S : Mm} {f i : Nat} {v : Int32} {K : Mm → Option β} : pf S f i v K = K (wrI S f i 0 v) := rfl
theorem gl_eq {S : Mm} {f i : Nat} {K : Int64 → Option β} : gl S f i K = K (S.2.1 f i 0) := rfl
theorem pl_eq {S : Mm} {f i : Nat} {v : Int64} {K : Mm → Option β} : pl S f i v K = K (wrL S f i 0 v) := rfl
theorem ldA_n {S : Mm} {c i n m j : Nat} {K : Int32 → Option β} (hi : i < m) (hj : j < n) (hn : n < 2 ^ 31) : ldA S c i n m (nI j) K = K (S.1 c i j) := by
  unfold ldA
  rw [if_pos (by rw [Bool.and_eq_true, Nat.blt_eq]; exact ⟨hi, inb_n hj hn⟩), nI_clamp (by omega)]
theorem stA_n {S : Mm} {c i n m j : Nat} {v : Int32} {K : Mm → Option β} (hi : i < m) (hj : j < n) (hn : n < 2 ^ 31) : stA S c i n m (nI j) v K = K (wrI S c i j v) := by
  unfold stA
  rw [if_pos (by rw [Bool.and_eq_true, Nat.blt_eq]; exact ⟨hi, inb_n hj hn⟩), nI_clamp (by omega)]
theorem ldL_n {S : Mm} {c i n m j : Nat} {K : Int64 → Option β} (hi : i < m) (hj : j < n) (hn : n < 2 ^ 31) : ldL S c i n m (nI j) K = K (S.2.1 c i j) := by
  unfold ldL
  rw [if_pos (by rw [Bool.and_eq_true, Nat.blt_eq]; exact ⟨hi, inb_n hj hn⟩), nI_clamp (by omega)]
theorem stL_n {S : Mm} {c i n m j : Nat} {v : Int64} {K : Mm → Option β} (hi : i < m) (hj : j < n) (hn : n < 2 ^ 31) : stL S c i n m (nI j) v K = K (wrL S c i j v) := by
  unfold stL
  rw [if_pos (by rw [Bool.and_eq_true, Nat.blt_eq]; exact ⟨hi, inb_n hj hn⟩), nI_clamp (by omega)]
theorem ldR_n {S : Mm} {c i n m j mt : Nat} {K : Nat → Option β} (hi : i < m) (hj : j < n) (hn : n < 2 ^ 31) (ht : S.2.2 c i j < mt) : ldR S c i n m (nI j) mt K = K (S.2.2 c i j) := by
  unfold ldR
  rw [nI_clamp (by omega), if_pos (by rw [Bool.and_eq_true, Bool.and_eq_true, Nat.blt_eq, Nat.blt_eq]; exact ⟨⟨hi, inb_n hj hn⟩, ht⟩)]
theorem okP_w {b : Bool} {c i : Nat} (h1 : kt c = 1) (h2 : c < nk) (h3 : sd c = b) (h4 : i < kc c) : okP b c i = true := by
  unfold okP
  simp [h1, h2, h3, h4, Nat.beq_eq, Nat.blt_eq]
theorem okW_w {b : Bool} {c i : Nat} (h1 : kt c = 1) (h2 : c < nk) (h3 : sd c = b) (h4 : i < kc c) : okW b c i = true := by
  unfold okW
  simp [h1, h2, h3, h4, Nat.beq_eq, Nat.blt_eq]
theorem ldP_n {b : Bool} {S : Mm} {c i j : Nat} {K : Int32 → Option β} (ho : okP b c i = true) (hj : j < kn c) (hn : kn c < 2 ^ 31) : ldP b S c i (nI j) K = K (rdI S c i j) := by
  unfold ldP
  rw [if_pos (by rw [Bool.and_eq_true]; exact ⟨ho, inb_n hj hn⟩), nI_clamp (by omega)]
theorem stP_n {b : Bool} {S : Mm} {c i j : Nat} {v : Int32} {K : Mm → Option β} (ho : okW b c i = true) (hj : j < kn c) (hn : kn c < 2 ^ 31) : stP b S c i (nI j) v K = K (wrI S c i j v) := by
  unfold stP
  rw [if_pos (by rw [Bool.and_eq_true]; exact ⟨ho, inb_n hj hn⟩), nI_clamp (by omega)]
end
/-! the CRC: both programs' -/
def itr {α : Type} (f : α → α) : Nat → α → α
  | 0, x => x
  | n + 1, x => f (itr f n x)
def crcBit (c : Int32) : Int32 := if c &&& 1 = 1 then iu c 1 ^^^ (-306674912) else iu c 1
def crcN (f : Nat → Int32) : Nat → Int32
  | 0 => -1
  | n + 1 => itr crcBit 8 (crcN f n ^^^ f n)
theorem crcM_in (k5 : Int32 → Int32 → Mm → Option (Int32 × Mm)) (cv0 v0 : Nat) (v1 v2 v4 x : Int32) (S : Mm) : L_X12_crc_23 k5 cv0 v0 v1 v2 v4 fu x 0 S = k5 (itr crcBit 8 x) (v4 + 1) S := by
  refine loop0 (fun n (q : Int32 × Int32 × Mm) => L_X12_crc_23 k5 cv0 v0 v1 v2 v4 n q.1 q.2.1 q.2.2) (fun j => (itr crcBit j x, nI j, S)) 8 (by decide) (fun n j hj => ?_) (fun n => ?_)
  · show L_X12_crc_23 k5 cv0 v0 v1 v2 v4 (n + 1) (itr crcBit j x) (nI j) S = L_X12_crc_23 k5 cv0 v0 v1 v2 v4 n (crcBit (itr crcBit j x)) (nI (j + 1)) S
    rw [L_X12_crc_23, if_neg (show ¬ (8 : Int32) ≤ nI j from nI_ge (b := 8) hj (by decide))]
    unfold L_X12_crc_50 crcBit
    rw [nI_1]
    by_cases h : (itr crcBit j x) &&& 1 = 1
    · unfold crcBit at h
      rw [if_pos h, if_pos h]
    · unfold crcBit at h
      rw [if_neg h, if_neg h]
  · show L_X12_crc_23 k5 cv0 v0 v1 v2 v4 (n + 1) (itr crcBit 8 x) (nI 8) S = _
    rw [L_X12_crc_23, if_pos (show (8 : Int32) ≤ nI 8 by decide)]
theorem crcM {c i at' n : Nat} {S : Mm} (ho : okP true c i = true) (hn : at' + n ≤ kn c) (hk : kn c < 50000) : F_X12_crc c i (nI at') (nI n) S = some (crcN (fun k => rdI S c i (at' + k)) n ^^^ (-1), S) := by
  unfold F_X12_crc
  refine loop0 (fun m (q : Int32 × Int32 × Mm) => L_X12_crc_5 c i (nI at') (nI n) m q.1 q.2.1 q.2.2) (fun j => (crcN (fun k => rdI S c i (at' + k)) j, nI j, S)) n (by omega) (fun m j hj => ?_) (fun m => ?_)
  · show L_X12_crc_5 c i (nI at') (nI n) (m + 1) (crcN _ j) (nI j) S = L_X12_crc_5 c i (nI at') (nI n) m (crcN _ (j + 1)) (nI (j + 1)) S
    rw [L_X12_crc_5, if_neg (nI_ge hj (by omega)), nI_add, ldP_n ho (by omega) (by omega)]
    rw [tp_eq, crcM_in, nI_1]
    rfl
  · show L_X12_crc_5 c i (nI at') (nI n) (m + 1) _ (nI n) S = _
    rw [L_X12_crc_5, if_pos (nI_le (Nat.le_refl n) (by omega))]
/-- half a byte at once -/
theorem iu_bv (c : Int32) (s : Int32) (k : Nat) (hs : ((s.toUInt32 &&& Int32.toUInt32 31).toBitVec % 32).toNat = k) : (iu c s).toBitVec.toNat = c.toBitVec.toNat / 2 ^ k := pk_ushr c s k hs
theorem bv_inj {a b : Int32} (h : a.toBitVec.toNat = b.toBitVec.toNat) : a = b := Int32.toBitVec_inj.mp (BitVec.eq_of_toNat_eq h)
theorem iu_xor (a b : Int32) : iu (a ^^^ b) 1 = iu a 1 ^^^ iu b 1 := by
  apply bv_inj
  have h : ∀ x : Int32, (iu x 1).toBitVec = x.toBitVec >>> 1 := fun x => BitVec.eq_of_toNat_eq (by rw [iu_bv x 1 1 (by decide), BitVec.toNat_ushiftRight, Nat.shiftRight_eq_div_pow])
  rw [Int32.toBitVec_xor, h, h, h, Int32.toBitVec_xor, BitVec.ushiftRight_xor_distrib]
theorem and1_xor (a b : Int32) : (a ^^^ b) &&& 1 = (a &&& 1) ^^^ (b &&& 1) := by
  apply Int32.toBitVec_inj.mp
  simp only [Int32.toBitVec_xor, Int32.toBitVec_and]
  apply BitVec.eq_of_getLsbD_eq
  intro i hi
  simp only [BitVec.getLsbD_xor, BitVec.getLsbD_and]
  cases a.toBitVec.getLsbD i <;> cases b.toBitVec.getLsbD i <;> cases (Int32.toBitVec 1).getLsbD i <;> rfl
theorem and1_c (a : Int32) : a &&& 1 = 0 ∨ a &&& 1 = 1 := by
  obtain ⟨j, hj, e⟩ := pk_andE a (m := 1) 1 (by decide)
  rcases (show j = 0 ∨ j = 1 by omega) with rfl | rfl
  · exact Or.inl e
  · exact Or.inr e
theorem xor_0 (a : Int32) : a ^^^ 0 = a := by
  apply Int32.toBitVec_inj.mp
  simp
theorem xor_4 (a b c d : Int32) : (a ^^^ b) ^^^ (c ^^^ d) = (a ^^^ c) ^^^ (b ^^^ d) := by
  apply Int32.toBitVec_inj.mp
  simp only [Int32.toBitVec_xor]
  apply BitVec.eq_of_getLsbD_eq
  intro i hi
  simp only [BitVec.getLsbD_xor]
  cases a.toBitVec.getLsbD i <;> cases b.toBitVec.getLsbD i <;> cases c.toBitVec.getLsbD i <;> cases d.toBitVec.getLsbD i <;> rfl
theorem crcBit_eq (c : Int32) : crcBit c = iu c 1 ^^^ (if c &&& 1 = 1 then -306674912 else 0) := by
  unfold crcBit
  by_cases h : c &&& 1 = 1
  · rw [if_pos h, if_pos h]
  · rw [if_neg h, if_neg h, xor_0]
theorem crcBit_xor (a b : Int32) : crcBit (a ^^^ b) = crcBit a ^^^ crcBit b := by
  rw [crcBit_eq, crcBit_eq, crcBit_eq, iu_xor, xor_4]
  congr 1
  rw [and1_xor]
  rcases and1_c a with h1 | h1 <;> rcases and1_c b with h2 | h2 <;> rw [h1, h2] <;> decide
theorem crcBit_even {k : Nat} (h : 2 * k < 2 ^ 32) : crcBit (nI (2 * k)) = nI k := by
  unfold crcBit
  have e : nI (2 * k) &&& 1 = nI (2 * k % 2 ^ 1) := pk_andN h 1 (by decide)
  rw [e, show 2 * k % 2 ^ 1 = 0 by omega, if_neg (by decide)]
  have e2 : iu (nI (2 * k)) 1 = nI (2 * k / 2 ^ 1) := pk_ushrN h 1 1 (by decide)
  rw [e2]
  congr 1
  omega
theorem split16 (c : Int32) : c = (c &&& 15) ^^^ (c &&& (-16)) := by
  apply Int32.toBitVec_inj.mp
  simp only [Int32.toBitVec_xor, Int32.toBitVec_and]
  apply BitVec.eq_of_getLsbD_eq
  intro i hi
  simp only [BitVec.getLsbD_xor, BitVec.getLsbD_and]
  have h : ∀ i, i < 32 → (Int32.toBitVec (-16)).getLsbD i = !((Int32.toBitVec 15).getLsbD i) := by decide
  rw [h i hi]
  cases c.toBitVec.getLsbD i <;> cases (Int32.toBitVec 15).getLsbD i <;> rfl
theorem hi16 (c : Int32) : c &&& (-16) = nI (16 * (c.toBitVec.toNat / 16)) := by
  apply bv_inj
  have hb : c.toBitVec.toNat < 2 ^ 32 := c.toBitVec.isLt
  rw [pk_tn (by omega)]
  have h : (c &&& (-16)).toBitVec.toNat + (c &&& 15).toBitVec.toNat = c.toBitVec.toNat := by
    have e : (c &&& (-16)).toBitVec &&& (c &&& 15).toBitVec = 0#32 := by
      simp only [Int32.toBitVec_and]
      apply BitVec.eq_of_getLsbD_eq
      intro i hi
      simp only [BitVec.getLsbD_and, BitVec.getLsbD_zero]
      have h : ∀ i, i < 32 → (Int32.toBitVec (-16)).getLsbD i = !((Int32.toBitVec 15).getLsbD i) := by decide
      rw [h i hi]
      cases c.toBitVec.getLsbD i <;> cases (Int32.toBitVec 15).getLsbD i <;> rfl
    have e2 := BitVec.add_eq_or_of_and_eq_zero _ _ e
    have e3 : (c &&& (-16)).toBitVec ||| (c &&& 15).toBitVec = c.toBitVec := by
      simp only [Int32.toBitVec_and]
      apply BitVec.eq_of_getLsbD_eq
      intro i hi
      simp only [BitVec.getLsbD_or, BitVec.getLsbD_and]
      have h : ∀ i, i < 32 → (Int32.toBitVec (-16)).getLsbD i = !((Int32.toBitVec 15).getLsbD i) := by decide
      rw [h i hi]
      cases c.toBitVec.getLsbD i <;> cases (Int32.toBitVec 15).getLsbD i <;> rfl
    rw [e3] at e2
    have e4 := congrArg BitVec.toNat e2
    rw [BitVec.toNat_add] at e4
    have l1 : (c &&& (-16)).toBitVec.toNat ≤ c.toBitVec.toNat := by rw [Int32.toBitVec_and, BitVec.toNat_and]; exact Nat.and_le_left
    have l2 : (c &&& 15).toBitVec.toNat < 16 := by
      have := pk_and c (m := 15) 4 (by decide)
      rw [this, pk_tn (by omega)]
      omega
    have l3 : (c &&& (-16)).toBitVec.toNat ≤ 4294967280 := by
      rw [Int32.toBitVec_and, BitVec.toNat_and]
      exact Nat.and_le_right
    omega
  have h15 : (c &&& 15).toBitVec.toNat = c.toBitVec.toNat % 16 := by
    have := pk_and c (m := 15) 4 (by decide)
    rw [this, pk_tn (by omega)]
  omega
theorem crcNib (c : Int32) : iu c 4 ^^^ sc 190 (c &&& 15).toNatClampNeg = itr crcBit 4 c := by
  have hb : c.toBitVec.toNat < 2 ^ 32 := c.toBitVec.isLt
  have e15 : c &&& 15 = nI (c.toBitVec.toNat % 16) := pk_and c (m := 15) 4 (by decide)
  have lin : ∀ a b, itr crcBit 4 (a ^^^ b) = itr crcBit 4 a ^^^ itr crcBit 4 b := fun a b => by
    simp only [itr, crcBit_xor]
  have tab : ∀ r, r < 16 → itr crcBit 4 (nI r) = sc 190 r := by decide
  rw [show itr crcBit 4 c = itr crcBit 4 ((c &&& 15) ^^^ (c &&& (-16))) from congrArg _ (split16 c), lin, e15, nI_clamp (by omega), tab _ (by omega), hi16]
  have e4 : itr crcBit 4 (nI (16 * (c.toBitVec.toNat / 16))) = nI (c.toBitVec.toNat / 16) := by
    show crcBit (crcBit (crcBit (crcBit (nI (16 * (c.toBitVec.toNat / 16)))))) = _
    rw [show 16 * (c.toBitVec.toNat / 16) = 2 * (8 * (c.toBitVec.toNat / 16)) by omega, crcBit_even (by omega), show 8 * (c.toBitVec.toNat / 16) = 2 * (4 * (c.toBitVec.toNat / 16)) by omega, crcBit_even (by omega), show 4 * (c.toBitVec.toNat / 16) = 2 * (2 * (c.toBitVec.toNat / 16)) by omega, crcBit_even (by omega), crcBit_even (by omega)]
  have eu : iu c 4 = nI (c.toBitVec.toNat / 16) := by
    apply bv_inj
    rw [iu_bv c 4 4 (by decide), pk_tn (by omega)]
  rw [e4, eu]
  exact Int32.xor_comm _ _
theorem itr_add {α : Type} (f : α → α) (a b : Nat) (x : α) : itr f (a + b) x = itr f a (itr f b x) := by
  induction a with
  | zero => rw [Nat.zero_add]; rfl
  | succ a ih => rw [Nat.succ_add]; show f _ = f _; rw [ih]
theorem crcC {c i n : Nat} {S : Mm} (ho : okP false c i = true) (hn : n ≤ kn c) (hk : kn c < 50000) : F_X2_crcOf c i (nI n) S = some (crcN (rdI S c i) n ^^^ (-1), S) := by
  unfold F_X2_crcOf
  refine loop0 (fun m (q : Int32 × Int32 × Mm) => L_X2_crcOf_4 c i (nI n) m q.1 q.2.1 q.2.2) (fun j => (crcN (rdI S c i) j, nI j, S)) n (by omega) (fun m j hj => ?_) (fun m => ?_)
  · show L_X2_crcOf_4 c i (nI n) (m + 1) (crcN _ j) (nI j) S = L_X2_crcOf_4 c i (nI n) m (crcN _ (j + 1)) (nI (j + 1)) S
    have hs : ∀ (x : Int32) (K : Int32 → Option (Int32 × Mm)), ldP false S 190 0 (x &&& 15) K = K (sc 190 (x &&& 15).toNatClampNeg) := by
      intro x K
      obtain ⟨r, hr, e⟩ := pk_andE x (m := 15) 4 (by decide)
      rw [e, nI_clamp (by omega)]
      exact ldP_n (by decide) (show r < kn 190 from hr) (by decide)
    rw [L_X2_crcOf_4, if_neg (nI_ge hj (by omega)), ldP_n ho (by omega) (by omega), tp_eq, hs, tp_eq, hs, tp_eq, nI_1, crcNib, crcNib, ← itr_add]
    rfl
  · show L_X2_crcOf_4 c i (nI n) (m + 1) _ (nI n) S = _
    rw [L_X2_crcOf_4, if_pos (nI_le (Nat.le_refl n) (by omega))]
