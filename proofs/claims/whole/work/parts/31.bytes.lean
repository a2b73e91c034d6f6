/-! bytes of numbers -/
theorem loopB {R : Type} {r : R} (L : Nat → Int32 → Mm → R) (S : Mm) (c i at' N : Nat) (f : Nat → Int32) (hN : N < 100000) (hs : ∀ n j, j < N → L (n + 1) (nI j) (blk S c i at' j f) = L n (nI (j + 1)) (blk S c i at' (j + 1) f)) (hx : ∀ n, L (n + 1) (nI N) (blk S c i at' N f) = r) : L fu 0 S = r := by
  have h := loop0 (fun n (q : Int32 × Mm) => L n q.1 q.2) (fun j => (nI j, blk S c i at' j f)) N hN hs hx
  dsimp only at h
  rw [blk_0] at h
  exact h
def bt (v : Int32) (k : Nat) : Int32 := nI (v.toBitVec.toNat / 256 ^ k % 256)
def btL (v : Int64) (k : Nat) : Int32 := nI (v.toBitVec.toNat / 256 ^ k % 256)
def isB (x : Int32) : Prop := ∃ n, n < 256 ∧ x = nI n
theorem bt_B (v : Int32) (k : Nat) : isB (bt v k) := ⟨_, Nat.mod_lt _ (by decide), rfl⟩
theorem btL_B (v : Int64) (k : Nat) : isB (btL v k) := ⟨_, Nat.mod_lt _ (by decide), rfl⟩
theorem and255 (x : Int32) : x &&& 255 = nI (x.toBitVec.toNat % 256) := pk_and x (m := 255) 8 (by decide)
theorem and255_B (x : Int32) : isB (x &&& 255) := ⟨_, Nat.mod_lt _ (by decide), and255 x⟩
theorem isB_and {x : Int32} (h : isB x) : x &&& 255 = x := by
  obtain ⟨n, hn, rfl⟩ := h
  rw [and255, pk_tn (by omega), Nat.mod_eq_of_lt hn]
theorem toInt_nat (x : Int32) : x.toInt = (x.toBitVec.toNat : Int) ∨ x.toInt = (x.toBitVec.toNat : Int) - 4294967296 := by
  have h : x.toInt = x.toBitVec.toInt := rfl
  rw [h, BitVec.toInt_eq_toNat_cond]
  split
  · exact Or.inl rfl
  · exact Or.inr rfl
theorem toInt_natL (x : Int64) : x.toInt = (x.toBitVec.toNat : Int) ∨ x.toInt = (x.toBitVec.toNat : Int) - 18446744073709551616 := by
  have h : x.toInt = x.toBitVec.toInt := rfl
  rw [h, BitVec.toInt_eq_toNat_cond]
  split
  · exact Or.inl rfl
  · exact Or.inr rfl
theorem iu_bt {k : Nat} (hk : k < 4) (v : Int32) : iu v (8 * nI k) &&& 255 = bt v k := by
  have h : ∀ k, k < 4 → ((8 * nI k).toUInt32 &&& Int32.toUInt32 31).toBitVec.toNat % 32 = 8 * k := by decide
  rw [and255, iu_bv v (8 * nI k) (8 * k) (by rw [BitVec.toNat_umod]; exact h k hk), Nat.pow_mul]
  rfl
theorem sh_bt {k : Nat} (hk : k < 4) (v s : Int32) (hs : (s.toBitVec.smod 32).toNat = 8 * k) : (v >>> s) &&& 255 = bt v k := by
  rw [and255]
  unfold bt
  congr 1
  have h := pk_shr v s (8 * k) hs
  generalize v >>> s = x at h
  rw [Int.shiftRight_eq_div_pow] at h
  have h1 := toInt_nat x
  have h2 := toInt_nat v
  have l1 : x.toBitVec.toNat < 4294967296 := x.toBitVec.isLt
  have l2 : v.toBitVec.toNat < 4294967296 := v.toBitVec.isLt
  rcases (show k = 0 ∨ k = 1 ∨ k = 2 ∨ k = 3 by omega) with rfl | rfl | rfl | rfl <;> simp only [Nat.reduceMul, Nat.reducePow, Int.reducePow, Nat.mul_zero, Nat.pow_zero, Nat.div_one, Int.pow_zero, Int.ediv_one] at h ⊢ <;> omega
theorem sh_btk {k : Nat} (hk : k < 4) (v : Int32) : (v >>> ((8 * nI k) &&& 31)) &&& 255 = bt v k := by
  have h : ∀ k, k < 4 → ((((8 * nI k) &&& 31).toBitVec).smod 32).toNat = 8 * k := by decide
  exact sh_bt hk v _ (h k hk)
theorem lsh_bt {k : Nat} (hk : k < 8) (v : Int64) (s : Int64) (hs : (s.toBitVec.smod 64).toNat = 8 * k) : (v >>> s).toInt32 &&& 255 = btL v k := by
  rw [and255]
  unfold btL
  congr 1
  have h : (v >>> s).toBitVec = v.toBitVec.sshiftRight (8 * k) := by
    rw [← hs]
    rfl
  have e : (v >>> s).toInt32.toBitVec.toNat % 256 = (v >>> s).toBitVec.toNat % 256 := by
    rw [Int64.toBitVec_toInt32]
    have h3 : ((v >>> s).toBitVec.signExtend 32).toNat = (v >>> s).toBitVec.toNat % 4294967296 := by
      rw [BitVec.signExtend_eq_setWidth_of_le _ (by decide), BitVec.toNat_setWidth]
    rw [h3]
    omega
  rw [e]
  have h5 : (v >>> s).toInt = v.toInt / 2 ^ (8 * k) := by
    have h6 : (v >>> s).toInt = (v >>> s).toBitVec.toInt := rfl
    rw [h6, h, BitVec.toInt_sshiftRight, Int.shiftRight_eq_div_pow]
    rfl
  generalize v >>> s = x at h5
  have h1 := toInt_natL x
  have h2 := toInt_natL v
  have l1 : x.toBitVec.toNat < 18446744073709551616 := x.toBitVec.isLt
  have l2 : v.toBitVec.toNat < 18446744073709551616 := v.toBitVec.isLt
  rcases (show k = 0 ∨ k = 1 ∨ k = 2 ∨ k = 3 ∨ k = 4 ∨ k = 5 ∨ k = 6 ∨ k = 7 by omega) with rfl | rfl | rfl | rfl | rfl | rfl | rfl | rfl <;> simp only [Nat.reduceMul, Nat.reducePow, Int.reducePow, Nat.mul_zero, Nat.pow_zero, Nat.div_one, Int.pow_zero, Int.ediv_one] at h5 ⊢ <;> omega
/-- an int as a long has the same low bytes -/
theorem btL_ext {k : Nat} (hk : k < 4) (v : Int32) : btL v.toInt64 k = bt v k := by
  unfold btL bt
  congr 1
  have h : (v.toInt64).toInt = v.toInt := Int32.toInt_toInt64 v
  generalize v.toInt64 = x at h
  have h1 := toInt_natL x
  have h2 := toInt_nat v
  have l1 : x.toBitVec.toNat < 18446744073709551616 := x.toBitVec.isLt
  have l2 : v.toBitVec.toNat < 4294967296 := v.toBitVec.isLt
  rcases (show k = 0 ∨ k = 1 ∨ k = 2 ∨ k = 3 by omega) with rfl | rfl | rfl | rfl <;> simp only [Nat.reducePow, Nat.pow_zero, Nat.div_one] <;> omega
/-! numbers written highest first -/
theorem whf4 {c i at' : Nat} {S : Mm} (ho : okW false c i = true) (hn : at' + 4 ≤ kn c) (hk : kn c < 50000) (v : Int32) : F_X2_writeHighestFirst c i (nI at') 4 v.toInt64 S = some ((), blk S c i at' 4 (fun k => bt v (3 - k))) := by
  unfold F_X2_writeHighestFirst
  refine loopB (L_X2_writeHighestFirst_3 c i (nI at') 4 v.toInt64) S c i at' 4 (fun k => bt v (3 - k)) (by decide) (fun m j hj => ?_) (fun m => ?_)
  · show L_X2_writeHighestFirst_3 c i (nI at') 4 v.toInt64 (m + 1) (nI j) _ = L_X2_writeHighestFirst_3 c i (nI at') 4 v.toInt64 m (nI (j + 1)) (blk S c i at' (j + 1) _)
    have hs : ∀ j, j < 4 → ((((8 * (((4 : Int32) - 1) - nI j)).toInt64 &&& 63).toBitVec).smod 64).toNat = 8 * (3 - j) := by decide
    rw [L_X2_writeHighestFirst_3, if_neg (show ¬ (4 : Int32) ≤ nI j from nI_ge (b := 4) hj (by decide)), nI_add, stP_n ho (by omega) (by omega), lsh_bt (k := 3 - j) (by omega) _ _ (hs j hj), btL_ext (by omega), nI_1, ← blk_succ]
  · show L_X2_writeHighestFirst_3 c i (nI at') 4 v.toInt64 (m + 1) (nI 4) _ = _
    rw [L_X2_writeHighestFirst_3, if_pos (show (4 : Int32) ≤ nI 4 by decide)]
theorem whf8 {c i at' : Nat} {S : Mm} (ho : okW false c i = true) (hn : at' + 8 ≤ kn c) (hk : kn c < 50000) (v : Int64) : F_X2_writeHighestFirst c i (nI at') 8 v S = some ((), blk S c i at' 8 (fun k => btL v (7 - k))) := by
  unfold F_X2_writeHighestFirst
  refine loopB (L_X2_writeHighestFirst_3 c i (nI at') 8 v) S c i at' 8 (fun k => btL v (7 - k)) (by decide) (fun m j hj => ?_) (fun m => ?_)
  · show L_X2_writeHighestFirst_3 c i (nI at') 8 v (m + 1) (nI j) _ = L_X2_writeHighestFirst_3 c i (nI at') 8 v m (nI (j + 1)) (blk S c i at' (j + 1) _)
    have hs : ∀ j, j < 8 → ((((8 * (((8 : Int32) - 1) - nI j)).toInt64 &&& 63).toBitVec).smod 64).toNat = 8 * (7 - j) := by decide
    rw [L_X2_writeHighestFirst_3, if_neg (show ¬ (8 : Int32) ≤ nI j from nI_ge (b := 8) hj (by decide)), nI_add, stP_n ho (by omega) (by omega), lsh_bt (k := 7 - j) (by omega) _ _ (hs j hj), nI_1, ← blk_succ]
  · show L_X2_writeHighestFirst_3 c i (nI at') 8 v (m + 1) (nI 8) _ = _
    rw [L_X2_writeHighestFirst_3, if_pos (show (8 : Int32) ≤ nI 8 by decide)]
/-! the FCS -/
theorem fcsC {c i n : Nat} {S : Mm} (ho : okW false c i = true) (hn : n + 4 ≤ kn c) (hk : kn c < 50000) : F_X2_writeFcs c i (nI n) S = some ((), blk S c i n 4 (bt (crcN (S.1 c i) n ^^^ (-1)))) := by
  have ho' : okP false c i = true := by unfold okP; unfold okW at ho; rw [ho, Bool.or_true]
  obtain ⟨w1, w2, w3, w4⟩ := okW_of ho
  have er : rdI S c i = S.1 c i := by funext j; unfold rdI; rw [if_neg (by omega)]
  unfold F_X2_writeFcs
  rw [crcC ho' (by omega) hk, cl_eq, er]
  generalize crcN (S.1 c i) n ^^^ (-1) = v
  refine loopB (L_X2_writeFcs_8 c i (nI n) v) S c i n 4 (bt v) (by decide) (fun m j hj => ?_) (fun m => ?_)
  · show L_X2_writeFcs_8 c i (nI n) v (m + 1) (nI j) _ = L_X2_writeFcs_8 c i (nI n) v m (nI (j + 1)) (blk S c i n (j + 1) _)
    rw [L_X2_writeFcs_8, if_neg (show ¬ (4 : Int32) ≤ nI j from nI_ge (b := 4) hj (by decide)), nI_add, stP_n ho (by omega) (by omega), iu_bt hj, nI_1, ← blk_succ]
  · show L_X2_writeFcs_8 c i (nI n) v (m + 1) (nI 4) _ = _
    rw [L_X2_writeFcs_8, if_pos (show (4 : Int32) ≤ nI 4 by decide)]
theorem fcsM {c i at' n : Nat} {S : Mm} (ho : okW true c i = true) (hn : at' + n + 4 ≤ kn c) (hk : kn c < 50000) : F_X12_putCheck c i (nI at') (nI n) S = some ((), blk S c i (at' + n) 4 (bt (crcN (fun k => S.1 c i (at' + k)) n ^^^ (-1)))) := by
  have ho' : okP true c i = true := by unfold okP; unfold okW at ho; rw [ho, Bool.or_true]
  obtain ⟨w1, w2, w3, w4⟩ := okW_of ho
  have er : (fun k => rdI S c i (at' + k)) = fun k => S.1 c i (at' + k) := by funext j; unfold rdI; rw [if_neg (by omega)]
  unfold F_X12_putCheck
  rw [crcM ho' (by omega) hk, cl_eq, er]
  generalize crcN (fun k => S.1 c i (at' + k)) n ^^^ (-1) = v
  refine loopB (L_X12_putCheck_11 c i (nI at') (nI n) v) S c i (at' + n) 4 (bt v) (by decide) (fun m j hj => ?_) (fun m => ?_)
  · show L_X12_putCheck_11 c i (nI at') (nI n) v (m + 1) (nI j) _ = L_X12_putCheck_11 c i (nI at') (nI n) v m (nI (j + 1)) (blk S c i (at' + n) (j + 1) _)
    rw [L_X12_putCheck_11, if_neg (show ¬ (4 : Int32) ≤ nI j from nI_ge (b := 4) hj (by decide)), nI_add, nI_add, stP_n ho (by omega) (by omega), sh_btk hj, nI_1, ← blk_succ]
  · show L_X12_putCheck_11 c i (nI at') (nI n) v (m + 1) (nI 4) _ = _
    rw [L_X12_putCheck_11, if_pos (show (4 : Int32) ≤ nI 4 by decide)]
