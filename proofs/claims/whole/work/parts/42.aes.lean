/-! AES: one block, on both sides -/
def bx (x : Int32) : Int32 := sc 193 x.toNatClampNeg
def tw (x : Int32) : Int32 := (x <<< (1 &&& 31)) ^^^ ((x >>> (7 &&& 31)) * 283)
theorem isB_of {x : Int32} (h : x &&& 255 = x) : isB x := h ▸ and255_B x
theorem bx_B {x : Int32} (h : isB x) : isB (bx x) := by
  obtain ⟨n, hn, rfl⟩ := h
  have hd : ∀ n, n < 256 → (scL 193).getD n 0 &&& 255 = (scL 193).getD n 0 := by decide +kernel
  unfold bx sc
  rw [nI_clamp (by omega)]
  exact isB_of (hd n hn)
theorem tw_B {x : Int32} (h : isB x) : isB (tw x) := by
  obtain ⟨n, hn, rfl⟩ := h
  have hd : ∀ n, n < 256 → tw (nI n) &&& 255 = tw (nI n) := by decide +kernel
  exact isB_of (hd n hn)
theorem twM {x : Int32} {S : Mm} (h : isB x) : F_X12_twice x S = some (tw x, S) := by
  obtain ⟨n, hn, rfl⟩ := h
  have hd : ∀ n, n < 256 → (if nI n <<< (1 &&& 31) ≤ 255 then nI n <<< (1 &&& 31) else (nI n <<< (1 &&& 31)) ^^^ 283) = tw (nI n) := by decide +kernel
  unfold F_X12_twice
  rw [tp_eq, ← hd n hn]
  by_cases h : nI n <<< (1 &&& 31) ≤ 255
  · rw [if_pos h, if_pos h]
  · rw [if_neg h, if_neg h]
theorem tw_xor {a b : Int32} (ha : isB a) (hb : isB b) : tw (a ^^^ b) = tw a ^^^ tw b := by
  have h7 : ∀ n, n < 256 → nI n >>> (7 &&& 31) = 0 ∨ nI n >>> (7 &&& 31) = 1 := by decide +kernel
  have s1 : (a ^^^ b) <<< (1 &&& 31) = (a <<< (1 &&& 31)) ^^^ (b <<< (1 &&& 31)) := by
    apply Int32.toBitVec_inj.mp
    rw [Int32.toBitVec_xor]
    show (a ^^^ b).toBitVec <<< ((1 &&& 31 : Int32).toBitVec.smod 32) = a.toBitVec <<< ((1 &&& 31 : Int32).toBitVec.smod 32) ^^^ b.toBitVec <<< ((1 &&& 31 : Int32).toBitVec.smod 32)
    rw [Int32.toBitVec_xor, BitVec.shiftLeft_eq', BitVec.shiftLeft_eq', BitVec.shiftLeft_eq', BitVec.shiftLeft_xor_distrib]
  have s2 : (a ^^^ b) >>> (7 &&& 31) = (a >>> (7 &&& 31)) ^^^ (b >>> (7 &&& 31)) := by
    apply Int32.toBitVec_inj.mp
    rw [Int32.toBitVec_xor]
    show (a ^^^ b).toBitVec.sshiftRight' ((7 &&& 31 : Int32).toBitVec.smod 32) = a.toBitVec.sshiftRight' ((7 &&& 31 : Int32).toBitVec.smod 32) ^^^ b.toBitVec.sshiftRight' ((7 &&& 31 : Int32).toBitVec.smod 32)
    rw [Int32.toBitVec_xor]
    unfold BitVec.sshiftRight'
    rw [BitVec.sshiftRight_xor_distrib]
  unfold tw
  rw [s1, s2, xor_4]
  congr 1
  obtain ⟨n, hn, rfl⟩ := ha
  obtain ⟨m, hm, rfl⟩ := hb
  rcases h7 n hn with e1 | e1 <;> rcases h7 m hm with e2 | e2 <;> rw [e1, e2] <;> decide
theorem xor_a (a b c : Int32) : (a ^^^ b) ^^^ c = a ^^^ (b ^^^ c) := Int32.xor_assoc a b c
theorem xor_x (a b : Int32) : a ^^^ (a ^^^ b) = b := by rw [← Int32.xor_assoc, Int32.xor_self, Int32.xor_comm, xor_0]
def subF (s : Nat → Int32) (k : Nat) : Int32 := bx (s ((k + 4 * (k % 4)) % 16))
def mixF (u : Nat → Int32) (k : Nat) : Int32 := ((tw (u k) ^^^ tw (u (k / 4 * 4 + (k + 1) % 4))) ^^^ u (k / 4 * 4 + (k + 1) % 4)) ^^^ (u (k / 4 * 4 + (k + 2) % 4) ^^^ u (k / 4 * 4 + (k + 3) % 4))
def rnd (ks : Nat → Int32) (r : Nat) (s : Nat → Int32) (k : Nat) : Int32 := (if r = 10 then subF s k else mixF (subF s) k) ^^^ ks (16 * r + k)
def aes (ks s : Nat → Int32) : Nat → Nat → Int32
  | 0 => fun k => s k ^^^ ks k
  | r + 1 => rnd ks (r + 1) (aes ks s r)
theorem mix_eq {u : Nat → Int32} {k : Nat} (hk : k < 16) (hu : ∀ k, k < 16 → isB (u k)) : (u k ^^^ (((u (k / 4 * 4) ^^^ u (k / 4 * 4 + 1)) ^^^ u (k / 4 * 4 + 2)) ^^^ u (k / 4 * 4 + 3))) ^^^ tw (u k ^^^ u (k / 4 * 4 + (k + 1) % 4)) = mixF u k := by
  unfold mixF
  rw [tw_xor (hu k hk) (hu _ (by omega)), Int32.xor_comm _ (tw (u k) ^^^ tw (u (k / 4 * 4 + (k + 1) % 4))), xor_a (tw (u k) ^^^ tw (u (k / 4 * 4 + (k + 1) % 4)))]
  congr 1
  rcases (show k % 4 = 0 ∨ k % 4 = 1 ∨ k % 4 = 2 ∨ k % 4 = 3 by omega) with h | h | h | h
  · rw [show (k + 1) % 4 = 1 by omega, show (k + 2) % 4 = 2 by omega, show (k + 3) % 4 = 3 by omega, show u k = u (k / 4 * 4) from congrArg u (by omega), xor_a, xor_a, xor_x]
  · rw [show (k + 1) % 4 = 2 by omega, show (k + 2) % 4 = 3 by omega, show (k + 3) % 4 = 0 by omega, show u k = u (k / 4 * 4 + 1) from congrArg u (by omega), Int32.xor_comm (u (k / 4 * 4)) (u (k / 4 * 4 + 1)), xor_a, xor_a, xor_x, Int32.xor_comm (u (k / 4 * 4)), xor_a]
    rfl
  · rw [show (k + 1) % 4 = 3 by omega, show (k + 2) % 4 = 0 by omega, show (k + 3) % 4 = 1 by omega, show u k = u (k / 4 * 4 + 2) from congrArg u (by omega), Int32.xor_comm (u (k / 4 * 4) ^^^ u (k / 4 * 4 + 1)), xor_a, xor_x, Int32.xor_comm]
    rfl
  · rw [show (k + 1) % 4 = 0 by omega, show (k + 2) % 4 = 1 by omega, show (k + 3) % 4 = 2 by omega, show u k = u (k / 4 * 4 + 3) from congrArg u (by omega), Int32.xor_comm _ (u (k / 4 * 4 + 3)), xor_x, xor_a]
    rfl
theorem subF_B {s : Nat → Int32} (h : ∀ k, k < 16 → isB (s k)) {k : Nat} : isB (subF s k) := bx_B (h _ (by omega))
theorem mixF_B {u : Nat → Int32} (h : ∀ k, k < 16 → isB (u k)) {k : Nat} (hk : k < 16) : isB (mixF u k) := isB_xor (isB_xor (isB_xor (tw_B (h k hk)) (tw_B (h _ (by omega)))) (h _ (by omega))) (isB_xor (h _ (by omega)) (h _ (by omega)))
theorem rnd_B {ks s : Nat → Int32} {r : Nat} (hr : r ≤ 10) (hk : ∀ k, k < 176 → isB (ks k)) (h : ∀ k, k < 16 → isB (s k)) {k : Nat} (h16 : k < 16) : isB (rnd ks r s k) := by
  unfold rnd
  refine isB_xor ?_ (hk _ (by omega))
  by_cases e : r = 10
  · rw [if_pos e]
    exact subF_B h
  · rw [if_neg e]
    exact mixF_B (fun k _ => subF_B h) h16
theorem aes_B {ks s : Nat → Int32} (hk : ∀ k, k < 176 → isB (ks k)) (h : ∀ k, k < 16 → isB (s k)) : ∀ r, r ≤ 10 → ∀ k, k < 16 → isB (aes ks s r k) := by
  intro r
  induction r with
  | zero => intro _ k h16; exact isB_xor (h k h16) (hk k (by omega))
  | succ r ih => intro hr k h16; exact rnd_B hr hk (ih (by omega)) h16
theorem subF_congr {s s' : Nat → Int32} (h : ∀ k, k < 16 → s k = s' k) (k : Nat) : subF s k = subF s' k := by
  unfold subF
  rw [h _ (by omega)]
theorem rnd_congr {ks ks' s s' : Nat → Int32} {r : Nat} (hr : r ≤ 10) (hk : ∀ k, k < 176 → ks k = ks' k) (h : ∀ k, k < 16 → s k = s' k) {k : Nat} (h16 : k < 16) : rnd ks r s k = rnd ks' r s' k := by
  unfold rnd mixF
  rw [hk _ (by omega)]
  simp only [subF_congr h]
theorem aes_congr {ks ks' s s' : Nat → Int32} (hk : ∀ k, k < 176 → ks k = ks' k) (h : ∀ k, k < 16 → s k = s' k) : ∀ r, r ≤ 10 → ∀ k, k < 16 → aes ks s r k = aes ks' s' r k := by
  intro r
  induction r with
  | zero => intro _ k h16; show _ ^^^ _ = _ ^^^ _; rw [h k h16, hk k (by omega)]
  | succ r ih => intro hr k h16; exact rnd_congr hr hk (ih (by omega)) h16
/-- one round of the class -/
theorem ldB {β : Type} {S : Mm} {x : Int32} {K : Int32 → Option β} (h : isB x) : ldP false S 193 0 (x &&& 255) K = K (bx x) := by
  rw [isB_and h]
  obtain ⟨n, hn, rfl⟩ := h
  rw [ldP_n (by decide) (show n < kn 193 from hn) (by decide)]
  unfold bx
  rw [nI_clamp (by omega)]
  rfl
theorem rndC {c : Nat} {S : Mm} {r : Nat} {k28 : Int32 → Mm → Option (Unit × Mm)} (ho : okW false c 0 = true) (hkn : kn c = 16) (hc : c ∉ [14, 15]) (hr : r ≤ 10) (hb : ∀ k, k < 16 → isB (S.1 c 0 k)) :
    L_X0_encrypt_36 k28 c 0 (nI r) fu 0 S = k28 (nI (r + 1)) (blk (blk S 14 0 0 16 (subF (S.1 c 0))) c 0 0 16 (rnd (S.1 15 0) r (S.1 c 0))) := by
  have c14 : ¬ c = 14 := fun e => hc (by rw [e]; decide)
  have c15 : ¬ 15 = c := fun e => hc (by rw [← e]; decide)
  have c14' : ¬ 14 = c := fun e => c14 e.symm
  obtain ⟨w1, w2, w3, w4⟩ := okW_of ho
  have rd : ∀ T : Mm, rdI T c 0 = T.1 c 0 := fun T => by funext j; exact if_neg (by omega)
  have ho' : okP false c 0 = true := by unfold okP; unfold okW at ho; rw [ho, Bool.or_true]
  refine loopB (L_X0_encrypt_36 k28 c 0 (nI r)) S 14 0 0 16 (subF (S.1 c 0)) (by decide) (fun m j hj => ?_) (fun m => ?_)
  · have hi : ∀ j, j < 16 → (nI j + 4 * (nI j &&& 3)) &&& 15 = nI ((j + 4 * (j % 4)) % 16) := by decide
    rw [L_X0_encrypt_36, if_neg (show ¬ (16 : Int32) ≤ nI j from nI_ge (b := 16) hj (by decide)), hi j hj, ldP_n ho' (by omega) (by omega), rd, blk_ne c14, ldB (hb _ (by omega)), stA_n (by decide) hj (by decide), nI_1, ← blk_succ, Nat.zero_add]
    rfl
  · rw [L_X0_encrypt_36, if_pos (show (16 : Int32) ≤ nI 16 by decide)]
    generalize hT : blk S 14 0 0 16 (subF (S.1 c 0)) = T
    have t14 : ∀ k, k < 16 → T.1 14 0 k = subF (S.1 c 0) k := fun k hk => by rw [← hT, blk_in (by omega) (by omega), Nat.sub_zero]
    have t15 : T.1 15 = S.1 15 := by rw [← hT, blk_ne (by decide)]
    have sB : ∀ k, k < 16 → isB (subF (S.1 c 0) k) := fun k _ => subF_B hb
    refine loopB (L_X0_encrypt_76 k28 c 0 (nI r)) T c 0 0 16 (rnd (S.1 15 0) r (S.1 c 0)) (by decide) (fun m j hj => ?_) (fun m => ?_)
    · have e14 : ∀ n, n < 16 → (blk T c 0 0 j (rnd (S.1 15 0) r (S.1 c 0))).1 14 0 n = subF (S.1 c 0) n := fun n hn => by rw [blk_ne c14']; exact t14 n hn
      have e15 : (blk T c 0 0 j (rnd (S.1 15 0) r (S.1 c 0))).1 15 0 (16 * r + j) = S.1 15 0 (16 * r + j) := by rw [blk_ne c15, t15]
      have hi1 : ∀ j, j < 16 → nI j &&& 12 = nI (j / 4 * 4) := by decide
      have hi2 : ∀ j, j < 16 → nI (j / 4 * 4) ||| (nI (j + 1) &&& 3) = nI (j / 4 * 4 + (j + 1) % 4) := by decide
      rw [L_X0_encrypt_76, if_neg (show ¬ (16 : Int32) ≤ nI j from nI_ge (b := 16) hj (by decide)), ldA_n (by decide) hj (by decide), ← blk_succ, Nat.zero_add, e14 j hj, nI_1]
      unfold L_X0_encrypt_181
      rw [show (16 : Int32) * nI r = nI (16 * r) from pk_mul 16 r, nI_add, hi1 j hj]
      by_cases h10 : r = 10
      · rw [if_pos (show (10 : Int32) ≤ nI r by rw [h10]; decide), ldA_n (by decide) (by omega) (by decide), stP_n ho (by omega) (by omega), e15, show rnd (S.1 15 0) r (S.1 c 0) j = subF (S.1 c 0) j ^^^ S.1 15 0 (16 * r + j) from by unfold rnd; rw [if_pos h10], nI_1]
      · rw [if_neg (show ¬ (10 : Int32) ≤ nI r from nI_ge (b := 10) (by omega) (by decide)), tp_eq, hi2 j hj, ldA_n (by decide) (by omega) (by decide), tp_eq, ldA_n (by decide) (by omega) (by decide), nI_1, ldA_n (by decide) (by omega) (by decide), show nI (j / 4 * 4) + 2 = nI (j / 4 * 4 + 2) from nI_add _ 2, ldA_n (by decide) (by omega) (by decide), show nI (j / 4 * 4) + 3 = nI (j / 4 * 4 + 3) from nI_add _ 3, ldA_n (by decide) (by omega) (by decide), tp_eq, tp_eq, ldA_n (by decide) (by omega) (by decide), stP_n ho (by omega) (by omega), e15, e14 _ (by omega), e14 _ (by omega), e14 _ (by omega), e14 _ (by omega), e14 _ (by omega), show rnd (S.1 15 0) r (S.1 c 0) j = mixF (subF (S.1 c 0)) j ^^^ S.1 15 0 (16 * r + j) from by unfold rnd; rw [if_neg h10], ← mix_eq hj sB, nI_1]
        rfl
    · rw [L_X0_encrypt_76, if_pos (show (16 : Int32) ≤ nI 16 by decide), nI_1]
theorem gt10 {j : Nat} (h : j ≤ 10) : ¬ (10 : Int32) < nI j := Int32.not_lt.mpr (show nI j ≤ nI 10 from nI_le h (by decide))
theorem encC {c : Nat} {S : Mm} (ho : okW false c 0 = true) (hkn : kn c = 16) (hc : c ∉ [14, 15]) (hb : ∀ k, k < 16 → isB (S.1 c 0 k)) (hk : ∀ k, k < 176 → isB (S.1 15 0 k)) :
    ∃ S', F_X0_encrypt c 0 S = some ((), S') ∧ fr [c, 14] S S' ∧ ∀ k, k < 16 → S'.1 c 0 k = aes (S.1 15 0) (S.1 c 0) 10 k := by
  have c15 : ¬ 15 = c := fun e => hc (by rw [← e]; decide)
  obtain ⟨w1, w2, w3, w4⟩ := okW_of ho
  have rd : ∀ T : Mm, rdI T c 0 = T.1 c 0 := fun T => by funext j; exact if_neg (by omega)
  have ho' : okP false c 0 = true := by unfold okP; unfold okW at ho; rw [ho, Bool.or_true]
  unfold F_X0_encrypt
  have h2 : L_X0_encrypt_2 c 0 fu 0 S = L_X0_encrypt_28 c 0 fu 1 (blk S c 0 0 16 (fun k => S.1 c 0 k ^^^ S.1 15 0 k)) := by
    refine loopB (L_X0_encrypt_2 c 0) S c 0 0 16 (fun k => S.1 c 0 k ^^^ S.1 15 0 k) (by decide) (fun m j hj => ?_) (fun m => ?_)
    · rw [L_X0_encrypt_2, if_neg (show ¬ (16 : Int32) ≤ nI j from nI_ge (b := 16) hj (by decide)), ldP_n ho' (by omega) (by omega), ldA_n (by decide) (by omega) (by decide), stP_n ho (by omega) (by omega), rd, blk_out (by omega), blk_ne c15, nI_1, ← blk_succ, Nat.zero_add]
    · rw [L_X0_encrypt_2, if_pos (show (16 : Int32) ≤ nI 16 by decide)]
  rw [h2]
  refine loopR (L_X0_encrypt_28 c 0) (fun o => ∃ S', o = some ((), S') ∧ fr [c, 14] S S' ∧ ∀ k, k < 16 → S'.1 c 0 k = aes (S.1 15 0) (S.1 c 0) 10 k) (fun r T => fr [c, 14] S T ∧ ∀ k, k < 16 → T.1 c 0 k = aes (S.1 15 0) (S.1 c 0) (r - 1) k) 1 11 (by decide) (by decide) (fun m r T h1 hr hT hk2 => ?_) (fun m T hT => ?_) _ ⟨fr.bk (by simp), fun k hk => by rw [blk_in (by omega) (by omega), Nat.sub_zero]; rfl⟩
  · obtain ⟨fT, vT⟩ := hT
    have t15 : T.1 15 = S.1 15 := fT.1 15 (by simp; exact c15)
    have tB := aes_B hk hb (r - 1) (by omega)
    rw [L_X0_encrypt_28, if_neg (gt10 (by omega)), rndC ho hkn hc (by omega) (fun k hk => by rw [vT k hk]; exact tB k hk)]
    refine hk2 _ ⟨fT.tr ((fr.bk (by simp)).tr (fr.bk (by simp))), fun k hk => ?_⟩
    rw [blk_in (by omega) (by omega), Nat.sub_zero, t15, rnd_congr (s' := aes (S.1 15 0) (S.1 c 0) (r - 1)) (by omega) (fun _ _ => rfl) vT hk, show r + 1 - 1 = (r - 1) + 1 by omega]
    show _ = rnd _ (r - 1 + 1) _ k
    rw [show r - 1 + 1 = r by omega]
  · rw [L_X0_encrypt_28, if_pos (show (10 : Int32) < nI 11 by decide)]
    exact ⟨T, rfl, hT.1, hT.2⟩
/-- the reference -/
def boxd (S : Mm) : Prop := ∀ n, n < 256 → S.1 207 0 n = sc 193 n
theorem ldBM {β : Type} {S : Mm} {x : Int32} {K : Int32 → Option β} (hx : boxd S) (h : isB x) : ldA S 207 0 256 1 x K = K (bx x) := by
  obtain ⟨n, hn, rfl⟩ := h
  rw [ldA_n (by decide) hn (by decide), hx n hn]
  unfold bx
  rw [nI_clamp (by omega)]
theorem rndM {S : Mm} {r : Nat} {k35 : Int32 → Mm → Option (Unit × Mm)} (hx : boxd S) (hr : r ≤ 10) (hb : ∀ k, k < 16 → isB (S.1 209 0 k)) :
    L_X12_encipher_43 k35 (nI r) fu 0 S = k35 (nI (r + 1)) (blk (blk S 210 0 0 16 (subF (S.1 209 0))) 209 0 0 16 (rnd (S.1 208 0) r (S.1 209 0))) := by
  refine loopB (L_X12_encipher_43 k35 (nI r)) S 210 0 0 16 (subF (S.1 209 0)) (by decide) (fun m j hj => ?_) (fun m => ?_)
  · have hi : ∀ j, j < 16 → (nI j + (4 * (nI j - nI j / 4 * 4))) - (nI j + (4 * (nI j - nI j / 4 * 4))) / 16 * 16 = nI ((j + 4 * (j % 4)) % 16) := by decide
    rw [L_X12_encipher_43, if_neg (show ¬ (16 : Int32) ≤ nI j from nI_ge (b := 16) hj (by decide)), hi j hj, ldA_n (by decide) (by omega) (by decide), blk_ne (by decide : ¬ 209 = 210), ldBM (fun n hn => by rw [blk_ne (by decide)]; exact hx n hn) (hb _ (by omega)), stA_n (by decide) hj (by decide), nI_1, ← blk_succ, Nat.zero_add]
    rfl
  · rw [L_X12_encipher_43, if_pos (show (16 : Int32) ≤ nI 16 by decide)]
    generalize hT : blk S 210 0 0 16 (subF (S.1 209 0)) = T
    have t14 : ∀ k, k < 16 → T.1 210 0 k = subF (S.1 209 0) k := fun k hk => by rw [← hT, blk_in (by omega) (by omega), Nat.sub_zero]
    have t15 : T.1 208 = S.1 208 := by rw [← hT, blk_ne (by decide)]
    have sB : ∀ k, k < 16 → isB (subF (S.1 209 0) k) := fun k _ => subF_B hb
    have hin : ∀ k83 q, q < 4 → L_X12_encipher_91 k35 k83 (nI r) (nI (4 * q)) fu 0 (blk T 209 0 0 (4 * q) (rnd (S.1 208 0) r (S.1 209 0))) = k83 (nI (4 * (q + 1))) (blk T 209 0 0 (4 * (q + 1)) (rnd (S.1 208 0) r (S.1 209 0))) := by
      intro k83 q hq
      refine loopA (L_X12_encipher_91 k35 k83 (nI r) (nI (4 * q))) 0 4 (fun j => blk T 209 0 0 (4 * q + j) (rnd (S.1 208 0) r (S.1 209 0))) (by decide) (by decide) (fun m j _ hj => ?_) (fun m => ?_)
      · have e14 : ∀ n, n < 16 → (blk T 209 0 0 (4 * q + j) (rnd (S.1 208 0) r (S.1 209 0))).1 210 0 n = subF (S.1 209 0) n := fun n hn => by rw [blk_ne (by decide)]; exact t14 n hn
        have e15 : (blk T 209 0 0 (4 * q + j) (rnd (S.1 208 0) r (S.1 209 0))).1 208 0 (16 * r + 4 * q + j) = S.1 208 0 (16 * r + (4 * q + j)) := by rw [blk_ne (by decide), t15, Nat.add_assoc]
        have i1 : ∀ j, j < 4 → (nI j + 1) - (nI j + 1) / 4 * 4 = nI ((j + 1) % 4) := by decide
        have i2 : ∀ j, j < 4 → (nI j + 2) - (nI j + 2) / 4 * 4 = nI ((j + 2) % 4) := by decide
        have i3 : ∀ j, j < 4 → (nI j + 3) - (nI j + 3) / 4 * 4 = nI ((j + 3) % 4) := by decide
        rw [L_X12_encipher_91, if_neg (show ¬ (4 : Int32) ≤ nI j from nI_ge (b := 4) hj (by decide)), i1 j hj, i2 j hj, i3 j hj, nI_add, nI_add, nI_add, nI_add, ldA_n (by decide) (by omega) (by decide), ldA_n (by decide) (by omega) (by decide), ldA_n (by decide) (by omega) (by decide), ldA_n (by decide) (by omega) (by decide), tp_eq, e14 _ (by omega), e14 _ (by omega), e14 _ (by omega), e14 _ (by omega), show 4 * q + (j + 1) = (4 * q + j) + 1 by omega, ← blk_succ, Nat.zero_add]
        unfold L_X12_encipher_182
        rw [show (16 : Int32) * nI r = nI (16 * r) from pk_mul 16 r, nI_add, nI_add]
        by_cases h10 : r = 10
        · rw [if_pos (show nI r = 10 by rw [h10]; rfl), ldA_n (by decide) (by omega) (by decide), stA_n (by decide) (by omega) (by decide), e15, show rnd (S.1 208 0) r (S.1 209 0) (4 * q + j) = subF (S.1 209 0) (4 * q + j) ^^^ S.1 208 0 (16 * r + (4 * q + j)) from by unfold rnd; rw [if_pos h10], nI_1]
        · rw [if_neg (show ¬ nI r = 10 from fun z => h10 ((nI_eq (b := 10) (by omega) (by decide)).mp z)), twM (sB _ (by omega)), cl_eq, twM (sB _ (by omega)), cl_eq, ldA_n (by decide) (by omega) (by decide), stA_n (by decide) (by omega) (by decide), e15, show rnd (S.1 208 0) r (S.1 209 0) (4 * q + j) = mixF (subF (S.1 209 0)) (4 * q + j) ^^^ S.1 208 0 (16 * r + (4 * q + j)) from by unfold rnd; rw [if_neg h10], nI_1]
          unfold mixF
          rw [show (4 * q + j) / 4 * 4 + (4 * q + j + 1) % 4 = 4 * q + (j + 1) % 4 by omega, show (4 * q + j) / 4 * 4 + (4 * q + j + 2) % 4 = 4 * q + (j + 2) % 4 by omega, show (4 * q + j) / 4 * 4 + (4 * q + j + 3) % 4 = 4 * q + (j + 3) % 4 by omega]
      · rw [L_X12_encipher_91, if_pos (show (4 : Int32) ≤ nI 4 by decide), show nI (4 * q) + 4 = nI (4 * q + 4) from nI_add _ 4]
        rfl
    have h := loop0 (r := k35 (nI (r + 1)) (blk T 209 0 0 16 (rnd (S.1 208 0) r (S.1 209 0)))) (fun m (q : Int32 × Mm) => L_X12_encipher_83 k35 (nI r) m q.1 q.2) (fun q => (nI (4 * q), blk T 209 0 0 (4 * q) (rnd (S.1 208 0) r (S.1 209 0)))) 4 (by decide) (fun m q hq => ?_) (fun m => ?_)
    · dsimp only at h
      rw [Nat.mul_zero, blk_0] at h
      exact h
    · dsimp only
      rw [L_X12_encipher_83, if_neg (show ¬ (16 : Int32) ≤ nI (4 * q) from nI_ge (b := 16) (by omega) (by decide)), hin _ q hq]
    · dsimp only
      rw [L_X12_encipher_83, if_pos (show (16 : Int32) ≤ nI (4 * 4) by decide), nI_1]
theorem encM {S : Mm} (hx : boxd S) (hb : ∀ k, k < 16 → isB (S.1 209 0 k)) (hk : ∀ k, k < 176 → isB (S.1 208 0 k)) :
    ∃ S', F_X12_encipher S = some ((), S') ∧ fr [209, 210] S S' ∧ ∀ k, k < 16 → S'.1 209 0 k = aes (S.1 208 0) (S.1 209 0) 10 k := by
  unfold F_X12_encipher
  have h2 : L_X12_encipher_2 fu 0 S = L_X12_encipher_35 fu 1 (blk S 209 0 0 16 (fun k => S.1 209 0 k ^^^ S.1 208 0 k)) := by
    refine loopB L_X12_encipher_2 S 209 0 0 16 (fun k => S.1 209 0 k ^^^ S.1 208 0 k) (by decide) (fun m j hj => ?_) (fun m => ?_)
    · rw [L_X12_encipher_2, if_neg (show ¬ (16 : Int32) ≤ nI j from nI_ge (b := 16) hj (by decide)), ldA_n (by decide) hj (by decide), ldA_n (by decide) (by omega) (by decide), stA_n (by decide) hj (by decide), blk_out (by omega), blk_ne (by decide), nI_1, ← blk_succ, Nat.zero_add]
    · rw [L_X12_encipher_2, if_pos (show (16 : Int32) ≤ nI 16 by decide)]
  rw [h2]
  refine loopR L_X12_encipher_35 (fun o => ∃ S', o = some ((), S') ∧ fr [209, 210] S S' ∧ ∀ k, k < 16 → S'.1 209 0 k = aes (S.1 208 0) (S.1 209 0) 10 k) (fun r T => fr [209, 210] S T ∧ ∀ k, k < 16 → T.1 209 0 k = aes (S.1 208 0) (S.1 209 0) (r - 1) k) 1 11 (by decide) (by decide) (fun m r T h1 hr hT hk2 => ?_) (fun m T hT => ?_) _ ⟨fr.bk (by decide), fun k hk => by rw [blk_in (by omega) (by omega), Nat.sub_zero]; rfl⟩
  · obtain ⟨fT, vT⟩ := hT
    have t15 : T.1 208 = S.1 208 := fT.1 208 (by decide)
    have tB := aes_B hk hb (r - 1) (by omega)
    rw [L_X12_encipher_35, if_neg (gt10 (by omega)), rndM (fun n hn => by rw [fT.1 207 (by decide)]; exact hx n hn) (by omega) (fun k hk => by rw [vT k hk]; exact tB k hk)]
    refine hk2 _ ⟨fT.tr ((fr.bk (by decide)).tr (fr.bk (by decide))), fun k hk => ?_⟩
    rw [blk_in (by omega) (by omega), Nat.sub_zero, t15, rnd_congr (s' := aes (S.1 208 0) (S.1 209 0) (r - 1)) (by omega) (fun _ _ => rfl) vT hk, show r + 1 - 1 = (r - 1) + 1 by omega]
    show _ = rnd _ (r - 1 + 1) _ k
    rw [show r - 1 + 1 = r by omega]
  · rw [L_X12_encipher_35, if_pos (show (10 : Int32) < nI 11 by decide)]
    exact ⟨T, rfl, hT.1, hT.2⟩
