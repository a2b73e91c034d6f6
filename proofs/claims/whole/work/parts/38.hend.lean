theorem padF_pad (g : Nat → Int32) (n : Nat) : padF g n n = 128 := by unfold padF; rw [if_neg (by omega), if_pos rfl]
theorem padF_lo {g : Nat → Int32} {n j : Nat} (h : j < n) : padF g n j = g j := by unfold padF; rw [if_pos h]
theorem padF_0 {g : Nat → Int32} {n j : Nat} (h : n < j) (h2 : j < 64 * nbk n - 8) : padF g n j = 0 := by unfold padF; rw [if_neg (by omega), if_neg (by omega), if_pos h2]
theorem padF_hi {g : Nat → Int32} {n j : Nat} (h : n < 64 * nbk n - 8) : padF g n (64 * nbk n - 8 + j) = btL (lN (8 * n)) (7 - j) := by
  unfold padF
  rw [if_neg (by omega), if_neg (by omega), if_neg (by omega), Nat.add_sub_cancel_left]
/-- the digest out of the five numbers, the reference -/
theorem digM {S : Mm} : L_X12_hashEnd_59 fu 0 S = some ((), blk S 204 0 0 20 (fun k => bt (S.1 201 0 (k / 4)) (3 - k % 4))) := by
  refine loopB L_X12_hashEnd_59 S 204 0 0 20 (fun k => bt (S.1 201 0 (k / 4)) (3 - k % 4)) (by decide) (fun m j hj => ?_) (fun m => ?_)
  · have hs : ∀ k, k < 20 → ((((24 - (8 * (nI k - nI k / 4 * 4))) &&& 31).toBitVec).smod 32).toNat = 8 * (3 - k % 4) := by decide
    rw [L_X12_hashEnd_59, if_neg (show ¬ (20 : Int32) ≤ nI j from nI_ge (b := 20) hj (by decide)), show nI j / 4 = nI (j / 4) from pk_div (d := 4) (by omega) (by decide) (by decide), ldA_n (by decide) (by omega) (by decide), stA_n (by decide) (by omega) (by decide), nI_1, blk_ne (by decide : ¬ 201 = 204), ← blk_succ, Nat.zero_add]
    rw [← show nI j / 4 = nI (j / 4) from pk_div (d := 4) (by omega) (by decide) (by decide), sh_bt (k := 3 - j % 4) (by omega) _ _ (hs j hj)]
  · rw [L_X12_hashEnd_59, if_pos (show (20 : Int32) ≤ nI 20 by decide)]
theorem hendM {S : Mm} {g : Nat → Int32} {n : Nat} (hn : n < 10000) (hs : str S (padF g n) n) : ∃ S', F_X12_hashEnd S = some ((), S') ∧ fr (204 :: hL) S S' ∧ ∀ j, j < 20 → S'.1 204 0 j = dgst g n j := by
  have hnb : nbk n = (n + 8) / 64 + 1 := rfl
  unfold F_X12_hashEnd
  rw [gl_eq, hs.2.1, tp_eq, show (8 : Int64) * lN n = lN (8 * n) from lN_mul 8 n]
  obtain ⟨S4, e4, s4, f4⟩ := hash1 (v := 128) hs (by rw [padF_pad]; rfl)
  rw [e4, cl_eq]
  -- zeros
  obtain ⟨st, a0, as, aP⟩ := run_ex (P := fun p T => str T (padF g n) p ∧ fr hL S4 T) (step := fun p T T' => T.1 289 0 0 = nI (p % 64) ∧ F_X12_hash 0 T = some ((), T')) (n + 1) S4 ⟨s4, fr.rf⟩ (64 * nbk n - 8) (by omega) (fun p T h1 h2 hT => by
    obtain ⟨T', t1, t2, t3⟩ := hash1 (v := 0) hT.1 (by rw [padF_0 (by omega) h2]; rfl)
    exact ⟨T', ⟨hT.1.1, t1⟩, t2, hT.2.tr t3⟩)
  -- the length
  obtain ⟨sl, b0, bs, bP⟩ := run_ex (P := fun p T => str T (padF g n) (64 * nbk n - 8 + p) ∧ fr hL S4 T) (step := fun p T T' => F_X12_hash (Int64.toInt32 (lN (8 * n) >>> (Int32.toInt64 (8 * nI (7 - p)) &&& 63))) T = some ((), T')) 0 (st (64 * nbk n - 8)) aP 8 (by omega) (fun p T _ hp hT => by
    have hsh : ∀ k, k < 8 → (((Int32.toInt64 (8 * nI k) &&& 63).toBitVec).smod 64).toNat = 8 * k := by decide
    obtain ⟨T', t1, t2, t3⟩ := hash1 (v := Int64.toInt32 (lN (8 * n) >>> (Int32.toInt64 (8 * nI (7 - p)) &&& 63))) hT.1 (by rw [lsh_bt (k := 7 - p) (by omega) _ _ (hsh _ (by omega))]; exact padF_hi (by omega))
    exact ⟨T', t1, t2, hT.2.tr t3⟩)
  have hlen : L_X12_hashEnd_36 (lN (8 * n)) fu 7 (st (64 * nbk n - 8)) = some ((), blk (sl 8) 204 0 0 20 (fun k => bt ((sl 8).1 201 0 (k / 4)) (3 - k % 4))) := by
    have h := loop0 (r := some ((), blk (sl 8) 204 0 0 20 (fun k => bt ((sl 8).1 201 0 (k / 4)) (3 - k % 4)))) (fun m (q : Int32 × Mm) => L_X12_hashEnd_36 (lN (8 * n)) m q.1 q.2) (fun j => (nI 7 - nI j, sl j)) 8 (by decide) (fun m j hj => ?_) (fun m => ?_)
    · rw [← b0, show (7 : Int32) = nI 7 - nI 0 from rfl]
      exact h
    · show L_X12_hashEnd_36 (lN (8 * n)) (m + 1) (nI 7 - nI j) (sl j) = L_X12_hashEnd_36 (lN (8 * n)) m (nI 7 - nI (j + 1)) (sl (j + 1))
      rw [L_X12_hashEnd_36, dn1, show nI 7 - nI j = nI (7 - j) from pk_sub (by omega), if_neg (nI_pos (by omega)), bs j (Nat.zero_le _) hj, cl_eq]
    · show L_X12_hashEnd_36 (lN (8 * n)) (m + 1) (nI 7 - nI 8) (sl 8) = _
      rw [L_X12_hashEnd_36, if_pos (pk_sneg (by omega) (by omega)), digM]
  refine ⟨blk (sl 8) 204 0 0 20 (fun k => bt ((sl 8).1 201 0 (k / 4)) (3 - k % 4)), ?_, ?_, fun j hj => ?_⟩
  · have h := loop0 (r := some ((), blk (sl 8) 204 0 0 20 (fun k => bt ((sl 8).1 201 0 (k / 4)) (3 - k % 4)))) (fun m (q : Mm) => L_X12_hashEnd_16 (lN (8 * n)) m q) (fun j => st (n + 1 + j)) (64 * nbk n - 8 - (n + 1)) (by omega) (fun m j hj => ?_) (fun m => ?_)
    · rw [← a0]
      exact h
    · show L_X12_hashEnd_16 (lN (8 * n)) (m + 1) (st (n + 1 + j)) = L_X12_hashEnd_16 (lN (8 * n)) m (st (n + 1 + (j + 1)))
      obtain ⟨z1, z2⟩ := as (n + 1 + j) (by omega) (by omega)
      rw [L_X12_hashEnd_16, gf_eq, z1, if_neg (show ¬ nI ((n + 1 + j) % 64) = 56 from fun q => by have := (nI_eq (b := 56) (by omega) (by decide)).mp q; omega), z2, cl_eq]
      rfl
    · show L_X12_hashEnd_16 (lN (8 * n)) (m + 1) (st (n + 1 + (64 * nbk n - 8 - (n + 1)))) = _
      rw [show n + 1 + (64 * nbk n - 8 - (n + 1)) = 64 * nbk n - 8 by omega, L_X12_hashEnd_16, gf_eq, aP.1.1, if_pos (by rw [show (64 * nbk n - 8) % 64 = 56 by omega]; rfl), hlen]
  · exact (f4.up (by decide)).tr ((bP.2.up (by decide)).tr (fr.bk (by decide)))
  · rw [blk_in (by omega) (by omega), Nat.sub_zero]
    unfold dgst
    rw [bP.1.2.2.1 _ (by omega), show (64 * nbk n - 8 + 8) / 64 = nbk n by omega]
theorem isB_xor {a b : Int32} (ha : isB a) (hb : isB b) : isB (a ^^^ b) := by
  have h : (a ^^^ b) &&& 255 = a ^^^ b := by
    apply Int32.toBitVec_inj.mp
    have h1 := congrArg Int32.toBitVec (isB_and ha)
    have h2 := congrArg Int32.toBitVec (isB_and hb)
    simp only [Int32.toBitVec_xor, Int32.toBitVec_and] at h1 h2 ⊢
    rw [← h1, ← h2]
    apply BitVec.eq_of_getLsbD_eq
    intro i hi
    simp only [BitVec.getLsbD_xor, BitVec.getLsbD_and]
    cases a.toBitVec.getLsbD i <;> cases b.toBitVec.getLsbD i <;> cases (Int32.toBitVec 255).getLsbD i <;> rfl
  rw [← h]
  exact and255_B _
/-- a row of bytes hashed by a loop -/
theorem hrunM {S : Mm} {f : Nat → Int32} {n N : Nat} {v : Nat → Int32} (L : Nat → Int32 → Mm → Option (Unit × Mm)) {r : Option (Unit × Mm) → Prop} (hs : str S f n) (hN : N < 10000) (hv : ∀ j, j < N → f (n + j) = v j &&& 255) (hL1 : ∀ m j T T', j < N → fr hL S T → F_X12_hash (v j) T = some ((), T') → L (m + 1) (nI j) T = L m (nI (j + 1)) T') (hx : ∀ m T, str T f (n + N) → fr hL S T → r (L (m + 1) (nI N) T)) : r (L fu 0 S) := by
  obtain ⟨st, a0, as, aP⟩ := run_ex (P := fun p T => str T f (n + p) ∧ fr hL S T) (step := fun p T T' => fr hL S T ∧ F_X12_hash (v p) T = some ((), T')) 0 S ⟨hs, fr.rf⟩ N (Nat.zero_le _) (fun p T _ hp hT => by
    obtain ⟨T', t1, t2, t3⟩ := hash1 (v := v p) hT.1 (hv p hp)
    exact ⟨T', ⟨hT.2, t1⟩, t2, hT.2.tr t3⟩)
  obtain ⟨m0, hm0⟩ := fu_n (N := N) (by omega)
  have key : ∀ k, k ≤ N → ∀ m, L (m + k) (nI (N - k)) (st (N - k)) = L m (nI N) (st N) := by
    intro k
    induction k with
    | zero => intro _ m; rfl
    | succ k ih =>
      intro hk m
      obtain ⟨z1, z2⟩ := as (N - (k + 1)) (Nat.zero_le _) (by omega)
      rw [← Nat.add_assoc, hL1 (m + k) (N - (k + 1)) _ _ (by omega) z1 z2, show N - (k + 1) + 1 = N - k by omega]
      exact ih (by omega) m
  have h := key N (Nat.le_refl _) (m0 + 1)
  rw [Nat.sub_self, show m0 + 1 + N = fu by omega, a0] at h
  have h2 := hx m0 (st N) aP.1 aP.2
  rw [← h] at h2
  exact h2
