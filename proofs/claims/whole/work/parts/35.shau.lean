/-- SHA-1 of the n bytes that stand in the class's text -/
theorem textC {S : Mm} {n : Nat} (hn : n ≤ 247) : ∃ S', F_X10_hashText (nI n) S = some ((), S') ∧ fr [46, 49, 50, 51] S S' ∧ ∀ j, j < 20 → S'.1 46 0 j = dgst (S.1 49 0) n j := by
  have hnb : nbk n = (n + 8) / 64 + 1 := rfl
  have hN : 64 * nbk n ≤ 256 := by rw [hnb]; omega
  have hN2 : n + 9 ≤ 64 * nbk n := by rw [hnb]; omega
  unfold F_X10_hashText
  rw [tp_eq, tp_eq, show nI n + 8 = nI (n + 8) from nI_add n 8, show nI (n + 8) / 64 = nI ((n + 8) / 64) from pk_div (d := 64) (by omega) (by decide) (by decide), nI_1, ← hnb, show nI (nbk n) * 64 = nI (nbk n * 64) from pk_mul _ 64, Nat.mul_comm (nbk n) 64,
    fillC (by decide) (by omega) (show 64 * nbk n ≤ kn 49 from hN) (by decide), cl_eq, stA_n (by decide) (by omega) (by decide), show nI (64 * nbk n) - 8 = nI (64 * nbk n - 8) from pk_sub (b := 8) (by omega), nI_l (by omega), show (8 : Int64) * lN n = lN (8 * n) from lN_mul 8 n,
    whf8 (by decide) (show 64 * nbk n - 8 + 8 ≤ kn 49 by show _ ≤ 256; omega) (by decide), cl_eq]
  generalize hS3 : blk (wrI (blk S 49 0 n (64 * nbk n - n) fun _ => 0) 49 0 n 128) 49 0 (64 * nbk n - 8) 8 (fun k => btL (lN (8 * n)) (7 - k)) = S3
  have hT : ∀ j, j < 64 * nbk n → S3.1 49 0 j = padF (S.1 49 0) n j := by
    intro j hj
    rw [← hS3]
    unfold padF
    by_cases h1 : j < n
    · rw [if_pos h1, blk_out (by omega), wrI_o (by omega), blk_out (by omega)]
    · rw [if_neg h1]
      by_cases h2 : j = n
      · rw [if_pos h2, blk_out (by omega), h2, wrI_s]
      · rw [if_neg h2]
        by_cases h3 : j < 64 * nbk n - 8
        · rw [if_pos h3, blk_out (by omega), wrI_o (by omega), blk_in (by omega) (by omega)]
        · rw [if_neg h3, blk_in (by omega) (by omega)]
  have hF3 : fr [46, 49, 50, 51] S S3 := by
    rw [← hS3]
    exact (fr.bk (by decide)).tr ((fr.wr (by decide)).tr (fr.bk (by decide)))
  rw [st5 (c := 51) (a0 := 1732584193) (a1 := -271733879) (a2 := -1732584194) (a3 := 271733878) (a4 := -1009589776) (fun j => h0L.getD j 0) rfl rfl rfl rfl rfl]
  -- the memory behind k blocks
  have key : ∀ k, k ≤ nbk n → ∃ st : Nat → Mm, st 0 = blk S3 51 0 0 5 (fun j => h0L.getD j 0) ∧ (∀ i, i < k → ∃ T1, F_X10_fillWords (nI i * 64) (st i) = some ((), T1) ∧ F_X10_addWords T1 = some ((), st (i + 1))) ∧ fr [46, 50, 51] S3 (st k) ∧ ∀ j, j < 5 → (st k).1 51 0 j = shaH (padF (S.1 49 0) n) k j := by
    intro k
    induction k with
    | zero =>
      intro _
      refine ⟨fun _ => blk S3 51 0 0 5 (fun j => h0L.getD j 0), rfl, fun i hi => absurd hi (by omega), fr.bk (by decide), fun j hj => ?_⟩
      rw [blk_in (by omega) (by omega)]
      rfl
    | succ k ih =>
      intro hk
      obtain ⟨st, h0, hs, hf, hh⟩ := ih (by omega)
      generalize hT1 : blk (st k) 50 0 0 80 (shaW (fun d => (st k).1 49 0 (64 * k + d))) = T1
      generalize hT2 : blk T1 51 0 0 5 (shaC (T1.1 51 0) (T1.1 50 0)) = T2
      have e1 : F_X10_fillWords (nI k * 64) (st k) = some ((), T1) := by
        rw [show nI k * 64 = nI (k * 64) from pk_mul k 64, Nat.mul_comm, fillW (by omega), hT1]
      have e2 : F_X10_addWords T1 = some ((), T2) := by rw [addW, hT2]
      refine ⟨fun i => if i ≤ k then st i else T2, ?_, fun i hi => ?_, ?_, fun j hj => ?_⟩
      · show (if 0 ≤ k then st 0 else T2) = _
        rw [if_pos (Nat.zero_le _)]
        exact h0
      · show ∃ T1, F_X10_fillWords (nI i * 64) (if i ≤ k then st i else T2) = some ((), T1) ∧ F_X10_addWords T1 = some ((), if i + 1 ≤ k then st (i + 1) else T2)
        by_cases hik : i < k
        · rw [if_pos (by omega), if_pos (by omega)]
          exact hs i hik
        · have : i = k := by omega
          subst this
          rw [if_pos (Nat.le_refl _), if_neg (by omega)]
          exact ⟨T1, e1, e2⟩
      · show fr [46, 50, 51] S3 (if k + 1 ≤ k then st (k + 1) else T2)
        rw [if_neg (by omega), ← hT2, ← hT1]
        exact hf.tr ((fr.bk (by decide)).tr (fr.bk (by decide)))
      · show (if k + 1 ≤ k then st (k + 1) else T2).1 51 0 j = _
        rw [if_neg (by omega), ← hT2, blk_in (by omega) (by omega), Nat.sub_zero]
        refine shaC_congr (fun j hj => ?_) (fun t ht => ?_) j hj
        · rw [← hT1, blk_ne (by decide)]
          exact hh j hj
        · rw [← hT1, blk_in (by omega) (by omega), Nat.sub_zero]
          refine shaW_congr (fun i hi => ?_) t
          rw [hf.1 49 (by decide), hT _ (by omega)]
  obtain ⟨st, h0, hs, hf, hh⟩ := key (nbk n) (Nat.le_refl _)
  refine ⟨blk (st (nbk n)) 46 0 0 20 (fun k => bt ((st (nbk n)).1 51 0 (k / 4)) (3 - k % 4)), ?_, ?_, fun j hj => ?_⟩
  · rw [← h0]
    refine loopA (L_X10_hashText_96 (nI (nbk n))) 0 (nbk n) st (Nat.zero_le _) (by omega) (fun m j _ hj => ?_) (fun m => ?_)
    · obtain ⟨T1, e1, e2⟩ := hs j hj
      rw [L_X10_hashText_96, if_neg (nI_ge hj (by omega)), e1, cl_eq, e2, cl_eq, nI_1]
    · rw [L_X10_hashText_96, if_pos (nI_le (Nat.le_refl _) (by omega))]
      exact digC
  · exact hF3.tr ((hf.up (by decide)).tr (fr.bk (by decide)))
  · rw [blk_in (by omega) (by omega), Nat.sub_zero]
    unfold dgst
    rw [hh _ (by omega)]
