/-! SHA-1: one block, the reference's -/
theorem sum5 (r f e w k : Int32) : (((r + f) + e) + w) + k = ((r + e) + w) + (f + k) := by
  rw [Int32.add_assoc r f e, Int32.add_comm f e, ← Int32.add_assoc r e f, Int32.add_assoc (r + e) f w, Int32.add_comm f w, ← Int32.add_assoc (r + e) w f, Int32.add_assoc _ f k]
theorem leftM (v s S) {β : Type} {K : Int32 → Mm → Option β} : cl (F_X12_left v s S) K = K ((v <<< (s &&& 31)) ||| iu v (32 - s)) S := rfl
theorem hashM3 {S : Mm} (h w : Nat → Int32) (hh : ∀ j, j < 5 → S.1 201 0 j = h j) (hw : ∀ j, j < 80 → S.1 202 0 j = w j) : L_X12_hash_223 fu (h 0) (h 1) (h 2) (h 3) (h 4) 0 S = some ((), blk S 201 0 0 5 (fun j => S.1 201 0 j + g5 (shaT w (t5 h) 80) j)) := by
  refine loopA (fun n i (q : T5) => L_X12_hash_223 n q.1 q.2.1 q.2.2.1 q.2.2.2.1 q.2.2.2.2 i S) 0 80 (fun j => shaT w (t5 h) j) (by decide) (by decide) (fun m j _ hj => ?_) (fun m => ?_)
  · have eT : shaT w (t5 h) (j + 1) = shaS (w j) j (shaT w (t5 h) j) := rfl
    rw [eT]
    generalize shaT w (t5 h) j = q
    rw [L_X12_hash_223, if_neg (show ¬ (80 : Int32) ≤ nI j from nI_ge (b := 80) hj (by decide))]
    have h334 : ∀ f k, L_X12_hash_334 (L_X12_hash_223 m) q.1 q.2.1 q.2.2.1 q.2.2.2.1 q.2.2.2.2 (nI j) f k S = L_X12_hash_223 m (((rotl q.1 5 27 + q.2.2.2.2) + w j) + (f + k)) q.1 (rotl q.2.1 30 2) q.2.2.1 q.2.2.2.1 (nI (j + 1)) S := by
      intro f k
      unfold L_X12_hash_334
      rw [leftM, ldA_n (by decide) hj (by decide), tp_eq, leftM, nI_1, hw j hj, sum5, show (32 - 5 : Int32) = 27 from rfl, show (32 - 30 : Int32) = 2 from rfl]
      rfl
    have g20 : ((20 : Int32) ≤ nI j) ↔ ¬ j < 20 := by rw [show (20 : Int32) = nI 20 from rfl, nI_leI (by decide) (by omega)]; omega
    have g40 : ((40 : Int32) ≤ nI j) ↔ ¬ j < 40 := by rw [show (40 : Int32) = nI 40 from rfl, nI_leI (by decide) (by omega)]; omega
    have g60 : ((60 : Int32) ≤ nI j) ↔ ¬ j < 60 := by rw [show (60 : Int32) = nI 60 from rfl, nI_leI (by decide) (by omega)]; omega
    have l40 : (nI j < (40 : Int32)) ↔ j < 40 := by rw [show (40 : Int32) = nI 40 from rfl, nI_ltI (by omega) (by decide)]
    have l60 : (nI j < (60 : Int32)) ↔ j < 60 := by rw [show (60 : Int32) = nI 60 from rfl, nI_ltI (by omega) (by decide)]
    simp only [L_X12_hash_265, L_X12_hash_290, h334, g20, g40, g60, l40, l60, shaS, shaF, shaK]
    by_cases a1 : j < 20
    · simp only [a1, not_true, if_false, if_true]
    · by_cases a2 : j < 40
      · simp only [a1, a2, not_true, not_false_iff, if_false, if_true]
      · by_cases a3 : j < 60
        · simp only [a1, a2, a3, not_true, not_false_iff, if_false, if_true]
        · simp only [a1, a2, a3, not_false_iff, if_false, if_true]
  · generalize hq : shaT w (t5 h) 80 = q
    rw [L_X12_hash_223, if_pos (show (80 : Int32) ≤ nI 80 by decide)]
    exact blk5 (S := S) (c := 201) q (K := fun T => some ((), T))
theorem hashM2 {S : Mm} {f : Nat → Int32} (hf : ∀ t, 16 ≤ t → f t = rotl (((f (t - 3) ^^^ f (t - 8)) ^^^ f (t - 14)) ^^^ f (t - 16)) 1 31) : L_X12_hash_122 fu 16 (blk S 202 0 0 16 f) = some ((), blk (blk S 202 0 0 80 f) 201 0 0 5 (shaC (S.1 201 0) f)) := by
  refine loopA L_X12_hash_122 16 80 (fun j => blk S 202 0 0 j f) (by decide) (by decide) (fun m j h1 hj => ?_) (fun m => ?_)
  · have e : ∀ k, k ≤ 16 → 0 < k → (blk S 202 0 0 j f).1 202 0 (j - k) = f (j - k) := fun k h2 h3 => by rw [blk_in (by omega) (by omega), Nat.sub_zero]
    rw [L_X12_hash_122, if_neg (show ¬ (80 : Int32) ≤ nI j from nI_ge (b := 80) hj (by decide)), show nI j - 3 = nI (j - 3) from pk_sub (b := 3) (by omega), show nI j - 8 = nI (j - 8) from pk_sub (b := 8) (by omega), show nI j - 14 = nI (j - 14) from pk_sub (b := 14) (by omega), show nI j - 16 = nI (j - 16) from pk_sub (b := 16) (by omega),
      ldA_n (by decide) (by omega) (by decide), ldA_n (by decide) (by omega) (by decide), ldA_n (by decide) (by omega) (by decide), ldA_n (by decide) (by omega) (by decide), leftM, stA_n (by decide) hj (by decide), nI_1, e 3 (by omega) (by omega), e 8 (by omega) (by omega), e 14 (by omega) (by omega), e 16 (by omega) (by omega), ← blk_succ, Nat.zero_add, hf j h1, show (32 - 1 : Int32) = 31 from rfl]
    rfl
  · have e : ∀ d, (blk S 202 0 0 80 f).1 201 0 d = S.1 201 0 d := fun d => by rw [blk_ne (by decide)]
    have l : ∀ (j : Nat) (hj : j < 5) (J : Int32 → Option (Unit × Mm)), ldA (blk S 202 0 0 80 f) 201 0 5 1 (nI j) J = J (S.1 201 0 j) := fun j hj J => by rw [ldA_n (by decide) hj (by decide), e]
    rw [L_X12_hash_122, if_pos (show (80 : Int32) ≤ nI 80 by decide)]
    rw [show (ldA (blk S 202 0 0 80 f) 201 0 5 1 0 : (Int32 → Option (Unit × Mm)) → _) = fun J => J (S.1 201 0 0) from funext (l 0 (by decide)), show (ldA (blk S 202 0 0 80 f) 201 0 5 1 1 : (Int32 → Option (Unit × Mm)) → _) = fun J => J (S.1 201 0 1) from funext (l 1 (by decide)), show (ldA (blk S 202 0 0 80 f) 201 0 5 1 2 : (Int32 → Option (Unit × Mm)) → _) = fun J => J (S.1 201 0 2) from funext (l 2 (by decide)), show (ldA (blk S 202 0 0 80 f) 201 0 5 1 3 : (Int32 → Option (Unit × Mm)) → _) = fun J => J (S.1 201 0 3) from funext (l 3 (by decide)), show (ldA (blk S 202 0 0 80 f) 201 0 5 1 4 : (Int32 → Option (Unit × Mm)) → _) = fun J => J (S.1 201 0 4) from funext (l 4 (by decide))]
    refine (hashM3 (S := blk S 202 0 0 80 f) (S.1 201 0) f (fun j _ => e j) (fun j hj => by rw [blk_in (by omega) (by omega), Nat.sub_zero])).trans ?_
    congr 4
theorem hashM {S : Mm} : L_X12_hash_51 fu 0 S = some ((), blk (blk S 202 0 0 80 (shaW (S.1 203 0))) 201 0 0 5 (shaC (S.1 201 0) (shaW (S.1 203 0)))) := by
  refine loopB L_X12_hash_51 S 202 0 0 16 (shaW (S.1 203 0)) (by decide) (fun m j hj => ?_) (fun m => ?_)
  · have e : ∀ d, (blk S 202 0 0 j (shaW (S.1 203 0))).1 203 0 d = S.1 203 0 d := fun d => by rw [blk_ne (by decide)]
    rw [L_X12_hash_51, if_neg (show ¬ (16 : Int32) ≤ nI j from nI_ge (b := 16) hj (by decide)), show (4 : Int32) * nI j = nI (4 * j) from pk_mul 4 j, nI_1, show nI (4 * j) + 2 = nI (4 * j + 2) from nI_add _ 2, show nI (4 * j) + 3 = nI (4 * j + 3) from nI_add _ 3,
      ldA_n (by decide) (by omega) (by decide), ldA_n (by decide) (by omega) (by decide), ldA_n (by decide) (by omega) (by decide), ldA_n (by decide) (by omega) (by decide), stA_n (by decide) (by omega) (by decide), e, e, e, e, nI_1, ← blk_succ, Nat.zero_add, shaW_lo hj]
  · rw [L_X12_hash_51, if_pos (show (16 : Int32) ≤ nI 16 by decide)]
    exact hashM2 (fun t h => shaW_hi (by omega))
