/-! SHA-1 by a stream: the reference -/
theorem wrL_s {S : Mm} {c i j : Nat} {v : Int64} : (wrL S c i j v).2.1 c i j = v := if_pos ⟨rfl, rfl, rfl⟩
theorem wrL_1 {S : Mm} {c i j : Nat} {v : Int64} : (wrL S c i j v).1 = S.1 := rfl
def str (S : Mm) (f : Nat → Int32) (n : Nat) : Prop := S.1 289 0 0 = nI (n % 64) ∧ S.2.1 290 0 0 = lN n ∧ (∀ j, j < 5 → S.1 201 0 j = shaH f (n / 64) j) ∧ ∀ j, j < n % 64 → S.1 203 0 j = f (64 * (n / 64) + j)
abbrev hL : List Nat := [201, 202, 203, 289, 290]
theorem hash1 {S : Mm} {f : Nat → Int32} {n : Nat} {v : Int32} (hs : str S f n) (hf : f n = v &&& 255) : ∃ S', F_X12_hash v S = some ((), S') ∧ str S' f (n + 1) ∧ fr hL S S' := by
  obtain ⟨h1, h2, h3, h4⟩ := hs
  have hm : n % 64 < 64 := Nat.mod_lt _ (by decide)
  unfold F_X12_hash
  rw [gf_eq, h1, stA_n (by decide) hm (by decide), gf_eq, pf_eq, gl_eq, pl_eq, gf_eq]
  have e1 : (wrI S 203 0 (n % 64) (v &&& 255)).1 289 0 0 = nI (n % 64) := by rw [wrI_ne (by decide)]; exact h1
  rw [e1, nI_1]
  have e2 : (wrI (wrI S 203 0 (n % 64) (v &&& 255)) 289 0 0 (nI (n % 64 + 1))).2.1 290 0 0 = lN n := h2
  rw [e2, lN_1]
  have e3 : (wrL (wrI (wrI S 203 0 (n % 64) (v &&& 255)) 289 0 0 (nI (n % 64 + 1))) 290 0 0 (lN (n + 1))).1 289 0 0 = nI (n % 64 + 1) := by rw [wrL_1]; exact wrI_s
  rw [e3]
  generalize hS6 : wrL (wrI (wrI S 203 0 (n % 64) (v &&& 255)) 289 0 0 (nI (n % 64 + 1))) 290 0 0 (lN (n + 1)) = S6
  have f6 : fr hL S S6 := by
    rw [← hS6]
    exact (fr.wr (by decide)).tr ((fr.wr (by decide)).tr (fr.wl (by decide)))
  have a1 : ∀ j, j < 5 → S6.1 201 0 j = shaH f (n / 64) j := fun j hj => by
    rw [← hS6]
    show (wrI (wrI S 203 0 (n % 64) (v &&& 255)) 289 0 0 (nI (n % 64 + 1))).1 201 0 j = _
    rw [wrI_ne (by decide), wrI_ne (by decide)]
    exact h3 j hj
  have a2 : ∀ j, j < n % 64 + 1 → S6.1 203 0 j = f (64 * (n / 64) + j) := fun j hj => by
    rw [← hS6]
    show (wrI (wrI S 203 0 (n % 64) (v &&& 255)) 289 0 0 (nI (n % 64 + 1))).1 203 0 j = _
    rw [wrI_ne (by decide)]
    by_cases e : j = n % 64
    · subst e
      rw [wrI_s, ← hf]
      congr 1
      omega
    · rw [wrI_o (fun z => e z.2.2)]
      exact h4 j (by omega)
  have a3 : S6.2.1 290 0 0 = lN (n + 1) := by
    rw [← hS6]
    exact wrL_s
  have a4 : S6.1 289 0 0 = nI (n % 64 + 1) := by rw [← hS6]; exact e3
  by_cases h63 : n % 64 = 63
  · rw [if_pos (show (64 : Int32) ≤ nI (n % 64 + 1) by rw [h63]; decide), pf_eq, hashM]
    refine ⟨_, rfl, ⟨?_, ?_, fun j hj => ?_, fun j hj => absurd hj (by omega)⟩, f6.tr ((fr.wr (by decide)).tr ((fr.bk (by decide)).tr (fr.bk (by decide))))⟩
    · rw [blk_ne (by decide), blk_ne (by decide), wrI_s, show (n + 1) % 64 = 0 by omega]
      rfl
    · exact a3
    · rw [blk_in (by omega) (by omega), Nat.sub_zero, show (n + 1) / 64 = n / 64 + 1 by omega]
      refine shaC_congr (fun j hj => ?_) (fun t _ => shaW_congr (fun k hk => ?_) t) j hj
      · rw [wrI_ne (by decide)]
        exact a1 j hj
      · rw [wrI_ne (by decide)]
        exact a2 k (by omega)
  · rw [if_neg (show ¬ (64 : Int32) ≤ nI (n % 64 + 1) from nI_ge (b := 64) (by omega) (by decide))]
    refine ⟨S6, rfl, ⟨?_, a3, fun j hj => ?_, fun j hj => ?_⟩, f6⟩
    · rw [a4, show (n + 1) % 64 = n % 64 + 1 by omega]
    · rw [show (n + 1) / 64 = n / 64 by omega]
      exact a1 j hj
    · rw [show (n + 1) / 64 = n / 64 by omega]
      exact a2 j (by omega)
theorem hbegM {S : Mm} (f : Nat → Int32) : ∃ S', F_X12_hashBegin S = some ((), S') ∧ str S' f 0 ∧ fr hL S S' := by
  unfold F_X12_hashBegin
  rw [st5 (c := 201) (a0 := 1732584193) (a1 := -271733879) (a2 := -1732584194) (a3 := 271733878) (a4 := -1009589776) (fun j => h0L.getD j 0) rfl rfl rfl rfl rfl, pf_eq, pl_eq]
  refine ⟨_, rfl, ⟨?_, ?_, fun j hj => ?_, fun j hj => absurd hj (by omega)⟩, (fr.bk (by decide)).tr ((fr.wr (by decide)).tr (fr.wl (by decide)))⟩
  · rw [wrL_1]
    exact wrI_s
  · exact wrL_s
  · have e : (wrI (blk S 201 0 0 5 fun j => h0L.getD j 0) 289 0 0 0).1 201 = (blk S 201 0 0 5 fun j => h0L.getD j 0).1 201 := wrI_ne (by decide)
    rw [wrL_1, e, blk_in (by omega) (by omega)]
    rfl
/-- states one behind another -/
theorem run_ex {P : Nat → Mm → Prop} {step : Nat → Mm → Mm → Prop} (a : Nat) (S0 : Mm) (h0 : P a S0) : ∀ N, a ≤ N → (∀ p S, a ≤ p → p < N → P p S → ∃ S', step p S S' ∧ P (p + 1) S') → ∃ st : Nat → Mm, st a = S0 ∧ (∀ p, a ≤ p → p < N → step p (st p) (st (p + 1))) ∧ P N (st N) := by
  intro N
  induction N with
  | zero =>
    intro ha _
    have : a = 0 := by omega
    subst this
    exact ⟨fun _ => S0, rfl, fun p _ h => absurd h (by omega), h0⟩
  | succ N ih =>
    intro ha hs
    by_cases h : a = N + 1
    · subst h
      exact ⟨fun _ => S0, rfl, fun p _ h => absurd h (by omega), h0⟩
    · obtain ⟨st, e0, es, eP⟩ := ih (by omega) (fun p S h1 h2 hp => hs p S h1 (by omega) hp)
      obtain ⟨S', s1, s2⟩ := hs N (st N) (by omega) (by omega) eP
      refine ⟨fun i => if i ≤ N then st i else S', ?_, fun p h1 h2 => ?_, ?_⟩
      · show (if a ≤ N then st a else S') = S0
        rw [if_pos (by omega)]
        exact e0
      · show step p (if p ≤ N then st p else S') (if p + 1 ≤ N then st (p + 1) else S')
        by_cases hp : p < N
        · rw [if_pos (by omega), if_pos (by omega)]
          exact es p h1 hp
        · have : p = N := by omega
          subst this
          rw [if_pos (by omega), if_neg (by omega)]
          exact s1
      · show P (N + 1) (if N + 1 ≤ N then st (N + 1) else S')
        rw [if_neg (by omega)]
        exact s2
theorem dn1 (a j : Nat) : nI a - nI j + (-1) = nI a - nI (j + 1) := by
  rw [nI_succ, Int32.sub_eq_add_neg, Int32.sub_eq_add_neg, Int32.neg_add, Int32.sub_eq_add_neg, ← Int32.add_assoc]
/-- the bytes of a long, the highest of them first -/
theorem lettM {v : Int64} {N : Nat} (hN : N ≤ 8) (h0 : 0 < N) {S : Mm} {f : Nat → Int32} {n : Nat} (hs : str S f n) (hf : ∀ j, j < N → f (n + j) = btL v (N - 1 - j)) : ∃ S', F_X12_hashLetters v (nI N) S = some ((), S') ∧ str S' f (n + N) ∧ fr hL S S' := by
  unfold F_X12_hashLetters
  rw [tp_eq]
  obtain ⟨st, e0, es, eP⟩ := run_ex (P := fun p T => str T f (n + p) ∧ fr hL S T) (step := fun p T T' => F_X12_hash (Int64.toInt32 (v >>> (Int32.toInt64 (8 * nI (N - 1 - p)) &&& 63))) T = some ((), T')) 0 S ⟨hs, fr.rf⟩ N (Nat.zero_le _) (fun p T _ hp hT => by
    have hsh : ∀ k, k < 8 → (((Int32.toInt64 (8 * nI k) &&& 63).toBitVec).smod 64).toNat = 8 * k := by decide
    obtain ⟨T', t1, t2, t3⟩ := hash1 (v := Int64.toInt32 (v >>> (Int32.toInt64 (8 * nI (N - 1 - p)) &&& 63))) hT.1 (by rw [lsh_bt (k := N - 1 - p) (by omega) _ _ (hsh _ (by omega))]; exact hf p hp)
    exact ⟨T', t1, t2, hT.2.tr t3⟩)
  refine ⟨st N, ?_, eP.1, eP.2⟩
  have h := loop0 (r := some ((), st N)) (fun m (q : Int32 × Mm) => L_X12_hashLetters_5 v m q.1 q.2) (fun j => (nI (N - 1) - nI j, st j)) N (by omega) (fun m j hj => ?_) (fun m => ?_)
  · rw [show nI N - 1 = nI (N - 1) - nI 0 from by rw [show nI N - 1 = nI (N - 1) from pk_sub (b := 1) (by omega), show nI (N - 1) - nI 0 = nI (N - 1) from pk_sub (Nat.zero_le _)], ← e0]
    exact h
  · show L_X12_hashLetters_5 v (m + 1) (nI (N - 1) - nI j) (st j) = L_X12_hashLetters_5 v m (nI (N - 1) - nI (j + 1)) (st (j + 1))
    rw [L_X12_hashLetters_5, dn1, show nI (N - 1) - nI j = nI (N - 1 - j) from pk_sub (by omega), if_neg (nI_pos (by omega)), es j (Nat.zero_le _) hj, cl_eq]
  · show L_X12_hashLetters_5 v (m + 1) (nI (N - 1) - nI N) (st N) = _
    rw [L_X12_hashLetters_5, if_pos (pk_sneg (by omega) (by omega))]
