/-! SHA-1: one block, on both sides -/
theorem loopA {R σ : Type} {r : R} (L : Nat → Int32 → σ → R) (a N : Nat) (st : Nat → σ) (haN : a ≤ N) (hN : N < 100000) (hs : ∀ n j, a ≤ j → j < N → L (n + 1) (nI j) (st j) = L n (nI (j + 1)) (st (j + 1))) (hx : ∀ n, L (n + 1) (nI N) (st N) = r) : L fu (nI a) (st a) = r := by
  have h := loop0 (fun n (q : Int32 × σ) => L n q.1 q.2) (fun j => (nI (a + j), st (a + j))) (N - a) (by omega) (fun n j hj => hs n (a + j) (by omega) (by omega)) (fun n => by have := hx n; rw [show a + (N - a) = N by omega]; exact this)
  exact h
def rotl (x a b : Int32) : Int32 := (x <<< (a &&& 31)) ||| iu x b
def shaW (b : Nat → Int32) (t : Nat) : Int32 :=
  if t < 16 then (((b (4 * t) <<< (24 &&& 31)) ||| (b (4 * t + 1) <<< (16 &&& 31))) ||| (b (4 * t + 2) <<< (8 &&& 31))) ||| b (4 * t + 3)
  else rotl (((shaW b (t - 3) ^^^ shaW b (t - 8)) ^^^ shaW b (t - 14)) ^^^ shaW b (t - 16)) 1 31
termination_by t
decreasing_by all_goals omega
theorem shaW_lo {b : Nat → Int32} {t : Nat} (h : t < 16) : shaW b t = (((b (4 * t) <<< (24 &&& 31)) ||| (b (4 * t + 1) <<< (16 &&& 31))) ||| (b (4 * t + 2) <<< (8 &&& 31))) ||| b (4 * t + 3) := by
  rw [shaW, if_pos h]
theorem shaW_hi {b : Nat → Int32} {t : Nat} (h : ¬ t < 16) : shaW b t = rotl (((shaW b (t - 3) ^^^ shaW b (t - 8)) ^^^ shaW b (t - 14)) ^^^ shaW b (t - 16)) 1 31 := by
  rw [shaW, if_neg h]
abbrev T5 : Type := Int32 × Int32 × Int32 × Int32 × Int32
def shaF (t : Nat) (b c d : Int32) : Int32 := if t < 20 then (b &&& c) ||| ((b ^^^ (-1)) &&& d) else if t < 40 then (b ^^^ c) ^^^ d else if t < 60 then ((b &&& c) ||| (b &&& d)) ||| (c &&& d) else (b ^^^ c) ^^^ d
def shaK (t : Nat) : Int32 := if t < 20 then 1518500249 else if t < 40 then 1859775393 else if t < 60 then -1894007588 else -899497514
def shaS (w : Int32) (t : Nat) (q : T5) : T5 := ((((rotl q.1 5 27 + q.2.2.2.2) + w) + (shaF t q.2.1 q.2.2.1 q.2.2.2.1 + shaK t)), q.1, rotl q.2.1 30 2, q.2.2.1, q.2.2.2.1)
def shaT (w : Nat → Int32) (q : T5) : Nat → T5
  | 0 => q
  | t + 1 => shaS (w t) t (shaT w q t)
def t5 (h : Nat → Int32) : T5 := (h 0, h 1, h 2, h 3, h 4)
def g5 (q : T5) (j : Nat) : Int32 := if j = 0 then q.1 else if j = 1 then q.2.1 else if j = 2 then q.2.2.1 else if j = 3 then q.2.2.2.1 else q.2.2.2.2
/-- a block's turn of the five numbers -/
def shaC (h : Nat → Int32) (w : Nat → Int32) (j : Nat) : Int32 := h j + g5 (shaT w (t5 h) 80) j
theorem shaW_congr {b b' : Nat → Int32} (h : ∀ k, k < 64 → b k = b' k) : ∀ t, shaW b t = shaW b' t := by
  intro t
  induction t using Nat.strongRecOn with
  | _ t ih =>
    by_cases h16 : t < 16
    · rw [shaW_lo h16, shaW_lo h16, h _ (by omega), h _ (by omega), h _ (by omega), h _ (by omega)]
    · rw [shaW_hi h16, shaW_hi h16, ih _ (by omega), ih _ (by omega), ih _ (by omega), ih _ (by omega)]
theorem fillW2 {S : Mm} {f : Nat → Int32} (hf : ∀ t, 16 ≤ t → f t = rotl (((f (t - 3) ^^^ f (t - 8)) ^^^ f (t - 14)) ^^^ f (t - 16)) 1 31) : L_X10_fillWords_71 fu 16 (blk S 50 0 0 16 f) = some ((), blk S 50 0 0 80 f) := by
  refine loopA L_X10_fillWords_71 16 80 (fun j => blk S 50 0 0 j f) (by decide) (by decide) (fun m j h1 hj => ?_) (fun m => ?_)
  · have e : ∀ k, k ≤ 16 → 0 < k → (blk S 50 0 0 j f).1 50 0 (j - k) = f (j - k) := fun k h2 h3 => by rw [blk_in (by omega) (by omega), Nat.sub_zero]
    rw [L_X10_fillWords_71, if_neg (show ¬ (80 : Int32) ≤ nI j from nI_ge (b := 80) hj (by decide)), show nI j - 3 = nI (j - 3) from pk_sub (b := 3) (by omega), show nI j - 8 = nI (j - 8) from pk_sub (b := 8) (by omega), show nI j - 14 = nI (j - 14) from pk_sub (b := 14) (by omega), show nI j - 16 = nI (j - 16) from pk_sub (b := 16) (by omega),
      ldA_n (by decide) (by omega) (by decide), ldA_n (by decide) (by omega) (by decide), ldA_n (by decide) (by omega) (by decide), ldA_n (by decide) (by omega) (by decide), tp_eq, stA_n (by decide) hj (by decide), nI_1, e 3 (by omega) (by omega), e 8 (by omega) (by omega), e 14 (by omega) (by omega), e 16 (by omega) (by omega), ← blk_succ, Nat.zero_add, hf j h1]
    rfl
  · rw [L_X10_fillWords_71, if_pos (show (80 : Int32) ≤ nI 80 by decide)]
theorem fillW {S : Mm} {at' : Nat} (ha : at' + 64 ≤ 256) : F_X10_fillWords (nI at') S = some ((), blk S 50 0 0 80 (shaW (fun k => S.1 49 0 (at' + k)))) := by
  unfold F_X10_fillWords
  refine loopB (L_X10_fillWords_2 (nI at')) S 50 0 0 16 (shaW (fun k => S.1 49 0 (at' + k))) (by decide) (fun m j hj => ?_) (fun m => ?_)
  · have e : ∀ d, (blk S 50 0 0 j (shaW (fun k => S.1 49 0 (at' + k)))).1 49 0 d = S.1 49 0 d := fun d => by rw [blk_ne (by decide)]
    rw [L_X10_fillWords_2, if_neg (show ¬ (16 : Int32) ≤ nI j from nI_ge (b := 16) hj (by decide)), tp_eq, show nI at' + (4 * nI j) = nI (at' + 4 * j) from by rw [show (4 : Int32) * nI j = nI (4 * j) from pk_mul 4 j, nI_add], nI_1, show nI (at' + 4 * j) + 2 = nI (at' + 4 * j + 2) from nI_add _ 2, show nI (at' + 4 * j) + 3 = nI (at' + 4 * j + 3) from nI_add _ 3,
      ldA_n (by decide) (by omega) (by decide), ldA_n (by decide) (by omega) (by decide), ldA_n (by decide) (by omega) (by decide), ldA_n (by decide) (by omega) (by decide), stA_n (by decide) (by omega) (by decide), e, e, e, e, nI_1, ← blk_succ, Nat.zero_add, shaW_lo hj, Nat.add_assoc, Nat.add_assoc, Nat.add_assoc]
  · rw [L_X10_fillWords_2, if_pos (show (16 : Int32) ≤ nI 16 by decide)]
    exact fillW2 (fun t h => shaW_hi (by omega))
/-- five numbers added -/
theorem blk5 {β : Type} {S : Mm} {c : Nat} (q : T5) {K : Mm → Option β} : (ldA S c 0 5 1 0 fun x6 =>
    stA S c 0 5 1 0 (x6 + q.1) fun S7 =>
    ldA S7 c 0 5 1 1 fun x8 =>
    stA S7 c 0 5 1 1 (x8 + q.2.1) fun S9 =>
    ldA S9 c 0 5 1 2 fun x10 =>
    stA S9 c 0 5 1 2 (x10 + q.2.2.1) fun S11 =>
    ldA S11 c 0 5 1 3 fun x12 =>
    stA S11 c 0 5 1 3 (x12 + q.2.2.2.1) fun S13 =>
    ldA S13 c 0 5 1 4 fun x14 =>
    stA S13 c 0 5 1 4 (x14 + q.2.2.2.2) fun S15 => K S15) = K (blk S c 0 0 5 (fun j => S.1 c 0 j + g5 q j)) := by
  have l : ∀ (T : Mm) (j : Nat) (hj : j < 5) (J : Int32 → Option β), ldA T c 0 5 1 (nI j) J = J (T.1 c 0 j) := fun T j hj J => ldA_n (by decide) hj (by decide)
  have s : ∀ (T : Mm) (j : Nat) (hj : j < 5) (v : Int32) (J : Mm → Option β), stA T c 0 5 1 (nI j) v J = J (wrI T c 0 j v) := fun T j hj v J => stA_n (by decide) hj (by decide)
  show (ldA S c 0 5 1 (nI 0) fun x6 => stA S c 0 5 1 (nI 0) (x6 + q.1) fun S7 => ldA S7 c 0 5 1 (nI 1) fun x8 => stA S7 c 0 5 1 (nI 1) (x8 + q.2.1) fun S9 => ldA S9 c 0 5 1 (nI 2) fun x10 => stA S9 c 0 5 1 (nI 2) (x10 + q.2.2.1) fun S11 => ldA S11 c 0 5 1 (nI 3) fun x12 => stA S11 c 0 5 1 (nI 3) (x12 + q.2.2.2.1) fun S13 => ldA S13 c 0 5 1 (nI 4) fun x14 => stA S13 c 0 5 1 (nI 4) (x14 + q.2.2.2.2) fun S15 => K S15) = _
  rw [l _ 0 (by decide), s _ 0 (by decide), l _ 1 (by decide), s _ 1 (by decide), l _ 2 (by decide), s _ 2 (by decide), l _ 3 (by decide), s _ 3 (by decide), l _ 4 (by decide), s _ 4 (by decide)]
  have r : ∀ (T : Mm) (a b : Nat) (v : Int32), a ≠ b → (wrI T c 0 a v).1 c 0 b = T.1 c 0 b := fun T a b v h => wrI_o (fun z => h z.2.2.symm)
  rw [r _ 0 1 _ (by decide), r _ 1 2 _ (by decide), r _ 0 2 _ (by decide), r _ 2 3 _ (by decide), r _ 1 3 _ (by decide), r _ 0 3 _ (by decide), r _ 3 4 _ (by decide), r _ 2 4 _ (by decide), r _ 1 4 _ (by decide), r _ 0 4 _ (by decide)]
  congr 1
  have e : ∀ n (f : Nat → Int32), blk S c 0 0 (n + 1) f = wrI (blk S c 0 0 n f) c 0 n (f n) := fun n f => by rw [← blk_succ, Nat.zero_add]
  rw [e 4, e 3, e 2, e 1, e 0, blk_0]
  rfl
theorem addW {S : Mm} : F_X10_addWords S = some ((), blk S 51 0 0 5 (shaC (S.1 51 0) (S.1 50 0))) := by
  unfold F_X10_addWords
  have l : ∀ (j : Nat) (hj : j < 5) (J : Int32 → Option (Unit × Mm)), ldA S 51 0 5 1 (nI j) J = J (S.1 51 0 j) := fun j hj J => ldA_n (by decide) hj (by decide)
  have h0 := fun J => l 0 (by decide) J
  have h1 := fun J => l 1 (by decide) J
  have h2 := fun J => l 2 (by decide) J
  have h3 := fun J => l 3 (by decide) J
  have h4 := fun J => l 4 (by decide) J
  rw [show (ldA S 51 0 5 1 0 : (Int32 → Option (Unit × Mm)) → _) = fun J => J (S.1 51 0 0) from funext h0, show (ldA S 51 0 5 1 1 : (Int32 → Option (Unit × Mm)) → _) = fun J => J (S.1 51 0 1) from funext h1, show (ldA S 51 0 5 1 2 : (Int32 → Option (Unit × Mm)) → _) = fun J => J (S.1 51 0 2) from funext h2, show (ldA S 51 0 5 1 3 : (Int32 → Option (Unit × Mm)) → _) = fun J => J (S.1 51 0 3) from funext h3, show (ldA S 51 0 5 1 4 : (Int32 → Option (Unit × Mm)) → _) = fun J => J (S.1 51 0 4) from funext h4]
  refine loopA (fun n i (q : T5) => L_X10_addWords_40 n q.1 q.2.1 q.2.2.1 q.2.2.2.1 q.2.2.2.2 i S) 0 80 (fun j => shaT (S.1 50 0) (t5 (S.1 51 0)) j) (by decide) (by decide) (fun m j _ hj => ?_) (fun m => ?_)
  · have eT : shaT (S.1 50 0) (t5 (S.1 51 0)) (j + 1) = shaS (S.1 50 0 j) j (shaT (S.1 50 0) (t5 (S.1 51 0)) j) := rfl
    rw [eT]
    generalize shaT (S.1 50 0) (t5 (S.1 51 0)) j = q
    rw [L_X10_addWords_40, if_neg (show ¬ (80 : Int32) ≤ nI j from nI_ge (b := 80) hj (by decide))]
    have h132 : ∀ v7, L_X10_addWords_132 (L_X10_addWords_40 m) q.1 q.2.1 q.2.2.1 q.2.2.2.1 q.2.2.2.2 (nI j) v7 S = L_X10_addWords_40 m (((rotl q.1 5 27 + q.2.2.2.2) + S.1 50 0 j) + v7) q.1 (rotl q.2.1 30 2) q.2.2.1 q.2.2.2.1 (nI (j + 1)) S := by
      intro v7
      unfold L_X10_addWords_132
      rw [ldA_n (by decide) hj (by decide), tp_eq, tp_eq, nI_1]
      rfl
    have g20 : ((20 : Int32) ≤ nI j) ↔ ¬ j < 20 := by rw [show (20 : Int32) = nI 20 from rfl, nI_leI (by decide) (by omega)]; omega
    have g40 : ((40 : Int32) ≤ nI j) ↔ ¬ j < 40 := by rw [show (40 : Int32) = nI 40 from rfl, nI_leI (by decide) (by omega)]; omega
    have g60 : ((60 : Int32) ≤ nI j) ↔ ¬ j < 60 := by rw [show (60 : Int32) = nI 60 from rfl, nI_leI (by decide) (by omega)]; omega
    simp only [tp_eq, h132, g20, g40, g60, shaS, shaF, shaK]
    by_cases a1 : j < 20
    · simp only [a1, not_true, if_false, if_true]
    · by_cases a2 : j < 40
      · simp only [a1, a2, not_true, not_false_iff, if_false, if_true]
      · by_cases a3 : j < 60
        · simp only [a1, a2, a3, not_true, not_false_iff, if_false, if_true]
        · simp only [a1, a2, a3, not_false_iff, if_false, if_true]
  · generalize hq : shaT (S.1 50 0) (t5 (S.1 51 0)) 80 = q
    rw [L_X10_addWords_40, if_pos (show (80 : Int32) ≤ nI 80 by decide)]
    refine (blk5 (S := S) (c := 51) q (K := fun T => some ((), T))).trans ?_
    unfold shaC
    rw [hq]
