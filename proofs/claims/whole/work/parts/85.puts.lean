/-! WHAT OTHERS PUT BEGINS, both sides -/
theorem loop3 {R1 R2 : Type} (L1 : Nat → Int32 → Int32 → Mm → R1) (L2 : Nat → Int32 → Int32 → Mm → R2) (P : Nat → Nat → Mm → Mm → Prop) (N : Nat) (hN : N < 100000) (hs : ∀ k j C M, k < N → P k j C M → ∃ j' C' M', P (k + 1) j' C' M' ∧ (∀ n, L1 (n + 1) (nI j) (nI k) C = L1 n (nI j') (nI (k + 1)) C') ∧ (∀ n, L2 (n + 1) (nI j) (nI k) M = L2 n (nI j') (nI (k + 1)) M')) {C M : Mm} (h0 : P 0 0 C M) : ∃ j C' M' n, P N j C' M' ∧ L1 fu 0 0 C = L1 (n + 1) (nI j) (nI N) C' ∧ L2 fu 0 0 M = L2 (n + 1) (nI j) (nI N) M' := by
  obtain ⟨m, hm⟩ := fu_n hN
  have key : ∀ k, k ≤ N → ∃ j C' M', P k j C' M' ∧ L1 fu 0 0 C = L1 (m + (N - k) + 1) (nI j) (nI k) C' ∧ L2 fu 0 0 M = L2 (m + (N - k) + 1) (nI j) (nI k) M' := by
    intro k
    induction k with
    | zero => intro _; exact ⟨0, C, M, h0, by rw [Nat.sub_zero, ← hm]; rfl, by rw [Nat.sub_zero, ← hm]; rfl⟩
    | succ k ih =>
      intro hk
      obtain ⟨j, C1, M1, p1, e1, e2⟩ := ih (by omega)
      obtain ⟨j2, C2, M2, p2, f1, f2⟩ := hs k j C1 M1 (by omega) p1
      refine ⟨j2, C2, M2, p2, ?_, ?_⟩
      · rw [e1, f1, show m + (N - k) = m + (N - (k + 1)) + 1 by omega]
      · rw [e2, f2, show m + (N - k) = m + (N - (k + 1)) + 1 by omega]
  obtain ⟨j, C', M', p1, e1, e2⟩ := key N (Nat.le_refl N)
  rw [Nat.sub_self] at e1 e2
  exact ⟨j, C', M', m, p1, e1, e2⟩
theorem fq.sy {l : List Nat} {S T : Mm} (h : fq l S T) : fq l T S := ⟨fun a ha => (h.1 a ha).symm, fun a ha => (h.2.1 a ha).symm, fun a ha => (h.2.2 a ha).symm⟩
theorem fq.cw {l : List Nat} {S T : Mm} {c i j : Nat} {v : Int32} (h : fq l S T) : fq l (wrI S c i j v) (wrI T c i j v) := by
  refine ⟨fun a ha => ?_, fun a ha => h.2.1 a ha, fun a ha => h.2.2 a ha⟩
  funext b d
  show (if a = c ∧ b = i ∧ d = j then v else T.1 a b d) = if a = c ∧ b = i ∧ d = j then v else S.1 a b d
  rw [h.1 a ha]
theorem wrR_s {S : Mm} {c i j v : Nat} : (wrR S c i j v).2.2 c i j = v := if_pos ⟨rfl, rfl, rfl⟩
theorem wrR_o {S : Mm} {c i j v a b d : Nat} (h : ¬ (a = c ∧ b = i ∧ d = j)) : (wrR S c i j v).2.2 a b d = S.2.2 a b d := if_neg h
theorem wrR_1 {S : Mm} {c i j v : Nat} : (wrR S c i j v).1 = S.1 := rfl
theorem e_stR {β : Type} {S : Mm} {c i n m j v : Nat} {e : Int32} {K : Mm → Option β} {X : Option β} (he : e = nI j) (hj : j < n) (hi : i < m) (hn : n < 2 ^ 31) (h : K (wrR S c i j v) = X) : stR S c i n m e v K = X := by
  subst he
  unfold stR
  rw [if_pos (by rw [inb_n hj hn, Bool.and_true, Nat.blt_eq]; exact hi), nI_clamp (by omega)]
  exact h
def mvC (C : Mm) (k j : Nat) : Mm := wrI (wrI (wrR (wrR C 41 0 j (C.2.2 41 0 k)) 41 0 k (C.2.2 41 0 j)) 43 0 j (C.1 43 0 k)) 44 0 j (C.1 44 0 k)
theorem mvCe {C : Mm} {k j : Nat} (hk : k < 20) (hj : j < 20) (hp : ∀ i, i < 20 → C.2.2 41 0 i < 20) : F_X8_moveUp (nI k) (nI j) C = some ((), mvC C k j) := by
  unfold F_X8_moveUp mvC
  exact e_ldR rfl hj (by decide) (by decide) rfl (hp j hj) (e_ldR rfl hk (by decide) (by decide) rfl (hp k hk) (e_gd (hp k hk) (e_stR rfl hj (by decide) (by decide) (e_gd (hp j hj) (e_stR rfl hk (by decide) (by decide) (e_ldA rfl hk (by decide) (by decide) rfl (e_stA rfl hj (by decide) (by decide) rfl (e_ldA (v := C.1 44 0 k) rfl hk (by decide) (by decide) (by rw [wrI_o (by omega)]; rfl) (e_stA rfl hj (by decide) (by decide) rfl rfl)))))))))
theorem swp {f g : Nat → Nat} {j k : Nat} (hj : j < 20) (hk : k < 20) (h1 : ∀ i, i < 20 → f i < 20) (h2 : ∀ a b, a < 20 → b < 20 → f a = f b → a = b) (hgk : g k = f j) (hgj : g j = f k) (ho : ∀ i, ¬ i = j → ¬ i = k → g i = f i) : (∀ i, i < 20 → g i < 20) ∧ (∀ a b, a < 20 → b < 20 → g a = g b → a = b) := by
  have e : ∀ a, a < 20 → ∃ a', a' < 20 ∧ g a = f a' ∧ ((a = k ∧ a' = j) ∨ (a = j ∧ a' = k) ∨ (¬ a = j ∧ ¬ a = k ∧ a' = a)) := by
    intro a ha
    by_cases h : a = k
    · exact ⟨j, hj, by rw [h, hgk], Or.inl ⟨h, rfl⟩⟩
    · by_cases h' : a = j
      · exact ⟨k, hk, by rw [h', hgj], Or.inr (Or.inl ⟨h', rfl⟩)⟩
      · exact ⟨a, ha, ho a h' h, Or.inr (Or.inr ⟨h', h, rfl⟩)⟩
  refine ⟨fun i hi => ?_, fun a b ha hb hab => ?_⟩
  · obtain ⟨i', q1, q2, -⟩ := e i hi
    rw [q2]
    exact h1 i' q1
  · obtain ⟨a', q1, q2, q3⟩ := e a ha
    obtain ⟨b', r1, r2, r3⟩ := e b hb
    rw [q2, r2] at hab
    have := h2 a' b' q1 r1 hab
    omega
theorem pcM {M : Mm} {j k m : Nat} {K : Int32 → Int32 → Mm → Option (Unit × Mm)} (hj : j ≤ k) (hk : k < 20) (hm : m ≤ 300) (h275 : M.1 275 0 k = nI m) : L_X12_begin_204 K (nI j) (nI k) fu 0 M = K (nI (j + 1)) (nI (k + 1)) (blk M 276 0 (300 * j) m (fun i => M.1 276 0 (300 * k + i))) := by
  refine loopB (fun n v S => L_X12_begin_204 K (nI j) (nI k) n v S) M 276 0 (300 * j) m (fun i => M.1 276 0 (300 * k + i)) (by omega) (fun n i hi => ?_) (fun n => ?_)
  · rw [L_X12_begin_204]
    refine e_ldA (v := nI m) rfl hk (by decide) (by decide) (by rw [blk_out (by omega)]; exact h275) (e_N (by first | (simp (disch := first | omega | assumption) only [wrI_s, wrI_o, wrI_r, wrL_1, wrL_r, wrL_s, wrL_o, blk_in, blk_out, blk_r, lit, litL, b00, b11, nI_l, lN_add, lN_mul, lN_sub, nI_add, pk_mul, pk_sub, pk_div, remN, Nat.add_sub_cancel, Nat.add_sub_cancel_left, Nat.zero_add, Nat.add_zero, nI_eq, nI_leI, nI_ltI, nI_m1, m1_lt, neg_lt, neg_le, neg_ge, neg_gt, neg_eq, not_true, not_false_iff]; done) | (simp (disch := first | omega | assumption) only [wrI_s, wrI_o, wrI_r, wrL_1, wrL_r, wrL_s, wrL_o, blk_in, blk_out, blk_r, lit, litL, b00, b11, nI_l, lN_add, lN_mul, lN_sub, nI_add, pk_mul, pk_sub, pk_div, remN, Nat.add_sub_cancel, Nat.add_sub_cancel_left, Nat.zero_add, Nat.add_zero, nI_eq, nI_leI, nI_ltI, nI_m1, m1_lt, neg_lt, neg_le, neg_ge, neg_gt, neg_eq, not_true, not_false_iff]; omega)) (e_ldA (j := 300 * k + i) (v := M.1 276 0 (300 * k + i)) (by first | (simp (disch := first | omega | assumption) only [wrI_s, wrI_o, wrI_r, wrL_1, wrL_r, wrL_s, wrL_o, blk_in, blk_out, blk_r, lit, litL, b00, b11, nI_l, lN_add, lN_mul, lN_sub, nI_add, pk_mul, pk_sub, pk_div, remN, Nat.add_sub_cancel, Nat.add_sub_cancel_left, Nat.zero_add, Nat.add_zero]; done) | (simp (disch := first | omega | assumption) only [wrI_s, wrI_o, wrI_r, wrL_1, wrL_r, wrL_s, wrL_o, blk_in, blk_out, blk_r, lit, litL, b00, b11, nI_l, lN_add, lN_mul, lN_sub, nI_add, pk_mul, pk_sub, pk_div, remN, Nat.add_sub_cancel, Nat.add_sub_cancel_left, Nat.zero_add, Nat.add_zero]; rfl) | rfl) (by omega) (by decide) (by decide) (by rw [blk_out (by omega)]) (e_stA (j := 300 * j + i) (by first | (simp (disch := first | omega | assumption) only [wrI_s, wrI_o, wrI_r, wrL_1, wrL_r, wrL_s, wrL_o, blk_in, blk_out, blk_r, lit, litL, b00, b11, nI_l, lN_add, lN_mul, lN_sub, nI_add, pk_mul, pk_sub, pk_div, remN, Nat.add_sub_cancel, Nat.add_sub_cancel_left, Nat.zero_add, Nat.add_zero]; done) | (simp (disch := first | omega | assumption) only [wrI_s, wrI_o, wrI_r, wrL_1, wrL_r, wrL_s, wrL_o, blk_in, blk_out, blk_r, lit, litL, b00, b11, nI_l, lN_add, lN_mul, lN_sub, nI_add, pk_mul, pk_sub, pk_div, remN, Nat.add_sub_cancel, Nat.add_sub_cancel_left, Nat.zero_add, Nat.add_zero]; rfl) | rfl) (by omega) (by decide) (by decide) rfl ?_)))
    rw [blk_succ (f := fun i => M.1 276 0 (300 * k + i)), nI_1]
  · rw [L_X12_begin_204]
    unfold L_X12_begin_247
    refine e_ldA (v := nI m) rfl hk (by decide) (by decide) (by rw [blk_out (by omega)]; exact h275) (e_T (by first | (simp (disch := first | omega | assumption) only [wrI_s, wrI_o, wrI_r, wrL_1, wrL_r, wrL_s, wrL_o, blk_in, blk_out, blk_r, lit, litL, b00, b11, nI_l, lN_add, lN_mul, lN_sub, nI_add, pk_mul, pk_sub, pk_div, remN, Nat.add_sub_cancel, Nat.add_sub_cancel_left, Nat.zero_add, Nat.add_zero, nI_eq, nI_leI, nI_ltI, nI_m1, m1_lt, neg_lt, neg_le, neg_ge, neg_gt, neg_eq, not_true, not_false_iff]; done) | (simp (disch := first | omega | assumption) only [wrI_s, wrI_o, wrI_r, wrL_1, wrL_r, wrL_s, wrL_o, blk_in, blk_out, blk_r, lit, litL, b00, b11, nI_l, lN_add, lN_mul, lN_sub, nI_add, pk_mul, pk_sub, pk_div, remN, Nat.add_sub_cancel, Nat.add_sub_cancel_left, Nat.zero_add, Nat.add_zero, nI_eq, nI_leI, nI_ltI, nI_m1, m1_lt, neg_lt, neg_le, neg_ge, neg_gt, neg_eq, not_true, not_false_iff]; omega)) ?_)
    rw [nI_1, nI_1]
abbrev outMb : List Nat := [260, 261, 262, 263, 264, 265, 266, 267, 268, 269, 270, 271, 301, 304]
theorem SS.out9 {c s d w p t g l : Nat} {C M C' M' : Mm} (h : SS c s d w s p t g l C M) (fC : fq outCl C C') (gM : fq outMb M M') (i5 : ISnd s (l + 1) C' M') (i1 : ISlo s (g + 1) (l + 1) C' M') (i2 : IRng s (g + 1) (l + 1) C' M') (i3 : ILiv s (g + 1) (l + 1) C' M') (i4 : IEnd s (l + 1) C' M') (i6 : ICnt c (l + 1) C' M') (i7 : IAlq (g + 1) (l + 1) C' M') : SS c s d w s p t (g + 1) (l + 1) C' M' := by
  obtain ⟨hITape, hIDraw, hINois, hIPar, hISub, hIKey, hIRef, hISta, hILnk, hIBeg, hIQue, hIHnd, hICon, hIDue, hIWai, hISnd, hISlo, hISto, hIRng, hILiv, hIEnd, hIPut, hILat, hIInb, hICnt, hIAlq⟩ := h
  have key : ∀ C' M', fq outCl C C' → fq outMb M M' → ISnd s (l + 1) C' M' → ISlo s (g + 1) (l + 1) C' M' → IRng s (g + 1) (l + 1) C' M' → ILiv s (g + 1) (l + 1) C' M' → IEnd s (l + 1) C' M' → ICnt c (l + 1) C' M' → IAlq (g + 1) (l + 1) C' M' → SS c s d w s p t (g + 1) (l + 1) C' M' := fun C' M' fC gM tISnd tISlo tIRng tILiv tIEnd tICnt tIAlq => ⟨hITape.fr fC gM (by decide) (by decide), hIDraw.fr fC gM (by decide) (by decide), hINois.fr fC gM (by decide) (by decide), hIPar.fr fC gM (by decide) (by decide), hISub.fr fC gM (by decide) (by decide), hIKey.fr fC gM (by decide) (by decide), hIRef.fr fC gM (by decide) (by decide), hISta.fr fC gM (by decide) (by decide), hILnk.fr fC gM (by decide) (by decide), hIBeg.fr fC gM (by decide) (by decide), hIQue.fr fC gM (by decide) (by decide), hIHnd.fr fC gM (by decide) (by decide), hICon.fr fC gM (by decide) (by decide), hIDue.fr fC gM (by decide) (by decide), hIWai.fr fC gM (by decide) (by decide), tISnd, tISlo, hISto.fr fC gM (by decide) (by decide), tIRng, tILiv, tIEnd, hIPut.fr fC gM (by decide) (by decide), hILat.fr fC gM (by decide) (by decide), hIInb.fr fC gM (by decide) (by decide), tICnt, tIAlq⟩
  exact key _ _ fC gM i5 i1 i2 i3 i4 i6 i7
abbrev l101 : List Nat := [41, 43, 44, 101]
abbrev l306 : List Nat := [274, 275, 276, 306]
theorem SS.put1 {c s d w e p p' t g l : Nat} {C M C' M' : Mm} (h : SS c s d w e p t g l C M) (fC : fq l101 C C') (gM : fq l306 M M') (i1 : IPut p' C' M') (i2 : ICnt c l C' M') : SS c s d w e p' t g l C' M' := by
  obtain ⟨hITape, hIDraw, hINois, hIPar, hISub, hIKey, hIRef, hISta, hILnk, hIBeg, hIQue, hIHnd, hICon, hIDue, hIWai, hISnd, hISlo, hISto, hIRng, hILiv, hIEnd, hIPut, hILat, hIInb, hICnt, hIAlq⟩ := h
  have key : ∀ C' M', fq l101 C C' → fq l306 M M' → IPut p' C' M' → ICnt c l C' M' → SS c s d w e p' t g l C' M' := fun C' M' fC gM tIPut tICnt => ⟨hITape.fr fC gM (by decide) (by decide), hIDraw.fr fC gM (by decide) (by decide), hINois.fr fC gM (by decide) (by decide), hIPar.fr fC gM (by decide) (by decide), hISub.fr fC gM (by decide) (by decide), hIKey.fr fC gM (by decide) (by decide), hIRef.fr fC gM (by decide) (by decide), hISta.fr fC gM (by decide) (by decide), hILnk.fr fC gM (by decide) (by decide), hIBeg.fr fC gM (by decide) (by decide), hIQue.fr fC gM (by decide) (by decide), hIHnd.fr fC gM (by decide) (by decide), hICon.fr fC gM (by decide) (by decide), hIDue.fr fC gM (by decide) (by decide), hIWai.fr fC gM (by decide) (by decide), hISnd.fr fC gM (by decide) (by decide), hISlo.fr fC gM (by decide) (by decide), hISto.fr fC gM (by decide) (by decide), hIRng.fr fC gM (by decide) (by decide), hILiv.fr fC gM (by decide) (by decide), hIEnd.fr fC gM (by decide) (by decide), tIPut, hILat.fr fC gM (by decide) (by decide), hIInb.fr fC gM (by decide) (by decide), tICnt, hIAlq.fr fC gM (by decide) (by decide)⟩
  exact key _ _ fC gM i1 i2
def PRow (s : Nat) (C M : Mm) (i : Nat) : Prop := ∃ m t, 1 ≤ m ∧ m ≤ 300 ∧ s ≤ t ∧ t < 2 ^ 31 ∧ C.1 43 0 i = nI m ∧ M.1 275 0 i = nI m ∧ C.1 44 0 i = nI t ∧ M.1 274 0 i = nI t ∧ ∀ j, j < m → isB (M.1 276 0 (300 * i + j)) ∧ C.1 42 (C.2.2 41 0 i) j = M.1 276 0 (300 * i + j)
def PP (c s d w t g l n : Nat) (C0 M0 : Mm) (k j : Nat) (C M : Mm) : Prop := j ≤ k ∧ ∃ g' l', SS c s d w s (s + 1) t g' l' (wrI C 101 0 0 (nI j)) (wrI M 306 0 0 (nI j)) ∧ g' ≤ g + k ∧ l' ≤ l + k ∧ C.1 101 0 0 = nI n ∧ M.1 306 0 0 = nI n ∧ (∀ i, k ≤ i → i < n → PRow s C M i) ∧ (∃ n' P, n' ≤ 300 ∧ M.1 291 0 0 = nI n' ∧ j + (n - k) + cnt (fun v => decide (M.1 260 0 v = nI 9)) l' ≤ P ∧ 2 * P + (if n' = 0 then 0 else 1) ≤ c) ∧ M.1 299 = M0.1 299 ∧ C.1 78 = C0.1 78
