/-! NOISE, both sides -/
theorem inI {a b c : Int32} {S : Mm} : F_X12_in a.toInt64 b.toInt64 c.toInt64 S = some (if b ≤ a ∧ a ≤ c then nI 1 else nI 0, S) := by
  have l : ∀ x y : Int32, x.toInt64 < y.toInt64 ↔ x < y := fun x y => by
    rw [Int64.lt_iff_toInt_lt, Int32.toInt_toInt64, Int32.toInt_toInt64, i32_lt]
  unfold F_X12_in L_X12_in_17
  by_cases h1 : a < b
  · rw [if_pos ((lg_cmp_lt _ _).mpr ((l a b).mpr h1)), if_neg (fun h => by
      have h2 := h.1
      rw [i32_le] at h2
      rw [i32_lt] at h1
      omega)]
    rfl
  · rw [if_neg (fun h => h1 ((l a b).mp ((lg_cmp_lt _ _).mp h)))]
    by_cases h2 : c < a
    · rw [if_pos ((lg_cmp_gt _ _).mpr ((l c a).mpr h2)), if_neg (fun h => by
        have h3 := h.2
        rw [i32_le] at h3
        rw [i32_lt] at h2
        omega)]
      rfl
    · rw [if_neg (fun h => h2 ((l c a).mp ((lg_cmp_gt _ _).mp h))), if_pos (by
        rw [i32_lt] at h1 h2
        rw [i32_le, i32_le]
        omega)]
      rfl
def nzF (P : Nat → Bool) : Nat → Nat
  | 0 => 0
  | j + 1 => if nzF P j = 1 then 1 else if P j = true then 1 else 0
theorem nz_le {P : Nat → Bool} (n : Nat) : nzF P n ≤ 1 := by
  cases n with
  | zero => exact Nat.zero_le 1
  | succ n => show (if _ then _ else _) ≤ 1; repeat' split
              all_goals omega
theorem nz_1 {P : Nat → Bool} {n : Nat} (h : nzF P n = 1) : ∃ i, i < n ∧ P i = true ∧ ∀ j, j < i → P j = false := by
  induction n with
  | zero => exact absurd (show (0 : Nat) = 1 from h) (by decide)
  | succ n ih =>
    by_cases h1 : nzF P n = 1
    · obtain ⟨i, i1, i2, i3⟩ := ih h1
      exact ⟨i, by omega, i2, i3⟩
    · have h2 : P n = true := by
        cases hp : P n with
        | true => rfl
        | false =>
          have : nzF P (n + 1) = 0 := by
            show (if nzF P n = 1 then 1 else if P n = true then 1 else 0) = 0
            rw [if_neg h1, hp]
            rfl
          omega
      refine ⟨n, by omega, h2, ?_⟩
      clear ih h h2
      induction n with
      | zero => intro j hj; omega
      | succ n ih2 =>
        intro j hj
        have e : nzF P (n + 1) = (if nzF P n = 1 then 1 else if P n = true then 1 else 0) := rfl
        rw [e] at h1
        by_cases h3 : nzF P n = 1
        · rw [if_pos h3] at h1; exact absurd rfl h1
        · rw [if_neg h3] at h1
          by_cases hjn : j = n
          · subst hjn
            cases hp : P j with
            | false => rfl
            | true => rw [hp] at h1; exact absurd rfl h1
          · exact ih2 h3 j (by omega)
theorem nz_0 {P : Nat → Bool} {n : Nat} (h : nzF P n = 0) : ∀ j, j < n → P j = false := by
  induction n with
  | zero => intro j hj; omega
  | succ n ih =>
    intro j hj
    have e : nzF P (n + 1) = (if nzF P n = 1 then 1 else if P n = true then 1 else 0) := rfl
    rw [e] at h
    by_cases h3 : nzF P n = 1
    · rw [if_pos h3] at h; exact absurd h (by decide)
    · rw [if_neg h3] at h
      by_cases hjn : j = n
      · subst hjn
        cases hp : P j with
        | false => rfl
        | true => rw [hp] at h; exact absurd h (by decide)
      · have := nz_le (P := P) n
        exact ih (by omega) j (by omega)
theorem noisy {s : Nat} {C M : Mm} (hN : INois C M) (h76 : C.1 76 0 0 = nI s) (h298 : M.1 298 0 0 = nI s) : ∃ z, z ≤ 1 ∧ F_X5_isNoisy C = some (nI z, C) ∧ F_X12_isNoisy M = some (nI z, M) := by
  obtain ⟨n, n1, n2, n3, n4⟩ := hN
  generalize hP : (fun i => decide (M.1 272 0 i ≤ nI s ∧ nI s ≤ M.1 273 0 i)) = P
  have pT : ∀ i, P i = true → M.1 272 0 i ≤ nI s ∧ nI s ≤ M.1 273 0 i := fun i h => by
    rw [← hP] at h
    exact of_decide_eq_true h
  have pF : ∀ i, P i = false → ¬ (M.1 272 0 i ≤ nI s ∧ nI s ≤ M.1 273 0 i) := fun i h => by
    rw [← hP] at h
    exact of_decide_eq_false h
  have stC : ∀ i m, i < n → P i = false → L_X5_isNoisy_2 (m + 1) (nI i) C = L_X5_isNoisy_2 m (nI (i + 1)) C := by
    intro i m hi hp
    have q := pF i hp
    rw [L_X5_isNoisy_2]
    unfold L_X5_isNoisy_38
    rw [nI_1]
    refine e_gf n2 (e_N (by first | (simp (disch := first | omega | assumption) only [wrI_s, wrI_o, wrI_r, wrL_1, wrL_r, wrL_s, wrL_o, blk_in, blk_out, blk_r, lit, litL, b00, b11, nI_l, lN_add, lN_mul, lN_sub, nI_add, pk_mul, pk_sub, pk_div, remN, Nat.add_sub_cancel, Nat.add_sub_cancel_left, Nat.zero_add, Nat.add_zero, nI_eq, nI_leI, nI_ltI, nI_m1, m1_lt, neg_lt, neg_le, neg_ge, neg_gt, neg_eq, not_true, not_false_iff]; done) | (simp (disch := first | omega | assumption) only [wrI_s, wrI_o, wrI_r, wrL_1, wrL_r, wrL_s, wrL_o, blk_in, blk_out, blk_r, lit, litL, b00, b11, nI_l, lN_add, lN_mul, lN_sub, nI_add, pk_mul, pk_sub, pk_div, remN, Nat.add_sub_cancel, Nat.add_sub_cancel_left, Nat.zero_add, Nat.add_zero, nI_eq, nI_leI, nI_ltI, nI_m1, m1_lt, neg_lt, neg_le, neg_ge, neg_gt, neg_eq, not_true, not_false_iff]; omega)) (e_ldA rfl (by omega) (by decide) (by decide) (n4 i hi).1 (e_gf h76 ?_)))
    by_cases h1 : nI s < M.1 272 0 i
    · exact e_T h1 rfl
    · refine e_N h1 (e_gf h76 (e_ldA rfl (by omega) (by decide) (by decide) (n4 i hi).2 (e_T ?_ rfl)))
      rw [i32_lt] at h1 ⊢
      rw [i32_le, i32_le] at q
      omega
  refine ⟨nzF P n, nz_le n, ?_, ?_⟩
  · unfold F_X5_isNoisy
    have hz := nz_le (P := P) n
    rcases (show nzF P n = 0 ∨ nzF P n = 1 by omega) with h0 | h1
    · rw [h0]
      refine loop0 (fun m (q : Int32 × Mm) => L_X5_isNoisy_2 m q.1 q.2) (fun j => (nI j, C)) n (by omega) (fun m j hj => ?_) (fun m => ?_)
      · exact stC j m hj (nz_0 h0 j hj)
      · dsimp only
        rw [L_X5_isNoisy_2]
        exact e_gf n2 (e_T (by first | (simp (disch := first | omega | assumption) only [wrI_s, wrI_o, wrI_r, wrL_1, wrL_r, wrL_s, wrL_o, blk_in, blk_out, blk_r, lit, litL, b00, b11, nI_l, lN_add, lN_mul, lN_sub, nI_add, pk_mul, pk_sub, pk_div, remN, Nat.add_sub_cancel, Nat.add_sub_cancel_left, Nat.zero_add, Nat.add_zero, nI_eq, nI_leI, nI_ltI, nI_m1, m1_lt, neg_lt, neg_le, neg_ge, neg_gt, neg_eq, not_true, not_false_iff]; done) | (simp (disch := first | omega | assumption) only [wrI_s, wrI_o, wrI_r, wrL_1, wrL_r, wrL_s, wrL_o, blk_in, blk_out, blk_r, lit, litL, b00, b11, nI_l, lN_add, lN_mul, lN_sub, nI_add, pk_mul, pk_sub, pk_div, remN, Nat.add_sub_cancel, Nat.add_sub_cancel_left, Nat.zero_add, Nat.add_zero, nI_eq, nI_leI, nI_ltI, nI_m1, m1_lt, neg_lt, neg_le, neg_ge, neg_gt, neg_eq, not_true, not_false_iff]; omega)) rfl)
    · rw [h1]
      obtain ⟨i, i1, i2, i3⟩ := nz_1 h1
      refine loop0 (fun m (q : Int32 × Mm) => L_X5_isNoisy_2 m q.1 q.2) (fun j => (nI j, C)) i (by omega) (fun m j hj => ?_) (fun m => ?_)
      · exact stC j m (by omega) (i3 j hj)
      · dsimp only
        have q := pT i i2
        rw [i32_le, i32_le] at q
        rw [L_X5_isNoisy_2]
        refine e_gf n2 (e_N (by first | (simp (disch := first | omega | assumption) only [wrI_s, wrI_o, wrI_r, wrL_1, wrL_r, wrL_s, wrL_o, blk_in, blk_out, blk_r, lit, litL, b00, b11, nI_l, lN_add, lN_mul, lN_sub, nI_add, pk_mul, pk_sub, pk_div, remN, Nat.add_sub_cancel, Nat.add_sub_cancel_left, Nat.zero_add, Nat.add_zero, nI_eq, nI_leI, nI_ltI, nI_m1, m1_lt, neg_lt, neg_le, neg_ge, neg_gt, neg_eq, not_true, not_false_iff]; done) | (simp (disch := first | omega | assumption) only [wrI_s, wrI_o, wrI_r, wrL_1, wrL_r, wrL_s, wrL_o, blk_in, blk_out, blk_r, lit, litL, b00, b11, nI_l, lN_add, lN_mul, lN_sub, nI_add, pk_mul, pk_sub, pk_div, remN, Nat.add_sub_cancel, Nat.add_sub_cancel_left, Nat.zero_add, Nat.add_zero, nI_eq, nI_leI, nI_ltI, nI_m1, m1_lt, neg_lt, neg_le, neg_ge, neg_gt, neg_eq, not_true, not_false_iff]; omega)) (e_ldA rfl (by omega) (by decide) (by decide) (n4 i i1).1 (e_gf h76 (e_N ?_ (e_gf h76 (e_ldA rfl (by omega) (by decide) (by decide) (n4 i i1).2 (e_N ?_ rfl)))))))
        · rw [i32_lt]; omega
        · rw [i32_lt]; omega
  · unfold F_X12_isNoisy
    refine loop0 (fun m (q : Int32 × Int32 × Mm) => L_X12_isNoisy_4 m q.1 q.2.1 q.2.2) (fun j => (nI (nzF P j), nI j, M)) n (by omega) (fun m j hj => ?_) (fun m => ?_)
    · dsimp only
      have e : nzF P (j + 1) = (if nzF P j = 1 then 1 else if P j = true then 1 else 0) := rfl
      have hz := nz_le (P := P) j
      rw [L_X12_isNoisy_4, e]
      unfold L_X12_isNoisy_41 L_X12_isNoisy_46
      rw [nI_1]
      refine e_gf n3 (e_N (by first | (simp (disch := first | omega | assumption) only [wrI_s, wrI_o, wrI_r, wrL_1, wrL_r, wrL_s, wrL_o, blk_in, blk_out, blk_r, lit, litL, b00, b11, nI_l, lN_add, lN_mul, lN_sub, nI_add, pk_mul, pk_sub, pk_div, remN, Nat.add_sub_cancel, Nat.add_sub_cancel_left, Nat.zero_add, Nat.add_zero, nI_eq, nI_leI, nI_ltI, nI_m1, m1_lt, neg_lt, neg_le, neg_ge, neg_gt, neg_eq, not_true, not_false_iff]; done) | (simp (disch := first | omega | assumption) only [wrI_s, wrI_o, wrI_r, wrL_1, wrL_r, wrL_s, wrL_o, blk_in, blk_out, blk_r, lit, litL, b00, b11, nI_l, lN_add, lN_mul, lN_sub, nI_add, pk_mul, pk_sub, pk_div, remN, Nat.add_sub_cancel, Nat.add_sub_cancel_left, Nat.zero_add, Nat.add_zero, nI_eq, nI_leI, nI_ltI, nI_m1, m1_lt, neg_lt, neg_le, neg_ge, neg_gt, neg_eq, not_true, not_false_iff]; omega)) ?_)
      by_cases h1 : nzF P j = 1
      · rw [h1, if_pos rfl]
        exact e_N (by decide) rfl
      · rw [if_neg h1]
        have h0 : nzF P j = 0 := by omega
        rw [h0]
        refine e_T rfl (e_gf h298 (e_ldA rfl (by omega) (by decide) (by decide) rfl (e_ldA rfl (by omega) (by decide) (by decide) rfl (e_cl inI ?_))))
        cases hp : P j with
        | true =>
          rw [if_pos (pT j hp)]
          exact e_N (by decide) rfl
        | false =>
          rw [if_neg (pF j hp)]
          exact e_T rfl rfl
    · dsimp only
      have hz := nz_le (P := P) n
      rw [L_X12_isNoisy_4]
      refine e_gf n3 (e_T (by first | (simp (disch := first | omega | assumption) only [wrI_s, wrI_o, wrI_r, wrL_1, wrL_r, wrL_s, wrL_o, blk_in, blk_out, blk_r, lit, litL, b00, b11, nI_l, lN_add, lN_mul, lN_sub, nI_add, pk_mul, pk_sub, pk_div, remN, Nat.add_sub_cancel, Nat.add_sub_cancel_left, Nat.zero_add, Nat.add_zero, nI_eq, nI_leI, nI_ltI, nI_m1, m1_lt, neg_lt, neg_le, neg_ge, neg_gt, neg_eq, not_true, not_false_iff]; done) | (simp (disch := first | omega | assumption) only [wrI_s, wrI_o, wrI_r, wrL_1, wrL_r, wrL_s, wrL_o, blk_in, blk_out, blk_r, lit, litL, b00, b11, nI_l, lN_add, lN_mul, lN_sub, nI_add, pk_mul, pk_sub, pk_div, remN, Nat.add_sub_cancel, Nat.add_sub_cancel_left, Nat.zero_add, Nat.add_zero, nI_eq, nI_leI, nI_ltI, nI_m1, m1_lt, neg_lt, neg_le, neg_ge, neg_gt, neg_eq, not_true, not_false_iff]; omega)) (e_gd ?_ rfl))
      rcases (show nzF P n = 0 ∨ nzF P n = 1 by omega) with h0 | h1
      · rw [h0]; decide
      · rw [h1]; decide
