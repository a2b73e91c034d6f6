/-! WHOSE ADDRESS STANDS THERE, both sides -/
def adOk (b : Nat → Nat) : Prop := b 0 = 2 ∧ b 1 = 0 ∧ b 2 = 0 ∧ b 3 = 0 ∧ b 4 = 0 ∧ b 5 < 9
theorem ndC {C : Mm} {R p : Nat} {b : Nat → Nat} (hR : R < 40) (hp : p + 6 ≤ 300) (hb : ∀ j, j < 6 → C.1 27 R (p + j) = nI (b j)) (hB : ∀ j, j < 6 → b j < 256) : (adOk b → F_X2_nodeAt 27 R (nI p) C = some (nI (b 5), C)) ∧ (¬ adOk b → F_X2_nodeAt 27 R (nI p) C = some (-nI 1, C)) := by
  have ho : okP false 27 R = true := okP_n (by decide) hR
  have rd : ∀ j, j < 6 → rdI C 27 R (p + j) = nI (b j) := fun j hj => hb j hj
  have stp : ∀ i m, 1 ≤ i → i < 5 → (b i = 0 → L_X2_nodeAt_2 27 R (nI p) (m + 1) (nI i) C = L_X2_nodeAt_2 27 R (nI p) m (nI (i + 1)) C) ∧ (¬ b i = 0 → L_X2_nodeAt_2 27 R (nI p) (m + 1) (nI i) C = some (-nI 1, C)) := by
    intro i m h1 h5
    have hBi := hB i (by omega)
    rw [L_X2_nodeAt_2]
    constructor
    · intro h0
      refine e_N (by first | (simp (disch := first | omega | assumption) only [wrI_s, wrI_o, wrI_r, wrL_1, wrL_r, wrL_s, wrL_o, blk_in, blk_out, blk_r, lit, litL, b00, b11, nI_l, lN_add, lN_mul, lN_sub, nI_add, pk_mul, pk_sub, pk_div, remN, Nat.add_sub_cancel, Nat.add_sub_cancel_left, Nat.zero_add, Nat.add_zero, nI_eq, nI_leI, nI_ltI, nI_m1, m1_lt, neg_lt, neg_le, neg_ge, neg_gt, neg_eq, not_true, not_false_iff]; done) | (simp (disch := first | omega | assumption) only [wrI_s, wrI_o, wrI_r, wrL_1, wrL_r, wrL_s, wrL_o, blk_in, blk_out, blk_r, lit, litL, b00, b11, nI_l, lN_add, lN_mul, lN_sub, nI_add, pk_mul, pk_sub, pk_div, remN, Nat.add_sub_cancel, Nat.add_sub_cancel_left, Nat.zero_add, Nat.add_zero, nI_eq, nI_leI, nI_ltI, nI_m1, m1_lt, neg_lt, neg_le, neg_ge, neg_gt, neg_eq, not_true, not_false_iff]; omega)) (e_ldP (j := p + i) (by first | (simp (disch := first | omega | assumption) only [wrI_s, wrI_o, wrI_r, wrL_1, wrL_r, wrL_s, wrL_o, blk_in, blk_out, blk_r, lit, litL, b00, b11, nI_l, lN_add, lN_mul, lN_sub, nI_add, pk_mul, pk_sub, pk_div, remN, Nat.add_sub_cancel, Nat.add_sub_cancel_left, Nat.zero_add, Nat.add_zero]; done) | (simp (disch := first | omega | assumption) only [wrI_s, wrI_o, wrI_r, wrL_1, wrL_r, wrL_s, wrL_o, blk_in, blk_out, blk_r, lit, litL, b00, b11, nI_l, lN_add, lN_mul, lN_sub, nI_add, pk_mul, pk_sub, pk_div, remN, Nat.add_sub_cancel, Nat.add_sub_cancel_left, Nat.zero_add, Nat.add_zero]; rfl) | rfl) ho (show p + i < 300 by omega) (by decide) (rd i (by omega)) (e_T (by rw [h0]; rfl) ?_))
      rw [nI_1]
    · intro h0
      exact e_N (by first | (simp (disch := first | omega | assumption) only [wrI_s, wrI_o, wrI_r, wrL_1, wrL_r, wrL_s, wrL_o, blk_in, blk_out, blk_r, lit, litL, b00, b11, nI_l, lN_add, lN_mul, lN_sub, nI_add, pk_mul, pk_sub, pk_div, remN, Nat.add_sub_cancel, Nat.add_sub_cancel_left, Nat.zero_add, Nat.add_zero, nI_eq, nI_leI, nI_ltI, nI_m1, m1_lt, neg_lt, neg_le, neg_ge, neg_gt, neg_eq, not_true, not_false_iff]; done) | (simp (disch := first | omega | assumption) only [wrI_s, wrI_o, wrI_r, wrL_1, wrL_r, wrL_s, wrL_o, blk_in, blk_out, blk_r, lit, litL, b00, b11, nI_l, lN_add, lN_mul, lN_sub, nI_add, pk_mul, pk_sub, pk_div, remN, Nat.add_sub_cancel, Nat.add_sub_cancel_left, Nat.zero_add, Nat.add_zero, nI_eq, nI_leI, nI_ltI, nI_m1, m1_lt, neg_lt, neg_le, neg_ge, neg_gt, neg_eq, not_true, not_false_iff]; omega)) (e_ldP (j := p + i) (by first | (simp (disch := first | omega | assumption) only [wrI_s, wrI_o, wrI_r, wrL_1, wrL_r, wrL_s, wrL_o, blk_in, blk_out, blk_r, lit, litL, b00, b11, nI_l, lN_add, lN_mul, lN_sub, nI_add, pk_mul, pk_sub, pk_div, remN, Nat.add_sub_cancel, Nat.add_sub_cancel_left, Nat.zero_add, Nat.add_zero]; done) | (simp (disch := first | omega | assumption) only [wrI_s, wrI_o, wrI_r, wrL_1, wrL_r, wrL_s, wrL_o, blk_in, blk_out, blk_r, lit, litL, b00, b11, nI_l, lN_add, lN_mul, lN_sub, nI_add, pk_mul, pk_sub, pk_div, remN, Nat.add_sub_cancel, Nat.add_sub_cancel_left, Nat.zero_add, Nat.add_zero]; rfl) | rfl) ho (show p + i < 300 by omega) (by decide) (rd i (by omega)) (e_N (nI_ne0 (by omega) (by omega)) rfl))
  have r0 : rdI C 27 R p = nI (b 0) := rd 0 (by omega)
  have h0B := hB 0 (by omega)
  have h5B := hB 5 (by omega)
  have lst : ∀ m, (b 0 = 2 ∧ b 5 < 9 → L_X2_nodeAt_2 27 R (nI p) (m + 1) (nI 5) C = some (nI (b 5), C)) ∧ (¬ (b 0 = 2 ∧ b 5 < 9) → L_X2_nodeAt_2 27 R (nI p) (m + 1) (nI 5) C = some (-nI 1, C)) := by
    intro m
    rw [L_X2_nodeAt_2]
    unfold L_X2_nodeAt_49
    constructor
    · rintro ⟨h0, h5⟩
      exact e_T (by decide) (e_ldP rfl ho (show p < 300 by omega) (by decide) r0 (e_T (by rw [h0]; rfl) (e_ldP (j := p + 5) (by first | (simp (disch := first | omega | assumption) only [wrI_s, wrI_o, wrI_r, wrL_1, wrL_r, wrL_s, wrL_o, blk_in, blk_out, blk_r, lit, litL, b00, b11, nI_l, lN_add, lN_mul, lN_sub, nI_add, pk_mul, pk_sub, pk_div, remN, Nat.add_sub_cancel, Nat.add_sub_cancel_left, Nat.zero_add, Nat.add_zero]; done) | (simp (disch := first | omega | assumption) only [wrI_s, wrI_o, wrI_r, wrL_1, wrL_r, wrL_s, wrL_o, blk_in, blk_out, blk_r, lit, litL, b00, b11, nI_l, lN_add, lN_mul, lN_sub, nI_add, pk_mul, pk_sub, pk_div, remN, Nat.add_sub_cancel, Nat.add_sub_cancel_left, Nat.zero_add, Nat.add_zero]; rfl) | rfl) ho (show p + 5 < 300 by omega) (by decide) (rd 5 (by omega)) (e_cl (no_y h5) (e_N (by decide) (e_ldP (j := p + 5) (by first | (simp (disch := first | omega | assumption) only [wrI_s, wrI_o, wrI_r, wrL_1, wrL_r, wrL_s, wrL_o, blk_in, blk_out, blk_r, lit, litL, b00, b11, nI_l, lN_add, lN_mul, lN_sub, nI_add, pk_mul, pk_sub, pk_div, remN, Nat.add_sub_cancel, Nat.add_sub_cancel_left, Nat.zero_add, Nat.add_zero]; done) | (simp (disch := first | omega | assumption) only [wrI_s, wrI_o, wrI_r, wrL_1, wrL_r, wrL_s, wrL_o, blk_in, blk_out, blk_r, lit, litL, b00, b11, nI_l, lN_add, lN_mul, lN_sub, nI_add, pk_mul, pk_sub, pk_div, remN, Nat.add_sub_cancel, Nat.add_sub_cancel_left, Nat.zero_add, Nat.add_zero]; rfl) | rfl) ho (show p + 5 < 300 by omega) (by decide) (rd 5 (by omega)) rfl))))))
    · intro hn
      refine e_T (by decide) (e_ldP rfl ho (show p < 300 by omega) (by decide) r0 ?_)
      by_cases h0 : b 0 = 2
      · exact e_T (by rw [h0]; rfl) (e_ldP (j := p + 5) (by first | (simp (disch := first | omega | assumption) only [wrI_s, wrI_o, wrI_r, wrL_1, wrL_r, wrL_s, wrL_o, blk_in, blk_out, blk_r, lit, litL, b00, b11, nI_l, lN_add, lN_mul, lN_sub, nI_add, pk_mul, pk_sub, pk_div, remN, Nat.add_sub_cancel, Nat.add_sub_cancel_left, Nat.zero_add, Nat.add_zero]; done) | (simp (disch := first | omega | assumption) only [wrI_s, wrI_o, wrI_r, wrL_1, wrL_r, wrL_s, wrL_o, blk_in, blk_out, blk_r, lit, litL, b00, b11, nI_l, lN_add, lN_mul, lN_sub, nI_add, pk_mul, pk_sub, pk_div, remN, Nat.add_sub_cancel, Nat.add_sub_cancel_left, Nat.zero_add, Nat.add_zero]; rfl) | rfl) ho (show p + 5 < 300 by omega) (by decide) (rd 5 (by omega)) (e_cl (no_n (by omega) (by omega)) (e_T rfl rfl)))
      · exact e_N (by first | (simp (disch := first | omega | assumption) only [wrI_s, wrI_o, wrI_r, wrL_1, wrL_r, wrL_s, wrL_o, blk_in, blk_out, blk_r, lit, litL, b00, b11, nI_l, lN_add, lN_mul, lN_sub, nI_add, pk_mul, pk_sub, pk_div, remN, Nat.add_sub_cancel, Nat.add_sub_cancel_left, Nat.zero_add, Nat.add_zero, nI_eq, nI_leI, nI_ltI, nI_m1, m1_lt, neg_lt, neg_le, neg_ge, neg_gt, neg_eq, not_true, not_false_iff]; done) | (simp (disch := first | omega | assumption) only [wrI_s, wrI_o, wrI_r, wrL_1, wrL_r, wrL_s, wrL_o, blk_in, blk_out, blk_r, lit, litL, b00, b11, nI_l, lN_add, lN_mul, lN_sub, nI_add, pk_mul, pk_sub, pk_div, remN, Nat.add_sub_cancel, Nat.add_sub_cancel_left, Nat.zero_add, Nat.add_zero, nI_eq, nI_leI, nI_ltI, nI_m1, m1_lt, neg_lt, neg_le, neg_ge, neg_gt, neg_eq, not_true, not_false_iff]; omega)) rfl
  obtain ⟨m, hm⟩ := fu_n (N := 4) (by decide)
  have e0 : F_X2_nodeAt 27 R (nI p) C = L_X2_nodeAt_2 27 R (nI p) (m + 1 + 1 + 1 + 1 + 1) (nI 1) C := by
    unfold F_X2_nodeAt
    rw [hm]
    rfl
  unfold adOk
  rw [e0]
  by_cases h1 : b 1 = 0
  · rw [(stp 1 _ (by decide) (by decide)).1 h1]
    by_cases h2 : b 2 = 0
    · rw [(stp 2 _ (by decide) (by decide)).1 h2]
      by_cases h3 : b 3 = 0
      · rw [(stp 3 _ (by decide) (by decide)).1 h3]
        by_cases h4 : b 4 = 0
        · rw [(stp 4 _ (by decide) (by decide)).1 h4]
          exact ⟨fun h => (lst m).1 ⟨h.1, h.2.2.2.2.2⟩, fun h => (lst m).2 (fun q => h ⟨q.1, h1, h2, h3, h4, q.2⟩)⟩
        · rw [(stp 4 _ (by decide) (by decide)).2 h4]
          exact ⟨fun h => absurd h.2.2.2.2.1 h4, fun _ => rfl⟩
      · rw [(stp 3 _ (by decide) (by decide)).2 h3]
        exact ⟨fun h => absurd h.2.2.2.1 h3, fun _ => rfl⟩
    · rw [(stp 2 _ (by decide) (by decide)).2 h2]
      exact ⟨fun h => absurd h.2.2.1 h2, fun _ => rfl⟩
  · rw [(stp 1 _ (by decide) (by decide)).2 h1]
    exact ⟨fun h => absurd h.2.1 h1, fun _ => rfl⟩
