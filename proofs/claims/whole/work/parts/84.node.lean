/-! WHOSE ADDRESS STANDS THERE, the reference -/
theorem ndM {M : Mm} {p : Nat} {b : Nat → Nat} (hp : p + 6 ≤ 300) (hb : ∀ j, j < 6 → M.1 278 0 (p + j) = nI (b j)) (hB : ∀ j, j < 6 → b j < 256) : (adOk b → F_X12_nodeAt (nI p) M = some (nI (b 5), M)) ∧ (¬ adOk b → F_X12_nodeAt (nI p) M = some (-nI 1, M)) := by
  have r0 : M.1 278 0 p = nI (b 0) := hb 0 (by omega)
  have q0 := hB 0 (by omega)
  have q1 := hB 1 (by omega)
  have q2 := hB 2 (by omega)
  have q3 := hB 3 (by omega)
  have q4 := hB 4 (by omega)
  have q5 := hB 5 (by omega)
  have f71 : L_X12_nodeAt_71 (nI p) M = some (-nI 1, M) := by
    unfold L_X12_nodeAt_71 L_X12_nodeAt_72
    exact e_T rfl rfl
  have ld : ∀ (j : Nat) (K : Int32 → Option (Int32 × Mm)), j < 6 → ldA M 278 0 300 1 (nI p + nI j) K = K (nI (b j)) := by
    intro j K hj
    rw [nI_add]
    exact e_ldA rfl (by omega) (by decide) (by decide) (hb j hj) rfl
  unfold F_X12_nodeAt adOk
  rw [show ldA M 278 0 300 1 (nI p) = fun K => K (nI (b 0)) from funext fun (K : Int32 → Option (Int32 × Mm)) => e_ldA rfl (by omega) (by decide) (by decide) r0 rfl]
  dsimp only
  by_cases h0 : b 0 = 2
  · rw [if_pos (show nI (b 0) = 2 by rw [h0]; rfl), show (1 : Int32) = nI 1 from rfl, ld 1 _ (by decide)]
    by_cases h1 : b 1 = 0
    · rw [if_pos (show nI (b 1) = 0 by rw [h1]; rfl), show (2 : Int32) = nI 2 from rfl, ld 2 _ (by decide)]
      by_cases h2 : b 2 = 0
      · rw [if_pos (show nI (b 2) = 0 by rw [h2]; rfl), show (3 : Int32) = nI 3 from rfl, ld 3 _ (by decide)]
        by_cases h3 : b 3 = 0
        · rw [if_pos (show nI (b 3) = 0 by rw [h3]; rfl), show (4 : Int32) = nI 4 from rfl, ld 4 _ (by decide)]
          by_cases h4 : b 4 = 0
          · rw [if_pos (show nI (b 4) = 0 by rw [h4]; rfl), show (5 : Int32) = nI 5 from rfl, ld 5 _ (by decide)]
            by_cases h5 : b 5 < 9
            · refine ⟨fun _ => ?_, fun h => absurd ⟨h0, h1, h2, h3, h4, h5⟩ h⟩
              refine e_N (by first | (simp (disch := first | omega | assumption) only [wrI_s, wrI_o, wrI_r, wrL_1, wrL_r, wrL_s, wrL_o, blk_in, blk_out, blk_r, lit, litL, b00, b11, nI_l, lN_add, lN_mul, lN_sub, nI_add, pk_mul, pk_sub, pk_div, remN, Nat.add_sub_cancel, Nat.add_sub_cancel_left, Nat.zero_add, Nat.add_zero, nI_eq, nI_leI, nI_ltI, nI_m1, m1_lt, neg_lt, neg_le, neg_ge, neg_gt, neg_eq, not_true, not_false_iff]; done) | (simp (disch := first | omega | assumption) only [wrI_s, wrI_o, wrI_r, wrL_1, wrL_r, wrL_s, wrL_o, blk_in, blk_out, blk_r, lit, litL, b00, b11, nI_l, lN_add, lN_mul, lN_sub, nI_add, pk_mul, pk_sub, pk_div, remN, Nat.add_sub_cancel, Nat.add_sub_cancel_left, Nat.zero_add, Nat.add_zero, nI_eq, nI_leI, nI_ltI, nI_m1, m1_lt, neg_lt, neg_le, neg_ge, neg_gt, neg_eq, not_true, not_false_iff]; omega)) ?_
              unfold L_X12_nodeAt_72
              refine e_N (by decide) ?_
              rw [show (5 : Int32) = nI 5 from rfl, ld 5 _ (by decide)]
            · exact ⟨fun h => absurd h.2.2.2.2.2 h5, fun _ => e_T (by first | (simp (disch := first | omega | assumption) only [wrI_s, wrI_o, wrI_r, wrL_1, wrL_r, wrL_s, wrL_o, blk_in, blk_out, blk_r, lit, litL, b00, b11, nI_l, lN_add, lN_mul, lN_sub, nI_add, pk_mul, pk_sub, pk_div, remN, Nat.add_sub_cancel, Nat.add_sub_cancel_left, Nat.zero_add, Nat.add_zero, nI_eq, nI_leI, nI_ltI, nI_m1, m1_lt, neg_lt, neg_le, neg_ge, neg_gt, neg_eq, not_true, not_false_iff]; done) | (simp (disch := first | omega | assumption) only [wrI_s, wrI_o, wrI_r, wrL_1, wrL_r, wrL_s, wrL_o, blk_in, blk_out, blk_r, lit, litL, b00, b11, nI_l, lN_add, lN_mul, lN_sub, nI_add, pk_mul, pk_sub, pk_div, remN, Nat.add_sub_cancel, Nat.add_sub_cancel_left, Nat.zero_add, Nat.add_zero, nI_eq, nI_leI, nI_ltI, nI_m1, m1_lt, neg_lt, neg_le, neg_ge, neg_gt, neg_eq, not_true, not_false_iff]; omega)) f71⟩
          · exact ⟨fun h => absurd h.2.2.2.2.1 h4, fun _ => e_N (nI_ne0 (by omega) (by omega)) f71⟩
        · exact ⟨fun h => absurd h.2.2.2.1 h3, fun _ => e_N (nI_ne0 (by omega) (by omega)) f71⟩
      · exact ⟨fun h => absurd h.2.2.1 h2, fun _ => e_N (nI_ne0 (by omega) (by omega)) f71⟩
    · exact ⟨fun h => absurd h.2.1 h1, fun _ => e_N (nI_ne0 (by omega) (by omega)) f71⟩
  · exact ⟨fun h => absurd h.1 h0, fun _ => e_N (by first | (simp (disch := first | omega | assumption) only [wrI_s, wrI_o, wrI_r, wrL_1, wrL_r, wrL_s, wrL_o, blk_in, blk_out, blk_r, lit, litL, b00, b11, nI_l, lN_add, lN_mul, lN_sub, nI_add, pk_mul, pk_sub, pk_div, remN, Nat.add_sub_cancel, Nat.add_sub_cancel_left, Nat.zero_add, Nat.add_zero, nI_eq, nI_leI, nI_ltI, nI_m1, m1_lt, neg_lt, neg_le, neg_ge, neg_gt, neg_eq, not_true, not_false_iff]; done) | (simp (disch := first | omega | assumption) only [wrI_s, wrI_o, wrI_r, wrL_1, wrL_r, wrL_s, wrL_o, blk_in, blk_out, blk_r, lit, litL, b00, b11, nI_l, lN_add, lN_mul, lN_sub, nI_add, pk_mul, pk_sub, pk_div, remN, Nat.add_sub_cancel, Nat.add_sub_cancel_left, Nat.zero_add, Nat.add_zero, nI_eq, nI_leI, nI_ltI, nI_m1, m1_lt, neg_lt, neg_le, neg_ge, neg_gt, neg_eq, not_true, not_false_iff]; omega)) f71⟩
