/-! FRAMES ARE SPOILED, both sides -/
def spC (C : Mm) (s j : Nat) (D : Mm) : Prop := fq [32] C D ∧ (∀ r t, r < 40 → t < 2 ^ 30 → C.1 31 0 r = nI t → D.1 32 0 r = if r < j ∧ s ≤ t then nI 1 else C.1 32 0 r)
theorem spoC {s g l : Nat} {C M : Mm} (hs : s < 2 ^ 29) (hS : ISlo s g l C M) (hR : IRng s g l C M) : ∃ D, spC C s (if g < 40 then g else 40) D ∧ F_X5_spoilAll C = some ((), D) := by
  obtain ⟨o1, o2, o3, o4, o5, o6, o7, o8⟩ := hS
  have hk : (if g < 40 then g else 40) ≤ 40 ∧ (if g < 40 then g else 40) ≤ g := by split <;> omega
  generalize (if g < 40 then g else 40) = K at *
  unfold F_X5_spoilAll
  refine loopR (fun m v T => L_X5_spoilAll_2 m v T) (fun o => ∃ D, spC C s K D ∧ o = some ((), D)) (fun j T => spC C s j T) 0 K (by omega) (by omega) (fun m j T _ hj hP ih => ?_) (fun m T hP => ?_) C ⟨fq.rf, fun r t h1 h2 h3 => by rw [if_neg (by omega)]⟩
  · obtain ⟨p1, p2⟩ := hP
    obtain ⟨n, sd, t, q1, q2, q3, q4, q5, q6, q7, q8, q9, q10, q11, -⟩ := hR j (by omega) (by omega)
    have t72 : T.1 72 0 0 = nI K := by rw [p1.1 72 (nc (by decide))]; exact o6
    have t31 : T.1 31 0 j = nI t := by rw [p1.1 31 (nc (by decide))]; exact q11
    have t76 : T.1 76 0 0 = nI s := by rw [p1.1 76 (nc (by decide))]; exact o1
    by_cases hts : t < s
    · have e : L_X5_spoilAll_2 (m + 1) (nI j) T = L_X5_spoilAll_2 m (nI (j + 1)) T := by
        rw [L_X5_spoilAll_2]
        unfold L_X5_spoilAll_30
        rw [nI_1]
        exact e_gf t72 (e_N (by first | (simp (disch := first | omega | assumption) only [wrI_s, wrI_o, wrI_r, wrL_1, wrL_r, wrL_s, wrL_o, blk_in, blk_out, blk_r, lit, litL, b00, b11, nI_l, lN_add, lN_mul, lN_sub, nI_add, pk_mul, pk_sub, pk_div, remN, Nat.add_sub_cancel, Nat.add_sub_cancel_left, Nat.zero_add, Nat.add_zero, nI_eq, nI_leI, nI_ltI, nI_m1, m1_lt, neg_lt, neg_le, neg_ge, neg_gt, neg_eq, not_true, not_false_iff]; done) | (simp (disch := first | omega | assumption) only [wrI_s, wrI_o, wrI_r, wrL_1, wrL_r, wrL_s, wrL_o, blk_in, blk_out, blk_r, lit, litL, b00, b11, nI_l, lN_add, lN_mul, lN_sub, nI_add, pk_mul, pk_sub, pk_div, remN, Nat.add_sub_cancel, Nat.add_sub_cancel_left, Nat.zero_add, Nat.add_zero, nI_eq, nI_leI, nI_ltI, nI_m1, m1_lt, neg_lt, neg_le, neg_ge, neg_gt, neg_eq, not_true, not_false_iff]; omega)) (e_ldA rfl (by omega) (by decide) (by decide) t31 (e_gf t76 (e_T (by first | (simp (disch := first | omega | assumption) only [wrI_s, wrI_o, wrI_r, wrL_1, wrL_r, wrL_s, wrL_o, blk_in, blk_out, blk_r, lit, litL, b00, b11, nI_l, lN_add, lN_mul, lN_sub, nI_add, pk_mul, pk_sub, pk_div, remN, Nat.add_sub_cancel, Nat.add_sub_cancel_left, Nat.zero_add, Nat.add_zero, nI_eq, nI_leI, nI_ltI, nI_m1, m1_lt, neg_lt, neg_le, neg_ge, neg_gt, neg_eq, not_true, not_false_iff]; done) | (simp (disch := first | omega | assumption) only [wrI_s, wrI_o, wrI_r, wrL_1, wrL_r, wrL_s, wrL_o, blk_in, blk_out, blk_r, lit, litL, b00, b11, nI_l, lN_add, lN_mul, lN_sub, nI_add, pk_mul, pk_sub, pk_div, remN, Nat.add_sub_cancel, Nat.add_sub_cancel_left, Nat.zero_add, Nat.add_zero, nI_eq, nI_leI, nI_ltI, nI_m1, m1_lt, neg_lt, neg_le, neg_ge, neg_gt, neg_eq, not_true, not_false_iff]; omega)) rfl))))
      rw [e]
      refine ih T ⟨p1, fun r t' h1 h2 h3 => ?_⟩
      rw [p2 r t' h1 h2 h3]
      by_cases hrj : r = j
      · subst hrj
        have : t' = t := (nI_eq (by omega) (by omega)).mp (h3.symm.trans q11)
        rw [if_neg (by omega), if_neg (by omega)]
      · by_cases hc : r < j ∧ s ≤ t'
        · rw [if_pos hc, if_pos (by omega)]
        · rw [if_neg hc, if_neg (by omega)]
    · have e : L_X5_spoilAll_2 (m + 1) (nI j) T = L_X5_spoilAll_2 m (nI (j + 1)) (wrI T 32 0 j (nI 1)) := by
        rw [L_X5_spoilAll_2]
        unfold L_X5_spoilAll_30
        rw [nI_1]
        exact e_gf t72 (e_N (by first | (simp (disch := first | omega | assumption) only [wrI_s, wrI_o, wrI_r, wrL_1, wrL_r, wrL_s, wrL_o, blk_in, blk_out, blk_r, lit, litL, b00, b11, nI_l, lN_add, lN_mul, lN_sub, nI_add, pk_mul, pk_sub, pk_div, remN, Nat.add_sub_cancel, Nat.add_sub_cancel_left, Nat.zero_add, Nat.add_zero, nI_eq, nI_leI, nI_ltI, nI_m1, m1_lt, neg_lt, neg_le, neg_ge, neg_gt, neg_eq, not_true, not_false_iff]; done) | (simp (disch := first | omega | assumption) only [wrI_s, wrI_o, wrI_r, wrL_1, wrL_r, wrL_s, wrL_o, blk_in, blk_out, blk_r, lit, litL, b00, b11, nI_l, lN_add, lN_mul, lN_sub, nI_add, pk_mul, pk_sub, pk_div, remN, Nat.add_sub_cancel, Nat.add_sub_cancel_left, Nat.zero_add, Nat.add_zero, nI_eq, nI_leI, nI_ltI, nI_m1, m1_lt, neg_lt, neg_le, neg_ge, neg_gt, neg_eq, not_true, not_false_iff]; omega)) (e_ldA rfl (by omega) (by decide) (by decide) t31 (e_gf t76 (e_N (by first | (simp (disch := first | omega | assumption) only [wrI_s, wrI_o, wrI_r, wrL_1, wrL_r, wrL_s, wrL_o, blk_in, blk_out, blk_r, lit, litL, b00, b11, nI_l, lN_add, lN_mul, lN_sub, nI_add, pk_mul, pk_sub, pk_div, remN, Nat.add_sub_cancel, Nat.add_sub_cancel_left, Nat.zero_add, Nat.add_zero, nI_eq, nI_leI, nI_ltI, nI_m1, m1_lt, neg_lt, neg_le, neg_ge, neg_gt, neg_eq, not_true, not_false_iff]; done) | (simp (disch := first | omega | assumption) only [wrI_s, wrI_o, wrI_r, wrL_1, wrL_r, wrL_s, wrL_o, blk_in, blk_out, blk_r, lit, litL, b00, b11, nI_l, lN_add, lN_mul, lN_sub, nI_add, pk_mul, pk_sub, pk_div, remN, Nat.add_sub_cancel, Nat.add_sub_cancel_left, Nat.zero_add, Nat.add_zero, nI_eq, nI_leI, nI_ltI, nI_m1, m1_lt, neg_lt, neg_le, neg_ge, neg_gt, neg_eq, not_true, not_false_iff]; omega)) (e_stA rfl (by omega) (by decide) (by decide) (w := nI 1) (by decide) rfl)))))
      rw [e]
      refine ih _ ⟨p1.tr (fq.wr (by decide)), fun r t' h1 h2 h3 => ?_⟩
      by_cases hrj : r = j
      · subst hrj
        have : t' = t := (nI_eq (by omega) (by omega)).mp (h3.symm.trans q11)
        rw [wrI_s, if_pos (by omega)]
      · rw [wrI_o (by omega), p2 r t' h1 h2 h3]
        by_cases hc : r < j ∧ s ≤ t'
        · rw [if_pos hc, if_pos (by omega)]
        · rw [if_neg hc, if_neg (by omega)]
  · obtain ⟨p1, p2⟩ := hP
    have t72 : T.1 72 0 0 = nI K := by rw [p1.1 72 (nc (by decide))]; exact o6
    refine ⟨T, ⟨p1, p2⟩, ?_⟩
    rw [L_X5_spoilAll_2]
    exact e_gf t72 (e_T (by first | (simp (disch := first | omega | assumption) only [wrI_s, wrI_o, wrI_r, wrL_1, wrL_r, wrL_s, wrL_o, blk_in, blk_out, blk_r, lit, litL, b00, b11, nI_l, lN_add, lN_mul, lN_sub, nI_add, pk_mul, pk_sub, pk_div, remN, Nat.add_sub_cancel, Nat.add_sub_cancel_left, Nat.zero_add, Nat.add_zero, nI_eq, nI_leI, nI_ltI, nI_m1, m1_lt, neg_lt, neg_le, neg_ge, neg_gt, neg_eq, not_true, not_false_iff]; done) | (simp (disch := first | omega | assumption) only [wrI_s, wrI_o, wrI_r, wrL_1, wrL_r, wrL_s, wrL_o, blk_in, blk_out, blk_r, lit, litL, b00, b11, nI_l, lN_add, lN_mul, lN_sub, nI_add, pk_mul, pk_sub, pk_div, remN, Nat.add_sub_cancel, Nat.add_sub_cancel_left, Nat.zero_add, Nat.add_zero, nI_eq, nI_leI, nI_ltI, nI_m1, m1_lt, neg_lt, neg_le, neg_ge, neg_gt, neg_eq, not_true, not_false_iff]; omega)) rfl)
theorem spoM {l : Nat} {M : Mm} {x : Int32} (hl : l ≤ 300) (h304 : M.1 304 0 0 = nI l) : L_X12_goSlot_40 x 1 fu 0 M = L_X12_goSlot_65 x (blk M 263 0 0 l (fun _ => nI 0)) := by
  refine loopB (fun m v S => L_X12_goSlot_40 x 1 m v S) M 263 0 0 l (fun _ => nI 0) (by omega) (fun m j hj => ?_) (fun m => ?_)
  · rw [L_X12_goSlot_40]
    refine e_gf (v := nI l) (by first | (simp (disch := first | omega | assumption) only [h304, wrI_s, wrI_o, wrI_r, wrL_1, wrL_r, wrL_s, wrL_o, blk_in, blk_out, blk_r, lit, litL, b00, b11, nI_l, lN_add, lN_mul, lN_sub, nI_add, pk_mul, pk_sub, pk_div, remN, Nat.add_sub_cancel, Nat.add_sub_cancel_left, Nat.zero_add, Nat.add_zero]; done) | (simp (disch := first | omega | assumption) only [h304, wrI_s, wrI_o, wrI_r, wrL_1, wrL_r, wrL_s, wrL_o, blk_in, blk_out, blk_r, lit, litL, b00, b11, nI_l, lN_add, lN_mul, lN_sub, nI_add, pk_mul, pk_sub, pk_div, remN, Nat.add_sub_cancel, Nat.add_sub_cancel_left, Nat.zero_add, Nat.add_zero]; rfl) | rfl) (e_N (by first | (simp (disch := first | omega | assumption) only [wrI_s, wrI_o, wrI_r, wrL_1, wrL_r, wrL_s, wrL_o, blk_in, blk_out, blk_r, lit, litL, b00, b11, nI_l, lN_add, lN_mul, lN_sub, nI_add, pk_mul, pk_sub, pk_div, remN, Nat.add_sub_cancel, Nat.add_sub_cancel_left, Nat.zero_add, Nat.add_zero, nI_eq, nI_leI, nI_ltI, nI_m1, m1_lt, neg_lt, neg_le, neg_ge, neg_gt, neg_eq, not_true, not_false_iff]; done) | (simp (disch := first | omega | assumption) only [wrI_s, wrI_o, wrI_r, wrL_1, wrL_r, wrL_s, wrL_o, blk_in, blk_out, blk_r, lit, litL, b00, b11, nI_l, lN_add, lN_mul, lN_sub, nI_add, pk_mul, pk_sub, pk_div, remN, Nat.add_sub_cancel, Nat.add_sub_cancel_left, Nat.zero_add, Nat.add_zero, nI_eq, nI_leI, nI_ltI, nI_m1, m1_lt, neg_lt, neg_le, neg_ge, neg_gt, neg_eq, not_true, not_false_iff]; omega)) (e_N (by decide) (e_stA rfl (by omega) (by decide) (by decide) (w := nI 0) (by decide) ?_)))
    rw [nI_1, ← blk_succ, Nat.zero_add]
  · rw [L_X12_goSlot_40]
    exact e_gf (v := nI l) (by first | (simp (disch := first | omega | assumption) only [h304, wrI_s, wrI_o, wrI_r, wrL_1, wrL_r, wrL_s, wrL_o, blk_in, blk_out, blk_r, lit, litL, b00, b11, nI_l, lN_add, lN_mul, lN_sub, nI_add, pk_mul, pk_sub, pk_div, remN, Nat.add_sub_cancel, Nat.add_sub_cancel_left, Nat.zero_add, Nat.add_zero]; done) | (simp (disch := first | omega | assumption) only [h304, wrI_s, wrI_o, wrI_r, wrL_1, wrL_r, wrL_s, wrL_o, blk_in, blk_out, blk_r, lit, litL, b00, b11, nI_l, lN_add, lN_mul, lN_sub, nI_add, pk_mul, pk_sub, pk_div, remN, Nat.add_sub_cancel, Nat.add_sub_cancel_left, Nat.zero_add, Nat.add_zero]; rfl) | rfl) (e_T (by first | (simp (disch := first | omega | assumption) only [wrI_s, wrI_o, wrI_r, wrL_1, wrL_r, wrL_s, wrL_o, blk_in, blk_out, blk_r, lit, litL, b00, b11, nI_l, lN_add, lN_mul, lN_sub, nI_add, pk_mul, pk_sub, pk_div, remN, Nat.add_sub_cancel, Nat.add_sub_cancel_left, Nat.zero_add, Nat.add_zero, nI_eq, nI_leI, nI_ltI, nI_m1, m1_lt, neg_lt, neg_le, neg_ge, neg_gt, neg_eq, not_true, not_false_iff]; done) | (simp (disch := first | omega | assumption) only [wrI_s, wrI_o, wrI_r, wrL_1, wrL_r, wrL_s, wrL_o, blk_in, blk_out, blk_r, lit, litL, b00, b11, nI_l, lN_add, lN_mul, lN_sub, nI_add, pk_mul, pk_sub, pk_div, remN, Nat.add_sub_cancel, Nat.add_sub_cancel_left, Nat.zero_add, Nat.add_zero, nI_eq, nI_leI, nI_ltI, nI_m1, m1_lt, neg_lt, neg_le, neg_ge, neg_gt, neg_eq, not_true, not_false_iff]; omega)) rfl)
