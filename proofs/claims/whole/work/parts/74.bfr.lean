/-! A NODE BEGINS: the frame at hand -/
theorem isS {C M : Mm} {k f sl : Nat} (hk : k < 9) (hQ : QR C M (12 * k + f) (12 * k)) (h84 : C.1 84 (12 * k + f) 0 = nI sl) (hsl : sl < 2) : F_X12_isSealed (nI k) M = some (nI sl, M) := by
  obtain ⟨to', th, sq, len, z, kd, q1, q2, q3, q4, q5, q6, q7, q8, q9, q10, q11, q12, q13, q14, q15, q16, q17, q18, q19, q20, q21⟩ := hQ
  unfold F_X12_isSealed L_X12_isSealed_38
  refine e_tp (w := nI (12 * k)) (by first | (simp (disch := first | omega | assumption) only [wrI_s, wrI_o, wrI_r, wrL_1, wrL_r, wrL_s, wrL_o, blk_in, blk_out, blk_r, lit, litL, b00, b11, nI_l, lN_add, lN_mul, lN_sub, nI_add, pk_mul, pk_sub, pk_div, remN, Nat.add_sub_cancel, Nat.add_sub_cancel_left, Nat.zero_add, Nat.add_zero]; done) | (simp (disch := first | omega | assumption) only [wrI_s, wrI_o, wrI_r, wrL_1, wrL_r, wrL_s, wrL_o, blk_in, blk_out, blk_r, lit, litL, b00, b11, nI_l, lN_add, lN_mul, lN_sub, nI_add, pk_mul, pk_sub, pk_div, remN, Nat.add_sub_cancel, Nat.add_sub_cancel_left, Nat.zero_add, Nat.add_zero]; rfl) | rfl) (e_ldA rfl (by omega) (by decide) (by decide) q8 ?_)
  rcases q21 with ⟨g1, g2, g3, g4⟩ | ⟨g1, g2, g3, g4, g5⟩
  · rw [h84] at g4
    refine e_T (by rw [g1]; rfl) (e_ldA (j := 208 * (12 * k) + 6) (by first | (simp (disch := first | omega | assumption) only [wrI_s, wrI_o, wrI_r, wrL_1, wrL_r, wrL_s, wrL_o, blk_in, blk_out, blk_r, lit, litL, b00, b11, nI_l, lN_add, lN_mul, lN_sub, nI_add, pk_mul, pk_sub, pk_div, remN, Nat.add_sub_cancel, Nat.add_sub_cancel_left, Nat.zero_add, Nat.add_zero]; done) | (simp (disch := first | omega | assumption) only [wrI_s, wrI_o, wrI_r, wrL_1, wrL_r, wrL_s, wrL_o, blk_in, blk_out, blk_r, lit, litL, b00, b11, nI_l, lN_add, lN_mul, lN_sub, nI_add, pk_mul, pk_sub, pk_div, remN, Nat.add_sub_cancel, Nat.add_sub_cancel_left, Nat.zero_add, Nat.add_zero]; rfl) | rfl) (by omega) (by decide) (by decide) rfl ?_)
    by_cases h8 : M.1 242 0 (208 * (12 * k) + 6) = nI 8
    · rw [if_pos h8] at g4
      rw [g4]
      exact e_T h8 rfl
    · rw [if_neg h8] at g4
      rw [g4]
      exact e_N h8 rfl
  · rw [h84] at g5
    rw [g5]
    exact e_N (by first | (simp (disch := first | omega | assumption) only [wrI_s, wrI_o, wrI_r, wrL_1, wrL_r, wrL_s, wrL_o, blk_in, blk_out, blk_r, lit, litL, b00, b11, nI_l, lN_add, lN_mul, lN_sub, nI_add, pk_mul, pk_sub, pk_div, remN, Nat.add_sub_cancel, Nat.add_sub_cancel_left, Nat.zero_add, Nat.add_zero, nI_eq, nI_leI, nI_ltI, nI_m1, m1_lt, neg_lt, neg_le, neg_ge, neg_gt, neg_eq, not_true, not_false_iff]; done) | (simp (disch := first | omega | assumption) only [wrI_s, wrI_o, wrI_r, wrL_1, wrL_r, wrL_s, wrL_o, blk_in, blk_out, blk_r, lit, litL, b00, b11, nI_l, lN_add, lN_mul, lN_sub, nI_add, pk_mul, pk_sub, pk_div, remN, Nat.add_sub_cancel, Nat.add_sub_cancel_left, Nat.zero_add, Nat.add_zero, nI_eq, nI_leI, nI_ltI, nI_m1, m1_lt, neg_lt, neg_le, neg_ge, neg_gt, neg_eq, not_true, not_false_iff]; omega)) rfl
theorem prO {M : Mm} {k to : Nat} (hk : k < 9) (h : M.1 236 0 (12 * k) = nI to) : F_X12_pairOf (nI k) M = some (nI (if k = 0 then 9 + to else k), M) := by
  unfold F_X12_pairOf
  by_cases h0 : k = 0
  · subst h0
    rw [if_pos rfl]
    refine e_T rfl (e_ldA (j := 0) rfl (by decide) (by decide) (by decide) h ?_)
    rw [show (9 : Int32) = nI 9 from rfl, nI_add]
  · rw [if_neg h0]
    exact e_N (by first | (simp (disch := first | omega | assumption) only [wrI_s, wrI_o, wrI_r, wrL_1, wrL_r, wrL_s, wrL_o, blk_in, blk_out, blk_r, lit, litL, b00, b11, nI_l, lN_add, lN_mul, lN_sub, nI_add, pk_mul, pk_sub, pk_div, remN, Nat.add_sub_cancel, Nat.add_sub_cancel_left, Nat.zero_add, Nat.add_zero, nI_eq, nI_leI, nI_ltI, nI_m1, m1_lt, neg_lt, neg_le, neg_ge, neg_gt, neg_eq, not_true, not_false_iff]; done) | (simp (disch := first | omega | assumption) only [wrI_s, wrI_o, wrI_r, wrL_1, wrL_r, wrL_s, wrL_o, blk_in, blk_out, blk_r, lit, litL, b00, b11, nI_l, lN_add, lN_mul, lN_sub, nI_add, pk_mul, pk_sub, pk_div, remN, Nat.add_sub_cancel, Nat.add_sub_cancel_left, Nat.zero_add, Nat.add_zero, nI_eq, nI_leI, nI_ltI, nI_m1, m1_lt, neg_lt, neg_le, neg_ge, neg_gt, neg_eq, not_true, not_false_iff]; omega)) rfl
abbrev bfC : List Nat := [56, 59, 60, 91, 92, 93, 99, 100, 102, 103]
theorem bfr {c s d w p t g l k : Nat} {C M : Mm} (h : SS c s d w s p t g l C M) (hc : c ≤ 512) (hk : k < 9) (hs : s < 2 ^ 28) (hg : g < 2 ^ 29) (hl : l < 2 ^ 31) (hd0 : C.1 94 k 0 = -nI 1 ∧ M.1 257 0 k = nI 0) (h254 : M.1 254 0 k = -nI 1) (h255 : M.1 255 0 k = nI 0) (hpos : pos12 C k) : ∃ C' M' g' l', F_X11_beginFrame k C = some ((), C') ∧ F_X12_sendsAtHand (nI k) M = some ((), M') ∧ g' ≤ g + 1 ∧ l' ≤ l + 1 ∧ SS c s d w s p t g' l' C' M' ∧ C'.1 94 = C.1 94 ∧ M'.1 299 = M.1 299 ∧ C'.1 78 = C.1 78 := by
  have hl2 := live_lt h hc hl
  have hh := h
  obtain ⟨hITape, hIDraw, hINois, hIPar, hISub, hIKey, hIRef, hISta, hILnk, hIBeg, hIQue, hIHnd, hICon, hIDue, hIWai, hISnd, hISlo, hISto, hIRng, hILiv, hIEnd, hIPut, hILat, hIInb, hICnt, hIAlq⟩ := hh
  obtain ⟨u, u1, u2, u3⟩ := hpos
  obtain ⟨f, u', p', n, b1, b2, b3, b4, b5, b6, b7, b8⟩ := hIHnd k hk
  have eu : u' = u := (nI_eq (by omega) (by omega)).mp (b4.symm.trans u3)
  subst eu
  obtain ⟨d1, d2, d3⟩ := b8 u1
  have h88 := (hIRef.1 k hk).2.2.2.1
  obtain ⟨f2, uu, q, e1, e2, e3, e4, e5, e6, e7, e8, e9⟩ := hIQue k hk
  have ef : f2 = f := (nI_eq (by omega) (by omega)).mp (e4.symm.trans b3)
  have eu2 : uu = u' := (nI_eq (by omega) (by omega)).mp (e5.symm.trans u3)
  subst ef eu2
  have hQ := e9 0 u1
  rw [Nat.add_zero, Nat.add_zero, Nat.mod_eq_of_lt e1] at hQ
  have cU : ¬ C.1 103 k 0 = 0 := by rw [u3]; exact nI_ne0 u1 (by omega)
  have made : ∀ (C1 M1 : Mm) (n1 : Nat), SS c s d w s p t g l C1 M1 → C1.1 94 = C.1 94 → M1.1 257 = M.1 257 → M1.1 254 = M.1 254 → M1.1 255 = M.1 255 → C1.1 103 = C.1 103 → M1.1 299 = M.1 299 → C1.1 78 = C.1 78 → 28 ≤ n1 → n1 ≤ 300 → C1.1 100 k 0 = nI n1 → M1.1 246 0 k = nI n1 → (∀ j, j < n1 → isB (M1.1 245 0 (300 * k + j)) ∧ C1.1 40 k j = M1.1 245 0 (300 * k + j)) → ¬ M1.1 245 0 (300 * k) = nI 212 → ∃ C' M', L_X11_beginFrame_68 k C1 = some ((), C') ∧ L_X12_sendsAtHand_24 (nI k) M1 = some ((), M') ∧ SS c s d w s p t (g + 1) (l + 1) C' M' ∧ C'.1 94 = C.1 94 ∧ M'.1 299 = M.1 299 ∧ C'.1 78 = C.1 78 := by
    intro C1 M1 n1 hS c94 m257 m254 m255 c103 m299 c78 hn1 hn2 c100 m246 hbb hne
    have hS2 := hS
    obtain ⟨-, -, -, -, -, -, hR1, -⟩ := hS2
    have hS3 := hS
    obtain ⟨C2, T, C', M', q1, q2, q3, q4, q5, q6, -⟩ := send hS (k := k) (cv := 40) (i := k) (cv2 := 245) (at' := 300 * k) (n := n1) (ak := 0) hc hk hs hg hl (by rw [c94, m257]; exact hd0) (by rw [m254]; exact h254) (okW_n (by decide) hk) (by decide) (by omega) hn2 (show n1 ≤ 300 from hn2) (by decide) (by decide) (by decide) (show 300 * k + n1 ≤ 2700 by omega) (by decide) hbb (Or.inr ⟨rfl, hne, by rw [m255]; exact h255, ⟨uu, u1, u2, by rw [c103]; exact u3⟩, ⟨n1, by omega, hn2, c100⟩⟩)
    have r88 : C1.1 88 k 0 = nI k := by
      obtain ⟨-, -, -, -, -, hIR, -⟩ := hS3
      first | exact (hIR.1 k hk).2.2.2.1 | exact (hR1.1 k hk).2.2.2.1
    refine ⟨C', M', ?_, ?_, q4, by rw [q5.1 94 (nc (by decide)), c94], by rw [q6.1 299 (nc (by decide)), m299], by rw [q5.1 78 (nc (by decide)), c78]⟩
    · unfold L_X11_beginFrame_68
      rw [q2]
      exact e_gf c100 (e_gf r88 (e_cl q1 rfl))
    · unfold L_X12_sendsAtHand_24
      refine e_ldA rfl hk (by decide) (by decide) m246 (e_cl (r := ()) ?_ rfl)
      rw [show (300 : Int32) = nI 300 from rfl, pk_mul]
      exact q3
  rcases d3 with ⟨n0, m244⟩ | ⟨n1, n2, m244, m246, hbb, hne⟩
  · subst n0
    have hQ' := hQ
    obtain ⟨to', th, sq, len, z, kd, q1, q2, q3, q4, q5, q6, q7, q8, q9, q10, q11, q12, q13, q14, q15, q16, q17, q18, q19, q20, q21⟩ := hQ'
    obtain ⟨sl, h84, hsl⟩ : ∃ sl, C.1 84 (12 * k + f2) 0 = nI sl ∧ sl < 2 := by
      rcases q21 with ⟨g1, g2, g3, g4⟩ | ⟨g1, g2, g3, g4, g5⟩
      · exact ⟨_, g4, by split <;> decide⟩
      · exact ⟨0, g5, by decide⟩
    have eI := isS hk hQ h84 hsl
    have eP := prO (M := M) hk q10
    have hi18 : (if k = 0 then 9 + to' else k) < 18 := by split <;> omega
    have r45 := ((hIRef.1 k hk).2.2.2.2 f2 e1).1
    have eF : F_X9_first k C = some (some (12 * k + f2), C) := by
      unfold F_X9_first
      repeat (first | (with_reducible apply e_tp; (focus (first | (simp (disch := first | omega | assumption) only [b3, r45, wrI_s, wrI_o, wrI_r, wrL_1, wrL_r, wrL_s, wrL_o, blk_in, blk_out, blk_r, lit, litL, b00, b11, nI_l, lN_add, lN_mul, lN_sub, nI_add, pk_mul, pk_sub, pk_div, remN, Nat.add_sub_cancel, Nat.add_sub_cancel_left, Nat.zero_add, Nat.add_zero]; done) | (simp (disch := first | omega | assumption) only [b3, r45, wrI_s, wrI_o, wrI_r, wrL_1, wrL_r, wrL_s, wrL_o, blk_in, blk_out, blk_r, lit, litL, b00, b11, nI_l, lN_add, lN_mul, lN_sub, nI_add, pk_mul, pk_sub, pk_div, remN, Nat.add_sub_cancel, Nat.add_sub_cancel_left, Nat.zero_add, Nat.add_zero]; rfl) | rfl))) | (with_reducible apply e_gf; (focus (first | (simp (disch := first | omega | assumption) only [b3, r45, wrI_s, wrI_o, wrI_r, wrL_1, wrL_r, wrL_s, wrL_o, blk_in, blk_out, blk_r, lit, litL, b00, b11, nI_l, lN_add, lN_mul, lN_sub, nI_add, pk_mul, pk_sub, pk_div, remN, Nat.add_sub_cancel, Nat.add_sub_cancel_left, Nat.zero_add, Nat.add_zero]; done) | (simp (disch := first | omega | assumption) only [b3, r45, wrI_s, wrI_o, wrI_r, wrL_1, wrL_r, wrL_s, wrL_o, blk_in, blk_out, blk_r, lit, litL, b00, b11, nI_l, lN_add, lN_mul, lN_sub, nI_add, pk_mul, pk_sub, pk_div, remN, Nat.add_sub_cancel, Nat.add_sub_cancel_left, Nat.zero_add, Nat.add_zero]; rfl) | rfl))) | (with_reducible apply e_pf; (focus (first | (simp (disch := first | omega | assumption) only [b3, r45, wrI_s, wrI_o, wrI_r, wrL_1, wrL_r, wrL_s, wrL_o, blk_in, blk_out, blk_r, lit, litL, b00, b11, nI_l, lN_add, lN_mul, lN_sub, nI_add, pk_mul, pk_sub, pk_div, remN, Nat.add_sub_cancel, Nat.add_sub_cancel_left, Nat.zero_add, Nat.add_zero]; done) | (simp (disch := first | omega | assumption) only [b3, r45, wrI_s, wrI_o, wrI_r, wrL_1, wrL_r, wrL_s, wrL_o, blk_in, blk_out, blk_r, lit, litL, b00, b11, nI_l, lN_add, lN_mul, lN_sub, nI_add, pk_mul, pk_sub, pk_div, remN, Nat.add_sub_cancel, Nat.add_sub_cancel_left, Nat.zero_add, Nat.add_zero]; rfl) | rfl))) | (with_reducible apply e_gl; (focus (first | (simp (disch := first | omega | assumption) only [b3, r45, wrI_s, wrI_o, wrI_r, wrL_1, wrL_r, wrL_s, wrL_o, blk_in, blk_out, blk_r, lit, litL, b00, b11, nI_l, lN_add, lN_mul, lN_sub, nI_add, pk_mul, pk_sub, pk_div, remN, Nat.add_sub_cancel, Nat.add_sub_cancel_left, Nat.zero_add, Nat.add_zero]; done) | (simp (disch := first | omega | assumption) only [b3, r45, wrI_s, wrI_o, wrI_r, wrL_1, wrL_r, wrL_s, wrL_o, blk_in, blk_out, blk_r, lit, litL, b00, b11, nI_l, lN_add, lN_mul, lN_sub, nI_add, pk_mul, pk_sub, pk_div, remN, Nat.add_sub_cancel, Nat.add_sub_cancel_left, Nat.zero_add, Nat.add_zero]; rfl) | rfl))) | (with_reducible apply e_pl; (focus (first | (simp (disch := first | omega | assumption) only [b3, r45, wrI_s, wrI_o, wrI_r, wrL_1, wrL_r, wrL_s, wrL_o, blk_in, blk_out, blk_r, lit, litL, b00, b11, nI_l, lN_add, lN_mul, lN_sub, nI_add, pk_mul, pk_sub, pk_div, remN, Nat.add_sub_cancel, Nat.add_sub_cancel_left, Nat.zero_add, Nat.add_zero]; done) | (simp (disch := first | omega | assumption) only [b3, r45, wrI_s, wrI_o, wrI_r, wrL_1, wrL_r, wrL_s, wrL_o, blk_in, blk_out, blk_r, lit, litL, b00, b11, nI_l, lN_add, lN_mul, lN_sub, nI_add, pk_mul, pk_sub, pk_div, remN, Nat.add_sub_cancel, Nat.add_sub_cancel_left, Nat.zero_add, Nat.add_zero]; rfl) | rfl))) | (with_reducible apply e_ldA; (focus (first | (simp (disch := first | omega | assumption) only [b3, r45, wrI_s, wrI_o, wrI_r, wrL_1, wrL_r, wrL_s, wrL_o, blk_in, blk_out, blk_r, lit, litL, b00, b11, nI_l, lN_add, lN_mul, lN_sub, nI_add, pk_mul, pk_sub, pk_div, remN, Nat.add_sub_cancel, Nat.add_sub_cancel_left, Nat.zero_add, Nat.add_zero]; done) | (simp (disch := first | omega | assumption) only [b3, r45, wrI_s, wrI_o, wrI_r, wrL_1, wrL_r, wrL_s, wrL_o, blk_in, blk_out, blk_r, lit, litL, b00, b11, nI_l, lN_add, lN_mul, lN_sub, nI_add, pk_mul, pk_sub, pk_div, remN, Nat.add_sub_cancel, Nat.add_sub_cancel_left, Nat.zero_add, Nat.add_zero]; rfl) | rfl)); (focus omega); (focus omega); (focus decide); (focus (first | (simp (disch := first | omega | assumption) only [b3, r45, wrI_s, wrI_o, wrI_r, wrL_1, wrL_r, wrL_s, wrL_o, blk_in, blk_out, blk_r, lit, litL, b00, b11, nI_l, lN_add, lN_mul, lN_sub, nI_add, pk_mul, pk_sub, pk_div, remN, Nat.add_sub_cancel, Nat.add_sub_cancel_left, Nat.zero_add, Nat.add_zero]; done) | (simp (disch := first | omega | assumption) only [b3, r45, wrI_s, wrI_o, wrI_r, wrL_1, wrL_r, wrL_s, wrL_o, blk_in, blk_out, blk_r, lit, litL, b00, b11, nI_l, lN_add, lN_mul, lN_sub, nI_add, pk_mul, pk_sub, pk_div, remN, Nat.add_sub_cancel, Nat.add_sub_cancel_left, Nat.zero_add, Nat.add_zero]; rfl) | rfl))) | (with_reducible apply e_stA; (focus (first | (simp (disch := first | omega | assumption) only [b3, r45, wrI_s, wrI_o, wrI_r, wrL_1, wrL_r, wrL_s, wrL_o, blk_in, blk_out, blk_r, lit, litL, b00, b11, nI_l, lN_add, lN_mul, lN_sub, nI_add, pk_mul, pk_sub, pk_div, remN, Nat.add_sub_cancel, Nat.add_sub_cancel_left, Nat.zero_add, Nat.add_zero]; done) | (simp (disch := first | omega | assumption) only [b3, r45, wrI_s, wrI_o, wrI_r, wrL_1, wrL_r, wrL_s, wrL_o, blk_in, blk_out, blk_r, lit, litL, b00, b11, nI_l, lN_add, lN_mul, lN_sub, nI_add, pk_mul, pk_sub, pk_div, remN, Nat.add_sub_cancel, Nat.add_sub_cancel_left, Nat.zero_add, Nat.add_zero]; rfl) | rfl)); (focus omega); (focus omega); (focus decide); (focus (first | (simp (disch := first | omega | assumption) only [b3, r45, wrI_s, wrI_o, wrI_r, wrL_1, wrL_r, wrL_s, wrL_o, blk_in, blk_out, blk_r, lit, litL, b00, b11, nI_l, lN_add, lN_mul, lN_sub, nI_add, pk_mul, pk_sub, pk_div, remN, Nat.add_sub_cancel, Nat.add_sub_cancel_left, Nat.zero_add, Nat.add_zero]; done) | (simp (disch := first | omega | assumption) only [b3, r45, wrI_s, wrI_o, wrI_r, wrL_1, wrL_r, wrL_s, wrL_o, blk_in, blk_out, blk_r, lit, litL, b00, b11, nI_l, lN_add, lN_mul, lN_sub, nI_add, pk_mul, pk_sub, pk_div, remN, Nat.add_sub_cancel, Nat.add_sub_cancel_left, Nat.zero_add, Nat.add_zero]; rfl) | rfl))) | (with_reducible apply e_ldL; (focus (first | (simp (disch := first | omega | assumption) only [b3, r45, wrI_s, wrI_o, wrI_r, wrL_1, wrL_r, wrL_s, wrL_o, blk_in, blk_out, blk_r, lit, litL, b00, b11, nI_l, lN_add, lN_mul, lN_sub, nI_add, pk_mul, pk_sub, pk_div, remN, Nat.add_sub_cancel, Nat.add_sub_cancel_left, Nat.zero_add, Nat.add_zero]; done) | (simp (disch := first | omega | assumption) only [b3, r45, wrI_s, wrI_o, wrI_r, wrL_1, wrL_r, wrL_s, wrL_o, blk_in, blk_out, blk_r, lit, litL, b00, b11, nI_l, lN_add, lN_mul, lN_sub, nI_add, pk_mul, pk_sub, pk_div, remN, Nat.add_sub_cancel, Nat.add_sub_cancel_left, Nat.zero_add, Nat.add_zero]; rfl) | rfl)); (focus omega); (focus omega); (focus decide); (focus (first | (simp (disch := first | omega | assumption) only [b3, r45, wrI_s, wrI_o, wrI_r, wrL_1, wrL_r, wrL_s, wrL_o, blk_in, blk_out, blk_r, lit, litL, b00, b11, nI_l, lN_add, lN_mul, lN_sub, nI_add, pk_mul, pk_sub, pk_div, remN, Nat.add_sub_cancel, Nat.add_sub_cancel_left, Nat.zero_add, Nat.add_zero]; done) | (simp (disch := first | omega | assumption) only [b3, r45, wrI_s, wrI_o, wrI_r, wrL_1, wrL_r, wrL_s, wrL_o, blk_in, blk_out, blk_r, lit, litL, b00, b11, nI_l, lN_add, lN_mul, lN_sub, nI_add, pk_mul, pk_sub, pk_div, remN, Nat.add_sub_cancel, Nat.add_sub_cancel_left, Nat.zero_add, Nat.add_zero]; rfl) | rfl))) | (with_reducible apply e_stL; (focus (first | (simp (disch := first | omega | assumption) only [b3, r45, wrI_s, wrI_o, wrI_r, wrL_1, wrL_r, wrL_s, wrL_o, blk_in, blk_out, blk_r, lit, litL, b00, b11, nI_l, lN_add, lN_mul, lN_sub, nI_add, pk_mul, pk_sub, pk_div, remN, Nat.add_sub_cancel, Nat.add_sub_cancel_left, Nat.zero_add, Nat.add_zero]; done) | (simp (disch := first | omega | assumption) only [b3, r45, wrI_s, wrI_o, wrI_r, wrL_1, wrL_r, wrL_s, wrL_o, blk_in, blk_out, blk_r, lit, litL, b00, b11, nI_l, lN_add, lN_mul, lN_sub, nI_add, pk_mul, pk_sub, pk_div, remN, Nat.add_sub_cancel, Nat.add_sub_cancel_left, Nat.zero_add, Nat.add_zero]; rfl) | rfl)); (focus omega); (focus omega); (focus decide); (focus (first | (simp (disch := first | omega | assumption) only [b3, r45, wrI_s, wrI_o, wrI_r, wrL_1, wrL_r, wrL_s, wrL_o, blk_in, blk_out, blk_r, lit, litL, b00, b11, nI_l, lN_add, lN_mul, lN_sub, nI_add, pk_mul, pk_sub, pk_div, remN, Nat.add_sub_cancel, Nat.add_sub_cancel_left, Nat.zero_add, Nat.add_zero]; done) | (simp (disch := first | omega | assumption) only [b3, r45, wrI_s, wrI_o, wrI_r, wrL_1, wrL_r, wrL_s, wrL_o, blk_in, blk_out, blk_r, lit, litL, b00, b11, nI_l, lN_add, lN_mul, lN_sub, nI_add, pk_mul, pk_sub, pk_div, remN, Nat.add_sub_cancel, Nat.add_sub_cancel_left, Nat.zero_add, Nat.add_zero]; rfl) | rfl))) | (with_reducible apply e_ldR; (focus (first | (simp (disch := first | omega | assumption) only [b3, r45, wrI_s, wrI_o, wrI_r, wrL_1, wrL_r, wrL_s, wrL_o, blk_in, blk_out, blk_r, lit, litL, b00, b11, nI_l, lN_add, lN_mul, lN_sub, nI_add, pk_mul, pk_sub, pk_div, remN, Nat.add_sub_cancel, Nat.add_sub_cancel_left, Nat.zero_add, Nat.add_zero]; done) | (simp (disch := first | omega | assumption) only [b3, r45, wrI_s, wrI_o, wrI_r, wrL_1, wrL_r, wrL_s, wrL_o, blk_in, blk_out, blk_r, lit, litL, b00, b11, nI_l, lN_add, lN_mul, lN_sub, nI_add, pk_mul, pk_sub, pk_div, remN, Nat.add_sub_cancel, Nat.add_sub_cancel_left, Nat.zero_add, Nat.add_zero]; rfl) | rfl)); (focus omega); (focus omega); (focus decide); (focus (first | (simp (disch := first | omega | assumption) only [b3, r45, wrI_s, wrI_o, wrI_r, wrL_1, wrL_r, wrL_s, wrL_o, blk_in, blk_out, blk_r, lit, litL, b00, b11, nI_l, lN_add, lN_mul, lN_sub, nI_add, pk_mul, pk_sub, pk_div, remN, Nat.add_sub_cancel, Nat.add_sub_cancel_left, Nat.zero_add, Nat.add_zero]; done) | (simp (disch := first | omega | assumption) only [b3, r45, wrI_s, wrI_o, wrI_r, wrL_1, wrL_r, wrL_s, wrL_o, blk_in, blk_out, blk_r, lit, litL, b00, b11, nI_l, lN_add, lN_mul, lN_sub, nI_add, pk_mul, pk_sub, pk_div, remN, Nat.add_sub_cancel, Nat.add_sub_cancel_left, Nat.zero_add, Nat.add_zero]; rfl) | rfl)); (focus omega)) | (with_reducible apply e_gd; (focus (first | omega | (simp (disch := first | omega | assumption) only [b3, r45, wrI_s, wrI_o, wrI_r, wrL_1, wrL_r, wrL_s, wrL_o, blk_in, blk_out, blk_r, lit, litL, b00, b11, nI_l, lN_add, lN_mul, lN_sub, nI_add, pk_mul, pk_sub, pk_div, remN, Nat.add_sub_cancel, Nat.add_sub_cancel_left, Nat.zero_add, Nat.add_zero, nI_eq, nI_leI, nI_ltI, nI_m1, m1_lt, neg_lt, neg_le, neg_ge, neg_gt, neg_eq, not_true, not_false_iff]; done) | (simp (disch := first | omega | assumption) only [b3, r45, wrI_s, wrI_o, wrI_r, wrL_1, wrL_r, wrL_s, wrL_o, blk_in, blk_out, blk_r, lit, litL, b00, b11, nI_l, lN_add, lN_mul, lN_sub, nI_add, pk_mul, pk_sub, pk_div, remN, Nat.add_sub_cancel, Nat.add_sub_cancel_left, Nat.zero_add, Nat.add_zero, nI_eq, nI_leI, nI_ltI, nI_m1, m1_lt, neg_lt, neg_le, neg_ge, neg_gt, neg_eq, not_true, not_false_iff]; omega)))) | (with_reducible apply e_cl; (focus (first | (simp (disch := first | omega | assumption) only [b3, r45, wrI_s, wrI_o, wrI_r, wrL_1, wrL_r, wrL_s, wrL_o, blk_in, blk_out, blk_r, lit, litL, b00, b11, nI_l, lN_add, lN_mul, lN_sub, nI_add, pk_mul, pk_sub, pk_div, remN, Nat.add_sub_cancel, Nat.add_sub_cancel_left, Nat.zero_add, Nat.add_zero]; done) | (simp (disch := first | omega | assumption) only [b3, r45, wrI_s, wrI_o, wrI_r, wrL_1, wrL_r, wrL_s, wrL_o, blk_in, blk_out, blk_r, lit, litL, b00, b11, nI_l, lN_add, lN_mul, lN_sub, nI_add, pk_mul, pk_sub, pk_div, remN, Nat.add_sub_cancel, Nat.add_sub_cancel_left, Nat.zero_add, Nat.add_zero]; rfl) | rfl))) | (with_reducible apply e_nn; (focus omega)) | (with_reducible apply e_nu; (focus omega)) | (with_reducible apply e_nu0) | (with_reducible apply e_T; (focus (first | (simp (disch := first | omega | assumption) only [b3, r45, wrI_s, wrI_o, wrI_r, wrL_1, wrL_r, wrL_s, wrL_o, blk_in, blk_out, blk_r, lit, litL, b00, b11, nI_l, lN_add, lN_mul, lN_sub, nI_add, pk_mul, pk_sub, pk_div, remN, Nat.add_sub_cancel, Nat.add_sub_cancel_left, Nat.zero_add, Nat.add_zero, nI_eq, nI_leI, nI_ltI, nI_m1, m1_lt, neg_lt, neg_le, neg_ge, neg_gt, neg_eq, not_true, not_false_iff]; done) | (simp (disch := first | omega | assumption) only [b3, r45, wrI_s, wrI_o, wrI_r, wrL_1, wrL_r, wrL_s, wrL_o, blk_in, blk_out, blk_r, lit, litL, b00, b11, nI_l, lN_add, lN_mul, lN_sub, nI_add, pk_mul, pk_sub, pk_div, remN, Nat.add_sub_cancel, Nat.add_sub_cancel_left, Nat.zero_add, Nat.add_zero, nI_eq, nI_leI, nI_ltI, nI_m1, m1_lt, neg_lt, neg_le, neg_ge, neg_gt, neg_eq, not_true, not_false_iff]; omega)))) | (with_reducible apply e_N; (focus (first | (simp (disch := first | omega | assumption) only [b3, r45, wrI_s, wrI_o, wrI_r, wrL_1, wrL_r, wrL_s, wrL_o, blk_in, blk_out, blk_r, lit, litL, b00, b11, nI_l, lN_add, lN_mul, lN_sub, nI_add, pk_mul, pk_sub, pk_div, remN, Nat.add_sub_cancel, Nat.add_sub_cancel_left, Nat.zero_add, Nat.add_zero, nI_eq, nI_leI, nI_ltI, nI_m1, m1_lt, neg_lt, neg_le, neg_ge, neg_gt, neg_eq, not_true, not_false_iff]; done) | (simp (disch := first | omega | assumption) only [b3, r45, wrI_s, wrI_o, wrI_r, wrL_1, wrL_r, wrL_s, wrL_o, blk_in, blk_out, blk_r, lit, litL, b00, b11, nI_l, lN_add, lN_mul, lN_sub, nI_add, pk_mul, pk_sub, pk_div, remN, Nat.add_sub_cancel, Nat.add_sub_cancel_left, Nat.zero_add, Nat.add_zero, nI_eq, nI_leI, nI_ltI, nI_m1, m1_lt, neg_lt, neg_le, neg_ge, neg_gt, neg_eq, not_true, not_false_iff]; omega)))))
      rfl
    have eL := lnkY (S := C) hIRef rfl hk q1
    obtain ⟨⟨st, st1, st2, st3, st4, st5⟩, -⟩ := hILnk _ hi18
    generalize hii : (if k = 0 then 9 + to' else k) = i at *
    have cpre : ∀ X, (sl = 0 ∨ st = 4 → L_X11_beginFrame_61 k (12 * k + f2) i C = X) → (sl = 1 ∧ ¬ st = 4 → (cl (F_X11_finishFirst k 5 C) fun r15 S16 => some ((), S16)) = X) → F_X11_beginFrame k C = X := by
      intro X x1 x2
      unfold F_X11_beginFrame
      refine e_gd hk (e_gf rfl (e_N cU (e_gf b6 (e_T rfl (e_cl eF (e_nn (by omega) (e_gf h88 (e_gf q9 (e_cl eL (e_nn hi18 (e_gf h84 ?_)))))))))))
      by_cases h0 : sl = 0
      · exact e_T (by rw [h0]; rfl) (x1 (Or.inl h0))
      · refine e_N (by have : sl = 1 := by omega
                       rw [this]; decide) (e_gf st3 ?_)
        by_cases h4 : st = 4
        · exact e_T (by rw [h4]; rfl) (x1 (Or.inr h4))
        · exact e_N (by first | (simp (disch := first | omega | assumption) only [wrI_s, wrI_o, wrI_r, wrL_1, wrL_r, wrL_s, wrL_o, blk_in, blk_out, blk_r, lit, litL, b00, b11, nI_l, lN_add, lN_mul, lN_sub, nI_add, pk_mul, pk_sub, pk_div, remN, Nat.add_sub_cancel, Nat.add_sub_cancel_left, Nat.zero_add, Nat.add_zero, nI_eq, nI_leI, nI_ltI, nI_m1, m1_lt, neg_lt, neg_le, neg_ge, neg_gt, neg_eq, not_true, not_false_iff]; done) | (simp (disch := first | omega | assumption) only [wrI_s, wrI_o, wrI_r, wrL_1, wrL_r, wrL_s, wrL_o, blk_in, blk_out, blk_r, lit, litL, b00, b11, nI_l, lN_add, lN_mul, lN_sub, nI_add, pk_mul, pk_sub, pk_div, remN, Nat.add_sub_cancel, Nat.add_sub_cancel_left, Nat.zero_add, Nat.add_zero, nI_eq, nI_leI, nI_ltI, nI_m1, m1_lt, neg_lt, neg_le, neg_ge, neg_gt, neg_eq, not_true, not_false_iff]; omega)) (x2 ⟨by omega, h4⟩)
    have mpre : ∀ X, (sl = 0 ∨ st = 4 → (cl (L_X12_make_42 (nI k) (nI (12 * k)) (nI (300 * k)) (nI sl) (nI i) M) fun r2 S3 => if r2 = 0 then cl (F_X12_leaves (nI k) 5 S3) fun r5 S6 => some ((), S6) else L_X12_sendsAtHand_24 (nI k) S3) = X) → (sl = 1 ∧ ¬ st = 4 → (cl (F_X12_leaves (nI k) 5 M) fun r5 S6 => some ((), S6)) = X) → F_X12_sendsAtHand (nI k) M = X := by
      intro X x1 x2
      unfold F_X12_sendsAtHand
      refine e_ldA rfl hk (by decide) (by decide) m244 (e_T rfl ?_)
      have eMk : F_X12_make (nI k) M = (if sl = 0 ∨ st = 4 then L_X12_make_42 (nI k) (nI (12 * k)) (nI (300 * k)) (nI sl) (nI i) M else some (0, M)) := by
        unfold F_X12_make
        refine e_tp (w := nI (12 * k)) (by first | (simp (disch := first | omega | assumption) only [wrI_s, wrI_o, wrI_r, wrL_1, wrL_r, wrL_s, wrL_o, blk_in, blk_out, blk_r, lit, litL, b00, b11, nI_l, lN_add, lN_mul, lN_sub, nI_add, pk_mul, pk_sub, pk_div, remN, Nat.add_sub_cancel, Nat.add_sub_cancel_left, Nat.zero_add, Nat.add_zero]; done) | (simp (disch := first | omega | assumption) only [wrI_s, wrI_o, wrI_r, wrL_1, wrL_r, wrL_s, wrL_o, blk_in, blk_out, blk_r, lit, litL, b00, b11, nI_l, lN_add, lN_mul, lN_sub, nI_add, pk_mul, pk_sub, pk_div, remN, Nat.add_sub_cancel, Nat.add_sub_cancel_left, Nat.zero_add, Nat.add_zero]; rfl) | rfl) (e_tp (w := nI (300 * k)) (by first | (simp (disch := first | omega | assumption) only [wrI_s, wrI_o, wrI_r, wrL_1, wrL_r, wrL_s, wrL_o, blk_in, blk_out, blk_r, lit, litL, b00, b11, nI_l, lN_add, lN_mul, lN_sub, nI_add, pk_mul, pk_sub, pk_div, remN, Nat.add_sub_cancel, Nat.add_sub_cancel_left, Nat.zero_add, Nat.add_zero]; done) | (simp (disch := first | omega | assumption) only [wrI_s, wrI_o, wrI_r, wrL_1, wrL_r, wrL_s, wrL_o, blk_in, blk_out, blk_r, lit, litL, b00, b11, nI_l, lN_add, lN_mul, lN_sub, nI_add, pk_mul, pk_sub, pk_div, remN, Nat.add_sub_cancel, Nat.add_sub_cancel_left, Nat.zero_add, Nat.add_zero]; rfl) | rfl) (e_cl eI (e_cl eP ?_)))
        by_cases h0 : sl = 0
        · rw [if_pos (Or.inl h0)]
          exact e_T (by rw [h0]; rfl) rfl
        · refine e_N (by have : sl = 1 := by omega
                         rw [this]; decide) (e_ldA rfl hi18 (by decide) (by decide) st4 ?_)
          by_cases h4 : st = 4
          · rw [if_pos (show sl = 0 ∨ st = 4 from Or.inr h4)]
            exact e_N (by rw [if_pos h4]; decide) rfl
          · rw [if_neg (show ¬ (sl = 0 ∨ st = 4) by omega)]
            exact e_T (by rw [if_neg h4]; rfl) rfl
      by_cases hx : sl = 0 ∨ st = 4
      · rw [eMk, if_pos hx]
        exact x1 hx
      · rw [eMk, if_neg hx]
        exact e_cl rfl (e_T rfl (x2 ⟨by omega, by omega⟩))
    by_cases hx : sl = 0 ∨ st = 4
    · obtain ⟨n1, C1, M1, w1, w2, w3, w4, w5, w6, w7, w8, w9, w10, w11, w12, w13, w14, w15⟩ := mk hIRef hILnk hk e1 hQ b5 d1 d2 q9 q1 hii.symm h84 (by
        rcases hx with h0 | h4
        · exact Or.inl h0
        · by_cases h0 : sl = 0
          · exact Or.inl h0
          · exact Or.inr ⟨by omega, by rw [st3, h4]⟩)
      have h100 : ∀ j, ¬ j = k → C1.1 100 j = C.1 100 j := fun j hj => (w8 j hj).1
      have hpos' : ∀ j, pos12 C j → pos12 C1 j := by
        rintro j ⟨a, a1, a2, a3⟩
        exact ⟨a, a1, a2, by rw [w5.1 103 (nc (by decide))]; exact a3⟩
      have hlen' : ∀ j, len1 C j → len1 C1 j := by
        rintro j ⟨a, a1, a2, a3⟩
        by_cases hjk : j = k
        · subst hjk
          exact ⟨n1, by omega, w2, w7⟩
        · exact ⟨a, a1, a2, by rw [h100 j hjk]; exact a3⟩
      have hS1 : SS c s d w s p t g l C1 M1 := by
        have key : ∀ C' M', fq mkCl C C' → fq mkMl M M' → ILnk C' M' → IHnd C' M' → IWai w C' M' → ISnd s l C' M' → SS c s d w s p t g l C' M' := fun C' M' fC gM tILnk tIHnd tIWai tISnd => ⟨hITape.fr fC gM (by decide) (by decide), hIDraw.fr fC gM (by decide) (by decide), hINois.fr fC gM (by decide) (by decide), hIPar.fr fC gM (by decide) (by decide), hISub.fr fC gM (by decide) (by decide), hIKey.fr fC gM (by decide) (by decide), hIRef.fr fC gM (by decide) (by decide), hISta.fr fC gM (by decide) (by decide), tILnk, hIBeg.fr fC gM (by decide) (by decide), hIQue.fr fC gM (by decide) (by decide), tIHnd, hICon.fr fC gM (by decide) (by decide), hIDue.fr fC gM (by decide) (by decide), tIWai, tISnd, hISlo.fr fC gM (by decide) (by decide), hISto.fr fC gM (by decide) (by decide), hIRng.fr fC gM (by decide) (by decide), hILiv.fr fC gM (by decide) (by decide), hIEnd.fr fC gM (by decide) (by decide), hIPut.fr fC gM (by decide) (by decide), hILat.fr fC gM (by decide) (by decide), hIInb.fr fC gM (by decide) (by decide), hICnt.fr fC gM (by decide) (by decide), hIAlq.fr fC gM (by decide) (by decide)⟩
        refine key _ _ w5 w6 w15 ?_ (hIWai.nd w5 w6 (by decide) (by decide) (fun j hj h' => ⟨hpos' j (hIWai.p1 hj h').1, hlen' j (hIWai.p1 hj h').2⟩)) (hISnd.nd w5 w6 (by decide) (by decide) (fun j hj h' h'' => ⟨hpos' j (hISnd.p0 (by omega) hj h' h'').1, hlen' j (hISnd.p0 (by omega) hj h' h'').2⟩))
        intro j hj
        obtain ⟨f', u', p'', n', c1, c2, c3, c4, c5, c6, c7, c8⟩ := hIHnd j hj
        rw [w5.1 102 (nc (by decide)), w5.1 103 (nc (by decide)), w5.1 99 (nc (by decide)), w5.1 85 (nc (by decide)), w5.1 80 (nc (by decide)), w6.1 243 (nc (by decide))]
        by_cases hjk : j = k
        · subst hjk
          refine ⟨f2, uu, p', n1, e1, u2, b3, u3, b5, w7, fun h0 => absurd h0 (by omega), fun _ => ⟨d1, d2, Or.inr ⟨w1, w2, w9, w10, w13, w14⟩⟩⟩
        · refine ⟨f', u', p'', n', c1, c2, c3, c4, c5, by rw [h100 j hjk]; exact c6, c7, fun h0 => ?_⟩
          rw [(w11 j hjk).1, (w11 j hjk).2, (w8 j hjk).2]
          obtain ⟨y1, y2, y3⟩ := c8 h0
          refine ⟨y1, y2, ?_⟩
          rcases y3 with y3 | ⟨y3, y4, y5, y6, y7, y8⟩
          · exact Or.inl y3
          · refine Or.inr ⟨y3, y4, y5, y6, fun i' hi' => ?_, ?_⟩
            · rw [w12 _ (by omega)]
              exact y7 i' hi'
            · rw [w12 _ (by omega)]
              exact y8
      obtain ⟨C', M', v1, v2, v3, v4, v5, v6⟩ := made C1 M1 n1 hS1 (w5.1 94 (nc (by decide))) (w6.1 257 (nc (by decide))) (w6.1 254 (nc (by decide))) (w6.1 255 (nc (by decide))) (w5.1 103 (nc (by decide))) (w6.1 299 (nc (by decide))) (w5.1 78 (nc (by decide))) w1 w2 w7 w10 w13 w14
      refine ⟨C', M', g + 1, l + 1, cpre _ (fun _ => ?_) (fun hy => absurd hx (by omega)), mpre _ (fun _ => ?_) (fun hy => absurd hx (by omega)), by omega, by omega, v3, v4, v5, v6⟩
      · unfold L_X11_beginFrame_61
        exact e_cl w3 v1
      · exact e_cl w4 (e_N (by decide) v2)
    · obtain ⟨C', M', v1, v2, v3, v4, v5, v6, v7, v8, v9, v10⟩ := fin (how := 5) hIRef hIDraw hISub hIQue hIHnd hICon hk e1 u1 u2 b3 u3
      refine ⟨C', M', g, l, cpre _ (fun hy => absurd hy hx) (fun _ => e_cl v1 rfl), mpre _ (fun hy => absurd hy hx) (fun _ => e_cl v2 rfl), by omega, by omega, ?_, v3.1 94 (nc (by decide)), v4.1 299 (nc (by decide)), v3.1 78 (nc (by decide))⟩
      have hpos' : ∀ j, ¬ j = k → pos12 C j → pos12 C' j := by
        rintro j hjk ⟨a, a1, a2, a3⟩
        exact ⟨a, a1, a2, by rw [(v5 j hjk).1]; exact a3⟩
      have hlen' : ∀ j, ¬ j = k → len1 C j → len1 C' j := by
        rintro j hjk ⟨a, a1, a2, a3⟩
        exact ⟨a, a1, a2, by rw [(v5 j hjk).2]; exact a3⟩
      have key : ∀ C' M', fq fnC C C' → fq fnM M M' → IDraw C' M' → ISub C' M' → IQue C' M' → IHnd C' M' → ICon C' M' → IDue d C' M' → IWai w C' M' → ISnd s l C' M' → SS c s d w s p t g l C' M' := fun C' M' fC gM tIDraw tISub tIQue tIHnd tICon tIDue tIWai tISnd => ⟨hITape.fr fC gM (by decide) (by decide), tIDraw, hINois.fr fC gM (by decide) (by decide), hIPar.fr fC gM (by decide) (by decide), tISub, hIKey.fr fC gM (by decide) (by decide), hIRef.fr fC gM (by decide) (by decide), hISta.fr fC gM (by decide) (by decide), hILnk.fr fC gM (by decide) (by decide), hIBeg.fr fC gM (by decide) (by decide), tIQue, tIHnd, tICon, tIDue, tIWai, tISnd, hISlo.fr fC gM (by decide) (by decide), hISto.fr fC gM (by decide) (by decide), hIRng.fr fC gM (by decide) (by decide), hILiv.fr fC gM (by decide) (by decide), hIEnd.fr fC gM (by decide) (by decide), hIPut.fr fC gM (by decide) (by decide), hILat.fr fC gM (by decide) (by decide), hIInb.fr fC gM (by decide) (by decide), hICnt.fr fC gM (by decide) (by decide), hIAlq.fr fC gM (by decide) (by decide)⟩
      refine key _ _ v3 v4 v10 v6 v7 v8 v9 (hIDue.nd v3 v4 (by decide) (by decide) (fun j hj h' => ?_)) (hIWai.nd v3 v4 (by decide) (by decide) (fun j hj h' => ?_)) (hISnd.nd v3 v4 (by decide) (by decide) (fun j hj h' h'' => ?_))
      · by_cases hjk : j = k
        · subst hjk
          rw [hd0.2] at h'
          exact absurd h' (by decide)
        · exact hpos' j hjk (hIDue.p2 hj h')
      · by_cases hjk : j = k
        · subst hjk
          rw [h255] at h'
          exact absurd h' (by decide)
        · exact ⟨hpos' j hjk (hIWai.p1 hj h').1, hlen' j hjk (hIWai.p1 hj h').2⟩
      · by_cases hjk : j = k
        · subst hjk
          obtain ⟨v, hv, e'⟩ := h'
          rw [h254] at e'
          exact absurd e'.symm (by rw [nI_m1 (by omega)]; exact id)
        · exact ⟨hpos' j hjk (hISnd.p0 (by omega) hj h' h'').1, hlen' j hjk (hISnd.p0 (by omega) hj h' h'').2⟩
  · obtain ⟨C', M', v1, v2, v3, v4, v5, v6⟩ := made C M n h rfl rfl rfl rfl rfl rfl rfl n1 n2 b6 m246 hbb hne
    refine ⟨C', M', g + 1, l + 1, ?_, ?_, by omega, by omega, v3, v4, v5, v6⟩
    · unfold F_X11_beginFrame
      exact e_gd hk (e_gf rfl (e_N cU (e_gf b6 (e_N (nI_ne0 (by omega) (by omega)) v1))))
    · unfold F_X12_sendsAtHand
      exact e_ldA rfl hk (by decide) (by decide) m244 (e_N (by decide) v2)
