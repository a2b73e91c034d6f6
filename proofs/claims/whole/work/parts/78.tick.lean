/-! WAITERS FAIL, COUNTERS GO DOWN -/
def FP (c s d e p t g l : Nat) (C0 M0 : Mm) (k : Nat) (C M : Mm) : Prop := SS c s d s e p t g l C M ∧ (∀ j, j < k → ∀ w0, w0 < 2 ^ 31 → C.1 98 j 0 = nI w0 → s + 1 ≤ w0 + 4) ∧ fq flC C0 C ∧ fq flM M0 M
theorem fstep {c s d e p t g l k : Nat} {C0 M0 C M : Mm} {x : Int32} (hs : s < 2 ^ 28) (hl : l < 2 ^ 31) (hk : k < 9) (h : FP c s d e p t g l C0 M0 k C M) : ∃ C' M', FP c s d e p t g l C0 M0 (k + 1) C' M' ∧ (∀ n, L_X11_failWaiters_2 (n + 1) (nI k) C = L_X11_failWaiters_2 n (nI (k + 1)) C') ∧ (∀ n, L_X12_goSlot_71 x (n + 1) (nI k) M = L_X12_goSlot_71 x n (nI (k + 1)) M') := by
  obtain ⟨hS, h98, fC0, fM0⟩ := h
  have hS2 := hS
  obtain ⟨hITape, hIDraw, hINois, hIPar, hISub, hIKey, hIRef, hISta, hILnk, hIBeg, hIQue, hIHnd, hICon, hIDue, hIWai, hISnd, hISlo, hISto, hIRng, hILiv, hIEnd, hIPut, hILat, hIInb, hICnt, hIAlq⟩ := hS2
  have r52 := (hIRef.1 k hk).1
  obtain ⟨o1, o2, -⟩ := hISlo
  rcases hIWai k hk with ⟨w1, w2⟩ | ⟨w', n', u, w1, w2, w3, w4, w5, -⟩
  · refine ⟨C, M, ⟨hS, fun j hj w0 hw0 e98 => ?_, fC0, fM0⟩, fun n => ?_, fun n => ?_⟩
    · by_cases hjk : j = k
      · subst hjk
        rw [w1] at e98
        exact absurd e98.symm (by rw [nI_m1 hw0]; exact id)
      · exact h98 j (by omega) w0 hw0 e98
    · rw [L_X11_failWaiters_2]
      unfold L_X11_failWaiters_49
      rw [nI_1]
      exact e_N (by first | (simp (disch := first | omega | assumption) only [wrI_s, wrI_o, wrI_r, wrL_1, wrL_r, wrL_s, wrL_o, blk_in, blk_out, blk_r, lit, litL, b00, b11, nI_l, lN_add, lN_mul, lN_sub, nI_add, pk_mul, pk_sub, pk_div, remN, Nat.add_sub_cancel, Nat.add_sub_cancel_left, Nat.zero_add, Nat.add_zero, nI_eq, nI_leI, nI_ltI, nI_m1, m1_lt, neg_lt, neg_le, neg_ge, neg_gt, neg_eq, not_true, not_false_iff]; done) | (simp (disch := first | omega | assumption) only [wrI_s, wrI_o, wrI_r, wrL_1, wrL_r, wrL_s, wrL_o, blk_in, blk_out, blk_r, lit, litL, b00, b11, nI_l, lN_add, lN_mul, lN_sub, nI_add, pk_mul, pk_sub, pk_div, remN, Nat.add_sub_cancel, Nat.add_sub_cancel_left, Nat.zero_add, Nat.add_zero, nI_eq, nI_leI, nI_ltI, nI_m1, m1_lt, neg_lt, neg_le, neg_ge, neg_gt, neg_eq, not_true, not_false_iff]; omega)) (e_ldR rfl hk (by decide) (by decide) r52 hk (e_gf w1 (e_T rfl rfl)))
    · rw [L_X12_goSlot_71]
      unfold L_X12_goSlot_106
      rw [nI_1]
      exact e_N (by first | (simp (disch := first | omega | assumption) only [wrI_s, wrI_o, wrI_r, wrL_1, wrL_r, wrL_s, wrL_o, blk_in, blk_out, blk_r, lit, litL, b00, b11, nI_l, lN_add, lN_mul, lN_sub, nI_add, pk_mul, pk_sub, pk_div, remN, Nat.add_sub_cancel, Nat.add_sub_cancel_left, Nat.zero_add, Nat.add_zero, nI_eq, nI_leI, nI_ltI, nI_m1, m1_lt, neg_lt, neg_le, neg_ge, neg_gt, neg_eq, not_true, not_false_iff]; done) | (simp (disch := first | omega | assumption) only [wrI_s, wrI_o, wrI_r, wrL_1, wrL_r, wrL_s, wrL_o, blk_in, blk_out, blk_r, lit, litL, b00, b11, nI_l, lN_add, lN_mul, lN_sub, nI_add, pk_mul, pk_sub, pk_div, remN, Nat.add_sub_cancel, Nat.add_sub_cancel_left, Nat.zero_add, Nat.add_zero, nI_eq, nI_leI, nI_ltI, nI_m1, m1_lt, neg_lt, neg_le, neg_ge, neg_gt, neg_eq, not_true, not_false_iff]; omega)) (e_ldA rfl hk (by decide) (by decide) w2 (e_T rfl rfl))
  · have hne : ¬ nI w' = -nI 1 := by rw [nI_m1 (by omega)]; exact id
    by_cases h4 : s - w' < 4
    · refine ⟨C, M, ⟨hS, fun j hj w0 hw0 e98 => ?_, fC0, fM0⟩, fun n => ?_, fun n => ?_⟩
      · by_cases hjk : j = k
        · subst hjk
          have := (nI_eq (by omega) hw0).mp (w3.symm.trans e98)
          omega
        · exact h98 j (by omega) w0 hw0 e98
      · rw [L_X11_failWaiters_2]
        unfold L_X11_failWaiters_49
        rw [nI_1]
        refine e_N (by first | (simp (disch := first | omega | assumption) only [wrI_s, wrI_o, wrI_r, wrL_1, wrL_r, wrL_s, wrL_o, blk_in, blk_out, blk_r, lit, litL, b00, b11, nI_l, lN_add, lN_mul, lN_sub, nI_add, pk_mul, pk_sub, pk_div, remN, Nat.add_sub_cancel, Nat.add_sub_cancel_left, Nat.zero_add, Nat.add_zero, nI_eq, nI_leI, nI_ltI, nI_m1, m1_lt, neg_lt, neg_le, neg_ge, neg_gt, neg_eq, not_true, not_false_iff]; done) | (simp (disch := first | omega | assumption) only [wrI_s, wrI_o, wrI_r, wrL_1, wrL_r, wrL_s, wrL_o, blk_in, blk_out, blk_r, lit, litL, b00, b11, nI_l, lN_add, lN_mul, lN_sub, nI_add, pk_mul, pk_sub, pk_div, remN, Nat.add_sub_cancel, Nat.add_sub_cancel_left, Nat.zero_add, Nat.add_zero, nI_eq, nI_leI, nI_ltI, nI_m1, m1_lt, neg_lt, neg_le, neg_ge, neg_gt, neg_eq, not_true, not_false_iff]; omega)) (e_ldR rfl hk (by decide) (by decide) r52 hk (e_gf w3 (e_N hne (e_gf o1 (e_gf w3 (e_T ?_ rfl))))))
        rw [pk_sub (by omega), show (4 : Int32) = nI 4 from rfl, nI_ltI (by omega) (by omega)]
        exact h4
      · rw [L_X12_goSlot_71]
        unfold L_X12_goSlot_106
        rw [nI_1]
        refine e_N (by first | (simp (disch := first | omega | assumption) only [wrI_s, wrI_o, wrI_r, wrL_1, wrL_r, wrL_s, wrL_o, blk_in, blk_out, blk_r, lit, litL, b00, b11, nI_l, lN_add, lN_mul, lN_sub, nI_add, pk_mul, pk_sub, pk_div, remN, Nat.add_sub_cancel, Nat.add_sub_cancel_left, Nat.zero_add, Nat.add_zero, nI_eq, nI_leI, nI_ltI, nI_m1, m1_lt, neg_lt, neg_le, neg_ge, neg_gt, neg_eq, not_true, not_false_iff]; done) | (simp (disch := first | omega | assumption) only [wrI_s, wrI_o, wrI_r, wrL_1, wrL_r, wrL_s, wrL_o, blk_in, blk_out, blk_r, lit, litL, b00, b11, nI_l, lN_add, lN_mul, lN_sub, nI_add, pk_mul, pk_sub, pk_div, remN, Nat.add_sub_cancel, Nat.add_sub_cancel_left, Nat.zero_add, Nat.add_zero, nI_eq, nI_leI, nI_ltI, nI_m1, m1_lt, neg_lt, neg_le, neg_ge, neg_gt, neg_eq, not_true, not_false_iff]; omega)) (e_ldA rfl hk (by decide) (by decide) w5 (e_N (by decide) (e_gf o2 (e_ldA rfl hk (by decide) (by decide) w4 (e_N ?_ rfl)))))
        rw [pk_sub (by omega), show (4 : Int32) = nI 4 from rfl, nI_eq (by omega) (by omega)]
        omega
    · obtain ⟨C', M', v1, v2, v3, v4, v5, v6, v7⟩ := flr hS hk hl (w0 := w') (by omega) w3
      refine ⟨C', M', ⟨v3, fun j hj w0 hw0 e98 => ?_, fC0.tr v4, fM0.tr v5⟩, fun n => ?_, fun n => ?_⟩
      · by_cases hjk : j = k
        · subst hjk
          rw [v6] at e98
          exact absurd e98.symm (by rw [nI_m1 hw0]; exact id)
        · rw [v7 j hjk] at e98
          exact h98 j (by omega) w0 hw0 e98
      · rw [L_X11_failWaiters_2]
        unfold L_X11_failWaiters_49
        refine e_N (by first | (simp (disch := first | omega | assumption) only [wrI_s, wrI_o, wrI_r, wrL_1, wrL_r, wrL_s, wrL_o, blk_in, blk_out, blk_r, lit, litL, b00, b11, nI_l, lN_add, lN_mul, lN_sub, nI_add, pk_mul, pk_sub, pk_div, remN, Nat.add_sub_cancel, Nat.add_sub_cancel_left, Nat.zero_add, Nat.add_zero, nI_eq, nI_leI, nI_ltI, nI_m1, m1_lt, neg_lt, neg_le, neg_ge, neg_gt, neg_eq, not_true, not_false_iff]; done) | (simp (disch := first | omega | assumption) only [wrI_s, wrI_o, wrI_r, wrL_1, wrL_r, wrL_s, wrL_o, blk_in, blk_out, blk_r, lit, litL, b00, b11, nI_l, lN_add, lN_mul, lN_sub, nI_add, pk_mul, pk_sub, pk_div, remN, Nat.add_sub_cancel, Nat.add_sub_cancel_left, Nat.zero_add, Nat.add_zero, nI_eq, nI_leI, nI_ltI, nI_m1, m1_lt, neg_lt, neg_le, neg_ge, neg_gt, neg_eq, not_true, not_false_iff]; omega)) (e_ldR rfl hk (by decide) (by decide) r52 hk (e_gf w3 (e_N hne (e_gf o1 (e_gf w3 (e_N ?_ (e_pf (w := -nI 1) rfl (e_cl v1 ?_))))))))
        · rw [pk_sub (by omega), show (4 : Int32) = nI 4 from rfl, nI_ltI (by omega) (by omega)]
          exact h4
        · rw [nI_1]
      · rw [L_X12_goSlot_71]
        unfold L_X12_goSlot_106
        refine e_N (by first | (simp (disch := first | omega | assumption) only [wrI_s, wrI_o, wrI_r, wrL_1, wrL_r, wrL_s, wrL_o, blk_in, blk_out, blk_r, lit, litL, b00, b11, nI_l, lN_add, lN_mul, lN_sub, nI_add, pk_mul, pk_sub, pk_div, remN, Nat.add_sub_cancel, Nat.add_sub_cancel_left, Nat.zero_add, Nat.add_zero, nI_eq, nI_leI, nI_ltI, nI_m1, m1_lt, neg_lt, neg_le, neg_ge, neg_gt, neg_eq, not_true, not_false_iff]; done) | (simp (disch := first | omega | assumption) only [wrI_s, wrI_o, wrI_r, wrL_1, wrL_r, wrL_s, wrL_o, blk_in, blk_out, blk_r, lit, litL, b00, b11, nI_l, lN_add, lN_mul, lN_sub, nI_add, pk_mul, pk_sub, pk_div, remN, Nat.add_sub_cancel, Nat.add_sub_cancel_left, Nat.zero_add, Nat.add_zero, nI_eq, nI_leI, nI_ltI, nI_m1, m1_lt, neg_lt, neg_le, neg_ge, neg_gt, neg_eq, not_true, not_false_iff]; omega)) (e_ldA rfl hk (by decide) (by decide) w5 (e_N (by decide) (e_gf o2 (e_ldA rfl hk (by decide) (by decide) w4 (e_T ?_ (e_cl v2 ?_))))))
        · rw [pk_sub (by omega), show (4 : Int32) = nI 4 from rfl, nI_eq (by omega) (by omega)]
          omega
        · rw [nI_1]
theorem waitF {c s d e p t g l : Nat} {C M : Mm} {x : Int32} (hs : s < 2 ^ 28) (hl : l < 2 ^ 31) (hS : SS c s d s e p t g l C M) : ∃ C' M', F_X11_failWaiters C = some ((), C') ∧ L_X12_goSlot_71 x fu 0 M = L_X12_goSlot_114 x fu 0 M' ∧ SS c s d (s + 1) e p t g l C' M' ∧ fq flC C C' ∧ fq flM M M' := by
  obtain ⟨C', M', n, ⟨p1, p2, p3, p4⟩, e1, e2⟩ := loop2 (fun n v S => L_X11_failWaiters_2 n v S) (fun n v S => L_X12_goSlot_71 x n v S) (FP c s d e p t g l C M) 9 (by decide) (fun k C1 M1 hk hP => fstep hs hl hk hP) ⟨hS, fun j hj => absurd hj (by omega), fq.rf, fq.rf⟩
  refine ⟨C', M', ?_, ?_, ?_, p3, p4⟩
  · unfold F_X11_failWaiters
    rw [e1, L_X11_failWaiters_2]
    exact e_T (by decide) rfl
  · rw [e2, L_X12_goSlot_71]
    exact e_T (by decide) rfl
  · obtain ⟨hITape, hIDraw, hINois, hIPar, hISub, hIKey, hIRef, hISta, hILnk, hIBeg, hIQue, hIHnd, hICon, hIDue, hIWai, hISnd, hISlo, hISto, hIRng, hILiv, hIEnd, hIPut, hILat, hIInb, hICnt, hIAlq⟩ := p1
    refine ⟨hITape, hIDraw, hINois, hIPar, hISub, hIKey, hIRef, hISta, hILnk, hIBeg, hIQue, hIHnd, hICon, hIDue, ?_, hISnd, hISlo, hISto, hIRng, hILiv, hIEnd, hIPut, hILat, hIInb, hICnt, hIAlq⟩
    intro k hk
    rcases hIWai k hk with w | ⟨w', n', u, w1, w2, w3, w4⟩
    · exact Or.inl w
    · exact Or.inr ⟨w', n', u, by omega, p2 k hk w' (by omega) w3, w3, w4⟩
abbrev l91 : List Nat := [91]
abbrev l248 : List Nat := [248]
def CP (c s d w p t g : Nat) (C0 M0 : Mm) (_k : Nat) (C M : Mm) : Prop := SS c s d w s p t g 0 C M ∧ fq l91 C0 C ∧ fq l248 M0 M
theorem cstep {c s d w p t g k : Nat} {C0 M0 C M : Mm} (hs : s < 2 ^ 28) (hd : d < 2 ^ 29) (hw : w < 2 ^ 29) (hk : k < 9) (h299 : M0.1 299 0 0 = nI 3) (h : CP c s d w p t g C0 M0 k C M) : ∃ C' M', CP c s d w p t g C0 M0 (k + 1) C' M' ∧ (∀ n, L_X11_countDown_13 (n + 1) (nI k) C = L_X11_countDown_13 n (nI (k + 1)) C') ∧ (∀ n, L_X12_goSlot_114 1 (n + 1) (nI k) M = L_X12_goSlot_114 1 n (nI (k + 1)) M') := by
  obtain ⟨hS, f0, g0⟩ := h
  have hS2 := hS
  obtain ⟨hITape, hIDraw, hINois, hIPar, hISub, hIKey, hIRef, hISta, hILnk, hIBeg, hIQue, hIHnd, hICon, hIDue, hIWai, hISnd, hISlo, hISto, hIRng, hILiv, hIEnd, hIPut, hILat, hIInb, hICnt, hIAlq⟩ := hS2
  have r52 := (hIRef.1 k hk).1
  obtain ⟨o1, o2, -⟩ := hISlo
  obtain ⟨f, u, qq, e1, e2, e3, e4, e5, e6, e7, e8, e9⟩ := hIQue k hk
  obtain ⟨r, r1, r2, r3⟩ := cont hS hk hs hd hw (by decide)
  have c91 := (hICon k hk).1
  have q299 : M.1 299 0 0 = nI 3 := by rw [g0.1 299 (nc (by decide))]; exact h299
  have h254 : M.1 254 0 k = -nI 1 := by
    rcases hISnd.1 k hk with ⟨s1, -⟩ | ⟨v, t', m, s1, -⟩
    · exact s1
    · omega
  have x257 : ∃ x, x ≤ 2 ∧ M.1 257 0 k = nI x := by
    rcases (hIDue k hk).2 with ⟨-, y⟩ | ⟨dd, -, -, -, -, -, y⟩
    · exact ⟨0, by decide, y⟩
    · rcases y with ⟨-, y⟩ | ⟨-, y, -⟩
      · exact ⟨1, by decide, y⟩
      · exact ⟨2, by decide, y⟩
  obtain ⟨x, hx, h257⟩ := x257
  have y255 : ∃ y, y ≤ 1 ∧ M.1 255 0 k = nI y := by
    rcases hIWai k hk with ⟨w1, w2⟩ | ⟨w', n, u', w1, w2, w3, w4, w5, -⟩
    · exact ⟨0, by decide, w2⟩
    · exact ⟨1, by decide, w5⟩
  obtain ⟨y, hy, h255⟩ := y255
  by_cases hact : r = 1 ∧ ¬ C.1 91 k 0 ≤ 0
  · obtain ⟨a1, a2⟩ := hact
    obtain ⟨b1, b2, b3, u', b4, b5, b6⟩ := r3.mp a1
    refine ⟨wrI C 91 k 0 (C.1 91 k 0 - 1), wrI M 248 0 k (C.1 91 k 0 - 1), ⟨?_, f0.tr (by repeat (first | exact fq.rf | (refine fq.tr ?_ (fq.wr (by decide))) | (refine fq.tr ?_ (fq.bk (by decide))) | (refine fq.tr ?_ (fq.wl (by decide))) | (refine fq.tr ?_ (fq.wR (by decide))))), g0.tr (by repeat (first | exact fq.rf | (refine fq.tr ?_ (fq.wr (by decide))) | (refine fq.tr ?_ (fq.bk (by decide))) | (refine fq.tr ?_ (fq.wl (by decide))) | (refine fq.tr ?_ (fq.wR (by decide)))))⟩, fun n => ?_, fun n => ?_⟩
    · have hS3 := hS
      obtain ⟨hITape, hIDraw, hINois, hIPar, hISub, hIKey, hIRef, hISta, hILnk, hIBeg, hIQue, hIHnd, hICon, hIDue, hIWai, hISnd, hISlo, hISto, hIRng, hILiv, hIEnd, hIPut, hILat, hIInb, hICnt, hIAlq⟩ := hS3
      have key : ∀ C' M', fq l91 C C' → fq l248 M M' → ICon C' M' → SS c s d w s p t g 0 C' M' := fun C' M' fC gM tICon => ⟨hITape.fr fC gM (by decide) (by decide), hIDraw.fr fC gM (by decide) (by decide), hINois.fr fC gM (by decide) (by decide), hIPar.fr fC gM (by decide) (by decide), hISub.fr fC gM (by decide) (by decide), hIKey.fr fC gM (by decide) (by decide), hIRef.fr fC gM (by decide) (by decide), hISta.fr fC gM (by decide) (by decide), hILnk.fr fC gM (by decide) (by decide), hIBeg.fr fC gM (by decide) (by decide), hIQue.fr fC gM (by decide) (by decide), hIHnd.fr fC gM (by decide) (by decide), tICon, hIDue.fr fC gM (by decide) (by decide), hIWai.fr fC gM (by decide) (by decide), hISnd.fr fC gM (by decide) (by decide), hISlo.fr fC gM (by decide) (by decide), hISto.fr fC gM (by decide) (by decide), hIRng.fr fC gM (by decide) (by decide), hILiv.fr fC gM (by decide) (by decide), hIEnd.fr fC gM (by decide) (by decide), hIPut.fr fC gM (by decide) (by decide), hILat.fr fC gM (by decide) (by decide), hIInb.fr fC gM (by decide) (by decide), hICnt.fr fC gM (by decide) (by decide), hIAlq.fr fC gM (by decide) (by decide)⟩
      refine key _ _ (by repeat (first | exact fq.rf | (refine fq.tr ?_ (fq.wr (by decide))) | (refine fq.tr ?_ (fq.bk (by decide))) | (refine fq.tr ?_ (fq.wl (by decide))) | (refine fq.tr ?_ (fq.wR (by decide))))) (by repeat (first | exact fq.rf | (refine fq.tr ?_ (fq.wr (by decide))) | (refine fq.tr ?_ (fq.bk (by decide))) | (refine fq.tr ?_ (fq.wl (by decide))) | (refine fq.tr ?_ (fq.wR (by decide))))) ?_
      intro j hj
      obtain ⟨y1, y2, cw', y3, y4, y5⟩ := hICon j hj
      by_cases hjk : j = k
      · subst hjk
        exact ⟨(by first | (simp (disch := first | omega | assumption) only [wrI_s, wrI_o, wrI_r, wrL_1, wrL_r, wrL_s, wrL_o, blk_in, blk_out, blk_r, lit, litL, b00, b11, nI_l, lN_add, lN_mul, lN_sub, nI_add, pk_mul, pk_sub, pk_div, remN, Nat.add_sub_cancel, Nat.add_sub_cancel_left, Nat.zero_add, Nat.add_zero]; done) | (simp (disch := first | omega | assumption) only [wrI_s, wrI_o, wrI_r, wrL_1, wrL_r, wrL_s, wrL_o, blk_in, blk_out, blk_r, lit, litL, b00, b11, nI_l, lN_add, lN_mul, lN_sub, nI_add, pk_mul, pk_sub, pk_div, remN, Nat.add_sub_cancel, Nat.add_sub_cancel_left, Nat.zero_add, Nat.add_zero]; rfl) | rfl), (by first | (simp (disch := first | omega | assumption) only [y2, wrI_s, wrI_o, wrI_r, wrL_1, wrL_r, wrL_s, wrL_o, blk_in, blk_out, blk_r, lit, litL, b00, b11, nI_l, lN_add, lN_mul, lN_sub, nI_add, pk_mul, pk_sub, pk_div, remN, Nat.add_sub_cancel, Nat.add_sub_cancel_left, Nat.zero_add, Nat.add_zero]; done) | (simp (disch := first | omega | assumption) only [y2, wrI_s, wrI_o, wrI_r, wrL_1, wrL_r, wrL_s, wrL_o, blk_in, blk_out, blk_r, lit, litL, b00, b11, nI_l, lN_add, lN_mul, lN_sub, nI_add, pk_mul, pk_sub, pk_div, remN, Nat.add_sub_cancel, Nat.add_sub_cancel_left, Nat.zero_add, Nat.add_zero]; rfl) | rfl), cw', y3, (by first | (simp (disch := first | omega | assumption) only [y4, wrI_s, wrI_o, wrI_r, wrL_1, wrL_r, wrL_s, wrL_o, blk_in, blk_out, blk_r, lit, litL, b00, b11, nI_l, lN_add, lN_mul, lN_sub, nI_add, pk_mul, pk_sub, pk_div, remN, Nat.add_sub_cancel, Nat.add_sub_cancel_left, Nat.zero_add, Nat.add_zero]; done) | (simp (disch := first | omega | assumption) only [y4, wrI_s, wrI_o, wrI_r, wrL_1, wrL_r, wrL_s, wrL_o, blk_in, blk_out, blk_r, lit, litL, b00, b11, nI_l, lN_add, lN_mul, lN_sub, nI_add, pk_mul, pk_sub, pk_div, remN, Nat.add_sub_cancel, Nat.add_sub_cancel_left, Nat.zero_add, Nat.add_zero]; rfl) | rfl), (by first | (simp (disch := first | omega | assumption) only [y5, wrI_s, wrI_o, wrI_r, wrL_1, wrL_r, wrL_s, wrL_o, blk_in, blk_out, blk_r, lit, litL, b00, b11, nI_l, lN_add, lN_mul, lN_sub, nI_add, pk_mul, pk_sub, pk_div, remN, Nat.add_sub_cancel, Nat.add_sub_cancel_left, Nat.zero_add, Nat.add_zero]; done) | (simp (disch := first | omega | assumption) only [y5, wrI_s, wrI_o, wrI_r, wrL_1, wrL_r, wrL_s, wrL_o, blk_in, blk_out, blk_r, lit, litL, b00, b11, nI_l, lN_add, lN_mul, lN_sub, nI_add, pk_mul, pk_sub, pk_div, remN, Nat.add_sub_cancel, Nat.add_sub_cancel_left, Nat.zero_add, Nat.add_zero]; rfl) | rfl)⟩
      · exact ⟨(by first | (simp (disch := first | omega | assumption) only [y1, wrI_s, wrI_o, wrI_r, wrL_1, wrL_r, wrL_s, wrL_o, blk_in, blk_out, blk_r, lit, litL, b00, b11, nI_l, lN_add, lN_mul, lN_sub, nI_add, pk_mul, pk_sub, pk_div, remN, Nat.add_sub_cancel, Nat.add_sub_cancel_left, Nat.zero_add, Nat.add_zero]; done) | (simp (disch := first | omega | assumption) only [y1, wrI_s, wrI_o, wrI_r, wrL_1, wrL_r, wrL_s, wrL_o, blk_in, blk_out, blk_r, lit, litL, b00, b11, nI_l, lN_add, lN_mul, lN_sub, nI_add, pk_mul, pk_sub, pk_div, remN, Nat.add_sub_cancel, Nat.add_sub_cancel_left, Nat.zero_add, Nat.add_zero]; rfl) | rfl), (by first | (simp (disch := first | omega | assumption) only [y2, wrI_s, wrI_o, wrI_r, wrL_1, wrL_r, wrL_s, wrL_o, blk_in, blk_out, blk_r, lit, litL, b00, b11, nI_l, lN_add, lN_mul, lN_sub, nI_add, pk_mul, pk_sub, pk_div, remN, Nat.add_sub_cancel, Nat.add_sub_cancel_left, Nat.zero_add, Nat.add_zero]; done) | (simp (disch := first | omega | assumption) only [y2, wrI_s, wrI_o, wrI_r, wrL_1, wrL_r, wrL_s, wrL_o, blk_in, blk_out, blk_r, lit, litL, b00, b11, nI_l, lN_add, lN_mul, lN_sub, nI_add, pk_mul, pk_sub, pk_div, remN, Nat.add_sub_cancel, Nat.add_sub_cancel_left, Nat.zero_add, Nat.add_zero]; rfl) | rfl), cw', y3, (by first | (simp (disch := first | omega | assumption) only [y4, wrI_s, wrI_o, wrI_r, wrL_1, wrL_r, wrL_s, wrL_o, blk_in, blk_out, blk_r, lit, litL, b00, b11, nI_l, lN_add, lN_mul, lN_sub, nI_add, pk_mul, pk_sub, pk_div, remN, Nat.add_sub_cancel, Nat.add_sub_cancel_left, Nat.zero_add, Nat.add_zero]; done) | (simp (disch := first | omega | assumption) only [y4, wrI_s, wrI_o, wrI_r, wrL_1, wrL_r, wrL_s, wrL_o, blk_in, blk_out, blk_r, lit, litL, b00, b11, nI_l, lN_add, lN_mul, lN_sub, nI_add, pk_mul, pk_sub, pk_div, remN, Nat.add_sub_cancel, Nat.add_sub_cancel_left, Nat.zero_add, Nat.add_zero]; rfl) | rfl), (by first | (simp (disch := first | omega | assumption) only [y5, wrI_s, wrI_o, wrI_r, wrL_1, wrL_r, wrL_s, wrL_o, blk_in, blk_out, blk_r, lit, litL, b00, b11, nI_l, lN_add, lN_mul, lN_sub, nI_add, pk_mul, pk_sub, pk_div, remN, Nat.add_sub_cancel, Nat.add_sub_cancel_left, Nat.zero_add, Nat.add_zero]; done) | (simp (disch := first | omega | assumption) only [y5, wrI_s, wrI_o, wrI_r, wrL_1, wrL_r, wrL_s, wrL_o, blk_in, blk_out, blk_r, lit, litL, b00, b11, nI_l, lN_add, lN_mul, lN_sub, nI_add, pk_mul, pk_sub, pk_div, remN, Nat.add_sub_cancel, Nat.add_sub_cancel_left, Nat.zero_add, Nat.add_zero]; rfl) | rfl)⟩
    · rw [L_X11_countDown_13]
      unfold L_X11_countDown_65
      rw [nI_1]
      exact e_N (by first | (simp (disch := first | omega | assumption) only [wrI_s, wrI_o, wrI_r, wrL_1, wrL_r, wrL_s, wrL_o, blk_in, blk_out, blk_r, lit, litL, b00, b11, nI_l, lN_add, lN_mul, lN_sub, nI_add, pk_mul, pk_sub, pk_div, remN, Nat.add_sub_cancel, Nat.add_sub_cancel_left, Nat.zero_add, Nat.add_zero, nI_eq, nI_leI, nI_ltI, nI_m1, m1_lt, neg_lt, neg_le, neg_ge, neg_gt, neg_eq, not_true, not_false_iff]; done) | (simp (disch := first | omega | assumption) only [wrI_s, wrI_o, wrI_r, wrL_1, wrL_r, wrL_s, wrL_o, blk_in, blk_out, blk_r, lit, litL, b00, b11, nI_l, lN_add, lN_mul, lN_sub, nI_add, pk_mul, pk_sub, pk_div, remN, Nat.add_sub_cancel, Nat.add_sub_cancel_left, Nat.zero_add, Nat.add_zero, nI_eq, nI_leI, nI_ltI, nI_m1, m1_lt, neg_lt, neg_le, neg_ge, neg_gt, neg_eq, not_true, not_false_iff]; omega)) (e_ldR rfl hk (by decide) (by decide) r52 hk (e_gf rfl (e_N a2 (e_ldR rfl hk (by decide) (by decide) r52 hk (e_gf o1 (e_cl r2 (e_N (by rw [a1]; decide) (e_ldR rfl hk (by decide) (by decide) r52 hk (e_gf rfl (e_pf rfl rfl))))))))))
    · rw [L_X12_goSlot_114]
      unfold L_X12_goSlot_178
      rw [nI_1]
      have a2' : ¬ M.1 248 0 k ≤ 0 := by rw [← c91]; exact a2
      exact e_N (by first | (simp (disch := first | omega | assumption) only [wrI_s, wrI_o, wrI_r, wrL_1, wrL_r, wrL_s, wrL_o, blk_in, blk_out, blk_r, lit, litL, b00, b11, nI_l, lN_add, lN_mul, lN_sub, nI_add, pk_mul, pk_sub, pk_div, remN, Nat.add_sub_cancel, Nat.add_sub_cancel_left, Nat.zero_add, Nat.add_zero, nI_eq, nI_leI, nI_ltI, nI_m1, m1_lt, neg_lt, neg_le, neg_ge, neg_gt, neg_eq, not_true, not_false_iff]; done) | (simp (disch := first | omega | assumption) only [wrI_s, wrI_o, wrI_r, wrL_1, wrL_r, wrL_s, wrL_o, blk_in, blk_out, blk_r, lit, litL, b00, b11, nI_l, lN_add, lN_mul, lN_sub, nI_add, pk_mul, pk_sub, pk_div, remN, Nat.add_sub_cancel, Nat.add_sub_cancel_left, Nat.zero_add, Nat.add_zero, nI_eq, nI_leI, nI_ltI, nI_m1, m1_lt, neg_lt, neg_le, neg_ge, neg_gt, neg_eq, not_true, not_false_iff]; omega)) (e_N (by decide) (e_gf q299 (e_N (by decide) (e_ldA rfl hk (by decide) (by decide) b2 (e_T rfl (e_ldA rfl hk (by decide) (by decide) b3 (e_T rfl (e_ldA rfl hk (by decide) (by decide) b6 (e_N (nI_nle b4 (by omega)) (e_ldA rfl hk (by decide) (by decide) rfl (e_N a2' (e_ldA (v := C.1 91 k 0) rfl hk (by decide) (by decide) c91.symm (e_stA rfl hk (by decide) (by decide) rfl rfl)))))))))))))
  · refine ⟨C, M, ⟨hS, f0, g0⟩, fun n => ?_, fun n => ?_⟩
    · rw [L_X11_countDown_13]
      unfold L_X11_countDown_65
      rw [nI_1]
      refine e_N (by first | (simp (disch := first | omega | assumption) only [wrI_s, wrI_o, wrI_r, wrL_1, wrL_r, wrL_s, wrL_o, blk_in, blk_out, blk_r, lit, litL, b00, b11, nI_l, lN_add, lN_mul, lN_sub, nI_add, pk_mul, pk_sub, pk_div, remN, Nat.add_sub_cancel, Nat.add_sub_cancel_left, Nat.zero_add, Nat.add_zero, nI_eq, nI_leI, nI_ltI, nI_m1, m1_lt, neg_lt, neg_le, neg_ge, neg_gt, neg_eq, not_true, not_false_iff]; done) | (simp (disch := first | omega | assumption) only [wrI_s, wrI_o, wrI_r, wrL_1, wrL_r, wrL_s, wrL_o, blk_in, blk_out, blk_r, lit, litL, b00, b11, nI_l, lN_add, lN_mul, lN_sub, nI_add, pk_mul, pk_sub, pk_div, remN, Nat.add_sub_cancel, Nat.add_sub_cancel_left, Nat.zero_add, Nat.add_zero, nI_eq, nI_leI, nI_ltI, nI_m1, m1_lt, neg_lt, neg_le, neg_ge, neg_gt, neg_eq, not_true, not_false_iff]; omega)) (e_ldR rfl hk (by decide) (by decide) r52 hk (e_gf rfl ?_))
      by_cases hb : C.1 91 k 0 ≤ 0
      · exact e_T hb rfl
      · refine e_N hb (e_ldR rfl hk (by decide) (by decide) r52 hk (e_gf o1 (e_cl r2 (e_T ?_ rfl))))
        have : ¬ r = 1 := fun hr => hact ⟨hr, hb⟩
        have : r = 0 := by omega
        rw [this]; rfl
    · rw [L_X12_goSlot_114]
      unfold L_X12_goSlot_178
      rw [nI_1]
      refine e_N (by first | (simp (disch := first | omega | assumption) only [wrI_s, wrI_o, wrI_r, wrL_1, wrL_r, wrL_s, wrL_o, blk_in, blk_out, blk_r, lit, litL, b00, b11, nI_l, lN_add, lN_mul, lN_sub, nI_add, pk_mul, pk_sub, pk_div, remN, Nat.add_sub_cancel, Nat.add_sub_cancel_left, Nat.zero_add, Nat.add_zero, nI_eq, nI_leI, nI_ltI, nI_m1, m1_lt, neg_lt, neg_le, neg_ge, neg_gt, neg_eq, not_true, not_false_iff]; done) | (simp (disch := first | omega | assumption) only [wrI_s, wrI_o, wrI_r, wrL_1, wrL_r, wrL_s, wrL_o, blk_in, blk_out, blk_r, lit, litL, b00, b11, nI_l, lN_add, lN_mul, lN_sub, nI_add, pk_mul, pk_sub, pk_div, remN, Nat.add_sub_cancel, Nat.add_sub_cancel_left, Nat.zero_add, Nat.add_zero, nI_eq, nI_leI, nI_ltI, nI_m1, m1_lt, neg_lt, neg_le, neg_ge, neg_gt, neg_eq, not_true, not_false_iff]; omega)) (e_N (by decide) (e_gf q299 (e_N (by decide) (e_ldA rfl hk (by decide) (by decide) h257 ?_))))
      by_cases hx0 : x = 0
      · refine e_T (by rw [hx0]; rfl) (e_ldA rfl hk (by decide) (by decide) h255 ?_)
        by_cases hy0 : y = 0
        · refine e_T (by rw [hy0]; rfl) (e_ldA rfl hk (by decide) (by decide) e6 ?_)
          by_cases hu0 : u = 0
          · exact e_T (by rw [hu0]; decide) rfl
          · refine e_N (nI_nle (by omega) (by omega)) (e_ldA rfl hk (by decide) (by decide) rfl (e_T ?_ rfl))
            by_cases hb : M.1 248 0 k ≤ 0
            · exact hb
            · exact absurd ⟨r3.mpr ⟨h254, by rw [h257, hx0], by rw [h255, hy0], u, by omega, e2, e6⟩, by rw [c91]; exact hb⟩ hact
        · exact e_N (nI_ne0 (by omega) (by omega)) rfl
      · exact e_N (nI_ne0 (by omega) (by omega)) rfl
theorem cntD {c s d w p t g : Nat} {C M : Mm} (hs : s < 2 ^ 28) (hd : d < 2 ^ 29) (hw : w < 2 ^ 29) (hS : SS c s d w s p t g 0 C M) (h299 : M.1 299 0 0 = nI 3) (hq : F_X5_isQuietSince C = some (nI 1, C)) : ∃ C' M', F_X11_countDown C = some ((), C') ∧ L_X12_goSlot_114 1 fu 0 M = L_X12_goSlot_184 1 M' ∧ SS c s d w s p t g 0 C' M' ∧ fq l91 C C' ∧ fq l248 M M' := by
  obtain ⟨C', M', n, ⟨p1, p2, p3⟩, e1, e2⟩ := loop2 (fun n v S => L_X11_countDown_13 n v S) (fun n v S => L_X12_goSlot_114 1 n v S) (CP c s d w p t g C M) 9 (by decide) (fun k C1 M1 hk hP => cstep hs hd hw hk h299 hP) ⟨hS, fq.rf, fq.rf⟩
  refine ⟨C', M', ?_, ?_, p1, p2, p3⟩
  · unfold F_X11_countDown
    refine e_cl hq (e_N (by decide) ?_)
    rw [e1, L_X11_countDown_13]
    exact e_T (by decide) rfl
  · rw [e2, L_X12_goSlot_114]
    exact e_T (by decide) rfl
