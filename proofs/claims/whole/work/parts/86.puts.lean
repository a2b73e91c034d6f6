/-! WHAT OTHERS PUT BEGINS: the step, the loop -/
theorem pstep {c s d w t g l n k j : Nat} {C0 M0 C M : Mm} (hc : c ≤ 512) (hs : s < 2 ^ 28) (hg : g < 2 ^ 28) (hl : l < 2 ^ 20) (hn : n ≤ 20) (hk : k < n) (h : PP c s d w t g l n C0 M0 k j C M) : ∃ j' C' M', PP c s d w t g l n C0 M0 (k + 1) j' C' M' ∧ (∀ n, L_X8_begin_4 (n + 1) (nI j) (nI k) C = L_X8_begin_4 n (nI j') (nI (k + 1)) C') ∧ (∀ n, L_X12_begin_133 (n + 1) (nI j) (nI k) M = L_X12_begin_133 n (nI j') (nI (k + 1)) M') := by
  obtain ⟨hjk, g', l', hS, hg', hl', a1, a2, hrow, ⟨n', P, b1, b2, b3, b4⟩, q299, q78⟩ := h
  have hl2 := live_lt hS hc (by omega)
  have hS2 := hS
  obtain ⟨hITape, hIDraw, hINois, hIPar, hISub, hIKey, hIRef, hISta, hILnk, hIBeg, hIQue, hIHnd, hICon, hIDue, hIWai, hISnd, hISlo, hISto, hIRng, hILiv, hIEnd, hIPut, hILat, hIInb, hICnt, hIAlq⟩ := hS2
  obtain ⟨m, t', m1, m2, m3, m4, m5, m6, m7, m8, m9⟩ := hrow k (Nat.le_refl k) hk
  obtain ⟨np, p1, p2, p3, p4, p5, p6⟩ := id hIPut
  have f0 : fq [101] (wrI C 101 0 0 (nI j)) C := fq.sy (by repeat (first | exact fq.rf | (refine fq.tr ?_ (fq.wr (by decide))) | (refine fq.tr ?_ (fq.bk (by decide))) | (refine fq.tr ?_ (fq.wl (by decide))) | (refine fq.tr ?_ (fq.wR (by decide)))))
  have g0 : fq [306] (wrI M 306 0 0 (nI j)) M := fq.sy (by repeat (first | exact fq.rf | (refine fq.tr ?_ (fq.wr (by decide))) | (refine fq.tr ?_ (fq.bk (by decide))) | (refine fq.tr ?_ (fq.wl (by decide))) | (refine fq.tr ?_ (fq.wR (by decide)))))
  have rS := hISlo.fr f0 g0 (by decide) (by decide)
  have rR := hIRng.fr f0 g0 (by decide) (by decide)
  have rL := hILiv.fr f0 g0 (by decide) (by decide)
  have rE := hIEnd.fr f0 g0 (by decide) (by decide)
  have rF := hIRef.fr f0 g0 (by decide) (by decide)
  have rN := hISnd.fr f0 g0 (by decide) (by decide)
  have p5' : ∀ i, i < 20 → C.2.2 41 0 i < 20 := p5
  have p6' : ∀ i j, i < 20 → j < 20 → C.2.2 41 0 i = C.2.2 41 0 j → i = j := p6
  have o76 := rS.1
  have o298 := rS.2.1
  by_cases hts : t' = s
  · rw [hts] at m7 m8
    have hsl : slN m ≤ 12 ∧ 3 ≤ slN m := by unfold slN; omega
    have hE := rE (slN m - 1) (by omega)
    rw [show s + (slN m - 1) = s + slN m - 1 by omega] at hE
    have okc : okW false 42 (C.2.2 41 0 k) = true := okW_n (by decide) (show C.2.2 41 0 k < 20 from p5' k (by omega))
    have e1 := outCe (sd := 9) rS rF okc (by decide) m1 m2 (show m ≤ 300 from m2) (by decide) (by omega) (by omega) (by omega) hE
    have e2 := outMe (sd := 9) (at' := 300 * k) (cv := 276) (i := 0) rS (by decide) (by decide) m1 m2 (show 300 * k + m ≤ 6000 by omega) (by decide) (by omega) (by omega) (by omega) (by omega)
    have oI := outI (sd := 9) (fC := C.1 42 (C.2.2 41 0 k)) (fM := fun i => M.1 276 0 (300 * k + i)) rS rR rL rE m1 m2 (by omega) (by omega) (by omega) (by omega) m9 hE
    generalize he : cnt (fun v => decide (M.1 261 0 v = nI (s + slN m - 1))) l' = e at *
    obtain ⟨i1, i2, i3, i4⟩ := oI
    have hB : outM M (g' % 40) m 9 s (s + slN m - 1) g' l' (fun i => M.1 276 0 (300 * k + i)) = outB M (g' % 40) m 9 s (s + slN m - 1) g' l' (fun i => M.1 276 0 (300 * k + i)) := by
      unfold outM outB
      rw [if_pos (by omega)]
    obtain ⟨⟨w1, w2, w3, w4⟩, w5⟩ := outM_row (M := M) (R := g' % 40) (n := m) (sd := 9) (s := s) (t := s + slN m - 1) (g := g') (l := l') (f := fun i => M.1 276 0 (300 * k + i)) m1
    have c9 := cnt9 (M := M) (R := g' % 40) (n := m) (sd := 9) (s := s) (t := s + slN m - 1) (g := g') (l := l') (f := fun i => M.1 276 0 (300 * k + i)) m1 (by omega)
    have w6 := outM_264 (M := M) (R := g' % 40) (n := m) (sd := 9) (s := s) (t := s + slN m - 1) (g := g') (l := l') (f := fun i => M.1 276 0 (300 * k + i))
    have gq : fq outMb M (outB M (g' % 40) m 9 s (s + slN m - 1) g' l' (fun i => M.1 276 0 (300 * k + i))) := outB_q.up (by decide)
    have fq1 := outC_q (C := C) (R := g' % 40) (n := m) (sd := 9) (s := s) (t := s + slN m - 1) (e := e) (g := g') (l := l') (f := C.1 42 (C.2.2 41 0 k))
    rw [hB] at w1 w2 w3 w4 w5 w6 c9 e2
    clear hB
    generalize hT : s + slN m - 1 = T at *
    generalize outC C (g' % 40) m 9 s T e g' l' (C.1 42 (C.2.2 41 0 k)) = C1 at *
    generalize outB M (g' % 40) m 9 s T g' l' (fun i => M.1 276 0 (300 * k + i)) = M1 at *
    have f1 : fq [101] C1 (wrI C1 101 0 0 (nI j)) := by repeat (first | exact fq.rf | (refine fq.tr ?_ (fq.wr (by decide))) | (refine fq.tr ?_ (fq.bk (by decide))) | (refine fq.tr ?_ (fq.wl (by decide))) | (refine fq.tr ?_ (fq.wR (by decide))))
    have g1 : fq [306] M1 (wrI M1 306 0 0 (nI j)) := by repeat (first | exact fq.rf | (refine fq.tr ?_ (fq.wr (by decide))) | (refine fq.tr ?_ (fq.bk (by decide))) | (refine fq.tr ?_ (fq.wl (by decide))) | (refine fq.tr ?_ (fq.wR (by decide))))
    have m254 : M1.1 254 = M.1 254 := gq.1 254 (nc (by decide))
    have m255 : M1.1 255 = M.1 255 := gq.1 255 (nc (by decide))
    have c96 : C1.1 96 = C.1 96 := fq1.1 96 (nc (by decide))
    have c97 : C1.1 97 = C.1 97 := fq1.1 97 (nc (by decide))
    have c100 : C1.1 100 = C.1 100 := fq1.1 100 (nc (by decide))
    have c103 : C1.1 103 = C.1 103 := fq1.1 103 (nc (by decide))
    have i5 : ISnd s (l' + 1) C1 M1 := by
      refine ⟨fun jj hjj => ?_, fun v jj hv hjj hvj => ?_⟩
      · rcases rN.1 jj hjj with ⟨q1, q2⟩ | ⟨v, tt, mm, q1, q2, q3, q4, q5, q6, q7, q8, q9⟩
        · exact Or.inl ⟨by rw [m254]; exact q1, by rw [c96]; exact q2⟩
        · refine Or.inr ⟨v, tt, mm, by omega, by rw [m254]; exact q2, by rw [(w5 v q1).1]; exact q3, by rw [(w5 v q1).2.1]; exact q4, q5, by rw [c96]; exact q6, by rw [(w5 v q1).2.2.1]; exact q7, q8, ?_⟩
          rw [(w5 v q1).2.2.2, c97, m255, c103, c100]
          exact q9
      · by_cases hvl : v = l'
        · rw [hvl, w1] at hvj
          have := (nI_eq (by omega) (by omega)).mp hvj
          omega
        · rw [(w5 v (by omega)).1] at hvj
          rw [m254]
          exact rN.2 v jj (by omega) hjj hvj
    refine ⟨j, C1, M1, ⟨by omega, g' + 1, l' + 1, ?_, by omega, by omega, by rw [fq1.1 101 (nc (by decide))]; exact a1, by rw [gq.1 306 (nc (by decide))]; exact a2, fun i hki hin => ?_, ⟨n', P, b1, by rw [gq.1 291 (nc (by decide))]; exact b2, by rw [c9, if_pos rfl]; omega, b4⟩, (gq.1 299 (nc (by decide))).trans q299, (fq1.1 78 (nc (by decide))).trans q78⟩, fun n => ?_, fun n => ?_⟩
    · refine SS.out9 hS fq1.cw gq.cw (i5.fr f1 g1 (by decide) (by decide)) (i1.fr f1 g1 (by decide) (by decide)) (i2.fr f1 g1 (by decide) (by decide)) (i3.fr f1 g1 (by decide) (by decide)) (i4.fr f1 g1 (by decide) (by decide)) ⟨n', j, P, b1, by omega, by rw [wrI_ne (by decide), gq.1 291 (nc (by decide))]; exact b2, wrI_s, ?_, b4⟩ (fun v hv hvl _ => ?_)
      · rw [cnt_congr (q := fun v => decide (M1.1 260 0 v = nI 9)) (fun v _ => by rw [wrI_ne (by decide)]), c9, if_pos rfl]
        omega
      · have ev : v = l' := by omega
        rw [ev, wrI_ne (by decide), w6, nI_1]
    · have hr := hrow i (by omega) hin
      unfold PRow at hr ⊢
      rw [fq1.1 43 (nc (by decide)), fq1.1 44 (nc (by decide)), fq1.1 42 (nc (by decide)), fq1.2.2 41 (nc (by decide)), gq.1 274 (nc (by decide)), gq.1 275 (nc (by decide)), gq.1 276 (nc (by decide))]
      exact hr
    · rw [L_X8_begin_4]
      unfold L_X8_begin_56
      refine e_gf a1 (e_N (by first | (simp (disch := first | omega | assumption) only [wrI_s, wrI_o, wrI_r, wrL_1, wrL_r, wrL_s, wrL_o, blk_in, blk_out, blk_r, lit, litL, b00, b11, nI_l, lN_add, lN_mul, lN_sub, nI_add, pk_mul, pk_sub, pk_div, remN, Nat.add_sub_cancel, Nat.add_sub_cancel_left, Nat.zero_add, Nat.add_zero, nI_eq, nI_leI, nI_ltI, nI_m1, m1_lt, neg_lt, neg_le, neg_ge, neg_gt, neg_eq, not_true, not_false_iff]; done) | (simp (disch := first | omega | assumption) only [wrI_s, wrI_o, wrI_r, wrL_1, wrL_r, wrL_s, wrL_o, blk_in, blk_out, blk_r, lit, litL, b00, b11, nI_l, lN_add, lN_mul, lN_sub, nI_add, pk_mul, pk_sub, pk_div, remN, Nat.add_sub_cancel, Nat.add_sub_cancel_left, Nat.zero_add, Nat.add_zero, nI_eq, nI_leI, nI_ltI, nI_m1, m1_lt, neg_lt, neg_le, neg_ge, neg_gt, neg_eq, not_true, not_false_iff]; omega)) (e_ldA rfl (by omega) (by decide) (by decide) m7 (e_gf o76 (e_T rfl (e_ldR rfl (by omega) (by decide) (by decide) rfl (p5' k (by omega)) (e_ldA rfl (by omega) (by decide) (by decide) m5 (e_cl e1 ?_)))))))
      rw [nI_1]
    · rw [L_X12_begin_133]
      unfold L_X12_begin_247
      refine e_gf a2 (e_N (by first | (simp (disch := first | omega | assumption) only [wrI_s, wrI_o, wrI_r, wrL_1, wrL_r, wrL_s, wrL_o, blk_in, blk_out, blk_r, lit, litL, b00, b11, nI_l, lN_add, lN_mul, lN_sub, nI_add, pk_mul, pk_sub, pk_div, remN, Nat.add_sub_cancel, Nat.add_sub_cancel_left, Nat.zero_add, Nat.add_zero, nI_eq, nI_leI, nI_ltI, nI_m1, m1_lt, neg_lt, neg_le, neg_ge, neg_gt, neg_eq, not_true, not_false_iff]; done) | (simp (disch := first | omega | assumption) only [wrI_s, wrI_o, wrI_r, wrL_1, wrL_r, wrL_s, wrL_o, blk_in, blk_out, blk_r, lit, litL, b00, b11, nI_l, lN_add, lN_mul, lN_sub, nI_add, pk_mul, pk_sub, pk_div, remN, Nat.add_sub_cancel, Nat.add_sub_cancel_left, Nat.zero_add, Nat.add_zero, nI_eq, nI_leI, nI_ltI, nI_m1, m1_lt, neg_lt, neg_le, neg_ge, neg_gt, neg_eq, not_true, not_false_iff]; omega)) (e_ldA rfl (by omega) (by decide) (by decide) m8 (e_gf o298 (e_T rfl (e_ldA rfl (by omega) (by decide) (by decide) m6 ?_)))))
      rw [show (300 : Int32) * nI k = nI (300 * k) from pk_mul 300 k]
      refine e_cl e2 ?_
      rw [nI_1]
  · have hts' : s + 1 ≤ t' := by omega
    have enp : np = j := (nI_eq (by omega) (by omega)).mp (p2.symm.trans wrI_s)
    have x43 : ∀ i, ¬ i = j → (mvC C k j).1 43 0 i = C.1 43 0 i := fun i hi => by unfold mvC; first | (simp (disch := first | omega | assumption) only [wrR_1, wrI_s, wrI_o, wrI_r, wrL_1, wrL_r, wrL_s, wrL_o, blk_in, blk_out, blk_r, lit, litL, b00, b11, nI_l, lN_add, lN_mul, lN_sub, nI_add, pk_mul, pk_sub, pk_div, remN, Nat.add_sub_cancel, Nat.add_sub_cancel_left, Nat.zero_add, Nat.add_zero]; done) | (simp (disch := first | omega | assumption) only [wrR_1, wrI_s, wrI_o, wrI_r, wrL_1, wrL_r, wrL_s, wrL_o, blk_in, blk_out, blk_r, lit, litL, b00, b11, nI_l, lN_add, lN_mul, lN_sub, nI_add, pk_mul, pk_sub, pk_div, remN, Nat.add_sub_cancel, Nat.add_sub_cancel_left, Nat.zero_add, Nat.add_zero]; rfl) | rfl
    have x44 : ∀ i, ¬ i = j → (mvC C k j).1 44 0 i = C.1 44 0 i := fun i hi => by unfold mvC; first | (simp (disch := first | omega | assumption) only [wrR_1, wrI_s, wrI_o, wrI_r, wrL_1, wrL_r, wrL_s, wrL_o, blk_in, blk_out, blk_r, lit, litL, b00, b11, nI_l, lN_add, lN_mul, lN_sub, nI_add, pk_mul, pk_sub, pk_div, remN, Nat.add_sub_cancel, Nat.add_sub_cancel_left, Nat.zero_add, Nat.add_zero]; done) | (simp (disch := first | omega | assumption) only [wrR_1, wrI_s, wrI_o, wrI_r, wrL_1, wrL_r, wrL_s, wrL_o, blk_in, blk_out, blk_r, lit, litL, b00, b11, nI_l, lN_add, lN_mul, lN_sub, nI_add, pk_mul, pk_sub, pk_div, remN, Nat.add_sub_cancel, Nat.add_sub_cancel_left, Nat.zero_add, Nat.add_zero]; rfl) | rfl
    have y43 : (mvC C k j).1 43 0 j = nI m := by unfold mvC; first | (simp (disch := first | omega | assumption) only [wrR_1, m5, wrI_s, wrI_o, wrI_r, wrL_1, wrL_r, wrL_s, wrL_o, blk_in, blk_out, blk_r, lit, litL, b00, b11, nI_l, lN_add, lN_mul, lN_sub, nI_add, pk_mul, pk_sub, pk_div, remN, Nat.add_sub_cancel, Nat.add_sub_cancel_left, Nat.zero_add, Nat.add_zero]; done) | (simp (disch := first | omega | assumption) only [wrR_1, m5, wrI_s, wrI_o, wrI_r, wrL_1, wrL_r, wrL_s, wrL_o, blk_in, blk_out, blk_r, lit, litL, b00, b11, nI_l, lN_add, lN_mul, lN_sub, nI_add, pk_mul, pk_sub, pk_div, remN, Nat.add_sub_cancel, Nat.add_sub_cancel_left, Nat.zero_add, Nat.add_zero]; rfl) | rfl
    have y44 : (mvC C k j).1 44 0 j = nI t' := by unfold mvC; first | (simp (disch := first | omega | assumption) only [wrR_1, m7, wrI_s, wrI_o, wrI_r, wrL_1, wrL_r, wrL_s, wrL_o, blk_in, blk_out, blk_r, lit, litL, b00, b11, nI_l, lN_add, lN_mul, lN_sub, nI_add, pk_mul, pk_sub, pk_div, remN, Nat.add_sub_cancel, Nat.add_sub_cancel_left, Nat.zero_add, Nat.add_zero]; done) | (simp (disch := first | omega | assumption) only [wrR_1, m7, wrI_s, wrI_o, wrI_r, wrL_1, wrL_r, wrL_s, wrL_o, blk_in, blk_out, blk_r, lit, litL, b00, b11, nI_l, lN_add, lN_mul, lN_sub, nI_add, pk_mul, pk_sub, pk_div, remN, Nat.add_sub_cancel, Nat.add_sub_cancel_left, Nat.zero_add, Nat.add_zero]; rfl) | rfl
    have r41k : (mvC C k j).2.2 41 0 k = C.2.2 41 0 j := by
      show (wrR (wrR C 41 0 j (C.2.2 41 0 k)) 41 0 k (C.2.2 41 0 j)).2.2 41 0 k = _
      exact wrR_s
    have r41j : (mvC C k j).2.2 41 0 j = C.2.2 41 0 k := by
      show (wrR (wrR C 41 0 j (C.2.2 41 0 k)) 41 0 k (C.2.2 41 0 j)).2.2 41 0 j = _
      by_cases hjk2 : j = k
      · rw [hjk2, wrR_s]
      · rw [wrR_o (by omega), wrR_s]
    have r41o : ∀ i, ¬ i = j → ¬ i = k → (mvC C k j).2.2 41 0 i = C.2.2 41 0 i := by
      intro i h1 h2
      show (wrR (wrR C 41 0 j (C.2.2 41 0 k)) 41 0 k (C.2.2 41 0 j)).2.2 41 0 i = _
      rw [wrR_o (by omega), wrR_o (by omega)]
    have sw := swp (f := C.2.2 41 0) (g := (mvC C k j).2.2 41 0) (j := j) (k := k) (by omega) (by omega) p5' p6' r41k r41j r41o
    have fm : fq l101 C (mvC C k j) := by unfold mvC; repeat (first | exact fq.rf | (refine fq.tr ?_ (fq.wr (by decide))) | (refine fq.tr ?_ (fq.bk (by decide))) | (refine fq.tr ?_ (fq.wl (by decide))) | (refine fq.tr ?_ (fq.wR (by decide))))
    have c42 : (mvC C k j).1 42 = C.1 42 := fm.1 42 (nc (by decide))
    have em := mvCe (C := C) (k := k) (j := j) (by omega) (by omega) p5'
    have c101 : (mvC C k j).1 101 = C.1 101 := by unfold mvC; rw [wrI_ne (by decide), wrI_ne (by decide)]; rfl
    have gm : fq [274, 275, 276] M (blk (wrI (wrI M 274 0 j (nI t')) 275 0 j (nI m)) 276 0 (300 * j) m (fun i => M.1 276 0 (300 * k + i))) := by repeat (first | exact fq.rf | (refine fq.tr ?_ (fq.wr (by decide))) | (refine fq.tr ?_ (fq.bk (by decide))) | (refine fq.tr ?_ (fq.wl (by decide))) | (refine fq.tr ?_ (fq.wR (by decide))))
    have n275 : ∀ i, ¬ i = j → (blk (wrI (wrI M 274 0 j (nI t')) 275 0 j (nI m)) 276 0 (300 * j) m (fun i => M.1 276 0 (300 * k + i))).1 275 0 i = M.1 275 0 i := fun i hi => (by first | (simp (disch := first | omega | assumption) only [wrI_s, wrI_o, wrI_r, wrL_1, wrL_r, wrL_s, wrL_o, blk_in, blk_out, blk_r, lit, litL, b00, b11, nI_l, lN_add, lN_mul, lN_sub, nI_add, pk_mul, pk_sub, pk_div, remN, Nat.add_sub_cancel, Nat.add_sub_cancel_left, Nat.zero_add, Nat.add_zero]; done) | (simp (disch := first | omega | assumption) only [wrI_s, wrI_o, wrI_r, wrL_1, wrL_r, wrL_s, wrL_o, blk_in, blk_out, blk_r, lit, litL, b00, b11, nI_l, lN_add, lN_mul, lN_sub, nI_add, pk_mul, pk_sub, pk_div, remN, Nat.add_sub_cancel, Nat.add_sub_cancel_left, Nat.zero_add, Nat.add_zero]; rfl) | rfl)
    have n274 : ∀ i, ¬ i = j → (blk (wrI (wrI M 274 0 j (nI t')) 275 0 j (nI m)) 276 0 (300 * j) m (fun i => M.1 276 0 (300 * k + i))).1 274 0 i = M.1 274 0 i := fun i hi => (by first | (simp (disch := first | omega | assumption) only [wrI_s, wrI_o, wrI_r, wrL_1, wrL_r, wrL_s, wrL_o, blk_in, blk_out, blk_r, lit, litL, b00, b11, nI_l, lN_add, lN_mul, lN_sub, nI_add, pk_mul, pk_sub, pk_div, remN, Nat.add_sub_cancel, Nat.add_sub_cancel_left, Nat.zero_add, Nat.add_zero]; done) | (simp (disch := first | omega | assumption) only [wrI_s, wrI_o, wrI_r, wrL_1, wrL_r, wrL_s, wrL_o, blk_in, blk_out, blk_r, lit, litL, b00, b11, nI_l, lN_add, lN_mul, lN_sub, nI_add, pk_mul, pk_sub, pk_div, remN, Nat.add_sub_cancel, Nat.add_sub_cancel_left, Nat.zero_add, Nat.add_zero]; rfl) | rfl)
    have o275 : (blk (wrI (wrI M 274 0 j (nI t')) 275 0 j (nI m)) 276 0 (300 * j) m (fun i => M.1 276 0 (300 * k + i))).1 275 0 j = nI m := (by first | (simp (disch := first | omega | assumption) only [wrI_s, wrI_o, wrI_r, wrL_1, wrL_r, wrL_s, wrL_o, blk_in, blk_out, blk_r, lit, litL, b00, b11, nI_l, lN_add, lN_mul, lN_sub, nI_add, pk_mul, pk_sub, pk_div, remN, Nat.add_sub_cancel, Nat.add_sub_cancel_left, Nat.zero_add, Nat.add_zero]; done) | (simp (disch := first | omega | assumption) only [wrI_s, wrI_o, wrI_r, wrL_1, wrL_r, wrL_s, wrL_o, blk_in, blk_out, blk_r, lit, litL, b00, b11, nI_l, lN_add, lN_mul, lN_sub, nI_add, pk_mul, pk_sub, pk_div, remN, Nat.add_sub_cancel, Nat.add_sub_cancel_left, Nat.zero_add, Nat.add_zero]; rfl) | rfl)
    have o274 : (blk (wrI (wrI M 274 0 j (nI t')) 275 0 j (nI m)) 276 0 (300 * j) m (fun i => M.1 276 0 (300 * k + i))).1 274 0 j = nI t' := (by first | (simp (disch := first | omega | assumption) only [wrI_s, wrI_o, wrI_r, wrL_1, wrL_r, wrL_s, wrL_o, blk_in, blk_out, blk_r, lit, litL, b00, b11, nI_l, lN_add, lN_mul, lN_sub, nI_add, pk_mul, pk_sub, pk_div, remN, Nat.add_sub_cancel, Nat.add_sub_cancel_left, Nat.zero_add, Nat.add_zero]; done) | (simp (disch := first | omega | assumption) only [wrI_s, wrI_o, wrI_r, wrL_1, wrL_r, wrL_s, wrL_o, blk_in, blk_out, blk_r, lit, litL, b00, b11, nI_l, lN_add, lN_mul, lN_sub, nI_add, pk_mul, pk_sub, pk_div, remN, Nat.add_sub_cancel, Nat.add_sub_cancel_left, Nat.zero_add, Nat.add_zero]; rfl) | rfl)
    have n276 : ∀ i jj, ¬ i = j → jj < 300 → (blk (wrI (wrI M 274 0 j (nI t')) 275 0 j (nI m)) 276 0 (300 * j) m (fun i => M.1 276 0 (300 * k + i))).1 276 0 (300 * i + jj) = M.1 276 0 (300 * i + jj) := fun i jj hi hjj => by
      rw [blk_out (by omega), wrI_ne (by decide), wrI_ne (by decide)]
    have o276 : ∀ jj, jj < m → (blk (wrI (wrI M 274 0 j (nI t')) 275 0 j (nI m)) 276 0 (300 * j) m (fun i => M.1 276 0 (300 * k + i))).1 276 0 (300 * j + jj) = M.1 276 0 (300 * k + jj) := fun jj hjj => by
      rw [blk_in (by omega) (by omega), Nat.add_sub_cancel_left]
    have pm : L_X12_begin_204 = L_X12_begin_204 := rfl
    have h275w : (wrI (wrI M 274 0 j (nI t')) 275 0 j (nI m)).1 275 0 k = nI m := by
      by_cases hjk2 : j = k
      · rw [hjk2, wrI_s]
      · rw [wrI_o (by omega), wrI_ne (by decide)]
        exact m6
    have pc : ∀ K : Int32 → Int32 → Mm → Option (Unit × Mm), L_X12_begin_204 K (nI j) (nI k) fu 0 (wrI (wrI M 274 0 j (nI t')) 275 0 j (nI m)) = K (nI (j + 1)) (nI (k + 1)) (blk (wrI (wrI M 274 0 j (nI t')) 275 0 j (nI m)) 276 0 (300 * j) m (fun i => M.1 276 0 (300 * k + i))) := by
      intro K
      rw [pcM hjk (by omega) m2 h275w]
      congr 2
    have pend : ∀ i, k + 1 ≤ i → i < n → PRow s (mvC C k j) (blk (wrI (wrI M 274 0 j (nI t')) 275 0 j (nI m)) 276 0 (300 * j) m (fun i => M.1 276 0 (300 * k + i))) i := by
      intro i hki hin
      obtain ⟨m', u', v1, v2, v3, v4, v5, v6, v7, v8, v9⟩ := hrow i (by omega) hin
      refine ⟨m', u', v1, v2, v3, v4, by rw [x43 i (by omega)]; exact v5, by rw [n275 i (by omega)]; exact v6, by rw [x44 i (by omega)]; exact v7, by rw [n274 i (by omega)]; exact v8, fun jj hjj => ?_⟩
      rw [n276 i jj (by omega) (by omega), c42, r41o i (by omega) (by omega)]
      exact v9 jj hjj
    generalize hMM : blk (wrI (wrI M 274 0 j (nI t')) 275 0 j (nI m)) 276 0 (300 * j) m (fun i => M.1 276 0 (300 * k + i)) = M1 at *
    have k78 : (mvC C k j).1 78 = C.1 78 := fm.1 78 (nc (by decide))
    generalize mvC C k j = C1 at *
    have n260 : M1.1 260 = M.1 260 := gm.1 260 (nc (by decide))
    have n291 : M1.1 291 = M.1 291 := gm.1 291 (nc (by decide))
    have f2 : fq l101 (wrI C 101 0 0 (nI j)) (wrI C1 101 0 0 (nI (j + 1))) := ((f0.up (by decide)).tr fm).tr (by repeat (first | exact fq.rf | (refine fq.tr ?_ (fq.wr (by decide))) | (refine fq.tr ?_ (fq.bk (by decide))) | (refine fq.tr ?_ (fq.wl (by decide))) | (refine fq.tr ?_ (fq.wR (by decide)))))
    have g2 : fq l306 (wrI M 306 0 0 (nI j)) (wrI M1 306 0 0 (nI (j + 1))) := ((g0.up (by decide)).tr (gm.up (by decide))).tr (by repeat (first | exact fq.rf | (refine fq.tr ?_ (fq.wr (by decide))) | (refine fq.tr ?_ (fq.bk (by decide))) | (refine fq.tr ?_ (fq.wl (by decide))) | (refine fq.tr ?_ (fq.wR (by decide)))))
    refine ⟨j + 1, C1, M1, ⟨by omega, g', l', SS.put1 hS f2 g2 ⟨j + 1, by omega, wrI_s, wrI_s, fun i hi => ?_, sw.1, sw.2⟩ ⟨n', j + 1, P, b1, by omega, by rw [wrI_ne (by decide), n291]; exact b2, wrI_s, ?_, b4⟩, by omega, by omega, by rw [c101]; exact a1, by rw [gm.1 306 (nc (by decide))]; exact a2, pend, ⟨n', P, b1, by rw [n291]; exact b2, by rw [n260]; omega, b4⟩, (gm.1 299 (nc (by decide))).trans q299, k78.trans q78⟩, fun n => ?_, fun n => ?_⟩
    · by_cases hij : i = j
      · refine ⟨m, t', m1, m2, hts', m4, by rw [hij, wrI_ne (by decide)]; exact y43, by rw [hij, wrI_ne (by decide)]; exact o275, by rw [hij, wrI_ne (by decide)]; exact y44, by rw [hij, wrI_ne (by decide)]; exact o274, fun jj hjj => ?_⟩
        rw [hij, wrI_ne (by decide), wrI_ne (by decide), o276 jj hjj, c42]
        show isB _ ∧ C.1 42 (C1.2.2 41 0 j) jj = _
        rw [r41j]
        exact m9 jj hjj
      · obtain ⟨m', u', v1, v2, v3, v4, v5, v6, v7, v8, v9⟩ := p4 i (by omega)
        rw [wrI_ne (by decide)] at v5 v6 v7 v8
        refine ⟨m', u', v1, v2, v3, v4, by rw [wrI_ne (by decide), x43 i hij]; exact v5, by rw [wrI_ne (by decide), n275 i hij]; exact v6, by rw [wrI_ne (by decide), x44 i hij]; exact v7, by rw [wrI_ne (by decide), n274 i hij]; exact v8, fun jj hjj => ?_⟩
        have v := v9 jj hjj
        rw [wrI_ne (by decide), wrI_ne (by decide)] at v
        rw [wrI_ne (by decide), wrI_ne (by decide), n276 i jj hij (by omega), c42]
        show isB _ ∧ C.1 42 (C1.2.2 41 0 i) jj = _
        rw [r41o i hij (by omega)]
        exact v
    · rw [cnt_congr (q := fun v => decide (M.1 260 0 v = nI 9)) (fun v _ => by rw [wrI_ne (by decide), n260])]
      omega
    · rw [L_X8_begin_4]
      unfold L_X8_begin_56
      refine e_gf a1 (e_N (by first | (simp (disch := first | omega | assumption) only [wrI_s, wrI_o, wrI_r, wrL_1, wrL_r, wrL_s, wrL_o, blk_in, blk_out, blk_r, lit, litL, b00, b11, nI_l, lN_add, lN_mul, lN_sub, nI_add, pk_mul, pk_sub, pk_div, remN, Nat.add_sub_cancel, Nat.add_sub_cancel_left, Nat.zero_add, Nat.add_zero, nI_eq, nI_leI, nI_ltI, nI_m1, m1_lt, neg_lt, neg_le, neg_ge, neg_gt, neg_eq, not_true, not_false_iff]; done) | (simp (disch := first | omega | assumption) only [wrI_s, wrI_o, wrI_r, wrL_1, wrL_r, wrL_s, wrL_o, blk_in, blk_out, blk_r, lit, litL, b00, b11, nI_l, lN_add, lN_mul, lN_sub, nI_add, pk_mul, pk_sub, pk_div, remN, Nat.add_sub_cancel, Nat.add_sub_cancel_left, Nat.zero_add, Nat.add_zero, nI_eq, nI_leI, nI_ltI, nI_m1, m1_lt, neg_lt, neg_le, neg_ge, neg_gt, neg_eq, not_true, not_false_iff]; omega)) (e_ldA rfl (by omega) (by decide) (by decide) m7 (e_gf o76 (e_N (by rw [nI_eq (by omega) (by omega)]; exact hts) (e_cl em ?_)))))
      rw [nI_1, nI_1]
    · rw [L_X12_begin_133]
      refine e_gf a2 (e_N (by first | (simp (disch := first | omega | assumption) only [wrI_s, wrI_o, wrI_r, wrL_1, wrL_r, wrL_s, wrL_o, blk_in, blk_out, blk_r, lit, litL, b00, b11, nI_l, lN_add, lN_mul, lN_sub, nI_add, pk_mul, pk_sub, pk_div, remN, Nat.add_sub_cancel, Nat.add_sub_cancel_left, Nat.zero_add, Nat.add_zero, nI_eq, nI_leI, nI_ltI, nI_m1, m1_lt, neg_lt, neg_le, neg_ge, neg_gt, neg_eq, not_true, not_false_iff]; done) | (simp (disch := first | omega | assumption) only [wrI_s, wrI_o, wrI_r, wrL_1, wrL_r, wrL_s, wrL_o, blk_in, blk_out, blk_r, lit, litL, b00, b11, nI_l, lN_add, lN_mul, lN_sub, nI_add, pk_mul, pk_sub, pk_div, remN, Nat.add_sub_cancel, Nat.add_sub_cancel_left, Nat.zero_add, Nat.add_zero, nI_eq, nI_leI, nI_ltI, nI_m1, m1_lt, neg_lt, neg_le, neg_ge, neg_gt, neg_eq, not_true, not_false_iff]; omega)) (e_ldA rfl (by omega) (by decide) (by decide) m8 (e_gf o298 (e_N (by rw [nI_eq (by omega) (by omega)]; exact hts) (e_ldA rfl (by omega) (by decide) (by decide) m8 (e_stA rfl (by omega) (by decide) (by decide) rfl (e_ldA (v := nI m) rfl (by omega) (by decide) (by decide) (by rw [wrI_ne (by decide)]; exact m6) (e_stA rfl (by omega) (by decide) (by decide) rfl ?_))))))))
      rw [pc]
theorem putsB {c s d w t g l : Nat} {C M : Mm} (hc : c ≤ 512) (hs : s < 2 ^ 28) (hg : g < 2 ^ 28) (hl : l < 2 ^ 20) (hS : SS c s d w s s t g l C M) : ∃ C' M' g' l', F_X8_begin C = some ((), C') ∧ L_X12_begin_133 fu 0 0 M = some ((), M') ∧ SS c s d w s (s + 1) t g' l' C' M' ∧ g' ≤ g + 20 ∧ l' ≤ l + 20 ∧ M'.1 299 = M.1 299 ∧ C'.1 78 = C.1 78 := by
  have hS2 := hS
  obtain ⟨hITape, hIDraw, hINois, hIPar, hISub, hIKey, hIRef, hISta, hILnk, hIBeg, hIQue, hIHnd, hICon, hIDue, hIWai, hISnd, hISlo, hISto, hIRng, hILiv, hIEnd, hIPut, hILat, hIInb, hICnt, hIAlq⟩ := hS2
  obtain ⟨n, p1, p2, p3, p4, p5, p6⟩ := id hIPut
  obtain ⟨n', np, P, c1, c2, c3, c4, c5, c6⟩ := id hICnt
  have en : np = n := (nI_eq (by omega) (by omega)).mp (c4.symm.trans p3)
  have f0 : fq l101 C (wrI C 101 0 0 (nI 0)) := by repeat (first | exact fq.rf | (refine fq.tr ?_ (fq.wr (by decide))) | (refine fq.tr ?_ (fq.bk (by decide))) | (refine fq.tr ?_ (fq.wl (by decide))) | (refine fq.tr ?_ (fq.wR (by decide))))
  have g0 : fq l306 M (wrI M 306 0 0 (nI 0)) := by repeat (first | exact fq.rf | (refine fq.tr ?_ (fq.wr (by decide))) | (refine fq.tr ?_ (fq.bk (by decide))) | (refine fq.tr ?_ (fq.wl (by decide))) | (refine fq.tr ?_ (fq.wR (by decide))))
  obtain ⟨j, C', M', m, ⟨q0, g', l', q1, q2, q3, q4, q5, q6, q7, q8, q9⟩, e1, e2⟩ := loop3 (fun n a b S => L_X8_begin_4 n a b S) (fun n a b S => L_X12_begin_133 n a b S) (PP c s d w t g l n C M) n (by omega) (fun k j C1 M1 hk hP => pstep hc hs hg hl p1 hk hP) (C := C) (M := M) ⟨Nat.le_refl 0, g, l, SS.put1 hS f0 g0 ⟨0, by omega, wrI_s, wrI_s, fun i hi => absurd hi (by omega), p5, p6⟩ ⟨n', 0, P, c1, by omega, by rw [wrI_ne (by decide)]; exact c3, wrI_s, by
    rw [cnt_congr (q := fun v => decide (M.1 260 0 v = nI 9)) (fun v _ => by rw [wrI_ne (by decide)])]
    omega, c6⟩, by omega, by omega, p2, p3, fun i _ hi => p4 i hi, ⟨n', P, c1, c3, by omega, c6⟩, rfl, rfl⟩
  refine ⟨wrI C' 101 0 0 (nI j), wrI M' 306 0 0 (nI j), g', l', ?_, ?_, q1, by omega, by omega, by rw [wrI_ne (by decide)]; exact q8, by rw [wrI_ne (by decide)]; exact q9⟩
  · unfold F_X8_begin
    rw [e1, L_X8_begin_4]
    exact e_gf q4 (e_T (by first | (simp (disch := first | omega | assumption) only [wrI_s, wrI_o, wrI_r, wrL_1, wrL_r, wrL_s, wrL_o, blk_in, blk_out, blk_r, lit, litL, b00, b11, nI_l, lN_add, lN_mul, lN_sub, nI_add, pk_mul, pk_sub, pk_div, remN, Nat.add_sub_cancel, Nat.add_sub_cancel_left, Nat.zero_add, Nat.add_zero, nI_eq, nI_leI, nI_ltI, nI_m1, m1_lt, neg_lt, neg_le, neg_ge, neg_gt, neg_eq, not_true, not_false_iff]; done) | (simp (disch := first | omega | assumption) only [wrI_s, wrI_o, wrI_r, wrL_1, wrL_r, wrL_s, wrL_o, blk_in, blk_out, blk_r, lit, litL, b00, b11, nI_l, lN_add, lN_mul, lN_sub, nI_add, pk_mul, pk_sub, pk_div, remN, Nat.add_sub_cancel, Nat.add_sub_cancel_left, Nat.zero_add, Nat.add_zero, nI_eq, nI_leI, nI_ltI, nI_m1, m1_lt, neg_lt, neg_le, neg_ge, neg_gt, neg_eq, not_true, not_false_iff]; omega)) (e_pf rfl rfl))
  · rw [e2, L_X12_begin_133]
    exact e_gf q5 (e_T (by first | (simp (disch := first | omega | assumption) only [wrI_s, wrI_o, wrI_r, wrL_1, wrL_r, wrL_s, wrL_o, blk_in, blk_out, blk_r, lit, litL, b00, b11, nI_l, lN_add, lN_mul, lN_sub, nI_add, pk_mul, pk_sub, pk_div, remN, Nat.add_sub_cancel, Nat.add_sub_cancel_left, Nat.zero_add, Nat.add_zero, nI_eq, nI_leI, nI_ltI, nI_m1, m1_lt, neg_lt, neg_le, neg_ge, neg_gt, neg_eq, not_true, not_false_iff]; done) | (simp (disch := first | omega | assumption) only [wrI_s, wrI_o, wrI_r, wrL_1, wrL_r, wrL_s, wrL_o, blk_in, blk_out, blk_r, lit, litL, b00, b11, nI_l, lN_add, lN_mul, lN_sub, nI_add, pk_mul, pk_sub, pk_div, remN, Nat.add_sub_cancel, Nat.add_sub_cancel_left, Nat.zero_add, Nat.add_zero, nI_eq, nI_leI, nI_ltI, nI_m1, m1_lt, neg_lt, neg_le, neg_ge, neg_gt, neg_eq, not_true, not_false_iff]; omega)) (e_pf rfl rfl))
