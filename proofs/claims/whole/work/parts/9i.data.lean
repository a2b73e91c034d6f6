/-! DATA is taken, both sides; all that a node does with a frame -/
theorem dtAp {d w e t s R n sd k : Nat} {b : Nat → Nat} {C M : Mm} (h : TT d w e t C M) (hN : NB s R n sd b C M) (h28 : 28 ≤ n) (ht : t < 2 ^ 29) (hk1 : 1 ≤ k) (hk : k < 9) (hb0 : b 0 = 8) (ha : adOk (fun j => b (10 + j))) (hbk : b 15 = k) : ∃ C' M', F_X11_takeData (nI 0) C = some ((), C') ∧ F_X12_actsAp (nI k) M = some ((), M') ∧ TT d w e (t + 1) C' M' ∧ fq tkC C C' ∧ fq tkM M M' := by
  obtain ⟨nb1, nb2, -⟩ := nbC hN
  have hN2 := hN
  obtain ⟨g1, g2, g3, g4, g5, g6, g7, g8, g9, g10, g11, g12, g13, g14⟩ := hN
  have q1 := g5 1
  have h' := h
  obtain ⟨hIDraw, hIPar, hISub, hIKey, hIRef, hISta, hILnk, hIBeg, hIQue, hIHnd, hICon, hIDue, hIWai, hISnd, hILat, hIInb⟩ := h'
  have ndc := (ndC (C := C) (R := R) (p := 10) (b := fun j => b (10 + j)) g1 (by decide) (fun j hj => g10 (10 + j) (by omega)) (fun j _ => g5 _)).1 ha
  have ndc' : F_X2_nodeAt 27 R 10 C = some (nI k, C) := by rw [← hbk]; exact ndc
  have r54 := (hIRef.1 k hk).2.2.1
  obtain ⟨⟨st, st1, st2, st3, -⟩, -⟩ := hILnk (9 + k) (by omega)
  have m219 : M.1 219 0 k = nI st := by rw [← (hISta k hk).2.1]; exact st3
  have preC : ∀ X, (if nI (b 1) &&& 3 = 1 then (ldA C 27 R 300 40 1 fun x15 => if (x15 &&& 64) = 0 then (L_X11_takeData_89 0 R (nI k) (9 + k) 0 C) else (L_X11_takeData_89 0 R (nI k) (9 + k) 1 C)) else (some ((), C))) = X → F_X11_takeData (nI 0) C = X := by
    intro X hX
    unfold F_X11_takeData L_X11_takeData_28 L_X11_takeData_40
    refine e_cl nb1 (e_nn g1 (e_ldA (j := 1) rfl (by decide) g1 (by decide) (g10 1 (by omega)) (e_tp rfl (e_T rfl (e_cl ndc' (e_T rfl ?_))))))
    by_cases h3 : nI (b 1) &&& 3 = 1
    · rw [if_pos h3] at hX
      unfold L_X11_takeData_73
      exact e_T h3 (e_cl (st_y hk1 hk) (e_N (by decide) (e_T rfl (e_ldR rfl hk (by decide) (by decide) r54 (by omega) hX))))
    · rw [if_neg h3] at hX
      exact e_N h3 hX
  have preM : ∀ X, (if (nI (b 1) &&& 3) = 1 then (ldA M 278 0 300 1 1 fun x4 => if (x4 &&& 64) = 0 then (ldA M 219 0 9 1 (nI k) fun x5 => if x5 < 3 then (some ((), M)) else (cl (F_X12_handAp (nI k) M) fun r6 S7 => some ((), S7))) else (ldA M 219 0 9 1 (nI k) fun x9 => if x9 = 4 then (cl (F_X12_opens (nI (9 + k)) (nI k) M) fun r13 S14 => some ((), S14)) else (cl (F_X12_sendsEnd 0 (nI k) 7 M) fun r10 S11 => some ((), S11)))) else (some ((), M))) = X → F_X12_actsAp (nI k) M = X := by
    intro X hX
    unfold F_X12_actsAp
    exact e_ldA (j := 0) rfl (by decide) (by decide) (by decide) (g12 0 (by omega)) (e_tp (w := nI (9 + k)) (by first | (simp (disch := first | omega | assumption) only [wrI_s, wrI_o, wrI_r, wrL_1, wrL_r, wrL_s, wrL_o, blk_in, blk_out, blk_r, lit, litL, b00, b11, nI_l, lN_add, lN_mul, lN_sub, nI_add, pk_mul, pk_sub, pk_div, remN, Nat.add_sub_cancel, Nat.add_sub_cancel_left, Nat.zero_add, Nat.add_zero]; done) | (simp (disch := first | omega | assumption) only [wrI_s, wrI_o, wrI_r, wrL_1, wrL_r, wrL_s, wrL_o, blk_in, blk_out, blk_r, lit, litL, b00, b11, nI_l, lN_add, lN_mul, lN_sub, nI_add, pk_mul, pk_sub, pk_div, remN, Nat.add_sub_cancel, Nat.add_sub_cancel_left, Nat.zero_add, Nat.add_zero]; rfl) | rfl) (e_N (by rw [hb0]; decide) (e_N (by rw [hb0]; decide) (e_N (by rw [hb0]; decide) (e_T (by rw [hb0]; rfl) (e_ldA (j := 1) rfl (by decide) (by decide) (by decide) (g12 1 (by omega)) hX))))))
  by_cases h3 : nI (b 1) &&& 3 = 1
  case neg => exact ⟨C, M, preC _ (e_N h3 rfl), preM _ (e_N h3 rfl), h.up, fq.rf, fq.rf⟩
  by_cases h64 : nI (b 1) &&& 64 = 0
  · have pC : ∀ X, (gf C 62 (9 + k) fun x30 => if x30 < 3 then (some ((), C)) else (if (0 : Int32) = 0 then (cl (F_X11_takeHandAtAp (nI k) (9 + k) 27 R C) fun r34 S35 => some ((), S35)) else (cl (F_X11_takeHandAtStation (nI k) (9 + k) 27 R C) fun r31 S32 => some ((), S32)))) = X → F_X11_takeData (nI 0) C = X := by
      intro X hX
      refine preC _ (e_T h3 (e_ldA (j := 1) rfl (by decide) g1 (by decide) (g10 1 (by omega)) (e_T h64 ?_)))
      unfold L_X11_takeData_89 L_X11_takeData_139 L_X11_takeData_163
      exact e_T rfl (e_T rfl (e_T rfl hX))
    have pM : ∀ X, (if nI st < 3 then (some ((), M)) else (cl (F_X12_handAp (nI k) M) fun r6 S7 => some ((), S7))) = X → F_X12_actsAp (nI k) M = X := by
      intro X hX
      exact preM _ (e_T h3 (e_ldA (j := 1) rfl (by decide) (by decide) (by decide) (g12 1 (by omega)) (e_T h64 (e_ldA rfl hk (by decide) (by decide) m219 hX))))
    by_cases hs3 : st < 3
    · exact ⟨C, M, pC _ (e_gf st3 (e_T (by first | (simp (disch := first | omega | assumption) only [wrI_s, wrI_o, wrI_r, wrL_1, wrL_r, wrL_s, wrL_o, blk_in, blk_out, blk_r, lit, litL, b00, b11, nI_l, lN_add, lN_mul, lN_sub, nI_add, pk_mul, pk_sub, pk_div, remN, Nat.add_sub_cancel, Nat.add_sub_cancel_left, Nat.zero_add, Nat.add_zero, nI_eq, nI_leI, nI_ltI, nI_m1, m1_lt, neg_lt, neg_le, neg_ge, neg_gt, neg_eq, not_true, not_false_iff]; done) | (simp (disch := first | omega | assumption) only [wrI_s, wrI_o, wrI_r, wrL_1, wrL_r, wrL_s, wrL_o, blk_in, blk_out, blk_r, lit, litL, b00, b11, nI_l, lN_add, lN_mul, lN_sub, nI_add, pk_mul, pk_sub, pk_div, remN, Nat.add_sub_cancel, Nat.add_sub_cancel_left, Nat.zero_add, Nat.add_zero, nI_eq, nI_leI, nI_ltI, nI_m1, m1_lt, neg_lt, neg_le, neg_ge, neg_gt, neg_eq, not_true, not_false_iff]; omega)) rfl)), pM _ (e_T (by first | (simp (disch := first | omega | assumption) only [wrI_s, wrI_o, wrI_r, wrL_1, wrL_r, wrL_s, wrL_o, blk_in, blk_out, blk_r, lit, litL, b00, b11, nI_l, lN_add, lN_mul, lN_sub, nI_add, pk_mul, pk_sub, pk_div, remN, Nat.add_sub_cancel, Nat.add_sub_cancel_left, Nat.zero_add, Nat.add_zero, nI_eq, nI_leI, nI_ltI, nI_m1, m1_lt, neg_lt, neg_le, neg_ge, neg_gt, neg_eq, not_true, not_false_iff]; done) | (simp (disch := first | omega | assumption) only [wrI_s, wrI_o, wrI_r, wrL_1, wrL_r, wrL_s, wrL_o, blk_in, blk_out, blk_r, lit, litL, b00, b11, nI_l, lN_add, lN_mul, lN_sub, nI_add, pk_mul, pk_sub, pk_div, remN, Nat.add_sub_cancel, Nat.add_sub_cancel_left, Nat.zero_add, Nat.add_zero, nI_eq, nI_leI, nI_ltI, nI_m1, m1_lt, neg_lt, neg_le, neg_ge, neg_gt, neg_eq, not_true, not_false_iff]; omega)) rfl), h.up, fq.rf, fq.rf⟩
    · obtain ⟨C', M', e1, e2, e3, e4, e5⟩ := thAp h hN2 h28 hk1 hk h64
      exact ⟨C', M', pC _ (e_gf st3 (e_N (by first | (simp (disch := first | omega | assumption) only [wrI_s, wrI_o, wrI_r, wrL_1, wrL_r, wrL_s, wrL_o, blk_in, blk_out, blk_r, lit, litL, b00, b11, nI_l, lN_add, lN_mul, lN_sub, nI_add, pk_mul, pk_sub, pk_div, remN, Nat.add_sub_cancel, Nat.add_sub_cancel_left, Nat.zero_add, Nat.add_zero, nI_eq, nI_leI, nI_ltI, nI_m1, m1_lt, neg_lt, neg_le, neg_ge, neg_gt, neg_eq, not_true, not_false_iff]; done) | (simp (disch := first | omega | assumption) only [wrI_s, wrI_o, wrI_r, wrL_1, wrL_r, wrL_s, wrL_o, blk_in, blk_out, blk_r, lit, litL, b00, b11, nI_l, lN_add, lN_mul, lN_sub, nI_add, pk_mul, pk_sub, pk_div, remN, Nat.add_sub_cancel, Nat.add_sub_cancel_left, Nat.zero_add, Nat.add_zero, nI_eq, nI_leI, nI_ltI, nI_m1, m1_lt, neg_lt, neg_le, neg_ge, neg_gt, neg_eq, not_true, not_false_iff]; omega)) (e_T rfl (e_cl e1 rfl)))), pM _ (e_N (by first | (simp (disch := first | omega | assumption) only [wrI_s, wrI_o, wrI_r, wrL_1, wrL_r, wrL_s, wrL_o, blk_in, blk_out, blk_r, lit, litL, b00, b11, nI_l, lN_add, lN_mul, lN_sub, nI_add, pk_mul, pk_sub, pk_div, remN, Nat.add_sub_cancel, Nat.add_sub_cancel_left, Nat.zero_add, Nat.add_zero, nI_eq, nI_leI, nI_ltI, nI_m1, m1_lt, neg_lt, neg_le, neg_ge, neg_gt, neg_eq, not_true, not_false_iff]; done) | (simp (disch := first | omega | assumption) only [wrI_s, wrI_o, wrI_r, wrL_1, wrL_r, wrL_s, wrL_o, blk_in, blk_out, blk_r, lit, litL, b00, b11, nI_l, lN_add, lN_mul, lN_sub, nI_add, pk_mul, pk_sub, pk_div, remN, Nat.add_sub_cancel, Nat.add_sub_cancel_left, Nat.zero_add, Nat.add_zero, nI_eq, nI_leI, nI_ltI, nI_m1, m1_lt, neg_lt, neg_le, neg_ge, neg_gt, neg_eq, not_true, not_false_iff]; omega)) (e_cl e2 rfl)), e3.up, e4, e5⟩
  · have pC : ∀ X, (gf C 62 (9 + k) fun x16 => if x16 = 4 then (ldR C 52 0 9 1 0 9 fun i17 => cl (F_X11_takeSealed i17 (9 + k) 27 R C) fun r18 S19 => if r18 = 0 then (some ((), S19)) else (cl (F_X2_nodeAt 27 R 16 S19) fun r21 S22 => cl (F_X11_passOn 0 (nI k) (9 + k) r21 S22) fun r24 S25 => some ((), S25))) else (L_X11_takeData_139 0 R (nI k) (9 + k) 1 C)) = X → F_X11_takeData (nI 0) C = X := by
      intro X hX
      refine preC _ (e_T h3 (e_ldA (j := 1) rfl (by decide) g1 (by decide) (g10 1 (by omega)) (e_N h64 ?_)))
      unfold L_X11_takeData_89
      exact e_N (by decide) hX
    have pM : ∀ X, (if nI st = 4 then (cl (F_X12_opens (nI (9 + k)) (nI k) M) fun r13 S14 => some ((), S14)) else (cl (F_X12_sendsEnd 0 (nI k) 7 M) fun r10 S11 => some ((), S11))) = X → F_X12_actsAp (nI k) M = X := by
      intro X hX
      exact preM _ (e_T h3 (e_ldA (j := 1) rfl (by decide) (by decide) (by decide) (g12 1 (by omega)) (e_N h64 (e_ldA rfl hk (by decide) (by decide) m219 hX))))
    by_cases hs4 : st = 4
    · have eO : F_X12_opens (nI (9 + k)) (nI k) M = L_X12_opens_11 (nI (9 + k)) (nI k) (nI 0) M := by
        unfold F_X12_opens
        exact e_T (by first | (simp (disch := first | omega | assumption) only [wrI_s, wrI_o, wrI_r, wrL_1, wrL_r, wrL_s, wrL_o, blk_in, blk_out, blk_r, lit, litL, b00, b11, nI_l, lN_add, lN_mul, lN_sub, nI_add, pk_mul, pk_sub, pk_div, remN, Nat.add_sub_cancel, Nat.add_sub_cancel_left, Nat.zero_add, Nat.add_zero, nI_eq, nI_leI, nI_ltI, nI_m1, m1_lt, neg_lt, neg_le, neg_ge, neg_gt, neg_eq, not_true, not_false_iff]; done) | (simp (disch := first | omega | assumption) only [wrI_s, wrI_o, wrI_r, wrL_1, wrL_r, wrL_s, wrL_o, blk_in, blk_out, blk_r, lit, litL, b00, b11, nI_l, lN_add, lN_mul, lN_sub, nI_add, pk_mul, pk_sub, pk_div, remN, Nat.add_sub_cancel, Nat.add_sub_cancel_left, Nat.zero_add, Nat.add_zero, nI_eq, nI_leI, nI_ltI, nI_m1, m1_lt, neg_lt, neg_le, neg_ge, neg_gt, neg_eq, not_true, not_false_iff]; omega)) rfl
      obtain ⟨z, C1, M1, hz, v1, v2, v3, v4, v5, v6⟩ := selT (a := 0) (k := k) h hN2 h28 (show 9 + k < 18 by omega) (by decide) (by rw [st3, hs4])
      by_cases hz1 : z = 1
      · obtain ⟨len, l1, l2, l3, l4, l5, l6⟩ := v6 hz1
        obtain ⟨C', M', e1, e2, e3, e4, e5⟩ := posT (i := 9 + k) (k := k) (a := 0) v2 (hN2.fr v3 v4) h28 ht hk1 hk (Or.inl ⟨rfl, rfl⟩) l1 l2 l3 l5
        refine ⟨C', M', pC _ (e_gf st3 (e_T (by rw [hs4]; rfl) (e_ldR (j := 0) rfl (by decide) (by decide) (by decide) (hIRef.1 0 (by decide)).1 (by decide) (e_cl v1 (e_N (by rw [hz1]; decide) e1))))), pM _ (e_T (by rw [hs4]; rfl) (e_cl (r := ()) (S1 := M') ?_ rfl)), e3, v3.tr e4, v4.tr e5⟩
        rw [eO, l6]
        exact e_cl e2 rfl
      · have hz0 : z = 0 := by omega
        refine ⟨C1, M1, pC _ (e_gf st3 (e_T (by rw [hs4]; rfl) (e_ldR (j := 0) rfl (by decide) (by decide) (by decide) (hIRef.1 0 (by decide)).1 (by decide) (e_cl v1 (e_T (by rw [hz0]; rfl) rfl))))), pM _ (e_T (by rw [hs4]; rfl) (e_cl (r := ()) (S1 := M1) ?_ rfl)), v2.up, v3, v4⟩
        rw [eO]
        exact v5 hz0
    · obtain ⟨M1, M2, a1, a2, t1, t2⟩ := sEnd (M := M) (det := 7) (by decide)
      have l4 := h.fr (u := []) fq.rf t2 (by decide) (by decide)
      obtain ⟨C', M', v1, v2, v3, v4, v5⟩ := l4.qb (k := 0) (to := k) (kd := 192) (det := 7) (by decide) hk (by omega) (by decide) t1
      refine ⟨C', M', pC _ (e_gf st3 (e_N (by first | (simp (disch := first | omega | assumption) only [wrI_s, wrI_o, wrI_r, wrL_1, wrL_r, wrL_s, wrL_o, blk_in, blk_out, blk_r, lit, litL, b00, b11, nI_l, lN_add, lN_mul, lN_sub, nI_add, pk_mul, pk_sub, pk_div, remN, Nat.add_sub_cancel, Nat.add_sub_cancel_left, Nat.zero_add, Nat.add_zero, nI_eq, nI_leI, nI_ltI, nI_m1, m1_lt, neg_lt, neg_le, neg_ge, neg_gt, neg_eq, not_true, not_false_iff]; done) | (simp (disch := first | omega | assumption) only [wrI_s, wrI_o, wrI_r, wrL_1, wrL_r, wrL_s, wrL_o, blk_in, blk_out, blk_r, lit, litL, b00, b11, nI_l, lN_add, lN_mul, lN_sub, nI_add, pk_mul, pk_sub, pk_div, remN, Nat.add_sub_cancel, Nat.add_sub_cancel_left, Nat.zero_add, Nat.add_zero, nI_eq, nI_leI, nI_ltI, nI_m1, m1_lt, neg_lt, neg_le, neg_ge, neg_gt, neg_eq, not_true, not_false_iff]; omega)) ?_)), pM _ (e_N (by first | (simp (disch := first | omega | assumption) only [wrI_s, wrI_o, wrI_r, wrL_1, wrL_r, wrL_s, wrL_o, blk_in, blk_out, blk_r, lit, litL, b00, b11, nI_l, lN_add, lN_mul, lN_sub, nI_add, pk_mul, pk_sub, pk_div, remN, Nat.add_sub_cancel, Nat.add_sub_cancel_left, Nat.zero_add, Nat.add_zero, nI_eq, nI_leI, nI_ltI, nI_m1, m1_lt, neg_lt, neg_le, neg_ge, neg_gt, neg_eq, not_true, not_false_iff]; done) | (simp (disch := first | omega | assumption) only [wrI_s, wrI_o, wrI_r, wrL_1, wrL_r, wrL_s, wrL_o, blk_in, blk_out, blk_r, lit, litL, b00, b11, nI_l, lN_add, lN_mul, lN_sub, nI_add, pk_mul, pk_sub, pk_div, remN, Nat.add_sub_cancel, Nat.add_sub_cancel_left, Nat.zero_add, Nat.add_zero, nI_eq, nI_leI, nI_ltI, nI_m1, m1_lt, neg_lt, neg_le, neg_ge, neg_gt, neg_eq, not_true, not_false_iff]; omega)) (e_cl (r := ()) (S1 := M') ?_ rfl)), v3.up, v4.up (by decide), (t2.up (by decide)).tr (v5.up (by decide))⟩
      · unfold L_X11_takeData_139
        exact e_N (by decide) (e_T rfl (e_cl v1 rfl))
      · unfold F_X12_sendsEnd
        exact e_pf (w := nI 0) rfl (e_cl a1 (e_cl a2 (e_cl v2 rfl)))
theorem dtSt {d w e t s R n sd k : Nat} {b : Nat → Nat} {C M : Mm} (h : TT d w e t C M) (hN : NB s R n sd b C M) (h28 : 28 ≤ n) (ht : t < 2 ^ 29) (hk1 : 1 ≤ k) (hk : k < 9) (hb0 : b 0 = 8) : ∃ C' M', F_X11_takeData (nI k) C = some ((), C') ∧ F_X12_actsStation (nI k) M = some ((), M') ∧ TT d w e (t + 1) C' M' ∧ fq tkC C C' ∧ fq tkM M M' := by
  obtain ⟨nb1, nb2, -⟩ := nbC hN
  have hN2 := hN
  obtain ⟨g1, g2, g3, g4, g5, g6, g7, g8, g9, g10, g11, g12, g13, g14⟩ := hN
  have q1 := g5 1
  have h' := h
  obtain ⟨hIDraw, hIPar, hISub, hIKey, hIRef, hISta, hILnk, hIBeg, hIQue, hIHnd, hICon, hIDue, hIWai, hISnd, hILat, hIInb⟩ := h'
  have kn0 : ¬ nI k = 0 := nI_ne0 (by omega) (by omega)
  have r53 := (hIRef.1 k hk).2.1
  obtain ⟨⟨st, st1, st2, st3, -⟩, -⟩ := hILnk k (by omega)
  have m218 : M.1 218 0 k = nI st := by rw [← (hISta k hk).1]; exact st3
  have preC : ∀ X, (if nI (b 1) &&& 3 = 2 then (ldA C 27 R 300 40 1 fun x15 => if (x15 &&& 64) = 0 then (L_X11_takeData_89 (nI k) R (nI k) k 0 C) else (L_X11_takeData_89 (nI k) R (nI k) k 1 C)) else (some ((), C))) = X → F_X11_takeData (nI k) C = X := by
    intro X hX
    unfold F_X11_takeData L_X11_takeData_28 L_X11_takeData_40
    refine e_cl nb1 (e_nn g1 (e_ldA (j := 1) rfl (by decide) g1 (by decide) (g10 1 (by omega)) (e_tp rfl (e_N kn0 (e_N kn0 ?_)))))
    by_cases h3 : nI (b 1) &&& 3 = 2
    · rw [if_pos h3] at hX
      unfold L_X11_takeData_73
      exact e_T h3 (e_cl (st_y hk1 hk) (e_N (by decide) (e_N kn0 (e_ldR rfl hk (by decide) (by decide) r53 (by omega) hX))))
    · rw [if_neg h3] at hX
      exact e_N h3 hX
  have preM : ∀ X, (if (nI (b 1) &&& 3) = 2 then (ldA M 278 0 300 1 1 fun x3 => if (x3 &&& 64) = 0 then (ldA M 218 0 9 1 (nI k) fun x4 => if x4 < 3 then (some ((), M)) else (cl (F_X12_handStation (nI k) M) fun r5 S6 => some ((), S6))) else (ldA M 218 0 9 1 (nI k) fun x8 => if x8 = 4 then (cl (F_X12_opens (nI k) (nI k) M) fun r9 S10 => some ((), S10)) else (some ((), M)))) else (some ((), M))) = X → F_X12_actsStation (nI k) M = X := by
    intro X hX
    unfold F_X12_actsStation
    exact e_ldA (j := 0) rfl (by decide) (by decide) (by decide) (g12 0 (by omega)) (e_N (by rw [hb0]; decide) (e_N (by rw [hb0]; decide) (e_N (by rw [hb0]; decide) (e_T (by rw [hb0]; rfl) (e_ldA (j := 1) rfl (by decide) (by decide) (by decide) (g12 1 (by omega)) hX)))))
  by_cases h3 : nI (b 1) &&& 3 = 2
  case neg => exact ⟨C, M, preC _ (e_N h3 rfl), preM _ (e_N h3 rfl), h.up, fq.rf, fq.rf⟩
  by_cases h64 : nI (b 1) &&& 64 = 0
  · have pC : ∀ X, (gf C 62 k fun x30 => if x30 < 3 then (some ((), C)) else (if nI k = 0 then (cl (F_X11_takeHandAtAp (nI k) k 27 R C) fun r34 S35 => some ((), S35)) else (cl (F_X11_takeHandAtStation (nI k) k 27 R C) fun r31 S32 => some ((), S32)))) = X → F_X11_takeData (nI k) C = X := by
      intro X hX
      refine preC _ (e_T h3 (e_ldA (j := 1) rfl (by decide) g1 (by decide) (g10 1 (by omega)) (e_T h64 ?_)))
      unfold L_X11_takeData_89 L_X11_takeData_139 L_X11_takeData_163
      exact e_T rfl (e_T rfl (e_T rfl hX))
    have pM : ∀ X, (if nI st < 3 then (some ((), M)) else (cl (F_X12_handStation (nI k) M) fun r5 S6 => some ((), S6))) = X → F_X12_actsStation (nI k) M = X := by
      intro X hX
      exact preM _ (e_T h3 (e_ldA (j := 1) rfl (by decide) (by decide) (by decide) (g12 1 (by omega)) (e_T h64 (e_ldA rfl hk (by decide) (by decide) m218 hX))))
    by_cases hs3 : st < 3
    · exact ⟨C, M, pC _ (e_gf st3 (e_T (by first | (simp (disch := first | omega | assumption) only [wrI_s, wrI_o, wrI_r, wrL_1, wrL_r, wrL_s, wrL_o, blk_in, blk_out, blk_r, lit, litL, b00, b11, nI_l, lN_add, lN_mul, lN_sub, nI_add, pk_mul, pk_sub, pk_div, remN, Nat.add_sub_cancel, Nat.add_sub_cancel_left, Nat.zero_add, Nat.add_zero, nI_eq, nI_leI, nI_ltI, nI_m1, m1_lt, neg_lt, neg_le, neg_ge, neg_gt, neg_eq, not_true, not_false_iff]; done) | (simp (disch := first | omega | assumption) only [wrI_s, wrI_o, wrI_r, wrL_1, wrL_r, wrL_s, wrL_o, blk_in, blk_out, blk_r, lit, litL, b00, b11, nI_l, lN_add, lN_mul, lN_sub, nI_add, pk_mul, pk_sub, pk_div, remN, Nat.add_sub_cancel, Nat.add_sub_cancel_left, Nat.zero_add, Nat.add_zero, nI_eq, nI_leI, nI_ltI, nI_m1, m1_lt, neg_lt, neg_le, neg_ge, neg_gt, neg_eq, not_true, not_false_iff]; omega)) rfl)), pM _ (e_T (by first | (simp (disch := first | omega | assumption) only [wrI_s, wrI_o, wrI_r, wrL_1, wrL_r, wrL_s, wrL_o, blk_in, blk_out, blk_r, lit, litL, b00, b11, nI_l, lN_add, lN_mul, lN_sub, nI_add, pk_mul, pk_sub, pk_div, remN, Nat.add_sub_cancel, Nat.add_sub_cancel_left, Nat.zero_add, Nat.add_zero, nI_eq, nI_leI, nI_ltI, nI_m1, m1_lt, neg_lt, neg_le, neg_ge, neg_gt, neg_eq, not_true, not_false_iff]; done) | (simp (disch := first | omega | assumption) only [wrI_s, wrI_o, wrI_r, wrL_1, wrL_r, wrL_s, wrL_o, blk_in, blk_out, blk_r, lit, litL, b00, b11, nI_l, lN_add, lN_mul, lN_sub, nI_add, pk_mul, pk_sub, pk_div, remN, Nat.add_sub_cancel, Nat.add_sub_cancel_left, Nat.zero_add, Nat.add_zero, nI_eq, nI_leI, nI_ltI, nI_m1, m1_lt, neg_lt, neg_le, neg_ge, neg_gt, neg_eq, not_true, not_false_iff]; omega)) rfl), h.up, fq.rf, fq.rf⟩
    · obtain ⟨C', M', e1, e2, e3, e4, e5⟩ := thSt h hN2 h28 hk1 hk h64
      exact ⟨C', M', pC _ (e_gf st3 (e_N (by first | (simp (disch := first | omega | assumption) only [wrI_s, wrI_o, wrI_r, wrL_1, wrL_r, wrL_s, wrL_o, blk_in, blk_out, blk_r, lit, litL, b00, b11, nI_l, lN_add, lN_mul, lN_sub, nI_add, pk_mul, pk_sub, pk_div, remN, Nat.add_sub_cancel, Nat.add_sub_cancel_left, Nat.zero_add, Nat.add_zero, nI_eq, nI_leI, nI_ltI, nI_m1, m1_lt, neg_lt, neg_le, neg_ge, neg_gt, neg_eq, not_true, not_false_iff]; done) | (simp (disch := first | omega | assumption) only [wrI_s, wrI_o, wrI_r, wrL_1, wrL_r, wrL_s, wrL_o, blk_in, blk_out, blk_r, lit, litL, b00, b11, nI_l, lN_add, lN_mul, lN_sub, nI_add, pk_mul, pk_sub, pk_div, remN, Nat.add_sub_cancel, Nat.add_sub_cancel_left, Nat.zero_add, Nat.add_zero, nI_eq, nI_leI, nI_ltI, nI_m1, m1_lt, neg_lt, neg_le, neg_ge, neg_gt, neg_eq, not_true, not_false_iff]; omega)) (e_N kn0 (e_cl e1 rfl)))), pM _ (e_N (by first | (simp (disch := first | omega | assumption) only [wrI_s, wrI_o, wrI_r, wrL_1, wrL_r, wrL_s, wrL_o, blk_in, blk_out, blk_r, lit, litL, b00, b11, nI_l, lN_add, lN_mul, lN_sub, nI_add, pk_mul, pk_sub, pk_div, remN, Nat.add_sub_cancel, Nat.add_sub_cancel_left, Nat.zero_add, Nat.add_zero, nI_eq, nI_leI, nI_ltI, nI_m1, m1_lt, neg_lt, neg_le, neg_ge, neg_gt, neg_eq, not_true, not_false_iff]; done) | (simp (disch := first | omega | assumption) only [wrI_s, wrI_o, wrI_r, wrL_1, wrL_r, wrL_s, wrL_o, blk_in, blk_out, blk_r, lit, litL, b00, b11, nI_l, lN_add, lN_mul, lN_sub, nI_add, pk_mul, pk_sub, pk_div, remN, Nat.add_sub_cancel, Nat.add_sub_cancel_left, Nat.zero_add, Nat.add_zero, nI_eq, nI_leI, nI_ltI, nI_m1, m1_lt, neg_lt, neg_le, neg_ge, neg_gt, neg_eq, not_true, not_false_iff]; omega)) (e_cl e2 rfl)), e3.up, e4, e5⟩
  · have pC : ∀ X, (gf C 62 k fun x16 => if x16 = 4 then (ldR C 52 0 9 1 (nI k) 9 fun i17 => cl (F_X11_takeSealed i17 k 27 R C) fun r18 S19 => if r18 = 0 then (some ((), S19)) else (cl (F_X2_nodeAt 27 R 16 S19) fun r21 S22 => cl (F_X11_passOn (nI k) (nI k) k r21 S22) fun r24 S25 => some ((), S25))) else (L_X11_takeData_139 (nI k) R (nI k) k 1 C)) = X → F_X11_takeData (nI k) C = X := by
      intro X hX
      refine preC _ (e_T h3 (e_ldA (j := 1) rfl (by decide) g1 (by decide) (g10 1 (by omega)) (e_N h64 ?_)))
      unfold L_X11_takeData_89
      exact e_N (by decide) hX
    have pM : ∀ X, (if nI st = 4 then (cl (F_X12_opens (nI k) (nI k) M) fun r9 S10 => some ((), S10)) else (some ((), M))) = X → F_X12_actsStation (nI k) M = X := by
      intro X hX
      exact preM _ (e_T h3 (e_ldA (j := 1) rfl (by decide) (by decide) (by decide) (g12 1 (by omega)) (e_N h64 (e_ldA rfl hk (by decide) (by decide) m218 hX))))
    by_cases hs4 : st = 4
    · have eO : F_X12_opens (nI k) (nI k) M = L_X12_opens_11 (nI k) (nI k) (nI k) M := by
        unfold F_X12_opens
        exact e_N (by first | (simp (disch := first | omega | assumption) only [wrI_s, wrI_o, wrI_r, wrL_1, wrL_r, wrL_s, wrL_o, blk_in, blk_out, blk_r, lit, litL, b00, b11, nI_l, lN_add, lN_mul, lN_sub, nI_add, pk_mul, pk_sub, pk_div, remN, Nat.add_sub_cancel, Nat.add_sub_cancel_left, Nat.zero_add, Nat.add_zero, nI_eq, nI_leI, nI_ltI, nI_m1, m1_lt, neg_lt, neg_le, neg_ge, neg_gt, neg_eq, not_true, not_false_iff]; done) | (simp (disch := first | omega | assumption) only [wrI_s, wrI_o, wrI_r, wrL_1, wrL_r, wrL_s, wrL_o, blk_in, blk_out, blk_r, lit, litL, b00, b11, nI_l, lN_add, lN_mul, lN_sub, nI_add, pk_mul, pk_sub, pk_div, remN, Nat.add_sub_cancel, Nat.add_sub_cancel_left, Nat.zero_add, Nat.add_zero, nI_eq, nI_leI, nI_ltI, nI_m1, m1_lt, neg_lt, neg_le, neg_ge, neg_gt, neg_eq, not_true, not_false_iff]; omega)) rfl
      obtain ⟨z, C1, M1, hz, v1, v2, v3, v4, v5, v6⟩ := selT (a := k) (k := k) h hN2 h28 (show k < 18 by omega) hk (by rw [st3, hs4])
      by_cases hz1 : z = 1
      · obtain ⟨len, l1, l2, l3, l4, l5, l6⟩ := v6 hz1
        obtain ⟨C', M', e1, e2, e3, e4, e5⟩ := posT (i := k) (k := k) (a := k) v2 (hN2.fr v3 v4) h28 ht hk1 hk (Or.inr ⟨rfl, rfl⟩) l1 l2 l3 l5
        refine ⟨C', M', pC _ (e_gf st3 (e_T (by rw [hs4]; rfl) (e_ldR rfl hk (by decide) (by decide) (hIRef.1 k hk).1 hk (e_cl v1 (e_N (by rw [hz1]; decide) e1))))), pM _ (e_T (by rw [hs4]; rfl) (e_cl (r := ()) (S1 := M') ?_ rfl)), e3, v3.tr e4, v4.tr e5⟩
        rw [eO, l6]
        exact e_cl e2 rfl
      · have hz0 : z = 0 := by omega
        refine ⟨C1, M1, pC _ (e_gf st3 (e_T (by rw [hs4]; rfl) (e_ldR rfl hk (by decide) (by decide) (hIRef.1 k hk).1 hk (e_cl v1 (e_T (by rw [hz0]; rfl) rfl))))), pM _ (e_T (by rw [hs4]; rfl) (e_cl (r := ()) (S1 := M1) ?_ rfl)), v2.up, v3, v4⟩
        rw [eO]
        exact v5 hz0
    · refine ⟨C, M, pC _ (e_gf st3 (e_N (by first | (simp (disch := first | omega | assumption) only [wrI_s, wrI_o, wrI_r, wrL_1, wrL_r, wrL_s, wrL_o, blk_in, blk_out, blk_r, lit, litL, b00, b11, nI_l, lN_add, lN_mul, lN_sub, nI_add, pk_mul, pk_sub, pk_div, remN, Nat.add_sub_cancel, Nat.add_sub_cancel_left, Nat.zero_add, Nat.add_zero, nI_eq, nI_leI, nI_ltI, nI_m1, m1_lt, neg_lt, neg_le, neg_ge, neg_gt, neg_eq, not_true, not_false_iff]; done) | (simp (disch := first | omega | assumption) only [wrI_s, wrI_o, wrI_r, wrL_1, wrL_r, wrL_s, wrL_o, blk_in, blk_out, blk_r, lit, litL, b00, b11, nI_l, lN_add, lN_mul, lN_sub, nI_add, pk_mul, pk_sub, pk_div, remN, Nat.add_sub_cancel, Nat.add_sub_cancel_left, Nat.zero_add, Nat.add_zero, nI_eq, nI_leI, nI_ltI, nI_m1, m1_lt, neg_lt, neg_le, neg_ge, neg_gt, neg_eq, not_true, not_false_iff]; omega)) ?_)), pM _ (e_N (by first | (simp (disch := first | omega | assumption) only [wrI_s, wrI_o, wrI_r, wrL_1, wrL_r, wrL_s, wrL_o, blk_in, blk_out, blk_r, lit, litL, b00, b11, nI_l, lN_add, lN_mul, lN_sub, nI_add, pk_mul, pk_sub, pk_div, remN, Nat.add_sub_cancel, Nat.add_sub_cancel_left, Nat.zero_add, Nat.add_zero, nI_eq, nI_leI, nI_ltI, nI_m1, m1_lt, neg_lt, neg_le, neg_ge, neg_gt, neg_eq, not_true, not_false_iff]; done) | (simp (disch := first | omega | assumption) only [wrI_s, wrI_o, wrI_r, wrL_1, wrL_r, wrL_s, wrL_o, blk_in, blk_out, blk_r, lit, litL, b00, b11, nI_l, lN_add, lN_mul, lN_sub, nI_add, pk_mul, pk_sub, pk_div, remN, Nat.add_sub_cancel, Nat.add_sub_cancel_left, Nat.zero_add, Nat.add_zero, nI_eq, nI_leI, nI_ltI, nI_m1, m1_lt, neg_lt, neg_le, neg_ge, neg_gt, neg_eq, not_true, not_false_iff]; omega)) rfl), h.up, fq.rf, fq.rf⟩
      unfold L_X11_takeData_139 L_X11_takeData_163
      exact e_N (by decide) (e_N kn0 (e_N (by decide) rfl))
/-- what a node does with a frame that it took -/
def actK (K : Mm → Option (Int32 × Mm)) (a : Nat) (C : Mm) : Option (Int32 × Mm) := cl (F_X5_newestBytes C) fun r18 S19 => nn r18 40 fun i21 => ldA S19 27 i21 300 40 0 fun x22 => if x22 = 8 then (cl (F_X11_takeData (nI a) S19) fun r26 S27 => K S27) else (cl (F_X11_takeManagement (nI a) S19) fun r23 S24 => K S24)
theorem actT {d w e t s R n sd a f : Nat} {b : Nat → Nat} {C M : Mm} (h : TT d w e t C M) (hN : NB s R n sd b C M) (h28 : 28 ≤ n) (ht : t < 2 ^ 29) (ha : a < 9) (hf : f < 9) (haf : (a = 0 ∧ 1 ≤ f) ∨ (1 ≤ a ∧ f = 0)) (had : adOk (fun j => b (10 + j))) (hbf : b 15 = f) : ∃ C' M', (∀ K, actK K a C = K C') ∧ (if nI a = 0 then (if nI f ≤ 0 then (L_X12_look_226 (nI a) (nI f) M) else (cl (F_X12_actsAp (nI f) M) fun r34 S35 => some ((), S35))) else (L_X12_look_226 (nI a) (nI f) M)) = some ((), M') ∧ TT d w e (t + 1) C' M' ∧ fq tkC C C' ∧ fq tkM M M' := by
  obtain ⟨nb1, nb2, -⟩ := nbC hN
  have hR := hN.1
  have g5 := hN.2.2.2.2.1
  have q0 := g5 0
  have c27 := hN.2.2.2.2.2.2.2.2.2.1
  have preC : ∀ K X, (if nI (b 0) = 8 then (cl (F_X11_takeData (nI a) C) fun r26 S27 => K S27) else (cl (F_X11_takeManagement (nI a) C) fun r23 S24 => K S24)) = X → actK K a C = X := by
    intro K X hX
    unfold actK
    exact e_cl nb1 (e_nn hR (e_ldA (j := 0) rfl (by decide) hR (by decide) (c27 0 (by omega)) hX))
  rcases haf with ⟨a0, f1⟩ | ⟨a1, f0⟩
  · subst a0
    have preM : ∀ M', F_X12_actsAp (nI f) M = some ((), M') → (if nI 0 = 0 then (if nI f ≤ 0 then (L_X12_look_226 (nI 0) (nI f) M) else (cl (F_X12_actsAp (nI f) M) fun r34 S35 => some ((), S35))) else (L_X12_look_226 (nI 0) (nI f) M)) = some ((), M') := fun M' hM' => e_T rfl (e_N (nI_nle (by omega) (by omega)) (e_cl hM' rfl))
    by_cases h8 : b 0 = 8
    · obtain ⟨C', M', e1, e2, e3, e4, e5⟩ := dtAp h hN h28 ht f1 hf h8 had hbf
      exact ⟨C', M', fun K => preC _ _ (e_T (by rw [h8]; rfl) (e_cl e1 rfl)), preM M' e2, e3, e4, e5⟩
    · obtain ⟨C', M', e1, e2, e3, e4, e5⟩ := mgAp h hN h28 f1 hf h8
      refine ⟨C', M', fun K => preC _ _ (e_N (by first | (simp (disch := first | omega | assumption) only [wrI_s, wrI_o, wrI_r, wrL_1, wrL_r, wrL_s, wrL_o, blk_in, blk_out, blk_r, lit, litL, b00, b11, nI_l, lN_add, lN_mul, lN_sub, nI_add, pk_mul, pk_sub, pk_div, remN, Nat.add_sub_cancel, Nat.add_sub_cancel_left, Nat.zero_add, Nat.add_zero, nI_eq, nI_leI, nI_ltI, nI_m1, m1_lt, neg_lt, neg_le, neg_ge, neg_gt, neg_eq, not_true, not_false_iff]; done) | (simp (disch := first | omega | assumption) only [wrI_s, wrI_o, wrI_r, wrL_1, wrL_r, wrL_s, wrL_o, blk_in, blk_out, blk_r, lit, litL, b00, b11, nI_l, lN_add, lN_mul, lN_sub, nI_add, pk_mul, pk_sub, pk_div, remN, Nat.add_sub_cancel, Nat.add_sub_cancel_left, Nat.zero_add, Nat.add_zero, nI_eq, nI_leI, nI_ltI, nI_m1, m1_lt, neg_lt, neg_le, neg_ge, neg_gt, neg_eq, not_true, not_false_iff]; omega)) (e_cl (r := ()) (S1 := C') ?_ rfl)), preM M' e2, e3.up, e4, e5⟩
      have ndc := (ndC (C := C) (R := R) (p := 10) (b := fun j => b (10 + j)) hR (by decide) (fun j hj => c27 (10 + j) (by omega)) (fun j _ => g5 _)).1 had
      have ndc' : F_X2_nodeAt 27 R 10 C = some (nI f, C) := by rw [← hbf]; exact ndc
      unfold F_X11_takeManagement L_X11_takeManagement_22
      exact e_cl nb1 (e_nn hR (e_T rfl (e_cl ndc' (e_cl (st_y f1 hf) (e_N (by decide) (e_T rfl (e_cl e1 rfl)))))))
  · have an0 : ¬ nI a = 0 := nI_ne0 (by omega) (by omega)
    have preM : ∀ M', F_X12_actsStation (nI a) M = some ((), M') → (if nI a = 0 then (if nI f ≤ 0 then (L_X12_look_226 (nI a) (nI f) M) else (cl (F_X12_actsAp (nI f) M) fun r34 S35 => some ((), S35))) else (L_X12_look_226 (nI a) (nI f) M)) = some ((), M') := by
      intro M' hM'
      unfold L_X12_look_226
      exact e_N an0 (e_N (nI_nle (by omega) (by omega)) (e_T (by rw [f0]; rfl) (e_cl hM' rfl)))
    by_cases h8 : b 0 = 8
    · obtain ⟨C', M', e1, e2, e3, e4, e5⟩ := dtSt h hN h28 ht a1 ha h8
      exact ⟨C', M', fun K => preC _ _ (e_T (by rw [h8]; rfl) (e_cl e1 rfl)), preM M' e2, e3, e4, e5⟩
    · obtain ⟨C', M', e1, e2, e3, e4, e5⟩ := mgSt h hN h28 a1 ha h8
      refine ⟨C', M', fun K => preC _ _ (e_N (by first | (simp (disch := first | omega | assumption) only [wrI_s, wrI_o, wrI_r, wrL_1, wrL_r, wrL_s, wrL_o, blk_in, blk_out, blk_r, lit, litL, b00, b11, nI_l, lN_add, lN_mul, lN_sub, nI_add, pk_mul, pk_sub, pk_div, remN, Nat.add_sub_cancel, Nat.add_sub_cancel_left, Nat.zero_add, Nat.add_zero, nI_eq, nI_leI, nI_ltI, nI_m1, m1_lt, neg_lt, neg_le, neg_ge, neg_gt, neg_eq, not_true, not_false_iff]; done) | (simp (disch := first | omega | assumption) only [wrI_s, wrI_o, wrI_r, wrL_1, wrL_r, wrL_s, wrL_o, blk_in, blk_out, blk_r, lit, litL, b00, b11, nI_l, lN_add, lN_mul, lN_sub, nI_add, pk_mul, pk_sub, pk_div, remN, Nat.add_sub_cancel, Nat.add_sub_cancel_left, Nat.zero_add, Nat.add_zero, nI_eq, nI_leI, nI_ltI, nI_m1, m1_lt, neg_lt, neg_le, neg_ge, neg_gt, neg_eq, not_true, not_false_iff]; omega)) (e_cl (r := ()) (S1 := C') ?_ rfl)), preM M' e2, e3.up, e4, e5⟩
      unfold F_X11_takeManagement L_X11_takeManagement_22
      exact e_cl nb1 (e_nn hR (e_N an0 (e_cl (st_y a1 ha) (e_N (by decide) (e_N an0 (e_cl e1 rfl))))))
