/-! A SEALED PART IS TAKEN: all of it, both sides -/
theorem isrN {s R n sd i : Nat} {b : Nat → Nat} {C M : Mm} (hN : NB s R n sd b C M) (h28 : 28 ≤ n) (hno : n < 44 ∨ ¬ b 26 = 0 ∨ ¬ b 27 = 32) : F_X12_isRight (nI i) M = some (nI 0, M) := by
  obtain ⟨g1, g2, g3, g4, g5, g6, g7, g8, g9, g10, g11, g12, g13, g14⟩ := hN
  have q26 := g5 26
  have q27 := g5 27
  unfold F_X12_isRight L_X12_isRight_37
  by_cases h44 : n < 44
  · exact e_gf g11 (e_tp (w := nI (n - 28) - nI 16) (by rw [show (28 : Int32) = nI 28 from rfl, pk_sub h28]; rfl) (e_T (pk_sneg (by decide) (by omega)) rfl))
  · refine e_gf g11 (e_tp (w := nI (n - 44)) (by rw [show (28 : Int32) = nI 28 from rfl, pk_sub h28, show (16 : Int32) = nI 16 from rfl, pk_sub (by omega), show n - 28 - 16 = n - 44 by omega]) (e_N (by first | (simp (disch := first | omega | assumption) only [wrI_s, wrI_o, wrI_r, wrL_1, wrL_r, wrL_s, wrL_o, blk_in, blk_out, blk_r, lit, litL, b00, b11, nI_l, lN_add, lN_mul, lN_sub, nI_add, pk_mul, pk_sub, pk_div, remN, Nat.add_sub_cancel, Nat.add_sub_cancel_left, Nat.zero_add, Nat.add_zero, nI_eq, nI_leI, nI_ltI, nI_m1, m1_lt, neg_lt, neg_le, neg_ge, neg_gt, neg_eq, not_true, not_false_iff]; done) | (simp (disch := first | omega | assumption) only [wrI_s, wrI_o, wrI_r, wrL_1, wrL_r, wrL_s, wrL_o, blk_in, blk_out, blk_r, lit, litL, b00, b11, nI_l, lN_add, lN_mul, lN_sub, nI_add, pk_mul, pk_sub, pk_div, remN, Nat.add_sub_cancel, Nat.add_sub_cancel_left, Nat.zero_add, Nat.add_zero, nI_eq, nI_leI, nI_ltI, nI_m1, m1_lt, neg_lt, neg_le, neg_ge, neg_gt, neg_eq, not_true, not_false_iff]; omega)) (e_ldA (j := 26) rfl (by decide) (by decide) (by decide) (g12 26 (by omega)) ?_)))
    by_cases h26 : b 26 = 0
    · exact e_T (by rw [h26]; rfl) (e_ldA (j := 27) rfl (by decide) (by decide) (by decide) (g12 27 (by omega)) (e_N (by
        have : ¬ b 27 = 32 := by omega
        first | (simp (disch := first | omega | assumption) only [wrI_s, wrI_o, wrI_r, wrL_1, wrL_r, wrL_s, wrL_o, blk_in, blk_out, blk_r, lit, litL, b00, b11, nI_l, lN_add, lN_mul, lN_sub, nI_add, pk_mul, pk_sub, pk_div, remN, Nat.add_sub_cancel, Nat.add_sub_cancel_left, Nat.zero_add, Nat.add_zero, nI_eq, nI_leI, nI_ltI, nI_m1, m1_lt, neg_lt, neg_le, neg_ge, neg_gt, neg_eq, not_true, not_false_iff]; done) | (simp (disch := first | omega | assumption) only [wrI_s, wrI_o, wrI_r, wrL_1, wrL_r, wrL_s, wrL_o, blk_in, blk_out, blk_r, lit, litL, b00, b11, nI_l, lN_add, lN_mul, lN_sub, nI_add, pk_mul, pk_sub, pk_div, remN, Nat.add_sub_cancel, Nat.add_sub_cancel_left, Nat.zero_add, Nat.add_zero, nI_eq, nI_leI, nI_ltI, nI_m1, m1_lt, neg_lt, neg_le, neg_ge, neg_gt, neg_eq, not_true, not_false_iff]; omega)) rfl))
    · exact e_N (nI_ne0 (by omega) (by omega)) rfl
theorem selT {d w e t s R n sd i a k : Nat} {b : Nat → Nat} {C M : Mm} (h : TT d w e t C M) (hN : NB s R n sd b C M) (h28 : 28 ≤ n) (hi : i < 18) (ha : a < 9) (hst : C.1 62 i 0 = nI 4) : ∃ (z : Nat) (C' M' : Mm), z ≤ 1 ∧ F_X11_takeSealed a i 27 R C = some (nI z, C') ∧ TT d w e t C' M' ∧ fq tkC C C' ∧ fq tkM M M' ∧ (z = 0 → L_X12_opens_11 (nI i) (nI k) (nI a) M = some ((), M')) ∧ (z = 1 → ∃ len, 8 ≤ len ∧ len ≤ 208 ∧ C'.1 70 i 0 = nI len ∧ M'.1 231 0 i = nI len ∧ M'.1 232 0 (208 * i + 6) = nI 8 ∧ L_X12_opens_11 (nI i) (nI k) (nI a) M = (cl (L_X12_whole_132 (nI k) (nI a) (nI (208 * i)) (nI len) 1 M') fun r29 S30 => some ((), S30))) := by
  have hR := hN.1
  have hn3 := hN.2.2.1
  have g5 := hN.2.2.2.2.1
  have m307 := hN.2.2.2.2.2.2.2.2.2.2.1
  have m278 := hN.2.2.2.2.2.2.2.2.2.2.2.1
  have c27 : ∀ j, j < n → rdI C 27 R j = nI (b j) := hN.2.2.2.2.2.2.2.2.2.1
  have ho : okP false 27 R = true := okP_n (by decide) hR
  have q26 := g5 26
  have q27 := g5 27
  have q22 := g5 22
  have q23 := g5 23
  obtain ⟨-, nb2, -⟩ := nbC hN
  have h' := h
  obtain ⟨hIDraw, hIPar, hISub, hIKey, hIRef, hISta, hILnk, hIBeg, hIQue, hIHnd, hICon, hIDue, hIWai, hISnd, hILat, hIInb⟩ := h'
  -- what is dropped
  have drp : ∀ (C1 M1 : Mm), TT d w e t C1 M1 → fq tkC C C1 → fq tkM M M1 → F_X11_takeSealed a i 27 R C = (gf C1 90 a fun x28 => pf C1 90 a (x28 + 1) fun S29 => some (0, S29)) → L_X12_opens_11 (nI i) (nI k) (nI a) M = (ldA M1 282 0 9 1 (nI a) fun x14 => stA M1 282 0 9 1 (nI a) (x14 + 1) fun S15 => some ((), S15)) → ∃ (z : Nat) (C' M' : Mm), z ≤ 1 ∧ F_X11_takeSealed a i 27 R C = some (nI z, C') ∧ TT d w e t C' M' ∧ fq tkC C C' ∧ fq tkM M M' ∧ (z = 0 → L_X12_opens_11 (nI i) (nI k) (nI a) M = some ((), M')) ∧ (z = 1 → ∃ len, 8 ≤ len ∧ len ≤ 208 ∧ C'.1 70 i 0 = nI len ∧ M'.1 231 0 i = nI len ∧ M'.1 232 0 (208 * i + 6) = nI 8 ∧ L_X12_opens_11 (nI i) (nI k) (nI a) M = (cl (L_X12_whole_132 (nI k) (nI a) (nI (208 * i)) (nI len) 1 M') fun r29 S30 => some ((), S30))) := by
    intro C1 M1 hT1 fC1 gM1 eC1 eM1
    refine ⟨0, _, _, by decide, eC1.trans (e_gf rfl (e_pf rfl rfl)), hT1.dps ha, fC1.tr (by repeat (first | exact fq.rf | (refine fq.tr ?_ (fq.wr (by decide))) | (refine fq.tr ?_ (fq.bk (by decide))) | (refine fq.tr ?_ (fq.wl (by decide))) | (refine fq.tr ?_ (fq.wR (by decide))))), gM1.tr (by repeat (first | exact fq.rf | (refine fq.tr ?_ (fq.wr (by decide))) | (refine fq.tr ?_ (fq.bk (by decide))) | (refine fq.tr ?_ (fq.wl (by decide))) | (refine fq.tr ?_ (fq.wR (by decide))))), fun _ => eM1.trans (e_ldA rfl ha (by decide) (by decide) rfl (e_stA rfl ha (by decide) (by decide) rfl rfl)), fun z => absurd z (by decide)⟩
  have m0 : ∀ M1, F_X12_isRight (nI i) M = some (nI 0, M1) → L_X12_opens_11 (nI i) (nI k) (nI a) M = (ldA M1 282 0 9 1 (nI a) fun x14 => stA M1 282 0 9 1 (nI a) (x14 + 1) fun S15 => some ((), S15)) := by
    intro M1 hM1
    unfold L_X12_opens_11
    exact e_cl hM1 (e_T rfl rfl)
  by_cases h44 : n < 44
  · refine drp C M h fq.rf fq.rf ?_ (m0 M (isrN hN h28 (Or.inl h44)))
    unfold F_X11_takeSealed L_X11_takeSealed_36
    exact e_gd ha (e_gd hi (e_cl nb2 (e_tp (w := nI (n - 28) - nI 16) (by rw [show (28 : Int32) = nI 28 from rfl, pk_sub h28]; rfl) (e_T (pk_sneg (by decide) (by omega)) rfl))))
  have preC : ∀ X, (ldP false C 27 R 26 fun x5 => if x5 = 0 then (ldP false C 27 R 27 fun x6 => if x6 = 32 then (cl (F_X2_sealNumber 27 R C) fun r7 S8 => gl S8 65 i fun x10 => if (lg_cmp r7 x10) ≤ 0 then (L_X11_takeSealed_81 a S8) else (cl (F_X0_open 27 R (nI (n - 44)) 24 i S8) fun r11 S12 => if r11 = 0 then (L_X11_takeSealed_81 a S12) else (pl S12 65 i r7 fun S14 => cl (F_X4_addPart i 27 R 11 0 (nI (n - 44)) S14) fun r15 S16 => if r15 = 0 then (gf S16 90 a fun x24 => pf S16 90 a (x24 + 1) fun S25 => some (0, S25)) else (ldP false S16 27 R 1 fun x18 => if (x18 &&& 4) = 0 then (pf S16 67 i 0 fun S19 => gf S19 70 i fun x20 => if x20 < 8 then (L_X11_takeSealed_170 S19) else (cl (F_X2_hasHead 25 i 0 8 0 S19) fun r21 S22 => if r21 = 0 then (L_X11_takeSealed_170 S22) else (some (1, S22)))) else (some (0, S16)))))) else (L_X11_takeSealed_36 a C)) else (L_X11_takeSealed_36 a C)) = X → F_X11_takeSealed a i 27 R C = X := by
    intro X hX
    unfold F_X11_takeSealed
    exact e_gd ha (e_gd hi (e_cl nb2 (e_tp (w := nI (n - 44)) (by rw [show (28 : Int32) = nI 28 from rfl, pk_sub h28, show (16 : Int32) = nI 16 from rfl, pk_sub (by omega), show n - 28 - 16 = n - 44 by omega]) (e_N (by first | (simp (disch := first | omega | assumption) only [wrI_s, wrI_o, wrI_r, wrL_1, wrL_r, wrL_s, wrL_o, blk_in, blk_out, blk_r, lit, litL, b00, b11, nI_l, lN_add, lN_mul, lN_sub, nI_add, pk_mul, pk_sub, pk_div, remN, Nat.add_sub_cancel, Nat.add_sub_cancel_left, Nat.zero_add, Nat.add_zero, nI_eq, nI_leI, nI_ltI, nI_m1, m1_lt, neg_lt, neg_le, neg_ge, neg_gt, neg_eq, not_true, not_false_iff]; done) | (simp (disch := first | omega | assumption) only [wrI_s, wrI_o, wrI_r, wrL_1, wrL_r, wrL_s, wrL_o, blk_in, blk_out, blk_r, lit, litL, b00, b11, nI_l, lN_add, lN_mul, lN_sub, nI_add, pk_mul, pk_sub, pk_div, remN, Nat.add_sub_cancel, Nat.add_sub_cancel_left, Nat.zero_add, Nat.add_zero, nI_eq, nI_leI, nI_ltI, nI_m1, m1_lt, neg_lt, neg_le, neg_ge, neg_gt, neg_eq, not_true, not_false_iff]; omega)) hX))))
  by_cases h26 : b 26 = 0
  case neg =>
    refine drp C M h fq.rf fq.rf (preC _ ?_) (m0 M (isrN hN h28 (Or.inr (Or.inl h26))))
    unfold L_X11_takeSealed_36
    exact e_ldP (j := 26) rfl ho (by decide) (by decide) (c27 26 (by omega)) (e_N (nI_ne0 (by omega) (by omega)) rfl)
  by_cases h27 : b 27 = 32
  case neg =>
    refine drp C M h fq.rf fq.rf (preC _ ?_) (m0 M (isrN hN h28 (Or.inr (Or.inr h27))))
    unfold L_X11_takeSealed_36
    exact e_ldP (j := 26) rfl ho (by decide) (by decide) (c27 26 (by omega)) (e_T (by rw [h26]; rfl) (e_ldP (j := 27) rfl ho (by decide) (by decide) (c27 27 (by omega)) (e_N (by first | (simp (disch := first | omega | assumption) only [wrI_s, wrI_o, wrI_r, wrL_1, wrL_r, wrL_s, wrL_o, blk_in, blk_out, blk_r, lit, litL, b00, b11, nI_l, lN_add, lN_mul, lN_sub, nI_add, pk_mul, pk_sub, pk_div, remN, Nat.add_sub_cancel, Nat.add_sub_cancel_left, Nat.zero_add, Nat.add_zero, nI_eq, nI_leI, nI_ltI, nI_m1, m1_lt, neg_lt, neg_le, neg_ge, neg_gt, neg_eq, not_true, not_false_iff]; done) | (simp (disch := first | omega | assumption) only [wrI_s, wrI_o, wrI_r, wrL_1, wrL_r, wrL_s, wrL_o, blk_in, blk_out, blk_r, lit, litL, b00, b11, nI_l, lN_add, lN_mul, lN_sub, nI_add, pk_mul, pk_sub, pk_div, remN, Nat.add_sub_cancel, Nat.add_sub_cancel_left, Nat.zero_add, Nat.add_zero, nI_eq, nI_leI, nI_ltI, nI_m1, m1_lt, neg_lt, neg_le, neg_ge, neg_gt, neg_eq, not_true, not_false_iff]; omega)) rfl)))
  have eSN := snC hN (by omega)
  obtain ⟨p, ePN⟩ := pnM (i := i) (m := n - 44) hN (by omega)
  obtain ⟨⟨s', a1, a2, a3, a4, a5⟩, -, -, kk, -⟩ := hILnk i hi
  have es4 : s' = 4 := (nI_eq (by omega) (by omega)).mp (a3.symm.trans hst)
  have e65 := (a5 es4).1
  have mR : ∀ X, (ldL M 226 0 18 1 (nI i) fun x5 => if 0 < (lg_cmp (lN (nmF (qF b) 6)) x5) then (cl (F_X12_expand 221 0 (16 * nI i) M) fun r6 S7 => cl (F_X12_nonceOf 278 0 0 (lN (nmF (qF b) 6)) S7) fun r9 S10 => cl (F_X12_cover 278 0 32 283 0 0 (nI (n - 44)) S10) fun r12 S13 => cl (F_X12_findTag 278 0 0 283 0 0 (nI (n - 44)) S13) fun r15 S16 => L_X12_isRight_158 (nI i) (nI (n - 44)) (lN (nmF (qF b) 6)) fu 1 0 S16) else (some (0, M))) = X → F_X12_isRight (nI i) M = X := by
    intro X hX
    unfold F_X12_isRight
    refine e_gf m307 (e_tp (w := nI (n - 44)) (by rw [show (28 : Int32) = nI 28 from rfl, pk_sub h28, show (16 : Int32) = nI 16 from rfl, pk_sub (by omega), show n - 28 - 16 = n - 44 by omega]) (e_N (by first | (simp (disch := first | omega | assumption) only [wrI_s, wrI_o, wrI_r, wrL_1, wrL_r, wrL_s, wrL_o, blk_in, blk_out, blk_r, lit, litL, b00, b11, nI_l, lN_add, lN_mul, lN_sub, nI_add, pk_mul, pk_sub, pk_div, remN, Nat.add_sub_cancel, Nat.add_sub_cancel_left, Nat.zero_add, Nat.add_zero, nI_eq, nI_leI, nI_ltI, nI_m1, m1_lt, neg_lt, neg_le, neg_ge, neg_gt, neg_eq, not_true, not_false_iff]; done) | (simp (disch := first | omega | assumption) only [wrI_s, wrI_o, wrI_r, wrL_1, wrL_r, wrL_s, wrL_o, blk_in, blk_out, blk_r, lit, litL, b00, b11, nI_l, lN_add, lN_mul, lN_sub, nI_add, pk_mul, pk_sub, pk_div, remN, Nat.add_sub_cancel, Nat.add_sub_cancel_left, Nat.zero_add, Nat.add_zero, nI_eq, nI_leI, nI_ltI, nI_m1, m1_lt, neg_lt, neg_le, neg_ge, neg_gt, neg_eq, not_true, not_false_iff]; omega)) (e_ldA (j := 26) rfl (by decide) (by decide) (by decide) (m278 26 (by omega)) (e_T (by rw [h26]; rfl) (e_ldA (j := 27) rfl (by decide) (by decide) (by decide) (m278 27 (by omega)) (e_T (by rw [h27]; rfl) ?_))))))
    rw [ePN, L_X12_isRight_44]
    exact e_T (by decide) hX
  have preC2 : ∀ X, (if (lg_cmp (lN (nmF (qF b) 6)) (M.2.1 226 0 i)) ≤ 0 then (L_X11_takeSealed_81 a C) else (cl (F_X0_open 27 R (nI (n - 44)) 24 i C) fun r11 S12 => if r11 = 0 then (L_X11_takeSealed_81 a S12) else (pl S12 65 i (lN (nmF (qF b) 6)) fun S14 => cl (F_X4_addPart i 27 R 11 0 (nI (n - 44)) S14) fun r15 S16 => if r15 = 0 then (gf S16 90 a fun x24 => pf S16 90 a (x24 + 1) fun S25 => some (0, S25)) else (ldP false S16 27 R 1 fun x18 => if (x18 &&& 4) = 0 then (pf S16 67 i 0 fun S19 => gf S19 70 i fun x20 => if x20 < 8 then (L_X11_takeSealed_170 S19) else (cl (F_X2_hasHead 25 i 0 8 0 S19) fun r21 S22 => if r21 = 0 then (L_X11_takeSealed_170 S22) else (some (1, S22)))) else (some (0, S16)))))) = X → F_X11_takeSealed a i 27 R C = X := by
    intro X hX
    exact preC _ (e_ldP (j := 26) rfl ho (by decide) (by decide) (c27 26 (by omega)) (e_T (by rw [h26]; rfl) (e_ldP (j := 27) rfl ho (by decide) (by decide) (c27 27 (by omega)) (e_T (by rw [h27]; rfl) (e_cl eSN (e_gl e65 hX))))))
  by_cases hlg : lg_cmp (lN (nmF (qF b) 6)) (M.2.1 226 0 i) ≤ 0
  · refine drp C M h fq.rf fq.rf (preC2 _ ?_) (m0 M (mR _ ?_))
    · unfold L_X11_takeSealed_81
      exact e_T hlg rfl
    · exact e_ldL rfl hi (by decide) (by decide) rfl (e_N (by rw [i32_lt]; rw [i32_le] at hlg; omega) rfl)
  have hlg2 : 0 < lg_cmp (lN (nmF (qF b) 6)) (M.2.1 226 0 i) := by
    rw [i32_lt]
    rw [i32_le] at hlg
    omega
  obtain ⟨z, C1, M1, P, hz, PB, u1, u2, u3, v1, v2, v3⟩ := opnT (i := i) (m := n - 44) hN (by omega) rfl hi hIRef.2.2 (fun q hq => kk q hq)
  by_cases hz1 : z = 1
  case neg =>
    have hz0 : z = 0 := by omega
    rw [if_neg hz1] at v1
    have hT1 := h.fr u2 v2 (by decide) (by decide)
    refine drp C1 M1 hT1 (u2.up (by decide)) (v2.up (by decide)) (preC2 _ ?_) (m0 M1 (mR _ ?_))
    · unfold L_X11_takeSealed_81
      exact e_N hlg (e_cl u1 (e_T (by rw [hz0]; rfl) rfl))
    · exact e_ldL rfl hi (by decide) (by decide) rfl (e_T hlg2 (by rw [v1, hz0]))
  rw [if_pos hz1, hz1] at v1
  rw [hz1] at u1
  have hT1 := (h.fr u2 v2 (by decide) (by decide)).tkn (i := i) (v := lN (nmF (qF b) 6)) hi
  have fC1 : fq (65 :: cL) C (wrL C1 65 i 0 (lN (nmF (qF b) 6))) := (u2.up (by decide)).tr (by repeat (first | exact fq.rf | (refine fq.tr ?_ (fq.wr (by decide))) | (refine fq.tr ?_ (fq.bk (by decide))) | (refine fq.tr ?_ (fq.wl (by decide))) | (refine fq.tr ?_ (fq.wR (by decide)))))
  have gM1 : fq (226 :: opMl) M (wrL M1 226 0 i (lN (nmF (qF b) 6))) := (v2.up (by decide)).tr (by repeat (first | exact fq.rf | (refine fq.tr ?_ (fq.wr (by decide))) | (refine fq.tr ?_ (fq.bk (by decide))) | (refine fq.tr ?_ (fq.wl (by decide))) | (refine fq.tr ?_ (fq.wR (by decide)))))
  have N1 := hN.fr (fC1.up (by decide)) (gM1.up (by decide))
  have k283 : ∀ q, q < n - 44 → (wrL M1 226 0 i (lN (nmF (qF b) 6))).1 283 0 q = P q := v3
  have k11 : ∀ q, q < n - 44 → (wrL C1 65 i 0 (lN (nmF (qF b) 6))).1 11 0 q = P q := u3
  generalize hCC : wrL C1 65 i 0 (lN (nmF (qF b) 6)) = C1' at *
  generalize hMM : wrL M1 226 0 i (lN (nmF (qF b) 6)) = M1' at *
  obtain ⟨z2, C2, M2, hz2, x1, x2, x3, x4, x5, x6⟩ := addT (k := k) (a := a) (m := n - 44) (P := P) hT1 N1 h28 hi ha (by omega) PB k11 k283
  have fC2 : fq tkC C C2 := (fC1.up (by decide)).tr (x3.up (by decide))
  have gM2 : fq tkM M M2 := (gM1.up (by decide)).tr (x4.up (by decide))
  have m278' : ∀ j, j < n → M1'.1 278 0 j = nI (b j) := fun j hj => by rw [gM1.1 278 (nc (by decide))]; exact m278 j hj
  have preC3 : ∀ X, (if nI z2 = 0 then (gf C2 90 a fun x24 => pf C2 90 a (x24 + 1) fun S25 => some (0, S25)) else (ldP false C2 27 R 1 fun x18 => if (x18 &&& 4) = 0 then (pf C2 67 i 0 fun S19 => gf S19 70 i fun x20 => if x20 < 8 then (L_X11_takeSealed_170 S19) else (cl (F_X2_hasHead 25 i 0 8 0 S19) fun r21 S22 => if r21 = 0 then (L_X11_takeSealed_170 S22) else (some (1, S22)))) else (some (0, C2)))) = X → F_X11_takeSealed a i 27 R C = X := by
    intro X hX
    exact preC2 _ (e_N hlg (e_cl u1 (e_N (by decide) (e_pl rfl (by rw [hCC]; exact e_cl x1 hX)))))
  have preM3 : ∀ X, refA i k a (n - 44) (b 22 + 256 * b 23) (b 22 % 16) M1' = X → L_X12_opens_11 (nI i) (nI k) (nI a) M = X := by
    intro X hX
    unfold L_X12_opens_11
    have eR : F_X12_isRight (nI i) M = some (nI 1, M1') := mR _ (e_ldL rfl hi (by decide) (by decide) rfl (e_T hlg2 v1))
    refine e_cl eR (e_N (by decide) (e_gf (v := nI n) (by rw [gM1.1 307 (nc (by decide))]; exact m307) (e_tp (w := nI (n - 44)) (by rw [show (44 : Int32) = nI 44 from rfl, pk_sub (by omega)]) (e_ldA (j := 22) rfl (by decide) (by decide) (by decide) (m278' 22 (by omega)) (e_ldA (j := 23) rfl (by decide) (by decide) (by decide) (m278' 23 (by omega)) (e_tp (scE q22 q23) (e_tp (w := nI (b 22 % 16)) ?_ hX)))))))
    rw [show (15 : Int32) = nI 15 from rfl, and15 (by omega), show (b 22 + 256 * b 23) % 16 = b 22 % 16 by omega]
  by_cases hz21 : z2 = 1
  case neg =>
    have hz20 : z2 = 0 := by omega
    exact drp C2 M2 x2 fC2 gM2 (preC3 _ (e_T (by rw [hz20]; rfl) rfl)) (preM3 _ (x5 hz20))
  have N2 := N1.fr (x3.up (by decide)) (x4.up (by decide))
  have c27' : ∀ j, j < n → rdI C2 27 R j = nI (b j) := N2.2.2.2.2.2.2.2.2.2.1
  have m278'' := N2.2.2.2.2.2.2.2.2.2.2.2.1
  by_cases h4 : nI (b 1) &&& 4 = 0
  case neg =>
    exact ⟨0, C2, M2, by decide, preC3 _ (e_N (by rw [hz21]; decide) (e_ldP (j := 1) rfl ho (by decide) (by decide) (c27' 1 (by omega)) (e_N h4 rfl))), x2, fC2, gM2, fun _ => preM3 _ ((x6 hz21).trans (e_ldA (j := 1) rfl (by decide) (by decide) (by decide) (m278'' 1 (by omega)) (e_N h4 rfl))), fun z => absurd z (by decide)⟩
  have hb2 : IBeg C2 M2 := by
    have x2' := x2
    obtain ⟨hIDraw2, hIPar2, hISub2, hIKey2, hIRef2, hISta2, hILnk2, hIBeg2, hIQue2, hIHnd2, hICon2, hIDue2, hIWai2, hISnd2, hILat2, hIInb2⟩ := x2'
    exact hIBeg2
  have fC3 : fq bgC C2 (wrI C2 67 i 0 (nI 0)) := by repeat (first | exact fq.rf | (refine fq.tr ?_ (fq.wr (by decide))) | (refine fq.tr ?_ (fq.bk (by decide))) | (refine fq.tr ?_ (fq.wl (by decide))) | (refine fq.tr ?_ (fq.wR (by decide))))
  have gM3 : fq bgM M2 (wrI M2 228 0 i (nI 0)) := by repeat (first | exact fq.rf | (refine fq.tr ?_ (fq.wr (by decide))) | (refine fq.tr ?_ (fq.bk (by decide))) | (refine fq.tr ?_ (fq.wl (by decide))) | (refine fq.tr ?_ (fq.wR (by decide))))
  have hb3 : IBeg (wrI C2 67 i 0 (nI 0)) (wrI M2 228 0 i (nI 0)) := by
    intro i' hi'
    obtain ⟨b0, n0, y1, y2, y3, y4, y5, y6, y7, y8, y9⟩ := hb2 i' hi'
    by_cases hii : i' = i
    · rw [hii] at y5 y6 y7 y8 y9 ⊢
      refine ⟨0, n0, by decide, y2, wrI_s, wrI_s, (by first | (simp (disch := first | omega | assumption) only [y5, wrI_s, wrI_o, wrI_r, wrL_1, wrL_r, wrL_s, wrL_o, blk_in, blk_out, blk_r, lit, litL, b00, b11, nI_l, lN_add, lN_mul, lN_sub, nI_add, pk_mul, pk_sub, pk_div, remN, Nat.add_sub_cancel, Nat.add_sub_cancel_left, Nat.zero_add, Nat.add_zero]; done) | (simp (disch := first | omega | assumption) only [y5, wrI_s, wrI_o, wrI_r, wrL_1, wrL_r, wrL_s, wrL_o, blk_in, blk_out, blk_r, lit, litL, b00, b11, nI_l, lN_add, lN_mul, lN_sub, nI_add, pk_mul, pk_sub, pk_div, remN, Nat.add_sub_cancel, Nat.add_sub_cancel_left, Nat.zero_add, Nat.add_zero]; rfl) | rfl), (by first | (simp (disch := first | omega | assumption) only [y6, wrI_s, wrI_o, wrI_r, wrL_1, wrL_r, wrL_s, wrL_o, blk_in, blk_out, blk_r, lit, litL, b00, b11, nI_l, lN_add, lN_mul, lN_sub, nI_add, pk_mul, pk_sub, pk_div, remN, Nat.add_sub_cancel, Nat.add_sub_cancel_left, Nat.zero_add, Nat.add_zero]; done) | (simp (disch := first | omega | assumption) only [y6, wrI_s, wrI_o, wrI_r, wrL_1, wrL_r, wrL_s, wrL_o, blk_in, blk_out, blk_r, lit, litL, b00, b11, nI_l, lN_add, lN_mul, lN_sub, nI_add, pk_mul, pk_sub, pk_div, remN, Nat.add_sub_cancel, Nat.add_sub_cancel_left, Nat.zero_add, Nat.add_zero]; rfl) | rfl), (by first | (simp (disch := first | omega | assumption) only [y7, wrI_s, wrI_o, wrI_r, wrL_1, wrL_r, wrL_s, wrL_o, blk_in, blk_out, blk_r, lit, litL, b00, b11, nI_l, lN_add, lN_mul, lN_sub, nI_add, pk_mul, pk_sub, pk_div, remN, Nat.add_sub_cancel, Nat.add_sub_cancel_left, Nat.zero_add, Nat.add_zero]; done) | (simp (disch := first | omega | assumption) only [y7, wrI_s, wrI_o, wrI_r, wrL_1, wrL_r, wrL_s, wrL_o, blk_in, blk_out, blk_r, lit, litL, b00, b11, nI_l, lN_add, lN_mul, lN_sub, nI_add, pk_mul, pk_sub, pk_div, remN, Nat.add_sub_cancel, Nat.add_sub_cancel_left, Nat.zero_add, Nat.add_zero]; rfl) | rfl), (by first | (simp (disch := first | omega | assumption) only [y8, wrI_s, wrI_o, wrI_r, wrL_1, wrL_r, wrL_s, wrL_o, blk_in, blk_out, blk_r, lit, litL, b00, b11, nI_l, lN_add, lN_mul, lN_sub, nI_add, pk_mul, pk_sub, pk_div, remN, Nat.add_sub_cancel, Nat.add_sub_cancel_left, Nat.zero_add, Nat.add_zero]; done) | (simp (disch := first | omega | assumption) only [y8, wrI_s, wrI_o, wrI_r, wrL_1, wrL_r, wrL_s, wrL_o, blk_in, blk_out, blk_r, lit, litL, b00, b11, nI_l, lN_add, lN_mul, lN_sub, nI_add, pk_mul, pk_sub, pk_div, remN, Nat.add_sub_cancel, Nat.add_sub_cancel_left, Nat.zero_add, Nat.add_zero]; rfl) | rfl), fun j hj => ?_⟩
      rw [wrI_ne (by decide), wrI_ne (by decide)]
      exact y9 j hj
    · refine ⟨b0, n0, y1, y2, (by first | (simp (disch := first | omega | assumption) only [y3, wrI_s, wrI_o, wrI_r, wrL_1, wrL_r, wrL_s, wrL_o, blk_in, blk_out, blk_r, lit, litL, b00, b11, nI_l, lN_add, lN_mul, lN_sub, nI_add, pk_mul, pk_sub, pk_div, remN, Nat.add_sub_cancel, Nat.add_sub_cancel_left, Nat.zero_add, Nat.add_zero]; done) | (simp (disch := first | omega | assumption) only [y3, wrI_s, wrI_o, wrI_r, wrL_1, wrL_r, wrL_s, wrL_o, blk_in, blk_out, blk_r, lit, litL, b00, b11, nI_l, lN_add, lN_mul, lN_sub, nI_add, pk_mul, pk_sub, pk_div, remN, Nat.add_sub_cancel, Nat.add_sub_cancel_left, Nat.zero_add, Nat.add_zero]; rfl) | rfl), (by first | (simp (disch := first | omega | assumption) only [y4, wrI_s, wrI_o, wrI_r, wrL_1, wrL_r, wrL_s, wrL_o, blk_in, blk_out, blk_r, lit, litL, b00, b11, nI_l, lN_add, lN_mul, lN_sub, nI_add, pk_mul, pk_sub, pk_div, remN, Nat.add_sub_cancel, Nat.add_sub_cancel_left, Nat.zero_add, Nat.add_zero]; done) | (simp (disch := first | omega | assumption) only [y4, wrI_s, wrI_o, wrI_r, wrL_1, wrL_r, wrL_s, wrL_o, blk_in, blk_out, blk_r, lit, litL, b00, b11, nI_l, lN_add, lN_mul, lN_sub, nI_add, pk_mul, pk_sub, pk_div, remN, Nat.add_sub_cancel, Nat.add_sub_cancel_left, Nat.zero_add, Nat.add_zero]; rfl) | rfl), (by first | (simp (disch := first | omega | assumption) only [y5, wrI_s, wrI_o, wrI_r, wrL_1, wrL_r, wrL_s, wrL_o, blk_in, blk_out, blk_r, lit, litL, b00, b11, nI_l, lN_add, lN_mul, lN_sub, nI_add, pk_mul, pk_sub, pk_div, remN, Nat.add_sub_cancel, Nat.add_sub_cancel_left, Nat.zero_add, Nat.add_zero]; done) | (simp (disch := first | omega | assumption) only [y5, wrI_s, wrI_o, wrI_r, wrL_1, wrL_r, wrL_s, wrL_o, blk_in, blk_out, blk_r, lit, litL, b00, b11, nI_l, lN_add, lN_mul, lN_sub, nI_add, pk_mul, pk_sub, pk_div, remN, Nat.add_sub_cancel, Nat.add_sub_cancel_left, Nat.zero_add, Nat.add_zero]; rfl) | rfl), (by first | (simp (disch := first | omega | assumption) only [y6, wrI_s, wrI_o, wrI_r, wrL_1, wrL_r, wrL_s, wrL_o, blk_in, blk_out, blk_r, lit, litL, b00, b11, nI_l, lN_add, lN_mul, lN_sub, nI_add, pk_mul, pk_sub, pk_div, remN, Nat.add_sub_cancel, Nat.add_sub_cancel_left, Nat.zero_add, Nat.add_zero]; done) | (simp (disch := first | omega | assumption) only [y6, wrI_s, wrI_o, wrI_r, wrL_1, wrL_r, wrL_s, wrL_o, blk_in, blk_out, blk_r, lit, litL, b00, b11, nI_l, lN_add, lN_mul, lN_sub, nI_add, pk_mul, pk_sub, pk_div, remN, Nat.add_sub_cancel, Nat.add_sub_cancel_left, Nat.zero_add, Nat.add_zero]; rfl) | rfl), (by first | (simp (disch := first | omega | assumption) only [y7, wrI_s, wrI_o, wrI_r, wrL_1, wrL_r, wrL_s, wrL_o, blk_in, blk_out, blk_r, lit, litL, b00, b11, nI_l, lN_add, lN_mul, lN_sub, nI_add, pk_mul, pk_sub, pk_div, remN, Nat.add_sub_cancel, Nat.add_sub_cancel_left, Nat.zero_add, Nat.add_zero]; done) | (simp (disch := first | omega | assumption) only [y7, wrI_s, wrI_o, wrI_r, wrL_1, wrL_r, wrL_s, wrL_o, blk_in, blk_out, blk_r, lit, litL, b00, b11, nI_l, lN_add, lN_mul, lN_sub, nI_add, pk_mul, pk_sub, pk_div, remN, Nat.add_sub_cancel, Nat.add_sub_cancel_left, Nat.zero_add, Nat.add_zero]; rfl) | rfl), (by first | (simp (disch := first | omega | assumption) only [y8, wrI_s, wrI_o, wrI_r, wrL_1, wrL_r, wrL_s, wrL_o, blk_in, blk_out, blk_r, lit, litL, b00, b11, nI_l, lN_add, lN_mul, lN_sub, nI_add, pk_mul, pk_sub, pk_div, remN, Nat.add_sub_cancel, Nat.add_sub_cancel_left, Nat.zero_add, Nat.add_zero]; done) | (simp (disch := first | omega | assumption) only [y8, wrI_s, wrI_o, wrI_r, wrL_1, wrL_r, wrL_s, wrL_o, blk_in, blk_out, blk_r, lit, litL, b00, b11, nI_l, lN_add, lN_mul, lN_sub, nI_add, pk_mul, pk_sub, pk_div, remN, Nat.add_sub_cancel, Nat.add_sub_cancel_left, Nat.zero_add, Nat.add_zero]; rfl) | rfl), fun j hj => ?_⟩
      rw [wrI_ne (by decide), wrI_ne (by decide)]
      exact y9 j hj
  have hT3 := x2.beg fC3 gM3 hb3
  have N3 := N2.fr (fC3.up (by decide)) (gM3.up (by decide))
  obtain ⟨b0, len, y1, y2, y3, y4, y5, y6, y7, y8, y9⟩ := hb3 i hi
  generalize hC3 : wrI C2 67 i 0 (nI 0) = C3 at *
  generalize hM3 : wrI M2 228 0 i (nI 0) = M3 at *
  have preC4 : ∀ X, (if nI len < 8 then (L_X11_takeSealed_170 C3) else (cl (F_X2_hasHead 25 i 0 8 0 C3) fun r21 S22 => if r21 = 0 then (L_X11_takeSealed_170 S22) else (some (1, S22)))) = X → F_X11_takeSealed a i 27 R C = X := by
    intro X hX
    refine preC3 _ (e_N (by rw [hz21]; decide) (e_ldP (j := 1) rfl ho (by decide) (by decide) (c27' 1 (by omega)) (e_T h4 (e_pf (w := nI 0) rfl ?_))))
    rw [hC3]
    exact e_gf y7 hX
  have preM4 : ∀ X, (cl (F_X12_whole (nI i) (nI k) (nI a) M3) fun r29 S30 => some ((), S30)) = X → L_X12_opens_11 (nI i) (nI k) (nI a) M = X := by
    intro X hX
    refine preM3 _ ((x6 hz21).trans (e_ldA (j := 1) rfl (by decide) (by decide) (by decide) (m278'' 1 (by omega)) (e_T h4 (e_stA rfl hi (by decide) (by decide) (w := nI 0) (by decide) ?_))))
    rw [hM3]
    exact hX
  obtain ⟨w1, w2⟩ := whM (k := k) (a := a) N3 h28 hi y2 y8
  have fC4 : fq tkC C C3 := fC2.tr (fC3.up (by decide))
  have gM4 : fq tkM M M3 := gM2.tr (gM3.up (by decide))
  by_cases h8 : 8 ≤ len
  case neg =>
    refine ⟨0, C3, M3, by decide, preC4 _ (e_T (by first | (simp (disch := first | omega | assumption) only [wrI_s, wrI_o, wrI_r, wrL_1, wrL_r, wrL_s, wrL_o, blk_in, blk_out, blk_r, lit, litL, b00, b11, nI_l, lN_add, lN_mul, lN_sub, nI_add, pk_mul, pk_sub, pk_div, remN, Nat.add_sub_cancel, Nat.add_sub_cancel_left, Nat.zero_add, Nat.add_zero, nI_eq, nI_leI, nI_ltI, nI_m1, m1_lt, neg_lt, neg_le, neg_ge, neg_gt, neg_eq, not_true, not_false_iff]; done) | (simp (disch := first | omega | assumption) only [wrI_s, wrI_o, wrI_r, wrL_1, wrL_r, wrL_s, wrL_o, blk_in, blk_out, blk_r, lit, litL, b00, b11, nI_l, lN_add, lN_mul, lN_sub, nI_add, pk_mul, pk_sub, pk_div, remN, Nat.add_sub_cancel, Nat.add_sub_cancel_left, Nat.zero_add, Nat.add_zero, nI_eq, nI_leI, nI_ltI, nI_m1, m1_lt, neg_lt, neg_le, neg_ge, neg_gt, neg_eq, not_true, not_false_iff]; omega)) rfl), hT3, fC4, gM4, fun _ => preM4 _ (e_cl (w2 (fun z => h8 z.1)) rfl), fun z => absurd z (by decide)⟩
  have hh := hhC (c := 25) (i := i) (a := 0) (x := 8) (y := 0) (S := C3) (okP_n (by decide) hi) (by decide) (by decide)
  have rd : ∀ j, j < 8 → rdI C3 25 i (0 + j) = M3.1 232 0 (208 * i + j) := fun j hj => by
    show C3.1 25 i (0 + j) = _
    rw [Nat.zero_add]
    exact (y9 j (by omega)).2
  have iff1 : ((∀ j, j < 6 → rdI C3 25 i (0 + j) = sc 191 j) ∧ rdI C3 25 i (0 + 6) = nI 8 ∧ rdI C3 25 i (0 + 7) = nI 0) ↔ hd8 M3 i len := by
    rw [rd 6 (by decide), rd 7 (by decide)]
    unfold hd8
    constructor
    · rintro ⟨z1, z2, z3⟩
      have e : ∀ j, j < 6 → M3.1 232 0 (208 * i + j) = sc 191 j := fun j hj => by rw [← rd j (by omega)]; exact z1 j hj
      exact ⟨h8, e 0 (by decide), e 1 (by decide), e 2 (by decide), e 3 (by decide), e 4 (by decide), e 5 (by decide), z2, z3⟩
    · rintro ⟨-, k0, k1, k2, k3, k4, k5, k6, k7⟩
      refine ⟨fun j hj => ?_, k6, k7⟩
      rw [rd j (by omega)]
      have : j = 0 ∨ j = 1 ∨ j = 2 ∨ j = 3 ∨ j = 4 ∨ j = 5 := by omega
      rcases this with rfl | rfl | rfl | rfl | rfl | rfl
      · exact k0
      · exact k1
      · exact k2
      · exact k3
      · exact k4
      · exact k5
  by_cases hp : hd8 M3 i len
  · exact ⟨1, C3, M3, by decide, preC4 _ (e_N (by first | (simp (disch := first | omega | assumption) only [wrI_s, wrI_o, wrI_r, wrL_1, wrL_r, wrL_s, wrL_o, blk_in, blk_out, blk_r, lit, litL, b00, b11, nI_l, lN_add, lN_mul, lN_sub, nI_add, pk_mul, pk_sub, pk_div, remN, Nat.add_sub_cancel, Nat.add_sub_cancel_left, Nat.zero_add, Nat.add_zero, nI_eq, nI_leI, nI_ltI, nI_m1, m1_lt, neg_lt, neg_le, neg_ge, neg_gt, neg_eq, not_true, not_false_iff]; done) | (simp (disch := first | omega | assumption) only [wrI_s, wrI_o, wrI_r, wrL_1, wrL_r, wrL_s, wrL_o, blk_in, blk_out, blk_r, lit, litL, b00, b11, nI_l, lN_add, lN_mul, lN_sub, nI_add, pk_mul, pk_sub, pk_div, remN, Nat.add_sub_cancel, Nat.add_sub_cancel_left, Nat.zero_add, Nat.add_zero, nI_eq, nI_leI, nI_ltI, nI_m1, m1_lt, neg_lt, neg_le, neg_ge, neg_gt, neg_eq, not_true, not_false_iff]; omega)) (e_cl (hh.1 (iff1.mpr hp)) (e_N (by decide) rfl))), hT3, fC4, gM4, fun z => absurd z (by decide), fun _ => ⟨len, h8, y2, y7, y8, hp.2.2.2.2.2.2.2.1, preM4 _ (by rw [w1 hp])⟩⟩
  · exact ⟨0, C3, M3, by decide, preC4 _ (e_N (by first | (simp (disch := first | omega | assumption) only [wrI_s, wrI_o, wrI_r, wrL_1, wrL_r, wrL_s, wrL_o, blk_in, blk_out, blk_r, lit, litL, b00, b11, nI_l, lN_add, lN_mul, lN_sub, nI_add, pk_mul, pk_sub, pk_div, remN, Nat.add_sub_cancel, Nat.add_sub_cancel_left, Nat.zero_add, Nat.add_zero, nI_eq, nI_leI, nI_ltI, nI_m1, m1_lt, neg_lt, neg_le, neg_ge, neg_gt, neg_eq, not_true, not_false_iff]; done) | (simp (disch := first | omega | assumption) only [wrI_s, wrI_o, wrI_r, wrL_1, wrL_r, wrL_s, wrL_o, blk_in, blk_out, blk_r, lit, litL, b00, b11, nI_l, lN_add, lN_mul, lN_sub, nI_add, pk_mul, pk_sub, pk_div, remN, Nat.add_sub_cancel, Nat.add_sub_cancel_left, Nat.zero_add, Nat.add_zero, nI_eq, nI_leI, nI_ltI, nI_m1, m1_lt, neg_lt, neg_le, neg_ge, neg_gt, neg_eq, not_true, not_false_iff]; omega)) (e_cl (hh.2 (fun z => hp (iff1.mp z))) (e_T rfl rfl))), hT3, fC4, gM4, fun _ => preM4 _ (e_cl (w2 hp) rfl), fun z => absurd z (by decide)⟩
