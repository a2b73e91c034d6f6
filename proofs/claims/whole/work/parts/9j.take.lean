/-! THE NEWEST FRAME WAS CLEAN: it is taken, or not, both sides -/
theorem takA {s R n sd w e t : Nat} {b : Nat → Nat} {C M : Mm} (h : TT (s + 1) w e t C M) (hN : NB s R n sd b C M) (hs : s < 2 ^ 28) (hw : w < 2 ^ 29) (ht : t < 2 ^ 29) : ∃ r C1 C' M', F_X11_takeFrame C = some (r, C1) ∧ ((r = -nI 1 ∧ C' = C1) ∨ (∃ a, a < 9 ∧ r = nI a ∧ ∀ K, actK K a C1 = K C')) ∧ L_X12_over_173 (nI sd) 1 fu 0 M = some ((), M') ∧ TT (s + 1) w e (t + 1) C' M' ∧ fq tkC C C' ∧ fq tkM M M' := by
  obtain ⟨nb1, nb2, nb3⟩ := nbC hN
  have hN2 := hN
  obtain ⟨g1, g2, g3, g4, g5, g6, g7, g8, g9, g10, g11, g12, g13, g14⟩ := hN
  have q0 := g5 0
  have h' := h
  obtain ⟨hIDraw, hIPar, hISub, hIKey, hIRef, hISta, hILnk, hIBeg, hIQue, hIHnd, hICon, hIDue, hIWai, hISnd, hILat, hIInb⟩ := h'
  by_cases tk : takP b n
  case neg =>
    refine ⟨-nI 1, C, C, M, ?_, Or.inl ⟨rfl, rfl⟩, ovL0 hN2 (fun z => tk z.1), h.up, fq.rf, fq.rf⟩
    unfold F_X11_takeFrame
    exact e_cl nb1 (e_nn g1 (e_cl nb2 (e_cl ((takQC hN2).2 tk) (e_T rfl rfl))))
  have hn14 := tk.1
  have ndc := ndC (C := C) (R := R) (p := 4) (b := fun j => b (4 + j)) g1 (by decide) (fun j hj => g10 (4 + j) (by omega)) (fun j _ => g5 _)
  have preC : ∀ X, (cl (F_X2_nodeAt 27 R 4 C) fun r11 S12 => if r11 = (-1) then (L_X11_takeFrame_46 S12) else (cl (F_X5_newestSender S12) fun r14 S15 => if r11 = r14 then (L_X11_takeFrame_46 S15) else (ldR S15 52 0 9 1 r11 9 fun i17 => ldA S15 27 R 300 40 0 fun x18 => if x18 = 212 then (cl (F_X11_takeAck i17 S15) fun r30 S31 => some ((-1), S31)) else (gf S15 76 0 fun x19 => pf S15 94 i17 (x19 + 2) fun S20 => pf S20 95 i17 1 fun S21 => lnP false 39 i17 fun x22 => cpP false S21 27 R 10 39 i17 0 x22 fun S23 => cl (F_X2_nodeAt 27 R 10 S23) fun r24 S25 => if r24 = (-1) then (L_X11_takeFrame_129 S25) else (cl (F_X7_dropsAgain i17 27 R r24 S25) fun r27 S28 => if r27 = 0 then (if r11 = 0 then (L_X11_takeFrame_140 r11 r24 1 S28) else (L_X11_takeFrame_140 r11 r24 0 S28)) else (L_X11_takeFrame_129 S28)))))) = X → F_X11_takeFrame C = X := by
    intro X hX
    unfold F_X11_takeFrame
    exact e_cl nb1 (e_nn g1 (e_cl nb2 (e_cl ((takQC hN2).1 tk) (e_N (by decide) hX))))
  by_cases ok4 : adOk (fun j => b (4 + j))
  case neg =>
    refine ⟨-nI 1, C, C, M, preC _ (e_cl (ndc.2 ok4) (e_T rfl rfl)), Or.inl ⟨rfl, rfl⟩, ovL0 hN2 (fun z => ok4 z.2.1), h.up, fq.rf, fq.rf⟩
  have h9 : b 9 < 9 := ok4.2.2.2.2.2
  have ndc4 : F_X2_nodeAt 27 R 4 C = some (nI (b 9), C) := ndc.1 ok4
  have nm9 : ¬ nI (b 9) = (-1) := fun z => absurd z (by rw [show (-1 : Int32) = -nI 1 from rfl, nI_m1 (by omega)]; exact id)
  by_cases hsd : b 9 = sd
  · refine ⟨-nI 1, C, C, M, preC _ (e_cl ndc4 (e_N nm9 (e_cl nb3 (e_T (by rw [hsd]) rfl)))), Or.inl ⟨rfl, rfl⟩, ovL0 hN2 (fun z => z.2.2 hsd), h.up, fq.rf, fq.rf⟩
  have preC2 : ∀ X, (if nI (b 0) = 212 then (cl (F_X11_takeAck (b 9) C) fun r30 S31 => some ((-1), S31)) else (gf C 76 0 fun x19 => pf C 94 (b 9) (x19 + 2) fun S20 => pf S20 95 (b 9) 1 fun S21 => lnP false 39 (b 9) fun x22 => cpP false S21 27 R 10 39 (b 9) 0 x22 fun S23 => cl (F_X2_nodeAt 27 R 10 S23) fun r24 S25 => if r24 = (-1) then (L_X11_takeFrame_129 S25) else (cl (F_X7_dropsAgain (b 9) 27 R r24 S25) fun r27 S28 => if r27 = 0 then (if nI (b 9) = 0 then (L_X11_takeFrame_140 (nI (b 9)) r24 1 S28) else (L_X11_takeFrame_140 (nI (b 9)) r24 0 S28)) else (L_X11_takeFrame_129 S28)))) = X → F_X11_takeFrame C = X := by
    intro X hX
    exact preC _ (e_cl ndc4 (e_N nm9 (e_cl nb3 (e_N (by rw [nI_eq (by omega) (by omega)]; exact hsd) (e_ldR rfl h9 (by decide) (by decide) (hIRef.1 (b 9) h9).1 h9 (e_ldA (j := 0) rfl (by decide) g1 (by decide) (g10 0 (by omega)) hX))))))
  have sdne : ¬ b 9 = sd := hsd
  by_cases hack : b 0 = 212
  · obtain ⟨C', M', e1, e2, e3, e4, e5⟩ := tAck (k := b 9) h hs hw h9 g13 g14
    refine ⟨-nI 1, C', C', M', preC2 _ (e_T (by rw [hack]; rfl) (e_cl e1 rfl)), Or.inl ⟨rfl, rfl⟩, ovL1 (C' := C') hN2 (hN2.fr e4 e5) tk ok4 rfl sdne ?_, e3.up, e4, e5⟩
    unfold lkB
    exact e_ldA (j := 0) rfl (by decide) (by decide) (by decide) (g12 0 (by omega)) (e_T (by rw [hack]; rfl) (e_cl e2 rfl))
  have h28 : 28 ≤ n := by
    rcases tk.2.1 with z | z | z
    · omega
    · exact z.1
    · exact z.1
  obtain ⟨hTd, fD, gD⟩ := dueT (a := b 9) (b := b) h h9 g5
  have ND := hN2.fr (fD.up (by decide)) (gD.up (by decide))
  have eDue : ∀ (X : Option (Int32 × Mm)), (cl (F_X2_nodeAt 27 R 10 (dueC C (b 9) s b)) fun r24 S25 => if r24 = (-1) then (L_X11_takeFrame_129 S25) else (cl (F_X7_dropsAgain (b 9) 27 R r24 S25) fun r27 S28 => if r27 = 0 then (if nI (b 9) = 0 then (L_X11_takeFrame_140 (nI (b 9)) r24 1 S28) else (L_X11_takeFrame_140 (nI (b 9)) r24 0 S28)) else (L_X11_takeFrame_129 S28))) = X → F_X11_takeFrame C = X := by
    intro X hX
    refine preC2 _ (e_N (by first | (simp (disch := first | omega | assumption) only [wrI_s, wrI_o, wrI_r, wrL_1, wrL_r, wrL_s, wrL_o, blk_in, blk_out, blk_r, lit, litL, b00, b11, nI_l, lN_add, lN_mul, lN_sub, nI_add, pk_mul, pk_sub, pk_div, remN, Nat.add_sub_cancel, Nat.add_sub_cancel_left, Nat.zero_add, Nat.add_zero, nI_eq, nI_leI, nI_ltI, nI_m1, m1_lt, neg_lt, neg_le, neg_ge, neg_gt, neg_eq, not_true, not_false_iff]; done) | (simp (disch := first | omega | assumption) only [wrI_s, wrI_o, wrI_r, wrL_1, wrL_r, wrL_s, wrL_o, blk_in, blk_out, blk_r, lit, litL, b00, b11, nI_l, lN_add, lN_mul, lN_sub, nI_add, pk_mul, pk_sub, pk_div, remN, Nat.add_sub_cancel, Nat.add_sub_cancel_left, Nat.zero_add, Nat.add_zero, nI_eq, nI_leI, nI_ltI, nI_m1, m1_lt, neg_lt, neg_le, neg_ge, neg_gt, neg_eq, not_true, not_false_iff]; omega)) (e_gf g13 (e_pf (w := nI (s + 2)) (by first | (simp (disch := first | omega | assumption) only [wrI_s, wrI_o, wrI_r, wrL_1, wrL_r, wrL_s, wrL_o, blk_in, blk_out, blk_r, lit, litL, b00, b11, nI_l, lN_add, lN_mul, lN_sub, nI_add, pk_mul, pk_sub, pk_div, remN, Nat.add_sub_cancel, Nat.add_sub_cancel_left, Nat.zero_add, Nat.add_zero]; done) | (simp (disch := first | omega | assumption) only [wrI_s, wrI_o, wrI_r, wrL_1, wrL_r, wrL_s, wrL_o, blk_in, blk_out, blk_r, lit, litL, b00, b11, nI_l, lN_add, lN_mul, lN_sub, nI_add, pk_mul, pk_sub, pk_div, remN, Nat.add_sub_cancel, Nat.add_sub_cancel_left, Nat.zero_add, Nat.add_zero]; rfl) | rfl) (e_pf (w := nI 1) rfl ?_))))
    rw [lnP_eq (okP_n (by decide) h9), show nI (kn 39) = nI 6 from rfl, show (10 : Int32) = nI 10 from rfl, show (0 : Int32) = nI 0 from rfl, cpP_n (c0 := 27) (c1 := 39) (sp := 10) (dp := 0) (n := 6) (okP_n (by decide) g1) (okW_n (by decide) h9) (by decide) (by decide) (by decide) (by decide)]
    have e : blk (wrI (wrI C 94 (b 9) 0 (nI (s + 2))) 95 (b 9) 0 (nI 1)) 39 (b 9) 0 6 (fun k => rdI (wrI (wrI C 94 (b 9) 0 (nI (s + 2))) 95 (b 9) 0 (nI 1)) 27 R (10 + k)) = dueC C (b 9) s b := by
      unfold dueC
      refine Mm_ext (fun x y z => ?_) rfl
      show (if x = 39 ∧ y = b 9 ∧ 0 ≤ z ∧ z < 0 + 6 then rdI (wrI (wrI C 94 (b 9) 0 (nI (s + 2))) 95 (b 9) 0 (nI 1)) 27 R (10 + (z - 0)) else _) = if x = 39 ∧ y = b 9 ∧ 0 ≤ z ∧ z < 0 + 6 then nI (b (10 + (z - 0))) else _
      by_cases hc : x = 39 ∧ y = b 9 ∧ 0 ≤ z ∧ z < 0 + 6
      · rw [if_pos hc, if_pos hc]
        show (wrI (wrI C 94 (b 9) 0 (nI (s + 2))) 95 (b 9) 0 (nI 1)).1 27 R (10 + (z - 0)) = _
        rw [wrI_ne (by decide), wrI_ne (by decide)]
        exact g10 _ (by omega)
      · rw [if_neg hc, if_neg hc]
    rw [e]
    exact hX
  obtain ⟨m, eL⟩ := lk66 (a := b 9) hN2 h28 h9
  have eLk : ∀ X, (cl (F_X12_nodeAt 10 (dueM M (b 9) s b)) fun r18 S19 => if 0 ≤ r18 then (ldA S19 278 0 300 1 22 fun x21 => ldA S19 278 0 300 1 23 fun x22 => tp (x21 ||| (x22 <<< (8 &&& 31))) fun x23 => tp ((9 * nI (b 9)) + r18) fun x24 => ldA S19 278 0 300 1 1 fun x25 => if (x25 &&& 8) = 0 then (L_X12_look_191 (nI (b 9)) r18 x23 x24 S19) else (ldA S19 280 0 81 1 x24 fun x26 => if x26 = 0 then (L_X12_look_191 (nI (b 9)) r18 x23 x24 S19) else (ldA S19 279 0 81 1 x24 fun x27 => if x27 = x23 then (ldA S19 281 0 9 1 (nI (b 9)) fun x28 => stA S19 281 0 9 1 (nI (b 9)) (x28 + 1) fun S29 => some ((), S29)) else (L_X12_look_191 (nI (b 9)) r18 x23 x24 S19)))) else (some ((), S19))) = X → lkB (b 9) M = X := by
    intro X hX
    unfold lkB
    refine e_ldA (j := 0) rfl (by decide) (by decide) (by decide) (g12 0 (by omega)) (e_N (by first | (simp (disch := first | omega | assumption) only [wrI_s, wrI_o, wrI_r, wrL_1, wrL_r, wrL_s, wrL_o, blk_in, blk_out, blk_r, lit, litL, b00, b11, nI_l, lN_add, lN_mul, lN_sub, nI_add, pk_mul, pk_sub, pk_div, remN, Nat.add_sub_cancel, Nat.add_sub_cancel_left, Nat.zero_add, Nat.add_zero, nI_eq, nI_leI, nI_ltI, nI_m1, m1_lt, neg_lt, neg_le, neg_ge, neg_gt, neg_eq, not_true, not_false_iff]; done) | (simp (disch := first | omega | assumption) only [wrI_s, wrI_o, wrI_r, wrL_1, wrL_r, wrL_s, wrL_o, blk_in, blk_out, blk_r, lit, litL, b00, b11, nI_l, lN_add, lN_mul, lN_sub, nI_add, pk_mul, pk_sub, pk_div, remN, Nat.add_sub_cancel, Nat.add_sub_cancel_left, Nat.zero_add, Nat.add_zero, nI_eq, nI_leI, nI_ltI, nI_m1, m1_lt, neg_lt, neg_le, neg_ge, neg_gt, neg_eq, not_true, not_false_iff]; omega)) (e_stA rfl h9 (by decide) (by decide) (w := nI 1) rfl (e_gf (v := nI s) (by first | (simp (disch := first | omega | assumption) only [g14, wrI_s, wrI_o, wrI_r, wrL_1, wrL_r, wrL_s, wrL_o, blk_in, blk_out, blk_r, lit, litL, b00, b11, nI_l, lN_add, lN_mul, lN_sub, nI_add, pk_mul, pk_sub, pk_div, remN, Nat.add_sub_cancel, Nat.add_sub_cancel_left, Nat.zero_add, Nat.add_zero]; done) | (simp (disch := first | omega | assumption) only [g14, wrI_s, wrI_o, wrI_r, wrL_1, wrL_r, wrL_s, wrL_o, blk_in, blk_out, blk_r, lit, litL, b00, b11, nI_l, lN_add, lN_mul, lN_sub, nI_add, pk_mul, pk_sub, pk_div, remN, Nat.add_sub_cancel, Nat.add_sub_cancel_left, Nat.zero_add, Nat.add_zero]; rfl) | rfl) (e_stA rfl h9 (by decide) (by decide) (w := nI (s + 2)) (by first | (simp (disch := first | omega | assumption) only [wrI_s, wrI_o, wrI_r, wrL_1, wrL_r, wrL_s, wrL_o, blk_in, blk_out, blk_r, lit, litL, b00, b11, nI_l, lN_add, lN_mul, lN_sub, nI_add, pk_mul, pk_sub, pk_div, remN, Nat.add_sub_cancel, Nat.add_sub_cancel_left, Nat.zero_add, Nat.add_zero]; done) | (simp (disch := first | omega | assumption) only [wrI_s, wrI_o, wrI_r, wrL_1, wrL_r, wrL_s, wrL_o, blk_in, blk_out, blk_r, lit, litL, b00, b11, nI_l, lN_add, lN_mul, lN_sub, nI_add, pk_mul, pk_sub, pk_div, remN, Nat.add_sub_cancel, Nat.add_sub_cancel_left, Nat.zero_add, Nat.add_zero]; rfl) | rfl) ?_))))
    rw [eL, L_X12_look_66]
    exact e_T (by decide) (e_stL rfl h9 (by decide) (by decide) rfl hX)
  have ndcD := ndC (C := dueC C (b 9) s b) (R := R) (p := 10) (b := fun j => b (10 + j)) g1 (by decide) (fun j hj => ND.2.2.2.2.2.2.2.2.2.1 (10 + j) (by omega)) (fun j _ => g5 _)
  have ndmD := ndM (M := dueM M (b 9) s b) (p := 10) (b := fun j => b (10 + j)) (by decide) (fun j hj => ND.2.2.2.2.2.2.2.2.2.2.2.1 (10 + j) (by omega)) (fun j _ => g5 _)
  by_cases ok10 : adOk (fun j => b (10 + j))
  case neg =>
    refine ⟨-nI 1, _, _, _, eDue _ (e_cl (ndcD.2 ok10) (e_T rfl rfl)), Or.inl ⟨rfl, rfl⟩, ovL1 hN2 ND tk ok4 rfl sdne (eLk _ (e_cl (ndmD.2 ok10) (e_N (by decide) rfl))), hTd.up, fD.up (by decide), gD.up (by decide)⟩
  have hf : b 15 < 9 := ok10.2.2.2.2.2
  have ndc10 : F_X2_nodeAt 27 R 10 (dueC C (b 9) s b) = some (nI (b 15), dueC C (b 9) s b) := ndcD.1 ok10
  have ndm10 : F_X12_nodeAt 10 (dueM M (b 9) s b) = some (nI (b 15), dueM M (b 9) s b) := ndmD.1 ok10
  have nm15 : ¬ nI (b 15) = (-1) := fun z => absurd z (by rw [show (-1 : Int32) = -nI 1 from rfl, nI_m1 (by omega)]; exact id)
  obtain ⟨z, C2, M2, hz, u1, u2, u3, u4, u5, u6⟩ := drpT (a := b 9) (f := b 15) hTd ND h28 h9 hf
  have N2 := ND.fr (u5.up (by decide)) (u6.up (by decide))
  have fC2 : fq tkC C C2 := (fD.up (by decide)).tr (u5.up (by decide))
  have gM2 : fq tkM M M2 := (gD.up (by decide)).tr (u6.up (by decide))
  have eC2 : ∀ X, (if nI z = 0 then (if nI (b 9) = 0 then (L_X11_takeFrame_140 (nI (b 9)) (nI (b 15)) 1 C2) else (L_X11_takeFrame_140 (nI (b 9)) (nI (b 15)) 0 C2)) else (L_X11_takeFrame_129 C2)) = X → F_X11_takeFrame C = X := by
    intro X hX
    exact eDue _ (e_cl ndc10 (e_N nm15 (e_cl u1 hX)))
  have eM2 : ∀ X, lkD (b 9) (b 15) (dueM M (b 9) s b) = X → lkB (b 9) M = X := by
    intro X hX
    refine eLk _ (e_cl ndm10 (e_T (nI_pos' (by omega)) ?_))
    unfold lkD at hX
    exact hX
  by_cases hz1 : z = 1
  · refine ⟨-nI 1, C2, C2, M2, eC2 _ (e_N (by rw [hz1]; decide) rfl), Or.inl ⟨rfl, rfl⟩, ovL1 hN2 N2 tk ok4 rfl sdne (eM2 _ (u2 hz1)), u4.up, fC2, gM2⟩
  have hz0 : z = 0 := by omega
  have e140 : ∀ (X : Option (Int32 × Mm)) (p q : Nat), (p = if b 9 = 0 then 1 else 0) → (q = if b 15 = 0 then 1 else 0) → (if nI p = nI q then (some ((-1), C2)) else (some (nI (b 9), C2))) = X → F_X11_takeFrame C = X := by
    intro X p q hp hq hX
    refine eC2 _ (e_T (by rw [hz0]; rfl) ?_)
    unfold L_X11_takeFrame_140 L_X11_takeFrame_150
    by_cases p0 : b 9 = 0
    · rw [if_pos p0] at hp
      refine e_T (by rw [p0]; rfl) ?_
      by_cases q0' : b 15 = 0
      · rw [if_pos q0'] at hq
        rw [hp, hq] at hX
        exact e_T (by rw [q0']; rfl) hX
      · rw [if_neg q0'] at hq
        rw [hp, hq] at hX
        exact e_N (nI_ne0 (by omega) (by omega)) hX
    · rw [if_neg p0] at hp
      refine e_N (nI_ne0 (by omega) (by omega)) ?_
      by_cases q0' : b 15 = 0
      · rw [if_pos q0'] at hq
        rw [hp, hq] at hX
        exact e_T (by rw [q0']; rfl) hX
      · rw [if_neg q0'] at hq
        rw [hp, hq] at hX
        exact e_N (nI_ne0 (by omega) (by omega)) hX
  by_cases haf : (b 9 = 0 ∧ 1 ≤ b 15) ∨ (1 ≤ b 9 ∧ b 15 = 0)
  · obtain ⟨C3, M3, v1, v2, v3, v4, v5⟩ := actT (a := b 9) (f := b 15) u4 N2 h28 ht h9 hf haf ok10 rfl
    refine ⟨nI (b 9), C2, C3, M3, e140 _ _ _ rfl rfl (e_N ?_ rfl), Or.inr ⟨b 9, h9, rfl, v1⟩, ovL1 hN2 (N2.fr v4 v5) tk ok4 rfl sdne (eM2 _ ((u3 hz0).trans v2)), v3, fC2.tr v4, gM2.tr v5⟩
    rcases haf with ⟨k1, k2⟩ | ⟨k1, k2⟩
    · rw [if_pos k1, if_neg (by omega)]; decide
    · rw [if_neg (by omega), if_pos k2]; decide
  · refine ⟨-nI 1, C2, C2, M2, e140 _ _ _ rfl rfl (e_T ?_ rfl), Or.inl ⟨rfl, rfl⟩, ovL1 hN2 N2 tk ok4 rfl sdne (eM2 _ ((u3 hz0).trans ?_)), u4.up, fC2, gM2⟩
    · by_cases k1 : b 9 = 0
      · rw [if_pos k1, if_pos (by omega)]
      · rw [if_neg k1, if_neg (by omega)]
    · unfold L_X12_look_226
      by_cases k1 : b 9 = 0
      · have k2 : b 15 = 0 := by omega
        exact e_T (by rw [k1]; rfl) (e_T (by rw [k2]; decide) (e_T (by rw [k1]; decide) rfl))
      · exact e_N (nI_ne0 (by omega) (by omega)) (e_N (nI_nle (by omega) (by omega)) (e_N (nI_ne0 (by omega) (by omega)) rfl))
