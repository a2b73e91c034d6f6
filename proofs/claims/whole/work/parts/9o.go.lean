/-! THE CALL go -/
theorem goL {c : Nat} (hc : c ≤ 512) : ∀ left, left ≤ 3000 → ∀ (C M : Mm) (s g l : Nat), s + left < 2 ^ 27 → g + 29 * left < 2 ^ 27 → SS c s s s s s s g l C M → IQui s C M → IAlo g l C M → ∃ C' M' g' l', g' ≤ g + 29 * left ∧ SS c (s + left) (s + left) (s + left) (s + left) (s + left) (s + left) g' l' C' M' ∧ IQui (s + left) C' M' ∧ IAlo g' l' C' M' ∧ (∀ x n, left < n → L_X11_go_23 x n (nI left) C = (gf C' 73 0 fun x2 => some ((x2 - x), C'))) ∧ itM left M = some ((), M') := by
  intro left
  induction left using Nat.strongRecOn with
  | _ left ih =>
    intro hleft C M s g l hs hg hS hQ hA
    by_cases h0 : left = 0
    · subst h0
      refine ⟨C, M, g, l, by omega, hS, hQ, hA, fun x n hn => ?_, rfl⟩
      obtain ⟨m, rfl⟩ : ∃ m, n = m + 1 := ⟨n - 1, by omega⟩
      rw [L_X11_go_23]
      exact e_T (by decide) rfl
    · have hl : l < 2 ^ 20 := by
        have hS2 := hS
        obtain ⟨hITape, hIDraw, hINois, hIPar, hISub, hIKey, hIRef, hISta, hILnk, hIBeg, hIQue, hIHnd, hICon, hIDue, hIWai, hISnd, hISlo, hISto, hIRng, hILiv, hIEnd, hIPut, hILat, hIInb, hICnt, hIAlq⟩ := hS2
        have := live_g hILiv (by omega)
        have := live_lt hS hc (by omega)
        omega
      obtain ⟨a, a1, a2, a3⟩ := idlT hS (by omega) hl hleft
      by_cases ha : 0 < a
      · obtain ⟨b1, b2, b3⟩ := a3 ha
        subst b1
        obtain ⟨M1, g1, e1, e2, e3, e4⟩ := idlL hc hS hQ b2 (a := a) (by omega) (by omega) b3 a (Nat.le_refl a)
        obtain ⟨C', M', g', l', k1, k2, k3, k4, k5, k6⟩ := ih (left - a) (by omega) (by omega) _ M1 (s + a) g1 0 (by omega) (by omega) e3 e4 (fun v hv => absurd hv (by omega))
        rw [show s + a + (left - a) = s + left by omega] at k2 k3
        have h76 : C.1 76 0 0 = nI s := by
          have hS2 := hS
          obtain ⟨hITape, hIDraw, hINois, hIPar, hISub, hIKey, hIRef, hISta, hILnk, hIBeg, hIQue, hIHnd, hICon, hIDue, hIWai, hISnd, hISlo, hISto, hIRng, hILiv, hIEnd, hIPut, hILat, hIInb, hICnt, hIAlq⟩ := hS2
          exact hISlo.1
        refine ⟨C', M', g', l', by omega, k2, k3, k4, fun x n hn => ?_, ?_⟩
        · obtain ⟨m, rfl⟩ : ∃ m, n = m + 1 := ⟨n - 1, by omega⟩
          rw [L_X11_go_23]
          refine e_N (nI_nle (by omega) (by omega)) (e_cl a2 (e_N (nI_nle ha (by omega)) ?_))
          have eP : F_X5_passQuiet (nI a) C = some ((), wrI (wrI C 76 0 0 (nI (s + a))) 77 0 0 (C.1 77 0 0 + nI a)) := by
            unfold F_X5_passQuiet
            exact e_gf h76 (e_pf (nI_add s a) (e_gf (v := C.1 77 0 0) (by first | (simp (disch := first | omega | assumption) only [wrI_s, wrI_o, wrI_r, wrL_1, wrL_r, wrL_s, wrL_o, blk_in, blk_out, blk_r, lit, litL, b00, b11, nI_l, lN_add, lN_mul, lN_sub, nI_add, pk_mul, pk_sub, pk_div, remN, Nat.add_sub_cancel, Nat.add_sub_cancel_left, Nat.zero_add, Nat.add_zero]; done) | (simp (disch := first | omega | assumption) only [wrI_s, wrI_o, wrI_r, wrL_1, wrL_r, wrL_s, wrL_o, blk_in, blk_out, blk_r, lit, litL, b00, b11, nI_l, lN_add, lN_mul, lN_sub, nI_add, pk_mul, pk_sub, pk_div, remN, Nat.add_sub_cancel, Nat.add_sub_cancel_left, Nat.zero_add, Nat.add_zero]; rfl) | rfl) (e_pf rfl rfl)))
          exact e_cl eP (e_tp (pk_sub a1) (k5 x m (by omega)))
        · have := itM_add e1 k6
          rw [show a + (left - a) = left by omega] at this
          exact this
      · have ha0 : a = 0 := by omega
        obtain ⟨C1, M1, g1, l1, b1, b2, b3, b4, b5, b6⟩ := slotT hc (by omega) (by omega) hS hQ
        obtain ⟨C', M', g', l', k1, k2, k3, k4, k5, k6⟩ := ih (left - 1) (by omega) (by omega) C1 M1 (s + 1) g1 l1 (by omega) (by omega) b3 b4 b5
        rw [show s + 1 + (left - 1) = s + left by omega] at k2 k3
        refine ⟨C', M', g', l', by omega, k2, k3, k4, fun x n hn => ?_, ?_⟩
        · obtain ⟨m, rfl⟩ : ∃ m, n = m + 1 := ⟨n - 1, by omega⟩
          rw [L_X11_go_23]
          refine e_N (nI_nle (by omega) (by omega)) (e_cl a2 (e_T (by rw [ha0]; decide) ?_))
          have z := b1 (fun S40 => L_X11_go_23 x m (nI left + (-1)) S40)
          unfold slbC at z
          refine Eq.trans ?_ (z.trans ?_)
          · rfl
          · show L_X11_go_23 x m (nI left + (-1)) C1 = _
            rw [show nI left + (-1) = nI (left - 1) by
              rw [show left = left - 1 + 1 by omega]
              exact pk_m1 _]
            exact k5 x m (by omega)
        · have e1 : itM 1 M = some ((), M1) := b2
          have := itM_add e1 k6
          rw [show 1 + (left - 1) = left by omega] at this
          exact this
theorem a_go {c s g l : Nat} {C M : Mm} (h : II c s g l C M) (hc : c < 512) (x : Int32) : agr c (F_X11_go x C) (F_X12_go x M) := by
  have hn := h.nx hc
  have hs0 := h.2.1
  have hg0 := h.2.2.1
  rcases sgn x with hx | ⟨N, hN, rfl⟩
  · apply agr_mk (s := s) (g := g) (l := l)
    · unfold F_X11_go L_X11_go_11
      exact e_T hx rfl
    · unfold F_X12_go
      exact e_pf (w := nI 0) rfl (e_cl (in_m (lo := 0) hx (by decide)) (e_T rfl rfl))
    · exact hn
  by_cases h3 : N ≤ 3000
  case neg =>
    apply agr_mk (s := s) (g := g) (l := l)
    · unfold F_X11_go L_X11_go_11
      exact e_N (nI_pos (by omega)) (e_N (by first | (simp (disch := first | omega | assumption) only [wrI_s, wrI_o, wrI_r, wrL_1, wrL_r, wrL_s, wrL_o, blk_in, blk_out, blk_r, lit, litL, b00, b11, nI_l, lN_add, lN_mul, lN_sub, nI_add, pk_mul, pk_sub, pk_div, remN, Nat.add_sub_cancel, Nat.add_sub_cancel_left, Nat.zero_add, Nat.add_zero, nI_eq, nI_leI, nI_ltI, nI_m1, m1_lt, neg_lt, neg_le, neg_ge, neg_gt, neg_eq, not_true, not_false_iff]; done) | (simp (disch := first | omega | assumption) only [wrI_s, wrI_o, wrI_r, wrL_1, wrL_r, wrL_s, wrL_o, blk_in, blk_out, blk_r, lit, litL, b00, b11, nI_l, lN_add, lN_mul, lN_sub, nI_add, pk_mul, pk_sub, pk_div, remN, Nat.add_sub_cancel, Nat.add_sub_cancel_left, Nat.zero_add, Nat.add_zero, nI_eq, nI_leI, nI_ltI, nI_m1, m1_lt, neg_lt, neg_le, neg_ge, neg_gt, neg_eq, not_true, not_false_iff]; omega)) rfl)
    · unfold F_X12_go
      refine e_pf (w := nI 0) rfl ?_
      rw [nI_l (by omega)]
      exact e_cl (in_h (lo := 0) (hi := 3000) (by omega) (by omega) (by omega)) (e_T rfl rfl)
    · exact hn
  obtain ⟨hc1, hs1, hg1, hITape, hIDraw, hINois, hIPar, hISub, hIKey, hIRef, hISta, hILnk, hIBeg, hIQue, hIHnd, hICon, hIDue, hIWai, hISnd, hISlo, hISto, hIQui, hIRng, hILiv, hIEnd, hIAlo, hIPut, hILat, hIInb, hICnt, hIAlq⟩ := hn
  have hS : SS (c + 1) s s s s s s g l C (wrI M 288 0 0 (nI 0)) := ⟨hITape, hIDraw, hINois, hIPar, hISub, hIKey, hIRef, hISta, hILnk, hIBeg, hIQue, hIHnd, hICon, hIDue, hIWai, hISnd, hISlo, hISto, hIRng, hILiv, hIEnd, hIPut, hILat, hIInb, hICnt, hIAlq⟩
  have o3 := hISlo.2.2.1
  have o4 := hISlo.2.2.2.1
  obtain ⟨C', M', g', l', k1, k2, k3, k4, k5, k6⟩ := goL hc1 N h3 C (wrI M 288 0 0 (nI 0)) s g l (by omega) (by omega) hS hIQui hIAlo
  have eC : F_X11_go (nI N) C = (gf C' 73 0 fun x2 => some ((x2 - nI g), C')) := by
    unfold F_X11_go
    exact e_N (nI_pos (by omega)) (e_T (by first | (simp (disch := first | omega | assumption) only [wrI_s, wrI_o, wrI_r, wrL_1, wrL_r, wrL_s, wrL_o, blk_in, blk_out, blk_r, lit, litL, b00, b11, nI_l, lN_add, lN_mul, lN_sub, nI_add, pk_mul, pk_sub, pk_div, remN, Nat.add_sub_cancel, Nat.add_sub_cancel_left, Nat.zero_add, Nat.add_zero, nI_eq, nI_leI, nI_ltI, nI_m1, m1_lt, neg_lt, neg_le, neg_ge, neg_gt, neg_eq, not_true, not_false_iff]; done) | (simp (disch := first | omega | assumption) only [wrI_s, wrI_o, wrI_r, wrL_1, wrL_r, wrL_s, wrL_o, blk_in, blk_out, blk_r, lit, litL, b00, b11, nI_l, lN_add, lN_mul, lN_sub, nI_add, pk_mul, pk_sub, pk_div, remN, Nat.add_sub_cancel, Nat.add_sub_cancel_left, Nat.zero_add, Nat.add_zero, nI_eq, nI_leI, nI_ltI, nI_m1, m1_lt, neg_lt, neg_le, neg_ge, neg_gt, neg_eq, not_true, not_false_iff]; omega)) (e_gf o3 (k5 (nI g) fu (by unfold fu; omega))))
  have hS3 := k2
  obtain ⟨hITape, hIDraw, hINois, hIPar, hISub, hIKey, hIRef, hISta, hILnk, hIBeg, hIQue, hIHnd, hICon, hIDue, hIWai, hISnd, hISlo, hISto, hIRng, hILiv, hIEnd, hIPut, hILat, hIInb, hICnt, hIAlq⟩ := hS3
  have p3 := hISlo.2.2.1
  have p4 := hISlo.2.2.2.1
  have eM : F_X12_go (nI N) M = some (nI g' - nI g, M') := by
    unfold F_X12_go
    refine e_pf (w := nI 0) rfl ?_
    rw [nI_l (by omega)]
    refine e_cl (in_y (lo := 0) (hi := 3000) (by omega) h3 (by omega)) (e_N (by decide) (e_gf o4 ?_))
    obtain ⟨m, hm⟩ := fu_n (N := N) (by omega)
    rw [hm, show m + N + 1 = (m + 1) + N by omega]
    have e := itM_go (x := nI g) h3 N 0 (m + 1) (wrI M 288 0 0 (nI 0)) M' k6 (by omega)
    refine Eq.trans e ?_
    rw [Nat.zero_add, L_X12_go_26]
    exact e_T (by first | (simp (disch := first | omega | assumption) only [wrI_s, wrI_o, wrI_r, wrL_1, wrL_r, wrL_s, wrL_o, blk_in, blk_out, blk_r, lit, litL, b00, b11, nI_l, lN_add, lN_mul, lN_sub, nI_add, pk_mul, pk_sub, pk_div, remN, Nat.add_sub_cancel, Nat.add_sub_cancel_left, Nat.zero_add, Nat.add_zero, nI_eq, nI_leI, nI_ltI, nI_m1, m1_lt, neg_lt, neg_le, neg_ge, neg_gt, neg_eq, not_true, not_false_iff]; done) | (simp (disch := first | omega | assumption) only [wrI_s, wrI_o, wrI_r, wrL_1, wrL_r, wrL_s, wrL_o, blk_in, blk_out, blk_r, lit, litL, b00, b11, nI_l, lN_add, lN_mul, lN_sub, nI_add, pk_mul, pk_sub, pk_div, remN, Nat.add_sub_cancel, Nat.add_sub_cancel_left, Nat.zero_add, Nat.add_zero, nI_eq, nI_leI, nI_ltI, nI_m1, m1_lt, neg_lt, neg_le, neg_ge, neg_gt, neg_eq, not_true, not_false_iff]; omega)) (e_gf p4 rfl)
  refine agr_mk (s := s + N) (g := g') (l := l') (r := nI g' - nI g) (C' := C') (M' := M') ?_ eM ?_
  · rw [eC]
    exact e_gf p3 rfl
  · exact ⟨hc1, by omega, by omega, hITape, hIDraw, hINois, hIPar, hISub, hIKey, hIRef, hISta, hILnk, hIBeg, hIQue, hIHnd, hICon, hIDue, hIWai, hISnd, hISlo, hISto, k3, hIRng, hILiv, hIEnd, k4, hIPut, hILat, hIInb, hICnt, hIAlq⟩
