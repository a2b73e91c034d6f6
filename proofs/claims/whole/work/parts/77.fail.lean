/-! A NODE THAT WAITED IN VAIN -/
theorem or8 : ∀ a, a < 256 → nI a ||| 8 = nI (a ||| 8) ∧ (a ||| 8) < 256 := by decide +kernel
theorem isB_or8 {x : Int32} (h : isB x) : isB (x ||| 8) := by
  obtain ⟨a, ha, rfl⟩ := h
  exact ⟨a ||| 8, (or8 a ha).2, (or8 a ha).1⟩
theorem cw_next {w : Nat} (hw : w = 7 ∨ w = 15 ∨ w = 31 ∨ w = 63 ∨ w = 127) : ∃ w', (w' = 7 ∨ w' = 15 ∨ w' = 31 ∨ w' = 63 ∨ w' = 127) ∧ (if 127 < ((2 * nI w) + 1) then 127 else ((2 * nI w) + 1)) = nI w' ∧ (if 127 ≤ nI w then (127 : Int32) else (2 * nI w) + 1) = nI w' := by
  rcases hw with rfl | rfl | rfl | rfl | rfl
  · exact ⟨15, by decide, by decide, by decide⟩
  · exact ⟨31, by decide, by decide, by decide⟩
  · exact ⟨63, by decide, by decide, by decide⟩
  · exact ⟨127, by decide, by decide, by decide⟩
  · exact ⟨127, by decide, by decide, by decide⟩
abbrev flC : List Nat := [40, 56, 59, 60, 91, 92, 93, 98, 99, 100, 102, 103, 109]
abbrev flM : List Nat := [234, 235, 236, 237, 238, 239, 240, 241, 242, 243, 244, 245, 248, 249, 250, 252, 255, 294, 303]
abbrev l93 : List Nat := [93, 98, 109]
abbrev l250 : List Nat := [250, 255, 303]
abbrev flC2 : List Nat := [40, 59, 60, 91, 92]
abbrev flM2 : List Nat := [245, 248, 249, 294]
theorem flr {c s d e p t g l k w0 : Nat} {C M : Mm} (h : SS c s d s e p t g l C M) (hk : k < 9) (hl : l < 2 ^ 31) (hw0 : w0 < 2 ^ 31) (h98 : C.1 98 k 0 = nI w0) : ∃ C' M', F_X11_fail k (wrI C 98 k 0 (-nI 1)) = some ((), C') ∧ F_X12_fail (nI k) M = some ((), M') ∧ SS c s d s e p t g l C' M' ∧ fq flC C C' ∧ fq flM M M' ∧ (C'.1 98 k 0 = -nI 1 ∧ ∀ j, ¬ j = k → C'.1 98 j = C.1 98 j) := by
  have hh := h
  obtain ⟨hITape, hIDraw, hINois, hIPar, hISub, hIKey, hIRef, hISta, hILnk, hIBeg, hIQue, hIHnd, hICon, hIDue, hIWai, hISnd, hISlo, hISto, hIRng, hILiv, hIEnd, hIPut, hILat, hIInb, hICnt, hIAlq⟩ := hh
  rcases hIWai k hk with ⟨w1, w2⟩ | ⟨w', n, u, w1, w2, w3, w4, w5, u1, u2, u3, n1, n2, n3⟩
  · rw [h98, nI_m1 hw0] at w1
    exact w1.elim
  have hpp := hIPar
  obtain ⟨z, lim, z1, z2, z3, z4, z5, z6, z7, z8, z9⟩ := hpp
  obtain ⟨c91, c93, cw, hcw, c92, m249⟩ := hICon k hk
  obtain ⟨f, u', p', n', b1, b2, b3, b4, b5, b6, b7, b8⟩ := hIHnd k hk
  have eu : u' = u := (nI_eq (by omega) (by omega)).mp (b4.symm.trans u3)
  subst eu
  obtain ⟨d1, d2, d3⟩ := b8 u1
  have fC0 : fq [93, 98, 109] C (wrI (wrI (wrI C 98 k 0 (-nI 1)) 109 0 0 (C.1 109 0 0 + 1)) 93 k 0 (C.1 93 k 0 + 1)) := by repeat (first | exact fq.rf | (refine fq.tr ?_ (fq.wr (by decide))) | (refine fq.tr ?_ (fq.bk (by decide))) | (refine fq.tr ?_ (fq.wl (by decide))) | (refine fq.tr ?_ (fq.wR (by decide))))
  have fM0 : fq [250, 255, 303] M (wrI (wrI (wrI M 255 0 k (nI 0)) 303 0 0 (M.1 303 0 0 + 1)) 250 0 k (M.1 250 0 k + 1)) := by repeat (first | exact fq.rf | (refine fq.tr ?_ (fq.wr (by decide))) | (refine fq.tr ?_ (fq.bk (by decide))) | (refine fq.tr ?_ (fq.wl (by decide))) | (refine fq.tr ?_ (fq.wR (by decide))))
  have hS1 : SS c s d s e p t g l (wrI (wrI (wrI C 98 k 0 (-nI 1)) 109 0 0 (C.1 109 0 0 + 1)) 93 k 0 (C.1 93 k 0 + 1)) (wrI (wrI (wrI M 255 0 k (nI 0)) 303 0 0 (M.1 303 0 0 + 1)) 250 0 k (M.1 250 0 k + 1)) := by
    have key : ∀ C' M', fq l93 C C' → fq l250 M M' → IPar C' M' → ICon C' M' → IDue d C' M' → IWai s C' M' → ISnd e l C' M' → SS c s d s e p t g l C' M' := fun C' M' fC gM tIPar tICon tIDue tIWai tISnd => ⟨hITape.fr fC gM (by decide) (by decide), hIDraw.fr fC gM (by decide) (by decide), hINois.fr fC gM (by decide) (by decide), tIPar, hISub.fr fC gM (by decide) (by decide), hIKey.fr fC gM (by decide) (by decide), hIRef.fr fC gM (by decide) (by decide), hISta.fr fC gM (by decide) (by decide), hILnk.fr fC gM (by decide) (by decide), hIBeg.fr fC gM (by decide) (by decide), hIQue.fr fC gM (by decide) (by decide), hIHnd.fr fC gM (by decide) (by decide), tICon, tIDue, tIWai, tISnd, hISlo.fr fC gM (by decide) (by decide), hISto.fr fC gM (by decide) (by decide), hIRng.fr fC gM (by decide) (by decide), hILiv.fr fC gM (by decide) (by decide), hIEnd.fr fC gM (by decide) (by decide), hIPut.fr fC gM (by decide) (by decide), hILat.fr fC gM (by decide) (by decide), hIInb.fr fC gM (by decide) (by decide), hICnt.fr fC gM (by decide) (by decide), hIAlq.fr fC gM (by decide) (by decide)⟩
    refine key _ _ fC0 fM0 ⟨z, lim, z1, z2, z3, z4, (by first | (simp (disch := first | omega | assumption) only [z5, wrI_s, wrI_o, wrI_r, wrL_1, wrL_r, wrL_s, wrL_o, blk_in, blk_out, blk_r, lit, litL, b00, b11, nI_l, lN_add, lN_mul, lN_sub, nI_add, pk_mul, pk_sub, pk_div, remN, Nat.add_sub_cancel, Nat.add_sub_cancel_left, Nat.zero_add, Nat.add_zero]; done) | (simp (disch := first | omega | assumption) only [z5, wrI_s, wrI_o, wrI_r, wrL_1, wrL_r, wrL_s, wrL_o, blk_in, blk_out, blk_r, lit, litL, b00, b11, nI_l, lN_add, lN_mul, lN_sub, nI_add, pk_mul, pk_sub, pk_div, remN, Nat.add_sub_cancel, Nat.add_sub_cancel_left, Nat.zero_add, Nat.add_zero]; rfl) | rfl), (by first | (simp (disch := first | omega | assumption) only [z6, wrI_s, wrI_o, wrI_r, wrL_1, wrL_r, wrL_s, wrL_o, blk_in, blk_out, blk_r, lit, litL, b00, b11, nI_l, lN_add, lN_mul, lN_sub, nI_add, pk_mul, pk_sub, pk_div, remN, Nat.add_sub_cancel, Nat.add_sub_cancel_left, Nat.zero_add, Nat.add_zero]; done) | (simp (disch := first | omega | assumption) only [z6, wrI_s, wrI_o, wrI_r, wrL_1, wrL_r, wrL_s, wrL_o, blk_in, blk_out, blk_r, lit, litL, b00, b11, nI_l, lN_add, lN_mul, lN_sub, nI_add, pk_mul, pk_sub, pk_div, remN, Nat.add_sub_cancel, Nat.add_sub_cancel_left, Nat.zero_add, Nat.add_zero]; rfl) | rfl), (by first | (simp (disch := first | omega | assumption) only [z7, wrI_s, wrI_o, wrI_r, wrL_1, wrL_r, wrL_s, wrL_o, blk_in, blk_out, blk_r, lit, litL, b00, b11, nI_l, lN_add, lN_mul, lN_sub, nI_add, pk_mul, pk_sub, pk_div, remN, Nat.add_sub_cancel, Nat.add_sub_cancel_left, Nat.zero_add, Nat.add_zero]; done) | (simp (disch := first | omega | assumption) only [z7, wrI_s, wrI_o, wrI_r, wrL_1, wrL_r, wrL_s, wrL_o, blk_in, blk_out, blk_r, lit, litL, b00, b11, nI_l, lN_add, lN_mul, lN_sub, nI_add, pk_mul, pk_sub, pk_div, remN, Nat.add_sub_cancel, Nat.add_sub_cancel_left, Nat.zero_add, Nat.add_zero]; rfl) | rfl), (by first | (simp (disch := first | omega | assumption) only [z8, wrI_s, wrI_o, wrI_r, wrL_1, wrL_r, wrL_s, wrL_o, blk_in, blk_out, blk_r, lit, litL, b00, b11, nI_l, lN_add, lN_mul, lN_sub, nI_add, pk_mul, pk_sub, pk_div, remN, Nat.add_sub_cancel, Nat.add_sub_cancel_left, Nat.zero_add, Nat.add_zero]; done) | (simp (disch := first | omega | assumption) only [z8, wrI_s, wrI_o, wrI_r, wrL_1, wrL_r, wrL_s, wrL_o, blk_in, blk_out, blk_r, lit, litL, b00, b11, nI_l, lN_add, lN_mul, lN_sub, nI_add, pk_mul, pk_sub, pk_div, remN, Nat.add_sub_cancel, Nat.add_sub_cancel_left, Nat.zero_add, Nat.add_zero]; rfl) | rfl), ?_⟩ ?_ ?_ ?_ ?_
    · simp (disch := omega) only [wrI_o, wrI_s, z9]
    · intro j hj
      obtain ⟨y1, y2, cw', y3, y4, y5⟩ := hICon j hj
      by_cases hjk : j = k
      · subst hjk
        refine ⟨(by first | (simp (disch := first | omega | assumption) only [y1, wrI_s, wrI_o, wrI_r, wrL_1, wrL_r, wrL_s, wrL_o, blk_in, blk_out, blk_r, lit, litL, b00, b11, nI_l, lN_add, lN_mul, lN_sub, nI_add, pk_mul, pk_sub, pk_div, remN, Nat.add_sub_cancel, Nat.add_sub_cancel_left, Nat.zero_add, Nat.add_zero]; done) | (simp (disch := first | omega | assumption) only [y1, wrI_s, wrI_o, wrI_r, wrL_1, wrL_r, wrL_s, wrL_o, blk_in, blk_out, blk_r, lit, litL, b00, b11, nI_l, lN_add, lN_mul, lN_sub, nI_add, pk_mul, pk_sub, pk_div, remN, Nat.add_sub_cancel, Nat.add_sub_cancel_left, Nat.zero_add, Nat.add_zero]; rfl) | rfl), ?_, cw', y3, (by first | (simp (disch := first | omega | assumption) only [y4, wrI_s, wrI_o, wrI_r, wrL_1, wrL_r, wrL_s, wrL_o, blk_in, blk_out, blk_r, lit, litL, b00, b11, nI_l, lN_add, lN_mul, lN_sub, nI_add, pk_mul, pk_sub, pk_div, remN, Nat.add_sub_cancel, Nat.add_sub_cancel_left, Nat.zero_add, Nat.add_zero]; done) | (simp (disch := first | omega | assumption) only [y4, wrI_s, wrI_o, wrI_r, wrL_1, wrL_r, wrL_s, wrL_o, blk_in, blk_out, blk_r, lit, litL, b00, b11, nI_l, lN_add, lN_mul, lN_sub, nI_add, pk_mul, pk_sub, pk_div, remN, Nat.add_sub_cancel, Nat.add_sub_cancel_left, Nat.zero_add, Nat.add_zero]; rfl) | rfl), (by first | (simp (disch := first | omega | assumption) only [y5, wrI_s, wrI_o, wrI_r, wrL_1, wrL_r, wrL_s, wrL_o, blk_in, blk_out, blk_r, lit, litL, b00, b11, nI_l, lN_add, lN_mul, lN_sub, nI_add, pk_mul, pk_sub, pk_div, remN, Nat.add_sub_cancel, Nat.add_sub_cancel_left, Nat.zero_add, Nat.add_zero]; done) | (simp (disch := first | omega | assumption) only [y5, wrI_s, wrI_o, wrI_r, wrL_1, wrL_r, wrL_s, wrL_o, blk_in, blk_out, blk_r, lit, litL, b00, b11, nI_l, lN_add, lN_mul, lN_sub, nI_add, pk_mul, pk_sub, pk_div, remN, Nat.add_sub_cancel, Nat.add_sub_cancel_left, Nat.zero_add, Nat.add_zero]; rfl) | rfl)⟩
        simp (disch := omega) only [wrI_s, y2]
      · exact ⟨(by first | (simp (disch := first | omega | assumption) only [y1, wrI_s, wrI_o, wrI_r, wrL_1, wrL_r, wrL_s, wrL_o, blk_in, blk_out, blk_r, lit, litL, b00, b11, nI_l, lN_add, lN_mul, lN_sub, nI_add, pk_mul, pk_sub, pk_div, remN, Nat.add_sub_cancel, Nat.add_sub_cancel_left, Nat.zero_add, Nat.add_zero]; done) | (simp (disch := first | omega | assumption) only [y1, wrI_s, wrI_o, wrI_r, wrL_1, wrL_r, wrL_s, wrL_o, blk_in, blk_out, blk_r, lit, litL, b00, b11, nI_l, lN_add, lN_mul, lN_sub, nI_add, pk_mul, pk_sub, pk_div, remN, Nat.add_sub_cancel, Nat.add_sub_cancel_left, Nat.zero_add, Nat.add_zero]; rfl) | rfl), (by first | (simp (disch := first | omega | assumption) only [y2, wrI_s, wrI_o, wrI_r, wrL_1, wrL_r, wrL_s, wrL_o, blk_in, blk_out, blk_r, lit, litL, b00, b11, nI_l, lN_add, lN_mul, lN_sub, nI_add, pk_mul, pk_sub, pk_div, remN, Nat.add_sub_cancel, Nat.add_sub_cancel_left, Nat.zero_add, Nat.add_zero]; done) | (simp (disch := first | omega | assumption) only [y2, wrI_s, wrI_o, wrI_r, wrL_1, wrL_r, wrL_s, wrL_o, blk_in, blk_out, blk_r, lit, litL, b00, b11, nI_l, lN_add, lN_mul, lN_sub, nI_add, pk_mul, pk_sub, pk_div, remN, Nat.add_sub_cancel, Nat.add_sub_cancel_left, Nat.zero_add, Nat.add_zero]; rfl) | rfl), cw', y3, (by first | (simp (disch := first | omega | assumption) only [y4, wrI_s, wrI_o, wrI_r, wrL_1, wrL_r, wrL_s, wrL_o, blk_in, blk_out, blk_r, lit, litL, b00, b11, nI_l, lN_add, lN_mul, lN_sub, nI_add, pk_mul, pk_sub, pk_div, remN, Nat.add_sub_cancel, Nat.add_sub_cancel_left, Nat.zero_add, Nat.add_zero]; done) | (simp (disch := first | omega | assumption) only [y4, wrI_s, wrI_o, wrI_r, wrL_1, wrL_r, wrL_s, wrL_o, blk_in, blk_out, blk_r, lit, litL, b00, b11, nI_l, lN_add, lN_mul, lN_sub, nI_add, pk_mul, pk_sub, pk_div, remN, Nat.add_sub_cancel, Nat.add_sub_cancel_left, Nat.zero_add, Nat.add_zero]; rfl) | rfl), (by first | (simp (disch := first | omega | assumption) only [y5, wrI_s, wrI_o, wrI_r, wrL_1, wrL_r, wrL_s, wrL_o, blk_in, blk_out, blk_r, lit, litL, b00, b11, nI_l, lN_add, lN_mul, lN_sub, nI_add, pk_mul, pk_sub, pk_div, remN, Nat.add_sub_cancel, Nat.add_sub_cancel_left, Nat.zero_add, Nat.add_zero]; done) | (simp (disch := first | omega | assumption) only [y5, wrI_s, wrI_o, wrI_r, wrL_1, wrL_r, wrL_s, wrL_o, blk_in, blk_out, blk_r, lit, litL, b00, b11, nI_l, lN_add, lN_mul, lN_sub, nI_add, pk_mul, pk_sub, pk_div, remN, Nat.add_sub_cancel, Nat.add_sub_cancel_left, Nat.zero_add, Nat.add_zero]; rfl) | rfl)⟩
    · intro j hj
      obtain ⟨y1, y2⟩ := hIDue j hj
      refine ⟨fun i hi => ?_, ?_⟩
      · simp (disch := omega) only [wrI_o, wrI_r]
        exact y1 i hi
      · simp (disch := omega) only [wrI_o, wrI_r]
        rcases y2 with y2 | ⟨dd, x1, x2, x3, x4, x5, x6⟩
        · exact Or.inl y2
        · refine Or.inr ⟨dd, x1, x2, x3, x4, x5, ?_⟩
          rcases x6 with x6 | ⟨x6, x7, x8, x9⟩
          · exact Or.inl x6
          · refine Or.inr ⟨x6, x7, ?_, x9⟩
            by_cases hjk : j = k
            · subst hjk
              first | (simp (disch := first | omega | assumption) only [wrI_s, wrI_o, wrI_r, wrL_1, wrL_r, wrL_s, wrL_o, blk_in, blk_out, blk_r, lit, litL, b00, b11, nI_l, lN_add, lN_mul, lN_sub, nI_add, pk_mul, pk_sub, pk_div, remN, Nat.add_sub_cancel, Nat.add_sub_cancel_left, Nat.zero_add, Nat.add_zero]; done) | (simp (disch := first | omega | assumption) only [wrI_s, wrI_o, wrI_r, wrL_1, wrL_r, wrL_s, wrL_o, blk_in, blk_out, blk_r, lit, litL, b00, b11, nI_l, lN_add, lN_mul, lN_sub, nI_add, pk_mul, pk_sub, pk_div, remN, Nat.add_sub_cancel, Nat.add_sub_cancel_left, Nat.zero_add, Nat.add_zero]; rfl) | rfl
            · first | (simp (disch := first | omega | assumption) only [x8, wrI_s, wrI_o, wrI_r, wrL_1, wrL_r, wrL_s, wrL_o, blk_in, blk_out, blk_r, lit, litL, b00, b11, nI_l, lN_add, lN_mul, lN_sub, nI_add, pk_mul, pk_sub, pk_div, remN, Nat.add_sub_cancel, Nat.add_sub_cancel_left, Nat.zero_add, Nat.add_zero]; done) | (simp (disch := first | omega | assumption) only [x8, wrI_s, wrI_o, wrI_r, wrL_1, wrL_r, wrL_s, wrL_o, blk_in, blk_out, blk_r, lit, litL, b00, b11, nI_l, lN_add, lN_mul, lN_sub, nI_add, pk_mul, pk_sub, pk_div, remN, Nat.add_sub_cancel, Nat.add_sub_cancel_left, Nat.zero_add, Nat.add_zero]; rfl) | rfl
    · intro j hj
      by_cases hjk : j = k
      · subst hjk
        exact Or.inl ⟨(by first | (simp (disch := first | omega | assumption) only [wrI_s, wrI_o, wrI_r, wrL_1, wrL_r, wrL_s, wrL_o, blk_in, blk_out, blk_r, lit, litL, b00, b11, nI_l, lN_add, lN_mul, lN_sub, nI_add, pk_mul, pk_sub, pk_div, remN, Nat.add_sub_cancel, Nat.add_sub_cancel_left, Nat.zero_add, Nat.add_zero]; done) | (simp (disch := first | omega | assumption) only [wrI_s, wrI_o, wrI_r, wrL_1, wrL_r, wrL_s, wrL_o, blk_in, blk_out, blk_r, lit, litL, b00, b11, nI_l, lN_add, lN_mul, lN_sub, nI_add, pk_mul, pk_sub, pk_div, remN, Nat.add_sub_cancel, Nat.add_sub_cancel_left, Nat.zero_add, Nat.add_zero]; rfl) | rfl), (by first | (simp (disch := first | omega | assumption) only [wrI_s, wrI_o, wrI_r, wrL_1, wrL_r, wrL_s, wrL_o, blk_in, blk_out, blk_r, lit, litL, b00, b11, nI_l, lN_add, lN_mul, lN_sub, nI_add, pk_mul, pk_sub, pk_div, remN, Nat.add_sub_cancel, Nat.add_sub_cancel_left, Nat.zero_add, Nat.add_zero]; done) | (simp (disch := first | omega | assumption) only [wrI_s, wrI_o, wrI_r, wrL_1, wrL_r, wrL_s, wrL_o, blk_in, blk_out, blk_r, lit, litL, b00, b11, nI_l, lN_add, lN_mul, lN_sub, nI_add, pk_mul, pk_sub, pk_div, remN, Nat.add_sub_cancel, Nat.add_sub_cancel_left, Nat.zero_add, Nat.add_zero]; rfl) | rfl)⟩
      · have := hIWai j hj
        simp (disch := omega) only [wrI_o]
        exact this
    · refine ⟨fun j hj => ?_, fun v j hv hj => ?_⟩
      · have := hISnd.1 j hj
        simp (disch := omega) only [wrI_o]
        rcases this with q | ⟨v, t', m, q1, q2, q3, q4, q5, q6, q7, q8, q9⟩
        · exact Or.inl q
        · refine Or.inr ⟨v, t', m, q1, q2, q3, q4, q5, q6, q7, q8, ?_⟩
          rcases q9 with q9 | ⟨q9, q10, q11, q12⟩
          · exact Or.inl q9
          · refine Or.inr ⟨q9, q10, ?_, q12⟩
            by_cases hjk : j = k
            · subst hjk
              first | (simp (disch := first | omega | assumption) only [wrI_s, wrI_o, wrI_r, wrL_1, wrL_r, wrL_s, wrL_o, blk_in, blk_out, blk_r, lit, litL, b00, b11, nI_l, lN_add, lN_mul, lN_sub, nI_add, pk_mul, pk_sub, pk_div, remN, Nat.add_sub_cancel, Nat.add_sub_cancel_left, Nat.zero_add, Nat.add_zero]; done) | (simp (disch := first | omega | assumption) only [wrI_s, wrI_o, wrI_r, wrL_1, wrL_r, wrL_s, wrL_o, blk_in, blk_out, blk_r, lit, litL, b00, b11, nI_l, lN_add, lN_mul, lN_sub, nI_add, pk_mul, pk_sub, pk_div, remN, Nat.add_sub_cancel, Nat.add_sub_cancel_left, Nat.zero_add, Nat.add_zero]; rfl) | rfl
            · first | (simp (disch := first | omega | assumption) only [q11, wrI_s, wrI_o, wrI_r, wrL_1, wrL_r, wrL_s, wrL_o, blk_in, blk_out, blk_r, lit, litL, b00, b11, nI_l, lN_add, lN_mul, lN_sub, nI_add, pk_mul, pk_sub, pk_div, remN, Nat.add_sub_cancel, Nat.add_sub_cancel_left, Nat.zero_add, Nat.add_zero]; done) | (simp (disch := first | omega | assumption) only [q11, wrI_s, wrI_o, wrI_r, wrL_1, wrL_r, wrL_s, wrL_o, blk_in, blk_out, blk_r, lit, litL, b00, b11, nI_l, lN_add, lN_mul, lN_sub, nI_add, pk_mul, pk_sub, pk_div, remN, Nat.add_sub_cancel, Nat.add_sub_cancel_left, Nat.zero_add, Nat.add_zero]; rfl) | rfl
      · have := hISnd.2 v j hv hj
        simp (disch := omega) only [wrI_o]
        exact this
  have eC : ∀ X, (C.1 93 k 0 + 1 < nI lim → (gf (wrI (wrI (wrI C 98 k 0 (-nI 1)) 109 0 0 (C.1 109 0 0 + 1)) 93 k 0 (C.1 93 k 0 + 1)) 92 k fun x7 => tp (if 127 < ((2 * x7) + 1) then 127 else ((2 * x7) + 1)) fun x8 => pf (wrI (wrI (wrI C 98 k 0 (-nI 1)) 109 0 0 (C.1 109 0 0 + 1)) 93 k 0 (C.1 93 k 0 + 1)) 92 k x8 fun S9 => cl (F_X1_takeFirst S9) fun r10 S11 => gf S11 92 k fun x13 => pf S11 91 k (r10 &&& x13) fun S14 => gf S14 100 k fun x15 => if x15 < 28 then some ((), S14) else (ldA S14 40 k 300 9 1 fun x16 => stA S14 40 k 300 9 1 (x16 ||| 8) fun S17 => gf S17 100 k fun x18 => cl (F_X2_writeFcs 40 k (x18 - 4) S17) fun r19 S20 => some ((), S20))) = X) → (¬ C.1 93 k 0 + 1 < nI lim → (cl (F_X11_finishFirst k 2 (wrI (wrI (wrI C 98 k 0 (-nI 1)) 109 0 0 (C.1 109 0 0 + 1)) 93 k 0 (C.1 93 k 0 + 1))) fun r21 S22 => some ((), S22)) = X) → F_X11_fail k (wrI C 98 k 0 (-nI 1)) = X := by
    intro X x1 x2
    unfold F_X11_fail
    refine e_gd hk (e_gf (v := C.1 109 0 0) (by first | (simp (disch := first | omega | assumption) only [wrI_s, wrI_o, wrI_r, wrL_1, wrL_r, wrL_s, wrL_o, blk_in, blk_out, blk_r, lit, litL, b00, b11, nI_l, lN_add, lN_mul, lN_sub, nI_add, pk_mul, pk_sub, pk_div, remN, Nat.add_sub_cancel, Nat.add_sub_cancel_left, Nat.zero_add, Nat.add_zero]; done) | (simp (disch := first | omega | assumption) only [wrI_s, wrI_o, wrI_r, wrL_1, wrL_r, wrL_s, wrL_o, blk_in, blk_out, blk_r, lit, litL, b00, b11, nI_l, lN_add, lN_mul, lN_sub, nI_add, pk_mul, pk_sub, pk_div, remN, Nat.add_sub_cancel, Nat.add_sub_cancel_left, Nat.zero_add, Nat.add_zero]; rfl) | rfl) (e_pf rfl (e_gf (v := C.1 93 k 0) (by first | (simp (disch := first | omega | assumption) only [wrI_s, wrI_o, wrI_r, wrL_1, wrL_r, wrL_s, wrL_o, blk_in, blk_out, blk_r, lit, litL, b00, b11, nI_l, lN_add, lN_mul, lN_sub, nI_add, pk_mul, pk_sub, pk_div, remN, Nat.add_sub_cancel, Nat.add_sub_cancel_left, Nat.zero_add, Nat.add_zero]; done) | (simp (disch := first | omega | assumption) only [wrI_s, wrI_o, wrI_r, wrL_1, wrL_r, wrL_s, wrL_o, blk_in, blk_out, blk_r, lit, litL, b00, b11, nI_l, lN_add, lN_mul, lN_sub, nI_add, pk_mul, pk_sub, pk_div, remN, Nat.add_sub_cancel, Nat.add_sub_cancel_left, Nat.zero_add, Nat.add_zero]; rfl) | rfl) (e_pf rfl (e_gf (v := C.1 93 k 0 + 1) wrI_s (e_gf (v := nI lim) (by first | (simp (disch := first | omega | assumption) only [z7, wrI_s, wrI_o, wrI_r, wrL_1, wrL_r, wrL_s, wrL_o, blk_in, blk_out, blk_r, lit, litL, b00, b11, nI_l, lN_add, lN_mul, lN_sub, nI_add, pk_mul, pk_sub, pk_div, remN, Nat.add_sub_cancel, Nat.add_sub_cancel_left, Nat.zero_add, Nat.add_zero]; done) | (simp (disch := first | omega | assumption) only [z7, wrI_s, wrI_o, wrI_r, wrL_1, wrL_r, wrL_s, wrL_o, blk_in, blk_out, blk_r, lit, litL, b00, b11, nI_l, lN_add, lN_mul, lN_sub, nI_add, pk_mul, pk_sub, pk_div, remN, Nat.add_sub_cancel, Nat.add_sub_cancel_left, Nat.zero_add, Nat.add_zero]; rfl) | rfl) ?_))))))
    by_cases hlt : C.1 93 k 0 + 1 < nI lim
    · exact e_T hlt (x1 hlt)
    · exact e_N hlt (x2 hlt)
  have eM : ∀ X, (C.1 93 k 0 + 1 < nI lim → L_X12_fail_78 (nI k) (nI k) (if 127 ≤ nI cw then (127 : Int32) else (2 * nI cw) + 1) (wrI (wrI (wrI M 255 0 k (nI 0)) 303 0 0 (M.1 303 0 0 + 1)) 250 0 k (M.1 250 0 k + 1)) = X) → (¬ C.1 93 k 0 + 1 < nI lim → (cl (F_X12_leaves (nI k) 2 (wrI (wrI (wrI M 255 0 k (nI 0)) 303 0 0 (M.1 303 0 0 + 1)) 250 0 k (M.1 250 0 k + 1))) fun r21 S22 => some ((), S22)) = X) → F_X12_fail (nI k) M = X := by
    intro X x1 x2
    unfold F_X12_fail
    refine e_stA rfl hk (by decide) (by decide) (w := nI 0) (by decide) (e_gf (v := M.1 303 0 0) (by first | (simp (disch := first | omega | assumption) only [wrI_s, wrI_o, wrI_r, wrL_1, wrL_r, wrL_s, wrL_o, blk_in, blk_out, blk_r, lit, litL, b00, b11, nI_l, lN_add, lN_mul, lN_sub, nI_add, pk_mul, pk_sub, pk_div, remN, Nat.add_sub_cancel, Nat.add_sub_cancel_left, Nat.zero_add, Nat.add_zero]; done) | (simp (disch := first | omega | assumption) only [wrI_s, wrI_o, wrI_r, wrL_1, wrL_r, wrL_s, wrL_o, blk_in, blk_out, blk_r, lit, litL, b00, b11, nI_l, lN_add, lN_mul, lN_sub, nI_add, pk_mul, pk_sub, pk_div, remN, Nat.add_sub_cancel, Nat.add_sub_cancel_left, Nat.zero_add, Nat.add_zero]; rfl) | rfl) (e_pf rfl (e_ldA (v := M.1 250 0 k) rfl hk (by decide) (by decide) (by first | (simp (disch := first | omega | assumption) only [wrI_s, wrI_o, wrI_r, wrL_1, wrL_r, wrL_s, wrL_o, blk_in, blk_out, blk_r, lit, litL, b00, b11, nI_l, lN_add, lN_mul, lN_sub, nI_add, pk_mul, pk_sub, pk_div, remN, Nat.add_sub_cancel, Nat.add_sub_cancel_left, Nat.zero_add, Nat.add_zero]; done) | (simp (disch := first | omega | assumption) only [wrI_s, wrI_o, wrI_r, wrL_1, wrL_r, wrL_s, wrL_o, blk_in, blk_out, blk_r, lit, litL, b00, b11, nI_l, lN_add, lN_mul, lN_sub, nI_add, pk_mul, pk_sub, pk_div, remN, Nat.add_sub_cancel, Nat.add_sub_cancel_left, Nat.zero_add, Nat.add_zero]; rfl) | rfl) (e_stA rfl hk (by decide) (by decide) rfl (e_ldA (v := M.1 250 0 k + 1) rfl hk (by decide) (by decide) wrI_s (e_gf (v := nI lim) (by first | (simp (disch := first | omega | assumption) only [z8, wrI_s, wrI_o, wrI_r, wrL_1, wrL_r, wrL_s, wrL_o, blk_in, blk_out, blk_r, lit, litL, b00, b11, nI_l, lN_add, lN_mul, lN_sub, nI_add, pk_mul, pk_sub, pk_div, remN, Nat.add_sub_cancel, Nat.add_sub_cancel_left, Nat.zero_add, Nat.add_zero]; done) | (simp (disch := first | omega | assumption) only [z8, wrI_s, wrI_o, wrI_r, wrL_1, wrL_r, wrL_s, wrL_o, blk_in, blk_out, blk_r, lit, litL, b00, b11, nI_l, lN_add, lN_mul, lN_sub, nI_add, pk_mul, pk_sub, pk_div, remN, Nat.add_sub_cancel, Nat.add_sub_cancel_left, Nat.zero_add, Nat.add_zero]; rfl) | rfl) ?_))))))
    rw [← c93]
    by_cases hlt : C.1 93 k 0 + 1 < nI lim
    · refine e_T hlt (e_ldA (v := nI cw) rfl hk (by decide) (by decide) (by rw [← m249]; simp (disch := omega) only [wrI_o]) ?_)
      have x1' := x1 hlt
      rw [← c93] at x1'
      by_cases h127 : (127 : Int32) ≤ nI cw
      · rw [if_pos h127] at x1'
        exact e_T h127 x1'
      · rw [if_neg h127] at x1'
        exact e_N h127 (e_ldA (v := nI cw) rfl hk (by decide) (by decide) (by rw [← m249]; simp (disch := omega) only [wrI_o]) x1')
    · have x2' := x2 hlt
      rw [← c93] at x2'
      exact e_N hlt x2'
  generalize hC1 : wrI (wrI (wrI C 98 k 0 (-nI 1)) 109 0 0 (C.1 109 0 0 + 1)) 93 k 0 (C.1 93 k 0 + 1) = C1 at *
  generalize hM1 : wrI (wrI (wrI M 255 0 k (nI 0)) 303 0 0 (M.1 303 0 0 + 1)) 250 0 k (M.1 250 0 k + 1) = M1 at *
  have c98 : C1.1 98 k 0 = -nI 1 ∧ ∀ j, ¬ j = k → C1.1 98 j = C.1 98 j := by
    rw [← hC1]
    refine ⟨(by first | (simp (disch := first | omega | assumption) only [wrI_s, wrI_o, wrI_r, wrL_1, wrL_r, wrL_s, wrL_o, blk_in, blk_out, blk_r, lit, litL, b00, b11, nI_l, lN_add, lN_mul, lN_sub, nI_add, pk_mul, pk_sub, pk_div, remN, Nat.add_sub_cancel, Nat.add_sub_cancel_left, Nat.zero_add, Nat.add_zero]; done) | (simp (disch := first | omega | assumption) only [wrI_s, wrI_o, wrI_r, wrL_1, wrL_r, wrL_s, wrL_o, blk_in, blk_out, blk_r, lit, litL, b00, b11, nI_l, lN_add, lN_mul, lN_sub, nI_add, pk_mul, pk_sub, pk_div, remN, Nat.add_sub_cancel, Nat.add_sub_cancel_left, Nat.zero_add, Nat.add_zero]; rfl) | rfl), fun j hj => ?_⟩
    funext x
    first | (simp (disch := first | omega | assumption) only [wrI_s, wrI_o, wrI_r, wrL_1, wrL_r, wrL_s, wrL_o, blk_in, blk_out, blk_r, lit, litL, b00, b11, nI_l, lN_add, lN_mul, lN_sub, nI_add, pk_mul, pk_sub, pk_div, remN, Nat.add_sub_cancel, Nat.add_sub_cancel_left, Nat.zero_add, Nat.add_zero]; done) | (simp (disch := first | omega | assumption) only [wrI_s, wrI_o, wrI_r, wrL_1, wrL_r, wrL_s, wrL_o, blk_in, blk_out, blk_r, lit, litL, b00, b11, nI_l, lN_add, lN_mul, lN_sub, nI_add, pk_mul, pk_sub, pk_div, remN, Nat.add_sub_cancel, Nat.add_sub_cancel_left, Nat.zero_add, Nat.add_zero]; rfl) | rfl
  have m255 : M1.1 255 0 k = nI 0 := by
    rw [← hM1]
    first | (simp (disch := first | omega | assumption) only [wrI_s, wrI_o, wrI_r, wrL_1, wrL_r, wrL_s, wrL_o, blk_in, blk_out, blk_r, lit, litL, b00, b11, nI_l, lN_add, lN_mul, lN_sub, nI_add, pk_mul, pk_sub, pk_div, remN, Nat.add_sub_cancel, Nat.add_sub_cancel_left, Nat.zero_add, Nat.add_zero]; done) | (simp (disch := first | omega | assumption) only [wrI_s, wrI_o, wrI_r, wrL_1, wrL_r, wrL_s, wrL_o, blk_in, blk_out, blk_r, lit, litL, b00, b11, nI_l, lN_add, lN_mul, lN_sub, nI_add, pk_mul, pk_sub, pk_div, remN, Nat.add_sub_cancel, Nat.add_sub_cancel_left, Nat.zero_add, Nat.add_zero]; rfl) | rfl
  have hS2 := hS1
  obtain ⟨hITape, hIDraw, hINois, hIPar, hISub, hIKey, hIRef, hISta, hILnk, hIBeg, hIQue, hIHnd, hICon, hIDue, hIWai, hISnd, hISlo, hISto, hIRng, hILiv, hIEnd, hIPut, hILat, hIInb, hICnt, hIAlq⟩ := hS2
  by_cases hlt : C.1 93 k 0 + 1 < nI lim
  case neg =>
    obtain ⟨C', M', v1, v2, v3, v4, v5, v6, v7, v8, v9, v10⟩ := fin (how := 2) hIRef hIDraw hISub hIQue hIHnd hICon hk b1 u1 u2 (by rw [fC0.1 102 (nc (by decide))]; exact b3) (by rw [fC0.1 103 (nc (by decide))]; exact u3)
    refine ⟨C', M', eC _ (fun hy => absurd hy hlt) (fun _ => e_cl v1 rfl), eM _ (fun hy => absurd hy hlt) (fun _ => e_cl v2 rfl), ?_, (fC0.up (by decide)).tr (v3.up (by decide)), (fM0.up (by decide)).tr (v4.up (by decide)), by rw [v3.1 98 (nc (by decide))]; exact c98⟩
    have hpos' : ∀ j, ¬ j = k → pos12 C1 j → pos12 C' j := by
      rintro j hjk ⟨a, a1, a2, a3⟩
      exact ⟨a, a1, a2, by rw [(v5 j hjk).1]; exact a3⟩
    have hlen' : ∀ j, ¬ j = k → len1 C1 j → len1 C' j := by
      rintro j hjk ⟨a, a1, a2, a3⟩
      exact ⟨a, a1, a2, by rw [(v5 j hjk).2]; exact a3⟩
    have hwas : M.1 255 0 k = nI 1 := w5
    have key : ∀ C2 M2, fq fnC C1 C2 → fq fnM M1 M2 → IDraw C2 M2 → ISub C2 M2 → IQue C2 M2 → IHnd C2 M2 → ICon C2 M2 → IDue d C2 M2 → IWai s C2 M2 → ISnd e l C2 M2 → SS c s d s e p t g l C2 M2 := fun C2 M2 fC gM t1 t2 t3 t4 t5 t6 t7 t8 => ⟨hITape.fr fC gM (by decide) (by decide), t1, hINois.fr fC gM (by decide) (by decide), hIPar.fr fC gM (by decide) (by decide), t2, hIKey.fr fC gM (by decide) (by decide), hIRef.fr fC gM (by decide) (by decide), hISta.fr fC gM (by decide) (by decide), hILnk.fr fC gM (by decide) (by decide), hIBeg.fr fC gM (by decide) (by decide), t3, t4, t5, t6, t7, t8, hISlo.fr fC gM (by decide) (by decide), hISto.fr fC gM (by decide) (by decide), hIRng.fr fC gM (by decide) (by decide), hILiv.fr fC gM (by decide) (by decide), hIEnd.fr fC gM (by decide) (by decide), hIPut.fr fC gM (by decide) (by decide), hILat.fr fC gM (by decide) (by decide), hIInb.fr fC gM (by decide) (by decide), hICnt.fr fC gM (by decide) (by decide), hIAlq.fr fC gM (by decide) (by decide)⟩
    refine key _ _ v3 v4 v10 v6 v7 v8 v9 (hIDue.nd v3 v4 (by decide) (by decide) (fun j hj h' => ?_)) (hIWai.nd v3 v4 (by decide) (by decide) (fun j hj h' => ?_)) (hISnd.nd v3 v4 (by decide) (by decide) (fun j hj h' h'' => ?_))
    · by_cases hjk : j = k
      · subst hjk
        obtain ⟨-, y2⟩ := (h : SS c s d s e p t g l C M) |> fun hq => by
          obtain ⟨hITape, hIDraw, hINois, hIPar, hISub, hIKey, hIRef, hISta, hILnk, hIBeg, hIQue, hIHnd, hICon, hIDue, hIWai, hISnd, hISlo, hISto, hIRng, hILiv, hIEnd, hIPut, hILat, hIInb, hICnt, hIAlq⟩ := hq
          exact hIDue j hj
        rw [fM0.1 257 (nc (by decide))] at h'
        rcases y2 with ⟨-, y2⟩ | ⟨dd, x1, x2, x3, x4, x5, x6⟩
        · rw [y2] at h'; exact absurd h' (by decide)
        · rcases x6 with ⟨-, x7⟩ | ⟨-, -, x8, -⟩
          · rw [x7] at h'; exact absurd h' (by decide)
          · rw [hwas] at x8; exact absurd x8 (by decide)
      · exact hpos' j hjk (hIDue.p2 hj h')
    · by_cases hjk : j = k
      · subst hjk
        rw [m255] at h'
        exact absurd h' (by decide)
      · exact ⟨hpos' j hjk (hIWai.p1 hj h').1, hlen' j hjk (hIWai.p1 hj h').2⟩
    · by_cases hjk : j = k
      · subst hjk
        have y := (h : SS c s d s e p t g l C M) |> fun hq => by
          obtain ⟨hITape, hIDraw, hINois, hIPar, hISub, hIKey, hIRef, hISta, hILnk, hIBeg, hIQue, hIHnd, hICon, hIDue, hIWai, hISnd, hISlo, hISto, hIRng, hILiv, hIEnd, hIPut, hILat, hIInb, hICnt, hIAlq⟩ := hq
          exact hISnd.1 j hj
        obtain ⟨v, hv, e'⟩ := h'
        rw [fM0.1 254 (nc (by decide))] at e'
        rw [fC0.1 97 (nc (by decide))] at h''
        rcases y with ⟨y1, -⟩ | ⟨v', t', m, q1, q2, q3, q4, q5, q6, q7, q8, q9⟩
        · rw [y1] at e'
          exact absurd e'.symm (by rw [nI_m1 (by omega)]; exact id)
        · rcases q9 with ⟨q9, -⟩ | ⟨-, -, q11, -⟩
          · rw [q9] at h''; exact absurd h'' (by decide)
          · rw [hwas] at q11; exact absurd q11 (by decide)
      · exact ⟨hpos' j hjk (hISnd.p0 hl hj h' h'').1, hlen' j hjk (hISnd.p0 hl hj h' h'').2⟩
  have enn : n' = n := (nI_eq (by rcases d3 with ⟨y, -⟩ | ⟨-, y, -⟩ <;> omega) (by omega)).mp (b6.symm.trans n3)
  subst enn
  rcases d3 with ⟨y, -⟩ | ⟨x1, x2, m244, m246, hbb, hne⟩
  · omega
  obtain ⟨w', hw', ew1, ew2⟩ := cw_next hcw
  have hD0 : IDraw (wrI C1 92 k 0 (nI w')) (wrI M1 249 0 k (nI w')) := hIDraw.fr (u := [92]) (w := [249]) (by repeat (first | exact fq.rf | (refine fq.tr ?_ (fq.wr (by decide))) | (refine fq.tr ?_ (fq.bk (by decide))) | (refine fq.tr ?_ (fq.wl (by decide))) | (refine fq.tr ?_ (fq.wR (by decide))))) (by repeat (first | exact fq.rf | (refine fq.tr ?_ (fq.wr (by decide))) | (refine fq.tr ?_ (fq.bk (by decide))) | (refine fq.tr ?_ (fq.wl (by decide))) | (refine fq.tr ?_ (fq.wR (by decide))))) (by decide) (by decide)
  obtain ⟨v, a, b, dd, t1, t2, t3⟩ := drw hD0
  have k40 : C1.1 40 = C.1 40 := fC0.1 40 (nc (by decide))
  have k100 : C1.1 100 = C.1 100 := fC0.1 100 (nc (by decide))
  have k92 : C1.1 92 k 0 = nI cw := by rw [fC0.1 92 (nc (by decide))]; exact c92
  have k245 : M1.1 245 = M.1 245 := fM0.1 245 (nc (by decide))
  have k246 : M1.1 246 = M.1 246 := fM0.1 246 (nc (by decide))
  have y1 := hbb 1 (by omega)
  generalize hC5 : wrI (wrI (wrI (wrI (wrI C1 92 k 0 (nI w')) 59 0 0 a) 60 0 0 b) 91 k 0 (v &&& nI w')) 40 k 1 (M.1 245 0 (300 * k + 1) ||| 8) = C5
  generalize hM5 : wrI (wrI (wrI (wrI M1 249 0 k (nI w')) 294 0 0 dd) 248 0 k (v &&& nI w')) 245 0 (300 * k + 1) (M.1 245 0 (300 * k + 1) ||| 8) = M5
  have f5 : fq flC2 C1 C5 := by rw [← hC5]; repeat (first | exact fq.rf | (refine fq.tr ?_ (fq.wr (by decide))) | (refine fq.tr ?_ (fq.bk (by decide))) | (refine fq.tr ?_ (fq.wl (by decide))) | (refine fq.tr ?_ (fq.wR (by decide))))
  have g5 : fq flM2 M1 M5 := by rw [← hM5]; repeat (first | exact fq.rf | (refine fq.tr ?_ (fq.wr (by decide))) | (refine fq.tr ?_ (fq.bk (by decide))) | (refine fq.tr ?_ (fq.wl (by decide))) | (refine fq.tr ?_ (fq.wR (by decide))))
  have hfr : ∀ j, j < n' → isB (M5.1 245 0 (300 * k + j)) ∧ C5.1 40 k j = M5.1 245 0 (300 * k + j) := by
    intro j hj
    rw [← hC5, ← hM5]
    by_cases hj1 : j = 1
    · subst hj1
      rw [wrI_s, wrI_s]
      exact ⟨isB_or8 y1.1, rfl⟩
    · simp (disch := omega) only [wrI_o]
      rw [k40, k245]
      exact hbb j hj
  have e1 := fcsC (c := 40) (i := k) (n := n' - 4) (S := C5) (okW_n (by decide) hk) (show n' - 4 + 4 ≤ 300 by omega) (by decide)
  have e2 := fcsM (c := 245) (i := 0) (at' := 300 * k) (n := n' - 4) (S := M5) (by decide) (show 300 * k + (n' - 4) + 4 ≤ 2700 by omega) (by decide)
  rw [crcN_congr (f := C5.1 40 k) (g := fun j => M5.1 245 0 (300 * k + j)) (fun j hj => (hfr j (by omega)).2)] at e1
  generalize hcr : crcN (fun j => M5.1 245 0 (300 * k + j)) (n' - 4) ^^^ (-1) = cr at *
  have f6 : fq flC2 C1 (blk C5 40 k (n' - 4) 4 (bt cr)) := f5.tr (by repeat (first | exact fq.rf | (refine fq.tr ?_ (fq.wr (by decide))) | (refine fq.tr ?_ (fq.bk (by decide))) | (refine fq.tr ?_ (fq.wl (by decide))) | (refine fq.tr ?_ (fq.wR (by decide)))))
  have g6 : fq flM2 M1 (blk M5 245 0 (300 * k + (n' - 4)) 4 (bt cr)) := g5.tr (by repeat (first | exact fq.rf | (refine fq.tr ?_ (fq.wr (by decide))) | (refine fq.tr ?_ (fq.bk (by decide))) | (refine fq.tr ?_ (fq.wl (by decide))) | (refine fq.tr ?_ (fq.wR (by decide)))))
  refine ⟨_, _, eC _ (fun _ => ?_) (fun hy => absurd hlt hy), eM _ (fun _ => ?_) (fun hy => absurd hlt hy), ?_, (fC0.up (by decide)).tr (f6.up (by decide)), (fM0.up (by decide)).tr (g6.up (by decide)), by rw [f6.1 98 (nc (by decide))]; exact c98⟩
  · refine e_gf k92 (e_tp ew1 (e_pf rfl (e_cl t1 (e_gf (v := nI w') (by first | (simp (disch := first | omega | assumption) only [wrI_s, wrI_o, wrI_r, wrL_1, wrL_r, wrL_s, wrL_o, blk_in, blk_out, blk_r, lit, litL, b00, b11, nI_l, lN_add, lN_mul, lN_sub, nI_add, pk_mul, pk_sub, pk_div, remN, Nat.add_sub_cancel, Nat.add_sub_cancel_left, Nat.zero_add, Nat.add_zero]; done) | (simp (disch := first | omega | assumption) only [wrI_s, wrI_o, wrI_r, wrL_1, wrL_r, wrL_s, wrL_o, blk_in, blk_out, blk_r, lit, litL, b00, b11, nI_l, lN_add, lN_mul, lN_sub, nI_add, pk_mul, pk_sub, pk_div, remN, Nat.add_sub_cancel, Nat.add_sub_cancel_left, Nat.zero_add, Nat.add_zero]; rfl) | rfl) (e_pf rfl (e_gf (v := nI n') (by simp (disch := omega) only [wrI_o]; rw [k100]; exact n3) (e_N (by first | (simp (disch := first | omega | assumption) only [wrI_s, wrI_o, wrI_r, wrL_1, wrL_r, wrL_s, wrL_o, blk_in, blk_out, blk_r, lit, litL, b00, b11, nI_l, lN_add, lN_mul, lN_sub, nI_add, pk_mul, pk_sub, pk_div, remN, Nat.add_sub_cancel, Nat.add_sub_cancel_left, Nat.zero_add, Nat.add_zero, nI_eq, nI_leI, nI_ltI, nI_m1, m1_lt, neg_lt, neg_le, neg_ge, neg_gt, neg_eq, not_true, not_false_iff]; done) | (simp (disch := first | omega | assumption) only [wrI_s, wrI_o, wrI_r, wrL_1, wrL_r, wrL_s, wrL_o, blk_in, blk_out, blk_r, lit, litL, b00, b11, nI_l, lN_add, lN_mul, lN_sub, nI_add, pk_mul, pk_sub, pk_div, remN, Nat.add_sub_cancel, Nat.add_sub_cancel_left, Nat.zero_add, Nat.add_zero, nI_eq, nI_leI, nI_ltI, nI_m1, m1_lt, neg_lt, neg_le, neg_ge, neg_gt, neg_eq, not_true, not_false_iff]; omega)) (e_ldA (j := 1) (v := C.1 40 k 1) rfl (by decide) hk (by decide) (by first | (simp (disch := first | omega | assumption) only [k40, wrI_s, wrI_o, wrI_r, wrL_1, wrL_r, wrL_s, wrL_o, blk_in, blk_out, blk_r, lit, litL, b00, b11, nI_l, lN_add, lN_mul, lN_sub, nI_add, pk_mul, pk_sub, pk_div, remN, Nat.add_sub_cancel, Nat.add_sub_cancel_left, Nat.zero_add, Nat.add_zero]; done) | (simp (disch := first | omega | assumption) only [k40, wrI_s, wrI_o, wrI_r, wrL_1, wrL_r, wrL_s, wrL_o, blk_in, blk_out, blk_r, lit, litL, b00, b11, nI_l, lN_add, lN_mul, lN_sub, nI_add, pk_mul, pk_sub, pk_div, remN, Nat.add_sub_cancel, Nat.add_sub_cancel_left, Nat.zero_add, Nat.add_zero]; rfl) | rfl) (e_stA (j := 1) rfl (by decide) hk (by decide) (w := M.1 245 0 (300 * k + 1) ||| 8) (by rw [y1.2]) ?_)))))))))
    rw [hC5]
    refine e_gf (v := nI n') (by rw [f5.1 100 (nc (by decide)), k100]; exact n3) (e_cl (r := ()) ?_ rfl)
    rw [show (4 : Int32) = nI 4 from rfl, pk_sub (by omega)]
    exact e1
  · rw [ew2]
    unfold L_X12_fail_78
    refine e_stA rfl hk (by decide) (by decide) rfl (e_cl t2 (e_ldA (v := nI w') rfl hk (by decide) (by decide) (by first | (simp (disch := first | omega | assumption) only [wrI_s, wrI_o, wrI_r, wrL_1, wrL_r, wrL_s, wrL_o, blk_in, blk_out, blk_r, lit, litL, b00, b11, nI_l, lN_add, lN_mul, lN_sub, nI_add, pk_mul, pk_sub, pk_div, remN, Nat.add_sub_cancel, Nat.add_sub_cancel_left, Nat.zero_add, Nat.add_zero]; done) | (simp (disch := first | omega | assumption) only [wrI_s, wrI_o, wrI_r, wrL_1, wrL_r, wrL_s, wrL_o, blk_in, blk_out, blk_r, lit, litL, b00, b11, nI_l, lN_add, lN_mul, lN_sub, nI_add, pk_mul, pk_sub, pk_div, remN, Nat.add_sub_cancel, Nat.add_sub_cancel_left, Nat.zero_add, Nat.add_zero]; rfl) | rfl) (e_stA rfl hk (by decide) (by decide) rfl (e_tp (w := nI (300 * k)) (by first | (simp (disch := first | omega | assumption) only [wrI_s, wrI_o, wrI_r, wrL_1, wrL_r, wrL_s, wrL_o, blk_in, blk_out, blk_r, lit, litL, b00, b11, nI_l, lN_add, lN_mul, lN_sub, nI_add, pk_mul, pk_sub, pk_div, remN, Nat.add_sub_cancel, Nat.add_sub_cancel_left, Nat.zero_add, Nat.add_zero]; done) | (simp (disch := first | omega | assumption) only [wrI_s, wrI_o, wrI_r, wrL_1, wrL_r, wrL_s, wrL_o, blk_in, blk_out, blk_r, lit, litL, b00, b11, nI_l, lN_add, lN_mul, lN_sub, nI_add, pk_mul, pk_sub, pk_div, remN, Nat.add_sub_cancel, Nat.add_sub_cancel_left, Nat.zero_add, Nat.add_zero]; rfl) | rfl) (e_ldA (j := 300 * k + 1) (v := M.1 245 0 (300 * k + 1)) (by first | (simp (disch := first | omega | assumption) only [wrI_s, wrI_o, wrI_r, wrL_1, wrL_r, wrL_s, wrL_o, blk_in, blk_out, blk_r, lit, litL, b00, b11, nI_l, lN_add, lN_mul, lN_sub, nI_add, pk_mul, pk_sub, pk_div, remN, Nat.add_sub_cancel, Nat.add_sub_cancel_left, Nat.zero_add, Nat.add_zero]; done) | (simp (disch := first | omega | assumption) only [wrI_s, wrI_o, wrI_r, wrL_1, wrL_r, wrL_s, wrL_o, blk_in, blk_out, blk_r, lit, litL, b00, b11, nI_l, lN_add, lN_mul, lN_sub, nI_add, pk_mul, pk_sub, pk_div, remN, Nat.add_sub_cancel, Nat.add_sub_cancel_left, Nat.zero_add, Nat.add_zero]; rfl) | rfl) (by omega) (by decide) (by decide) (by first | (simp (disch := first | omega | assumption) only [k245, wrI_s, wrI_o, wrI_r, wrL_1, wrL_r, wrL_s, wrL_o, blk_in, blk_out, blk_r, lit, litL, b00, b11, nI_l, lN_add, lN_mul, lN_sub, nI_add, pk_mul, pk_sub, pk_div, remN, Nat.add_sub_cancel, Nat.add_sub_cancel_left, Nat.zero_add, Nat.add_zero]; done) | (simp (disch := first | omega | assumption) only [k245, wrI_s, wrI_o, wrI_r, wrL_1, wrL_r, wrL_s, wrL_o, blk_in, blk_out, blk_r, lit, litL, b00, b11, nI_l, lN_add, lN_mul, lN_sub, nI_add, pk_mul, pk_sub, pk_div, remN, Nat.add_sub_cancel, Nat.add_sub_cancel_left, Nat.zero_add, Nat.add_zero]; rfl) | rfl) (e_stA (j := 300 * k + 1) (by first | (simp (disch := first | omega | assumption) only [wrI_s, wrI_o, wrI_r, wrL_1, wrL_r, wrL_s, wrL_o, blk_in, blk_out, blk_r, lit, litL, b00, b11, nI_l, lN_add, lN_mul, lN_sub, nI_add, pk_mul, pk_sub, pk_div, remN, Nat.add_sub_cancel, Nat.add_sub_cancel_left, Nat.zero_add, Nat.add_zero]; done) | (simp (disch := first | omega | assumption) only [wrI_s, wrI_o, wrI_r, wrL_1, wrL_r, wrL_s, wrL_o, blk_in, blk_out, blk_r, lit, litL, b00, b11, nI_l, lN_add, lN_mul, lN_sub, nI_add, pk_mul, pk_sub, pk_div, remN, Nat.add_sub_cancel, Nat.add_sub_cancel_left, Nat.zero_add, Nat.add_zero]; rfl) | rfl) (by omega) (by decide) (by decide) rfl ?_))))))
    rw [hM5]
    refine e_ldA (v := nI n') rfl hk (by decide) (by decide) (by rw [g5.1 246 (nc (by decide)), k246]; exact m246) (e_cl (r := ()) ?_ rfl)
    rw [show (4 : Int32) = nI 4 from rfl, pk_sub (by omega)]
    exact e2
  · have key : ∀ C2 M2, fq flC2 C1 C2 → fq flM2 M1 M2 → IDraw C2 M2 → IHnd C2 M2 → ICon C2 M2 → SS c s d s e p t g l C2 M2 := fun C2 M2 fC gM t1 t4 t5 => ⟨hITape.fr fC gM (by decide) (by decide), t1, hINois.fr fC gM (by decide) (by decide), hIPar.fr fC gM (by decide) (by decide), hISub.fr fC gM (by decide) (by decide), hIKey.fr fC gM (by decide) (by decide), hIRef.fr fC gM (by decide) (by decide), hISta.fr fC gM (by decide) (by decide), hILnk.fr fC gM (by decide) (by decide), hIBeg.fr fC gM (by decide) (by decide), hIQue.fr fC gM (by decide) (by decide), t4, t5, hIDue.fr fC gM (by decide) (by decide), hIWai.fr fC gM (by decide) (by decide), hISnd.fr fC gM (by decide) (by decide), hISlo.fr fC gM (by decide) (by decide), hISto.fr fC gM (by decide) (by decide), hIRng.fr fC gM (by decide) (by decide), hILiv.fr fC gM (by decide) (by decide), hIEnd.fr fC gM (by decide) (by decide), hIPut.fr fC gM (by decide) (by decide), hILat.fr fC gM (by decide) (by decide), hIInb.fr fC gM (by decide) (by decide), hICnt.fr fC gM (by decide) (by decide), hIAlq.fr fC gM (by decide) (by decide)⟩
    refine key _ _ f6 g6 ?_ ?_ ?_
    · exact t3.fr (u := [40, 91]) (w := [245, 248]) (by rw [← hC5]; repeat (first | exact fq.rf | (refine fq.tr ?_ (fq.wr (by decide))) | (refine fq.tr ?_ (fq.bk (by decide))) | (refine fq.tr ?_ (fq.wl (by decide))) | (refine fq.tr ?_ (fq.wR (by decide))))) (by rw [← hM5]; repeat (first | exact fq.rf | (refine fq.tr ?_ (fq.wr (by decide))) | (refine fq.tr ?_ (fq.bk (by decide))) | (refine fq.tr ?_ (fq.wl (by decide))) | (refine fq.tr ?_ (fq.wR (by decide))))) (by decide) (by decide)
    · intro j hj
      obtain ⟨f', u', p'', n'', c1, c2, c3, c4, c5, c6, c7, c8⟩ := hIHnd j hj
      rw [f6.1 102 (nc (by decide)), f6.1 103 (nc (by decide)), f6.1 99 (nc (by decide)), f6.1 100 (nc (by decide)), f6.1 85 (nc (by decide)), f6.1 80 (nc (by decide)), g6.1 243 (nc (by decide)), g6.1 244 (nc (by decide)), g6.1 246 (nc (by decide))]
      refine ⟨f', u', p'', n'', c1, c2, c3, c4, c5, c6, c7, fun h0 => ?_⟩
      obtain ⟨r1, r2, r3⟩ := c8 h0
      refine ⟨r1, r2, ?_⟩
      rcases r3 with r3 | ⟨r3, r4, r5, r6, r7, r8⟩
      · exact Or.inl r3
      · refine Or.inr ⟨r3, r4, r5, r6, fun i hi => ?_, ?_⟩
        · by_cases hjk : j = k
          · subst hjk
            have en : n'' = n' := (nI_eq (by omega) (by omega)).mp (c6.symm.trans (by rw [k100]; exact n3))
            subst en
            by_cases hi4 : i < n'' - 4
            · rw [blk_out (by omega), blk_out (by omega)]
              exact hfr i hi
            · rw [blk_in (by omega) (by omega), blk_in (by omega) (by omega), show 300 * j + i - (300 * j + (n'' - 4)) = i - (n'' - 4) by omega]
              exact ⟨bt_B _ _, rfl⟩
          · rw [blk_out (by omega), blk_out (by omega), ← hC5, ← hM5]
            simp (disch := omega) only [wrI_o]
            exact r7 i hi
        · rw [blk_out (by omega), ← hM5]
          simp (disch := omega) only [wrI_o]
          exact r8
    · intro j hj
      obtain ⟨r1, r2, cw', r3, r4, r5⟩ := hICon j hj
      rw [blk_ne (by decide), blk_ne (by decide), blk_ne (by decide), blk_ne (by decide), blk_ne (by decide), blk_ne (by decide), ← hC5, ← hM5]
      by_cases hjk : j = k
      · subst hjk
        exact ⟨(by first | (simp (disch := first | omega | assumption) only [wrI_s, wrI_o, wrI_r, wrL_1, wrL_r, wrL_s, wrL_o, blk_in, blk_out, blk_r, lit, litL, b00, b11, nI_l, lN_add, lN_mul, lN_sub, nI_add, pk_mul, pk_sub, pk_div, remN, Nat.add_sub_cancel, Nat.add_sub_cancel_left, Nat.zero_add, Nat.add_zero]; done) | (simp (disch := first | omega | assumption) only [wrI_s, wrI_o, wrI_r, wrL_1, wrL_r, wrL_s, wrL_o, blk_in, blk_out, blk_r, lit, litL, b00, b11, nI_l, lN_add, lN_mul, lN_sub, nI_add, pk_mul, pk_sub, pk_div, remN, Nat.add_sub_cancel, Nat.add_sub_cancel_left, Nat.zero_add, Nat.add_zero]; rfl) | rfl), (by first | (simp (disch := first | omega | assumption) only [r2, wrI_s, wrI_o, wrI_r, wrL_1, wrL_r, wrL_s, wrL_o, blk_in, blk_out, blk_r, lit, litL, b00, b11, nI_l, lN_add, lN_mul, lN_sub, nI_add, pk_mul, pk_sub, pk_div, remN, Nat.add_sub_cancel, Nat.add_sub_cancel_left, Nat.zero_add, Nat.add_zero]; done) | (simp (disch := first | omega | assumption) only [r2, wrI_s, wrI_o, wrI_r, wrL_1, wrL_r, wrL_s, wrL_o, blk_in, blk_out, blk_r, lit, litL, b00, b11, nI_l, lN_add, lN_mul, lN_sub, nI_add, pk_mul, pk_sub, pk_div, remN, Nat.add_sub_cancel, Nat.add_sub_cancel_left, Nat.zero_add, Nat.add_zero]; rfl) | rfl), w', hw', (by first | (simp (disch := first | omega | assumption) only [wrI_s, wrI_o, wrI_r, wrL_1, wrL_r, wrL_s, wrL_o, blk_in, blk_out, blk_r, lit, litL, b00, b11, nI_l, lN_add, lN_mul, lN_sub, nI_add, pk_mul, pk_sub, pk_div, remN, Nat.add_sub_cancel, Nat.add_sub_cancel_left, Nat.zero_add, Nat.add_zero]; done) | (simp (disch := first | omega | assumption) only [wrI_s, wrI_o, wrI_r, wrL_1, wrL_r, wrL_s, wrL_o, blk_in, blk_out, blk_r, lit, litL, b00, b11, nI_l, lN_add, lN_mul, lN_sub, nI_add, pk_mul, pk_sub, pk_div, remN, Nat.add_sub_cancel, Nat.add_sub_cancel_left, Nat.zero_add, Nat.add_zero]; rfl) | rfl), (by first | (simp (disch := first | omega | assumption) only [wrI_s, wrI_o, wrI_r, wrL_1, wrL_r, wrL_s, wrL_o, blk_in, blk_out, blk_r, lit, litL, b00, b11, nI_l, lN_add, lN_mul, lN_sub, nI_add, pk_mul, pk_sub, pk_div, remN, Nat.add_sub_cancel, Nat.add_sub_cancel_left, Nat.zero_add, Nat.add_zero]; done) | (simp (disch := first | omega | assumption) only [wrI_s, wrI_o, wrI_r, wrL_1, wrL_r, wrL_s, wrL_o, blk_in, blk_out, blk_r, lit, litL, b00, b11, nI_l, lN_add, lN_mul, lN_sub, nI_add, pk_mul, pk_sub, pk_div, remN, Nat.add_sub_cancel, Nat.add_sub_cancel_left, Nat.zero_add, Nat.add_zero]; rfl) | rfl)⟩
      · exact ⟨(by first | (simp (disch := first | omega | assumption) only [r1, wrI_s, wrI_o, wrI_r, wrL_1, wrL_r, wrL_s, wrL_o, blk_in, blk_out, blk_r, lit, litL, b00, b11, nI_l, lN_add, lN_mul, lN_sub, nI_add, pk_mul, pk_sub, pk_div, remN, Nat.add_sub_cancel, Nat.add_sub_cancel_left, Nat.zero_add, Nat.add_zero]; done) | (simp (disch := first | omega | assumption) only [r1, wrI_s, wrI_o, wrI_r, wrL_1, wrL_r, wrL_s, wrL_o, blk_in, blk_out, blk_r, lit, litL, b00, b11, nI_l, lN_add, lN_mul, lN_sub, nI_add, pk_mul, pk_sub, pk_div, remN, Nat.add_sub_cancel, Nat.add_sub_cancel_left, Nat.zero_add, Nat.add_zero]; rfl) | rfl), (by first | (simp (disch := first | omega | assumption) only [r2, wrI_s, wrI_o, wrI_r, wrL_1, wrL_r, wrL_s, wrL_o, blk_in, blk_out, blk_r, lit, litL, b00, b11, nI_l, lN_add, lN_mul, lN_sub, nI_add, pk_mul, pk_sub, pk_div, remN, Nat.add_sub_cancel, Nat.add_sub_cancel_left, Nat.zero_add, Nat.add_zero]; done) | (simp (disch := first | omega | assumption) only [r2, wrI_s, wrI_o, wrI_r, wrL_1, wrL_r, wrL_s, wrL_o, blk_in, blk_out, blk_r, lit, litL, b00, b11, nI_l, lN_add, lN_mul, lN_sub, nI_add, pk_mul, pk_sub, pk_div, remN, Nat.add_sub_cancel, Nat.add_sub_cancel_left, Nat.zero_add, Nat.add_zero]; rfl) | rfl), cw', r3, (by first | (simp (disch := first | omega | assumption) only [r4, wrI_s, wrI_o, wrI_r, wrL_1, wrL_r, wrL_s, wrL_o, blk_in, blk_out, blk_r, lit, litL, b00, b11, nI_l, lN_add, lN_mul, lN_sub, nI_add, pk_mul, pk_sub, pk_div, remN, Nat.add_sub_cancel, Nat.add_sub_cancel_left, Nat.zero_add, Nat.add_zero]; done) | (simp (disch := first | omega | assumption) only [r4, wrI_s, wrI_o, wrI_r, wrL_1, wrL_r, wrL_s, wrL_o, blk_in, blk_out, blk_r, lit, litL, b00, b11, nI_l, lN_add, lN_mul, lN_sub, nI_add, pk_mul, pk_sub, pk_div, remN, Nat.add_sub_cancel, Nat.add_sub_cancel_left, Nat.zero_add, Nat.add_zero]; rfl) | rfl), (by first | (simp (disch := first | omega | assumption) only [r5, wrI_s, wrI_o, wrI_r, wrL_1, wrL_r, wrL_s, wrL_o, blk_in, blk_out, blk_r, lit, litL, b00, b11, nI_l, lN_add, lN_mul, lN_sub, nI_add, pk_mul, pk_sub, pk_div, remN, Nat.add_sub_cancel, Nat.add_sub_cancel_left, Nat.zero_add, Nat.add_zero]; done) | (simp (disch := first | omega | assumption) only [r5, wrI_s, wrI_o, wrI_r, wrL_1, wrL_r, wrL_s, wrL_o, blk_in, blk_out, blk_r, lit, litL, b00, b11, nI_l, lN_add, lN_mul, lN_sub, nI_add, pk_mul, pk_sub, pk_div, remN, Nat.add_sub_cancel, Nat.add_sub_cancel_left, Nat.zero_add, Nat.add_zero]; rfl) | rfl)⟩
