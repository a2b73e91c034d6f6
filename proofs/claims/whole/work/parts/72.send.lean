/-! A NODE SENDS -/
theorem outM_264 {M : Mm} {R n sd s t g l : Nat} {f : Nat → Int32} : (outM M R n sd s t g l f).1 264 0 l = nI g := by
  rw [outM_B.1 264 (nc (by decide))]
  unfold outB outM0
  first | (simp (disch := first | omega | assumption) only [wrI_s, wrI_o, wrI_r, wrL_1, wrL_r, wrL_s, wrL_o, blk_in, blk_out, blk_r, lit, litL, b00, b11, nI_l, lN_add, lN_mul, lN_sub, nI_add, pk_mul, pk_sub, pk_div, remN, Nat.add_sub_cancel, Nat.add_sub_cancel_left, Nat.zero_add, Nat.add_zero]; done) | (simp (disch := first | omega | assumption) only [wrI_s, wrI_o, wrI_r, wrL_1, wrL_r, wrL_s, wrL_o, blk_in, blk_out, blk_r, lit, litL, b00, b11, nI_l, lN_add, lN_mul, lN_sub, nI_add, pk_mul, pk_sub, pk_div, remN, Nat.add_sub_cancel, Nat.add_sub_cancel_left, Nat.zero_add, Nat.add_zero]; rfl) | rfl
theorem send {c s d w p t g l : Nat} {C M : Mm} (h : SS c s d w s p t g l C M) {k cv i cv2 at' n ak : Nat} (hc : c ≤ 512) (hk : k < 9) (hs : s < 2 ^ 28) (hg : g < 2 ^ 29) (hl : l < 2 ^ 31) (hd0 : C.1 94 k 0 = -nI 1 ∧ M.1 257 0 k = nI 0) (h254 : M.1 254 0 k = -nI 1) (ho : okW false cv i = true) (hcv : dj [71, 72] [cv] = true) (hn0 : 1 ≤ n) (hn : n ≤ 300) (hkc : n ≤ kn cv) (hkc2 : kn cv < 50000) (ho2 : okW true cv2 0 = true) (hcv2 : dj [254, 260, 261, 262, 263, 264, 265, 266, 267, 268, 269, 270, 271, 301, 304] [cv2] = true) (hk2 : at' + n ≤ kn cv2) (hk3 : kn cv2 < 50000) (hb : ∀ j, j < n → isB (M.1 cv2 0 (at' + j)) ∧ C.1 cv i j = M.1 cv2 0 (at' + j)) (hak : (ak = 1 ∧ n = 14 ∧ M.1 cv2 0 at' = nI 212) ∨ (ak = 0 ∧ ¬ M.1 cv2 0 at' = nI 212 ∧ M.1 255 0 k = nI 0 ∧ pos12 C k ∧ len1 C k)) : ∃ C1 T C' M', F_X5_begin cv i (nI n) (nI k) C = some (nI T, C1) ∧ C' = wrI (wrI C1 96 k 0 (nI T)) 97 k 0 (nI ak) ∧ F_X12_goesOut (nI k) cv2 0 (nI at') (nI n) M = some ((), M') ∧ SS c s d w s p t (g + 1) (l + 1) C' M' ∧ fq (96 :: 97 :: outCl) C C' ∧ fq outMl M M' ∧ (∀ j, ¬ j = k → M'.1 254 0 j = M.1 254 0 j) := by
  have hl2 := live_lt h hc hl
  obtain ⟨hITape, hIDraw, hINois, hIPar, hISub, hIKey, hIRef, hISta, hILnk, hIBeg, hIQue, hIHnd, hICon, hIDue, hIWai, hISnd, hISlo, hISto, hIRng, hILiv, hIEnd, hIPut, hILat, hIInb, hICnt, hIAlq⟩ := h
  have hsl : slN n ≤ 12 ∧ 3 ≤ slN n := by unfold slN; omega
  have hE := hIEnd (slN n - 1) (by omega)
  rw [show s + (slN n - 1) = s + slN n - 1 by omega] at hE
  have e1 := outCe (sd := k) hISlo hIRef ho hcv hn0 hn hkc hkc2 (by omega) (by omega) (by omega) hE
  have e2 := outMe (sd := k) hISlo ho2 hcv2 hn0 hn hk2 hk3 (by omega) (by omega) (by omega) (by omega)
  have oI := outI (sd := k) (fC := C.1 cv i) (fM := fun j => M.1 cv2 0 (at' + j)) hISlo hIRng hILiv hIEnd hn0 hn (by omega) hg (by omega) (by omega) hb hE
  generalize he : cnt (fun v => decide (M.1 261 0 v = nI (s + slN n - 1))) l = e at *
  obtain ⟨i1, i2, i3, i4⟩ := oI
  obtain ⟨r254, r254'⟩ := outM_254 (M := M) (R := g % 40) (n := n) (sd := k) (s := s) (t := s + slN n - 1) (g := g) (l := l) (f := fun j => M.1 cv2 0 (at' + j)) hk
  obtain ⟨⟨w1, w2, w3, w4⟩, w5⟩ := outM_row (M := M) (R := g % 40) (n := n) (sd := k) (s := s) (t := s + slN n - 1) (g := g) (l := l) (f := fun j => M.1 cv2 0 (at' + j)) hn0
  have c9 := cnt9 (M := M) (R := g % 40) (n := n) (sd := k) (s := s) (t := s + slN n - 1) (g := g) (l := l) (f := fun j => M.1 cv2 0 (at' + j)) hn0 (by omega)
  have gq := outM_q (M := M) (R := g % 40) (n := n) (sd := k) (s := s) (t := s + slN n - 1) (g := g) (l := l) (f := fun j => M.1 cv2 0 (at' + j))
  have fq1 := outC_q (C := C) (R := g % 40) (n := n) (sd := k) (s := s) (t := s + slN n - 1) (e := e) (g := g) (l := l) (f := C.1 cv i)
  have gB := outM_B (M := M) (R := g % 40) (n := n) (sd := k) (s := s) (t := s + slN n - 1) (g := g) (l := l) (f := fun j => M.1 cv2 0 (at' + j))
  have w6 := outM_264 (M := M) (R := g % 40) (n := n) (sd := k) (s := s) (t := s + slN n - 1) (g := g) (l := l) (f := fun j => M.1 cv2 0 (at' + j))
  generalize hT : s + slN n - 1 = T at *
  refine ⟨_, T, _, _, e1, rfl, e2, ?_, ?_, gq, r254'⟩
  · generalize outC C (g % 40) n k s T e g l (C.1 cv i) = C1 at *
    generalize outM M (g % 40) n k s T g l (fun j => M.1 cv2 0 (at' + j)) = M1 at *
    have f97 : fq [96, 97] C1 (wrI (wrI C1 96 k 0 (nI T)) 97 k 0 (nI ak)) := by repeat (first | exact fq.rf | (refine fq.tr ?_ (fq.wr (by decide))) | (refine fq.tr ?_ (fq.bk (by decide))) | (refine fq.tr ?_ (fq.wl (by decide))) | (refine fq.tr ?_ (fq.wR (by decide))))
    have hpos : ∀ j, pos12 C j → pos12 (wrI (wrI C1 96 k 0 (nI T)) 97 k 0 (nI ak)) j := by
      rintro j ⟨u, a1, a2, a3⟩
      exact ⟨u, a1, a2, by rw [f97.1 103 (nc (by decide)), fq1.1 103 (nc (by decide))]; exact a3⟩
    have hlen1 : ∀ j, len1 C j → len1 (wrI (wrI C1 96 k 0 (nI T)) 97 k 0 (nI ak)) j := by
      rintro j ⟨u, a1, a2, a3⟩
      exact ⟨u, a1, a2, by rw [f97.1 100 (nc (by decide)), fq1.1 100 (nc (by decide))]; exact a3⟩
    have m255 : M1.1 255 = M.1 255 := gq.1 255 (nc (by decide))
    have c96 : C1.1 96 = C.1 96 := fq1.1 96 (nc (by decide))
    have c97 : C1.1 97 = C.1 97 := fq1.1 97 (nc (by decide))
    have key : ∀ C' M', fq (96 :: 97 :: outCl) C C' → fq outMl M M' → IDue d C' M' → ISnd s (l + 1) C' M' → ISlo s (g + 1) (l + 1) C' M' → IRng s (g + 1) (l + 1) C' M' → ILiv s (g + 1) (l + 1) C' M' → IEnd s (l + 1) C' M' → ICnt c (l + 1) C' M' → IAlq (g + 1) (l + 1) C' M' → SS c s d w s p t (g + 1) (l + 1) C' M' := fun C' M' fC gM tIDue tISnd tISlo tIRng tILiv tIEnd tICnt tIAlq => ⟨hITape.fr fC gM (by decide) (by decide), hIDraw.fr fC gM (by decide) (by decide), hINois.fr fC gM (by decide) (by decide), hIPar.fr fC gM (by decide) (by decide), hISub.fr fC gM (by decide) (by decide), hIKey.fr fC gM (by decide) (by decide), hIRef.fr fC gM (by decide) (by decide), hISta.fr fC gM (by decide) (by decide), hILnk.fr fC gM (by decide) (by decide), hIBeg.fr fC gM (by decide) (by decide), hIQue.fr fC gM (by decide) (by decide), hIHnd.fr fC gM (by decide) (by decide), hICon.fr fC gM (by decide) (by decide), tIDue, hIWai.fr fC gM (by decide) (by decide), tISnd, tISlo, hISto.fr fC gM (by decide) (by decide), tIRng, tILiv, tIEnd, hIPut.fr fC gM (by decide) (by decide), hILat.fr fC gM (by decide) (by decide), hIInb.fr fC gM (by decide) (by decide), tICnt, tIAlq⟩
    refine key _ _ ((fq1.up (by decide)).tr (f97.up (by decide))) gq ?_ ?_ (i1.fr f97 gB (by decide) (by decide)) (i2.fr f97 gB (by decide) (by decide)) (i3.fr f97 gB (by decide) (by decide)) (i4.fr f97 gB (by decide) (by decide)) ?_ (fun v hv hvl _ => by
      have e : v = l := by omega
      rw [e, w6, nI_1])
    · intro j hj
      obtain ⟨d1, d2⟩ := hIDue j hj
      rw [f97.1 39 (nc (by decide)), fq1.1 39 (nc (by decide)), f97.1 94 (nc (by decide)), fq1.1 94 (nc (by decide)), f97.1 95 (nc (by decide)), fq1.1 95 (nc (by decide)), f97.1 103 (nc (by decide)), fq1.1 103 (nc (by decide)), gq.2.1 259 (nc (by decide)), gq.1 257 (nc (by decide)), gq.1 258 (nc (by decide)), m255]
      refine ⟨d1, ?_⟩
      by_cases hjk : j = k
      · subst hjk
        exact Or.inl hd0
      · rw [r254' j hjk]
        exact d2
    · refine ⟨fun j hj => ?_, fun v j hv hj hvj => ?_⟩
      · by_cases hjk : j = k
        · subst hjk
          refine Or.inr ⟨l, T, n, by omega, r254, w1, w2, by omega, (by first | (simp (disch := first | omega | assumption) only [wrI_s, wrI_o, wrI_r, wrL_1, wrL_r, wrL_s, wrL_o, blk_in, blk_out, blk_r, lit, litL, b00, b11, nI_l, lN_add, lN_mul, lN_sub, nI_add, pk_mul, pk_sub, pk_div, remN, Nat.add_sub_cancel, Nat.add_sub_cancel_left, Nat.zero_add, Nat.add_zero]; done) | (simp (disch := first | omega | assumption) only [wrI_s, wrI_o, wrI_r, wrL_1, wrL_r, wrL_s, wrL_o, blk_in, blk_out, blk_r, lit, litL, b00, b11, nI_l, lN_add, lN_mul, lN_sub, nI_add, pk_mul, pk_sub, pk_div, remN, Nat.add_sub_cancel, Nat.add_sub_cancel_left, Nat.zero_add, Nat.add_zero]; rfl) | rfl), w3, hn, ?_⟩
          rw [w4, m255]
          rcases hak with ⟨q1, q2, q3⟩ | ⟨q1, q2, q3, q4, q5⟩
          · exact Or.inl ⟨by rw [q1]; first | (simp (disch := first | omega | assumption) only [wrI_s, wrI_o, wrI_r, wrL_1, wrL_r, wrL_s, wrL_o, blk_in, blk_out, blk_r, lit, litL, b00, b11, nI_l, lN_add, lN_mul, lN_sub, nI_add, pk_mul, pk_sub, pk_div, remN, Nat.add_sub_cancel, Nat.add_sub_cancel_left, Nat.zero_add, Nat.add_zero]; done) | (simp (disch := first | omega | assumption) only [wrI_s, wrI_o, wrI_r, wrL_1, wrL_r, wrL_s, wrL_o, blk_in, blk_out, blk_r, lit, litL, b00, b11, nI_l, lN_add, lN_mul, lN_sub, nI_add, pk_mul, pk_sub, pk_div, remN, Nat.add_sub_cancel, Nat.add_sub_cancel_left, Nat.zero_add, Nat.add_zero]; rfl) | rfl, by rw [Nat.add_zero]; exact q3, q2⟩
          · obtain ⟨u, a1, a2, a3⟩ := hpos j q4
            obtain ⟨n', b1, b2, b3⟩ := hlen1 j q5
            exact Or.inr ⟨by rw [q1]; first | (simp (disch := first | omega | assumption) only [wrI_s, wrI_o, wrI_r, wrL_1, wrL_r, wrL_s, wrL_o, blk_in, blk_out, blk_r, lit, litL, b00, b11, nI_l, lN_add, lN_mul, lN_sub, nI_add, pk_mul, pk_sub, pk_div, remN, Nat.add_sub_cancel, Nat.add_sub_cancel_left, Nat.zero_add, Nat.add_zero]; done) | (simp (disch := first | omega | assumption) only [wrI_s, wrI_o, wrI_r, wrL_1, wrL_r, wrL_s, wrL_o, blk_in, blk_out, blk_r, lit, litL, b00, b11, nI_l, lN_add, lN_mul, lN_sub, nI_add, pk_mul, pk_sub, pk_div, remN, Nat.add_sub_cancel, Nat.add_sub_cancel_left, Nat.zero_add, Nat.add_zero]; rfl) | rfl, by rw [Nat.add_zero]; exact q2, q3, u, n', a1, a2, a3, b1, b2, b3⟩
        · rw [r254' j hjk, m255]
          rcases hISnd.1 j hj with ⟨q1, q2⟩ | ⟨v, t', m, q1, q2, q3, q4, q5, q6, q7, q8, q9⟩
          · refine Or.inl ⟨q1, ?_⟩
            have e96 : (wrI (wrI C1 96 k 0 (nI T)) 97 k 0 (nI ak)).1 96 j 0 = C.1 96 j 0 := (by first | (simp (disch := first | omega | assumption) only [c96, wrI_s, wrI_o, wrI_r, wrL_1, wrL_r, wrL_s, wrL_o, blk_in, blk_out, blk_r, lit, litL, b00, b11, nI_l, lN_add, lN_mul, lN_sub, nI_add, pk_mul, pk_sub, pk_div, remN, Nat.add_sub_cancel, Nat.add_sub_cancel_left, Nat.zero_add, Nat.add_zero]; done) | (simp (disch := first | omega | assumption) only [c96, wrI_s, wrI_o, wrI_r, wrL_1, wrL_r, wrL_s, wrL_o, blk_in, blk_out, blk_r, lit, litL, b00, b11, nI_l, lN_add, lN_mul, lN_sub, nI_add, pk_mul, pk_sub, pk_div, remN, Nat.add_sub_cancel, Nat.add_sub_cancel_left, Nat.zero_add, Nat.add_zero]; rfl) | rfl)
            rw [e96]
            exact q2
          · have e97 : (wrI (wrI C1 96 k 0 (nI T)) 97 k 0 (nI ak)).1 97 j 0 = C.1 97 j 0 := (by first | (simp (disch := first | omega | assumption) only [c97, wrI_s, wrI_o, wrI_r, wrL_1, wrL_r, wrL_s, wrL_o, blk_in, blk_out, blk_r, lit, litL, b00, b11, nI_l, lN_add, lN_mul, lN_sub, nI_add, pk_mul, pk_sub, pk_div, remN, Nat.add_sub_cancel, Nat.add_sub_cancel_left, Nat.zero_add, Nat.add_zero]; done) | (simp (disch := first | omega | assumption) only [c97, wrI_s, wrI_o, wrI_r, wrL_1, wrL_r, wrL_s, wrL_o, blk_in, blk_out, blk_r, lit, litL, b00, b11, nI_l, lN_add, lN_mul, lN_sub, nI_add, pk_mul, pk_sub, pk_div, remN, Nat.add_sub_cancel, Nat.add_sub_cancel_left, Nat.zero_add, Nat.add_zero]; rfl) | rfl)
            refine Or.inr ⟨v, t', m, by omega, q2, by rw [(w5 v q1).1]; exact q3, by rw [(w5 v q1).2.1]; exact q4, q5, (by first | (simp (disch := first | omega | assumption) only [c96, q6, wrI_s, wrI_o, wrI_r, wrL_1, wrL_r, wrL_s, wrL_o, blk_in, blk_out, blk_r, lit, litL, b00, b11, nI_l, lN_add, lN_mul, lN_sub, nI_add, pk_mul, pk_sub, pk_div, remN, Nat.add_sub_cancel, Nat.add_sub_cancel_left, Nat.zero_add, Nat.add_zero]; done) | (simp (disch := first | omega | assumption) only [c96, q6, wrI_s, wrI_o, wrI_r, wrL_1, wrL_r, wrL_s, wrL_o, blk_in, blk_out, blk_r, lit, litL, b00, b11, nI_l, lN_add, lN_mul, lN_sub, nI_add, pk_mul, pk_sub, pk_div, remN, Nat.add_sub_cancel, Nat.add_sub_cancel_left, Nat.zero_add, Nat.add_zero]; rfl) | rfl), by rw [(w5 v q1).2.2.1]; exact q7, q8, ?_⟩
            rw [(w5 v q1).2.2.2, e97]
            rcases q9 with q9 | ⟨y1, y2, y3, u, n', a1, a2, a3, b1, b2, b3⟩
            · exact Or.inl q9
            · obtain ⟨u', a1', a2', a3'⟩ := hpos j ⟨u, a1, a2, a3⟩
              obtain ⟨n'', b1', b2', b3'⟩ := hlen1 j ⟨n', b1, b2, b3⟩
              exact Or.inr ⟨y1, y2, y3, u', n'', a1', a2', a3', b1', b2', b3'⟩
      · by_cases hvl : v = l
        · subst hvl
          rw [w1] at hvj
          have ejk : k = j := (nI_eq (by omega) (by omega)).mp hvj
          subst ejk
          exact r254
        · rw [(w5 v (by omega)).1] at hvj
          have q := hISnd.2 v j (by omega) hj hvj
          by_cases hjk : j = k
          · subst hjk
            rw [h254] at q
            exact absurd q.symm (by rw [nI_m1 (by omega)]; exact id)
          · rw [r254' j hjk]
            exact q
    · obtain ⟨n', p', P, c1, c2, c3, c4, c5, c6⟩ := hICnt
      refine ⟨n', p', P, c1, c2, by rw [gq.1 291 (nc (by decide))]; exact c3, by rw [gq.1 306 (nc (by decide))]; exact c4, ?_, c6⟩
      rw [c9, if_neg (by omega), Nat.add_zero]
      exact c5
  · exact (fq1.up (by decide)).tr (by repeat (first | exact fq.rf | (refine fq.tr ?_ (fq.wr (by decide))) | (refine fq.tr ?_ (fq.bk (by decide))) | (refine fq.tr ?_ (fq.wl (by decide))) | (refine fq.tr ?_ (fq.wR (by decide)))))
