/-! A HAND IS QUEUED, both sides -/
abbrev qhM : List Nat := [201, 202, 203, 204, 205, 206, 234, 235, 236, 237, 238, 239, 240, 241, 242, 243, 244, 247, 248, 253, 289, 290, 294, 297]
theorem qhC3 {C1 : Mm} {a f hd i L : Nat} {N : Nat → Int32} (ha : a < 108) (hf : f < 9) (hhd : 1 ≤ hd ∧ hd ≤ 4) (hL : L = if hd = 4 then 9 else 41) (hr : C1.2.2 52 0 f = f) (hn : ∀ j, j < 32 → C1.1 37 f j = N j) : ∃ S3, fq [36] C1 S3 ∧ (∀ b, ¬ b = a → S3.1 36 b = C1.1 36 b) ∧ (∀ j, j < L → S3.1 36 a j = hm0 N hd j) ∧ (cl (F_X2_writeHead 36 a 136 142 C1) fun r5 S6 => stA S6 36 a 208 108 8 (nI hd) fun S8 => if nI hd = 4 then (L_X11_queueHand_71 (nI hd) 22 i a a 9 S8) else (ldR S8 52 0 9 1 (nI f) 9 fun i9 => cpP false S8 37 i9 0 36 a 9 32 fun S10 => L_X11_queueHand_71 (nI hd) 22 i a a (9 + 32) S10)) = L_X11_queueHand_71 (nI hd) 22 i a a (nI L) S3 := by
  obtain ⟨S1, w1, w2, w3, w4⟩ := hedC (c := 36) (i := a) (x := 136) (y := 142) (S := C1) (okW_n (by decide) ha) (by decide) (by decide)
  have b2 : ∀ j, j < 9 → (wrI S1 36 a 8 (nI hd)).1 36 a j = hm0 N hd j := by
    intro j hj
    unfold hm0
    by_cases h8 : j = 8
    · rw [h8, wrI_s, if_neg (by decide), if_pos rfl]
    · rw [wrI_o (by omega), if_pos (by omega)]
      exact w2 j (by omega)
  have f2 : fq [36] C1 (wrI S1 36 a 8 (nI hd)) := w3.tr (by repeat (first | exact fq.rf | (refine fq.tr ?_ (fq.wr (by decide))) | (refine fq.tr ?_ (fq.bk (by decide))) | (refine fq.tr ?_ (fq.wl (by decide))) | (refine fq.tr ?_ (fq.wR (by decide)))))
  have o2 : ∀ b, ¬ b = a → (wrI S1 36 a 8 (nI hd)).1 36 b = C1.1 36 b := by
    intro b hb
    funext d
    rw [wrI_o (by omega), w4 b hb]
  by_cases h4 : hd = 4
  · rw [if_pos h4] at hL
    refine ⟨wrI S1 36 a 8 (nI hd), f2, o2, by rw [hL]; exact b2, ?_⟩
    exact e_cl w1 (e_stA (j := 8) rfl (by decide) ha (by decide) rfl (e_T (by rw [h4]; rfl) (by rw [hL]; rfl)))
  · rw [if_neg h4] at hL
    have r37 : ∀ j, rdI (wrI S1 36 a 8 (nI hd)) 37 f j = C1.1 37 f j := fun j => by
      show (wrI S1 36 a 8 (nI hd)).1 37 f j = _
      rw [f2.1 37 (nc (by decide))]
    refine ⟨blk (wrI S1 36 a 8 (nI hd)) 36 a 9 32 (fun k => rdI (wrI S1 36 a 8 (nI hd)) 37 f (0 + k)), f2.tr (by repeat (first | exact fq.rf | (refine fq.tr ?_ (fq.wr (by decide))) | (refine fq.tr ?_ (fq.bk (by decide))) | (refine fq.tr ?_ (fq.wl (by decide))) | (refine fq.tr ?_ (fq.wR (by decide))))), fun b hb => ?_, fun j hj => ?_, ?_⟩
    · funext d
      rw [blk_out (by omega), o2 b hb]
    · by_cases h9 : j < 9
      · rw [blk_out (by omega)]
        exact b2 j h9
      · rw [blk_in (by omega) (by omega), Nat.zero_add, r37, hn _ (by omega)]
        unfold hm0
        rw [if_neg (by omega), if_neg (by omega)]
    · refine e_cl w1 (e_stA (j := 8) rfl (by decide) ha (by decide) rfl (e_N (by first | (simp (disch := first | omega | assumption) only [wrI_s, wrI_o, wrI_r, wrL_1, wrL_r, wrL_s, wrL_o, blk_in, blk_out, blk_r, lit, litL, b00, b11, nI_l, lN_add, lN_mul, lN_sub, nI_add, pk_mul, pk_sub, pk_div, remN, Nat.add_sub_cancel, Nat.add_sub_cancel_left, Nat.zero_add, Nat.add_zero, nI_eq, nI_leI, nI_ltI, nI_m1, m1_lt, neg_lt, neg_le, neg_ge, neg_gt, neg_eq, not_true, not_false_iff]; done) | (simp (disch := first | omega | assumption) only [wrI_s, wrI_o, wrI_r, wrL_1, wrL_r, wrL_s, wrL_o, blk_in, blk_out, blk_r, lit, litL, b00, b11, nI_l, lN_add, lN_mul, lN_sub, nI_add, pk_mul, pk_sub, pk_div, remN, Nat.add_sub_cancel, Nat.add_sub_cancel_left, Nat.zero_add, Nat.add_zero, nI_eq, nI_leI, nI_ltI, nI_m1, m1_lt, neg_lt, neg_le, neg_ge, neg_gt, neg_eq, not_true, not_false_iff]; omega)) (e_ldR rfl hf (by decide) (by decide) (by show S1.2.2 52 0 f = f; rw [w3.2.2 52 (nc (by decide))]; exact hr) hf ?_)))
      rw [show (0 : Int32) = nI 0 from rfl, show (9 : Int32) = nI 9 from rfl, show (32 : Int32) = nI 32 from rfl, cpP_n (c0 := 37) (c1 := 36) (sp := 0) (dp := 9) (n := 32) (okP_n (by decide) hf) (okW_n (by decide) ha) (by decide) (by decide) (by decide) (by decide), nI_add, hL]
theorem qhC4 {S3 : Mm} {a hd i L : Nat} {N K : Nat → Int32} (ha : a < 108) (hi : i < 18) (hhd : 1 ≤ hd ∧ hd ≤ 4) (hL : L = if hd = 4 then 9 else 41) (hb : ∀ j, j < L → S3.1 36 a j = hm0 N hd j) (hk : ∀ j, j < 16 → S3.1 22 i j = K j) : ∃ C2, fq [36, 46, 47, 48, 49, 50, 51, 80] S3 C2 ∧ (∀ b, ¬ b = a → C2.1 36 b = S3.1 36 b ∧ C2.1 80 b = S3.1 80 b) ∧ C2.1 80 a 0 = nI (if hd = 1 then L else L + 16) ∧ (∀ j, j < (if hd = 1 then L else L + 16) → C2.1 36 a j = hm1 N K hd L j) ∧ L_X11_queueHand_71 (nI hd) 22 i a a (nI L) S3 = some ((), C2) := by
  have hL9 : 9 ≤ L ∧ L ≤ 41 := by rw [hL]; split <;> omega
  unfold L_X11_queueHand_71 L_X11_queueHand_116
  by_cases h1 : hd = 1
  · rw [if_pos h1]
    refine ⟨wrI S3 80 a 0 (nI L), by repeat (first | exact fq.rf | (refine fq.tr ?_ (fq.wr (by decide))) | (refine fq.tr ?_ (fq.bk (by decide))) | (refine fq.tr ?_ (fq.wl (by decide))) | (refine fq.tr ?_ (fq.wR (by decide)))), fun b hb' => ⟨by rw [wrI_ne (by decide)], by funext d; rw [wrI_o (by omega)]⟩, wrI_s, fun j hj => ?_, e_T (by rw [h1]; rfl) (e_pf rfl rfl)⟩
    rw [wrI_ne (by decide), hb j hj]
    unfold hm1
    rw [if_pos hj]
  · rw [if_neg h1]
    obtain ⟨S4, u1, u2, u3⟩ := hmacC (c := 22) (i := i) (kl := 16) (c3 := 36) (i3 := a) (at' := 8) (len := L - 8) (S := S3) (okP_n (by decide) hi) (by decide) (by decide) (by decide) (okP_n (by decide) ha) (by decide) (show 8 + (L - 8) ≤ 208 by omega) (by decide) (by omega)
    have u4 : ∀ j, j < 16 → rdI S4 46 0 (0 + j) = hmac K 16 (fun k => hm0 N hd (8 + k)) (L - 8) j := fun j hj => by
      rw [Nat.zero_add]
      show S4.1 46 0 j = _
      rw [u3 j (by omega)]
      exact hmac_congr (fun k hk2 => hk k hk2) (fun k hk2 => hb (8 + k) (by omega)) j (by omega)
    have u5 := u2.q
    refine ⟨wrI (blk S4 36 a L 16 (fun k => rdI S4 46 0 (0 + k))) 80 a 0 (nI (L + 16)), (u5.up (by decide)).tr (by repeat (first | exact fq.rf | (refine fq.tr ?_ (fq.wr (by decide))) | (refine fq.tr ?_ (fq.bk (by decide))) | (refine fq.tr ?_ (fq.wl (by decide))) | (refine fq.tr ?_ (fq.wR (by decide))))), fun b hb' => ⟨?_, ?_⟩, wrI_s, fun j hj => ?_, e_N (by first | (simp (disch := first | omega | assumption) only [wrI_s, wrI_o, wrI_r, wrL_1, wrL_r, wrL_s, wrL_o, blk_in, blk_out, blk_r, lit, litL, b00, b11, nI_l, lN_add, lN_mul, lN_sub, nI_add, pk_mul, pk_sub, pk_div, remN, Nat.add_sub_cancel, Nat.add_sub_cancel_left, Nat.zero_add, Nat.add_zero, nI_eq, nI_leI, nI_ltI, nI_m1, m1_lt, neg_lt, neg_le, neg_ge, neg_gt, neg_eq, not_true, not_false_iff]; done) | (simp (disch := first | omega | assumption) only [wrI_s, wrI_o, wrI_r, wrL_1, wrL_r, wrL_s, wrL_o, blk_in, blk_out, blk_r, lit, litL, b00, b11, nI_l, lN_add, lN_mul, lN_sub, nI_add, pk_mul, pk_sub, pk_div, remN, Nat.add_sub_cancel, Nat.add_sub_cancel_left, Nat.zero_add, Nat.add_zero, nI_eq, nI_leI, nI_ltI, nI_m1, m1_lt, neg_lt, neg_le, neg_ge, neg_gt, neg_eq, not_true, not_false_iff]; omega)) ?_⟩
    · funext d
      rw [wrI_ne (by decide), blk_out (by omega), u5.1 36 (nc (by decide))]
    · funext d
      rw [wrI_o (by omega), blk_ne (by decide), u5.1 80 (nc (by decide))]
    · rw [wrI_ne (by decide)]
      unfold hm1
      by_cases hjL : j < L
      · rw [if_pos hjL, blk_out (by omega), u5.1 36 (nc (by decide))]
        exact hb j hjL
      · rw [if_neg hjL, blk_in (by omega) (by omega)]
        exact u4 (j - L) (by omega)
    · rw [show (16 : Int32) = nI 16 from rfl, show (8 : Int32) = nI 8 from rfl, pk_sub (by omega)]
      refine e_cl u1 ?_
      rw [show (0 : Int32) = nI 0 from rfl, cpP_n (c0 := 46) (c1 := 36) (sp := 0) (dp := L) (n := 16) (by decide) (okW_n (by decide) ha) (by decide) (show L + 16 ≤ 208 by omega) (by decide) (by decide), nI_add]
      exact e_pf rfl rfl
theorem qHand {d w e t f to hd i : Nat} {C M : Mm} (h : TT d w e t C M) (hf : f < 9) (hto : to < 9) (hi : i < 18) (hhd : 1 ≤ hd ∧ hd ≤ 4) : ∃ C' M', F_X11_queueHand (nI f) (nI to) (nI hd) 22 i C = some ((), C') ∧ F_X12_sendsHand (nI f) (nI to) (nI hd) (if hd = 4 then -nI 1 else nI f) (nI i) M = some ((), M') ∧ TT d w e t C' M' ∧ fq eqCR C C' ∧ fq qhM M M' := by
  have h2 := h
  obtain ⟨hIDraw, hIPar, hISub, hIKey, hIRef, hISta, hILnk, hIBeg, hIQue, hIHnd, hICon, hIDue, hIWai, hISnd, hILat, hIInb⟩ := h2
  have nB : ∀ j, j < 32 → isB (M.1 217 0 (32 * f + j)) := fun j hj => (hIKey.2 f j hf hj).1
  have kB : ∀ j, j < 48 → isB (M.1 223 0 (48 * i + j)) := fun j hj => ((hILnk i hi).2.2.1 j hj).1
  obtain ⟨T, t1, t2, t3⟩ := sendM (M := M) (f := f) (to := to) (hd := hd) (i := i) hf hto hi hhd rfl nB kB
  have hT := h.fr (u := []) (v := shM) fq.rf t2 (by decide) (by decide)
  have hT2 := hT
  obtain ⟨hIDraw2, hIPar2, hISub2, hIKey2, hIRef2, hISta2, hILnk2, hIBeg2, hIQue2, hIHnd2, hICon2, hIDue2, hIWai2, hISnd2, hILat2, hIInb2⟩ := hT2
  generalize hL : (if hd = 4 then 9 else 41) = L at *
  have hL9 : 9 ≤ L ∧ L ≤ 41 := by rw [← hL]; split <;> omega
  obtain ⟨f0, u, q, q1, q2, q3, q4, q5, q6, q7, q8, -⟩ := hIQue2 f hf
  obtain ⟨z, tl, z1, z2, -, -, z5, z6, -⟩ := id hIPar2
  rw [t3]
  generalize hlen : (if hd = 1 then L else L + 16) = len at *
  have hlen2 : 9 ≤ len ∧ len ≤ 57 := by rw [← hlen]; split <;> omega
  by_cases hu : u < 12
  · obtain ⟨C1, M1, e1, e2, E⟩ := enqOK (sub := -nI 1) (to := to) (th := 0) (kd := 8) (len := len) hIRef2 hIDraw2 hICon2 hf q1 hu q3 (by omega) (by omega) q4 q5 q7 q6 q8 z5 z6 t1.1
    have ha : 12 * f + (f0 + u) % 12 < 108 := by omega
    have hE := E
    obtain ⟨g1, g2, -, -, -, ⟨-, -, g83, g84, -, -, g87, g80⟩, -⟩ := hE
    obtain ⟨S3, v1, v2, v3, v4⟩ := qhC3 (C1 := C1) (a := 12 * f + (f0 + u) % 12) (f := f) (hd := hd) (i := i) (L := L) (N := fun j => M.1 217 0 (32 * f + j)) ha hf hhd hL.symm (by rw [g1.2.2 52 (nc (by decide))]; exact (hIRef.1 f hf).1) (fun j hj => by rw [g1.1 37 (nc (by decide))]; exact (hIKey.2 f j hf hj).2)
    obtain ⟨C2, y1, y2, y3, y4, y5⟩ := qhC4 (S3 := S3) (a := 12 * f + (f0 + u) % 12) (hd := hd) (i := i) (L := L) (N := fun j => M.1 217 0 (32 * f + j)) (K := fun j => M.1 223 0 (48 * i + j)) ha hi hhd hL.symm v3 (fun j hj => by rw [v1.1 22 (nc (by decide)), g1.1 22 (nc (by decide))]; exact ((hILnk i hi).2.2.1 j (by omega)).2)
    rw [hlen] at y3 y4
    have fR : fq eqR C1 C2 := (v1.up (by decide)).tr (y1.up (by decide))
    have c8x : ∀ x, (x = 83 ∨ x = 84 ∨ x = 87) → C2.1 x = C1.1 x := by
      intro x hx
      rcases hx with rfl | rfl | rfl
      · rw [y1.1 83 (nc (by decide)), v1.1 83 (nc (by decide))]
      · rw [y1.1 84 (nc (by decide)), v1.1 84 (nc (by decide))]
      · rw [y1.1 87 (nc (by decide)), v1.1 87 (nc (by decide))]
    have fin7 : Q7 d w e 0 C2 M1 := by
      refine enq_fin E (by decide) hf q1 hu q3 hto (by decide) (by omega) z1 z2 q4 q5 (Or.inl rfl) hIQue2 hIHnd2 hIDue2 hIWai2 hISnd2 (sl := 0) fR ?_ y3 ?_ ?_ ?_ (fun j hj => ?_) (Or.inl ⟨rfl, by omega, ?_⟩)
      · intro x hx b hb'
        rcases hx with rfl | rfl | rfl | rfl | rfl
        · rw [(y2 b hb').1, v2 b hb']
        · rw [(y2 b hb').2, v1.1 80 (nc (by decide))]
        · rw [c8x 83 (by omega)]
        · rw [c8x 84 (by omega)]
        · rw [c8x 87 (by omega)]
      · rw [c8x 83 (by omega)]; exact g83
      · rw [c8x 87 (by omega)]; exact g87
      · rw [c8x 84 (by omega)]; exact g84
      · rw [t1.2 j hj, y4 j hj]
        exact ⟨hm1_B nB (by omega) hL9.2, rfl⟩
      · rw [t1.2 6 (by omega)]
        have e6 : hm1 (fun j => M.1 217 0 (32 * f + j)) (fun j => M.1 223 0 (48 * i + j)) hd L 6 = nI 136 := by
          unfold hm1
          rw [if_pos (by omega)]
          rfl
        rw [e6, if_neg (by decide)]
    have fC : fq eqCR C C2 := (g1.up (by decide)).tr (fR.up (by decide))
    refine ⟨C2, M1, ?_, ?_, hT.of7 fC g2 fin7, fC, (t2.up (by decide)).tr (g2.up (by decide))⟩
    · unfold F_X11_queueHand
      exact e_cl e1 (e_nu ha (v4.trans y5))
    · unfold L_X12_sendsHand_111
      exact e_cl e2 rfl
  · have e12 : u = 12 := by omega
    subst e12
    refine ⟨C, T, ?_, ?_, hT, fq.rf, t2.up (by decide)⟩
    · unfold F_X11_queueHand
      exact e_cl (opF hf q5 (hIRef.1 f hf).1 _ _) (e_nu0 rfl)
    · have e := enqF (M := T) (k := f) (sub := -nI 1) (a := nI 8) (b := nI to) (c := nI 0) hf q6 (Or.inl rfl)
      rw [if_pos rfl] at e
      unfold L_X12_sendsHand_111
      exact e_cl e rfl
