/-! HANDS ARE TAKEN, both sides -/
theorem secB {C M : Mm} (h : IKey C M) : ∀ q, q < 576 → isB (M.1 216 0 q) := by
  intro q hq
  have := (h.1 (q / 32) (q % 32) (by omega) (Nat.mod_lt _ (by decide))).1
  rw [show 32 * (q / 32) + q % 32 = q by omega] at this
  exact this
theorem thAp {d w e t s R n sd k : Nat} {b : Nat → Nat} {C M : Mm} (h : TT d w e t C M) (hN : NB s R n sd b C M) (h28 : 28 ≤ n) (hk1 : 1 ≤ k) (hk : k < 9) (h64 : nI (b 1) &&& 64 = 0) : ∃ C' M', F_X11_takeHandAtAp (nI k) (9 + k) 27 R C = some ((), C') ∧ F_X12_handAp (nI k) M = some ((), M') ∧ TT d w e t C' M' ∧ fq tkC C C' ∧ fq tkM M M' := by
  have hR := hN.1
  have hn3 := hN.2.2.1
  have g5 := hN.2.2.2.2.1
  have m278 := hN.2.2.2.2.2.2.2.2.2.2.2.1
  have c27 := hN.2.2.2.2.2.2.2.2.2.1
  obtain ⟨-, nb2, -⟩ := nbC hN
  obtain ⟨r, r4, eC, eM, hlr⟩ := handT hN h28 h64
  have h' := h
  obtain ⟨hIDraw, hIPar, hISub, hIKey, hIRef, hISta, hILnk, hIBeg, hIQue, hIHnd, hICon, hIDue, hIWai, hISnd, hILat, hIInb⟩ := h'
  have i18 : 9 + k < 18 := by omega
  have e9 : (9 : Int32) + nI k = nI (9 + k) := nI_add 9 k
  by_cases r2 : r = 2
  · subst r2
    have hn : n = 85 := hlr (by decide)
    obtain ⟨C1, u1, u2, u3⟩ := derC (c1 := 21) (i1 := 9 + k) (c3 := 37) (i3 := 0) (c4 := 27) (i4 := R) (a4 := 33) (st := nI k) (S := C) (okP_n (by decide) i18) (by decide) rfl (by decide) (by decide) (by decide) (by decide) (okP_n (by decide) hR) (by decide) (by decide) (by decide)
    obtain ⟨M1, v1, v2, v3⟩ := trieM (p := 9 + k) (c2 := 217) (i2 := 0) (a2 := 0) (c4 := 278) (i4 := 0) (a4 := 33) (S := M) i18 (secB hIKey) (by decide) (by decide) (by decide) (by decide) (fun q hq => by
      show isB (M.1 217 0 (0 + q))
      have := (hIKey.2 0 q (by decide) hq).1
      rw [Nat.mul_zero] at this
      exact this) (by decide) (by decide) (by decide) (by decide) (fun q hq => by
      show isB (M.1 278 0 (33 + q))
      rw [m278 _ (by omega)]
      exact isB_n (g5 _))
    rw [show (9 + k) % 9 = k by omega] at v3
    have pk : ∀ j, j < 48 → isB (M1.1 233 0 j) ∧ C1.1 47 0 j = M1.1 233 0 j := fun j hj => by
      rw [u3 j (by omega), v3 j hj]
      refine ⟨hmac_B, ptk_congr (fun q hq => ?_) (fun q hq => ?_) (fun q hq => ?_) j⟩
      · show C.1 21 (9 + k) q = _
        exact (hIKey.1 (9 + k) q i18 hq).2
      · show C.1 37 0 q = M.1 217 0 (0 + q)
        have := (hIKey.2 0 q (by decide) hq).2
        rw [Nat.mul_zero] at this
        exact this
      · show C.1 27 R (33 + q) = M.1 278 0 (33 + q)
        rw [c27 _ (by omega), m278 _ (by omega)]
    have fC1 := u2.q
    have gM1 := v2.q
    have h1 := h.fr fC1 gM1 (by decide) (by decide)
    have N1 := hN.fr (fC1.up (by decide)) (gM1.up (by decide))
    obtain ⟨z, C2, M2, hz, w1, w2, w3, w4⟩ := micT (m := 33) (cK := 47) (iK := 0) (cM := 233) (aM := 0) N1 (by decide) (by omega) (by decide) (by decide) (by decide) (by decide) (by decide) (by decide) (by decide) (by decide) (fun j hj => by
      show isB (M1.1 233 0 (0 + j)) ∧ C1.1 47 0 j = M1.1 233 0 (0 + j)
      rw [Nat.zero_add]
      exact pk j (by omega))
    have h2 := h1.fr w3 w4 (by decide) (by decide)
    have preC : ∀ X, (if nI z = 0 then (some ((), C2)) else (cl (F_X4_keepTried (9 + k) 47 0 C2) fun r21 S22 => cl (F_X11_queueHand 0 (nI k) 3 22 (9 + k) S22) fun r24 S25 => some ((), S25))) = X → F_X11_takeHandAtAp (nI k) (9 + k) 27 R C = X := by
      intro X hX
      unfold F_X11_takeHandAtAp
      exact e_gd i18 (e_cl nb2 (e_cl eC (e_T (by decide) (e_ldR (j := 0) rfl (by decide) (by decide) (by decide) (hIRef.1 0 (by decide)).1 (by decide) (e_cl u1 (e_cl w1 hX))))))
    have preM : ∀ X, (if nI z = 0 then (some ((), M2)) else (cl (F_X12_keepTried (nI (9 + k)) M2) fun r19 S20 => cl (F_X12_sendsHand 0 (nI k) 3 0 (nI (9 + k)) S20) fun r22 S23 => some ((), S23))) = X → F_X12_handAp (nI k) M = X := by
      intro X hX
      unfold F_X12_handAp
      exact e_cl eM (e_tp e9 (e_T (by decide) (e_cl v1 (e_cl w2 hX))))
    by_cases hz1 : z = 1
    · obtain ⟨C3, M3, x1, x2, x3, x4, x5⟩ := kepT (i := 9 + k) h2 i18 (fun j hj => by
        rw [w4.1 233 (nc (by decide)), w3.1 47 (nc (by decide))]
        exact pk j hj)
      obtain ⟨C4, M4, y1, y2, y3, y4, y5⟩ := qHand (f := 0) (to := k) (hd := 3) (i := 9 + k) x3 (by decide) hk i18 (by decide)
      exact ⟨C4, M4, preC _ (e_N (by rw [hz1]; decide) (e_cl x1 (e_cl y1 rfl))), preM _ (e_N (by rw [hz1]; decide) (e_cl x2 (e_cl y2 rfl))), y3, (((fC1.up (by decide)).tr (w3.up (by decide))).tr (x4.up (by decide))).tr (y4.up (by decide)), (((gM1.up (by decide)).tr (w4.up (by decide))).tr (x5.up (by decide))).tr (y5.up (by decide))⟩
    · have hz0 : z = 0 := by omega
      exact ⟨C2, M2, preC _ (e_T (by rw [hz0]; rfl) rfl), preM _ (e_T (by rw [hz0]; rfl) rfl), h2, (fC1.up (by decide)).tr (w3.up (by decide)), (gM1.up (by decide)).tr (w4.up (by decide))⟩
  · by_cases r4' : r = 4
    · subst r4'
      have hn : n = 53 := hlr (by decide)
      obtain ⟨-, ⟨s1, b1, b2, b3⟩, c1, -⟩ := hILnk (9 + k) i18
      have preC : ∀ X, (if nI s1 = 0 then (some ((), C)) else (cl (F_X11_hasRightMic 27 R 33 22 (9 + k) C) fun r8 S9 => if r8 = 0 then (some ((), S9)) else (cl (F_X4_keyByTried (9 + k) S9) fun r11 S12 => some ((), S12)))) = X → F_X11_takeHandAtAp (nI k) (9 + k) 27 R C = X := by
        intro X hX
        unfold F_X11_takeHandAtAp
        exact e_gd i18 (e_cl nb2 (e_cl eC (e_N (by decide) (e_T (by decide) (e_gf b2 hX)))))
      have preM : ∀ X, (if nI s1 = 0 then (some ((), M)) else (cl (F_X12_isMac 223 0 (nI (48 * (9 + k))) 278 0 32 1 M) fun r6 S7 => if r6 = 0 then (some ((), S7)) else (cl (F_X12_keyBy (nI (9 + k)) S7) fun r9 S10 => stA S10 219 0 9 1 (nI k) 4 fun S12 => some ((), S12)))) = X → F_X12_handAp (nI k) M = X := by
        intro X hX
        unfold F_X12_handAp
        refine e_cl eM (e_tp e9 (e_N (by decide) (e_T (by decide) (e_ldA rfl i18 (by decide) (by decide) b3 ?_))))
        rw [show (48 : Int32) * nI (9 + k) = nI (48 * (9 + k)) from pk_mul 48 (9 + k)]
        exact hX
      by_cases hs1 : s1 = 0
      · exact ⟨C, M, preC _ (e_T (by rw [hs1]; rfl) rfl), preM _ (e_T (by rw [hs1]; rfl) rfl), h, fq.rf, fq.rf⟩
      · have hs : s1 = 1 := by omega
        obtain ⟨z, C2, M2, hz, w1, w2, w3, w4⟩ := micT (m := 1) (cK := 22) (iK := 9 + k) (cM := 223) (aM := 48 * (9 + k)) hN (by decide) (by omega) (okP_n (by decide) i18) (by decide) (by decide) (by decide) (by decide) (by decide) (show 48 * (9 + k) + 16 ≤ 864 by omega) (by decide) (fun j hj => c1 j (by omega))
        have h2 := h.fr w3 w4 (by decide) (by decide)
        by_cases hz1 : z = 1
        · obtain ⟨l1, l2, l3⟩ := kbA h2 hk
          obtain ⟨k1, k2⟩ := kbE (i := 9 + k) (C := C2) (M := M2) i18
          exact ⟨_, _, preC _ (e_N (by rw [hs]; decide) (e_cl w1 (e_N (by rw [hz1]; decide) (e_cl k1 rfl)))), preM _ (e_N (by rw [hs]; decide) (e_cl w2 (e_N (by rw [hz1]; decide) (e_cl k2 (e_stA rfl hk (by decide) (by decide) (w := nI 4) rfl rfl))))), l1, (w3.up (by decide)).tr (l2.up (by decide)), (w4.up (by decide)).tr (l3.up (by decide))⟩
        · have hz0 : z = 0 := by omega
          exact ⟨C2, M2, preC _ (e_N (by rw [hs]; decide) (e_cl w1 (e_T (by rw [hz0]; rfl) rfl))), preM _ (e_N (by rw [hs]; decide) (e_cl w2 (e_T (by rw [hz0]; rfl) rfl))), h2, w3.up (by decide), w4.up (by decide)⟩
    · have nC : ¬ (if r = 0 then -nI 1 else nI r) = 2 ∧ ¬ (if r = 0 then -nI 1 else nI r) = 4 := by
        by_cases r0 : r = 0
        · rw [if_pos r0]; decide
        · rw [if_neg r0]
          exact ⟨by first | (simp (disch := first | omega | assumption) only [wrI_s, wrI_o, wrI_r, wrL_1, wrL_r, wrL_s, wrL_o, blk_in, blk_out, blk_r, lit, litL, b00, b11, nI_l, lN_add, lN_mul, lN_sub, nI_add, pk_mul, pk_sub, pk_div, remN, Nat.add_sub_cancel, Nat.add_sub_cancel_left, Nat.zero_add, Nat.add_zero, nI_eq, nI_leI, nI_ltI, nI_m1, m1_lt, neg_lt, neg_le, neg_ge, neg_gt, neg_eq, not_true, not_false_iff]; done) | (simp (disch := first | omega | assumption) only [wrI_s, wrI_o, wrI_r, wrL_1, wrL_r, wrL_s, wrL_o, blk_in, blk_out, blk_r, lit, litL, b00, b11, nI_l, lN_add, lN_mul, lN_sub, nI_add, pk_mul, pk_sub, pk_div, remN, Nat.add_sub_cancel, Nat.add_sub_cancel_left, Nat.zero_add, Nat.add_zero, nI_eq, nI_leI, nI_ltI, nI_m1, m1_lt, neg_lt, neg_le, neg_ge, neg_gt, neg_eq, not_true, not_false_iff]; omega), by first | (simp (disch := first | omega | assumption) only [wrI_s, wrI_o, wrI_r, wrL_1, wrL_r, wrL_s, wrL_o, blk_in, blk_out, blk_r, lit, litL, b00, b11, nI_l, lN_add, lN_mul, lN_sub, nI_add, pk_mul, pk_sub, pk_div, remN, Nat.add_sub_cancel, Nat.add_sub_cancel_left, Nat.zero_add, Nat.add_zero, nI_eq, nI_leI, nI_ltI, nI_m1, m1_lt, neg_lt, neg_le, neg_ge, neg_gt, neg_eq, not_true, not_false_iff]; done) | (simp (disch := first | omega | assumption) only [wrI_s, wrI_o, wrI_r, wrL_1, wrL_r, wrL_s, wrL_o, blk_in, blk_out, blk_r, lit, litL, b00, b11, nI_l, lN_add, lN_mul, lN_sub, nI_add, pk_mul, pk_sub, pk_div, remN, Nat.add_sub_cancel, Nat.add_sub_cancel_left, Nat.zero_add, Nat.add_zero, nI_eq, nI_leI, nI_ltI, nI_m1, m1_lt, neg_lt, neg_le, neg_ge, neg_gt, neg_eq, not_true, not_false_iff]; omega)⟩
      refine ⟨C, M, ?_, ?_, h, fq.rf, fq.rf⟩
      · unfold F_X11_takeHandAtAp
        exact e_gd i18 (e_cl nb2 (e_cl eC (e_N nC.1 (e_N nC.2 rfl))))
      · unfold F_X12_handAp
        exact e_cl eM (e_tp e9 (e_N (by first | (simp (disch := first | omega | assumption) only [wrI_s, wrI_o, wrI_r, wrL_1, wrL_r, wrL_s, wrL_o, blk_in, blk_out, blk_r, lit, litL, b00, b11, nI_l, lN_add, lN_mul, lN_sub, nI_add, pk_mul, pk_sub, pk_div, remN, Nat.add_sub_cancel, Nat.add_sub_cancel_left, Nat.zero_add, Nat.add_zero, nI_eq, nI_leI, nI_ltI, nI_m1, m1_lt, neg_lt, neg_le, neg_ge, neg_gt, neg_eq, not_true, not_false_iff]; done) | (simp (disch := first | omega | assumption) only [wrI_s, wrI_o, wrI_r, wrL_1, wrL_r, wrL_s, wrL_o, blk_in, blk_out, blk_r, lit, litL, b00, b11, nI_l, lN_add, lN_mul, lN_sub, nI_add, pk_mul, pk_sub, pk_div, remN, Nat.add_sub_cancel, Nat.add_sub_cancel_left, Nat.zero_add, Nat.add_zero, nI_eq, nI_leI, nI_ltI, nI_m1, m1_lt, neg_lt, neg_le, neg_ge, neg_gt, neg_eq, not_true, not_false_iff]; omega)) (e_N (by first | (simp (disch := first | omega | assumption) only [wrI_s, wrI_o, wrI_r, wrL_1, wrL_r, wrL_s, wrL_o, blk_in, blk_out, blk_r, lit, litL, b00, b11, nI_l, lN_add, lN_mul, lN_sub, nI_add, pk_mul, pk_sub, pk_div, remN, Nat.add_sub_cancel, Nat.add_sub_cancel_left, Nat.zero_add, Nat.add_zero, nI_eq, nI_leI, nI_ltI, nI_m1, m1_lt, neg_lt, neg_le, neg_ge, neg_gt, neg_eq, not_true, not_false_iff]; done) | (simp (disch := first | omega | assumption) only [wrI_s, wrI_o, wrI_r, wrL_1, wrL_r, wrL_s, wrL_o, blk_in, blk_out, blk_r, lit, litL, b00, b11, nI_l, lN_add, lN_mul, lN_sub, nI_add, pk_mul, pk_sub, pk_div, remN, Nat.add_sub_cancel, Nat.add_sub_cancel_left, Nat.zero_add, Nat.add_zero, nI_eq, nI_leI, nI_ltI, nI_m1, m1_lt, neg_lt, neg_le, neg_ge, neg_gt, neg_eq, not_true, not_false_iff]; omega)) rfl)))
abbrev lnCl : List Nat := [22, 23, 46, 47, 48, 49, 50, 51, 64]
abbrev lnMl : List Nat := [201, 202, 203, 204, 205, 206, 223, 224, 225, 233, 289, 290]
theorem TT.lnk {d w e t : Nat} {C M C' M' : Mm} (h : TT d w e t C M) (fC : fq lnCl C C') (gM : fq lnMl M M') (hrow : ∀ i, i < 18 → (∃ s, s ≤ 1 ∧ C'.1 64 i 0 = nI s ∧ M'.1 224 0 i = nI s) ∧ (∀ j, j < 48 → isB (M'.1 223 0 (48 * i + j)) ∧ C'.1 22 i j = M'.1 223 0 (48 * i + j)) ∧ (i < 9 → ∀ j, j < 32 → isB (M'.1 225 0 (32 * i + j)) ∧ C'.1 23 i j = M'.1 225 0 (32 * i + j))) : TT d w e t C' M' := by
  obtain ⟨hIDraw, hIPar, hISub, hIKey, hIRef, hISta, hILnk, hIBeg, hIQue, hIHnd, hICon, hIDue, hIWai, hISnd, hILat, hIInb⟩ := h
  have key : ∀ C' M', fq lnCl C C' → fq lnMl M M' → ILnk C' M' → TT d w e t C' M' := fun C' M' fC gM tILnk => ⟨hIDraw.fr fC gM (by decide) (by decide), hIPar.fr fC gM (by decide) (by decide), hISub.fr fC gM (by decide) (by decide), hIKey.fr fC gM (by decide) (by decide), hIRef.fr fC gM (by decide) (by decide), hISta.fr fC gM (by decide) (by decide), tILnk, hIBeg.fr fC gM (by decide) (by decide), hIQue.fr fC gM (by decide) (by decide), hIHnd.fr fC gM (by decide) (by decide), hICon.fr fC gM (by decide) (by decide), hIDue.fr fC gM (by decide) (by decide), hIWai.fr fC gM (by decide) (by decide), hISnd.z fC gM (by decide) (by decide), hILat.fr fC gM (by decide) (by decide), hIInb.fr fC gM (by decide) (by decide)⟩
  refine key _ _ fC gM ?_
  intro i hi
  obtain ⟨a1, -, -, c2, -⟩ := hILnk i hi
  obtain ⟨r1, r2, r3⟩ := hrow i hi
  rw [fC.1 62 (nc (by decide)), fC.1 24 (nc (by decide)), fC.2.1 65 (nc (by decide)), fC.2.1 66 (nc (by decide)), gM.1 222 (nc (by decide)), gM.2.1 226 (nc (by decide)), gM.2.1 227 (nc (by decide)), gM.1 221 (nc (by decide))]
  exact ⟨a1, r1, r2, c2, r3⟩
theorem keCM {i : Nat} {C M : Mm} (hi : i < 18) : F_X4_keepTried i 47 0 C = some ((), wrI (blk C 22 i 0 48 (C.1 47 0)) 64 i 0 (nI 1)) ∧ F_X12_keepTried (nI i) M = some ((), wrI (blk M 223 0 (48 * i) 48 (M.1 233 0)) 224 0 i (nI 1)) := by
  constructor
  · unfold F_X4_keepTried
    rw [show (0 : Int32) = nI 0 from rfl, show (48 : Int32) = nI 48 from rfl]
    refine e_gd hi ?_
    rw [cpP_n (c0 := 47) (c1 := 22) (sp := 0) (dp := 0) (n := 48) (by decide) (okW_n (by decide) hi) (by decide) (by decide) (by decide) (by decide)]
    have e : (fun k => rdI C 47 0 (0 + k)) = C.1 47 0 := by
      funext k
      rw [Nat.zero_add]
      rfl
    rw [e]
    exact e_pf (w := nI 1) rfl rfl
  · unfold F_X12_keepTried
    refine loopB (fun m v S => L_X12_keepTried_2 (nI i) m v S) M 223 0 (48 * i) 48 (M.1 233 0) (by decide) (fun m j hj => ?_) (fun m => ?_)
    · rw [L_X12_keepTried_2]
      refine e_N (by first | (simp (disch := first | omega | assumption) only [wrI_s, wrI_o, wrI_r, wrL_1, wrL_r, wrL_s, wrL_o, blk_in, blk_out, blk_r, lit, litL, b00, b11, nI_l, lN_add, lN_mul, lN_sub, nI_add, pk_mul, pk_sub, pk_div, remN, Nat.add_sub_cancel, Nat.add_sub_cancel_left, Nat.zero_add, Nat.add_zero, nI_eq, nI_leI, nI_ltI, nI_m1, m1_lt, neg_lt, neg_le, neg_ge, neg_gt, neg_eq, not_true, not_false_iff]; done) | (simp (disch := first | omega | assumption) only [wrI_s, wrI_o, wrI_r, wrL_1, wrL_r, wrL_s, wrL_o, blk_in, blk_out, blk_r, lit, litL, b00, b11, nI_l, lN_add, lN_mul, lN_sub, nI_add, pk_mul, pk_sub, pk_div, remN, Nat.add_sub_cancel, Nat.add_sub_cancel_left, Nat.zero_add, Nat.add_zero, nI_eq, nI_leI, nI_ltI, nI_m1, m1_lt, neg_lt, neg_le, neg_ge, neg_gt, neg_eq, not_true, not_false_iff]; omega)) (e_ldA (v := M.1 233 0 j) rfl hj (by decide) (by decide) (by rw [blk_ne (by decide)]) (e_stA (j := 48 * i + j) (by first | (simp (disch := first | omega | assumption) only [wrI_s, wrI_o, wrI_r, wrL_1, wrL_r, wrL_s, wrL_o, blk_in, blk_out, blk_r, lit, litL, b00, b11, nI_l, lN_add, lN_mul, lN_sub, nI_add, pk_mul, pk_sub, pk_div, remN, Nat.add_sub_cancel, Nat.add_sub_cancel_left, Nat.zero_add, Nat.add_zero]; done) | (simp (disch := first | omega | assumption) only [wrI_s, wrI_o, wrI_r, wrL_1, wrL_r, wrL_s, wrL_o, blk_in, blk_out, blk_r, lit, litL, b00, b11, nI_l, lN_add, lN_mul, lN_sub, nI_add, pk_mul, pk_sub, pk_div, remN, Nat.add_sub_cancel, Nat.add_sub_cancel_left, Nat.zero_add, Nat.add_zero]; rfl) | rfl) (by omega) (by decide) (by decide) rfl ?_))
      rw [blk_succ (f := M.1 233 0), nI_1]
    · rw [L_X12_keepTried_2]
      exact e_T (by decide) (e_stA rfl hi (by decide) (by decide) (w := nI 1) (by decide) rfl)
theorem thSt {d w e t s R n sd k : Nat} {b : Nat → Nat} {C M : Mm} (h : TT d w e t C M) (hN : NB s R n sd b C M) (h28 : 28 ≤ n) (hk1 : 1 ≤ k) (hk : k < 9) (h64 : nI (b 1) &&& 64 = 0) : ∃ C' M', F_X11_takeHandAtStation (nI k) k 27 R C = some ((), C') ∧ F_X12_handStation (nI k) M = some ((), M') ∧ TT d w e t C' M' ∧ fq tkC C C' ∧ fq tkM M M' := by
  have hR := hN.1
  have hn3 := hN.2.2.1
  have g5 := hN.2.2.2.2.1
  have m278 := hN.2.2.2.2.2.2.2.2.2.2.2.1
  have c27 := hN.2.2.2.2.2.2.2.2.2.1
  obtain ⟨-, nb2, -⟩ := nbC hN
  obtain ⟨r, r4, eC, eM, hlr⟩ := handT hN h28 h64
  have h' := h
  obtain ⟨hIDraw, hIPar, hISub, hIKey, hIRef, hISta, hILnk, hIBeg, hIQue, hIHnd, hICon, hIDue, hIWai, hISnd, hILat, hIInb⟩ := h'
  have i18 : k < 18 := by omega
  by_cases r1 : r = 1
  · subst r1
    have hn : n = 69 := hlr (by decide)
    have f0 : fq [23] C (blk C 23 k 0 32 (fun q => rdI C 27 R (33 + q))) := by repeat (first | exact fq.rf | (refine fq.tr ?_ (fq.wr (by decide))) | (refine fq.tr ?_ (fq.bk (by decide))) | (refine fq.tr ?_ (fq.wl (by decide))) | (refine fq.tr ?_ (fq.wR (by decide))))
    have b0 : ∀ q, q < 32 → (blk C 23 k 0 32 (fun q => rdI C 27 R (33 + q))).1 23 k q = nI (b (33 + q)) := fun q hq => by
      rw [blk_in (by omega) (by omega), Nat.sub_zero]
      exact c27 _ (by omega)
    have o0 : ∀ i j, ¬ i = k → (blk C 23 k 0 32 (fun q => rdI C 27 R (33 + q))).1 23 i j = C.1 23 i j := fun i j hi => by rw [blk_out (by omega)]
    have eC0 : ∀ (K : Mm → Option (Unit × Mm)), cpP false C 27 R 33 23 k 0 32 K = K (blk C 23 k 0 32 (fun q => rdI C 27 R (33 + q))) := fun K => by
      rw [show (33 : Int32) = nI 33 from rfl, show (0 : Int32) = nI 0 from rfl, show (32 : Int32) = nI 32 from rfl, cpP_n (c0 := 27) (c1 := 23) (sp := 33) (dp := 0) (n := 32) (okP_n (by decide) hR) (okW_n (by decide) i18) (by decide) (by decide) (by decide) (by decide)]
    generalize blk C 23 k 0 32 (fun q => rdI C 27 R (33 + q)) = C0 at *
    obtain ⟨C1, u1, u2, u3⟩ := derC (c1 := 21) (i1 := k) (c3 := 23) (i3 := k) (c4 := 37) (i4 := k) (a4 := 0) (st := nI k) (S := C0) (okP_n (by decide) i18) (by decide) rfl (okP_n (by decide) i18) (by decide) (by decide) (by decide) (okP_n (by decide) hk) (by decide) (by decide) (by decide)
    obtain ⟨M1, v1, v2, v3⟩ := trieM (p := k) (c2 := 278) (i2 := 0) (a2 := 33) (c4 := 217) (i4 := 0) (a4 := 32 * k) (S := M) i18 (secB hIKey) (by decide) (by decide) (by decide) (by decide) (fun q hq => by
      show isB (M.1 278 0 (33 + q))
      rw [m278 _ (by omega)]
      exact isB_n (g5 _)) (by decide) (by decide) (show 32 * k + 32 ≤ 288 by omega) (by decide) (fun q hq => (hIKey.2 k q hk hq).1)
    rw [show k % 9 = k by omega] at v3
    have pk : ∀ j, j < 48 → isB (M1.1 233 0 j) ∧ C1.1 47 0 j = M1.1 233 0 j := fun j hj => by
      rw [u3 j (by omega), v3 j hj]
      refine ⟨hmac_B, ptk_congr (fun q hq => ?_) (fun q hq => ?_) (fun q hq => ?_) j⟩
      · show C0.1 21 k q = _
        rw [f0.1 21 (nc (by decide))]
        exact (hIKey.1 k q i18 hq).2
      · show C0.1 23 k q = M.1 278 0 (33 + q)
        rw [b0 q hq, m278 _ (by omega)]
      · show C0.1 37 k (0 + q) = M.1 217 0 (32 * k + q)
        rw [f0.1 37 (nc (by decide)), Nat.zero_add]
        exact (hIKey.2 k q hk hq).2
    have fC1 := u2.q
    have gM1 := v2.q
    obtain ⟨y1, -⟩ := keCM (i := k) (C := C1) (M := M1) i18
    obtain ⟨-, y2⟩ := keCM (i := k) (C := C1) (M := M1) i18
    have e36 : ∃ T, T = blk (wrI (blk M1 223 0 (48 * k) 48 (M1.1 233 0)) 224 0 k (nI 1)) 225 0 (32 * k) 32 (fun q => nI (b (33 + q))) ∧ L_X12_handStation_36 (nI k) fu 0 (wrI (blk M1 223 0 (48 * k) 48 (M1.1 233 0)) 224 0 k (nI 1)) = (cl (F_X12_sendsHand (nI k) 0 2 (nI k) (nI k) T) fun r11 S12 => some ((), S12)) := by
      refine ⟨_, rfl, ?_⟩
      refine loopB (fun m v S => L_X12_handStation_36 (nI k) m v S) (wrI (blk M1 223 0 (48 * k) 48 (M1.1 233 0)) 224 0 k (nI 1)) 225 0 (32 * k) 32 (fun q => nI (b (33 + q))) (by decide) (fun m j hj => ?_) (fun m => ?_)
      · rw [L_X12_handStation_36]
        refine e_N (by first | (simp (disch := first | omega | assumption) only [wrI_s, wrI_o, wrI_r, wrL_1, wrL_r, wrL_s, wrL_o, blk_in, blk_out, blk_r, lit, litL, b00, b11, nI_l, lN_add, lN_mul, lN_sub, nI_add, pk_mul, pk_sub, pk_div, remN, Nat.add_sub_cancel, Nat.add_sub_cancel_left, Nat.zero_add, Nat.add_zero, nI_eq, nI_leI, nI_ltI, nI_m1, m1_lt, neg_lt, neg_le, neg_ge, neg_gt, neg_eq, not_true, not_false_iff]; done) | (simp (disch := first | omega | assumption) only [wrI_s, wrI_o, wrI_r, wrL_1, wrL_r, wrL_s, wrL_o, blk_in, blk_out, blk_r, lit, litL, b00, b11, nI_l, lN_add, lN_mul, lN_sub, nI_add, pk_mul, pk_sub, pk_div, remN, Nat.add_sub_cancel, Nat.add_sub_cancel_left, Nat.zero_add, Nat.add_zero, nI_eq, nI_leI, nI_ltI, nI_m1, m1_lt, neg_lt, neg_le, neg_ge, neg_gt, neg_eq, not_true, not_false_iff]; omega)) (e_ldA (j := 33 + j) (v := nI (b (33 + j))) (by first | (simp (disch := first | omega | assumption) only [wrI_s, wrI_o, wrI_r, wrL_1, wrL_r, wrL_s, wrL_o, blk_in, blk_out, blk_r, lit, litL, b00, b11, nI_l, lN_add, lN_mul, lN_sub, nI_add, pk_mul, pk_sub, pk_div, remN, Nat.add_sub_cancel, Nat.add_sub_cancel_left, Nat.zero_add, Nat.add_zero]; done) | (simp (disch := first | omega | assumption) only [wrI_s, wrI_o, wrI_r, wrL_1, wrL_r, wrL_s, wrL_o, blk_in, blk_out, blk_r, lit, litL, b00, b11, nI_l, lN_add, lN_mul, lN_sub, nI_add, pk_mul, pk_sub, pk_div, remN, Nat.add_sub_cancel, Nat.add_sub_cancel_left, Nat.zero_add, Nat.add_zero]; rfl) | rfl) (by omega) (by decide) (by decide) (by rw [blk_ne (by decide), wrI_ne (by decide), blk_ne (by decide), gM1.1 278 (nc (by decide))]; exact m278 _ (by omega)) (e_stA (j := 32 * k + j) (by first | (simp (disch := first | omega | assumption) only [wrI_s, wrI_o, wrI_r, wrL_1, wrL_r, wrL_s, wrL_o, blk_in, blk_out, blk_r, lit, litL, b00, b11, nI_l, lN_add, lN_mul, lN_sub, nI_add, pk_mul, pk_sub, pk_div, remN, Nat.add_sub_cancel, Nat.add_sub_cancel_left, Nat.zero_add, Nat.add_zero]; done) | (simp (disch := first | omega | assumption) only [wrI_s, wrI_o, wrI_r, wrL_1, wrL_r, wrL_s, wrL_o, blk_in, blk_out, blk_r, lit, litL, b00, b11, nI_l, lN_add, lN_mul, lN_sub, nI_add, pk_mul, pk_sub, pk_div, remN, Nat.add_sub_cancel, Nat.add_sub_cancel_left, Nat.zero_add, Nat.add_zero]; rfl) | rfl) (by omega) (by decide) (by decide) rfl ?_))
        rw [blk_succ (f := fun q => nI (b (33 + q))), nI_1]
      · rw [L_X12_handStation_36]
        exact e_T (by decide) rfl
    obtain ⟨T, hT, e36⟩ := e36
    have fS : fq lnCl C (wrI (blk C1 22 k 0 48 (C1.1 47 0)) 64 k 0 (nI 1)) := ((f0.up (by decide)).tr (fC1.up (by decide))).tr (by repeat (first | exact fq.rf | (refine fq.tr ?_ (fq.wr (by decide))) | (refine fq.tr ?_ (fq.bk (by decide))) | (refine fq.tr ?_ (fq.wl (by decide))) | (refine fq.tr ?_ (fq.wR (by decide)))))
    have gS : fq lnMl M T := (gM1.up (by decide)).tr (by rw [hT]; repeat (first | exact fq.rf | (refine fq.tr ?_ (fq.wr (by decide))) | (refine fq.tr ?_ (fq.bk (by decide))) | (refine fq.tr ?_ (fq.wl (by decide))) | (refine fq.tr ?_ (fq.wR (by decide)))))
    have r64 : ∀ i, (wrI (blk C1 22 k 0 48 (C1.1 47 0)) 64 k 0 (nI 1)).1 64 i 0 = if i = k then nI 1 else C.1 64 i 0 := fun i => by
      by_cases hik : i = k
      · rw [hik, wrI_s, if_pos rfl]
      · rw [wrI_o (by omega), blk_ne (by decide), fC1.1 64 (nc (by decide)), f0.1 64 (nc (by decide)), if_neg hik]
    have r22 : ∀ i j, j < 48 → (wrI (blk C1 22 k 0 48 (C1.1 47 0)) 64 k 0 (nI 1)).1 22 i j = if i = k then C1.1 47 0 j else C.1 22 i j := fun i j hj => by
      rw [wrI_ne (by decide)]
      by_cases hik : i = k
      · rw [hik, blk_in (by omega) (by omega), Nat.sub_zero, if_pos rfl]
      · rw [blk_out (by omega), fC1.1 22 (nc (by decide)), f0.1 22 (nc (by decide)), if_neg hik]
    have r23 : ∀ i j, j < 32 → (wrI (blk C1 22 k 0 48 (C1.1 47 0)) 64 k 0 (nI 1)).1 23 i j = if i = k then nI (b (33 + j)) else C.1 23 i j := fun i j hj => by
      rw [wrI_ne (by decide), blk_ne (by decide), fC1.1 23 (nc (by decide))]
      by_cases hik : i = k
      · rw [hik, b0 j hj, if_pos rfl]
      · rw [o0 i j hik, if_neg hik]
    have t224 : ∀ i, T.1 224 0 i = if i = k then nI 1 else M.1 224 0 i := fun i => by
      rw [hT, blk_ne (by decide)]
      by_cases hik : i = k
      · rw [hik, wrI_s, if_pos rfl]
      · rw [wrI_o (by omega), blk_ne (by decide), gM1.1 224 (nc (by decide)), if_neg hik]
    have t223 : ∀ i j, i < 18 → j < 48 → T.1 223 0 (48 * i + j) = if i = k then M1.1 233 0 j else M.1 223 0 (48 * i + j) := fun i j hi hj => by
      rw [hT, blk_ne (by decide), wrI_ne (by decide)]
      by_cases hik : i = k
      · rw [hik, blk_in (by omega) (by omega), Nat.add_sub_cancel_left, if_pos rfl]
      · rw [blk_out (by omega), gM1.1 223 (nc (by decide)), if_neg hik]
    have t225 : ∀ i j, i < 9 → j < 32 → T.1 225 0 (32 * i + j) = if i = k then nI (b (33 + j)) else M.1 225 0 (32 * i + j) := fun i j hi hj => by
      rw [hT]
      by_cases hik : i = k
      · rw [hik, blk_in (by omega) (by omega), Nat.add_sub_cancel_left, if_pos rfl]
      · rw [blk_out (by omega), wrI_ne (by decide), blk_ne (by decide), gM1.1 225 (nc (by decide)), if_neg hik]
    have hTT : TT d w e t (wrI (blk C1 22 k 0 48 (C1.1 47 0)) 64 k 0 (nI 1)) T := by
      refine h.lnk fS gS (fun i hi => ?_)
      obtain ⟨-, ⟨s1, b1, b2, b3⟩, c1, -, c3⟩ := hILnk i hi
      refine ⟨?_, fun j hj => ?_, fun h9 j hj => ?_⟩
      · rw [r64, t224]
        by_cases hik : i = k
        · rw [if_pos hik, if_pos hik]
          exact ⟨1, by decide, rfl, rfl⟩
        · rw [if_neg hik, if_neg hik]
          exact ⟨s1, b1, b2, b3⟩
      · rw [r22 i j hj, t223 i j hi hj]
        by_cases hik : i = k
        · rw [if_pos hik, if_pos hik]
          exact pk j hj
        · rw [if_neg hik, if_neg hik]
          exact c1 j hj
      · rw [r23 i j hj, t225 i j h9 hj]
        by_cases hik : i = k
        · rw [if_pos hik, if_pos hik]
          exact ⟨isB_n (g5 _), rfl⟩
        · rw [if_neg hik, if_neg hik]
          exact c3 h9 j hj
    obtain ⟨C4, M4, x1, x2, x3, x4, x5⟩ := qHand (f := k) (to := 0) (hd := 2) (i := k) hTT hk (by decide) i18 (by decide)
    refine ⟨C4, M4, ?_, ?_, x3, (fS.up (by decide)).tr (x4.up (by decide)), (gS.up (by decide)).tr (x5.up (by decide))⟩
    · unfold F_X11_takeHandAtStation
      refine e_gd i18 (e_cl nb2 (e_cl eC (e_T (by decide) ?_)))
      rw [eC0]
      exact e_ldR rfl hk (by decide) (by decide) (by rw [f0.2.2 52 (nc (by decide))]; exact (hIRef.1 k hk).1) hk (e_cl u1 (e_cl y1 (e_cl x1 rfl)))
    · unfold F_X12_handStation
      refine e_cl eM (e_T (by decide) ?_)
      rw [show (32 : Int32) * nI k = nI (32 * k) from pk_mul 32 k]
      exact e_cl v1 (e_cl y2 (e36.trans (e_cl x2 rfl)))
  · by_cases r3 : r = 3
    · subst r3
      have hn : n = 85 := hlr (by decide)
      obtain ⟨-, ⟨s1, b1, b2, b3⟩, c1, -, c3⟩ := hILnk k i18
      have preC : ∀ X, (if nI s1 = 0 then (some ((), C)) else (cl (F_X2_sameBytes 27 R 33 23 k 0 32 C) fun r8 S9 => if r8 = 0 then (some ((), S9)) else (cl (F_X11_hasRightMic 27 R 65 22 k S9) fun r11 S12 => if r11 = 0 then (some ((), S12)) else (cl (F_X4_keyByTried k S12) fun r14 S15 => cl (F_X11_queueHand (nI k) 0 4 22 k S15) fun r17 S18 => some ((), S18))))) = X → F_X11_takeHandAtStation (nI k) k 27 R C = X := by
        intro X hX
        unfold F_X11_takeHandAtStation
        exact e_gd i18 (e_cl nb2 (e_cl eC (e_N (by decide) (e_T (by decide) (e_gf b2 hX)))))
      have preM : ∀ X, (if nI s1 = 0 then (some ((), M)) else (L_X12_handStation_99 (nI k) fu 1 0 M)) = X → F_X12_handStation (nI k) M = X := by
        intro X hX
        unfold F_X12_handStation
        exact e_cl eM (e_N (by decide) (e_T (by decide) (e_ldA rfl i18 (by decide) (by decide) b3 hX)))
      by_cases hs1 : s1 = 0
      · exact ⟨C, M, preC _ (e_T (by rw [hs1]; rfl) rfl), preM _ (e_T (by rw [hs1]; rfl) rfl), h, fq.rf, fq.rf⟩
      · have hs : s1 = 1 := by omega
        have sm := samC (c1 := 27) (i1 := R) (a1 := 33) (c2 := 23) (i2 := k) (a2 := 0) (n := 32) (S := C) (okP_n (by decide) hR) (by decide) (by decide) (okP_n (by decide) i18) (by decide) (by decide)
        have one : ∀ j, j < 32 → (rdI C 27 R (33 + j) = rdI C 23 k (0 + j) ↔ M.1 225 0 (32 * k + j) = nI (b (33 + j))) := fun j hj => by
          have e1 : rdI C 27 R (33 + j) = nI (b (33 + j)) := c27 _ (by omega)
          have e2 : rdI C 23 k (0 + j) = M.1 225 0 (32 * k + j) := by
            show C.1 23 k (0 + j) = _
            rw [Nat.zero_add]
            exact (c3 hk j hj).2
          rw [e1, e2]
          exact ⟨Eq.symm, Eq.symm⟩
        have iff1 : (∀ j, j < 32 → rdI C 27 R (33 + j) = rdI C 23 k (0 + j)) ↔ ∀ j, j < 32 → M.1 225 0 (32 * k + j) = nI (b (33 + j)) := ⟨fun z j hj => (one j hj).mp (z j hj), fun z j hj => (one j hj).mpr (z j hj)⟩
        obtain ⟨q, l1, l0⟩ := flagL (fun q v w T => L_X12_handStation_99 (nI k) q v w T) M 32 (by decide) (fun j => M.1 225 0 (32 * k + j) = nI (b (33 + j))) (fun q j hj hP => by
          rw [L_X12_handStation_99]
          unfold L_X12_handStation_140
          rw [nI_1]
          exact e_N (by first | (simp (disch := first | omega | assumption) only [wrI_s, wrI_o, wrI_r, wrL_1, wrL_r, wrL_s, wrL_o, blk_in, blk_out, blk_r, lit, litL, b00, b11, nI_l, lN_add, lN_mul, lN_sub, nI_add, pk_mul, pk_sub, pk_div, remN, Nat.add_sub_cancel, Nat.add_sub_cancel_left, Nat.zero_add, Nat.add_zero, nI_eq, nI_leI, nI_ltI, nI_m1, m1_lt, neg_lt, neg_le, neg_ge, neg_gt, neg_eq, not_true, not_false_iff]; done) | (simp (disch := first | omega | assumption) only [wrI_s, wrI_o, wrI_r, wrL_1, wrL_r, wrL_s, wrL_o, blk_in, blk_out, blk_r, lit, litL, b00, b11, nI_l, lN_add, lN_mul, lN_sub, nI_add, pk_mul, pk_sub, pk_div, remN, Nat.add_sub_cancel, Nat.add_sub_cancel_left, Nat.zero_add, Nat.add_zero, nI_eq, nI_leI, nI_ltI, nI_m1, m1_lt, neg_lt, neg_le, neg_ge, neg_gt, neg_eq, not_true, not_false_iff]; omega)) (e_N (by decide) (e_ldA (j := 32 * k + j) (by first | (simp (disch := first | omega | assumption) only [wrI_s, wrI_o, wrI_r, wrL_1, wrL_r, wrL_s, wrL_o, blk_in, blk_out, blk_r, lit, litL, b00, b11, nI_l, lN_add, lN_mul, lN_sub, nI_add, pk_mul, pk_sub, pk_div, remN, Nat.add_sub_cancel, Nat.add_sub_cancel_left, Nat.zero_add, Nat.add_zero]; done) | (simp (disch := first | omega | assumption) only [wrI_s, wrI_o, wrI_r, wrL_1, wrL_r, wrL_s, wrL_o, blk_in, blk_out, blk_r, lit, litL, b00, b11, nI_l, lN_add, lN_mul, lN_sub, nI_add, pk_mul, pk_sub, pk_div, remN, Nat.add_sub_cancel, Nat.add_sub_cancel_left, Nat.zero_add, Nat.add_zero]; rfl) | rfl) (by omega) (by decide) (by decide) rfl (e_ldA (j := 33 + j) (v := nI (b (33 + j))) (by first | (simp (disch := first | omega | assumption) only [wrI_s, wrI_o, wrI_r, wrL_1, wrL_r, wrL_s, wrL_o, blk_in, blk_out, blk_r, lit, litL, b00, b11, nI_l, lN_add, lN_mul, lN_sub, nI_add, pk_mul, pk_sub, pk_div, remN, Nat.add_sub_cancel, Nat.add_sub_cancel_left, Nat.zero_add, Nat.add_zero]; done) | (simp (disch := first | omega | assumption) only [wrI_s, wrI_o, wrI_r, wrL_1, wrL_r, wrL_s, wrL_o, blk_in, blk_out, blk_r, lit, litL, b00, b11, nI_l, lN_add, lN_mul, lN_sub, nI_add, pk_mul, pk_sub, pk_div, remN, Nat.add_sub_cancel, Nat.add_sub_cancel_left, Nat.zero_add, Nat.add_zero]; rfl) | rfl) (by omega) (by decide) (by decide) (m278 _ (by omega)) (e_T hP rfl))))) (fun q j hj hP => by
          rw [L_X12_handStation_99]
          unfold L_X12_handStation_139 L_X12_handStation_140
          rw [nI_1]
          exact e_N (by first | (simp (disch := first | omega | assumption) only [wrI_s, wrI_o, wrI_r, wrL_1, wrL_r, wrL_s, wrL_o, blk_in, blk_out, blk_r, lit, litL, b00, b11, nI_l, lN_add, lN_mul, lN_sub, nI_add, pk_mul, pk_sub, pk_div, remN, Nat.add_sub_cancel, Nat.add_sub_cancel_left, Nat.zero_add, Nat.add_zero, nI_eq, nI_leI, nI_ltI, nI_m1, m1_lt, neg_lt, neg_le, neg_ge, neg_gt, neg_eq, not_true, not_false_iff]; done) | (simp (disch := first | omega | assumption) only [wrI_s, wrI_o, wrI_r, wrL_1, wrL_r, wrL_s, wrL_o, blk_in, blk_out, blk_r, lit, litL, b00, b11, nI_l, lN_add, lN_mul, lN_sub, nI_add, pk_mul, pk_sub, pk_div, remN, Nat.add_sub_cancel, Nat.add_sub_cancel_left, Nat.zero_add, Nat.add_zero, nI_eq, nI_leI, nI_ltI, nI_m1, m1_lt, neg_lt, neg_le, neg_ge, neg_gt, neg_eq, not_true, not_false_iff]; omega)) (e_N (by decide) (e_ldA (j := 32 * k + j) (by first | (simp (disch := first | omega | assumption) only [wrI_s, wrI_o, wrI_r, wrL_1, wrL_r, wrL_s, wrL_o, blk_in, blk_out, blk_r, lit, litL, b00, b11, nI_l, lN_add, lN_mul, lN_sub, nI_add, pk_mul, pk_sub, pk_div, remN, Nat.add_sub_cancel, Nat.add_sub_cancel_left, Nat.zero_add, Nat.add_zero]; done) | (simp (disch := first | omega | assumption) only [wrI_s, wrI_o, wrI_r, wrL_1, wrL_r, wrL_s, wrL_o, blk_in, blk_out, blk_r, lit, litL, b00, b11, nI_l, lN_add, lN_mul, lN_sub, nI_add, pk_mul, pk_sub, pk_div, remN, Nat.add_sub_cancel, Nat.add_sub_cancel_left, Nat.zero_add, Nat.add_zero]; rfl) | rfl) (by omega) (by decide) (by decide) rfl (e_ldA (j := 33 + j) (v := nI (b (33 + j))) (by first | (simp (disch := first | omega | assumption) only [wrI_s, wrI_o, wrI_r, wrL_1, wrL_r, wrL_s, wrL_o, blk_in, blk_out, blk_r, lit, litL, b00, b11, nI_l, lN_add, lN_mul, lN_sub, nI_add, pk_mul, pk_sub, pk_div, remN, Nat.add_sub_cancel, Nat.add_sub_cancel_left, Nat.zero_add, Nat.add_zero]; done) | (simp (disch := first | omega | assumption) only [wrI_s, wrI_o, wrI_r, wrL_1, wrL_r, wrL_s, wrL_o, blk_in, blk_out, blk_r, lit, litL, b00, b11, nI_l, lN_add, lN_mul, lN_sub, nI_add, pk_mul, pk_sub, pk_div, remN, Nat.add_sub_cancel, Nat.add_sub_cancel_left, Nat.zero_add, Nat.add_zero]; rfl) | rfl) (by omega) (by decide) (by decide) (m278 _ (by omega)) (e_N hP rfl))))) (fun q j hj => by
          rw [L_X12_handStation_99]
          unfold L_X12_handStation_139 L_X12_handStation_140
          rw [nI_1]
          exact e_N (by first | (simp (disch := first | omega | assumption) only [wrI_s, wrI_o, wrI_r, wrL_1, wrL_r, wrL_s, wrL_o, blk_in, blk_out, blk_r, lit, litL, b00, b11, nI_l, lN_add, lN_mul, lN_sub, nI_add, pk_mul, pk_sub, pk_div, remN, Nat.add_sub_cancel, Nat.add_sub_cancel_left, Nat.zero_add, Nat.add_zero, nI_eq, nI_leI, nI_ltI, nI_m1, m1_lt, neg_lt, neg_le, neg_ge, neg_gt, neg_eq, not_true, not_false_iff]; done) | (simp (disch := first | omega | assumption) only [wrI_s, wrI_o, wrI_r, wrL_1, wrL_r, wrL_s, wrL_o, blk_in, blk_out, blk_r, lit, litL, b00, b11, nI_l, lN_add, lN_mul, lN_sub, nI_add, pk_mul, pk_sub, pk_div, remN, Nat.add_sub_cancel, Nat.add_sub_cancel_left, Nat.zero_add, Nat.add_zero, nI_eq, nI_leI, nI_ltI, nI_m1, m1_lt, neg_lt, neg_le, neg_ge, neg_gt, neg_eq, not_true, not_false_iff]; omega)) (e_T rfl rfl))
        by_cases hsame : ∀ j, j < 32 → M.1 225 0 (32 * k + j) = nI (b (33 + j))
        · have e8 := sm.1 (iff1.mpr hsame)
          obtain ⟨z, C2, M2, hz, w1, w2, w3, w4⟩ := micT (m := 33) (cK := 22) (iK := k) (cM := 223) (aM := 48 * k) hN (by decide) (by omega) (okP_n (by decide) i18) (by decide) (by decide) (by decide) (by decide) (by decide) (show 48 * k + 16 ≤ 864 by omega) (by decide) (fun j hj => c1 j (by omega))
          have h2 := h.fr w3 w4 (by decide) (by decide)
          have mL : ∀ X, (if nI z = 0 then (some ((), M2)) else (cl (F_X12_keyBy (nI k) M2) fun r19 S20 => stA S20 218 0 9 1 (nI k) 4 fun S22 => cl (F_X12_sendsHand (nI k) 0 4 (-1) (nI k) S22) fun r23 S24 => some ((), S24))) = X → F_X12_handStation (nI k) M = X := by
            intro X hX
            refine preM _ (e_N (by rw [hs]; decide) ((l1 hsame).trans ?_))
            rw [L_X12_handStation_99]
            refine e_T (by decide) (e_N (by decide) ?_)
            rw [show (48 : Int32) * nI k = nI (48 * k) from pk_mul 48 k]
            exact e_cl w2 hX
          by_cases hz1 : z = 1
          · obtain ⟨v1, v2, v3⟩ := kbS h2 hk
            obtain ⟨k1, k2⟩ := kbE (i := k) (C := C2) (M := M2) i18
            obtain ⟨C4, M4, x1, x2, x3, x4, x5⟩ := qHand (f := k) (to := 0) (hd := 4) (i := k) v1 hk (by decide) i18 (by decide)
            exact ⟨C4, M4, preC _ (e_N (by rw [hs]; decide) (e_cl e8 (e_N (by decide) (e_cl w1 (e_N (by rw [hz1]; decide) (e_cl k1 (e_cl x1 rfl))))))), mL _ (e_N (by rw [hz1]; decide) (e_cl k2 (e_stA rfl hk (by decide) (by decide) (w := nI 4) rfl (e_cl x2 rfl)))), x3, ((w3.up (by decide)).tr (v2.up (by decide))).tr (x4.up (by decide)), ((w4.up (by decide)).tr (v3.up (by decide))).tr (x5.up (by decide))⟩
          · have hz0 : z = 0 := by omega
            exact ⟨C2, M2, preC _ (e_N (by rw [hs]; decide) (e_cl e8 (e_N (by decide) (e_cl w1 (e_T (by rw [hz0]; rfl) rfl))))), mL _ (e_T (by rw [hz0]; rfl) rfl), h2, w3.up (by decide), w4.up (by decide)⟩
        · refine ⟨C, M, preC _ (e_N (by rw [hs]; decide) (e_cl (sm.2 (fun z => hsame (iff1.mp z))) (e_T rfl rfl))), preM _ (e_N (by rw [hs]; decide) ((l0 hsame).trans ?_)), h, fq.rf, fq.rf⟩
          rw [L_X12_handStation_99]
          exact e_T (by decide) (e_T rfl rfl)
    · have nC : ¬ (if r = 0 then -nI 1 else nI r) = 1 ∧ ¬ (if r = 0 then -nI 1 else nI r) = 3 := by
        by_cases r0 : r = 0
        · rw [if_pos r0]; decide
        · rw [if_neg r0]
          exact ⟨by first | (simp (disch := first | omega | assumption) only [wrI_s, wrI_o, wrI_r, wrL_1, wrL_r, wrL_s, wrL_o, blk_in, blk_out, blk_r, lit, litL, b00, b11, nI_l, lN_add, lN_mul, lN_sub, nI_add, pk_mul, pk_sub, pk_div, remN, Nat.add_sub_cancel, Nat.add_sub_cancel_left, Nat.zero_add, Nat.add_zero, nI_eq, nI_leI, nI_ltI, nI_m1, m1_lt, neg_lt, neg_le, neg_ge, neg_gt, neg_eq, not_true, not_false_iff]; done) | (simp (disch := first | omega | assumption) only [wrI_s, wrI_o, wrI_r, wrL_1, wrL_r, wrL_s, wrL_o, blk_in, blk_out, blk_r, lit, litL, b00, b11, nI_l, lN_add, lN_mul, lN_sub, nI_add, pk_mul, pk_sub, pk_div, remN, Nat.add_sub_cancel, Nat.add_sub_cancel_left, Nat.zero_add, Nat.add_zero, nI_eq, nI_leI, nI_ltI, nI_m1, m1_lt, neg_lt, neg_le, neg_ge, neg_gt, neg_eq, not_true, not_false_iff]; omega), by first | (simp (disch := first | omega | assumption) only [wrI_s, wrI_o, wrI_r, wrL_1, wrL_r, wrL_s, wrL_o, blk_in, blk_out, blk_r, lit, litL, b00, b11, nI_l, lN_add, lN_mul, lN_sub, nI_add, pk_mul, pk_sub, pk_div, remN, Nat.add_sub_cancel, Nat.add_sub_cancel_left, Nat.zero_add, Nat.add_zero, nI_eq, nI_leI, nI_ltI, nI_m1, m1_lt, neg_lt, neg_le, neg_ge, neg_gt, neg_eq, not_true, not_false_iff]; done) | (simp (disch := first | omega | assumption) only [wrI_s, wrI_o, wrI_r, wrL_1, wrL_r, wrL_s, wrL_o, blk_in, blk_out, blk_r, lit, litL, b00, b11, nI_l, lN_add, lN_mul, lN_sub, nI_add, pk_mul, pk_sub, pk_div, remN, Nat.add_sub_cancel, Nat.add_sub_cancel_left, Nat.zero_add, Nat.add_zero, nI_eq, nI_leI, nI_ltI, nI_m1, m1_lt, neg_lt, neg_le, neg_ge, neg_gt, neg_eq, not_true, not_false_iff]; omega)⟩
      refine ⟨C, M, ?_, ?_, h, fq.rf, fq.rf⟩
      · unfold F_X11_takeHandAtStation
        exact e_gd i18 (e_cl nb2 (e_cl eC (e_N nC.1 (e_N nC.2 rfl))))
      · unfold F_X12_handStation
        exact e_cl eM (e_N (by first | (simp (disch := first | omega | assumption) only [wrI_s, wrI_o, wrI_r, wrL_1, wrL_r, wrL_s, wrL_o, blk_in, blk_out, blk_r, lit, litL, b00, b11, nI_l, lN_add, lN_mul, lN_sub, nI_add, pk_mul, pk_sub, pk_div, remN, Nat.add_sub_cancel, Nat.add_sub_cancel_left, Nat.zero_add, Nat.add_zero, nI_eq, nI_leI, nI_ltI, nI_m1, m1_lt, neg_lt, neg_le, neg_ge, neg_gt, neg_eq, not_true, not_false_iff]; done) | (simp (disch := first | omega | assumption) only [wrI_s, wrI_o, wrI_r, wrL_1, wrL_r, wrL_s, wrL_o, blk_in, blk_out, blk_r, lit, litL, b00, b11, nI_l, lN_add, lN_mul, lN_sub, nI_add, pk_mul, pk_sub, pk_div, remN, Nat.add_sub_cancel, Nat.add_sub_cancel_left, Nat.zero_add, Nat.add_zero, nI_eq, nI_leI, nI_ltI, nI_m1, m1_lt, neg_lt, neg_le, neg_ge, neg_gt, neg_eq, not_true, not_false_iff]; omega)) (e_N (by first | (simp (disch := first | omega | assumption) only [wrI_s, wrI_o, wrI_r, wrL_1, wrL_r, wrL_s, wrL_o, blk_in, blk_out, blk_r, lit, litL, b00, b11, nI_l, lN_add, lN_mul, lN_sub, nI_add, pk_mul, pk_sub, pk_div, remN, Nat.add_sub_cancel, Nat.add_sub_cancel_left, Nat.zero_add, Nat.add_zero, nI_eq, nI_leI, nI_ltI, nI_m1, m1_lt, neg_lt, neg_le, neg_ge, neg_gt, neg_eq, not_true, not_false_iff]; done) | (simp (disch := first | omega | assumption) only [wrI_s, wrI_o, wrI_r, wrL_1, wrL_r, wrL_s, wrL_o, blk_in, blk_out, blk_r, lit, litL, b00, b11, nI_l, lN_add, lN_mul, lN_sub, nI_add, pk_mul, pk_sub, pk_div, remN, Nat.add_sub_cancel, Nat.add_sub_cancel_left, Nat.zero_add, Nat.add_zero, nI_eq, nI_leI, nI_ltI, nI_m1, m1_lt, neg_lt, neg_le, neg_ge, neg_gt, neg_eq, not_true, not_false_iff]; omega)) rfl))
