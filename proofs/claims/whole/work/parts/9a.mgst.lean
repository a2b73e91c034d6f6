/-! STATES: frames that are no DATA, at a station, both sides -/
abbrev l62 : List Nat := [62]
abbrev l218 : List Nat := [218]
theorem staS {d w e t k q st : Nat} {C M : Mm} (h : TT d w e t C M) (hk : k < 9) (h1 : 1 ≤ q) (h3 : q ≤ 3) (hst : C.1 62 k 0 = nI st) (hst3 : st ≤ 3) : TT d w e t (wrI C 62 k 0 (nI q)) (wrI M 218 0 k (nI q)) ∧ fq l62 C (wrI C 62 k 0 (nI q)) ∧ fq l218 M (wrI M 218 0 k (nI q)) := by
  have fC : fq l62 C (wrI C 62 k 0 (nI q)) := by repeat (first | exact fq.rf | (refine fq.tr ?_ (fq.wr (by decide))) | (refine fq.tr ?_ (fq.bk (by decide))) | (refine fq.tr ?_ (fq.wl (by decide))) | (refine fq.tr ?_ (fq.wR (by decide))))
  have gM : fq l218 M (wrI M 218 0 k (nI q)) := by repeat (first | exact fq.rf | (refine fq.tr ?_ (fq.wr (by decide))) | (refine fq.tr ?_ (fq.bk (by decide))) | (refine fq.tr ?_ (fq.wl (by decide))) | (refine fq.tr ?_ (fq.wR (by decide))))
  obtain ⟨hIDraw, hIPar, hISub, hIKey, hIRef, hISta, hILnk, hIBeg, hIQue, hIHnd, hICon, hIDue, hIWai, hISnd, hILat, hIInb⟩ := h
  refine ⟨?_, fC, gM⟩
  have key : ∀ C' M', fq l62 C C' → fq l218 M M' → ISta C' M' → ILnk C' M' → TT d w e t C' M' := fun C' M' fC gM tISta tILnk => ⟨hIDraw.fr fC gM (by decide) (by decide), hIPar.fr fC gM (by decide) (by decide), hISub.fr fC gM (by decide) (by decide), hIKey.fr fC gM (by decide) (by decide), hIRef.fr fC gM (by decide) (by decide), tISta, tILnk, hIBeg.fr fC gM (by decide) (by decide), hIQue.fr fC gM (by decide) (by decide), hIHnd.fr fC gM (by decide) (by decide), hICon.fr fC gM (by decide) (by decide), hIDue.fr fC gM (by decide) (by decide), hIWai.fr fC gM (by decide) (by decide), hISnd.z fC gM (by decide) (by decide), hILat.fr fC gM (by decide) (by decide), hIInb.fr fC gM (by decide) (by decide)⟩
  refine key _ _ fC gM ?_ ?_
  · intro j hj
    obtain ⟨a1, a2, a3, a4⟩ := hISta j hj
    rw [fC.1 63 (nc (by decide)), gM.1 219 (nc (by decide)), gM.1 220 (nc (by decide))]
    refine ⟨?_, ?_, a3, a4⟩
    · by_cases hjk : j = k
      · rw [hjk, wrI_s, wrI_s]
      · rw [wrI_o (by omega), wrI_o (by omega)]
        exact a1
    · rw [wrI_o (by omega)]
      exact a2
  · intro i hi
    obtain ⟨⟨s', a1, a2, a3, a4, a5⟩, b1, c1, c2, c3⟩ := hILnk i hi
    rw [fC.1 64 (nc (by decide)), fC.1 22 (nc (by decide)), fC.1 24 (nc (by decide)), fC.1 23 (nc (by decide)), fC.2.1 65 (nc (by decide)), fC.2.1 66 (nc (by decide)), gM.1 222 (nc (by decide)), gM.2.1 226 (nc (by decide)), gM.2.1 227 (nc (by decide)), gM.1 224 (nc (by decide)), gM.1 223 (nc (by decide)), gM.1 221 (nc (by decide)), gM.1 225 (nc (by decide))]
    refine ⟨?_, b1, c1, c2, c3⟩
    by_cases hik : i = k
    · rw [hik] at a3 a4 ⊢
      have es : s' = st := (nI_eq (by omega) (by omega)).mp (a3.symm.trans hst)
      rw [if_neg (by omega)] at a4
      exact ⟨q, h1, by omega, wrI_s, by rw [if_neg (by omega)]; exact a4, fun z => absurd z (by omega)⟩
    · exact ⟨s', a1, a2, by rw [wrI_o (by omega)]; exact a3, a4, a5⟩
theorem mgSt {d w e t s R n sd k : Nat} {b : Nat → Nat} {C M : Mm} (h : TT d w e t C M) (hN : NB s R n sd b C M) (h28 : 28 ≤ n) (hk1 : 1 ≤ k) (hk : k < 9) (hb8 : ¬ b 0 = 8) : ∃ C' M', F_X11_actAtStation (nI k) 27 R C = some ((), C') ∧ F_X12_actsStation (nI k) M = some ((), M') ∧ TT d w e t C' M' ∧ fq tkC C C' ∧ fq tkM M M' := by
  have q0 := hN.2.2.2.2.1 0
  have q24 := hN.2.2.2.2.1 24
  have q25 := hN.2.2.2.2.1 25
  have q28 := hN.2.2.2.2.1 28
  have q29 := hN.2.2.2.2.1 29
  have hR := hN.1
  have hn3 := hN.2.2.1
  have m307 := hN.2.2.2.2.2.2.2.2.2.2.1
  have m278 := hN.2.2.2.2.2.2.2.2.2.2.2.1
  have c27 := hN.2.2.2.2.2.2.2.2.2.1
  obtain ⟨z1, C1, hz1, e1, f1, i1⟩ := hbC (kd := 176) (det := 2) hN h28 (by omega) (by decide)
  have N1 := hN.fr (f1.up (by decide)) fq.rf
  obtain ⟨z2, C2, hz2, e2, f2, i2⟩ := hbC (kd := 16) (det := k) N1 h28 (by omega) (by omega)
  have N2 := N1.fr (f2.up (by decide)) fq.rf
  obtain ⟨z4, C4, hz4, e4, f4, i4⟩ := hbC (kd := 192) (det := b 24) N2 h28 (by omega) q24
  have f12 := f1.tr f2
  have f14 := f12.tr f4
  have h1 : TT d w e t C1 M := h.fr (v := []) f1 fq.rf (by decide) (by decide)
  have h2 : TT d w e t C2 M := h.fr (v := []) f12 fq.rf (by decide) (by decide)
  have h4 : TT d w e t C4 M := h.fr (v := []) f14 fq.rf (by decide) (by decide)
  have h' := h
  obtain ⟨hIDraw, hIPar, hISub, hIKey, hIRef, hISta, hILnk, hIBeg, hIQue, hIHnd, hICon, hIDue, hIWai, hISnd, hILat, hIInb⟩ := h'
  have r53 : C.2.2 53 0 k = k := (hIRef.1 k hk).2.1
  obtain ⟨⟨st, st1, st2, st3, -⟩, -⟩ := hILnk k (by omega)
  have m218 : M.1 218 0 k = nI st := by rw [← (hISta k hk).1]; exact st3
  have s63 : C.1 63 k 0 = M.1 220 0 k := (hISta k hk).2.2.1
  have zz : ∀ z : Nat, z ≤ 1 → ¬ z = 1 → nI z = 0 := fun z h1 h2 => by rw [show z = 0 by omega]; rfl
  have zn : ∀ z : Nat, z = 1 → ¬ nI z = 0 := fun z h1 => by rw [h1]; decide
  have preM : ∀ X, ((if nI (b 0) = 176 then (cl (F_X12_isBody 6 0 0 2 0 M) fun r25 S26 => if r25 = 0 then (some ((), S26)) else (ldA S26 278 0 300 1 28 fun x28 => if x28 = 0 then (ldA S26 278 0 300 1 29 fun x29 => if x29 = 0 then (ldA S26 220 0 9 1 (nI k) fun x30 => if x30 = 0 then (some ((), S26)) else (ldA S26 218 0 9 1 (nI k) fun x31 => if x31 = 1 then (stA S26 218 0 9 1 (nI k) 2 fun S32 => pf S32 297 0 0 fun S33 => cl (F_X12_add 1 S33) fun r34 S35 => cl (F_X12_add 0 S35) fun r37 S38 => cl (F_X12_add 10 S38) fun r40 S41 => cl (F_X12_add 0 S41) fun r43 S44 => cl (F_X12_enqueue (nI k) 0 0 0 (-1) S44) fun r46 S47 => some ((), S47)) else (some ((), S26)))) else (some ((), S26))) else (some ((), S26)))) else (if nI (b 0) = 16 then (cl (F_X12_isBody 6 1 0 0 0 M) fun r18 S19 => if r18 = 0 then (some ((), S19)) else (ldA S19 278 0 300 1 28 fun x21 => if x21 = nI k then (ldA S19 278 0 300 1 29 fun x22 => if x22 = 192 then (ldA S19 218 0 9 1 (nI k) fun x23 => if x23 = 2 then (stA S19 218 0 9 1 (nI k) 3 fun S24 => some ((), S24)) else (some ((), S19))) else (some ((), S19))) else (some ((), S19)))) else (if nI (b 0) = 192 then (gf M 307 0 fun x12 => if x12 = 30 then (ldA M 278 0 300 1 25 fun x13 => if x13 = 0 then (stA M 218 0 9 1 (nI k) 1 fun S14 => cl (F_X12_unkey (nI k) S14) fun r15 S16 => some ((), S16)) else (some ((), M))) else (some ((), M))) else (some ((), M))))) = X) → F_X12_actsStation (nI k) M = X := by
    intro X hX
    have h8 : ¬ nI (b 0) = 8 := by first | (simp (disch := first | omega | assumption) only [wrI_s, wrI_o, wrI_r, wrL_1, wrL_r, wrL_s, wrL_o, blk_in, blk_out, blk_r, lit, litL, b00, b11, nI_l, lN_add, lN_mul, lN_sub, nI_add, pk_mul, pk_sub, pk_div, remN, Nat.add_sub_cancel, Nat.add_sub_cancel_left, Nat.zero_add, Nat.add_zero, nI_eq, nI_leI, nI_ltI, nI_m1, m1_lt, neg_lt, neg_le, neg_ge, neg_gt, neg_eq, not_true, not_false_iff]; done) | (simp (disch := first | omega | assumption) only [wrI_s, wrI_o, wrI_r, wrL_1, wrL_r, wrL_s, wrL_o, blk_in, blk_out, blk_r, lit, litL, b00, b11, nI_l, lN_add, lN_mul, lN_sub, nI_add, pk_mul, pk_sub, pk_div, remN, Nat.add_sub_cancel, Nat.add_sub_cancel_left, Nat.zero_add, Nat.add_zero, nI_eq, nI_leI, nI_ltI, nI_m1, m1_lt, neg_lt, neg_le, neg_ge, neg_gt, neg_eq, not_true, not_false_iff]; omega)
    rw [← hX]
    unfold F_X12_actsStation
    refine e_ldA (j := 0) rfl (by decide) (by decide) (by decide) (m278 0 (by omega)) ?_
    rw [if_neg h8]
  by_cases pA : bodP b n 176 2
  · obtain ⟨p0, p1, p2, p3, p4, p5, p6, p7⟩ := bo176.mp pA
    have mA : ∀ X, (ldA M 220 0 9 1 (nI k) fun x30 => if x30 = 0 then (some ((), M)) else (ldA M 218 0 9 1 (nI k) fun x31 => if x31 = 1 then (stA M 218 0 9 1 (nI k) 2 fun S32 => pf S32 297 0 0 fun S33 => cl (F_X12_add 1 S33) fun r34 S35 => cl (F_X12_add 0 S35) fun r37 S38 => cl (F_X12_add 10 S38) fun r40 S41 => cl (F_X12_add 0 S41) fun r43 S44 => cl (F_X12_enqueue (nI k) 0 0 0 (-1) S44) fun r46 S47 => some ((), S47)) else (some ((), M)))) = X → F_X12_actsStation (nI k) M = X := by
      intro X hX
      exact preM _ (e_T (by rw [p0]; rfl) (e_cl ((ibM (m := 6) (a0 := 0) (a1 := 0) (a2 := 2) (a3 := 0) hN (by decide) (by decide) (by decide) (by decide) (by decide)).1 ⟨p1, p2, p3, p4, p5⟩) (e_N (by decide) (e_ldA (j := 28) rfl (by decide) (by decide) (by decide) (m278 28 (by omega)) (e_T (by rw [p6]; rfl) (e_ldA (j := 29) rfl (by decide) (by decide) (by decide) (m278 29 (by omega)) (e_T (by rw [p7]; rfl) hX)))))))
    have cA : ∀ X, (gf C1 63 k fun x17 => if x17 = 0 then (some ((), C1)) else (gf C1 62 k fun x18 => if x18 = 1 then (pf C1 62 k 2 fun S19 => cl (F_X11_queueBody (nI k) 0 0 0 S19) fun r20 S21 => some ((), S21)) else (some ((), C1)))) = X → F_X11_actAtStation (nI k) 27 R C = X := by
      intro X hX
      unfold F_X11_actAtStation
      exact e_ldR rfl hk (by decide) (by decide) r53 (by omega) (e_cl e1 (e_N (zn z1 (i1.mpr pA)) hX))
    have c63 : C1.1 63 k 0 = M.1 220 0 k := by rw [f1.1 63 (nc (by decide))]; exact s63
    have c62 : C1.1 62 k 0 = nI st := by rw [f1.1 62 (nc (by decide))]; exact st3
    by_cases ha : M.1 220 0 k = nI 0
    · exact ⟨C1, M, cA _ (e_gf (c63.trans ha) (e_T rfl rfl)), mA _ (e_ldA rfl hk (by decide) (by decide) ha (e_T rfl rfl)), h1, f1.up (by decide), fq.rf⟩
    · by_cases hs1 : st = 1
      · obtain ⟨l1, l2, l3⟩ := staS (q := 2) (st := st) h1 hk (by decide) (by decide) c62 (by omega)
        have t0 := msg0 (wrI M 218 0 k (nI 2)) (fun j => nI (bodF 0 0 j))
        obtain ⟨M1, a1, t1, g1⟩ := addM (v := nI 1) t0 (by decide) (by decide)
        obtain ⟨M2, a2, t2, g2⟩ := addM (v := nI 0) t1 (by decide) (by decide)
        obtain ⟨M3, a3, t3, g3⟩ := addM (v := nI 10) t2 (by decide) (by decide)
        obtain ⟨M4, a4, t4, g4⟩ := addM (v := nI 0) t3 (by decide) (by decide)
        have gA : fq [253, 297] (wrI M 218 0 k (nI 2)) M4 := (fq.wr (by decide)).tr (((g1.tr g2).tr g3).tr g4)
        have l4 := l1.fr (u := []) fq.rf gA (by decide) (by decide)
        obtain ⟨C', M', v1, v2, v3, v4, v5⟩ := l4.qb (k := k) (to := 0) (kd := 0) (det := 0) hk (by decide) (by omega) (by decide) t4
        refine ⟨C', M', cA _ ?_, mA _ ?_, v3, ((f1.up (by decide)).tr (l2.up (by decide))).tr (v4.up (by decide)), ((l3.up (by decide)).tr (gA.up (by decide))).tr (v5.up (by decide))⟩
        · exact e_gf c63 (e_N ha (e_gf c62 (e_T (by rw [hs1]; rfl) (e_pf (w := nI 2) rfl (e_cl v1 rfl)))))
        · exact e_ldA rfl hk (by decide) (by decide) rfl (e_N ha (e_ldA rfl hk (by decide) (by decide) m218 (e_T (by rw [hs1]; rfl) (e_stA rfl hk (by decide) (by decide) (w := nI 2) rfl (e_pf (w := nI 0) rfl (e_cl a1 (e_cl a2 (e_cl a3 (e_cl a4 (e_cl v2 rfl))))))))))
      · exact ⟨C1, M, cA _ (e_gf c63 (e_N ha (e_gf c62 (e_N (by first | (simp (disch := first | omega | assumption) only [wrI_s, wrI_o, wrI_r, wrL_1, wrL_r, wrL_s, wrL_o, blk_in, blk_out, blk_r, lit, litL, b00, b11, nI_l, lN_add, lN_mul, lN_sub, nI_add, pk_mul, pk_sub, pk_div, remN, Nat.add_sub_cancel, Nat.add_sub_cancel_left, Nat.zero_add, Nat.add_zero, nI_eq, nI_leI, nI_ltI, nI_m1, m1_lt, neg_lt, neg_le, neg_ge, neg_gt, neg_eq, not_true, not_false_iff]; done) | (simp (disch := first | omega | assumption) only [wrI_s, wrI_o, wrI_r, wrL_1, wrL_r, wrL_s, wrL_o, blk_in, blk_out, blk_r, lit, litL, b00, b11, nI_l, lN_add, lN_mul, lN_sub, nI_add, pk_mul, pk_sub, pk_div, remN, Nat.add_sub_cancel, Nat.add_sub_cancel_left, Nat.zero_add, Nat.add_zero, nI_eq, nI_leI, nI_ltI, nI_m1, m1_lt, neg_lt, neg_le, neg_ge, neg_gt, neg_eq, not_true, not_false_iff]; omega)) rfl)))), mA _ (e_ldA rfl hk (by decide) (by decide) rfl (e_N ha (e_ldA rfl hk (by decide) (by decide) m218 (e_N (by first | (simp (disch := first | omega | assumption) only [wrI_s, wrI_o, wrI_r, wrL_1, wrL_r, wrL_s, wrL_o, blk_in, blk_out, blk_r, lit, litL, b00, b11, nI_l, lN_add, lN_mul, lN_sub, nI_add, pk_mul, pk_sub, pk_div, remN, Nat.add_sub_cancel, Nat.add_sub_cancel_left, Nat.zero_add, Nat.add_zero, nI_eq, nI_leI, nI_ltI, nI_m1, m1_lt, neg_lt, neg_le, neg_ge, neg_gt, neg_eq, not_true, not_false_iff]; done) | (simp (disch := first | omega | assumption) only [wrI_s, wrI_o, wrI_r, wrL_1, wrL_r, wrL_s, wrL_o, blk_in, blk_out, blk_r, lit, litL, b00, b11, nI_l, lN_add, lN_mul, lN_sub, nI_add, pk_mul, pk_sub, pk_div, remN, Nat.add_sub_cancel, Nat.add_sub_cancel_left, Nat.zero_add, Nat.add_zero, nI_eq, nI_leI, nI_ltI, nI_m1, m1_lt, neg_lt, neg_le, neg_ge, neg_gt, neg_eq, not_true, not_false_iff]; omega)) rfl)))), h1, f1.up (by decide), fq.rf⟩
  have cN : ∀ X, (cl (F_X11_hasBody 16 (nI k) C1) fun r5 S6 => if r5 = 0 then (ldP false S6 27 R 24 fun x8 => cl (F_X11_hasBody 192 x8 S6) fun r9 S10 => if r9 = 0 then (some ((), S10)) else (cl (F_X4_loseKey k 1 S10) fun r12 S13 => some ((), S13))) else (gf S6 62 k fun x15 => if x15 = 2 then (pf S6 62 k 3 fun S16 => some ((), S16)) else (some ((), S6)))) = X → F_X11_actAtStation (nI k) 27 R C = X := by
    intro X hX
    unfold F_X11_actAtStation
    exact e_ldR rfl hk (by decide) (by decide) r53 (by omega) (e_cl e1 (e_T (zz z1 hz1 (fun z => pA (i1.mp z))) hX))
  by_cases pB : bodP b n 16 k
  · obtain ⟨p0, p1, p2, p3, p4, p5, p6, p7⟩ := bo16.mp pB
    have c62 : C2.1 62 k 0 = nI st := by rw [f12.1 62 (nc (by decide))]; exact st3
    have mB : ∀ X, (ldA M 218 0 9 1 (nI k) fun x23 => if x23 = 2 then (stA M 218 0 9 1 (nI k) 3 fun S24 => some ((), S24)) else (some ((), M))) = X → F_X12_actsStation (nI k) M = X := by
      intro X hX
      exact preM _ (e_N (by rw [p0]; decide) (e_T (by rw [p0]; rfl) (e_cl ((ibM (m := 6) (a0 := 1) (a1 := 0) (a2 := 0) (a3 := 0) hN (by decide) (by decide) (by decide) (by decide) (by decide)).1 ⟨p1, p2, p3, p4, p5⟩) (e_N (by decide) (e_ldA (j := 28) rfl (by decide) (by decide) (by decide) (m278 28 (by omega)) (e_T (by rw [p6]) (e_ldA (j := 29) rfl (by decide) (by decide) (by decide) (m278 29 (by omega)) (e_T (by rw [p7]; rfl) hX))))))))
    by_cases hs2 : st = 2
    · obtain ⟨l1, l2, l3⟩ := staS (q := 3) (st := st) h2 hk (by decide) (by decide) c62 (by omega)
      refine ⟨_, _, cN _ ?_, mB _ ?_, l1, (f12.up (by decide)).tr (l2.up (by decide)), l3.up (by decide)⟩
      · exact e_cl e2 (e_N (zn z2 (i2.mpr pB)) (e_gf c62 (e_T (by rw [hs2]; rfl) (e_pf (w := nI 3) rfl rfl))))
      · exact e_ldA rfl hk (by decide) (by decide) m218 (e_T (by rw [hs2]; rfl) (e_stA rfl hk (by decide) (by decide) (w := nI 3) rfl rfl))
    · refine ⟨C2, M, cN _ ?_, mB _ ?_, h2, f12.up (by decide), fq.rf⟩
      · exact e_cl e2 (e_N (zn z2 (i2.mpr pB)) (e_gf c62 (e_N (by first | (simp (disch := first | omega | assumption) only [wrI_s, wrI_o, wrI_r, wrL_1, wrL_r, wrL_s, wrL_o, blk_in, blk_out, blk_r, lit, litL, b00, b11, nI_l, lN_add, lN_mul, lN_sub, nI_add, pk_mul, pk_sub, pk_div, remN, Nat.add_sub_cancel, Nat.add_sub_cancel_left, Nat.zero_add, Nat.add_zero, nI_eq, nI_leI, nI_ltI, nI_m1, m1_lt, neg_lt, neg_le, neg_ge, neg_gt, neg_eq, not_true, not_false_iff]; done) | (simp (disch := first | omega | assumption) only [wrI_s, wrI_o, wrI_r, wrL_1, wrL_r, wrL_s, wrL_o, blk_in, blk_out, blk_r, lit, litL, b00, b11, nI_l, lN_add, lN_mul, lN_sub, nI_add, pk_mul, pk_sub, pk_div, remN, Nat.add_sub_cancel, Nat.add_sub_cancel_left, Nat.zero_add, Nat.add_zero, nI_eq, nI_leI, nI_ltI, nI_m1, m1_lt, neg_lt, neg_le, neg_ge, neg_gt, neg_eq, not_true, not_false_iff]; omega)) rfl)))
      · exact e_ldA rfl hk (by decide) (by decide) m218 (e_N (by first | (simp (disch := first | omega | assumption) only [wrI_s, wrI_o, wrI_r, wrL_1, wrL_r, wrL_s, wrL_o, blk_in, blk_out, blk_r, lit, litL, b00, b11, nI_l, lN_add, lN_mul, lN_sub, nI_add, pk_mul, pk_sub, pk_div, remN, Nat.add_sub_cancel, Nat.add_sub_cancel_left, Nat.zero_add, Nat.add_zero, nI_eq, nI_leI, nI_ltI, nI_m1, m1_lt, neg_lt, neg_le, neg_ge, neg_gt, neg_eq, not_true, not_false_iff]; done) | (simp (disch := first | omega | assumption) only [wrI_s, wrI_o, wrI_r, wrL_1, wrL_r, wrL_s, wrL_o, blk_in, blk_out, blk_r, lit, litL, b00, b11, nI_l, lN_add, lN_mul, lN_sub, nI_add, pk_mul, pk_sub, pk_div, remN, Nat.add_sub_cancel, Nat.add_sub_cancel_left, Nat.zero_add, Nat.add_zero, nI_eq, nI_leI, nI_ltI, nI_m1, m1_lt, neg_lt, neg_le, neg_ge, neg_gt, neg_eq, not_true, not_false_iff]; omega)) rfl)
  have r24 : rdI C2 27 R 24 = nI (b 24) := by
    show C2.1 27 R 24 = _
    rw [f12.1 27 (nc (by decide))]
    exact c27 24 (by omega)
  by_cases pD : bodP b n 192 (b 24)
  · obtain ⟨p0, p1, p2, p3⟩ := bo192.mp pD
    obtain ⟨l1, l2, l3⟩ := losS (q := 1) h4 hk (by decide) (by decide)
    refine ⟨_, _, cN _ ?_, preM _ ?_, l1, (f14.up (by decide)).tr (l2.up (by decide)), l3.up (by decide)⟩
    · exact e_cl e2 (e_T (zz z2 hz2 (fun z => pB (i2.mp z))) (e_ldP (j := 24) rfl (okP_n (by decide) hR) (by decide) (by decide) r24 (e_cl e4 (e_N (zn z4 (i4.mpr pD)) (e_cl (losC (t := 1) (by omega)) rfl)))))
    · exact e_N (by rw [p0]; decide) (e_N (by rw [p0]; decide) (e_T (by rw [p0]; rfl) (e_gf m307 (e_T (by rw [p1]; rfl) (e_ldA (j := 25) rfl (by decide) (by decide) (by decide) (m278 25 (by omega)) (e_T (by rw [p3]; rfl) (e_stA rfl hk (by decide) (by decide) (w := nI 1) rfl (e_cl (unkM (by omega)) rfl))))))))
  · refine ⟨C4, M, cN _ ?_, preM _ ?_, h4, f14.up (by decide), fq.rf⟩
    · exact e_cl e2 (e_T (zz z2 hz2 (fun z => pB (i2.mp z))) (e_ldP (j := 24) rfl (okP_n (by decide) hR) (by decide) (by decide) r24 (e_cl e4 (e_T (zz z4 hz4 (fun z => pD (i4.mp z))) rfl))))
    · by_cases k1 : b 0 = 176
      · refine e_T (by rw [k1]; rfl) ?_
        by_cases k2 : n = 28 + 6 ∧ b 24 = 0 ∧ b 25 = 0 ∧ b 26 = 2 ∧ b 27 = 0
        · refine e_cl ((ibM (m := 6) (a0 := 0) (a1 := 0) (a2 := 2) (a3 := 0) hN (by decide) (by decide) (by decide) (by decide) (by decide)).1 k2) (e_N (by decide) (e_ldA (j := 28) rfl (by decide) (by decide) (by decide) (m278 28 (by omega)) ?_))
          by_cases k3 : b 28 = 0
          · have k4 : ¬ b 29 = 0 := fun z => pA (bo176.mpr ⟨k1, k2.1, k2.2.1, k2.2.2.1, k2.2.2.2.1, k2.2.2.2.2, k3, z⟩)
            exact e_T (by rw [k3]; rfl) (e_ldA (j := 29) rfl (by decide) (by decide) (by decide) (m278 29 (by omega)) (e_N (nI_ne0 (by omega) (by omega)) rfl))
          · exact e_N (nI_ne0 (by omega) (by omega)) rfl
        · exact e_cl ((ibM (m := 6) (a0 := 0) (a1 := 0) (a2 := 2) (a3 := 0) hN (by decide) (by decide) (by decide) (by decide) (by decide)).2 k2) (e_T rfl rfl)
      · refine e_N (by first | (simp (disch := first | omega | assumption) only [wrI_s, wrI_o, wrI_r, wrL_1, wrL_r, wrL_s, wrL_o, blk_in, blk_out, blk_r, lit, litL, b00, b11, nI_l, lN_add, lN_mul, lN_sub, nI_add, pk_mul, pk_sub, pk_div, remN, Nat.add_sub_cancel, Nat.add_sub_cancel_left, Nat.zero_add, Nat.add_zero, nI_eq, nI_leI, nI_ltI, nI_m1, m1_lt, neg_lt, neg_le, neg_ge, neg_gt, neg_eq, not_true, not_false_iff]; done) | (simp (disch := first | omega | assumption) only [wrI_s, wrI_o, wrI_r, wrL_1, wrL_r, wrL_s, wrL_o, blk_in, blk_out, blk_r, lit, litL, b00, b11, nI_l, lN_add, lN_mul, lN_sub, nI_add, pk_mul, pk_sub, pk_div, remN, Nat.add_sub_cancel, Nat.add_sub_cancel_left, Nat.zero_add, Nat.add_zero, nI_eq, nI_leI, nI_ltI, nI_m1, m1_lt, neg_lt, neg_le, neg_ge, neg_gt, neg_eq, not_true, not_false_iff]; omega)) ?_
        by_cases k2 : b 0 = 16
        · refine e_T (by rw [k2]; rfl) ?_
          by_cases k3 : n = 28 + 6 ∧ b 24 = 1 ∧ b 25 = 0 ∧ b 26 = 0 ∧ b 27 = 0
          · refine e_cl ((ibM (m := 6) (a0 := 1) (a1 := 0) (a2 := 0) (a3 := 0) hN (by decide) (by decide) (by decide) (by decide) (by decide)).1 k3) (e_N (by decide) (e_ldA (j := 28) rfl (by decide) (by decide) (by decide) (m278 28 (by omega)) ?_))
            by_cases k4 : b 28 = k
            · have k5 : ¬ b 29 = 192 := fun z => pB (bo16.mpr ⟨k2, k3.1, k3.2.1, k3.2.2.1, k3.2.2.2.1, k3.2.2.2.2, k4, z⟩)
              exact e_T (by rw [k4]) (e_ldA (j := 29) rfl (by decide) (by decide) (by decide) (m278 29 (by omega)) (e_N (by first | (simp (disch := first | omega | assumption) only [wrI_s, wrI_o, wrI_r, wrL_1, wrL_r, wrL_s, wrL_o, blk_in, blk_out, blk_r, lit, litL, b00, b11, nI_l, lN_add, lN_mul, lN_sub, nI_add, pk_mul, pk_sub, pk_div, remN, Nat.add_sub_cancel, Nat.add_sub_cancel_left, Nat.zero_add, Nat.add_zero, nI_eq, nI_leI, nI_ltI, nI_m1, m1_lt, neg_lt, neg_le, neg_ge, neg_gt, neg_eq, not_true, not_false_iff]; done) | (simp (disch := first | omega | assumption) only [wrI_s, wrI_o, wrI_r, wrL_1, wrL_r, wrL_s, wrL_o, blk_in, blk_out, blk_r, lit, litL, b00, b11, nI_l, lN_add, lN_mul, lN_sub, nI_add, pk_mul, pk_sub, pk_div, remN, Nat.add_sub_cancel, Nat.add_sub_cancel_left, Nat.zero_add, Nat.add_zero, nI_eq, nI_leI, nI_ltI, nI_m1, m1_lt, neg_lt, neg_le, neg_ge, neg_gt, neg_eq, not_true, not_false_iff]; omega)) rfl))
            · exact e_N (by rw [nI_eq (by omega) (by omega)]; exact k4) rfl
          · exact e_cl ((ibM (m := 6) (a0 := 1) (a1 := 0) (a2 := 0) (a3 := 0) hN (by decide) (by decide) (by decide) (by decide) (by decide)).2 k3) (e_T rfl rfl)
        · refine e_N (by first | (simp (disch := first | omega | assumption) only [wrI_s, wrI_o, wrI_r, wrL_1, wrL_r, wrL_s, wrL_o, blk_in, blk_out, blk_r, lit, litL, b00, b11, nI_l, lN_add, lN_mul, lN_sub, nI_add, pk_mul, pk_sub, pk_div, remN, Nat.add_sub_cancel, Nat.add_sub_cancel_left, Nat.zero_add, Nat.add_zero, nI_eq, nI_leI, nI_ltI, nI_m1, m1_lt, neg_lt, neg_le, neg_ge, neg_gt, neg_eq, not_true, not_false_iff]; done) | (simp (disch := first | omega | assumption) only [wrI_s, wrI_o, wrI_r, wrL_1, wrL_r, wrL_s, wrL_o, blk_in, blk_out, blk_r, lit, litL, b00, b11, nI_l, lN_add, lN_mul, lN_sub, nI_add, pk_mul, pk_sub, pk_div, remN, Nat.add_sub_cancel, Nat.add_sub_cancel_left, Nat.zero_add, Nat.add_zero, nI_eq, nI_leI, nI_ltI, nI_m1, m1_lt, neg_lt, neg_le, neg_ge, neg_gt, neg_eq, not_true, not_false_iff]; omega)) ?_
          by_cases k3 : b 0 = 192
          · refine e_T (by rw [k3]; rfl) (e_gf m307 ?_)
            by_cases k4 : n = 30
            · have k5 : ¬ b 25 = 0 := fun z => pD (bo192.mpr ⟨k3, k4, rfl, z⟩)
              exact e_T (by rw [k4]; rfl) (e_ldA (j := 25) rfl (by decide) (by decide) (by decide) (m278 25 (by omega)) (e_N (nI_ne0 (by omega) (by omega)) rfl))
            · exact e_N (by first | (simp (disch := first | omega | assumption) only [wrI_s, wrI_o, wrI_r, wrL_1, wrL_r, wrL_s, wrL_o, blk_in, blk_out, blk_r, lit, litL, b00, b11, nI_l, lN_add, lN_mul, lN_sub, nI_add, pk_mul, pk_sub, pk_div, remN, Nat.add_sub_cancel, Nat.add_sub_cancel_left, Nat.zero_add, Nat.add_zero, nI_eq, nI_leI, nI_ltI, nI_m1, m1_lt, neg_lt, neg_le, neg_ge, neg_gt, neg_eq, not_true, not_false_iff]; done) | (simp (disch := first | omega | assumption) only [wrI_s, wrI_o, wrI_r, wrL_1, wrL_r, wrL_s, wrL_o, blk_in, blk_out, blk_r, lit, litL, b00, b11, nI_l, lN_add, lN_mul, lN_sub, nI_add, pk_mul, pk_sub, pk_div, remN, Nat.add_sub_cancel, Nat.add_sub_cancel_left, Nat.zero_add, Nat.add_zero, nI_eq, nI_leI, nI_ltI, nI_m1, m1_lt, neg_lt, neg_le, neg_ge, neg_gt, neg_eq, not_true, not_false_iff]; omega)) rfl
          · exact e_N (by first | (simp (disch := first | omega | assumption) only [wrI_s, wrI_o, wrI_r, wrL_1, wrL_r, wrL_s, wrL_o, blk_in, blk_out, blk_r, lit, litL, b00, b11, nI_l, lN_add, lN_mul, lN_sub, nI_add, pk_mul, pk_sub, pk_div, remN, Nat.add_sub_cancel, Nat.add_sub_cancel_left, Nat.zero_add, Nat.add_zero, nI_eq, nI_leI, nI_ltI, nI_m1, m1_lt, neg_lt, neg_le, neg_ge, neg_gt, neg_eq, not_true, not_false_iff]; done) | (simp (disch := first | omega | assumption) only [wrI_s, wrI_o, wrI_r, wrL_1, wrL_r, wrL_s, wrL_o, blk_in, blk_out, blk_r, lit, litL, b00, b11, nI_l, lN_add, lN_mul, lN_sub, nI_add, pk_mul, pk_sub, pk_div, remN, Nat.add_sub_cancel, Nat.add_sub_cancel_left, Nat.zero_add, Nat.add_zero, nI_eq, nI_leI, nI_ltI, nI_m1, m1_lt, neg_lt, neg_le, neg_ge, neg_gt, neg_eq, not_true, not_false_iff]; omega)) rfl
