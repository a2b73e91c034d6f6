/-! STATES: frames that are no DATA, both sides -/
theorem ibM {s R n sd m a0 a1 a2 a3 : Nat} {b : Nat → Nat} {C M : Mm} (hN : NB s R n sd b C M) (hm : m < 100) (h0 : a0 < 256) (h1 : a1 < 256) (h2 : a2 < 256) (h3 : a3 < 256) : ((n = 28 + m ∧ b 24 = a0 ∧ b 25 = a1 ∧ b 26 = a2 ∧ b 27 = a3) → F_X12_isBody (nI m) (nI a0) (nI a1) (nI a2) (nI a3) M = some (nI 1, M)) ∧ (¬ (n = 28 + m ∧ b 24 = a0 ∧ b 25 = a1 ∧ b 26 = a2 ∧ b 27 = a3) → F_X12_isBody (nI m) (nI a0) (nI a1) (nI a2) (nI a3) M = some (nI 0, M)) := by
  obtain ⟨g1, g2, g3, g4, g5, g6, g7, g8, g9, g10, g11, g12, g13, g14⟩ := hN
  have q24 := g5 24
  have q25 := g5 25
  have q26 := g5 26
  have q27 := g5 27
  unfold F_X12_isBody L_X12_isBody_61
  by_cases k : n = 28 + m
  · have e : nI n = 28 + nI m := by rw [k, ← nI_add]; rfl
    by_cases k0 : b 24 = a0
    · by_cases k1 : b 25 = a1
      · by_cases k2 : b 26 = a2
        · by_cases k3 : b 27 = a3
          · exact ⟨fun _ => e_gf g11 (e_T e (e_ldA (j := 24) rfl (by decide) (by decide) (by decide) (g12 24 (by omega)) (e_T (by rw [k0]) (e_ldA (j := 25) rfl (by decide) (by decide) (by decide) (g12 25 (by omega)) (e_T (by rw [k1]) (e_ldA (j := 26) rfl (by decide) (by decide) (by decide) (g12 26 (by omega)) (e_T (by rw [k2]) (e_ldA (j := 27) rfl (by decide) (by decide) (by decide) (g12 27 (by omega)) (e_T (by rw [k3]) rfl))))))))), fun z => absurd ⟨k, k0, k1, k2, k3⟩ z⟩
          · exact ⟨fun z => absurd z.2.2.2.2 k3, fun _ => e_gf g11 (e_T e (e_ldA (j := 24) rfl (by decide) (by decide) (by decide) (g12 24 (by omega)) (e_T (by rw [k0]) (e_ldA (j := 25) rfl (by decide) (by decide) (by decide) (g12 25 (by omega)) (e_T (by rw [k1]) (e_ldA (j := 26) rfl (by decide) (by decide) (by decide) (g12 26 (by omega)) (e_T (by rw [k2]) (e_ldA (j := 27) rfl (by decide) (by decide) (by decide) (g12 27 (by omega)) (e_N (by rw [nI_eq (by omega) (by omega)]; exact k3) rfl)))))))))⟩
        · exact ⟨fun z => absurd z.2.2.2.1 k2, fun _ => e_gf g11 (e_T e (e_ldA (j := 24) rfl (by decide) (by decide) (by decide) (g12 24 (by omega)) (e_T (by rw [k0]) (e_ldA (j := 25) rfl (by decide) (by decide) (by decide) (g12 25 (by omega)) (e_T (by rw [k1]) (e_ldA (j := 26) rfl (by decide) (by decide) (by decide) (g12 26 (by omega)) (e_N (by rw [nI_eq (by omega) (by omega)]; exact k2) rfl)))))))⟩
      · exact ⟨fun z => absurd z.2.2.1 k1, fun _ => e_gf g11 (e_T e (e_ldA (j := 24) rfl (by decide) (by decide) (by decide) (g12 24 (by omega)) (e_T (by rw [k0]) (e_ldA (j := 25) rfl (by decide) (by decide) (by decide) (g12 25 (by omega)) (e_N (by rw [nI_eq (by omega) (by omega)]; exact k1) rfl)))))⟩
    · exact ⟨fun z => absurd z.2.1 k0, fun _ => e_gf g11 (e_T e (e_ldA (j := 24) rfl (by decide) (by decide) (by decide) (g12 24 (by omega)) (e_N (by rw [nI_eq (by omega) (by omega)]; exact k0) rfl)))⟩
  · refine ⟨fun z => absurd z.1 k, fun _ => e_gf g11 (e_N ?_ rfl)⟩
    rw [show (28 : Int32) = nI 28 from rfl, nI_add, nI_eq (by omega) (by omega)]
    exact k
theorem bo176 {b : Nat → Nat} {n det : Nat} : bodP b n 176 det ↔ b 0 = 176 ∧ n = 34 ∧ b 24 = 0 ∧ b 25 = 0 ∧ b 26 = det ∧ b 27 = 0 ∧ b 28 = 0 ∧ b 29 = 0 := by
  constructor
  · rintro ⟨h0, h1, h2⟩
    exact ⟨h0, h1, h2 0 (by decide), h2 1 (by decide), h2 2 (by decide), h2 3 (by decide), h2 4 (by decide), h2 5 (by decide)⟩
  · rintro ⟨h0, h1, q0, q1, q2, q3, q4, q5⟩
    refine ⟨h0, h1, fun j hj => ?_⟩
    have hj6 : j < 6 := hj
    have : j = 0 ∨ j = 1 ∨ j = 2 ∨ j = 3 ∨ j = 4 ∨ j = 5 := by omega
    rcases this with rfl | rfl | rfl | rfl | rfl | rfl
    · exact q0
    · exact q1
    · exact q2
    · exact q3
    · exact q4
    · exact q5
theorem bo16 {b : Nat → Nat} {n det : Nat} : bodP b n 16 det ↔ b 0 = 16 ∧ n = 34 ∧ b 24 = 1 ∧ b 25 = 0 ∧ b 26 = 0 ∧ b 27 = 0 ∧ b 28 = det ∧ b 29 = 192 := by
  constructor
  · rintro ⟨h0, h1, h2⟩
    exact ⟨h0, h1, h2 0 (by decide), h2 1 (by decide), h2 2 (by decide), h2 3 (by decide), h2 4 (by decide), h2 5 (by decide)⟩
  · rintro ⟨h0, h1, q0, q1, q2, q3, q4, q5⟩
    refine ⟨h0, h1, fun j hj => ?_⟩
    have hj6 : j < 6 := hj
    have : j = 0 ∨ j = 1 ∨ j = 2 ∨ j = 3 ∨ j = 4 ∨ j = 5 := by omega
    rcases this with rfl | rfl | rfl | rfl | rfl | rfl
    · exact q0
    · exact q1
    · exact q2
    · exact q3
    · exact q4
    · exact q5
theorem bo0 {b : Nat → Nat} {n det : Nat} : bodP b n 0 det ↔ b 0 = 0 ∧ n = 32 ∧ b 24 = 1 ∧ b 25 = 0 ∧ b 26 = 10 ∧ b 27 = 0 := by
  constructor
  · rintro ⟨h0, h1, h2⟩
    exact ⟨h0, h1, h2 0 (by decide), h2 1 (by decide), h2 2 (by decide), h2 3 (by decide)⟩
  · rintro ⟨h0, h1, q0, q1, q2, q3⟩
    refine ⟨h0, h1, fun j hj => ?_⟩
    have hj6 : j < 4 := hj
    have : j = 0 ∨ j = 1 ∨ j = 2 ∨ j = 3 := by omega
    rcases this with rfl | rfl | rfl | rfl
    · exact q0
    · exact q1
    · exact q2
    · exact q3
theorem bo192 {b : Nat → Nat} {n det : Nat} : bodP b n 192 det ↔ b 0 = 192 ∧ n = 30 ∧ b 24 = det ∧ b 25 = 0 := by
  constructor
  · rintro ⟨h0, h1, h2⟩
    exact ⟨h0, h1, h2 0 (by decide), h2 1 (by decide)⟩
  · rintro ⟨h0, h1, q0, q1⟩
    refine ⟨h0, h1, fun j hj => ?_⟩
    have hj6 : j < 2 := hj
    have : j = 0 ∨ j = 1 := by omega
    rcases this with rfl | rfl
    · exact q0
    · exact q1
theorem ms176 {M : Mm} {k : Nat} : ∃ T, MSG T (fun j => nI (bodF 176 2 j)) 6 ∧ fq [253, 297] M T ∧ L_X12_actsAp_72 (nI k) fu 0 (wrI M 297 0 0 (nI 0)) = (cl (F_X12_enqueue 0 176 (nI k) 0 (-1) T) fun r38 S39 => some ((), S39)) := by
  have t0 := msg0 M (fun j => nI (bodF 176 2 j))
  obtain ⟨M1, a1, t1, g1⟩ := addM (v := nI 0) t0 (by decide) (by decide)
  obtain ⟨M2, a2, t2, g2⟩ := addM (v := nI 0) t1 (by decide) (by decide)
  obtain ⟨M3, a3, t3, g3⟩ := addM (v := nI 2) t2 (by decide) (by decide)
  obtain ⟨M4, a4, t4, g4⟩ := addM (v := nI 0) t3 (by decide) (by decide)
  obtain ⟨M5, a5, t5, g5⟩ := addM (v := nI 0) t4 (by decide) (by decide)
  obtain ⟨M6, a6, t6, g6⟩ := addM (v := nI 0) t5 (by decide) (by decide)
  refine ⟨M6, t6, (fq.wr (by decide)).tr (((((g1.tr g2).tr g3).tr g4).tr g5).tr g6), ?_⟩
  obtain ⟨m, hm⟩ := fu_n (N := 6) (by decide)
  rw [hm, show m + 6 + 1 = m + 1 + 1 + 1 + 1 + 1 + 1 + 1 by omega]
  rw [L_X12_actsAp_72]
  refine e_N (by decide) (e_N (by decide) ?_)
  unfold L_X12_actsAp_91
  refine e_cl a1 ?_
  rw [L_X12_actsAp_72]
  refine e_N (by decide) (e_N (by decide) ?_)
  unfold L_X12_actsAp_91
  refine e_cl a2 ?_
  rw [L_X12_actsAp_72]
  refine e_N (by decide) (e_T (by decide) ?_)
  unfold L_X12_actsAp_91
  refine e_cl a3 ?_
  rw [L_X12_actsAp_72]
  refine e_N (by decide) (e_N (by decide) ?_)
  unfold L_X12_actsAp_91
  refine e_cl a4 ?_
  rw [L_X12_actsAp_72]
  refine e_N (by decide) (e_N (by decide) ?_)
  unfold L_X12_actsAp_91
  refine e_cl a5 ?_
  rw [L_X12_actsAp_72]
  refine e_N (by decide) (e_N (by decide) ?_)
  unfold L_X12_actsAp_91
  refine e_cl a6 ?_
  rw [L_X12_actsAp_72]
  exact e_T (by decide) rfl
theorem mgAp {d w e t s R n sd k : Nat} {b : Nat → Nat} {C M : Mm} (h : TT d w e t C M) (hN : NB s R n sd b C M) (h28 : 28 ≤ n) (hk1 : 1 ≤ k) (hk : k < 9) (hb8 : ¬ b 0 = 8) : ∃ C' M', F_X11_actAtAp (nI k) 27 R C = some ((), C') ∧ F_X12_actsAp (nI k) M = some ((), M') ∧ TT d w e t C' M' ∧ fq tkC C C' ∧ fq tkM M M' := by
  have q0 := hN.2.2.2.2.1 0
  have q24 := hN.2.2.2.2.1 24
  have q25 := hN.2.2.2.2.1 25
  have q28 := hN.2.2.2.2.1 28
  have q29 := hN.2.2.2.2.1 29
  have hR := hN.1
  have hn3 := hN.2.2.1
  have m307 := hN.2.2.2.2.2.2.2.2.2.2.1
  have m278 := hN.2.2.2.2.2.2.2.2.2.2.2.1
  have c27 := hN.2.2.2.2.2.2.2.2.2.1
  obtain ⟨z1, C1, hz1, e1, f1, i1⟩ := hbC (kd := 176) (det := 1) hN h28 (by omega) (by decide)
  have N1 := hN.fr (f1.up (by decide)) fq.rf
  obtain ⟨z2, C2, hz2, e2, f2, i2⟩ := hbC (kd := 0) (det := 0) N1 h28 (by omega) (by decide)
  have N2 := N1.fr (f2.up (by decide)) fq.rf
  obtain ⟨z3, C3, hz3, e3, f3, i3⟩ := hbC (kd := 0) (det := 0) N2 h28 (by omega) (by decide)
  have N3 := N2.fr (f3.up (by decide)) fq.rf
  obtain ⟨z4, C4, hz4, e4, f4, i4⟩ := hbC (kd := 192) (det := b 24) N3 h28 (by omega) q24
  have f12 := f1.tr f2
  have f13 := f12.tr f3
  have f14 := f13.tr f4
  have h1 : TT d w e t C1 M := h.fr (v := []) f1 fq.rf (by decide) (by decide)
  have h2 : TT d w e t C2 M := h.fr (v := []) f12 fq.rf (by decide) (by decide)
  have h3 : TT d w e t C3 M := h.fr (v := []) f13 fq.rf (by decide) (by decide)
  have h4 : TT d w e t C4 M := h.fr (v := []) f14 fq.rf (by decide) (by decide)
  have h' := h
  obtain ⟨hIDraw, hIPar, hISub, hIKey, hIRef, hISta, hILnk, hIBeg, hIQue, hIHnd, hICon, hIDue, hIWai, hISnd, hILat, hIInb⟩ := h'
  have r54 : C.2.2 54 0 k = 9 + k := (hIRef.1 k hk).2.2.1
  obtain ⟨⟨st, st1, st2, st3, -⟩, -⟩ := hILnk (9 + k) (by omega)
  have m219 : M.1 219 0 k = nI st := by rw [← (hISta k hk).2.1]; exact st3
  have zz : ∀ z : Nat, z ≤ 1 → ¬ z = 1 → nI z = 0 := fun z h1 h2 => by rw [show z = 0 by omega]; rfl
  have zn : ∀ z : Nat, z = 1 → ¬ nI z = 0 := fun z h1 => by rw [h1]; decide
  have preM : ∀ X, ((if nI (b 0) = 176 then (cl (F_X12_isBody 6 0 0 1 0 M) fun r28 S29 => if r28 = 0 then (some ((), S29)) else (ldA S29 278 0 300 1 28 fun x31 => if x31 = 0 then (ldA S29 278 0 300 1 29 fun x32 => if x32 = 0 then (stA S29 219 0 9 1 (nI k) 2 fun S33 => cl (F_X12_unkey (nI (9 + k)) S33) fun r34 S35 => pf S35 297 0 0 fun S37 => L_X12_actsAp_72 (nI k) fu 0 S37) else (some ((), S29))) else (some ((), S29)))) else (if nI (b 0) = 0 then (cl (F_X12_isBody 4 1 0 10 0 M) fun r22 S23 => if r22 = 0 then (some ((), S23)) else (cl (F_X12_asks (nI k) S23) fun r25 S26 => some ((), S26))) else (if nI (b 0) = 192 then (gf M 307 0 fun x16 => if x16 = 30 then (ldA M 278 0 300 1 25 fun x17 => if x17 = 0 then (stA M 219 0 9 1 (nI k) 1 fun S18 => cl (F_X12_unkey (nI (9 + k)) S18) fun r19 S20 => some ((), S20)) else (some ((), M))) else (some ((), M))) else (some ((), M))))) = X) → F_X12_actsAp (nI k) M = X := by
    intro X hX
    have h8 : ¬ nI (b 0) = 8 := by first | (simp (disch := first | omega | assumption) only [wrI_s, wrI_o, wrI_r, wrL_1, wrL_r, wrL_s, wrL_o, blk_in, blk_out, blk_r, lit, litL, b00, b11, nI_l, lN_add, lN_mul, lN_sub, nI_add, pk_mul, pk_sub, pk_div, remN, Nat.add_sub_cancel, Nat.add_sub_cancel_left, Nat.zero_add, Nat.add_zero, nI_eq, nI_leI, nI_ltI, nI_m1, m1_lt, neg_lt, neg_le, neg_ge, neg_gt, neg_eq, not_true, not_false_iff]; done) | (simp (disch := first | omega | assumption) only [wrI_s, wrI_o, wrI_r, wrL_1, wrL_r, wrL_s, wrL_o, blk_in, blk_out, blk_r, lit, litL, b00, b11, nI_l, lN_add, lN_mul, lN_sub, nI_add, pk_mul, pk_sub, pk_div, remN, Nat.add_sub_cancel, Nat.add_sub_cancel_left, Nat.zero_add, Nat.add_zero, nI_eq, nI_leI, nI_ltI, nI_m1, m1_lt, neg_lt, neg_le, neg_ge, neg_gt, neg_eq, not_true, not_false_iff]; omega)
    rw [← hX]
    unfold F_X12_actsAp
    refine e_ldA (j := 0) rfl (by decide) (by decide) (by decide) (m278 0 (by omega)) (e_tp (w := nI (9 + k)) (by first | (simp (disch := first | omega | assumption) only [wrI_s, wrI_o, wrI_r, wrL_1, wrL_r, wrL_s, wrL_o, blk_in, blk_out, blk_r, lit, litL, b00, b11, nI_l, lN_add, lN_mul, lN_sub, nI_add, pk_mul, pk_sub, pk_div, remN, Nat.add_sub_cancel, Nat.add_sub_cancel_left, Nat.zero_add, Nat.add_zero]; done) | (simp (disch := first | omega | assumption) only [wrI_s, wrI_o, wrI_r, wrL_1, wrL_r, wrL_s, wrL_o, blk_in, blk_out, blk_r, lit, litL, b00, b11, nI_l, lN_add, lN_mul, lN_sub, nI_add, pk_mul, pk_sub, pk_div, remN, Nat.add_sub_cancel, Nat.add_sub_cancel_left, Nat.zero_add, Nat.add_zero]; rfl) | rfl) ?_)
    rw [if_neg h8]
  by_cases pA : bodP b n 176 1
  · obtain ⟨p0, p1, p2, p3, p4, p5, p6, p7⟩ := bo176.mp pA
    obtain ⟨l1, l2, l3⟩ := losA (q := 2) h1 hk (by decide) (by decide)
    obtain ⟨T, t1, t2, t3⟩ := ms176 (M := ukM (wrI M 219 0 k (nI 2)) (9 + k)) (k := k)
    have l4 := l1.fr (u := []) fq.rf t2 (by decide) (by decide)
    obtain ⟨C', M', v1, v2, v3, v4, v5⟩ := l4.qb (k := 0) (to := k) (kd := 176) (det := 2) (by decide) hk (Or.inl rfl) (by decide) t1
    refine ⟨C', M', ?_, preM _ ?_, v3, ((f1.up (by decide)).tr (l2.up (by decide))).tr (v4.up (by decide)), ((l3.up (by decide)).tr (t2.up (by decide))).tr (v5.up (by decide))⟩
    · unfold F_X11_actAtAp
      exact e_ldR rfl hk (by decide) (by decide) r54 (by omega) (e_cl e1 (e_N (zn z1 (i1.mpr pA)) (e_cl (losC (t := 2) (by omega)) (e_cl v1 rfl))))
    · refine e_T (by rw [p0]; rfl) (e_cl ((ibM (m := 6) (a0 := 0) (a1 := 0) (a2 := 1) (a3 := 0) hN (by decide) (by decide) (by decide) (by decide) (by decide)).1 ⟨p1, p2, p3, p4, p5⟩) (e_N (by decide) (e_ldA (j := 28) rfl (by decide) (by decide) (by decide) (m278 28 (by omega)) (e_T (by rw [p6]; rfl) (e_ldA (j := 29) rfl (by decide) (by decide) (by decide) (m278 29 (by omega)) (e_T (by rw [p7]; rfl) (e_stA rfl hk (by decide) (by decide) (w := nI 2) rfl (e_cl (unkM (by omega)) (e_pf (w := nI 0) rfl ?_)))))))))
      rw [t3]
      exact e_cl v2 rfl
  by_cases pB : bodP b n 0 0
  · obtain ⟨p0, p1, p2, p3, p4, p5⟩ := bo0.mp pB
    have mB : ∀ X, F_X12_asks (nI k) M = some ((), X) → F_X12_actsAp (nI k) M = some ((), X) := by
      intro X hX
      exact preM _ (e_N (by rw [p0]; decide) (e_T (by rw [p0]; rfl) (e_cl ((ibM (m := 4) (a0 := 1) (a1 := 0) (a2 := 10) (a3 := 0) hN (by decide) (by decide) (by decide) (by decide) (by decide)).1 ⟨p1, p2, p3, p4, p5⟩) (e_N (by decide) (e_cl hX rfl)))))
    have c62 : C2.1 62 (9 + k) 0 = nI st := by rw [f12.1 62 (nc (by decide))]; exact st3
    by_cases hst : 2 ≤ st
    · obtain ⟨l1, l2, l3⟩ := losA (q := 3) h2 hk (by decide) (by decide)
      have t0 := msg0 (ukM (wrI M 219 0 k (nI 3)) (9 + k)) (fun j => nI (bodF 16 k j))
      obtain ⟨M1, a1, t1, g1⟩ := addM (v := nI 1) t0 (by decide) (show nI 1 &&& 255 = nI 1 by decide)
      obtain ⟨M2, a2, t2, g2⟩ := addM (v := nI 0) t1 (by decide) (show nI 0 &&& 255 = nI 0 by decide)
      obtain ⟨M3, a3, t3, g3⟩ := addM (v := nI 0) t2 (by decide) (show nI 0 &&& 255 = nI 0 by decide)
      obtain ⟨M4, a4, t4, g4⟩ := addM (v := nI 0) t3 (by decide) (show nI 0 &&& 255 = nI 0 by decide)
      obtain ⟨M5, a5, t5, g5⟩ := addM (v := nI k) t4 (by decide) (show nI k &&& 255 = nI k from nI_and255 (by omega))
      obtain ⟨M6, a6, t6, g6⟩ := addM (v := nI 192) t5 (by decide) (show nI 192 &&& 255 = nI 192 by decide)
      have gA : fq [253, 297] (ukM (wrI M 219 0 k (nI 3)) (9 + k)) M6 := (fq.wr (by decide)).tr (((((g1.tr g2).tr g3).tr g4).tr g5).tr g6)
      have l4 := l1.fr (u := []) fq.rf gA (by decide) (by decide)
      obtain ⟨C', M', v1, v2, v3, v4, v5⟩ := l4.qb (k := 0) (to := k) (kd := 16) (det := k) (by decide) hk (by omega) (by omega) t6
      obtain ⟨C'', M'', y1, y2, y3, y4, y5⟩ := qHand (f := 0) (to := k) (hd := 1) (i := 9 + k) v3 (by decide) hk (by omega) (by decide)
      refine ⟨C'', M'', ?_, mB _ ?_, y3, (((f12.up (by decide)).tr (l2.up (by decide))).tr (v4.up (by decide))).tr (y4.up (by decide)), (((l3.up (by decide)).tr (gA.up (by decide))).tr (v5.up (by decide))).tr (y5.up (by decide))⟩
      · unfold F_X11_actAtAp
        exact e_ldR rfl hk (by decide) (by decide) r54 (by omega) (e_cl e1 (e_T (zz z1 hz1 (fun z => pA (i1.mp z))) (e_cl e2 (e_N (zn z2 (i2.mpr pB)) (e_gf c62 (e_N (by first | (simp (disch := first | omega | assumption) only [wrI_s, wrI_o, wrI_r, wrL_1, wrL_r, wrL_s, wrL_o, blk_in, blk_out, blk_r, lit, litL, b00, b11, nI_l, lN_add, lN_mul, lN_sub, nI_add, pk_mul, pk_sub, pk_div, remN, Nat.add_sub_cancel, Nat.add_sub_cancel_left, Nat.zero_add, Nat.add_zero, nI_eq, nI_leI, nI_ltI, nI_m1, m1_lt, neg_lt, neg_le, neg_ge, neg_gt, neg_eq, not_true, not_false_iff]; done) | (simp (disch := first | omega | assumption) only [wrI_s, wrI_o, wrI_r, wrL_1, wrL_r, wrL_s, wrL_o, blk_in, blk_out, blk_r, lit, litL, b00, b11, nI_l, lN_add, lN_mul, lN_sub, nI_add, pk_mul, pk_sub, pk_div, remN, Nat.add_sub_cancel, Nat.add_sub_cancel_left, Nat.zero_add, Nat.add_zero, nI_eq, nI_leI, nI_ltI, nI_m1, m1_lt, neg_lt, neg_le, neg_ge, neg_gt, neg_eq, not_true, not_false_iff]; omega)) (e_cl (losC (t := 3) (by omega)) (e_cl v1 (e_cl y1 rfl)))))))))
      · unfold F_X12_asks
        refine e_ldA rfl hk (by decide) (by decide) m219 (e_T (by first | (simp (disch := first | omega | assumption) only [wrI_s, wrI_o, wrI_r, wrL_1, wrL_r, wrL_s, wrL_o, blk_in, blk_out, blk_r, lit, litL, b00, b11, nI_l, lN_add, lN_mul, lN_sub, nI_add, pk_mul, pk_sub, pk_div, remN, Nat.add_sub_cancel, Nat.add_sub_cancel_left, Nat.zero_add, Nat.add_zero, nI_eq, nI_leI, nI_ltI, nI_m1, m1_lt, neg_lt, neg_le, neg_ge, neg_gt, neg_eq, not_true, not_false_iff]; done) | (simp (disch := first | omega | assumption) only [wrI_s, wrI_o, wrI_r, wrL_1, wrL_r, wrL_s, wrL_o, blk_in, blk_out, blk_r, lit, litL, b00, b11, nI_l, lN_add, lN_mul, lN_sub, nI_add, pk_mul, pk_sub, pk_div, remN, Nat.add_sub_cancel, Nat.add_sub_cancel_left, Nat.zero_add, Nat.add_zero, nI_eq, nI_leI, nI_ltI, nI_m1, m1_lt, neg_lt, neg_le, neg_ge, neg_gt, neg_eq, not_true, not_false_iff]; omega)) (e_stA rfl hk (by decide) (by decide) (w := nI 3) rfl ?_))
        rw [show (9 : Int32) + nI k = nI (9 + k) from nI_add 9 k]
        exact e_cl (unkM (by omega)) (e_pf (w := nI 0) rfl (e_cl a1 (e_cl a2 (e_cl a3 (e_cl a4 (e_cl a5 (e_cl a6 (e_cl v2 (e_cl y2 rfl)))))))))
    · obtain ⟨M1, M2, a1, a2, t1, g1⟩ := sEnd (M := M) (det := 6) (by decide)
      have l4 := h3.fr (u := []) fq.rf g1 (by decide) (by decide)
      obtain ⟨C', M', v1, v2, v3, v4, v5⟩ := l4.qb (k := 0) (to := k) (kd := 192) (det := 6) (by decide) hk (by omega) (by decide) t1
      refine ⟨C', M', ?_, mB _ ?_, v3, (f13.up (by decide)).tr (v4.up (by decide)), (g1.up (by decide)).tr (v5.up (by decide))⟩
      · unfold F_X11_actAtAp L_X11_actAtAp_81
        exact e_ldR rfl hk (by decide) (by decide) r54 (by omega) (e_cl e1 (e_T (zz z1 hz1 (fun z => pA (i1.mp z))) (e_cl e2 (e_N (zn z2 (i2.mpr pB)) (e_gf c62 (e_T (by first | (simp (disch := first | omega | assumption) only [wrI_s, wrI_o, wrI_r, wrL_1, wrL_r, wrL_s, wrL_o, blk_in, blk_out, blk_r, lit, litL, b00, b11, nI_l, lN_add, lN_mul, lN_sub, nI_add, pk_mul, pk_sub, pk_div, remN, Nat.add_sub_cancel, Nat.add_sub_cancel_left, Nat.zero_add, Nat.add_zero, nI_eq, nI_leI, nI_ltI, nI_m1, m1_lt, neg_lt, neg_le, neg_ge, neg_gt, neg_eq, not_true, not_false_iff]; done) | (simp (disch := first | omega | assumption) only [wrI_s, wrI_o, wrI_r, wrL_1, wrL_r, wrL_s, wrL_o, blk_in, blk_out, blk_r, lit, litL, b00, b11, nI_l, lN_add, lN_mul, lN_sub, nI_add, pk_mul, pk_sub, pk_div, remN, Nat.add_sub_cancel, Nat.add_sub_cancel_left, Nat.zero_add, Nat.add_zero, nI_eq, nI_leI, nI_ltI, nI_m1, m1_lt, neg_lt, neg_le, neg_ge, neg_gt, neg_eq, not_true, not_false_iff]; omega)) (e_cl e3 (e_N (zn z3 (i3.mpr pB)) (e_cl v1 rfl)))))))))
      · unfold F_X12_asks
        refine e_ldA rfl hk (by decide) (by decide) m219 (e_N (by first | (simp (disch := first | omega | assumption) only [wrI_s, wrI_o, wrI_r, wrL_1, wrL_r, wrL_s, wrL_o, blk_in, blk_out, blk_r, lit, litL, b00, b11, nI_l, lN_add, lN_mul, lN_sub, nI_add, pk_mul, pk_sub, pk_div, remN, Nat.add_sub_cancel, Nat.add_sub_cancel_left, Nat.zero_add, Nat.add_zero, nI_eq, nI_leI, nI_ltI, nI_m1, m1_lt, neg_lt, neg_le, neg_ge, neg_gt, neg_eq, not_true, not_false_iff]; done) | (simp (disch := first | omega | assumption) only [wrI_s, wrI_o, wrI_r, wrL_1, wrL_r, wrL_s, wrL_o, blk_in, blk_out, blk_r, lit, litL, b00, b11, nI_l, lN_add, lN_mul, lN_sub, nI_add, pk_mul, pk_sub, pk_div, remN, Nat.add_sub_cancel, Nat.add_sub_cancel_left, Nat.zero_add, Nat.add_zero, nI_eq, nI_leI, nI_ltI, nI_m1, m1_lt, neg_lt, neg_le, neg_ge, neg_gt, neg_eq, not_true, not_false_iff]; omega)) (e_cl (r := ()) (S1 := M') ?_ rfl))
        unfold F_X12_sendsEnd
        exact e_pf (w := nI 0) rfl (e_cl a1 (e_cl a2 (e_cl v2 rfl)))
  have cN : ∀ X, L_X11_actAtAp_81 (nI k) 27 R (9 + k) C2 = X → F_X11_actAtAp (nI k) 27 R C = X := by
    intro X hX
    unfold F_X11_actAtAp
    exact e_ldR rfl hk (by decide) (by decide) r54 (by omega) (e_cl e1 (e_T (zz z1 hz1 (fun z => pA (i1.mp z))) (e_cl e2 (e_T (zz z2 hz2 (fun z => pB (i2.mp z))) hX))))
  have r24 : rdI C3 27 R 24 = nI (b 24) := by
    show C3.1 27 R 24 = _
    rw [f13.1 27 (nc (by decide))]
    exact c27 24 (by omega)
  by_cases pD : bodP b n 192 (b 24)
  · obtain ⟨p0, p1, p2, p3⟩ := bo192.mp pD
    obtain ⟨l1, l2, l3⟩ := losA (q := 1) h4 hk (by decide) (by decide)
    refine ⟨_, _, cN _ ?_, preM _ ?_, l1, (f14.up (by decide)).tr (l2.up (by decide)), l3.up (by decide)⟩
    · unfold L_X11_actAtAp_81
      exact e_cl e3 (e_T (zz z3 hz3 (fun z => pB (i3.mp z))) (e_ldP (j := 24) rfl (okP_n (by decide) hR) (by decide) (by decide) r24 (e_cl e4 (e_N (zn z4 (i4.mpr pD)) (e_cl (losC (t := 1) (by omega)) rfl)))))
    · exact e_N (by rw [p0]; decide) (e_N (by rw [p0]; decide) (e_T (by rw [p0]; rfl) (e_gf m307 (e_T (by rw [p1]; rfl) (e_ldA (j := 25) rfl (by decide) (by decide) (by decide) (m278 25 (by omega)) (e_T (by rw [p3]; rfl) (e_stA rfl hk (by decide) (by decide) (w := nI 1) rfl (e_cl (unkM (by omega)) rfl))))))))
  · refine ⟨C4, M, cN _ ?_, preM _ ?_, h4, f14.up (by decide), fq.rf⟩
    · unfold L_X11_actAtAp_81
      exact e_cl e3 (e_T (zz z3 hz3 (fun z => pB (i3.mp z))) (e_ldP (j := 24) rfl (okP_n (by decide) hR) (by decide) (by decide) r24 (e_cl e4 (e_T (zz z4 hz4 (fun z => pD (i4.mp z))) rfl))))
    · by_cases k1 : b 0 = 176
      · refine e_T (by rw [k1]; rfl) ?_
        by_cases k2 : n = 28 + 6 ∧ b 24 = 0 ∧ b 25 = 0 ∧ b 26 = 1 ∧ b 27 = 0
        · refine e_cl ((ibM (m := 6) (a0 := 0) (a1 := 0) (a2 := 1) (a3 := 0) hN (by decide) (by decide) (by decide) (by decide) (by decide)).1 k2) (e_N (by decide) (e_ldA (j := 28) rfl (by decide) (by decide) (by decide) (m278 28 (by omega)) ?_))
          by_cases k3 : b 28 = 0
          · have k4 : ¬ b 29 = 0 := fun z => pA (bo176.mpr ⟨k1, k2.1, k2.2.1, k2.2.2.1, k2.2.2.2.1, k2.2.2.2.2, k3, z⟩)
            exact e_T (by rw [k3]; rfl) (e_ldA (j := 29) rfl (by decide) (by decide) (by decide) (m278 29 (by omega)) (e_N (nI_ne0 (by omega) (by omega)) rfl))
          · exact e_N (nI_ne0 (by omega) (by omega)) rfl
        · exact e_cl ((ibM (m := 6) (a0 := 0) (a1 := 0) (a2 := 1) (a3 := 0) hN (by decide) (by decide) (by decide) (by decide) (by decide)).2 k2) (e_T rfl rfl)
      · refine e_N (by first | (simp (disch := first | omega | assumption) only [wrI_s, wrI_o, wrI_r, wrL_1, wrL_r, wrL_s, wrL_o, blk_in, blk_out, blk_r, lit, litL, b00, b11, nI_l, lN_add, lN_mul, lN_sub, nI_add, pk_mul, pk_sub, pk_div, remN, Nat.add_sub_cancel, Nat.add_sub_cancel_left, Nat.zero_add, Nat.add_zero, nI_eq, nI_leI, nI_ltI, nI_m1, m1_lt, neg_lt, neg_le, neg_ge, neg_gt, neg_eq, not_true, not_false_iff]; done) | (simp (disch := first | omega | assumption) only [wrI_s, wrI_o, wrI_r, wrL_1, wrL_r, wrL_s, wrL_o, blk_in, blk_out, blk_r, lit, litL, b00, b11, nI_l, lN_add, lN_mul, lN_sub, nI_add, pk_mul, pk_sub, pk_div, remN, Nat.add_sub_cancel, Nat.add_sub_cancel_left, Nat.zero_add, Nat.add_zero, nI_eq, nI_leI, nI_ltI, nI_m1, m1_lt, neg_lt, neg_le, neg_ge, neg_gt, neg_eq, not_true, not_false_iff]; omega)) ?_
        by_cases k2 : b 0 = 0
        · exact e_T (by rw [k2]; rfl) (e_cl ((ibM (m := 4) (a0 := 1) (a1 := 0) (a2 := 10) (a3 := 0) hN (by decide) (by decide) (by decide) (by decide) (by decide)).2 (fun z => pB (bo0.mpr ⟨k2, z.1, z.2.1, z.2.2.1, z.2.2.2.1, z.2.2.2.2⟩))) (e_T rfl rfl))
        · refine e_N (by first | (simp (disch := first | omega | assumption) only [wrI_s, wrI_o, wrI_r, wrL_1, wrL_r, wrL_s, wrL_o, blk_in, blk_out, blk_r, lit, litL, b00, b11, nI_l, lN_add, lN_mul, lN_sub, nI_add, pk_mul, pk_sub, pk_div, remN, Nat.add_sub_cancel, Nat.add_sub_cancel_left, Nat.zero_add, Nat.add_zero, nI_eq, nI_leI, nI_ltI, nI_m1, m1_lt, neg_lt, neg_le, neg_ge, neg_gt, neg_eq, not_true, not_false_iff]; done) | (simp (disch := first | omega | assumption) only [wrI_s, wrI_o, wrI_r, wrL_1, wrL_r, wrL_s, wrL_o, blk_in, blk_out, blk_r, lit, litL, b00, b11, nI_l, lN_add, lN_mul, lN_sub, nI_add, pk_mul, pk_sub, pk_div, remN, Nat.add_sub_cancel, Nat.add_sub_cancel_left, Nat.zero_add, Nat.add_zero, nI_eq, nI_leI, nI_ltI, nI_m1, m1_lt, neg_lt, neg_le, neg_ge, neg_gt, neg_eq, not_true, not_false_iff]; omega)) ?_
          by_cases k3 : b 0 = 192
          · refine e_T (by rw [k3]; rfl) (e_gf m307 ?_)
            by_cases k4 : n = 30
            · have k5 : ¬ b 25 = 0 := fun z => pD (bo192.mpr ⟨k3, k4, rfl, z⟩)
              exact e_T (by rw [k4]; rfl) (e_ldA (j := 25) rfl (by decide) (by decide) (by decide) (m278 25 (by omega)) (e_N (nI_ne0 (by omega) (by omega)) rfl))
            · exact e_N (by first | (simp (disch := first | omega | assumption) only [wrI_s, wrI_o, wrI_r, wrL_1, wrL_r, wrL_s, wrL_o, blk_in, blk_out, blk_r, lit, litL, b00, b11, nI_l, lN_add, lN_mul, lN_sub, nI_add, pk_mul, pk_sub, pk_div, remN, Nat.add_sub_cancel, Nat.add_sub_cancel_left, Nat.zero_add, Nat.add_zero, nI_eq, nI_leI, nI_ltI, nI_m1, m1_lt, neg_lt, neg_le, neg_ge, neg_gt, neg_eq, not_true, not_false_iff]; done) | (simp (disch := first | omega | assumption) only [wrI_s, wrI_o, wrI_r, wrL_1, wrL_r, wrL_s, wrL_o, blk_in, blk_out, blk_r, lit, litL, b00, b11, nI_l, lN_add, lN_mul, lN_sub, nI_add, pk_mul, pk_sub, pk_div, remN, Nat.add_sub_cancel, Nat.add_sub_cancel_left, Nat.zero_add, Nat.add_zero, nI_eq, nI_leI, nI_ltI, nI_m1, m1_lt, neg_lt, neg_le, neg_ge, neg_gt, neg_eq, not_true, not_false_iff]; omega)) rfl
          · exact e_N (by first | (simp (disch := first | omega | assumption) only [wrI_s, wrI_o, wrI_r, wrL_1, wrL_r, wrL_s, wrL_o, blk_in, blk_out, blk_r, lit, litL, b00, b11, nI_l, lN_add, lN_mul, lN_sub, nI_add, pk_mul, pk_sub, pk_div, remN, Nat.add_sub_cancel, Nat.add_sub_cancel_left, Nat.zero_add, Nat.add_zero, nI_eq, nI_leI, nI_ltI, nI_m1, m1_lt, neg_lt, neg_le, neg_ge, neg_gt, neg_eq, not_true, not_false_iff]; done) | (simp (disch := first | omega | assumption) only [wrI_s, wrI_o, wrI_r, wrL_1, wrL_r, wrL_s, wrL_o, blk_in, blk_out, blk_r, lit, litL, b00, b11, nI_l, lN_add, lN_mul, lN_sub, nI_add, pk_mul, pk_sub, pk_div, remN, Nat.add_sub_cancel, Nat.add_sub_cancel_left, Nat.zero_add, Nat.add_zero, nI_eq, nI_leI, nI_ltI, nI_m1, m1_lt, neg_lt, neg_le, neg_ge, neg_gt, neg_eq, not_true, not_false_iff]; omega)) rfl
