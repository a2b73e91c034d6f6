/-! A NODE TAKES AN ACK, both sides -/
theorem tAck {s w e t k : Nat} {C M : Mm} (h : TT (s + 1) w e t C M) (hs : s < 2 ^ 28) (hw : w < 2 ^ 29) (hk : k < 9) (h76 : C.1 76 0 0 = nI s) (h298 : M.1 298 0 0 = nI s) : ∃ C' M', F_X11_takeAck k C = some ((), C') ∧ F_X12_acknowledged (nI k) M = some ((), M') ∧ TT (s + 1) w e t C' M' ∧ fq tkC C C' ∧ fq tkM M M' := by
  have h2 := h
  obtain ⟨hIDraw, hIPar, hISub, hIKey, hIRef, hISta, hILnk, hIBeg, hIQue, hIHnd, hICon, hIDue, hIWai, hISnd, hILat, hIInb⟩ := h2
  rcases hIWai k hk with ⟨w1, w2⟩ | ⟨w', nW, uW, w1, w2, w3, w4, w5, w6, w7, w8, w9, w10, w11⟩
  · refine ⟨C, M, ?_, ?_, h, fq.rf, fq.rf⟩
    · unfold F_X11_takeAck
      exact e_gd hk (e_gf w1 (e_T rfl rfl))
    · unfold F_X12_acknowledged
      exact e_ldA rfl hk (by decide) (by decide) w2 (e_T rfl rfl)
  · obtain ⟨f, u, q, b1, b2, b3, b4, b5, b6, b7, b8, b9⟩ := hIQue k hk
    have eu : uW = u := (nI_eq (by omega) (by omega)).mp (w8.symm.trans b5)
    rw [eu] at w6 w7 w8
    have qr0 := b9 0 w6
    rw [Nat.add_zero, Nat.add_zero, Nat.mod_eq_of_lt b1] at qr0
    obtain ⟨to, th, sq, len, z, kd, g1, g2, g3, g4, g5, g6, g7, g8, g9, g10, g11, g12, g13, g14, g15, g16, g17, g18, g19, g20, g21⟩ := qr0
    obtain ⟨f2, u2, p, n, d1, d2, d3, d4, d5, d6, d7, d8⟩ := hIHnd k hk
    have ef2 : f2 = f := (nI_eq (by omega) (by omega)).mp (d3.symm.trans b4)
    have eu2 : u2 = u := (nI_eq (by omega) (by omega)).mp (d4.symm.trans b5)
    rw [ef2] at d1 d3 d8
    rw [eu2] at d2 d4 d7 d8
    obtain ⟨d9, ⟨z', len', d10, d11, d12, d13, d14⟩, d15⟩ := d8 w6
    have ez : z' = z := (nI_eq (by omega) (by omega)).mp (d10.symm.trans g17)
    have el : len' = len := (nI_eq (by omega) (by omega)).mp (d11.symm.trans g15)
    rw [ez, el] at d14
    have hpz : p ≤ p * z := Nat.le_mul_of_pos_right p (by omega)
    have hp13 : p < 208 := by omega
    have hlen1 : 1 ≤ len := by omega
    have r45 := ((hIRef.1 k hk).2.2.2.2 f b1).1
    have eF : F_X9_first k C = some (some (12 * k + f), C) := by
      unfold F_X9_first
      exact e_gd hk (e_gf b4 (e_ldR rfl b1 hk (by decide) r45 (by omega) rfl))
    have fC1 : fq akC1 C (wrI (wrI C 98 k 0 (-nI 1)) 93 k 0 (nI 0)) := by repeat (first | exact fq.rf | (refine fq.tr ?_ (fq.wr (by decide))) | (refine fq.tr ?_ (fq.bk (by decide))) | (refine fq.tr ?_ (fq.wl (by decide))) | (refine fq.tr ?_ (fq.wR (by decide))))
    have gM1 : fq akM1 M (wrI (wrI M 255 0 k (nI 0)) 250 0 k (nI 0)) := by repeat (first | exact fq.rf | (refine fq.tr ?_ (fq.wr (by decide))) | (refine fq.tr ?_ (fq.bk (by decide))) | (refine fq.tr ?_ (fq.wl (by decide))) | (refine fq.tr ?_ (fq.wR (by decide))))
    have c98 : (wrI (wrI C 98 k 0 (-nI 1)) 93 k 0 (nI 0)).1 98 k 0 = -nI 1 ∧ ∀ j, ¬ j = k → (wrI (wrI C 98 k 0 (-nI 1)) 93 k 0 (nI 0)).1 98 j 0 = C.1 98 j 0 := ⟨(by first | (simp (disch := first | omega | assumption) only [wrI_s, wrI_o, wrI_r, wrL_1, wrL_r, wrL_s, wrL_o, blk_in, blk_out, blk_r, lit, litL, b00, b11, nI_l, lN_add, lN_mul, lN_sub, nI_add, pk_mul, pk_sub, pk_div, remN, Nat.add_sub_cancel, Nat.add_sub_cancel_left, Nat.zero_add, Nat.add_zero]; done) | (simp (disch := first | omega | assumption) only [wrI_s, wrI_o, wrI_r, wrL_1, wrL_r, wrL_s, wrL_o, blk_in, blk_out, blk_r, lit, litL, b00, b11, nI_l, lN_add, lN_mul, lN_sub, nI_add, pk_mul, pk_sub, pk_div, remN, Nat.add_sub_cancel, Nat.add_sub_cancel_left, Nat.zero_add, Nat.add_zero]; rfl) | rfl), fun j hj => (by first | (simp (disch := first | omega | assumption) only [wrI_s, wrI_o, wrI_r, wrL_1, wrL_r, wrL_s, wrL_o, blk_in, blk_out, blk_r, lit, litL, b00, b11, nI_l, lN_add, lN_mul, lN_sub, nI_add, pk_mul, pk_sub, pk_div, remN, Nat.add_sub_cancel, Nat.add_sub_cancel_left, Nat.zero_add, Nat.add_zero]; done) | (simp (disch := first | omega | assumption) only [wrI_s, wrI_o, wrI_r, wrL_1, wrL_r, wrL_s, wrL_o, blk_in, blk_out, blk_r, lit, litL, b00, b11, nI_l, lN_add, lN_mul, lN_sub, nI_add, pk_mul, pk_sub, pk_div, remN, Nat.add_sub_cancel, Nat.add_sub_cancel_left, Nat.zero_add, Nat.add_zero]; rfl) | rfl)⟩
    have m255 : (wrI (wrI M 255 0 k (nI 0)) 250 0 k (nI 0)).1 255 0 k = nI 0 ∧ ∀ j, ¬ j = k → (wrI (wrI M 255 0 k (nI 0)) 250 0 k (nI 0)).1 255 0 j = M.1 255 0 j := ⟨(by first | (simp (disch := first | omega | assumption) only [wrI_s, wrI_o, wrI_r, wrL_1, wrL_r, wrL_s, wrL_o, blk_in, blk_out, blk_r, lit, litL, b00, b11, nI_l, lN_add, lN_mul, lN_sub, nI_add, pk_mul, pk_sub, pk_div, remN, Nat.add_sub_cancel, Nat.add_sub_cancel_left, Nat.zero_add, Nat.add_zero]; done) | (simp (disch := first | omega | assumption) only [wrI_s, wrI_o, wrI_r, wrL_1, wrL_r, wrL_s, wrL_o, blk_in, blk_out, blk_r, lit, litL, b00, b11, nI_l, lN_add, lN_mul, lN_sub, nI_add, pk_mul, pk_sub, pk_div, remN, Nat.add_sub_cancel, Nat.add_sub_cancel_left, Nat.zero_add, Nat.add_zero]; rfl) | rfl), fun j hj => (by first | (simp (disch := first | omega | assumption) only [wrI_s, wrI_o, wrI_r, wrL_1, wrL_r, wrL_s, wrL_o, blk_in, blk_out, blk_r, lit, litL, b00, b11, nI_l, lN_add, lN_mul, lN_sub, nI_add, pk_mul, pk_sub, pk_div, remN, Nat.add_sub_cancel, Nat.add_sub_cancel_left, Nat.zero_add, Nat.add_zero]; done) | (simp (disch := first | omega | assumption) only [wrI_s, wrI_o, wrI_r, wrL_1, wrL_r, wrL_s, wrL_o, blk_in, blk_out, blk_r, lit, litL, b00, b11, nI_l, lN_add, lN_mul, lN_sub, nI_add, pk_mul, pk_sub, pk_div, remN, Nat.add_sub_cancel, Nat.add_sub_cancel_left, Nat.zero_add, Nat.add_zero]; rfl) | rfl)⟩
    have c93 : ∀ j, j < 9 → (wrI (wrI C 98 k 0 (-nI 1)) 93 k 0 (nI 0)).1 93 j 0 = (wrI (wrI M 255 0 k (nI 0)) 250 0 k (nI 0)).1 250 0 j := by
      intro j hj
      by_cases hjk : j = k
      · rw [hjk, wrI_s, wrI_s]
      · have := (hICon j hj).2.1
        exact (by first | (simp (disch := first | omega | assumption) only [this, wrI_s, wrI_o, wrI_r, wrL_1, wrL_r, wrL_s, wrL_o, blk_in, blk_out, blk_r, lit, litL, b00, b11, nI_l, lN_add, lN_mul, lN_sub, nI_add, pk_mul, pk_sub, pk_div, remN, Nat.add_sub_cancel, Nat.add_sub_cancel_left, Nat.zero_add, Nat.add_zero]; done) | (simp (disch := first | omega | assumption) only [this, wrI_s, wrI_o, wrI_r, wrL_1, wrL_r, wrL_s, wrL_o, blk_in, blk_out, blk_r, lit, litL, b00, b11, nI_l, lN_add, lN_mul, lN_sub, nI_add, pk_mul, pk_sub, pk_div, remN, Nat.add_sub_cancel, Nat.add_sub_cancel_left, Nat.zero_add, Nat.add_zero]; rfl) | rfl)
    have hT1 : TT (s + 1) w e t (wrI (wrI C 98 k 0 (-nI 1)) 93 k 0 (nI 0)) (wrI (wrI M 255 0 k (nI 0)) 250 0 k (nI 0)) := by
      have key : ∀ C' M', fq akC1 C C' → fq akM1 M M' → ICon C' M' → IDue (s + 1) C' M' → IWai w C' M' → TT (s + 1) w e t C' M' := fun C' M' fC gM tICon tIDue tIWai => ⟨hIDraw.fr fC gM (by decide) (by decide), hIPar.fr fC gM (by decide) (by decide), hISub.fr fC gM (by decide) (by decide), hIKey.fr fC gM (by decide) (by decide), hIRef.fr fC gM (by decide) (by decide), hISta.fr fC gM (by decide) (by decide), hILnk.fr fC gM (by decide) (by decide), hIBeg.fr fC gM (by decide) (by decide), hIQue.fr fC gM (by decide) (by decide), hIHnd.fr fC gM (by decide) (by decide), tICon, tIDue, tIWai, hISnd.z fC gM (by decide) (by decide), hILat.fr fC gM (by decide) (by decide), hIInb.fr fC gM (by decide) (by decide)⟩
      refine key _ _ fC1 gM1 ?_ ?_ ?_
      · intro j hj
        obtain ⟨x1, x2, cw, x3, x4, x5⟩ := hICon j hj
        exact ⟨by rw [fC1.1 91 (nc (by decide)), gM1.1 248 (nc (by decide))]; exact x1, c93 j hj, cw, x3, by rw [fC1.1 92 (nc (by decide))]; exact x4, by rw [gM1.1 249 (nc (by decide))]; exact x5⟩
      · intro j hj
        obtain ⟨y1, y2⟩ := hIDue j hj
        rw [fC1.1 39 (nc (by decide)), gM1.2.1 259 (nc (by decide)), fC1.1 94 (nc (by decide)), fC1.1 95 (nc (by decide)), fC1.1 103 (nc (by decide)), gM1.1 257 (nc (by decide)), gM1.1 258 (nc (by decide)), gM1.1 254 (nc (by decide))]
        refine ⟨y1, ?_⟩
        by_cases hjk : j = k
        · rw [hjk] at y2 ⊢
          rw [m255.1]
          rcases y2 with y2 | ⟨dd, v1, v2, v3, v4, v5, v6⟩
          · exact Or.inl y2
          · refine Or.inr ⟨dd, v1, v2, v3, v4, v5, ?_⟩
            rcases v6 with v6 | ⟨v6, v7, v8, v9⟩
            · exact Or.inl v6
            · exact Or.inr ⟨v6, v7, rfl, v9⟩
        · rw [m255.2 j hjk]
          exact y2
      · intro j hj
        rw [fC1.1 103 (nc (by decide)), fC1.1 100 (nc (by decide)), gM1.1 256 (nc (by decide))]
        by_cases hjk : j = k
        · rw [hjk]
          exact Or.inl ⟨c98.1, m255.1⟩
        · rw [c98.2 j hjk, m255.2 j hjk]
          exact hIWai j hj
    have eP := ptM (M := wrI (wrI M 255 0 k (nI 0)) 250 0 k (nI 0)) (k := k) (kd := kd) (len := len) (z := z) (sz := if kd = 8 then z else 255) hk g5 g6 g4 hlen1 (by first | (simp (disch := first | omega | assumption) only [g8, wrI_s, wrI_o, wrI_r, wrL_1, wrL_r, wrL_s, wrL_o, blk_in, blk_out, blk_r, lit, litL, b00, b11, nI_l, lN_add, lN_mul, lN_sub, nI_add, pk_mul, pk_sub, pk_div, remN, Nat.add_sub_cancel, Nat.add_sub_cancel_left, Nat.zero_add, Nat.add_zero]; done) | (simp (disch := first | omega | assumption) only [g8, wrI_s, wrI_o, wrI_r, wrL_1, wrL_r, wrL_s, wrL_o, blk_in, blk_out, blk_r, lit, litL, b00, b11, nI_l, lN_add, lN_mul, lN_sub, nI_add, pk_mul, pk_sub, pk_div, remN, Nat.add_sub_cancel, Nat.add_sub_cancel_left, Nat.zero_add, Nat.add_zero]; rfl) | rfl) (by first | (simp (disch := first | omega | assumption) only [g16, wrI_s, wrI_o, wrI_r, wrL_1, wrL_r, wrL_s, wrL_o, blk_in, blk_out, blk_r, lit, litL, b00, b11, nI_l, lN_add, lN_mul, lN_sub, nI_add, pk_mul, pk_sub, pk_div, remN, Nat.add_sub_cancel, Nat.add_sub_cancel_left, Nat.zero_add, Nat.add_zero]; done) | (simp (disch := first | omega | assumption) only [g16, wrI_s, wrI_o, wrI_r, wrL_1, wrL_r, wrL_s, wrL_o, blk_in, blk_out, blk_r, lit, litL, b00, b11, nI_l, lN_add, lN_mul, lN_sub, nI_add, pk_mul, pk_sub, pk_div, remN, Nat.add_sub_cancel, Nat.add_sub_cancel_left, Nat.zero_add, Nat.add_zero]; rfl) | rfl) (by
      have : M.1 239 0 (12 * k) = nI (if kd = 8 then z else 255) := by
        rcases g21 with ⟨y1, y2, -⟩ | ⟨y1, y2, -⟩
        · rw [if_pos y1]; exact y2
        · rw [if_neg (by omega)]; exact y2
      first | (simp (disch := first | omega | assumption) only [this, wrI_s, wrI_o, wrI_r, wrL_1, wrL_r, wrL_s, wrL_o, blk_in, blk_out, blk_r, lit, litL, b00, b11, nI_l, lN_add, lN_mul, lN_sub, nI_add, pk_mul, pk_sub, pk_div, remN, Nat.add_sub_cancel, Nat.add_sub_cancel_left, Nat.zero_add, Nat.add_zero]; done) | (simp (disch := first | omega | assumption) only [this, wrI_s, wrI_o, wrI_r, wrL_1, wrL_r, wrL_s, wrL_o, blk_in, blk_out, blk_r, lit, litL, b00, b11, nI_l, lN_add, lN_mul, lN_sub, nI_add, pk_mul, pk_sub, pk_div, remN, Nat.add_sub_cancel, Nat.add_sub_cancel_left, Nat.zero_add, Nat.add_zero]; rfl) | rfl) (by
      by_cases h8 : kd = 8
      · exact Or.inl ⟨h8, if_pos h8⟩
      · refine Or.inr ⟨h8, ?_⟩
        rcases g21 with ⟨y1, -⟩ | ⟨y1, -⟩ <;> omega)
    have hi : 12 * k + f < 108 := by omega
    have preC : ∀ X, ((if nI len ≤ nI (p + 1) * nI z then (cl (F_X11_finishFirst k 1 (wrI (wrI (wrI (wrI C 98 k 0 (-nI 1)) 93 k 0 (nI 0)) 99 k 0 (nI (p + 1))) 100 k 0 (nI 0))) fun r15 S16 => some ((), S16)) else (gf (wrI (wrI (wrI (wrI C 98 k 0 (-nI 1)) 93 k 0 (nI 0)) 99 k 0 (nI (p + 1))) 100 k 0 (nI 0)) 76 0 fun x18 => pf (wrI (wrI (wrI (wrI C 98 k 0 (-nI 1)) 93 k 0 (nI 0)) 99 k 0 (nI (p + 1))) 100 k 0 (nI 0)) 94 k (x18 + 2) fun S19 => pf S19 95 k 0 fun S20 => some ((), S20))) = X) → F_X11_takeAck k C = X := by
      intro X hX
      unfold F_X11_takeAck
      exact e_gd hk (e_gf w3 (e_N (show ¬ nI w' = -nI 1 by rw [nI_m1 (by omega)]; exact id) (e_gf b5 (e_N (nI_ne0 w6 (by omega)) (e_cl eF (e_nn hi (e_pf rfl (e_pf rfl (e_gf (v := nI p) (by first | (simp (disch := first | omega | assumption) only [d5, wrI_s, wrI_o, wrI_r, wrL_1, wrL_r, wrL_s, wrL_o, blk_in, blk_out, blk_r, lit, litL, b00, b11, nI_l, lN_add, lN_mul, lN_sub, nI_add, pk_mul, pk_sub, pk_div, remN, Nat.add_sub_cancel, Nat.add_sub_cancel_left, Nat.zero_add, Nat.add_zero]; done) | (simp (disch := first | omega | assumption) only [d5, wrI_s, wrI_o, wrI_r, wrL_1, wrL_r, wrL_s, wrL_o, blk_in, blk_out, blk_r, lit, litL, b00, b11, nI_l, lN_add, lN_mul, lN_sub, nI_add, pk_mul, pk_sub, pk_div, remN, Nat.add_sub_cancel, Nat.add_sub_cancel_left, Nat.zero_add, Nat.add_zero]; rfl) | rfl) (e_pf (w := nI (p + 1)) (by first | (simp (disch := first | omega | assumption) only [wrI_s, wrI_o, wrI_r, wrL_1, wrL_r, wrL_s, wrL_o, blk_in, blk_out, blk_r, lit, litL, b00, b11, nI_l, lN_add, lN_mul, lN_sub, nI_add, pk_mul, pk_sub, pk_div, remN, Nat.add_sub_cancel, Nat.add_sub_cancel_left, Nat.zero_add, Nat.add_zero]; done) | (simp (disch := first | omega | assumption) only [wrI_s, wrI_o, wrI_r, wrL_1, wrL_r, wrL_s, wrL_o, blk_in, blk_out, blk_r, lit, litL, b00, b11, nI_l, lN_add, lN_mul, lN_sub, nI_add, pk_mul, pk_sub, pk_div, remN, Nat.add_sub_cancel, Nat.add_sub_cancel_left, Nat.zero_add, Nat.add_zero]; rfl) | rfl) (e_pf rfl (e_gf (v := nI (p + 1)) (by first | (simp (disch := first | omega | assumption) only [wrI_s, wrI_o, wrI_r, wrL_1, wrL_r, wrL_s, wrL_o, blk_in, blk_out, blk_r, lit, litL, b00, b11, nI_l, lN_add, lN_mul, lN_sub, nI_add, pk_mul, pk_sub, pk_div, remN, Nat.add_sub_cancel, Nat.add_sub_cancel_left, Nat.zero_add, Nat.add_zero]; done) | (simp (disch := first | omega | assumption) only [wrI_s, wrI_o, wrI_r, wrL_1, wrL_r, wrL_s, wrL_o, blk_in, blk_out, blk_r, lit, litL, b00, b11, nI_l, lN_add, lN_mul, lN_sub, nI_add, pk_mul, pk_sub, pk_div, remN, Nat.add_sub_cancel, Nat.add_sub_cancel_left, Nat.zero_add, Nat.add_zero]; rfl) | rfl) (e_gf (v := nI z) (by first | (simp (disch := first | omega | assumption) only [g17, wrI_s, wrI_o, wrI_r, wrL_1, wrL_r, wrL_s, wrL_o, blk_in, blk_out, blk_r, lit, litL, b00, b11, nI_l, lN_add, lN_mul, lN_sub, nI_add, pk_mul, pk_sub, pk_div, remN, Nat.add_sub_cancel, Nat.add_sub_cancel_left, Nat.zero_add, Nat.add_zero]; done) | (simp (disch := first | omega | assumption) only [g17, wrI_s, wrI_o, wrI_r, wrL_1, wrL_r, wrL_s, wrL_o, blk_in, blk_out, blk_r, lit, litL, b00, b11, nI_l, lN_add, lN_mul, lN_sub, nI_add, pk_mul, pk_sub, pk_div, remN, Nat.add_sub_cancel, Nat.add_sub_cancel_left, Nat.zero_add, Nat.add_zero]; rfl) | rfl) (e_gf (v := nI len) (by first | (simp (disch := first | omega | assumption) only [g15, wrI_s, wrI_o, wrI_r, wrL_1, wrL_r, wrL_s, wrL_o, blk_in, blk_out, blk_r, lit, litL, b00, b11, nI_l, lN_add, lN_mul, lN_sub, nI_add, pk_mul, pk_sub, pk_div, remN, Nat.add_sub_cancel, Nat.add_sub_cancel_left, Nat.zero_add, Nat.add_zero]; done) | (simp (disch := first | omega | assumption) only [g15, wrI_s, wrI_o, wrI_r, wrL_1, wrL_r, wrL_s, wrL_o, blk_in, blk_out, blk_r, lit, litL, b00, b11, nI_l, lN_add, lN_mul, lN_sub, nI_add, pk_mul, pk_sub, pk_div, remN, Nat.add_sub_cancel, Nat.add_sub_cancel_left, Nat.zero_add, Nat.add_zero]; rfl) | rfl) hX))))))))))))))
    have preM : ∀ X, ((if (nI (if kd = 8 then (len + z - 1) / z else 1) - 1) ≤ nI p then (cl (F_X12_leaves (nI k) 1 (wrI (wrI M 255 0 k (nI 0)) 250 0 k (nI 0))) fun r8 S9 => some ((), S9)) else (ldA (wrI (wrI M 255 0 k (nI 0)) 250 0 k (nI 0)) 243 0 9 1 (nI k) fun x11 => stA (wrI (wrI M 255 0 k (nI 0)) 250 0 k (nI 0)) 243 0 9 1 (nI k) (x11 + 1) fun S12 => stA S12 244 0 9 1 (nI k) (0 &&& 1) fun S13 => stA S13 257 0 9 1 (nI k) 2 fun S14 => gf S14 298 0 fun x15 => stA S14 258 0 9 1 (nI k) (x15 + 2) fun S16 => some ((), S16))) = X) → F_X12_acknowledged (nI k) M = X := by
      intro X hX
      unfold F_X12_acknowledged
      exact e_ldA rfl hk (by decide) (by decide) w5 (e_N (by decide) (e_stA rfl hk (by decide) (by decide) (w := nI 0) (by decide) (e_stA rfl hk (by decide) (by decide) (w := nI 0) rfl (e_ldA (v := nI p) rfl hk (by decide) (by decide) (by first | (simp (disch := first | omega | assumption) only [d9, wrI_s, wrI_o, wrI_r, wrL_1, wrL_r, wrL_s, wrL_o, blk_in, blk_out, blk_r, lit, litL, b00, b11, nI_l, lN_add, lN_mul, lN_sub, nI_add, pk_mul, pk_sub, pk_div, remN, Nat.add_sub_cancel, Nat.add_sub_cancel_left, Nat.zero_add, Nat.add_zero]; done) | (simp (disch := first | omega | assumption) only [d9, wrI_s, wrI_o, wrI_r, wrL_1, wrL_r, wrL_s, wrL_o, blk_in, blk_out, blk_r, lit, litL, b00, b11, nI_l, lN_add, lN_mul, lN_sub, nI_add, pk_mul, pk_sub, pk_div, remN, Nat.add_sub_cancel, Nat.add_sub_cancel_left, Nat.zero_add, Nat.add_zero]; rfl) | rfl) (e_cl eP hX)))))
    have hT2 := hT1
    obtain ⟨hIDraw2, hIPar2, hISub2, hIKey2, hIRef2, hISta2, hILnk2, hIBeg2, hIQue2, hIHnd2, hICon2, hIDue2, hIWai2, hISnd2, hILat2, hIInb2⟩ := hT2
    by_cases hmore : (p + 1) * z < len
    · have hkd8 : kd = 8 := by
        rcases g21 with ⟨y1, -⟩ | ⟨y1, y2, y3, y4, -⟩
        · exact y1
        · have : z ≤ (p + 1) * z := Nat.le_mul_of_pos_left z (by omega)
          omega
      have hparts : p + 1 < (len + z - 1) / z := by
        have : (p + 1 + 1) ≤ (len + z - 1) / z := by
          rw [Nat.le_div_iff_mul_le (by omega)]
          have e : (p + 1 + 1) * z = (p + 1) * z + z := Nat.succ_mul (p + 1) z
          omega
        omega
      have hdl : (len + z - 1) / z ≤ len + z - 1 := Nat.div_le_self _ _
      refine ⟨wrI (wrI (wrI (wrI (wrI (wrI C 98 k 0 (-nI 1)) 93 k 0 (nI 0)) 99 k 0 (nI (p + 1))) 100 k 0 (nI 0)) 94 k 0 (nI (s + 2))) 95 k 0 (nI 0), wrI (wrI (wrI (wrI (wrI (wrI M 255 0 k (nI 0)) 250 0 k (nI 0)) 243 0 k (nI (p + 1))) 244 0 k (nI 0)) 257 0 k (nI 2)) 258 0 k (nI (s + 2)), preC _ ?_, preM _ ?_, ?_, by repeat (first | exact fq.rf | (refine fq.tr ?_ (fq.wr (by decide))) | (refine fq.tr ?_ (fq.bk (by decide))) | (refine fq.tr ?_ (fq.wl (by decide))) | (refine fq.tr ?_ (fq.wR (by decide)))), by repeat (first | exact fq.rf | (refine fq.tr ?_ (fq.wr (by decide))) | (refine fq.tr ?_ (fq.bk (by decide))) | (refine fq.tr ?_ (fq.wl (by decide))) | (refine fq.tr ?_ (fq.wR (by decide))))⟩
      · refine e_N ?_ (e_gf (v := nI s) (by first | (simp (disch := first | omega | assumption) only [h76, wrI_s, wrI_o, wrI_r, wrL_1, wrL_r, wrL_s, wrL_o, blk_in, blk_out, blk_r, lit, litL, b00, b11, nI_l, lN_add, lN_mul, lN_sub, nI_add, pk_mul, pk_sub, pk_div, remN, Nat.add_sub_cancel, Nat.add_sub_cancel_left, Nat.zero_add, Nat.add_zero]; done) | (simp (disch := first | omega | assumption) only [h76, wrI_s, wrI_o, wrI_r, wrL_1, wrL_r, wrL_s, wrL_o, blk_in, blk_out, blk_r, lit, litL, b00, b11, nI_l, lN_add, lN_mul, lN_sub, nI_add, pk_mul, pk_sub, pk_div, remN, Nat.add_sub_cancel, Nat.add_sub_cancel_left, Nat.zero_add, Nat.add_zero]; rfl) | rfl) (e_pf (w := nI (s + 2)) (by first | (simp (disch := first | omega | assumption) only [wrI_s, wrI_o, wrI_r, wrL_1, wrL_r, wrL_s, wrL_o, blk_in, blk_out, blk_r, lit, litL, b00, b11, nI_l, lN_add, lN_mul, lN_sub, nI_add, pk_mul, pk_sub, pk_div, remN, Nat.add_sub_cancel, Nat.add_sub_cancel_left, Nat.zero_add, Nat.add_zero]; done) | (simp (disch := first | omega | assumption) only [wrI_s, wrI_o, wrI_r, wrL_1, wrL_r, wrL_s, wrL_o, blk_in, blk_out, blk_r, lit, litL, b00, b11, nI_l, lN_add, lN_mul, lN_sub, nI_add, pk_mul, pk_sub, pk_div, remN, Nat.add_sub_cancel, Nat.add_sub_cancel_left, Nat.zero_add, Nat.add_zero]; rfl) | rfl) (e_pf rfl rfl)))
        rw [pk_mul, nI_leI (by omega) (by omega)]
        omega
      · rw [if_pos hkd8]
        refine e_N ?_ (e_ldA (v := nI p) rfl hk (by decide) (by decide) (by first | (simp (disch := first | omega | assumption) only [d9, wrI_s, wrI_o, wrI_r, wrL_1, wrL_r, wrL_s, wrL_o, blk_in, blk_out, blk_r, lit, litL, b00, b11, nI_l, lN_add, lN_mul, lN_sub, nI_add, pk_mul, pk_sub, pk_div, remN, Nat.add_sub_cancel, Nat.add_sub_cancel_left, Nat.zero_add, Nat.add_zero]; done) | (simp (disch := first | omega | assumption) only [d9, wrI_s, wrI_o, wrI_r, wrL_1, wrL_r, wrL_s, wrL_o, blk_in, blk_out, blk_r, lit, litL, b00, b11, nI_l, lN_add, lN_mul, lN_sub, nI_add, pk_mul, pk_sub, pk_div, remN, Nat.add_sub_cancel, Nat.add_sub_cancel_left, Nat.zero_add, Nat.add_zero]; rfl) | rfl) (e_stA rfl hk (by decide) (by decide) (w := nI (p + 1)) (by first | (simp (disch := first | omega | assumption) only [wrI_s, wrI_o, wrI_r, wrL_1, wrL_r, wrL_s, wrL_o, blk_in, blk_out, blk_r, lit, litL, b00, b11, nI_l, lN_add, lN_mul, lN_sub, nI_add, pk_mul, pk_sub, pk_div, remN, Nat.add_sub_cancel, Nat.add_sub_cancel_left, Nat.zero_add, Nat.add_zero]; done) | (simp (disch := first | omega | assumption) only [wrI_s, wrI_o, wrI_r, wrL_1, wrL_r, wrL_s, wrL_o, blk_in, blk_out, blk_r, lit, litL, b00, b11, nI_l, lN_add, lN_mul, lN_sub, nI_add, pk_mul, pk_sub, pk_div, remN, Nat.add_sub_cancel, Nat.add_sub_cancel_left, Nat.zero_add, Nat.add_zero]; rfl) | rfl) (e_stA rfl hk (by decide) (by decide) (w := nI 0) (by decide) (e_stA rfl hk (by decide) (by decide) (w := nI 2) rfl (e_gf (v := nI s) (by first | (simp (disch := first | omega | assumption) only [h298, wrI_s, wrI_o, wrI_r, wrL_1, wrL_r, wrL_s, wrL_o, blk_in, blk_out, blk_r, lit, litL, b00, b11, nI_l, lN_add, lN_mul, lN_sub, nI_add, pk_mul, pk_sub, pk_div, remN, Nat.add_sub_cancel, Nat.add_sub_cancel_left, Nat.zero_add, Nat.add_zero]; done) | (simp (disch := first | omega | assumption) only [h298, wrI_s, wrI_o, wrI_r, wrL_1, wrL_r, wrL_s, wrL_o, blk_in, blk_out, blk_r, lit, litL, b00, b11, nI_l, lN_add, lN_mul, lN_sub, nI_add, pk_mul, pk_sub, pk_div, remN, Nat.add_sub_cancel, Nat.add_sub_cancel_left, Nat.zero_add, Nat.add_zero]; rfl) | rfl) (e_stA rfl hk (by decide) (by decide) (w := nI (s + 2)) (by first | (simp (disch := first | omega | assumption) only [wrI_s, wrI_o, wrI_r, wrL_1, wrL_r, wrL_s, wrL_o, blk_in, blk_out, blk_r, lit, litL, b00, b11, nI_l, lN_add, lN_mul, lN_sub, nI_add, pk_mul, pk_sub, pk_div, remN, Nat.add_sub_cancel, Nat.add_sub_cancel_left, Nat.zero_add, Nat.add_zero]; done) | (simp (disch := first | omega | assumption) only [wrI_s, wrI_o, wrI_r, wrL_1, wrL_r, wrL_s, wrL_o, blk_in, blk_out, blk_r, lit, litL, b00, b11, nI_l, lN_add, lN_mul, lN_sub, nI_add, pk_mul, pk_sub, pk_div, remN, Nat.add_sub_cancel, Nat.add_sub_cancel_left, Nat.zero_add, Nat.add_zero]; rfl) | rfl) rfl))))))
        rw [show (1 : Int32) = nI 1 from rfl, pk_sub (by omega), nI_leI (by omega) (by omega)]
        omega
      · generalize hCC : wrI (wrI C 98 k 0 (-nI 1)) 93 k 0 (nI 0) = C1 at *
        generalize hMM : wrI (wrI M 255 0 k (nI 0)) 250 0 k (nI 0) = M1 at *
        have x102 : C1.1 102 k 0 = nI f := by rw [fC1.1 102 (nc (by decide))]; exact b4
        have x103 : C1.1 103 k 0 = nI u := by rw [fC1.1 103 (nc (by decide))]; exact b5
        have x85 : C1.1 85 (12 * k + f) 0 = nI z := by rw [fC1.1 85 (nc (by decide))]; exact g17
        have x80 : C1.1 80 (12 * k + f) 0 = nI len := by rw [fC1.1 80 (nc (by decide))]; exact g15
        have aux : ∀ (C M : Mm), TT (s + 1) w e t C M → C.1 102 k 0 = nI f → C.1 103 k 0 = nI u → C.1 85 (12 * k + f) 0 = nI z → C.1 80 (12 * k + f) 0 = nI len → M.1 255 0 k = nI 0 → TT (s + 1) w e t (wrI (wrI (wrI (wrI C 99 k 0 (nI (p + 1))) 100 k 0 (nI 0)) 94 k 0 (nI (s + 2))) 95 k 0 (nI 0)) (wrI (wrI (wrI (wrI M 243 0 k (nI (p + 1))) 244 0 k (nI 0)) 257 0 k (nI 2)) 258 0 k (nI (s + 2))) := by
          intro C M h v102 v103 v85 v80 v255
          obtain ⟨hIDraw, hIPar, hISub, hIKey, hIRef, hISta, hILnk, hIBeg, hIQue, hIHnd, hICon, hIDue, hIWai, hISnd, hILat, hIInb⟩ := h
          have fA : fq amC C (wrI (wrI (wrI (wrI C 99 k 0 (nI (p + 1))) 100 k 0 (nI 0)) 94 k 0 (nI (s + 2))) 95 k 0 (nI 0)) := by repeat (first | exact fq.rf | (refine fq.tr ?_ (fq.wr (by decide))) | (refine fq.tr ?_ (fq.bk (by decide))) | (refine fq.tr ?_ (fq.wl (by decide))) | (refine fq.tr ?_ (fq.wR (by decide))))
          have gA : fq amM M (wrI (wrI (wrI (wrI M 243 0 k (nI (p + 1))) 244 0 k (nI 0)) 257 0 k (nI 2)) 258 0 k (nI (s + 2))) := by repeat (first | exact fq.rf | (refine fq.tr ?_ (fq.wr (by decide))) | (refine fq.tr ?_ (fq.bk (by decide))) | (refine fq.tr ?_ (fq.wl (by decide))) | (refine fq.tr ?_ (fq.wR (by decide))))
          have key : ∀ C' M', fq amC C C' → fq amM M M' → IHnd C' M' → IDue (s + 1) C' M' → IWai w C' M' → TT (s + 1) w e t C' M' := fun C' M' fC gM tIHnd tIDue tIWai => ⟨hIDraw.fr fC gM (by decide) (by decide), hIPar.fr fC gM (by decide) (by decide), hISub.fr fC gM (by decide) (by decide), hIKey.fr fC gM (by decide) (by decide), hIRef.fr fC gM (by decide) (by decide), hISta.fr fC gM (by decide) (by decide), hILnk.fr fC gM (by decide) (by decide), hIBeg.fr fC gM (by decide) (by decide), hIQue.fr fC gM (by decide) (by decide), tIHnd, hICon.fr fC gM (by decide) (by decide), tIDue, tIWai, hISnd.z fC gM (by decide) (by decide), hILat.fr fC gM (by decide) (by decide), hIInb.fr fC gM (by decide) (by decide)⟩
          refine key _ _ fA gA ?_ ?_ ?_
          · intro j hj
            obtain ⟨f3, u3, p3, n3, a1, a2, a3, a4, a5, a6, a7, a8⟩ := hIHnd j hj
            by_cases hjk : j = k
            · refine ⟨f, u, p + 1, 0, b1, b2, by rw [hjk]; exact (by first | (simp (disch := first | omega | assumption) only [v102, wrI_s, wrI_o, wrI_r, wrL_1, wrL_r, wrL_s, wrL_o, blk_in, blk_out, blk_r, lit, litL, b00, b11, nI_l, lN_add, lN_mul, lN_sub, nI_add, pk_mul, pk_sub, pk_div, remN, Nat.add_sub_cancel, Nat.add_sub_cancel_left, Nat.zero_add, Nat.add_zero]; done) | (simp (disch := first | omega | assumption) only [v102, wrI_s, wrI_o, wrI_r, wrL_1, wrL_r, wrL_s, wrL_o, blk_in, blk_out, blk_r, lit, litL, b00, b11, nI_l, lN_add, lN_mul, lN_sub, nI_add, pk_mul, pk_sub, pk_div, remN, Nat.add_sub_cancel, Nat.add_sub_cancel_left, Nat.zero_add, Nat.add_zero]; rfl) | rfl), by rw [hjk]; exact (by first | (simp (disch := first | omega | assumption) only [v103, wrI_s, wrI_o, wrI_r, wrL_1, wrL_r, wrL_s, wrL_o, blk_in, blk_out, blk_r, lit, litL, b00, b11, nI_l, lN_add, lN_mul, lN_sub, nI_add, pk_mul, pk_sub, pk_div, remN, Nat.add_sub_cancel, Nat.add_sub_cancel_left, Nat.zero_add, Nat.add_zero]; done) | (simp (disch := first | omega | assumption) only [v103, wrI_s, wrI_o, wrI_r, wrL_1, wrL_r, wrL_s, wrL_o, blk_in, blk_out, blk_r, lit, litL, b00, b11, nI_l, lN_add, lN_mul, lN_sub, nI_add, pk_mul, pk_sub, pk_div, remN, Nat.add_sub_cancel, Nat.add_sub_cancel_left, Nat.zero_add, Nat.add_zero]; rfl) | rfl), by rw [hjk]; first | (simp (disch := first | omega | assumption) only [wrI_s, wrI_o, wrI_r, wrL_1, wrL_r, wrL_s, wrL_o, blk_in, blk_out, blk_r, lit, litL, b00, b11, nI_l, lN_add, lN_mul, lN_sub, nI_add, pk_mul, pk_sub, pk_div, remN, Nat.add_sub_cancel, Nat.add_sub_cancel_left, Nat.zero_add, Nat.add_zero]; done) | (simp (disch := first | omega | assumption) only [wrI_s, wrI_o, wrI_r, wrL_1, wrL_r, wrL_s, wrL_o, blk_in, blk_out, blk_r, lit, litL, b00, b11, nI_l, lN_add, lN_mul, lN_sub, nI_add, pk_mul, pk_sub, pk_div, remN, Nat.add_sub_cancel, Nat.add_sub_cancel_left, Nat.zero_add, Nat.add_zero]; rfl) | rfl, by rw [hjk]; first | (simp (disch := first | omega | assumption) only [wrI_s, wrI_o, wrI_r, wrL_1, wrL_r, wrL_s, wrL_o, blk_in, blk_out, blk_r, lit, litL, b00, b11, nI_l, lN_add, lN_mul, lN_sub, nI_add, pk_mul, pk_sub, pk_div, remN, Nat.add_sub_cancel, Nat.add_sub_cancel_left, Nat.zero_add, Nat.add_zero]; done) | (simp (disch := first | omega | assumption) only [wrI_s, wrI_o, wrI_r, wrL_1, wrL_r, wrL_s, wrL_o, blk_in, blk_out, blk_r, lit, litL, b00, b11, nI_l, lN_add, lN_mul, lN_sub, nI_add, pk_mul, pk_sub, pk_div, remN, Nat.add_sub_cancel, Nat.add_sub_cancel_left, Nat.zero_add, Nat.add_zero]; rfl) | rfl, fun h0 => by omega, fun _ => ⟨by rw [hjk]; first | (simp (disch := first | omega | assumption) only [wrI_s, wrI_o, wrI_r, wrL_1, wrL_r, wrL_s, wrL_o, blk_in, blk_out, blk_r, lit, litL, b00, b11, nI_l, lN_add, lN_mul, lN_sub, nI_add, pk_mul, pk_sub, pk_div, remN, Nat.add_sub_cancel, Nat.add_sub_cancel_left, Nat.zero_add, Nat.add_zero]; done) | (simp (disch := first | omega | assumption) only [wrI_s, wrI_o, wrI_r, wrL_1, wrL_r, wrL_s, wrL_o, blk_in, blk_out, blk_r, lit, litL, b00, b11, nI_l, lN_add, lN_mul, lN_sub, nI_add, pk_mul, pk_sub, pk_div, remN, Nat.add_sub_cancel, Nat.add_sub_cancel_left, Nat.zero_add, Nat.add_zero]; rfl) | rfl, ⟨z, len, by rw [hjk]; exact (by first | (simp (disch := first | omega | assumption) only [v85, wrI_s, wrI_o, wrI_r, wrL_1, wrL_r, wrL_s, wrL_o, blk_in, blk_out, blk_r, lit, litL, b00, b11, nI_l, lN_add, lN_mul, lN_sub, nI_add, pk_mul, pk_sub, pk_div, remN, Nat.add_sub_cancel, Nat.add_sub_cancel_left, Nat.zero_add, Nat.add_zero]; done) | (simp (disch := first | omega | assumption) only [v85, wrI_s, wrI_o, wrI_r, wrL_1, wrL_r, wrL_s, wrL_o, blk_in, blk_out, blk_r, lit, litL, b00, b11, nI_l, lN_add, lN_mul, lN_sub, nI_add, pk_mul, pk_sub, pk_div, remN, Nat.add_sub_cancel, Nat.add_sub_cancel_left, Nat.zero_add, Nat.add_zero]; rfl) | rfl), by rw [hjk]; exact (by first | (simp (disch := first | omega | assumption) only [v80, wrI_s, wrI_o, wrI_r, wrL_1, wrL_r, wrL_s, wrL_o, blk_in, blk_out, blk_r, lit, litL, b00, b11, nI_l, lN_add, lN_mul, lN_sub, nI_add, pk_mul, pk_sub, pk_div, remN, Nat.add_sub_cancel, Nat.add_sub_cancel_left, Nat.zero_add, Nat.add_zero]; done) | (simp (disch := first | omega | assumption) only [v80, wrI_s, wrI_o, wrI_r, wrL_1, wrL_r, wrL_s, wrL_o, blk_in, blk_out, blk_r, lit, litL, b00, b11, nI_l, lN_add, lN_mul, lN_sub, nI_add, pk_mul, pk_sub, pk_div, remN, Nat.add_sub_cancel, Nat.add_sub_cancel_left, Nat.zero_add, Nat.add_zero]; rfl) | rfl), g6, g4, hmore⟩, Or.inl ⟨rfl, by rw [hjk]; first | (simp (disch := first | omega | assumption) only [wrI_s, wrI_o, wrI_r, wrL_1, wrL_r, wrL_s, wrL_o, blk_in, blk_out, blk_r, lit, litL, b00, b11, nI_l, lN_add, lN_mul, lN_sub, nI_add, pk_mul, pk_sub, pk_div, remN, Nat.add_sub_cancel, Nat.add_sub_cancel_left, Nat.zero_add, Nat.add_zero]; done) | (simp (disch := first | omega | assumption) only [wrI_s, wrI_o, wrI_r, wrL_1, wrL_r, wrL_s, wrL_o, blk_in, blk_out, blk_r, lit, litL, b00, b11, nI_l, lN_add, lN_mul, lN_sub, nI_add, pk_mul, pk_sub, pk_div, remN, Nat.add_sub_cancel, Nat.add_sub_cancel_left, Nat.zero_add, Nat.add_zero]; rfl) | rfl⟩⟩⟩
            · refine ⟨f3, u3, p3, n3, a1, a2, (by first | (simp (disch := first | omega | assumption) only [a3, wrI_s, wrI_o, wrI_r, wrL_1, wrL_r, wrL_s, wrL_o, blk_in, blk_out, blk_r, lit, litL, b00, b11, nI_l, lN_add, lN_mul, lN_sub, nI_add, pk_mul, pk_sub, pk_div, remN, Nat.add_sub_cancel, Nat.add_sub_cancel_left, Nat.zero_add, Nat.add_zero]; done) | (simp (disch := first | omega | assumption) only [a3, wrI_s, wrI_o, wrI_r, wrL_1, wrL_r, wrL_s, wrL_o, blk_in, blk_out, blk_r, lit, litL, b00, b11, nI_l, lN_add, lN_mul, lN_sub, nI_add, pk_mul, pk_sub, pk_div, remN, Nat.add_sub_cancel, Nat.add_sub_cancel_left, Nat.zero_add, Nat.add_zero]; rfl) | rfl), (by first | (simp (disch := first | omega | assumption) only [a4, wrI_s, wrI_o, wrI_r, wrL_1, wrL_r, wrL_s, wrL_o, blk_in, blk_out, blk_r, lit, litL, b00, b11, nI_l, lN_add, lN_mul, lN_sub, nI_add, pk_mul, pk_sub, pk_div, remN, Nat.add_sub_cancel, Nat.add_sub_cancel_left, Nat.zero_add, Nat.add_zero]; done) | (simp (disch := first | omega | assumption) only [a4, wrI_s, wrI_o, wrI_r, wrL_1, wrL_r, wrL_s, wrL_o, blk_in, blk_out, blk_r, lit, litL, b00, b11, nI_l, lN_add, lN_mul, lN_sub, nI_add, pk_mul, pk_sub, pk_div, remN, Nat.add_sub_cancel, Nat.add_sub_cancel_left, Nat.zero_add, Nat.add_zero]; rfl) | rfl), (by first | (simp (disch := first | omega | assumption) only [a5, wrI_s, wrI_o, wrI_r, wrL_1, wrL_r, wrL_s, wrL_o, blk_in, blk_out, blk_r, lit, litL, b00, b11, nI_l, lN_add, lN_mul, lN_sub, nI_add, pk_mul, pk_sub, pk_div, remN, Nat.add_sub_cancel, Nat.add_sub_cancel_left, Nat.zero_add, Nat.add_zero]; done) | (simp (disch := first | omega | assumption) only [a5, wrI_s, wrI_o, wrI_r, wrL_1, wrL_r, wrL_s, wrL_o, blk_in, blk_out, blk_r, lit, litL, b00, b11, nI_l, lN_add, lN_mul, lN_sub, nI_add, pk_mul, pk_sub, pk_div, remN, Nat.add_sub_cancel, Nat.add_sub_cancel_left, Nat.zero_add, Nat.add_zero]; rfl) | rfl), (by first | (simp (disch := first | omega | assumption) only [a6, wrI_s, wrI_o, wrI_r, wrL_1, wrL_r, wrL_s, wrL_o, blk_in, blk_out, blk_r, lit, litL, b00, b11, nI_l, lN_add, lN_mul, lN_sub, nI_add, pk_mul, pk_sub, pk_div, remN, Nat.add_sub_cancel, Nat.add_sub_cancel_left, Nat.zero_add, Nat.add_zero]; done) | (simp (disch := first | omega | assumption) only [a6, wrI_s, wrI_o, wrI_r, wrL_1, wrL_r, wrL_s, wrL_o, blk_in, blk_out, blk_r, lit, litL, b00, b11, nI_l, lN_add, lN_mul, lN_sub, nI_add, pk_mul, pk_sub, pk_div, remN, Nat.add_sub_cancel, Nat.add_sub_cancel_left, Nat.zero_add, Nat.add_zero]; rfl) | rfl), a7, fun h0 => ?_⟩
              simp (disch := omega) only [wrI_o]
              exact a8 h0
          · intro j hj
            obtain ⟨y1, y2⟩ := hIDue j hj
            rw [fA.1 39 (nc (by decide)), gA.2.1 259 (nc (by decide)), fA.1 103 (nc (by decide)), gA.1 254 (nc (by decide)), gA.1 255 (nc (by decide))]
            refine ⟨y1, ?_⟩
            by_cases hjk : j = k
            · rw [hjk]
              exact Or.inr ⟨s + 2, by omega, by omega, (by first | (simp (disch := first | omega | assumption) only [wrI_s, wrI_o, wrI_r, wrL_1, wrL_r, wrL_s, wrL_o, blk_in, blk_out, blk_r, lit, litL, b00, b11, nI_l, lN_add, lN_mul, lN_sub, nI_add, pk_mul, pk_sub, pk_div, remN, Nat.add_sub_cancel, Nat.add_sub_cancel_left, Nat.zero_add, Nat.add_zero]; done) | (simp (disch := first | omega | assumption) only [wrI_s, wrI_o, wrI_r, wrL_1, wrL_r, wrL_s, wrL_o, blk_in, blk_out, blk_r, lit, litL, b00, b11, nI_l, lN_add, lN_mul, lN_sub, nI_add, pk_mul, pk_sub, pk_div, remN, Nat.add_sub_cancel, Nat.add_sub_cancel_left, Nat.zero_add, Nat.add_zero]; rfl) | rfl), (by first | (simp (disch := first | omega | assumption) only [wrI_s, wrI_o, wrI_r, wrL_1, wrL_r, wrL_s, wrL_o, blk_in, blk_out, blk_r, lit, litL, b00, b11, nI_l, lN_add, lN_mul, lN_sub, nI_add, pk_mul, pk_sub, pk_div, remN, Nat.add_sub_cancel, Nat.add_sub_cancel_left, Nat.zero_add, Nat.add_zero]; done) | (simp (disch := first | omega | assumption) only [wrI_s, wrI_o, wrI_r, wrL_1, wrL_r, wrL_s, wrL_o, blk_in, blk_out, blk_r, lit, litL, b00, b11, nI_l, lN_add, lN_mul, lN_sub, nI_add, pk_mul, pk_sub, pk_div, remN, Nat.add_sub_cancel, Nat.add_sub_cancel_left, Nat.zero_add, Nat.add_zero]; rfl) | rfl), hISnd.n hk, Or.inr ⟨(by first | (simp (disch := first | omega | assumption) only [wrI_s, wrI_o, wrI_r, wrL_1, wrL_r, wrL_s, wrL_o, blk_in, blk_out, blk_r, lit, litL, b00, b11, nI_l, lN_add, lN_mul, lN_sub, nI_add, pk_mul, pk_sub, pk_div, remN, Nat.add_sub_cancel, Nat.add_sub_cancel_left, Nat.zero_add, Nat.add_zero]; done) | (simp (disch := first | omega | assumption) only [wrI_s, wrI_o, wrI_r, wrL_1, wrL_r, wrL_s, wrL_o, blk_in, blk_out, blk_r, lit, litL, b00, b11, nI_l, lN_add, lN_mul, lN_sub, nI_add, pk_mul, pk_sub, pk_div, remN, Nat.add_sub_cancel, Nat.add_sub_cancel_left, Nat.zero_add, Nat.add_zero]; rfl) | rfl), (by first | (simp (disch := first | omega | assumption) only [wrI_s, wrI_o, wrI_r, wrL_1, wrL_r, wrL_s, wrL_o, blk_in, blk_out, blk_r, lit, litL, b00, b11, nI_l, lN_add, lN_mul, lN_sub, nI_add, pk_mul, pk_sub, pk_div, remN, Nat.add_sub_cancel, Nat.add_sub_cancel_left, Nat.zero_add, Nat.add_zero]; done) | (simp (disch := first | omega | assumption) only [wrI_s, wrI_o, wrI_r, wrL_1, wrL_r, wrL_s, wrL_o, blk_in, blk_out, blk_r, lit, litL, b00, b11, nI_l, lN_add, lN_mul, lN_sub, nI_add, pk_mul, pk_sub, pk_div, remN, Nat.add_sub_cancel, Nat.add_sub_cancel_left, Nat.zero_add, Nat.add_zero]; rfl) | rfl), v255, u, w6, b2, v103⟩⟩
            · simp (disch := omega) only [wrI_o]
              exact y2
          · intro j hj
            rw [fA.1 98 (nc (by decide)), fA.1 103 (nc (by decide)), gA.1 255 (nc (by decide)), gA.1 256 (nc (by decide))]
            by_cases hjk : j = k
            · rw [hjk]
              rcases hIWai k hk with v | ⟨w', n4, u4, x1, x2, x3, x4, x5, -⟩
              · exact Or.inl v
              · rw [v255] at x5
                exact absurd x5 (by decide)
            · simp (disch := omega) only [wrI_o]
              exact hIWai j hj
        exact aux C1 M1 hT1 x102 x103 x85 x80 m255.1
    · have hlast : (if kd = 8 then (len + z - 1) / z else 1) ≤ p + 1 ∧ 1 ≤ (if kd = 8 then (len + z - 1) / z else 1) := by
        by_cases h8 : kd = 8
        · rw [if_pos h8]
          constructor
          · have : (len + z - 1) / z < p + 1 + 1 := by
              rw [Nat.div_lt_iff_lt_mul (by omega)]
              have e : (p + 1 + 1) * z = (p + 1) * z + z := Nat.succ_mul (p + 1) z
              omega
            omega
          · rw [Nat.le_div_iff_mul_le (by omega)]
            omega
        · rw [if_neg h8]
          omega
      obtain ⟨C', M', e1, e2, e3, e4, e5, e6, e7, e8, e9, e10⟩ := fin (how := 1) hIRef2 hIDraw2 hISub2 hIQue2 hIHnd2 hICon2 hk b1 w6 w7 (by rw [fC1.1 102 (nc (by decide))]; exact b4) (by rw [fC1.1 103 (nc (by decide))]; exact b5)
      refine ⟨C', M', preC _ ?_, preM _ ?_, ?_, (fC1.up (by decide)).tr (e3.up (by decide)), (gM1.up (by decide)).tr (e4.up (by decide))⟩
      · refine e_T ?_ (e_cl (r := ()) ?_ rfl)
        · rw [pk_mul, nI_leI (by omega) (by
            have : (p + 1) * z ≤ 208 * 255 := Nat.mul_le_mul (by omega) g6
            omega)]
          omega
        · rw [finW (S := wrI (wrI C 98 k 0 (-nI 1)) 93 k 0 (nI 0)) hk b1 w7 w6 (by rw [fC1.1 102 (nc (by decide))]; exact b4) (by rw [fC1.1 103 (nc (by decide))]; exact b5) r45 hi (by rw [fC1.1 87 (nc (by decide))]; exact g18) g19]
          exact e1
      · refine e_T ?_ (e_cl e2 rfl)
        rw [show (1 : Int32) = nI 1 from rfl, pk_sub hlast.2, nI_leI (by omega) (by omega)]
        omega
      · have aux : ∀ (C M C' M' : Mm), TT (s + 1) w e t C M → fq fnC C C' → fq fnM M M' → (∀ j, ¬ j = k → C'.1 103 j = C.1 103 j ∧ C'.1 100 j = C.1 100 j) → ISub C' M' → IQue C' M' → IHnd C' M' → ICon C' M' → IDraw C' M' → C.1 98 k 0 = -nI 1 → ¬ M.1 257 0 k = nI 2 → TT (s + 1) w e t C' M' := by
          intro C M C' M' h fC gM hrow i1 i2 i3 i4 i5 v98 v257
          obtain ⟨hIDraw, hIPar, hISub, hIKey, hIRef, hISta, hILnk, hIBeg, hIQue, hIHnd, hICon, hIDue, hIWai, hISnd, hILat, hIInb⟩ := h
          have key : ∀ C' M', fq fnC C C' → fq fnM M M' → IDraw C' M' → ISub C' M' → IQue C' M' → IHnd C' M' → ICon C' M' → IDue (s + 1) C' M' → IWai w C' M' → TT (s + 1) w e t C' M' := fun C' M' fC gM tIDraw tISub tIQue tIHnd tICon tIDue tIWai => ⟨tIDraw, hIPar.fr fC gM (by decide) (by decide), tISub, hIKey.fr fC gM (by decide) (by decide), hIRef.fr fC gM (by decide) (by decide), hISta.fr fC gM (by decide) (by decide), hILnk.fr fC gM (by decide) (by decide), hIBeg.fr fC gM (by decide) (by decide), tIQue, tIHnd, tICon, tIDue, tIWai, hISnd.z fC gM (by decide) (by decide), hILat.fr fC gM (by decide) (by decide), hIInb.fr fC gM (by decide) (by decide)⟩
          refine key _ _ fC gM i5 i1 i2 i3 i4 ?_ ?_
          · refine hIDue.nd fC gM (by decide) (by decide) (fun j hj h2 => ?_)
            by_cases hjk : j = k
            · rw [hjk] at h2
              exact absurd h2 v257
            · obtain ⟨u3, a1, a2, a3⟩ := hIDue.p2 hj h2
              exact ⟨u3, a1, a2, by rw [(hrow j hjk).1]; exact a3⟩
          · refine hIWai.nd fC gM (by decide) (by decide) (fun j hj h2 => ?_)
            by_cases hjk : j = k
            · rw [hjk] at h2
              rcases hIWai k hk with ⟨x1, x2⟩ | ⟨w', n4, u4, x1, x2, x3, -⟩
              · rw [x2] at h2
                exact absurd h2 (by decide)
              · rw [v98] at x3
                exact absurd x3.symm (by rw [nI_m1 (by omega)]; exact id)
            · obtain ⟨⟨u3, a1, a2, a3⟩, ⟨n3, c1, c2, c3⟩⟩ := hIWai.p1 hj h2
              exact ⟨⟨u3, a1, a2, by rw [(hrow j hjk).1]; exact a3⟩, ⟨n3, c1, c2, by rw [(hrow j hjk).2]; exact c3⟩⟩
        refine aux _ _ C' M' hT1 e3 e4 e5 e6 e7 e8 e9 e10 c98.1 (fun z => ?_)
        rw [gM1.1 257 (nc (by decide))] at z
        rcases (hIDue k hk).2 with ⟨-, x2⟩ | ⟨dd, x1, x2, x3, x4, x5, x6⟩
        · rw [z] at x2
          exact absurd x2 (by decide)
        · rcases x6 with ⟨-, x7⟩ | ⟨-, -, x7, -⟩
          · rw [z] at x7
            exact absurd x7 (by decide)
          · rw [w5] at x7
            exact absurd x7 (by decide)
