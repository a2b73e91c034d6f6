/-! WHAT IS DROPPED AS SENT AGAIN, both sides -/
theorem scE {x y : Nat} (hx : x < 256) (hy : y < 256) : nI x ||| (nI y <<< (8 &&& 31)) = nI (x + 256 * y) := by
  have e1 : nI y <<< (8 &&& 31) = nI (y * 256) := pk_shlN (8 &&& 31) 8 (by decide) (by omega)
  rw [e1]
  refine bv_inj ?_
  rw [Int32.toBitVec_or, BitVec.toNat_or, pk_tn (by omega), pk_tn (by omega), pk_tn (by omega), Nat.or_comm]
  have := Nat.shiftLeft_add_eq_or_of_lt (show x < 2 ^ 8 from hx) y
  rw [Nat.shiftLeft_eq] at this
  show y * 2 ^ 8 ||| x = _
  omega
abbrev dpCl : List Nat := [38, 89]
abbrev dpMl : List Nat := [279, 280, 281]
def lkD (a f : Nat) (M : Mm) : Option (Unit × Mm) := ldA M 278 0 300 1 22 fun x21 => ldA M 278 0 300 1 23 fun x22 => tp (x21 ||| (x22 <<< (8 &&& 31))) fun x23 => tp ((9 * nI a) + nI f) fun x24 => ldA M 278 0 300 1 1 fun x25 => if (x25 &&& 8) = 0 then (L_X12_look_191 (nI a) (nI f) x23 x24 M) else (ldA M 280 0 81 1 x24 fun x26 => if x26 = 0 then (L_X12_look_191 (nI a) (nI f) x23 x24 M) else (ldA M 279 0 81 1 x24 fun x27 => if x27 = x23 then (ldA M 281 0 9 1 (nI a) fun x28 => stA M 281 0 9 1 (nI a) (x28 + 1) fun S29 => some ((), S29)) else (L_X12_look_191 (nI a) (nI f) x23 x24 M)))
def DRP (s w e t R a f : Nat) (C M : Mm) : Prop := ∃ z C' M', z ≤ 1 ∧ F_X7_dropsAgain a 27 R (nI f) C = some (nI z, C') ∧ (z = 1 → lkD a f M = some ((), M')) ∧ (z = 0 → lkD a f M = (if nI a = 0 then (if nI f ≤ 0 then (L_X12_look_226 (nI a) (nI f) M') else (cl (F_X12_actsAp (nI f) M') fun r34 S35 => some ((), S35))) else (L_X12_look_226 (nI a) (nI f) M'))) ∧ TT (s + 1) w e t C' M' ∧ fq dpCl C C' ∧ fq dpMl M M'
theorem drpT {s w e t R n sd a f : Nat} {b : Nat → Nat} {C M : Mm} (h : TT (s + 1) w e t C M) (hN : NB s R n sd b C M) (h28 : 28 ≤ n) (ha : a < 9) (hf : f < 9) : DRP s w e t R a f C M := by
  obtain ⟨h1, h2, h3, h4, h5, h6, h7, h8, h9, h10, h11, h12, h13, h14'⟩ := hN
  have ho : okP false 27 R = true := okP_n (by decide) h1
  have rd : ∀ j, j < n → rdI C 27 R j = nI (b j) := h10
  have q22 := h5 22
  have q23 := h5 23
  have esc : b 22 + 256 * b 23 < 65536 := by omega
  have preC : ∀ X, ((if nI (b 1) &&& 8 = 0 then L_X7_dropsAgain_45 a (nI f) (nI (b 22 + 256 * b 23)) C else (ldA C 38 a 9 9 (nI f) fun x5 => if x5 = nI (b 22 + 256 * b 23) then (gf C 89 a fun x6 => pf C 89 a (x6 + 1) fun S7 => some (1, S7)) else (L_X7_dropsAgain_45 a (nI f) (nI (b 22 + 256 * b 23)) C))) = X) → F_X7_dropsAgain a 27 R (nI f) C = X := by
    intro X hX
    unfold F_X7_dropsAgain
    exact e_gd ha (e_ldP (j := 22) rfl ho (by decide) (by decide) (rd 22 (by omega)) (e_ldP (j := 23) rfl ho (by decide) (by decide) (rd 23 (by omega)) (e_tp (w := nI (b 22 + 256 * b 23)) (by first | (simp (disch := first | omega | assumption) only [wrI_s, wrI_o, wrI_r, wrL_1, wrL_r, wrL_s, wrL_o, blk_in, blk_out, blk_r, lit, litL, b00, b11, nI_l, lN_add, lN_mul, lN_sub, nI_add, pk_mul, pk_sub, pk_div, remN, Nat.add_sub_cancel, Nat.add_sub_cancel_left, Nat.zero_add, Nat.add_zero]; done) | (simp (disch := first | omega | assumption) only [wrI_s, wrI_o, wrI_r, wrL_1, wrL_r, wrL_s, wrL_o, blk_in, blk_out, blk_r, lit, litL, b00, b11, nI_l, lN_add, lN_mul, lN_sub, nI_add, pk_mul, pk_sub, pk_div, remN, Nat.add_sub_cancel, Nat.add_sub_cancel_left, Nat.zero_add, Nat.add_zero]; rfl) | rfl) (e_ldP (j := 1) rfl ho (by decide) (by decide) (rd 1 (by omega)) hX))))
  have preM : ∀ X, ((if nI (b 1) &&& 8 = 0 then (L_X12_look_191 (nI a) (nI f) (nI (b 22 + 256 * b 23)) (nI (9 * a + f)) M) else (ldA M 280 0 81 1 (nI (9 * a + f)) fun x26 => if x26 = 0 then (L_X12_look_191 (nI a) (nI f) (nI (b 22 + 256 * b 23)) (nI (9 * a + f)) M) else (ldA M 279 0 81 1 (nI (9 * a + f)) fun x27 => if x27 = nI (b 22 + 256 * b 23) then (ldA M 281 0 9 1 (nI a) fun x28 => stA M 281 0 9 1 (nI a) (x28 + 1) fun S29 => some ((), S29)) else (L_X12_look_191 (nI a) (nI f) (nI (b 22 + 256 * b 23)) (nI (9 * a + f)) M)))) = X) → lkD a f M = X := by
    intro X hX
    unfold lkD
    exact e_ldA (j := 22) rfl (by decide) (by decide) (by decide) (h12 22 (by omega)) (e_ldA (j := 23) rfl (by decide) (by decide) (by decide) (h12 23 (by omega)) (e_tp (w := nI (b 22 + 256 * b 23)) (scE q22 q23) (e_tp (w := nI (9 * a + f)) (by first | (simp (disch := first | omega | assumption) only [wrI_s, wrI_o, wrI_r, wrL_1, wrL_r, wrL_s, wrL_o, blk_in, blk_out, blk_r, lit, litL, b00, b11, nI_l, lN_add, lN_mul, lN_sub, nI_add, pk_mul, pk_sub, pk_div, remN, Nat.add_sub_cancel, Nat.add_sub_cancel_left, Nat.zero_add, Nat.add_zero]; done) | (simp (disch := first | omega | assumption) only [wrI_s, wrI_o, wrI_r, wrL_1, wrL_r, wrL_s, wrL_o, blk_in, blk_out, blk_r, lit, litL, b00, b11, nI_l, lN_add, lN_mul, lN_sub, nI_add, pk_mul, pk_sub, pk_div, remN, Nat.add_sub_cancel, Nat.add_sub_cancel_left, Nat.zero_add, Nat.add_zero]; rfl) | rfl) (e_ldA (j := 1) rfl (by decide) (by decide) (by decide) (h12 1 (by omega)) hX))))
  have hk : 9 * a + f < 81 := by omega
  have keepT : TT (s + 1) w e t (wrI C 38 a f (nI (b 22 + 256 * b 23))) (wrI (wrI M 280 0 (9 * a + f) (nI 1)) 279 0 (9 * a + f) (nI (b 22 + 256 * b 23))) := by
    obtain ⟨hIDraw, hIPar, hISub, hIKey, hIRef, hISta, hILnk, hIBeg, hIQue, hIHnd, hICon, hIDue, hIWai, hISnd, hILat, hIInb⟩ := h
    have key : ∀ C' M', fq dpCl C C' → fq dpMl M M' → ILat C' M' → TT (s + 1) w e t C' M' := fun C' M' fC gM tILat => ⟨hIDraw.fr fC gM (by decide) (by decide), hIPar.fr fC gM (by decide) (by decide), hISub.fr fC gM (by decide) (by decide), hIKey.fr fC gM (by decide) (by decide), hIRef.fr fC gM (by decide) (by decide), hISta.fr fC gM (by decide) (by decide), hILnk.fr fC gM (by decide) (by decide), hIBeg.fr fC gM (by decide) (by decide), hIQue.fr fC gM (by decide) (by decide), hIHnd.fr fC gM (by decide) (by decide), hICon.fr fC gM (by decide) (by decide), hIDue.fr fC gM (by decide) (by decide), hIWai.fr fC gM (by decide) (by decide), hISnd.z fC gM (by decide) (by decide), tILat, hIInb.fr fC gM (by decide) (by decide)⟩
    refine key _ _ (by repeat (first | exact fq.rf | (refine fq.tr ?_ (fq.wr (by decide))) | (refine fq.tr ?_ (fq.bk (by decide))) | (refine fq.tr ?_ (fq.wl (by decide))) | (refine fq.tr ?_ (fq.wR (by decide))))) (by repeat (first | exact fq.rf | (refine fq.tr ?_ (fq.wr (by decide))) | (refine fq.tr ?_ (fq.bk (by decide))) | (refine fq.tr ?_ (fq.wl (by decide))) | (refine fq.tr ?_ (fq.wR (by decide))))) ⟨fun r' f' hr' hf' => ?_, fun r' hr' => ?_⟩
    · by_cases hh : r' = a ∧ f' = f
      · rw [hh.1, hh.2]
        exact Or.inr ⟨b 22 + 256 * b 23, esc, (by first | (simp (disch := first | omega | assumption) only [wrI_s, wrI_o, wrI_r, wrL_1, wrL_r, wrL_s, wrL_o, blk_in, blk_out, blk_r, lit, litL, b00, b11, nI_l, lN_add, lN_mul, lN_sub, nI_add, pk_mul, pk_sub, pk_div, remN, Nat.add_sub_cancel, Nat.add_sub_cancel_left, Nat.zero_add, Nat.add_zero]; done) | (simp (disch := first | omega | assumption) only [wrI_s, wrI_o, wrI_r, wrL_1, wrL_r, wrL_s, wrL_o, blk_in, blk_out, blk_r, lit, litL, b00, b11, nI_l, lN_add, lN_mul, lN_sub, nI_add, pk_mul, pk_sub, pk_div, remN, Nat.add_sub_cancel, Nat.add_sub_cancel_left, Nat.zero_add, Nat.add_zero]; rfl) | rfl), (by first | (simp (disch := first | omega | assumption) only [wrI_s, wrI_o, wrI_r, wrL_1, wrL_r, wrL_s, wrL_o, blk_in, blk_out, blk_r, lit, litL, b00, b11, nI_l, lN_add, lN_mul, lN_sub, nI_add, pk_mul, pk_sub, pk_div, remN, Nat.add_sub_cancel, Nat.add_sub_cancel_left, Nat.zero_add, Nat.add_zero]; done) | (simp (disch := first | omega | assumption) only [wrI_s, wrI_o, wrI_r, wrL_1, wrL_r, wrL_s, wrL_o, blk_in, blk_out, blk_r, lit, litL, b00, b11, nI_l, lN_add, lN_mul, lN_sub, nI_add, pk_mul, pk_sub, pk_div, remN, Nat.add_sub_cancel, Nat.add_sub_cancel_left, Nat.zero_add, Nat.add_zero]; rfl) | rfl), (by first | (simp (disch := first | omega | assumption) only [wrI_s, wrI_o, wrI_r, wrL_1, wrL_r, wrL_s, wrL_o, blk_in, blk_out, blk_r, lit, litL, b00, b11, nI_l, lN_add, lN_mul, lN_sub, nI_add, pk_mul, pk_sub, pk_div, remN, Nat.add_sub_cancel, Nat.add_sub_cancel_left, Nat.zero_add, Nat.add_zero]; done) | (simp (disch := first | omega | assumption) only [wrI_s, wrI_o, wrI_r, wrL_1, wrL_r, wrL_s, wrL_o, blk_in, blk_out, blk_r, lit, litL, b00, b11, nI_l, lN_add, lN_mul, lN_sub, nI_add, pk_mul, pk_sub, pk_div, remN, Nat.add_sub_cancel, Nat.add_sub_cancel_left, Nat.zero_add, Nat.add_zero]; rfl) | rfl)⟩
      · have hne : ¬ 9 * r' + f' = 9 * a + f := by omega
        have hne2 : ¬ (r' = a ∧ f' = f) := hh
        rw [wrI_o (show ¬ (38 = 38 ∧ r' = a ∧ f' = f) by omega), wrI_ne (show ¬ 280 = 279 by decide), wrI_o (show ¬ (280 = 280 ∧ 0 = 0 ∧ 9 * r' + f' = 9 * a + f) by omega), wrI_o (show ¬ (279 = 279 ∧ 0 = 0 ∧ 9 * r' + f' = 9 * a + f) by omega), wrI_ne (show ¬ 279 = 280 by decide)]
        exact hILat.1 r' f' hr' hf'
    · rw [wrI_ne (by decide), wrI_ne (by decide), wrI_ne (by decide), wrI_ne (by decide), wrI_ne (by decide), wrI_ne (by decide)]
      exact hILat.2 r' hr'
  have e45 : L_X7_dropsAgain_45 a (nI f) (nI (b 22 + 256 * b 23)) C = some (nI 0, wrI C 38 a f (nI (b 22 + 256 * b 23))) := by
    unfold L_X7_dropsAgain_45
    exact e_stA rfl hf ha (by decide) rfl rfl
  have e191 : L_X12_look_191 (nI a) (nI f) (nI (b 22 + 256 * b 23)) (nI (9 * a + f)) M = (if nI a = 0 then (if nI f ≤ 0 then (L_X12_look_226 (nI a) (nI f) (wrI (wrI M 280 0 (9 * a + f) (nI 1)) 279 0 (9 * a + f) (nI (b 22 + 256 * b 23)))) else (cl (F_X12_actsAp (nI f) (wrI (wrI M 280 0 (9 * a + f) (nI 1)) 279 0 (9 * a + f) (nI (b 22 + 256 * b 23)))) fun r34 S35 => some ((), S35))) else (L_X12_look_226 (nI a) (nI f) (wrI (wrI M 280 0 (9 * a + f) (nI 1)) 279 0 (9 * a + f) (nI (b 22 + 256 * b 23))))) := by
    unfold L_X12_look_191
    exact e_stA rfl hk (by decide) (by decide) (w := nI 1) (by decide) (e_stA rfl hk (by decide) (by decide) rfl rfl)
  have kept : F_X7_dropsAgain a 27 R (nI f) C = some (nI 0, wrI C 38 a f (nI (b 22 + 256 * b 23))) → lkD a f M = L_X12_look_191 (nI a) (nI f) (nI (b 22 + 256 * b 23)) (nI (9 * a + f)) M → DRP s w e t R a f C M := fun hC hM => ⟨0, _, _, by decide, hC, fun z => absurd z (by decide), fun _ => hM.trans e191, keepT, by repeat (first | exact fq.rf | (refine fq.tr ?_ (fq.wr (by decide))) | (refine fq.tr ?_ (fq.bk (by decide))) | (refine fq.tr ?_ (fq.wl (by decide))) | (refine fq.tr ?_ (fq.wR (by decide)))), by repeat (first | exact fq.rf | (refine fq.tr ?_ (fq.wr (by decide))) | (refine fq.tr ?_ (fq.bk (by decide))) | (refine fq.tr ?_ (fq.wl (by decide))) | (refine fq.tr ?_ (fq.wR (by decide))))⟩
  by_cases h8 : nI (b 1) &&& 8 = 0
  · exact kept (preC _ (e_T h8 e45)) (preM _ (e_T h8 rfl))
  · have h2 := h
    obtain ⟨hIDraw, hIPar, hISub, hIKey, hIRef, hISta, hILnk, hIBeg, hIQue, hIHnd, hICon, hIDue, hIWai, hISnd, hILat, hIInb⟩ := h2
    rcases hILat.1 a f ha hf with ⟨y1, y2⟩ | ⟨x, y1, y2, y3, y4⟩
    · exact kept (preC _ (e_N h8 (e_ldA rfl hf ha (by decide) y1 (e_N (fun z => absurd z.symm (by rw [nI_m1 (by omega)]; exact id)) e45)))) (preM _ (e_N h8 (e_ldA rfl hk (by decide) (by decide) y2 (e_T rfl rfl))))
    · by_cases hx : x = b 22 + 256 * b 23
      · refine ⟨1, wrI C 89 a 0 (C.1 89 a 0 + 1), wrI M 281 0 a (M.1 281 0 a + 1), by decide, preC _ (e_N h8 (e_ldA rfl hf ha (by decide) y2 (e_T (by rw [hx]) (e_gf rfl (e_pf rfl rfl))))), fun _ => preM _ (e_N h8 (e_ldA rfl hk (by decide) (by decide) y4 (e_N (by decide) (e_ldA rfl hk (by decide) (by decide) y3 (e_T (by rw [hx]) (e_ldA rfl ha (by decide) (by decide) rfl (e_stA rfl ha (by decide) (by decide) rfl rfl))))))), fun z => absurd z (by decide), ?_, by repeat (first | exact fq.rf | (refine fq.tr ?_ (fq.wr (by decide))) | (refine fq.tr ?_ (fq.bk (by decide))) | (refine fq.tr ?_ (fq.wl (by decide))) | (refine fq.tr ?_ (fq.wR (by decide)))), by repeat (first | exact fq.rf | (refine fq.tr ?_ (fq.wr (by decide))) | (refine fq.tr ?_ (fq.bk (by decide))) | (refine fq.tr ?_ (fq.wl (by decide))) | (refine fq.tr ?_ (fq.wR (by decide))))⟩
        have key : ∀ C' M', fq dpCl C C' → fq dpMl M M' → ILat C' M' → TT (s + 1) w e t C' M' := fun C' M' fC gM tILat => ⟨hIDraw.fr fC gM (by decide) (by decide), hIPar.fr fC gM (by decide) (by decide), hISub.fr fC gM (by decide) (by decide), hIKey.fr fC gM (by decide) (by decide), hIRef.fr fC gM (by decide) (by decide), hISta.fr fC gM (by decide) (by decide), hILnk.fr fC gM (by decide) (by decide), hIBeg.fr fC gM (by decide) (by decide), hIQue.fr fC gM (by decide) (by decide), hIHnd.fr fC gM (by decide) (by decide), hICon.fr fC gM (by decide) (by decide), hIDue.fr fC gM (by decide) (by decide), hIWai.fr fC gM (by decide) (by decide), hISnd.z fC gM (by decide) (by decide), tILat, hIInb.fr fC gM (by decide) (by decide)⟩
        refine key _ _ (by repeat (first | exact fq.rf | (refine fq.tr ?_ (fq.wr (by decide))) | (refine fq.tr ?_ (fq.bk (by decide))) | (refine fq.tr ?_ (fq.wl (by decide))) | (refine fq.tr ?_ (fq.wR (by decide))))) (by repeat (first | exact fq.rf | (refine fq.tr ?_ (fq.wr (by decide))) | (refine fq.tr ?_ (fq.bk (by decide))) | (refine fq.tr ?_ (fq.wl (by decide))) | (refine fq.tr ?_ (fq.wR (by decide))))) ⟨fun r' f' hr' hf' => ?_, fun r' hr' => ?_⟩
        · rw [wrI_ne (by decide), wrI_ne (by decide), wrI_ne (by decide)]
          exact hILat.1 r' f' hr' hf'
        · have q := hILat.2 r' hr'
          rw [wrI_ne (show ¬ 90 = 89 by decide), wrI_ne (show ¬ 282 = 281 by decide)]
          refine ⟨?_, q.2⟩
          by_cases hra : r' = a
          · rw [hra, wrI_s, wrI_s]
            rw [hra] at q
            rw [q.1]
          · rw [wrI_o (by omega), wrI_o (by omega)]
            exact q.1
      · have hne : ¬ nI x = nI (b 22 + 256 * b 23) := by rw [nI_eq (by omega) (by omega)]; exact hx
        exact kept (preC _ (e_N h8 (e_ldA rfl hf ha (by decide) y2 (e_N hne e45)))) (preM _ (e_N h8 (e_ldA rfl hk (by decide) (by decide) y4 (e_N (by decide) (e_ldA rfl hk (by decide) (by decide) y3 (e_N hne rfl))))))
