/-! A NODE BEGINS: an ACK, or the frame at hand -/
def akF (v : Int64) (j : Nat) : Int32 := if j = 0 then nI 212 else if j < 4 then nI 0 else btL v (5 - (j - 4))
theorem akF_B (v : Int64) (j : Nat) : isB (akF v j) := by
  unfold akF
  repeat' split
  · exact isB_n (by decide)
  · exact isB_n (by decide)
  · exact btL_B _ _
theorem ackC {k : Nat} {C : Mm} {v : Int64} (hk : k < 9) (h39 : ∀ j, j < 6 → C.1 39 k j = btL v (5 - j)) : ∃ C1, (∀ j, j < 10 → C1.1 57 0 j = akF v j) ∧ (∀ j, j < 4 → C1.1 57 0 (10 + j) = bt (crcN (akF v) 10 ^^^ (-1)) j) ∧ fq [57] C C1 ∧ F_X11_beginAck k C = (gf C1 88 k fun x10 => cl (F_X5_begin 57 0 14 x10 C1) fun r11 S12 => pf S12 96 k r11 fun S14 => pf S14 97 k 1 fun S15 => some ((), S15)) := by
  have ho : okW false 57 0 = true := by decide
  have e1 : F_J7_fill_53178 57 0 0 C = some ((), blk C 57 0 0 14 (fun _ => nI 0)) := by
    unfold F_J7_fill_53178
    rw [lnP_eq (by decide), show nI (kn 57) = nI 14 from rfl]
    refine loopB (fun m v S => L_J7_fill_53178_5 57 0 0 (nI 14) m v S) C 57 0 0 14 (fun _ => nI 0) (by decide) (fun m j hj => ?_) (fun m => ?_)
    · rw [L_J7_fill_53178_5]
      refine e_N (by first | (simp (disch := first | omega | assumption) only [wrI_s, wrI_o, wrI_r, wrL_1, wrL_r, wrL_s, wrL_o, blk_in, blk_out, blk_r, lit, litL, b00, b11, nI_l, lN_add, lN_mul, lN_sub, nI_add, pk_mul, pk_sub, pk_div, remN, Nat.add_sub_cancel, Nat.add_sub_cancel_left, Nat.zero_add, Nat.add_zero, nI_eq, nI_leI, nI_ltI, nI_m1, m1_lt, neg_lt, neg_le, neg_ge, neg_gt, neg_eq, not_true, not_false_iff]; done) | (simp (disch := first | omega | assumption) only [wrI_s, wrI_o, wrI_r, wrL_1, wrL_r, wrL_s, wrL_o, blk_in, blk_out, blk_r, lit, litL, b00, b11, nI_l, lN_add, lN_mul, lN_sub, nI_add, pk_mul, pk_sub, pk_div, remN, Nat.add_sub_cancel, Nat.add_sub_cancel_left, Nat.zero_add, Nat.add_zero, nI_eq, nI_leI, nI_ltI, nI_m1, m1_lt, neg_lt, neg_le, neg_ge, neg_gt, neg_eq, not_true, not_false_iff]; omega)) (e_stP rfl ho (show j < 14 from hj) (by decide) rfl ?_)
      rw [nI_1, ← blk_succ, Nat.zero_add]
      rfl
    · rw [L_J7_fill_53178_5]
      exact e_T (by first | (simp (disch := first | omega | assumption) only [wrI_s, wrI_o, wrI_r, wrL_1, wrL_r, wrL_s, wrL_o, blk_in, blk_out, blk_r, lit, litL, b00, b11, nI_l, lN_add, lN_mul, lN_sub, nI_add, pk_mul, pk_sub, pk_div, remN, Nat.add_sub_cancel, Nat.add_sub_cancel_left, Nat.zero_add, Nat.add_zero, nI_eq, nI_leI, nI_ltI, nI_m1, m1_lt, neg_lt, neg_le, neg_ge, neg_gt, neg_eq, not_true, not_false_iff]; done) | (simp (disch := first | omega | assumption) only [wrI_s, wrI_o, wrI_r, wrL_1, wrL_r, wrL_s, wrL_o, blk_in, blk_out, blk_r, lit, litL, b00, b11, nI_l, lN_add, lN_mul, lN_sub, nI_add, pk_mul, pk_sub, pk_div, remN, Nat.add_sub_cancel, Nat.add_sub_cancel_left, Nat.zero_add, Nat.add_zero, nI_eq, nI_leI, nI_ltI, nI_m1, m1_lt, neg_lt, neg_le, neg_ge, neg_gt, neg_eq, not_true, not_false_iff]; omega)) rfl
  have hA : ∀ j, j < 10 → (blk (wrI (blk C 57 0 0 14 (fun _ => nI 0)) 57 0 0 (nI 212)) 57 0 4 6 (fun j => C.1 39 k (0 + j))).1 57 0 j = akF v j := by
    intro j hj
    unfold akF
    by_cases h0 : j = 0
    · subst h0
      rw [if_pos rfl, blk_out (by omega), wrI_s]
    · by_cases h4 : j < 4
      · rw [if_neg h0, if_pos h4, blk_out (by omega), wrI_o (by omega), blk_in (by omega) (by omega)]
      · rw [if_neg h0, if_neg h4, blk_in (by omega) (by omega), Nat.zero_add]
        exact h39 (j - 4) (by omega)
  have e2 := fcsC (c := 57) (i := 0) (n := 10) (S := blk (wrI (blk C 57 0 0 14 (fun _ => nI 0)) 57 0 0 (nI 212)) 57 0 4 6 (fun j => C.1 39 k (0 + j))) ho (by decide) (by decide)
  rw [crcN_congr hA] at e2
  refine ⟨blk (blk (wrI (blk C 57 0 0 14 (fun _ => nI 0)) 57 0 0 (nI 212)) 57 0 4 6 (fun j => C.1 39 k (0 + j))) 57 0 10 4 (bt (crcN (akF v) 10 ^^^ (-1))), fun j hj => ?_, fun j hj => ?_, ?_, ?_⟩
  rotate_left 3
  · unfold F_X11_beginAck
    refine e_gd hk (e_cl e1 (e_stA (j := 0) rfl (by decide) (by decide) (by decide) (w := nI 212) rfl ?_))
    rw [lnP_eq (okP_n (by decide) hk), show nI (kn 39) = nI 6 from rfl, show (0 : Int32) = nI 0 from rfl, show (4 : Int32) = nI 4 from rfl, cpP_n (c0 := 39) (c1 := 57) (sp := 0) (dp := 4) (okP_n (by decide) hk) ho (by decide) (by decide) (by decide) (by decide)]
    exact e_cl e2 rfl
  · rw [blk_out (by omega)]
    exact hA j hj
  · rw [blk_in (by omega) (by omega), Nat.add_sub_cancel_left]
  · repeat (first | exact fq.rf | (refine fq.tr ?_ (fq.wr (by decide))) | (refine fq.tr ?_ (fq.bk (by decide))) | (refine fq.tr ?_ (fq.wl (by decide))) | (refine fq.tr ?_ (fq.wR (by decide))))
theorem ackM {k : Nat} {M : Mm} {v : Int64} (hk : k < 9) (h259 : M.2.1 259 0 k = v) : ∃ M1, (∀ j, j < 10 → M1.1 277 0 j = akF v j) ∧ (∀ j, j < 4 → M1.1 277 0 (10 + j) = bt (crcN (akF v) 10 ^^^ (-1)) j) ∧ fq [277] M M1 ∧ F_X12_acknowledge (nI k) M = (cl (F_X12_goesOut (nI k) 277 0 0 14 M1) fun r4 S5 => some ((), S5)) := by
  have e2 := fcsM (c := 277) (i := 0) (at' := 0) (n := 10) (S := blk M 277 0 0 10 (akF v)) (by decide) (by decide) (by decide)
  have hA : ∀ j, j < 10 → (blk M 277 0 0 10 (akF v)).1 277 0 (0 + j) = akF v j := fun j hj => by rw [blk_in (by omega) (by omega), Nat.zero_add, Nat.sub_zero]
  rw [crcN_congr hA, Nat.zero_add] at e2
  have hv : ∀ j, 4 ≤ j → j < 10 → (Int64.toInt32 (v >>> (Int32.toInt64 (40 - (8 * (nI j - 4))) &&& 63))) &&& 255 = btL v (5 - (j - 4)) := by
    intro j h1 h2
    simp (disch := omega) only [lit, litL, pk_mul, pk_sub, nI_l]
    rw [show 40 - 8 * (j - 4) = 8 * (5 - (j - 4)) by omega]
    exact lsh_n (by omega) v
  refine ⟨blk (blk M 277 0 0 10 (akF v)) 277 0 10 4 (bt (crcN (akF v) 10 ^^^ (-1))), fun j hj => ?_, fun j hj => ?_, by repeat (first | exact fq.rf | (refine fq.tr ?_ (fq.wr (by decide))) | (refine fq.tr ?_ (fq.bk (by decide))) | (refine fq.tr ?_ (fq.wl (by decide))) | (refine fq.tr ?_ (fq.wR (by decide)))), ?_⟩
  · have := hA j hj
    rw [Nat.zero_add] at this
    rw [blk_out (by omega)]
    exact this
  · rw [blk_in (by omega) (by omega), Nat.add_sub_cancel_left]
  · unfold F_X12_acknowledge
    refine loopB (fun m x S => L_X12_acknowledge_2 (nI k) m x S) M 277 0 0 10 (akF v) (by decide) (fun m j hj => ?_) (fun m => ?_)
    · have st : ∀ x, x = akF v j → L_X12_acknowledge_53 (L_X12_acknowledge_2 (nI k) m) (nI k) (nI j) (nI j) x (blk M 277 0 0 j (akF v)) = L_X12_acknowledge_2 (nI k) m (nI (j + 1)) (blk M 277 0 0 (j + 1) (akF v)) := by
        intro x hx
        subst hx
        unfold L_X12_acknowledge_53
        refine e_stA rfl (by omega) (by decide) (by decide) rfl ?_
        rw [nI_1, ← blk_succ, Nat.zero_add]
      rw [L_X12_acknowledge_2]
      refine e_N (by first | (simp (disch := first | omega | assumption) only [wrI_s, wrI_o, wrI_r, wrL_1, wrL_r, wrL_s, wrL_o, blk_in, blk_out, blk_r, lit, litL, b00, b11, nI_l, lN_add, lN_mul, lN_sub, nI_add, pk_mul, pk_sub, pk_div, remN, Nat.add_sub_cancel, Nat.add_sub_cancel_left, Nat.zero_add, Nat.add_zero, nI_eq, nI_leI, nI_ltI, nI_m1, m1_lt, neg_lt, neg_le, neg_ge, neg_gt, neg_eq, not_true, not_false_iff]; done) | (simp (disch := first | omega | assumption) only [wrI_s, wrI_o, wrI_r, wrL_1, wrL_r, wrL_s, wrL_o, blk_in, blk_out, blk_r, lit, litL, b00, b11, nI_l, lN_add, lN_mul, lN_sub, nI_add, pk_mul, pk_sub, pk_div, remN, Nat.add_sub_cancel, Nat.add_sub_cancel_left, Nat.zero_add, Nat.add_zero, nI_eq, nI_leI, nI_ltI, nI_m1, m1_lt, neg_lt, neg_le, neg_ge, neg_gt, neg_eq, not_true, not_false_iff]; omega)) ?_
      by_cases h0 : j = 0
      · exact e_T (by first | (simp (disch := first | omega | assumption) only [h0, wrI_s, wrI_o, wrI_r, wrL_1, wrL_r, wrL_s, wrL_o, blk_in, blk_out, blk_r, lit, litL, b00, b11, nI_l, lN_add, lN_mul, lN_sub, nI_add, pk_mul, pk_sub, pk_div, remN, Nat.add_sub_cancel, Nat.add_sub_cancel_left, Nat.zero_add, Nat.add_zero, nI_eq, nI_leI, nI_ltI, nI_m1, m1_lt, neg_lt, neg_le, neg_ge, neg_gt, neg_eq, not_true, not_false_iff]; done) | (simp (disch := first | omega | assumption) only [h0, wrI_s, wrI_o, wrI_r, wrL_1, wrL_r, wrL_s, wrL_o, blk_in, blk_out, blk_r, lit, litL, b00, b11, nI_l, lN_add, lN_mul, lN_sub, nI_add, pk_mul, pk_sub, pk_div, remN, Nat.add_sub_cancel, Nat.add_sub_cancel_left, Nat.zero_add, Nat.add_zero, nI_eq, nI_leI, nI_ltI, nI_m1, m1_lt, neg_lt, neg_le, neg_ge, neg_gt, neg_eq, not_true, not_false_iff]; omega)) (st _ (by unfold akF; rw [if_pos h0]; rfl))
      · refine e_N (by first | (simp (disch := first | omega | assumption) only [wrI_s, wrI_o, wrI_r, wrL_1, wrL_r, wrL_s, wrL_o, blk_in, blk_out, blk_r, lit, litL, b00, b11, nI_l, lN_add, lN_mul, lN_sub, nI_add, pk_mul, pk_sub, pk_div, remN, Nat.add_sub_cancel, Nat.add_sub_cancel_left, Nat.zero_add, Nat.add_zero, nI_eq, nI_leI, nI_ltI, nI_m1, m1_lt, neg_lt, neg_le, neg_ge, neg_gt, neg_eq, not_true, not_false_iff]; done) | (simp (disch := first | omega | assumption) only [wrI_s, wrI_o, wrI_r, wrL_1, wrL_r, wrL_s, wrL_o, blk_in, blk_out, blk_r, lit, litL, b00, b11, nI_l, lN_add, lN_mul, lN_sub, nI_add, pk_mul, pk_sub, pk_div, remN, Nat.add_sub_cancel, Nat.add_sub_cancel_left, Nat.zero_add, Nat.add_zero, nI_eq, nI_leI, nI_ltI, nI_m1, m1_lt, neg_lt, neg_le, neg_ge, neg_gt, neg_eq, not_true, not_false_iff]; omega)) ?_
        by_cases h4 : j < 4
        · exact e_N (by first | (simp (disch := first | omega | assumption) only [wrI_s, wrI_o, wrI_r, wrL_1, wrL_r, wrL_s, wrL_o, blk_in, blk_out, blk_r, lit, litL, b00, b11, nI_l, lN_add, lN_mul, lN_sub, nI_add, pk_mul, pk_sub, pk_div, remN, Nat.add_sub_cancel, Nat.add_sub_cancel_left, Nat.zero_add, Nat.add_zero, nI_eq, nI_leI, nI_ltI, nI_m1, m1_lt, neg_lt, neg_le, neg_ge, neg_gt, neg_eq, not_true, not_false_iff]; done) | (simp (disch := first | omega | assumption) only [wrI_s, wrI_o, wrI_r, wrL_1, wrL_r, wrL_s, wrL_o, blk_in, blk_out, blk_r, lit, litL, b00, b11, nI_l, lN_add, lN_mul, lN_sub, nI_add, pk_mul, pk_sub, pk_div, remN, Nat.add_sub_cancel, Nat.add_sub_cancel_left, Nat.zero_add, Nat.add_zero, nI_eq, nI_leI, nI_ltI, nI_m1, m1_lt, neg_lt, neg_le, neg_ge, neg_gt, neg_eq, not_true, not_false_iff]; omega)) (st _ (by unfold akF; rw [if_neg h0, if_pos h4]; rfl))
        · refine e_T (by first | (simp (disch := first | omega | assumption) only [wrI_s, wrI_o, wrI_r, wrL_1, wrL_r, wrL_s, wrL_o, blk_in, blk_out, blk_r, lit, litL, b00, b11, nI_l, lN_add, lN_mul, lN_sub, nI_add, pk_mul, pk_sub, pk_div, remN, Nat.add_sub_cancel, Nat.add_sub_cancel_left, Nat.zero_add, Nat.add_zero, nI_eq, nI_leI, nI_ltI, nI_m1, m1_lt, neg_lt, neg_le, neg_ge, neg_gt, neg_eq, not_true, not_false_iff]; done) | (simp (disch := first | omega | assumption) only [wrI_s, wrI_o, wrI_r, wrL_1, wrL_r, wrL_s, wrL_o, blk_in, blk_out, blk_r, lit, litL, b00, b11, nI_l, lN_add, lN_mul, lN_sub, nI_add, pk_mul, pk_sub, pk_div, remN, Nat.add_sub_cancel, Nat.add_sub_cancel_left, Nat.zero_add, Nat.add_zero, nI_eq, nI_leI, nI_ltI, nI_m1, m1_lt, neg_lt, neg_le, neg_ge, neg_gt, neg_eq, not_true, not_false_iff]; omega)) (e_ldL (j := k) (v := v) rfl hk (by decide) (by decide) h259 (st _ ?_))
          unfold akF
          rw [if_neg h0, if_neg h4]
          exact hv j (by omega) hj
    · rw [L_X12_acknowledge_2]
      exact e_T (by first | (simp (disch := first | omega | assumption) only [wrI_s, wrI_o, wrI_r, wrL_1, wrL_r, wrL_s, wrL_o, blk_in, blk_out, blk_r, lit, litL, b00, b11, nI_l, lN_add, lN_mul, lN_sub, nI_add, pk_mul, pk_sub, pk_div, remN, Nat.add_sub_cancel, Nat.add_sub_cancel_left, Nat.zero_add, Nat.add_zero, nI_eq, nI_leI, nI_ltI, nI_m1, m1_lt, neg_lt, neg_le, neg_ge, neg_gt, neg_eq, not_true, not_false_iff]; done) | (simp (disch := first | omega | assumption) only [wrI_s, wrI_o, wrI_r, wrL_1, wrL_r, wrL_s, wrL_o, blk_in, blk_out, blk_r, lit, litL, b00, b11, nI_l, lN_add, lN_mul, lN_sub, nI_add, pk_mul, pk_sub, pk_div, remN, Nat.add_sub_cancel, Nat.add_sub_cancel_left, Nat.zero_add, Nat.add_zero, nI_eq, nI_leI, nI_ltI, nI_m1, m1_lt, neg_lt, neg_le, neg_ge, neg_gt, neg_eq, not_true, not_false_iff]; omega)) (e_cl e2 rfl)
abbrev l57 : List Nat := [57]
abbrev l277 : List Nat := [277]
theorem SS.fr57 {c s d w e p t g l : Nat} {C M C' M' : Mm} (h : SS c s d w e p t g l C M) (f : fq [57] C C') (g' : fq [277] M M') : SS c s d w e p t g l C' M' := by
  obtain ⟨hITape, hIDraw, hINois, hIPar, hISub, hIKey, hIRef, hISta, hILnk, hIBeg, hIQue, hIHnd, hICon, hIDue, hIWai, hISnd, hISlo, hISto, hIRng, hILiv, hIEnd, hIPut, hILat, hIInb, hICnt, hIAlq⟩ := h
  have key : ∀ C' M', fq l57 C C' → fq l277 M M' → SS c s d w e p t g l C' M' := fun C' M' fC gM => ⟨hITape.fr fC gM (by decide) (by decide), hIDraw.fr fC gM (by decide) (by decide), hINois.fr fC gM (by decide) (by decide), hIPar.fr fC gM (by decide) (by decide), hISub.fr fC gM (by decide) (by decide), hIKey.fr fC gM (by decide) (by decide), hIRef.fr fC gM (by decide) (by decide), hISta.fr fC gM (by decide) (by decide), hILnk.fr fC gM (by decide) (by decide), hIBeg.fr fC gM (by decide) (by decide), hIQue.fr fC gM (by decide) (by decide), hIHnd.fr fC gM (by decide) (by decide), hICon.fr fC gM (by decide) (by decide), hIDue.fr fC gM (by decide) (by decide), hIWai.fr fC gM (by decide) (by decide), hISnd.fr fC gM (by decide) (by decide), hISlo.fr fC gM (by decide) (by decide), hISto.fr fC gM (by decide) (by decide), hIRng.fr fC gM (by decide) (by decide), hILiv.fr fC gM (by decide) (by decide), hIEnd.fr fC gM (by decide) (by decide), hIPut.fr fC gM (by decide) (by decide), hILat.fr fC gM (by decide) (by decide), hIInb.fr fC gM (by decide) (by decide), hICnt.fr fC gM (by decide) (by decide), hIAlq.fr fC gM (by decide) (by decide)⟩
  exact key _ _ f g'
theorem sack {c s d w p t g l k : Nat} {C M : Mm} (h : SS c s d w s p t g l C M) (hc : c ≤ 512) (hk : k < 9) (hs : s < 2 ^ 28) (hg : g < 2 ^ 29) (hl : l < 2 ^ 31) (hd0 : C.1 94 k 0 = -nI 1 ∧ M.1 257 0 k = nI 0) (h254 : M.1 254 0 k = -nI 1) : ∃ C' M', F_X11_beginAck k C = some ((), C') ∧ F_X12_acknowledge (nI k) M = some ((), M') ∧ SS c s d w s p t (g + 1) (l + 1) C' M' ∧ C'.1 94 = C.1 94 ∧ M'.1 299 = M.1 299 ∧ C'.1 78 = C.1 78 := by
  have hh := h
  obtain ⟨hITape, hIDraw, hINois, hIPar, hISub, hIKey, hIRef, hISta, hILnk, hIBeg, hIQue, hIHnd, hICon, hIDue, hIWai, hISnd, hISlo, hISto, hIRng, hILiv, hIEnd, hIPut, hILat, hIInb, hICnt, hIAlq⟩ := hh
  obtain ⟨C1, a1, a2, a3, a4⟩ := ackC (C := C) (v := M.2.1 259 0 k) hk (hIDue k hk).1
  obtain ⟨M1, b1, b2, b3, b4⟩ := ackM (M := M) (v := M.2.1 259 0 k) hk rfl
  have h1 := h.fr57 a3 b3
  have h88 := (hIRef.1 k hk).2.2.2.1
  obtain ⟨C2, T, C', M', q1, q2, q3, q4, q5, q6, -⟩ := send h1 (k := k) (cv := 57) (i := 0) (cv2 := 277) (at' := 0) (n := 14) (ak := 1) hc hk hs hg hl (by rw [a3.1 94 (nc (by decide)), b3.1 257 (nc (by decide))]; exact hd0) (by rw [b3.1 254 (nc (by decide))]; exact h254) (by decide) (by decide) (by decide) (by decide) (by decide) (by decide) (by decide) (by decide) (by decide) (by decide) (fun j hj => by
    rw [Nat.zero_add]
    by_cases h10 : j < 10
    · rw [a1 j h10, b1 j h10]
      exact ⟨akF_B _ _, rfl⟩
    · have u1 := a2 (j - 10) (by omega)
      have u2 := b2 (j - 10) (by omega)
      rw [show 10 + (j - 10) = j by omega] at u1 u2
      rw [u1, u2]
      exact ⟨bt_B _ _, rfl⟩) (Or.inl ⟨rfl, rfl, by rw [b1 0 (by decide)]; rfl⟩)
  refine ⟨C', M', ?_, ?_, q4, by rw [q5.1 94 (nc (by decide)), a3.1 94 (nc (by decide))], by rw [q6.1 299 (nc (by decide)), b3.1 299 (nc (by decide))], by rw [q5.1 78 (nc (by decide)), a3.1 78 (nc (by decide))]⟩
  · rw [a4, q2]
    exact e_gf (by rw [a3.1 88 (nc (by decide))]; exact h88) (e_cl q1 rfl)
  · rw [b4]
    exact e_cl q3 rfl
