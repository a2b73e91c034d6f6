/-! KEYS: the MIC, TRIED, the key by it, both sides -/
abbrev mcM : List Nat := [201, 202, 203, 204, 205, 206, 289, 290]
abbrev mcC : List Nat := [46, 49, 50, 51]
theorem micT {s R n sd m cK iK cM aM : Nat} {b : Nat → Nat} {C M : Mm} (hN : NB s R n sd b C M) (hm : m ≤ 33) (hn : 32 + m + 16 ≤ n) (hoC : okP false cK iK = true) (hcC : cK ∉ mcC) (hkC : 16 ≤ kn cK) (hnC : kn cK < 50000) (hoM : okP true cM 0 = true) (hcM : cM ∉ 204 :: 205 :: 206 :: hL) (hkM : aM + 16 ≤ kn cM) (hnM : kn cM < 50000) (hk : ∀ j, j < 16 → isB (rdI M cM 0 (aM + j)) ∧ rdI C cK iK j = rdI M cM 0 (aM + j)) : ∃ z C' M', z ≤ 1 ∧ F_X11_hasRightMic 27 R (nI (32 + m)) cK iK C = some (nI z, C') ∧ F_X12_isMac cM 0 (nI aM) 278 0 32 (nI m) M = some (nI z, M') ∧ fq mcC C C' ∧ fq mcM M M' := by
  obtain ⟨g1, g2, g3, g4, g5, g6, g7, g8, g9, g10, g11, g12, g13, g14⟩ := hN
  obtain ⟨C', u1, u2, u3⟩ := hmacC (c := cK) (i := iK) (kl := 16) (c3 := 27) (i3 := R) (at' := 32) (len := m) (S := C) hoC hcC hkC hnC (okP_n (by decide) g1) (by decide) (show 32 + m ≤ 300 by omega) (by decide) (by omega)
  obtain ⟨M', v1, v2, v3⟩ := hmacM (c1 := cM) (i1 := 0) (a1 := aM) (c3 := 278) (i3 := 0) (a3 := 32) (len := m) (S := M) hoM hcM hkM hnM (fun k hk2 => (hk k hk2).1) (by decide) (by decide) (show 32 + m ≤ 300 by omega) (by decide) (fun k hk2 => by
    show isB (M.1 278 0 (32 + k))
    rw [g12 (32 + k) (by omega)]
    exact isB_n (g5 _)) (by omega)
  have dg : ∀ j, j < 16 → C'.1 46 0 j = M'.1 204 0 j := fun j hj => by
    rw [u3 j (by omega), v3 j (by omega)]
    refine hmac_congr (fun k hk2 => (hk k hk2).2) (fun k hk2 => ?_) j (by omega)
    show C.1 27 R (32 + k) = M.1 278 0 (32 + k)
    rw [g10 _ (by omega), g12 _ (by omega)]
  have fC := u2.q
  have gM : fq mcM M M' := v2.q.up (by decide)
  have sm := samC (c1 := 27) (i1 := R) (a1 := 32 + m) (c2 := 46) (i2 := 0) (a2 := 0) (n := 16) (S := C') (okP_n (by decide) g1) (show 32 + m + 16 ≤ 300 by omega) (by decide) (by decide) (by decide) (by decide)
  have iff1 : (∀ k, k < 16 → rdI C' 27 R (32 + m + k) = rdI C' 46 0 (0 + k)) ↔ ∀ k, k < 16 → nI (b (32 + m + k)) = M'.1 204 0 k := by
    have one : ∀ k, k < 16 → (rdI C' 27 R (32 + m + k) = rdI C' 46 0 (0 + k) ↔ nI (b (32 + m + k)) = M'.1 204 0 k) := fun k hk2 => by
      have e1 : rdI C' 27 R (32 + m + k) = nI (b (32 + m + k)) := by
        show C'.1 27 R (32 + m + k) = _
        rw [fC.1 27 (nc (by decide))]
        exact g10 _ (by omega)
      have e2 : rdI C' 46 0 (0 + k) = M'.1 204 0 k := by
        show C'.1 46 0 (0 + k) = _
        rw [Nat.zero_add]
        exact dg k hk2
      rw [e1, e2]
    exact ⟨fun z k hk2 => (one k hk2).mp (z k hk2), fun z k hk2 => (one k hk2).mpr (z k hk2)⟩
  obtain ⟨q, l1, l0⟩ := flagL (fun q v w T => L_X12_isMac_17 278 0 32 (nI m) q v w T) M' 16 (by decide) (fun k => nI (b (32 + m + k)) = M'.1 204 0 k) (fun q k hk2 hP => by
    rw [L_X12_isMac_17]
    unfold L_X12_isMac_54
    rw [nI_1]
    exact e_N (by first | (simp (disch := first | omega | assumption) only [wrI_s, wrI_o, wrI_r, wrL_1, wrL_r, wrL_s, wrL_o, blk_in, blk_out, blk_r, lit, litL, b00, b11, nI_l, lN_add, lN_mul, lN_sub, nI_add, pk_mul, pk_sub, pk_div, remN, Nat.add_sub_cancel, Nat.add_sub_cancel_left, Nat.zero_add, Nat.add_zero, nI_eq, nI_leI, nI_ltI, nI_m1, m1_lt, neg_lt, neg_le, neg_ge, neg_gt, neg_eq, not_true, not_false_iff]; done) | (simp (disch := first | omega | assumption) only [wrI_s, wrI_o, wrI_r, wrL_1, wrL_r, wrL_s, wrL_o, blk_in, blk_out, blk_r, lit, litL, b00, b11, nI_l, lN_add, lN_mul, lN_sub, nI_add, pk_mul, pk_sub, pk_div, remN, Nat.add_sub_cancel, Nat.add_sub_cancel_left, Nat.zero_add, Nat.add_zero, nI_eq, nI_leI, nI_ltI, nI_m1, m1_lt, neg_lt, neg_le, neg_ge, neg_gt, neg_eq, not_true, not_false_iff]; omega)) (e_N (by decide) (e_ldP (j := 32 + m + k) (v := nI (b (32 + m + k))) (by first | (simp (disch := first | omega | assumption) only [wrI_s, wrI_o, wrI_r, wrL_1, wrL_r, wrL_s, wrL_o, blk_in, blk_out, blk_r, lit, litL, b00, b11, nI_l, lN_add, lN_mul, lN_sub, nI_add, pk_mul, pk_sub, pk_div, remN, Nat.add_sub_cancel, Nat.add_sub_cancel_left, Nat.zero_add, Nat.add_zero]; done) | (simp (disch := first | omega | assumption) only [wrI_s, wrI_o, wrI_r, wrL_1, wrL_r, wrL_s, wrL_o, blk_in, blk_out, blk_r, lit, litL, b00, b11, nI_l, lN_add, lN_mul, lN_sub, nI_add, pk_mul, pk_sub, pk_div, remN, Nat.add_sub_cancel, Nat.add_sub_cancel_left, Nat.zero_add, Nat.add_zero]; rfl) | rfl) (by decide) (show 32 + m + k < 300 by omega) (by decide) (by show M'.1 278 0 (32 + m + k) = _; rw [gM.1 278 (nc (by decide))]; exact g12 _ (by omega)) (e_ldA rfl (by omega) (by decide) (by decide) rfl (e_T hP rfl))))) (fun q k hk2 hP => by
    rw [L_X12_isMac_17]
    unfold L_X12_isMac_53 L_X12_isMac_54
    rw [nI_1]
    exact e_N (by first | (simp (disch := first | omega | assumption) only [wrI_s, wrI_o, wrI_r, wrL_1, wrL_r, wrL_s, wrL_o, blk_in, blk_out, blk_r, lit, litL, b00, b11, nI_l, lN_add, lN_mul, lN_sub, nI_add, pk_mul, pk_sub, pk_div, remN, Nat.add_sub_cancel, Nat.add_sub_cancel_left, Nat.zero_add, Nat.add_zero, nI_eq, nI_leI, nI_ltI, nI_m1, m1_lt, neg_lt, neg_le, neg_ge, neg_gt, neg_eq, not_true, not_false_iff]; done) | (simp (disch := first | omega | assumption) only [wrI_s, wrI_o, wrI_r, wrL_1, wrL_r, wrL_s, wrL_o, blk_in, blk_out, blk_r, lit, litL, b00, b11, nI_l, lN_add, lN_mul, lN_sub, nI_add, pk_mul, pk_sub, pk_div, remN, Nat.add_sub_cancel, Nat.add_sub_cancel_left, Nat.zero_add, Nat.add_zero, nI_eq, nI_leI, nI_ltI, nI_m1, m1_lt, neg_lt, neg_le, neg_ge, neg_gt, neg_eq, not_true, not_false_iff]; omega)) (e_N (by decide) (e_ldP (j := 32 + m + k) (v := nI (b (32 + m + k))) (by first | (simp (disch := first | omega | assumption) only [wrI_s, wrI_o, wrI_r, wrL_1, wrL_r, wrL_s, wrL_o, blk_in, blk_out, blk_r, lit, litL, b00, b11, nI_l, lN_add, lN_mul, lN_sub, nI_add, pk_mul, pk_sub, pk_div, remN, Nat.add_sub_cancel, Nat.add_sub_cancel_left, Nat.zero_add, Nat.add_zero]; done) | (simp (disch := first | omega | assumption) only [wrI_s, wrI_o, wrI_r, wrL_1, wrL_r, wrL_s, wrL_o, blk_in, blk_out, blk_r, lit, litL, b00, b11, nI_l, lN_add, lN_mul, lN_sub, nI_add, pk_mul, pk_sub, pk_div, remN, Nat.add_sub_cancel, Nat.add_sub_cancel_left, Nat.zero_add, Nat.add_zero]; rfl) | rfl) (by decide) (show 32 + m + k < 300 by omega) (by decide) (by show M'.1 278 0 (32 + m + k) = _; rw [gM.1 278 (nc (by decide))]; exact g12 _ (by omega)) (e_ldA rfl (by omega) (by decide) (by decide) rfl (e_N hP rfl))))) (fun q k hk2 => by
    rw [L_X12_isMac_17]
    unfold L_X12_isMac_53 L_X12_isMac_54
    rw [nI_1]
    exact e_N (by first | (simp (disch := first | omega | assumption) only [wrI_s, wrI_o, wrI_r, wrL_1, wrL_r, wrL_s, wrL_o, blk_in, blk_out, blk_r, lit, litL, b00, b11, nI_l, lN_add, lN_mul, lN_sub, nI_add, pk_mul, pk_sub, pk_div, remN, Nat.add_sub_cancel, Nat.add_sub_cancel_left, Nat.zero_add, Nat.add_zero, nI_eq, nI_leI, nI_ltI, nI_m1, m1_lt, neg_lt, neg_le, neg_ge, neg_gt, neg_eq, not_true, not_false_iff]; done) | (simp (disch := first | omega | assumption) only [wrI_s, wrI_o, wrI_r, wrL_1, wrL_r, wrL_s, wrL_o, blk_in, blk_out, blk_r, lit, litL, b00, b11, nI_l, lN_add, lN_mul, lN_sub, nI_add, pk_mul, pk_sub, pk_div, remN, Nat.add_sub_cancel, Nat.add_sub_cancel_left, Nat.zero_add, Nat.add_zero, nI_eq, nI_leI, nI_ltI, nI_m1, m1_lt, neg_lt, neg_le, neg_ge, neg_gt, neg_eq, not_true, not_false_iff]; omega)) (e_T rfl rfl))
  have preC : ∀ X, (cl (F_X2_sameBytes 27 R (nI (32 + m)) 46 0 (nI 0) (nI 16) C') fun r4 S5 => gd (r4 &&& 1 = r4) (some (r4, S5))) = X → F_X11_hasRightMic 27 R (nI (32 + m)) cK iK C = X := by
    intro X hX
    unfold F_X11_hasRightMic
    rw [show nI (32 + m) - 32 = nI m by rw [show (32 : Int32) = nI 32 from rfl, pk_sub (by omega), show 32 + m - 32 = m by omega]]
    exact e_cl u1 hX
  have preM : ∀ X, L_X12_isMac_17 278 0 32 (nI m) fu 1 0 M' = X → F_X12_isMac cM 0 (nI aM) 278 0 32 (nI m) M = X := by
    intro X hX
    unfold F_X12_isMac
    exact e_cl v1 hX
  by_cases hs : ∀ k, k < 16 → nI (b (32 + m + k)) = M'.1 204 0 k
  · refine ⟨1, C', M', by decide, preC _ (e_cl (sm.1 (iff1.mpr hs)) (e_gd (by decide) rfl)), preM _ ((l1 hs).trans ?_), fC, gM⟩
    rw [L_X12_isMac_17]
    exact e_T (by decide) (e_gd (by decide) rfl)
  · refine ⟨0, C', M', by decide, preC _ (e_cl (sm.2 (fun z => hs (iff1.mp z))) (e_gd (by decide) rfl)), preM _ ((l0 hs).trans ?_), fC, gM⟩
    rw [L_X12_isMac_17]
    exact e_T (by decide) (e_gd (by decide) rfl)
theorem ptk_congr {sec sec' ap ap' own own' : Nat → Int32} {st : Int32} (h1 : ∀ k, k < 32 → sec k = sec' k) (h2 : ∀ k, k < 32 → ap k = ap' k) (h3 : ∀ k, k < 32 → own k = own' k) (j : Nat) : ptkF sec st ap own j = ptkF sec' st ap' own' j := by
  unfold ptkF
  refine hmac_congr h1 (fun k hk => ?_) _ (Nat.mod_lt _ (by decide))
  unfold seedF
  by_cases c1 : k < 22
  · rw [if_pos c1, if_pos c1]
  · rw [if_neg c1, if_neg c1]
    by_cases c2 : k = 22
    · rw [if_pos c2, if_pos c2]
    · rw [if_neg c2, if_neg c2]
      by_cases c3 : k < 29
      · rw [if_pos c3, if_pos c3]
      · rw [if_neg c3, if_neg c3]
        by_cases c4 : k < 35
        · rw [if_pos c4, if_pos c4]
        · rw [if_neg c4, if_neg c4]
          by_cases c5 : k < 67
          · rw [if_pos c5, if_pos c5, h2 _ (by omega)]
          · rw [if_neg c5, if_neg c5]
            by_cases c6 : k < 99
            · rw [if_pos c6, if_pos c6, h3 _ (by omega)]
            · rw [if_neg c6, if_neg c6]
abbrev kpC : List Nat := [22, 64]
abbrev kpM : List Nat := [223, 224]
/-- TRIED is kept -/
theorem kepT {d w e t i : Nat} {C M : Mm} (h : TT d w e t C M) (hi : i < 18) (hp : ∀ j, j < 48 → isB (M.1 233 0 j) ∧ C.1 47 0 j = M.1 233 0 j) : ∃ C' M', F_X4_keepTried i 47 0 C = some ((), C') ∧ F_X12_keepTried (nI i) M = some ((), M') ∧ TT d w e t C' M' ∧ fq kpC C C' ∧ fq kpM M M' := by
  have eM : F_X12_keepTried (nI i) M = some ((), wrI (blk M 223 0 (48 * i) 48 (M.1 233 0)) 224 0 i (nI 1)) := by
    unfold F_X12_keepTried
    refine loopB (fun m v S => L_X12_keepTried_2 (nI i) m v S) M 223 0 (48 * i) 48 (M.1 233 0) (by decide) (fun m j hj => ?_) (fun m => ?_)
    · rw [L_X12_keepTried_2]
      refine e_N (by first | (simp (disch := first | omega | assumption) only [wrI_s, wrI_o, wrI_r, wrL_1, wrL_r, wrL_s, wrL_o, blk_in, blk_out, blk_r, lit, litL, b00, b11, nI_l, lN_add, lN_mul, lN_sub, nI_add, pk_mul, pk_sub, pk_div, remN, Nat.add_sub_cancel, Nat.add_sub_cancel_left, Nat.zero_add, Nat.add_zero, nI_eq, nI_leI, nI_ltI, nI_m1, m1_lt, neg_lt, neg_le, neg_ge, neg_gt, neg_eq, not_true, not_false_iff]; done) | (simp (disch := first | omega | assumption) only [wrI_s, wrI_o, wrI_r, wrL_1, wrL_r, wrL_s, wrL_o, blk_in, blk_out, blk_r, lit, litL, b00, b11, nI_l, lN_add, lN_mul, lN_sub, nI_add, pk_mul, pk_sub, pk_div, remN, Nat.add_sub_cancel, Nat.add_sub_cancel_left, Nat.zero_add, Nat.add_zero, nI_eq, nI_leI, nI_ltI, nI_m1, m1_lt, neg_lt, neg_le, neg_ge, neg_gt, neg_eq, not_true, not_false_iff]; omega)) (e_ldA (v := M.1 233 0 j) rfl hj (by decide) (by decide) (by rw [blk_ne (by decide)]) (e_stA (j := 48 * i + j) (by first | (simp (disch := first | omega | assumption) only [wrI_s, wrI_o, wrI_r, wrL_1, wrL_r, wrL_s, wrL_o, blk_in, blk_out, blk_r, lit, litL, b00, b11, nI_l, lN_add, lN_mul, lN_sub, nI_add, pk_mul, pk_sub, pk_div, remN, Nat.add_sub_cancel, Nat.add_sub_cancel_left, Nat.zero_add, Nat.add_zero]; done) | (simp (disch := first | omega | assumption) only [wrI_s, wrI_o, wrI_r, wrL_1, wrL_r, wrL_s, wrL_o, blk_in, blk_out, blk_r, lit, litL, b00, b11, nI_l, lN_add, lN_mul, lN_sub, nI_add, pk_mul, pk_sub, pk_div, remN, Nat.add_sub_cancel, Nat.add_sub_cancel_left, Nat.zero_add, Nat.add_zero]; rfl) | rfl) (by omega) (by decide) (by decide) rfl ?_))
      rw [blk_succ (f := M.1 233 0), nI_1]
    · rw [L_X12_keepTried_2]
      exact e_T (by decide) (e_stA rfl hi (by decide) (by decide) (w := nI 1) (by decide) rfl)
  have eC : F_X4_keepTried i 47 0 C = some ((), wrI (blk C 22 i 0 48 (fun k => rdI C 47 0 (0 + k))) 64 i 0 (nI 1)) := by
    unfold F_X4_keepTried
    rw [show (0 : Int32) = nI 0 from rfl, show (48 : Int32) = nI 48 from rfl]
    refine e_gd hi ?_
    rw [cpP_n (c0 := 47) (c1 := 22) (sp := 0) (dp := 0) (n := 48) (by decide) (okW_n (by decide) hi) (by decide) (by decide) (by decide) (by decide)]
    exact e_pf (w := nI 1) rfl rfl
  have fC : fq kpC C (wrI (blk C 22 i 0 48 (fun k => rdI C 47 0 (0 + k))) 64 i 0 (nI 1)) := by repeat (first | exact fq.rf | (refine fq.tr ?_ (fq.wr (by decide))) | (refine fq.tr ?_ (fq.bk (by decide))) | (refine fq.tr ?_ (fq.wl (by decide))) | (refine fq.tr ?_ (fq.wR (by decide))))
  have gM : fq kpM M (wrI (blk M 223 0 (48 * i) 48 (M.1 233 0)) 224 0 i (nI 1)) := by repeat (first | exact fq.rf | (refine fq.tr ?_ (fq.wr (by decide))) | (refine fq.tr ?_ (fq.bk (by decide))) | (refine fq.tr ?_ (fq.wl (by decide))) | (refine fq.tr ?_ (fq.wR (by decide))))
  refine ⟨_, _, eC, eM, ?_, fC, gM⟩
  obtain ⟨hIDraw, hIPar, hISub, hIKey, hIRef, hISta, hILnk, hIBeg, hIQue, hIHnd, hICon, hIDue, hIWai, hISnd, hILat, hIInb⟩ := h
  have key : ∀ C' M', fq kpC C C' → fq kpM M M' → ILnk C' M' → TT d w e t C' M' := fun C' M' fC gM tILnk => ⟨hIDraw.fr fC gM (by decide) (by decide), hIPar.fr fC gM (by decide) (by decide), hISub.fr fC gM (by decide) (by decide), hIKey.fr fC gM (by decide) (by decide), hIRef.fr fC gM (by decide) (by decide), hISta.fr fC gM (by decide) (by decide), tILnk, hIBeg.fr fC gM (by decide) (by decide), hIQue.fr fC gM (by decide) (by decide), hIHnd.fr fC gM (by decide) (by decide), hICon.fr fC gM (by decide) (by decide), hIDue.fr fC gM (by decide) (by decide), hIWai.fr fC gM (by decide) (by decide), hISnd.z fC gM (by decide) (by decide), hILat.fr fC gM (by decide) (by decide), hIInb.fr fC gM (by decide) (by decide)⟩
  refine key _ _ fC gM ?_
  intro i' hi'
  obtain ⟨a1, ⟨s1, b1, b2, b3⟩, c1, c2, c3⟩ := hILnk i' hi'
  rw [fC.1 62 (nc (by decide)), fC.1 24 (nc (by decide)), fC.1 23 (nc (by decide)), fC.2.1 65 (nc (by decide)), fC.2.1 66 (nc (by decide)), gM.1 222 (nc (by decide)), gM.2.1 226 (nc (by decide)), gM.2.1 227 (nc (by decide)), gM.1 221 (nc (by decide)), gM.1 225 (nc (by decide))]
  refine ⟨a1, ?_, fun j hj => ?_, c2, c3⟩
  · by_cases hii : i' = i
    · rw [hii]
      exact ⟨1, by decide, wrI_s, wrI_s⟩
    · exact ⟨s1, b1, by rw [wrI_o (by omega), blk_ne (by decide)]; exact b2, by rw [wrI_o (by omega), blk_ne (by decide)]; exact b3⟩
  · rw [wrI_ne (by decide), wrI_ne (by decide)]
    by_cases hii : i' = i
    · rw [hii, blk_in (by omega) (by omega), blk_in (by omega) (by omega), Nat.add_sub_cancel_left, Nat.sub_zero, Nat.zero_add]
      exact hp j hj
    · rw [blk_out (by omega), blk_out (by omega)]
      exact c1 j hj
abbrev kbC : List Nat := [24, 62, 65, 66, 67]
abbrev kbMa : List Nat := [219, 221, 222, 226, 227, 228]
abbrev kbMs : List Nat := [218, 221, 222, 226, 227, 228]
def kbF (C : Mm) (i : Nat) : Mm := wrI (wrL (wrL (blk (wrI C 62 i 0 (nI 4)) 24 i 0 16 (fun k => C.1 22 i (32 + k))) 65 i 0 (lN 0)) 66 i 0 (lN 1)) 67 i 0 (nI 0)
def kbG (M : Mm) (i : Nat) : Mm := wrI (wrL (wrL (wrI (blk M 221 0 (16 * i) 16 (fun k => M.1 223 0 (48 * i + 32 + k))) 222 0 i (nI 1)) 226 0 i (lN 0)) 227 0 i (lN 1)) 228 0 i (nI 0)
theorem kbE {i : Nat} {C M : Mm} (hi : i < 18) : F_X4_keyByTried i C = some ((), kbF C i) ∧ F_X12_keyBy (nI i) M = some ((), kbG M i) := by
  constructor
  · unfold F_X4_keyByTried kbF
    refine e_gd hi (e_pf (w := nI 4) rfl ?_)
    rw [show (32 : Int32) = nI 32 from rfl, show (0 : Int32) = nI 0 from rfl, show (16 : Int32) = nI 16 from rfl, cpP_n (c0 := 22) (c1 := 24) (sp := 32) (dp := 0) (n := 16) (okP_n (by decide) hi) (okW_n (by decide) hi) (by decide) (by decide) (by decide) (by decide)]
    have e : (fun k => rdI (wrI C 62 i 0 (nI 4)) 22 i (32 + k)) = fun k => C.1 22 i (32 + k) := by
      funext k
      show (wrI C 62 i 0 (nI 4)).1 22 i (32 + k) = _
      rw [wrI_ne (by decide)]
    rw [e]
    exact e_pl (w := lN 0) rfl (e_pl (w := lN 1) rfl (e_pf (w := nI 0) rfl rfl))
  · unfold F_X12_keyBy kbG
    refine loopB (fun m v S => L_X12_keyBy_2 (nI i) m v S) M 221 0 (16 * i) 16 (fun k => M.1 223 0 (48 * i + 32 + k)) (by decide) (fun m j hj => ?_) (fun m => ?_)
    · rw [L_X12_keyBy_2]
      refine e_N (by first | (simp (disch := first | omega | assumption) only [wrI_s, wrI_o, wrI_r, wrL_1, wrL_r, wrL_s, wrL_o, blk_in, blk_out, blk_r, lit, litL, b00, b11, nI_l, lN_add, lN_mul, lN_sub, nI_add, pk_mul, pk_sub, pk_div, remN, Nat.add_sub_cancel, Nat.add_sub_cancel_left, Nat.zero_add, Nat.add_zero, nI_eq, nI_leI, nI_ltI, nI_m1, m1_lt, neg_lt, neg_le, neg_ge, neg_gt, neg_eq, not_true, not_false_iff]; done) | (simp (disch := first | omega | assumption) only [wrI_s, wrI_o, wrI_r, wrL_1, wrL_r, wrL_s, wrL_o, blk_in, blk_out, blk_r, lit, litL, b00, b11, nI_l, lN_add, lN_mul, lN_sub, nI_add, pk_mul, pk_sub, pk_div, remN, Nat.add_sub_cancel, Nat.add_sub_cancel_left, Nat.zero_add, Nat.add_zero, nI_eq, nI_leI, nI_ltI, nI_m1, m1_lt, neg_lt, neg_le, neg_ge, neg_gt, neg_eq, not_true, not_false_iff]; omega)) (e_ldA (j := 48 * i + 32 + j) (v := M.1 223 0 (48 * i + 32 + j)) (by first | (simp (disch := first | omega | assumption) only [wrI_s, wrI_o, wrI_r, wrL_1, wrL_r, wrL_s, wrL_o, blk_in, blk_out, blk_r, lit, litL, b00, b11, nI_l, lN_add, lN_mul, lN_sub, nI_add, pk_mul, pk_sub, pk_div, remN, Nat.add_sub_cancel, Nat.add_sub_cancel_left, Nat.zero_add, Nat.add_zero]; done) | (simp (disch := first | omega | assumption) only [wrI_s, wrI_o, wrI_r, wrL_1, wrL_r, wrL_s, wrL_o, blk_in, blk_out, blk_r, lit, litL, b00, b11, nI_l, lN_add, lN_mul, lN_sub, nI_add, pk_mul, pk_sub, pk_div, remN, Nat.add_sub_cancel, Nat.add_sub_cancel_left, Nat.zero_add, Nat.add_zero]; rfl) | rfl) (by omega) (by decide) (by decide) (by rw [blk_ne (by decide)]) (e_stA (j := 16 * i + j) (by first | (simp (disch := first | omega | assumption) only [wrI_s, wrI_o, wrI_r, wrL_1, wrL_r, wrL_s, wrL_o, blk_in, blk_out, blk_r, lit, litL, b00, b11, nI_l, lN_add, lN_mul, lN_sub, nI_add, pk_mul, pk_sub, pk_div, remN, Nat.add_sub_cancel, Nat.add_sub_cancel_left, Nat.zero_add, Nat.add_zero]; done) | (simp (disch := first | omega | assumption) only [wrI_s, wrI_o, wrI_r, wrL_1, wrL_r, wrL_s, wrL_o, blk_in, blk_out, blk_r, lit, litL, b00, b11, nI_l, lN_add, lN_mul, lN_sub, nI_add, pk_mul, pk_sub, pk_div, remN, Nat.add_sub_cancel, Nat.add_sub_cancel_left, Nat.zero_add, Nat.add_zero]; rfl) | rfl) (by omega) (by decide) (by decide) rfl ?_))
      rw [blk_succ (f := fun k => M.1 223 0 (48 * i + 32 + k)), nI_1]
    · rw [L_X12_keyBy_2]
      exact e_T (by decide) (e_stA rfl hi (by decide) (by decide) (w := nI 1) (by decide) (e_stL rfl hi (by decide) (by decide) (w := lN 0) rfl (e_stL rfl hi (by decide) (by decide) (w := lN 1) rfl (e_stA rfl hi (by decide) (by decide) (w := nI 0) (by decide) rfl))))
theorem kbI {C M : Mm} {i : Nat} (hi : i < 18) (h1 : ILnk C M) (h2 : IBeg C M) : ILnk (kbF C i) (kbG M i) ∧ IBeg (kbF C i) (kbG M i) := by
  constructor
  · intro i' hi'
    obtain ⟨⟨s', a1, a2, a3, a4, a5⟩, ⟨s1, b1, b2, b3⟩, c1, c2, c3⟩ := h1 i' hi'
    have f62 : (kbF C i).1 62 i' 0 = if i' = i then nI 4 else C.1 62 i' 0 := by
      show (blk (wrI C 62 i 0 (nI 4)) 24 i 0 16 (fun k => C.1 22 i (32 + k))).1 62 i' 0 = _
      rw [blk_ne (by decide)]
      by_cases hii : i' = i
      · rw [hii, wrI_s, if_pos rfl]
      · rw [wrI_o (by omega), if_neg hii]
    have g222 : (kbG M i).1 222 0 i' = if i' = i then nI 1 else M.1 222 0 i' := by
      show (wrI (blk M 221 0 (16 * i) 16 (fun k => M.1 223 0 (48 * i + 32 + k))) 222 0 i (nI 1)).1 222 0 i' = _
      by_cases hii : i' = i
      · rw [hii, wrI_s, if_pos rfl]
      · rw [wrI_o (by omega), blk_ne (by decide), if_neg hii]
    have f65 : (kbF C i).2.1 65 i' 0 = if i' = i then lN 0 else C.2.1 65 i' 0 := by
      show (wrL (wrL (blk (wrI C 62 i 0 (nI 4)) 24 i 0 16 (fun k => C.1 22 i (32 + k))) 65 i 0 (lN 0)) 66 i 0 (lN 1)).2.1 65 i' 0 = _
      rw [wrL_o (by omega)]
      by_cases hii : i' = i
      · rw [hii, if_pos rfl]; exact if_pos ⟨rfl, rfl, rfl⟩
      · rw [wrL_o (by omega), if_neg hii]; rfl
    have f66 : (kbF C i).2.1 66 i' 0 = if i' = i then lN 1 else C.2.1 66 i' 0 := by
      show (wrL (wrL (blk (wrI C 62 i 0 (nI 4)) 24 i 0 16 (fun k => C.1 22 i (32 + k))) 65 i 0 (lN 0)) 66 i 0 (lN 1)).2.1 66 i' 0 = _
      by_cases hii : i' = i
      · rw [hii, if_pos rfl]; exact if_pos ⟨rfl, rfl, rfl⟩
      · rw [wrL_o (by omega), wrL_o (by omega), if_neg hii]; rfl
    have g226 : (kbG M i).2.1 226 0 i' = if i' = i then lN 0 else M.2.1 226 0 i' := by
      show (wrL (wrL (wrI (blk M 221 0 (16 * i) 16 (fun k => M.1 223 0 (48 * i + 32 + k))) 222 0 i (nI 1)) 226 0 i (lN 0)) 227 0 i (lN 1)).2.1 226 0 i' = _
      rw [wrL_o (by omega)]
      by_cases hii : i' = i
      · rw [hii, if_pos rfl]; exact if_pos ⟨rfl, rfl, rfl⟩
      · rw [wrL_o (by omega), if_neg hii]; rfl
    have g227 : (kbG M i).2.1 227 0 i' = if i' = i then lN 1 else M.2.1 227 0 i' := by
      show (wrL (wrL (wrI (blk M 221 0 (16 * i) 16 (fun k => M.1 223 0 (48 * i + 32 + k))) 222 0 i (nI 1)) 226 0 i (lN 0)) 227 0 i (lN 1)).2.1 227 0 i' = _
      by_cases hii : i' = i
      · rw [hii, if_pos rfl]; exact if_pos ⟨rfl, rfl, rfl⟩
      · rw [wrL_o (by omega), wrL_o (by omega), if_neg hii]; rfl
    have fq1 : fq kbC C (kbF C i) := by unfold kbF; repeat (first | exact fq.rf | (refine fq.tr ?_ (fq.wr (by decide))) | (refine fq.tr ?_ (fq.bk (by decide))) | (refine fq.tr ?_ (fq.wl (by decide))) | (refine fq.tr ?_ (fq.wR (by decide))))
    have gq1 : fq [221, 222, 226, 227, 228] M (kbG M i) := by unfold kbG; repeat (first | exact fq.rf | (refine fq.tr ?_ (fq.wr (by decide))) | (refine fq.tr ?_ (fq.bk (by decide))) | (refine fq.tr ?_ (fq.wl (by decide))) | (refine fq.tr ?_ (fq.wR (by decide))))
    rw [f62, g222, f65, f66, g226, g227, fq1.1 64 (nc (by decide)), fq1.1 22 (nc (by decide)), fq1.1 23 (nc (by decide)), gq1.1 224 (nc (by decide)), gq1.1 223 (nc (by decide)), gq1.1 225 (nc (by decide))]
    refine ⟨?_, ⟨s1, b1, b2, b3⟩, c1, fun j hj => ?_, c3⟩
    · by_cases hii : i' = i
      · exact ⟨4, by decide, by decide, by rw [if_pos hii], by rw [if_pos hii, if_pos rfl], fun _ => ⟨by rw [if_pos hii, if_pos hii], by rw [if_pos hii, if_pos hii]⟩⟩
      · refine ⟨s', a1, a2, by rw [if_neg hii]; exact a3, by rw [if_neg hii]; exact a4, fun z => ?_⟩
        rw [if_neg hii, if_neg hii, if_neg hii, if_neg hii]
        exact a5 z
    · show isB ((wrI (blk M 221 0 (16 * i) 16 (fun k => M.1 223 0 (48 * i + 32 + k))) 222 0 i (nI 1)).1 221 0 (16 * i' + j)) ∧ (blk (wrI C 62 i 0 (nI 4)) 24 i 0 16 (fun k => C.1 22 i (32 + k))).1 24 i' j = (wrI (blk M 221 0 (16 * i) 16 (fun k => M.1 223 0 (48 * i + 32 + k))) 222 0 i (nI 1)).1 221 0 (16 * i' + j)
      rw [wrI_ne (by decide)]
      by_cases hii : i' = i
      · rw [hii] at c1 ⊢
        rw [blk_in (by omega) (by omega), blk_in (by omega) (by omega), Nat.add_sub_cancel_left, Nat.sub_zero]
        have := c1 (32 + j) (by omega)
        rw [show 48 * i + (32 + j) = 48 * i + 32 + j by omega] at this
        exact this
      · rw [blk_out (by omega), blk_out (by omega), wrI_ne (by decide)]
        exact c2 j hj
  · intro i' hi'
    obtain ⟨b, n, a1, a2, a3, a4, a5⟩ := h2 i' hi'
    have fq1 : fq kbC C (kbF C i) := by unfold kbF; repeat (first | exact fq.rf | (refine fq.tr ?_ (fq.wr (by decide))) | (refine fq.tr ?_ (fq.bk (by decide))) | (refine fq.tr ?_ (fq.wl (by decide))) | (refine fq.tr ?_ (fq.wR (by decide))))
    have gq1 : fq [221, 222, 226, 227, 228] M (kbG M i) := by unfold kbG; repeat (first | exact fq.rf | (refine fq.tr ?_ (fq.wr (by decide))) | (refine fq.tr ?_ (fq.bk (by decide))) | (refine fq.tr ?_ (fq.wl (by decide))) | (refine fq.tr ?_ (fq.wR (by decide))))
    rw [fq1.1 68 (nc (by decide)), fq1.1 69 (nc (by decide)), fq1.1 70 (nc (by decide)), fq1.1 25 (nc (by decide)), gq1.1 229 (nc (by decide)), gq1.1 230 (nc (by decide)), gq1.1 231 (nc (by decide)), gq1.1 232 (nc (by decide))]
    unfold kbF kbG
    by_cases hii : i' = i
    · rw [hii] at a5 ⊢
      exact ⟨0, n, by decide, a2, wrI_s, wrI_s, a5⟩
    · refine ⟨b, n, a1, a2, ?_, ?_, a5⟩
      · rw [wrI_o (by omega)]
        show (blk (wrI C 62 i 0 (nI 4)) 24 i 0 16 (fun k => C.1 22 i (32 + k))).1 67 i' 0 = _
        rw [blk_ne (by decide), wrI_ne (by decide)]
        exact a3
      · rw [wrI_o (by omega)]
        show (wrI (blk M 221 0 (16 * i) 16 (fun k => M.1 223 0 (48 * i + 32 + k))) 222 0 i (nI 1)).1 228 0 i' = _
        rw [wrI_ne (by decide), blk_ne (by decide)]
        exact a4
theorem kbA {d w e t k : Nat} {C M : Mm} (h : TT d w e t C M) (hk : k < 9) : TT d w e t (kbF C (9 + k)) (wrI (kbG M (9 + k)) 219 0 k (nI 4)) ∧ fq kbC C (kbF C (9 + k)) ∧ fq kbMa M (wrI (kbG M (9 + k)) 219 0 k (nI 4)) := by
  have fC : fq kbC C (kbF C (9 + k)) := by unfold kbF; repeat (first | exact fq.rf | (refine fq.tr ?_ (fq.wr (by decide))) | (refine fq.tr ?_ (fq.bk (by decide))) | (refine fq.tr ?_ (fq.wl (by decide))) | (refine fq.tr ?_ (fq.wR (by decide))))
  have gM : fq kbMa M (wrI (kbG M (9 + k)) 219 0 k (nI 4)) := by unfold kbG; repeat (first | exact fq.rf | (refine fq.tr ?_ (fq.wr (by decide))) | (refine fq.tr ?_ (fq.bk (by decide))) | (refine fq.tr ?_ (fq.wl (by decide))) | (refine fq.tr ?_ (fq.wR (by decide))))
  obtain ⟨hIDraw, hIPar, hISub, hIKey, hIRef, hISta, hILnk, hIBeg, hIQue, hIHnd, hICon, hIDue, hIWai, hISnd, hILat, hIInb⟩ := h
  obtain ⟨i1, i2⟩ := kbI (i := 9 + k) (by omega) hILnk hIBeg
  refine ⟨?_, fC, gM⟩
  have key : ∀ C' M', fq kbC C C' → fq kbMa M M' → ISta C' M' → ILnk C' M' → IBeg C' M' → TT d w e t C' M' := fun C' M' fC gM tISta tILnk tIBeg => ⟨hIDraw.fr fC gM (by decide) (by decide), hIPar.fr fC gM (by decide) (by decide), hISub.fr fC gM (by decide) (by decide), hIKey.fr fC gM (by decide) (by decide), hIRef.fr fC gM (by decide) (by decide), tISta, tILnk, tIBeg, hIQue.fr fC gM (by decide) (by decide), hIHnd.fr fC gM (by decide) (by decide), hICon.fr fC gM (by decide) (by decide), hIDue.fr fC gM (by decide) (by decide), hIWai.fr fC gM (by decide) (by decide), hISnd.z fC gM (by decide) (by decide), hILat.fr fC gM (by decide) (by decide), hIInb.fr fC gM (by decide) (by decide)⟩
  refine key _ _ fC gM ?_ (i1.fr (u := []) (w := [219]) fq.rf (by repeat (first | exact fq.rf | (refine fq.tr ?_ (fq.wr (by decide))) | (refine fq.tr ?_ (fq.bk (by decide))) | (refine fq.tr ?_ (fq.wl (by decide))) | (refine fq.tr ?_ (fq.wR (by decide))))) (by decide) (by decide)) (i2.fr (u := []) (w := [219]) fq.rf (by repeat (first | exact fq.rf | (refine fq.tr ?_ (fq.wr (by decide))) | (refine fq.tr ?_ (fq.bk (by decide))) | (refine fq.tr ?_ (fq.wl (by decide))) | (refine fq.tr ?_ (fq.wR (by decide))))) (by decide) (by decide))
  intro j hj
  obtain ⟨a1, a2, a3, a4⟩ := hISta j hj
  have f62 : ∀ i', (kbF C (9 + k)).1 62 i' 0 = if i' = 9 + k then nI 4 else C.1 62 i' 0 := fun i' => by
    show (blk (wrI C 62 (9 + k) 0 (nI 4)) 24 (9 + k) 0 16 (fun q => C.1 22 (9 + k) (32 + q))).1 62 i' 0 = _
    rw [blk_ne (by decide)]
    by_cases hii : i' = 9 + k
    · rw [hii, wrI_s, if_pos rfl]
    · rw [wrI_o (by omega), if_neg hii]
  rw [f62, f62, fC.1 63 (nc (by decide)), gM.1 218 (nc (by decide)), gM.1 220 (nc (by decide)), if_neg (by omega)]
  refine ⟨a1, ?_, a3, a4⟩
  by_cases hjk : j = k
  · rw [if_pos (by omega), hjk, wrI_s]
  · rw [if_neg (by omega), wrI_o (by omega)]
    show _ = (wrI (blk M 221 0 (16 * (9 + k)) 16 (fun q => M.1 223 0 (48 * (9 + k) + 32 + q))) 222 0 (9 + k) (nI 1)).1 219 0 j
    rw [wrI_ne (by decide), blk_ne (by decide)]
    exact a2
theorem kbS {d w e t k : Nat} {C M : Mm} (h : TT d w e t C M) (hk : k < 9) : TT d w e t (kbF C k) (wrI (kbG M k) 218 0 k (nI 4)) ∧ fq kbC C (kbF C k) ∧ fq kbMs M (wrI (kbG M k) 218 0 k (nI 4)) := by
  have fC : fq kbC C (kbF C k) := by unfold kbF; repeat (first | exact fq.rf | (refine fq.tr ?_ (fq.wr (by decide))) | (refine fq.tr ?_ (fq.bk (by decide))) | (refine fq.tr ?_ (fq.wl (by decide))) | (refine fq.tr ?_ (fq.wR (by decide))))
  have gM : fq kbMs M (wrI (kbG M k) 218 0 k (nI 4)) := by unfold kbG; repeat (first | exact fq.rf | (refine fq.tr ?_ (fq.wr (by decide))) | (refine fq.tr ?_ (fq.bk (by decide))) | (refine fq.tr ?_ (fq.wl (by decide))) | (refine fq.tr ?_ (fq.wR (by decide))))
  obtain ⟨hIDraw, hIPar, hISub, hIKey, hIRef, hISta, hILnk, hIBeg, hIQue, hIHnd, hICon, hIDue, hIWai, hISnd, hILat, hIInb⟩ := h
  obtain ⟨i1, i2⟩ := kbI (i := k) (by omega) hILnk hIBeg
  refine ⟨?_, fC, gM⟩
  have key : ∀ C' M', fq kbC C C' → fq kbMs M M' → ISta C' M' → ILnk C' M' → IBeg C' M' → TT d w e t C' M' := fun C' M' fC gM tISta tILnk tIBeg => ⟨hIDraw.fr fC gM (by decide) (by decide), hIPar.fr fC gM (by decide) (by decide), hISub.fr fC gM (by decide) (by decide), hIKey.fr fC gM (by decide) (by decide), hIRef.fr fC gM (by decide) (by decide), tISta, tILnk, tIBeg, hIQue.fr fC gM (by decide) (by decide), hIHnd.fr fC gM (by decide) (by decide), hICon.fr fC gM (by decide) (by decide), hIDue.fr fC gM (by decide) (by decide), hIWai.fr fC gM (by decide) (by decide), hISnd.z fC gM (by decide) (by decide), hILat.fr fC gM (by decide) (by decide), hIInb.fr fC gM (by decide) (by decide)⟩
  refine key _ _ fC gM ?_ (i1.fr (u := []) (w := [218]) fq.rf (by repeat (first | exact fq.rf | (refine fq.tr ?_ (fq.wr (by decide))) | (refine fq.tr ?_ (fq.bk (by decide))) | (refine fq.tr ?_ (fq.wl (by decide))) | (refine fq.tr ?_ (fq.wR (by decide))))) (by decide) (by decide)) (i2.fr (u := []) (w := [218]) fq.rf (by repeat (first | exact fq.rf | (refine fq.tr ?_ (fq.wr (by decide))) | (refine fq.tr ?_ (fq.bk (by decide))) | (refine fq.tr ?_ (fq.wl (by decide))) | (refine fq.tr ?_ (fq.wR (by decide))))) (by decide) (by decide))
  intro j hj
  obtain ⟨a1, a2, a3, a4⟩ := hISta j hj
  have f62 : ∀ i', (kbF C k).1 62 i' 0 = if i' = k then nI 4 else C.1 62 i' 0 := fun i' => by
    show (blk (wrI C 62 k 0 (nI 4)) 24 k 0 16 (fun q => C.1 22 k (32 + q))).1 62 i' 0 = _
    rw [blk_ne (by decide)]
    by_cases hii : i' = k
    · rw [hii, wrI_s, if_pos rfl]
    · rw [wrI_o (by omega), if_neg hii]
  rw [f62, f62, fC.1 63 (nc (by decide)), gM.1 219 (nc (by decide)), gM.1 220 (nc (by decide)), if_neg (show ¬ 9 + j = k by omega)]
  refine ⟨?_, a2, a3, a4⟩
  by_cases hjk : j = k
  · rw [if_pos hjk, hjk, wrI_s]
  · rw [if_neg hjk, wrI_o (by omega)]
    show _ = (wrI (blk M 221 0 (16 * k) 16 (fun q => M.1 223 0 (48 * k + 32 + q))) 222 0 k (nI 1)).1 218 0 j
    rw [wrI_ne (by decide), blk_ne (by decide)]
    exact a1
