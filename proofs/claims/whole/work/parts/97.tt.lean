/-! A NODE TAKES A FRAME: tools -/
theorem dj_mo {u s s' : List Nat} (h : dj u s = true) (hs : (s'.all fun a => s.contains a) = true) : dj u s' = true := List.all_eq_true.mpr (fun a ha => List.all_eq_true.mp h a (List.contains_iff_mem.mp (List.all_eq_true.mp hs a ha)))
abbrev TTCl : List Nat := [16, 17, 18, 19, 20, 21, 22, 23, 24, 25, 26, 36, 37, 38, 39, 40, 45, 52, 53, 54, 56, 59, 60, 61, 62, 63, 64, 65, 66, 67, 68, 69, 70, 80, 81, 82, 83, 84, 85, 86, 87, 88, 89, 90, 91, 92, 93, 94, 95, 96, 98, 99, 100, 102, 103, 104, 106, 107, 108, 109]
abbrev TTMl : List Nat := [207, 216, 217, 218, 219, 220, 221, 222, 223, 224, 225, 226, 227, 228, 229, 230, 231, 232, 234, 235, 236, 237, 238, 239, 240, 241, 242, 243, 244, 245, 246, 247, 248, 249, 250, 251, 252, 254, 255, 256, 257, 258, 259, 279, 280, 281, 282, 284, 285, 286, 287, 292, 293, 294, 295, 296, 303]
theorem TT.fr {d w e t : Nat} {C M C' M' : Mm} (h : TT d w e t C M) {u v : List Nat} (fC : fq u C C') (gM : fq v M M') (hd : dj u TTCl = true) (he : dj v TTMl = true) : TT d w e t C' M' := by
  obtain ⟨hIDraw, hIPar, hISub, hIKey, hIRef, hISta, hILnk, hIBeg, hIQue, hIHnd, hICon, hIDue, hIWai, hISnd, hILat, hIInb⟩ := h
  exact ⟨hIDraw.fr fC gM (dj_mo hd (by decide)) (dj_mo he (by decide)), hIPar.fr fC gM (dj_mo hd (by decide)) (dj_mo he (by decide)), hISub.fr fC gM (dj_mo hd (by decide)) (dj_mo he (by decide)), hIKey.fr fC gM (dj_mo hd (by decide)) (dj_mo he (by decide)), hIRef.fr fC gM (dj_mo hd (by decide)) (dj_mo he (by decide)), hISta.fr fC gM (dj_mo hd (by decide)) (dj_mo he (by decide)), hILnk.fr fC gM (dj_mo hd (by decide)) (dj_mo he (by decide)), hIBeg.fr fC gM (dj_mo hd (by decide)) (dj_mo he (by decide)), hIQue.fr fC gM (dj_mo hd (by decide)) (dj_mo he (by decide)), hIHnd.fr fC gM (dj_mo hd (by decide)) (dj_mo he (by decide)), hICon.fr fC gM (dj_mo hd (by decide)) (dj_mo he (by decide)), hIDue.fr fC gM (dj_mo hd (by decide)) (dj_mo he (by decide)), hIWai.fr fC gM (dj_mo hd (by decide)) (dj_mo he (by decide)), hISnd.z fC gM (dj_mo hd (by decide)) (dj_mo he (by decide)), hILat.fr fC gM (dj_mo hd (by decide)) (dj_mo he (by decide)), hIInb.fr fC gM (dj_mo hd (by decide)) (dj_mo he (by decide))⟩
theorem TT.q7 {d w e t : Nat} {C M : Mm} (h : TT d w e t C M) : Q7 d w e 0 C M := by
  obtain ⟨hIDraw, hIPar, hISub, hIKey, hIRef, hISta, hILnk, hIBeg, hIQue, hIHnd, hICon, hIDue, hIWai, hISnd, hILat, hIInb⟩ := h
  exact ⟨hIQue, hIHnd, hICon, hIDraw, hIDue, hIWai, hISnd⟩
theorem TT.of7 {d w e t : Nat} {C M C' M' : Mm} (h : TT d w e t C M) (fC : fq eqCR C C') (gM : fq eqM M M') (h7 : Q7 d w e 0 C' M') : TT d w e t C' M' := by
  obtain ⟨i1, i2, i3, i4, i5, i6, i7⟩ := h7
  obtain ⟨hIDraw, hIPar, hISub, hIKey, hIRef, hISta, hILnk, hIBeg, hIQue, hIHnd, hICon, hIDue, hIWai, hISnd, hILat, hIInb⟩ := h
  have key : ∀ C' M', fq eqCR C C' → fq eqM M M' → IDraw C' M' → IQue C' M' → IHnd C' M' → ICon C' M' → IDue d C' M' → IWai w C' M' → ISnd e 0 C' M' → TT d w e t C' M' := fun C' M' fC gM tIDraw tIQue tIHnd tICon tIDue tIWai tISnd => ⟨tIDraw, hIPar.fr fC gM (by decide) (by decide), hISub.fr fC gM (by decide) (by decide), hIKey.fr fC gM (by decide) (by decide), hIRef.fr fC gM (by decide) (by decide), hISta.fr fC gM (by decide) (by decide), hILnk.fr fC gM (by decide) (by decide), hIBeg.fr fC gM (by decide) (by decide), tIQue, tIHnd, tICon, tIDue, tIWai, tISnd, hILat.fr fC gM (by decide) (by decide), hIInb.fr fC gM (by decide) (by decide)⟩
  exact key _ _ fC gM i4 i1 i2 i3 i5 i6 i7
theorem TT.qb {d w e t k to kd det : Nat} {C M : Mm} (h : TT d w e t C M) (hk : k < 9) (hto : to < 9) (hkd : kd = 176 ∨ kd = 0 ∨ kd = 16 ∨ kd = 192) (hdet : det < 256) (hm : MSG M (fun j => nI (bodF kd det j)) (bodN kd)) : ∃ C' M', F_X11_queueBody (nI k) (nI to) (nI kd) (nI det) C = some ((), C') ∧ F_X12_enqueue (nI k) (nI kd) (nI to) (nI 0) (-nI 1) M = some ((), M') ∧ TT d w e t C' M' ∧ fq eqCR C C' ∧ fq eqM M M' := by
  have h2 := h
  obtain ⟨hIDraw, hIPar, hISub, hIKey, hIRef, hISta, hILnk, hIBeg, hIQue, hIHnd, hICon, hIDue, hIWai, hISnd, hILat, hIInb⟩ := h2
  obtain ⟨C', M', e1, e2, e3, e4, e5⟩ := qBody hIRef hIPar h.q7 (by decide) hk hto hkd hdet hm
  exact ⟨C', M', e1, e2, h.of7 e3 e4 e5, e3, e4⟩
abbrev lkCl : List Nat := [62, 64, 67]
abbrev lkMa : List Nat := [219, 222, 224, 226, 227, 228]
abbrev lkMs : List Nat := [218, 222, 224, 226, 227, 228]
theorem losA {d w e t k q : Nat} {C M : Mm} (h : TT d w e t C M) (hk : k < 9) (h1 : 1 ≤ q) (h3 : q ≤ 3) : TT d w e t (lkC C (9 + k) q) (ukM (wrI M 219 0 k (nI q)) (9 + k)) ∧ fq lkCl C (lkC C (9 + k) q) ∧ fq lkMa M (ukM (wrI M 219 0 k (nI q)) (9 + k)) := by
  have fC : fq lkCl C (lkC C (9 + k) q) := by unfold lkC; repeat (first | exact fq.rf | (refine fq.tr ?_ (fq.wr (by decide))) | (refine fq.tr ?_ (fq.bk (by decide))) | (refine fq.tr ?_ (fq.wl (by decide))) | (refine fq.tr ?_ (fq.wR (by decide))))
  have gM : fq lkMa M (ukM (wrI M 219 0 k (nI q)) (9 + k)) := by unfold ukM; repeat (first | exact fq.rf | (refine fq.tr ?_ (fq.wr (by decide))) | (refine fq.tr ?_ (fq.bk (by decide))) | (refine fq.tr ?_ (fq.wl (by decide))) | (refine fq.tr ?_ (fq.wR (by decide))))
  obtain ⟨hIDraw, hIPar, hISub, hIKey, hIRef, hISta, hILnk, hIBeg, hIQue, hIHnd, hICon, hIDue, hIWai, hISnd, hILat, hIInb⟩ := h
  refine ⟨?_, fC, gM⟩
  obtain ⟨i1, i2⟩ := losI (i := 9 + k) (t := q) (M' := wrI M 219 0 k (nI q)) (w := [219]) (by omega) h1 h3 hILnk hIBeg (by repeat (first | exact fq.rf | (refine fq.tr ?_ (fq.wr (by decide))) | (refine fq.tr ?_ (fq.bk (by decide))) | (refine fq.tr ?_ (fq.wl (by decide))) | (refine fq.tr ?_ (fq.wR (by decide))))) (by decide)
  have key : ∀ C' M', fq lkCl C C' → fq lkMa M M' → ISta C' M' → ILnk C' M' → IBeg C' M' → TT d w e t C' M' := fun C' M' fC gM tISta tILnk tIBeg => ⟨hIDraw.fr fC gM (by decide) (by decide), hIPar.fr fC gM (by decide) (by decide), hISub.fr fC gM (by decide) (by decide), hIKey.fr fC gM (by decide) (by decide), hIRef.fr fC gM (by decide) (by decide), tISta, tILnk, tIBeg, hIQue.fr fC gM (by decide) (by decide), hIHnd.fr fC gM (by decide) (by decide), hICon.fr fC gM (by decide) (by decide), hIDue.fr fC gM (by decide) (by decide), hIWai.fr fC gM (by decide) (by decide), hISnd.z fC gM (by decide) (by decide), hILat.fr fC gM (by decide) (by decide), hIInb.fr fC gM (by decide) (by decide)⟩
  refine key _ _ fC gM ?_ i1 i2
  intro j hj
  obtain ⟨a1, a2, a3, a4⟩ := hISta j hj
  rw [fC.1 63 (nc (by decide)), gM.1 218 (nc (by decide)), gM.1 220 (nc (by decide))]
  unfold lkC ukM
  refine ⟨?_, ?_, a3, a4⟩
  · rw [wrI_ne (by decide), wrI_ne (by decide), wrI_o (by omega)]
    exact a1
  · show (wrI (wrI (wrI C 62 (9 + k) 0 (nI q)) 64 (9 + k) 0 (nI 0)) 67 (9 + k) 0 (nI 0)).1 62 (9 + j) 0 = (wrI (wrI (wrI (wrI M 219 0 k (nI q)) 222 0 (9 + k) (nI 0)) 224 0 (9 + k) (nI 0)) 228 0 (9 + k) (nI 0)).1 219 0 j
    by_cases hjk : j = k
    · rw [hjk]
      rw [wrI_ne (by decide), wrI_ne (by decide), wrI_s, wrI_ne (by decide), wrI_ne (by decide), wrI_ne (by decide), wrI_s]
    · rw [wrI_ne (by decide), wrI_ne (by decide), wrI_o (by omega), wrI_ne (by decide), wrI_ne (by decide), wrI_ne (by decide), wrI_o (by omega)]
      exact a2
theorem losS {d w e t k q : Nat} {C M : Mm} (h : TT d w e t C M) (hk : k < 9) (h1 : 1 ≤ q) (h3 : q ≤ 3) : TT d w e t (lkC C k q) (ukM (wrI M 218 0 k (nI q)) k) ∧ fq lkCl C (lkC C k q) ∧ fq lkMs M (ukM (wrI M 218 0 k (nI q)) k) := by
  have fC : fq lkCl C (lkC C k q) := by unfold lkC; repeat (first | exact fq.rf | (refine fq.tr ?_ (fq.wr (by decide))) | (refine fq.tr ?_ (fq.bk (by decide))) | (refine fq.tr ?_ (fq.wl (by decide))) | (refine fq.tr ?_ (fq.wR (by decide))))
  have gM : fq lkMs M (ukM (wrI M 218 0 k (nI q)) k) := by unfold ukM; repeat (first | exact fq.rf | (refine fq.tr ?_ (fq.wr (by decide))) | (refine fq.tr ?_ (fq.bk (by decide))) | (refine fq.tr ?_ (fq.wl (by decide))) | (refine fq.tr ?_ (fq.wR (by decide))))
  obtain ⟨hIDraw, hIPar, hISub, hIKey, hIRef, hISta, hILnk, hIBeg, hIQue, hIHnd, hICon, hIDue, hIWai, hISnd, hILat, hIInb⟩ := h
  refine ⟨?_, fC, gM⟩
  obtain ⟨i1, i2⟩ := losI (i := k) (t := q) (M' := wrI M 218 0 k (nI q)) (w := [218]) (by omega) h1 h3 hILnk hIBeg (by repeat (first | exact fq.rf | (refine fq.tr ?_ (fq.wr (by decide))) | (refine fq.tr ?_ (fq.bk (by decide))) | (refine fq.tr ?_ (fq.wl (by decide))) | (refine fq.tr ?_ (fq.wR (by decide))))) (by decide)
  have key : ∀ C' M', fq lkCl C C' → fq lkMs M M' → ISta C' M' → ILnk C' M' → IBeg C' M' → TT d w e t C' M' := fun C' M' fC gM tISta tILnk tIBeg => ⟨hIDraw.fr fC gM (by decide) (by decide), hIPar.fr fC gM (by decide) (by decide), hISub.fr fC gM (by decide) (by decide), hIKey.fr fC gM (by decide) (by decide), hIRef.fr fC gM (by decide) (by decide), tISta, tILnk, tIBeg, hIQue.fr fC gM (by decide) (by decide), hIHnd.fr fC gM (by decide) (by decide), hICon.fr fC gM (by decide) (by decide), hIDue.fr fC gM (by decide) (by decide), hIWai.fr fC gM (by decide) (by decide), hISnd.z fC gM (by decide) (by decide), hILat.fr fC gM (by decide) (by decide), hIInb.fr fC gM (by decide) (by decide)⟩
  refine key _ _ fC gM ?_ i1 i2
  intro j hj
  obtain ⟨a1, a2, a3, a4⟩ := hISta j hj
  rw [fC.1 63 (nc (by decide)), gM.1 219 (nc (by decide)), gM.1 220 (nc (by decide))]
  unfold lkC ukM
  refine ⟨?_, ?_, a3, a4⟩
  · show (wrI (wrI (wrI C 62 k 0 (nI q)) 64 k 0 (nI 0)) 67 k 0 (nI 0)).1 62 j 0 = (wrI (wrI (wrI (wrI M 218 0 k (nI q)) 222 0 k (nI 0)) 224 0 k (nI 0)) 228 0 k (nI 0)).1 218 0 j
    by_cases hjk : j = k
    · rw [hjk]
      rw [wrI_ne (by decide), wrI_ne (by decide), wrI_s, wrI_ne (by decide), wrI_ne (by decide), wrI_ne (by decide), wrI_s]
    · rw [wrI_ne (by decide), wrI_ne (by decide), wrI_o (by omega), wrI_ne (by decide), wrI_ne (by decide), wrI_ne (by decide), wrI_o (by omega)]
      exact a1
  · rw [wrI_ne (by decide), wrI_ne (by decide), wrI_o (by omega)]
    exact a2
/-- whether the newest frame is of a kind and has just the body that is told for it -/
def bodP (b : Nat → Nat) (n kd det : Nat) : Prop := b 0 = kd ∧ n = 28 + bodN kd ∧ ∀ j, j < bodN kd → b (24 + j) = bodF kd det j
theorem hbC {s R n sd kd det : Nat} {b : Nat → Nat} {C M : Mm} (hN : NB s R n sd b C M) (h28 : 28 ≤ n) (hkd : kd = 176 ∨ kd = 0 ∨ kd = 16 ∨ kd = 192) (hdet : det < 256) : ∃ z C', z ≤ 1 ∧ F_X11_hasBody (nI kd) (nI det) C = some (nI z, C') ∧ fq [58] C C' ∧ (z = 1 ↔ bodP b n kd det) := by
  obtain ⟨nb1, nb2, -⟩ := nbC hN
  obtain ⟨h1, h2, h3, h4, h5, h6, h7, h8, h9, h10, h11, h12, h13, h14'⟩ := hN
  have q0 := h5 0
  have hbn : bodN kd ≤ 6 := by rcases hkd with rfl | rfl | rfl | rfl <;> decide
  have pre : ∀ X, ((if nI (b 0) = nI kd then (cl (F_X2_writeBody 58 0 (nI kd) (nI det) C) fun r10 S11 => if nI (n - 28) = r10 then (cl (F_X2_sameBytes 27 R 24 58 0 0 (nI (n - 28)) S11) fun r13 S14 => gd (r13 &&& 1 = r13) (some (r13, S14))) else (L_X11_hasBody_41 S11)) else (L_X11_hasBody_41 C)) = X) → F_X11_hasBody (nI kd) (nI det) C = X := by
    intro X hX
    unfold F_X11_hasBody
    exact e_cl nb1 (e_nn h1 (e_cl nb2 (e_tp (w := nI (n - 28)) (by rw [show (28 : Int32) = nI 28 from rfl, pk_sub h28]) (e_ldA (j := 0) rfl (by decide) h1 (by decide) (h10 0 (by omega)) hX))))
  by_cases hk : b 0 = kd
  · obtain ⟨S', w1, w2, w3, w4⟩ := bodC (c := 58) (i := 0) (kd := kd) (det := det) (S := C) (by decide) (by decide) (by decide) hkd
    by_cases hl : n = 28 + bodN kd
    · have hn28 : n - 28 = bodN kd := by omega
      have sm := samC (c1 := 27) (i1 := R) (a1 := 24) (c2 := 58) (i2 := 0) (a2 := 0) (n := n - 28) (S := S') (okP_n (by decide) h1) (show 24 + (n - 28) ≤ 300 by omega) (by decide) (by decide) (show 0 + (n - 28) ≤ 6 by omega) (by decide)
      have r27 : S'.1 27 = C.1 27 := w3.1 27 (nc (by decide))
      have iff1 : (∀ k, k < n - 28 → rdI S' 27 R (24 + k) = rdI S' 58 0 (0 + k)) ↔ ∀ j, j < bodN kd → b (24 + j) = bodF kd det j := by
        have one : ∀ k, k < n - 28 → (rdI S' 27 R (24 + k) = rdI S' 58 0 (0 + k) ↔ b (24 + k) = bodF kd det k) := by
          intro k hk2
          have e1 : rdI S' 27 R (24 + k) = nI (b (24 + k)) := by
            show S'.1 27 R (24 + k) = _
            rw [r27]
            exact h10 _ (by omega)
          have e2 : rdI S' 58 0 (0 + k) = nI (bodF kd det k) := by
            show S'.1 58 0 (0 + k) = _
            rw [Nat.zero_add]
            exact w2 k (by omega)
          have b1 := h5 (24 + k)
          have b2 := bod_lt (kd := kd) hdet k
          rw [e1, e2, nI_eq (by omega) (by omega)]
        rw [hn28] at one ⊢
        exact ⟨fun z j hj => (one j hj).mp (z j hj), fun z j hj => (one j hj).mpr (z j hj)⟩
      by_cases hs : ∀ j, j < bodN kd → b (24 + j) = bodF kd det j
      · refine ⟨1, S', by decide, pre _ (e_T (by rw [hk]) (e_cl w1 (e_T (by rw [hn28]) (e_cl (sm.1 (iff1.mpr hs)) (e_gd (by decide) rfl))))), w3, fun _ => ⟨hk, hl, hs⟩, fun _ => rfl⟩
      · refine ⟨0, S', by decide, pre _ (e_T (by rw [hk]) (e_cl w1 (e_T (by rw [hn28]) (e_cl (sm.2 (fun z => hs (iff1.mp z))) (e_gd (by decide) rfl))))), w3, fun z => absurd z (by decide), fun z => absurd z.2.2 hs⟩
    · refine ⟨0, S', by decide, pre _ (e_T (by rw [hk]) (e_cl w1 (e_N (by rw [nI_eq (by omega) (by omega)]; omega) rfl))), w3, fun z => absurd z (by decide), fun z => absurd z.2.1 hl⟩
  · have hkd2 : kd < 256 := by omega
    exact ⟨0, C, by decide, pre _ (e_N (by rw [nI_eq (by omega) (by omega)]; exact hk) rfl), fq.rf, fun z => absurd z (by decide), fun z => absurd z.1 hk⟩
/-! a hand is queued: the reference's message -/
def hm0 (N : Nat → Int32) (hd j : Nat) : Int32 := if j < 8 then nI (hedF 136 142 j) else if j = 8 then nI hd else N (j - 9)
def hm1 (N K : Nat → Int32) (hd L j : Nat) : Int32 := if j < L then hm0 N hd j else hmac K 16 (fun k => hm0 N hd (8 + k)) (L - 8) (j - L)
theorem hmac_B {k m : Nat → Int32} {kl len j : Nat} : isB (hmac k kl m len j) := bt_B _ _
theorem hm1_B {N K : Nat → Int32} {hd L j : Nat} (hN : ∀ j, j < 32 → isB (N j)) (hhd : hd < 256) (hL : L ≤ 41) : isB (hm1 N K hd L j) := by
  unfold hm1 hm0
  by_cases h : j < L
  · rw [if_pos h]
    by_cases h8 : j < 8
    · rw [if_pos h8]
      exact isB_n (hed_lt (by decide) (by decide) j)
    · rw [if_neg h8]
      by_cases h9 : j = 8
      · rw [if_pos h9]
        exact isB_n hhd
      · rw [if_neg h9]
        exact hN _ (by omega)
  · rw [if_neg h]
    exact hmac_B
abbrev shM : List Nat := [201, 202, 203, 204, 205, 206, 253, 289, 290, 297]
theorem sendM {M : Mm} {f to hd i L : Nat} (hf : f < 9) (hto : to < 9) (hi : i < 18) (hhd : 1 ≤ hd ∧ hd ≤ 4) (hL : L = if hd = 4 then 9 else 41) (hB : ∀ j, j < 32 → isB (M.1 217 0 (32 * f + j))) (kB : ∀ j, j < 48 → isB (M.1 223 0 (48 * i + j))) : ∃ T, MSG T (hm1 (fun j => M.1 217 0 (32 * f + j)) (fun j => M.1 223 0 (48 * i + j)) hd L) (if hd = 1 then L else L + 16) ∧ fq shM M T ∧ F_X12_sendsHand (nI f) (nI to) (nI hd) (if hd = 4 then -nI 1 else nI f) (nI i) M = L_X12_sendsHand_111 (nI f) (nI to) T := by
  have hL9 : 9 ≤ L ∧ L ≤ 41 := by rw [hL]; split <;> omega
  have g0 : ∀ j, j < L → hm1 (fun j => M.1 217 0 (32 * f + j)) (fun j => M.1 223 0 (48 * i + j)) hd L j = hm0 (fun j => M.1 217 0 (32 * f + j)) hd j := fun j hj => if_pos hj
  generalize hG : hm1 (fun j => M.1 217 0 (32 * f + j)) (fun j => M.1 223 0 (48 * i + j)) hd L = G at *
  have GB : ∀ j, isB (G j) := fun j => by
    rw [← hG]
    exact hm1_B hB (by omega) hL9.2
  obtain ⟨M1, a1, a2, a3⟩ := bmM (M := M) (f := G) (x := 136) (y := 142) (by decide) (by decide) (fun j hj => by
    rw [g0 j (by omega)]
    exact if_pos hj)
  have e8 : G 8 = nI hd := by
    rw [g0 8 (by omega)]
    rfl
  obtain ⟨M2, b1, b2, b3⟩ := addM (v := nI hd) a2 (by decide) (by rw [e8]; exact nI_and255 (by omega))
  have f2 : fq [253, 297] M M2 := a3.tr b3
  have e18 : ∃ T, MSG T G L ∧ fq [253, 297] M T ∧ L_X12_sendsHand_18 (nI f) (nI to) (nI hd) (if hd = 4 then -nI 1 else nI f) (nI i) fu 0 M2 = L_X12_sendsHand_53 (nI f) (nI to) (nI hd) (nI i) T := by
    by_cases h4 : hd = 4
    · rw [if_pos h4] at hL ⊢
      refine ⟨M2, by rw [hL]; exact b2, f2, ?_⟩
      obtain ⟨m, hm⟩ := fu_n (N := 0) (by decide)
      rw [hm, L_X12_sendsHand_18]
      exact e_N (by decide) (e_T (by decide) rfl)
    · rw [if_neg h4] at hL ⊢
      refine loopR (fun m v T => L_X12_sendsHand_18 (nI f) (nI to) (nI hd) (nI f) (nI i) m v T) (fun o => ∃ T, MSG T G L ∧ fq [253, 297] M T ∧ o = L_X12_sendsHand_53 (nI f) (nI to) (nI hd) (nI i) T) (fun j T => MSG T G (9 + j) ∧ fq [253, 297] M T) 0 32 (by decide) (by decide) (fun m j T _ hj hP ih => ?_) (fun m T hP => ?_) M2 ⟨b2, f2⟩
      · obtain ⟨p1, p2⟩ := hP
        have ej : G (9 + j) = M.1 217 0 (32 * f + j) := by
          rw [g0 (9 + j) (by omega)]
          unfold hm0
          rw [if_neg (by omega), if_neg (by omega), show 9 + j - 9 = j by omega]
        obtain ⟨T', c1, c2, c3⟩ := addM (v := M.1 217 0 (32 * f + j)) p1 (by omega) (by rw [ej]; exact isB_and (hB j hj))
        have e : L_X12_sendsHand_18 (nI f) (nI to) (nI hd) (nI f) (nI i) (m + 1) (nI j) T = L_X12_sendsHand_18 (nI f) (nI to) (nI hd) (nI f) (nI i) m (nI (j + 1)) T' := by
          rw [L_X12_sendsHand_18]
          refine e_N (by first | (simp (disch := first | omega | assumption) only [wrI_s, wrI_o, wrI_r, wrL_1, wrL_r, wrL_s, wrL_o, blk_in, blk_out, blk_r, lit, litL, b00, b11, nI_l, lN_add, lN_mul, lN_sub, nI_add, pk_mul, pk_sub, pk_div, remN, Nat.add_sub_cancel, Nat.add_sub_cancel_left, Nat.zero_add, Nat.add_zero, nI_eq, nI_leI, nI_ltI, nI_m1, m1_lt, neg_lt, neg_le, neg_ge, neg_gt, neg_eq, not_true, not_false_iff]; done) | (simp (disch := first | omega | assumption) only [wrI_s, wrI_o, wrI_r, wrL_1, wrL_r, wrL_s, wrL_o, blk_in, blk_out, blk_r, lit, litL, b00, b11, nI_l, lN_add, lN_mul, lN_sub, nI_add, pk_mul, pk_sub, pk_div, remN, Nat.add_sub_cancel, Nat.add_sub_cancel_left, Nat.zero_add, Nat.add_zero, nI_eq, nI_leI, nI_ltI, nI_m1, m1_lt, neg_lt, neg_le, neg_ge, neg_gt, neg_eq, not_true, not_false_iff]; omega)) (e_N (by first | (simp (disch := first | omega | assumption) only [wrI_s, wrI_o, wrI_r, wrL_1, wrL_r, wrL_s, wrL_o, blk_in, blk_out, blk_r, lit, litL, b00, b11, nI_l, lN_add, lN_mul, lN_sub, nI_add, pk_mul, pk_sub, pk_div, remN, Nat.add_sub_cancel, Nat.add_sub_cancel_left, Nat.zero_add, Nat.add_zero, nI_eq, nI_leI, nI_ltI, nI_m1, m1_lt, neg_lt, neg_le, neg_ge, neg_gt, neg_eq, not_true, not_false_iff]; done) | (simp (disch := first | omega | assumption) only [wrI_s, wrI_o, wrI_r, wrL_1, wrL_r, wrL_s, wrL_o, blk_in, blk_out, blk_r, lit, litL, b00, b11, nI_l, lN_add, lN_mul, lN_sub, nI_add, pk_mul, pk_sub, pk_div, remN, Nat.add_sub_cancel, Nat.add_sub_cancel_left, Nat.zero_add, Nat.add_zero, nI_eq, nI_leI, nI_ltI, nI_m1, m1_lt, neg_lt, neg_le, neg_ge, neg_gt, neg_eq, not_true, not_false_iff]; omega)) (e_ldA (j := 32 * f + j) (v := M.1 217 0 (32 * f + j)) (by first | (simp (disch := first | omega | assumption) only [wrI_s, wrI_o, wrI_r, wrL_1, wrL_r, wrL_s, wrL_o, blk_in, blk_out, blk_r, lit, litL, b00, b11, nI_l, lN_add, lN_mul, lN_sub, nI_add, pk_mul, pk_sub, pk_div, remN, Nat.add_sub_cancel, Nat.add_sub_cancel_left, Nat.zero_add, Nat.add_zero]; done) | (simp (disch := first | omega | assumption) only [wrI_s, wrI_o, wrI_r, wrL_1, wrL_r, wrL_s, wrL_o, blk_in, blk_out, blk_r, lit, litL, b00, b11, nI_l, lN_add, lN_mul, lN_sub, nI_add, pk_mul, pk_sub, pk_div, remN, Nat.add_sub_cancel, Nat.add_sub_cancel_left, Nat.zero_add, Nat.add_zero]; rfl) | rfl) (by omega) (by decide) (by decide) (by rw [p2.1 217 (nc (by decide))]) (e_cl c1 ?_)))
          rw [nI_1]
        rw [e]
        exact ih T' ⟨c2, p2.tr c3⟩
      · obtain ⟨p1, p2⟩ := hP
        refine ⟨T, by rw [hL]; exact p1, p2, ?_⟩
        rw [L_X12_sendsHand_18]
        exact e_T (by decide) rfl
  obtain ⟨T, t1, t2, t3⟩ := e18
  have e0 : F_X12_sendsHand (nI f) (nI to) (nI hd) (if hd = 4 then -nI 1 else nI f) (nI i) M = L_X12_sendsHand_53 (nI f) (nI to) (nI hd) (nI i) T := by
    unfold F_X12_sendsHand
    exact e_cl a1 (e_cl b1 t3)
  rw [e0]
  by_cases h1 : hd = 1
  · rw [if_pos h1]
    refine ⟨T, t1, t2.up (by decide), ?_⟩
    unfold L_X12_sendsHand_53
    exact e_T (by rw [h1]; decide) rfl
  · rw [if_neg h1]
    obtain ⟨U, u1, u2, u3⟩ := hmacM (c1 := 223) (i1 := 0) (a1 := 48 * i) (c3 := 253) (i3 := 0) (a3 := 8) (len := L - 8) (S := T) (by decide) (by decide) (show 48 * i + 16 ≤ 864 by omega) (by decide) (fun k hk => by
      show isB (T.1 223 0 (48 * i + k))
      rw [t2.1 223 (nc (by decide))]
      exact kB k (by omega)) (by decide) (by decide) (show 8 + (L - 8) ≤ 208 by omega) (by decide) (fun k hk => by
      show isB (T.1 253 0 (8 + k))
      rw [t1.2 (8 + k) (by omega)]
      exact GB _) (by omega)
    have u3' : ∀ j, j < 16 → U.1 204 0 j = G (L + j) := fun j hj => by
      rw [u3 j (by omega), ← hG]
      unfold hm1
      rw [if_neg (by omega), show L + j - L = j by omega]
      refine hmac_congr (fun k hk => ?_) (fun k hk => ?_) j (by omega)
      · show T.1 223 0 (48 * i + k) = _
        rw [t2.1 223 (nc (by decide))]
      · show T.1 253 0 (8 + k) = _
        rw [t1.2 (8 + k) (by omega)]
        exact g0 _ (by omega)
    have hU : MSG U G L := ⟨by rw [u2.1 297 (by decide)]; exact t1.1, fun j hj => by rw [u2.1 253 (by decide)]; exact t1.2 j hj⟩
    have fU : fq shM M U := (t2.up (by decide)).tr (u2.q.up (by decide))
    have e53 : L_X12_sendsHand_53 (nI f) (nI to) (nI hd) (nI i) T = L_X12_sendsHand_87 (nI f) (nI to) fu 0 U := by
      unfold L_X12_sendsHand_53
      refine e_N (by first | (simp (disch := first | omega | assumption) only [wrI_s, wrI_o, wrI_r, wrL_1, wrL_r, wrL_s, wrL_o, blk_in, blk_out, blk_r, lit, litL, b00, b11, nI_l, lN_add, lN_mul, lN_sub, nI_add, pk_mul, pk_sub, pk_div, remN, Nat.add_sub_cancel, Nat.add_sub_cancel_left, Nat.zero_add, Nat.add_zero, nI_eq, nI_leI, nI_ltI, nI_m1, m1_lt, neg_lt, neg_le, neg_ge, neg_gt, neg_eq, not_true, not_false_iff]; done) | (simp (disch := first | omega | assumption) only [wrI_s, wrI_o, wrI_r, wrL_1, wrL_r, wrL_s, wrL_o, blk_in, blk_out, blk_r, lit, litL, b00, b11, nI_l, lN_add, lN_mul, lN_sub, nI_add, pk_mul, pk_sub, pk_div, remN, Nat.add_sub_cancel, Nat.add_sub_cancel_left, Nat.zero_add, Nat.add_zero, nI_eq, nI_leI, nI_ltI, nI_m1, m1_lt, neg_lt, neg_le, neg_ge, neg_gt, neg_eq, not_true, not_false_iff]; omega)) (e_gf t1.1 ?_)
      rw [show (48 : Int32) * nI i = nI (48 * i) from pk_mul 48 i, show (8 : Int32) = nI 8 from rfl, pk_sub (by omega)]
      exact e_cl u1 rfl
    rw [e53]
    refine loopR (fun m v T => L_X12_sendsHand_87 (nI f) (nI to) m v T) (fun o => ∃ T, MSG T G (L + 16) ∧ fq shM M T ∧ o = L_X12_sendsHand_111 (nI f) (nI to) T) (fun j T => MSG T G (L + j) ∧ fq [253, 297] U T) 0 16 (by decide) (by decide) (fun m j V _ hj hP ih => ?_) (fun m V hP => ?_) U ⟨hU, fq.rf⟩
    · obtain ⟨p1, p2⟩ := hP
      obtain ⟨T', c1, c2, c3⟩ := addM (v := G (L + j)) p1 (by omega) (isB_and (GB _))
      have e : L_X12_sendsHand_87 (nI f) (nI to) (m + 1) (nI j) V = L_X12_sendsHand_87 (nI f) (nI to) m (nI (j + 1)) T' := by
        rw [L_X12_sendsHand_87]
        refine e_N (by first | (simp (disch := first | omega | assumption) only [wrI_s, wrI_o, wrI_r, wrL_1, wrL_r, wrL_s, wrL_o, blk_in, blk_out, blk_r, lit, litL, b00, b11, nI_l, lN_add, lN_mul, lN_sub, nI_add, pk_mul, pk_sub, pk_div, remN, Nat.add_sub_cancel, Nat.add_sub_cancel_left, Nat.zero_add, Nat.add_zero, nI_eq, nI_leI, nI_ltI, nI_m1, m1_lt, neg_lt, neg_le, neg_ge, neg_gt, neg_eq, not_true, not_false_iff]; done) | (simp (disch := first | omega | assumption) only [wrI_s, wrI_o, wrI_r, wrL_1, wrL_r, wrL_s, wrL_o, blk_in, blk_out, blk_r, lit, litL, b00, b11, nI_l, lN_add, lN_mul, lN_sub, nI_add, pk_mul, pk_sub, pk_div, remN, Nat.add_sub_cancel, Nat.add_sub_cancel_left, Nat.zero_add, Nat.add_zero, nI_eq, nI_leI, nI_ltI, nI_m1, m1_lt, neg_lt, neg_le, neg_ge, neg_gt, neg_eq, not_true, not_false_iff]; omega)) (e_ldA (v := G (L + j)) rfl (by omega) (by decide) (by decide) (by rw [p2.1 204 (nc (by decide))]; exact u3' j hj) (e_cl c1 ?_))
        rw [nI_1]
      rw [e]
      exact ih T' ⟨c2, p2.tr c3⟩
    · obtain ⟨p1, p2⟩ := hP
      refine ⟨V, p1, fU.tr (p2.up (by decide)), ?_⟩
      rw [L_X12_sendsHand_87]
      exact e_T (by decide) rfl
