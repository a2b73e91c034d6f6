/-! A SEALED PART IS OPENED, both sides -/
def qF (b : Nat → Nat) (j : Nat) : Nat := if j < 4 then b (31 - j) else b (29 - j)
theorem qF_lt {b : Nat → Nat} (hb : ∀ j, b j < 256) (j : Nat) : qF b j < 256 := by
  unfold qF
  split
  · exact hb _
  · exact hb _
theorem snC {s R n sd : Nat} {b : Nat → Nat} {C M : Mm} (hN : NB s R n sd b C M) (h44 : 44 ≤ n) : F_X2_sealNumber 27 R C = some (lN (nmF (qF b) 6), C) := by
  obtain ⟨g1, g2, g3, g4, g5, g6, g7, g8, g9, g10, g11, g12, g13, g14⟩ := hN
  have ho : okP false 27 R = true := okP_n (by decide) g1
  have rd : ∀ j, j < n → rdI C 27 R j = nI (b j) := g10
  obtain ⟨m, hm⟩ := fu_n (N := 4) (by decide)
  have stp : ∀ j q, j < 4 → L_X2_sealNumber_4 27 R (q + 1) (lN (nmF (qF b) j)) (nI (5 - j)) C = L_X2_sealNumber_4 27 R q (lN (nmF (qF b) (j + 1))) (nI (5 - (j + 1))) C := by
    intro j q hj
    rw [L_X2_sealNumber_4]
    have hv : (256 : Int64) * lN (nmF (qF b) j) + Int32.toInt64 (nI (b (31 - j))) = lN (nmF (qF b) (j + 1)) := by
      rw [nI_l (by have := g5 (31 - j); omega), show (256 : Int64) = lN 256 from rfl, lN_mul, lN_add]
      show _ = lN (256 * nmF (qF b) j + qF b j)
      unfold qF
      rw [if_pos hj]
    have hi : nI (5 - j) + (-1) = nI (5 - (j + 1)) := by
      rw [show 5 - j = 5 - (j + 1) + 1 by omega]
      exact pk_m1 _
    refine e_N (by first | (simp (disch := first | omega | assumption) only [wrI_s, wrI_o, wrI_r, wrL_1, wrL_r, wrL_s, wrL_o, blk_in, blk_out, blk_r, lit, litL, b00, b11, nI_l, lN_add, lN_mul, lN_sub, nI_add, pk_mul, pk_sub, pk_div, remN, Nat.add_sub_cancel, Nat.add_sub_cancel_left, Nat.zero_add, Nat.add_zero, nI_eq, nI_leI, nI_ltI, nI_m1, m1_lt, neg_lt, neg_le, neg_ge, neg_gt, neg_eq, not_true, not_false_iff]; done) | (simp (disch := first | omega | assumption) only [wrI_s, wrI_o, wrI_r, wrL_1, wrL_r, wrL_s, wrL_o, blk_in, blk_out, blk_r, lit, litL, b00, b11, nI_l, lN_add, lN_mul, lN_sub, nI_add, pk_mul, pk_sub, pk_div, remN, Nat.add_sub_cancel, Nat.add_sub_cancel_left, Nat.zero_add, Nat.add_zero, nI_eq, nI_leI, nI_ltI, nI_m1, m1_lt, neg_lt, neg_le, neg_ge, neg_gt, neg_eq, not_true, not_false_iff]; omega)) (e_ldP (j := 31 - j) (by rw [show (26 : Int32) = nI 26 from rfl, nI_add, show 26 + (5 - j) = 31 - j by omega]) ho (show 31 - j < 300 by omega) (by decide) (rd _ (by omega)) (e_tp hv ?_))
    rw [hi]
  have e0 : F_X2_sealNumber 27 R C = L_X2_sealNumber_4 27 R (m + 1 + 1 + 1 + 1 + 1) (lN (nmF (qF b) 0)) (nI (5 - 0)) C := by
    unfold F_X2_sealNumber
    rw [hm]
    rfl
  rw [e0, stp 0 _ (by decide), stp 1 _ (by decide), stp 2 _ (by decide), stp 3 _ (by decide), L_X2_sealNumber_4]
  have q24 := g5 24
  have q25 := g5 25
  refine e_T (by decide) (e_ldP (j := 25) rfl ho (by decide) (by decide) (rd 25 (by omega)) (e_ldP (j := 24) rfl ho (by decide) (by decide) (rd 24 (by omega)) ?_))
  have e25 : Int32.toInt64 (256 * nI (b 25)) = lN (256 * b 25) := by
    rw [show (256 : Int32) = nI 256 from rfl, pk_mul, nI_l (by omega)]
  rw [e25, nI_l (by omega), show (65536 : Int64) = lN 65536 from rfl, lN_mul, lN_add, lN_add]
  have : 65536 * nmF (qF b) 4 + 256 * b 25 + b 24 = nmF (qF b) 6 := by
    show _ = 256 * (256 * nmF (qF b) 4 + b 25) + b 24
    omega
  rw [this]
theorem pnM {s R n sd i m : Nat} {b : Nat → Nat} {C M : Mm} (hN : NB s R n sd b C M) (h44 : 44 ≤ n) : ∃ q, L_X12_isRight_44 (nI i) (nI m) fu 0 5 M = L_X12_isRight_44 (nI i) (nI m) (q + 1) (lN (nmF (qF b) 6)) (-nI 1) M := by
  obtain ⟨g1, g2, g3, g4, g5, g6, g7, g8, g9, g10, g11, g12, g13, g14⟩ := hN
  obtain ⟨q, hq⟩ := fu_n (N := 6) (by decide)
  refine ⟨q, ?_⟩
  have stp : ∀ j p, j < 6 → L_X12_isRight_44 (nI i) (nI m) (p + 1) (lN (nmF (qF b) j)) (nI (5 - j)) M = L_X12_isRight_44 (nI i) (nI m) p (lN (nmF (qF b) (j + 1))) (nI (5 - j) + (-1)) M := by
    intro j p hj
    rw [L_X12_isRight_44]
    unfold L_X12_isRight_76
    have hlt := nmF_lt (b := qF b) (qF_lt g5) j
    have hp : 256 ^ j ≤ 256 ^ 5 := Nat.pow_le_pow_right (by decide) (by omega)
    refine e_N (by first | (simp (disch := first | omega | assumption) only [wrI_s, wrI_o, wrI_r, wrL_1, wrL_r, wrL_s, wrL_o, blk_in, blk_out, blk_r, lit, litL, b00, b11, nI_l, lN_add, lN_mul, lN_sub, nI_add, pk_mul, pk_sub, pk_div, remN, Nat.add_sub_cancel, Nat.add_sub_cancel_left, Nat.zero_add, Nat.add_zero, nI_eq, nI_leI, nI_ltI, nI_m1, m1_lt, neg_lt, neg_le, neg_ge, neg_gt, neg_eq, not_true, not_false_iff]; done) | (simp (disch := first | omega | assumption) only [wrI_s, wrI_o, wrI_r, wrL_1, wrL_r, wrL_s, wrL_o, blk_in, blk_out, blk_r, lit, litL, b00, b11, nI_l, lN_add, lN_mul, lN_sub, nI_add, pk_mul, pk_sub, pk_div, remN, Nat.add_sub_cancel, Nat.add_sub_cancel_left, Nat.zero_add, Nat.add_zero, nI_eq, nI_leI, nI_ltI, nI_m1, m1_lt, neg_lt, neg_le, neg_ge, neg_gt, neg_eq, not_true, not_false_iff]; omega)) ?_
    by_cases h4 : j < 4
    · have hv : (lN (nmF (qF b) j) <<< (Int32.toInt64 8 &&& 63)) ||| Int32.toInt64 (nI (b (31 - j))) = lN (nmF (qF b) (j + 1)) := by
        rw [shlor (by omega) (g5 _)]
        show _ = lN (256 * nmF (qF b) j + qF b j)
        unfold qF
        rw [if_pos h4]
      exact e_T (by first | (simp (disch := first | omega | assumption) only [wrI_s, wrI_o, wrI_r, wrL_1, wrL_r, wrL_s, wrL_o, blk_in, blk_out, blk_r, lit, litL, b00, b11, nI_l, lN_add, lN_mul, lN_sub, nI_add, pk_mul, pk_sub, pk_div, remN, Nat.add_sub_cancel, Nat.add_sub_cancel_left, Nat.zero_add, Nat.add_zero, nI_eq, nI_leI, nI_ltI, nI_m1, m1_lt, neg_lt, neg_le, neg_ge, neg_gt, neg_eq, not_true, not_false_iff]; done) | (simp (disch := first | omega | assumption) only [wrI_s, wrI_o, wrI_r, wrL_1, wrL_r, wrL_s, wrL_o, blk_in, blk_out, blk_r, lit, litL, b00, b11, nI_l, lN_add, lN_mul, lN_sub, nI_add, pk_mul, pk_sub, pk_div, remN, Nat.add_sub_cancel, Nat.add_sub_cancel_left, Nat.zero_add, Nat.add_zero, nI_eq, nI_leI, nI_ltI, nI_m1, m1_lt, neg_lt, neg_le, neg_ge, neg_gt, neg_eq, not_true, not_false_iff]; omega)) (e_ldA (j := 31 - j) (by rw [show (26 : Int32) = nI 26 from rfl, nI_add, show 26 + (5 - j) = 31 - j by omega]) (by omega) (by decide) (by decide) (g12 _ (by omega)) (e_tp hv rfl))
    · have hv : (lN (nmF (qF b) j) <<< (Int32.toInt64 8 &&& 63)) ||| Int32.toInt64 (nI (b (29 - j))) = lN (nmF (qF b) (j + 1)) := by
        rw [shlor (by omega) (g5 _)]
        show _ = lN (256 * nmF (qF b) j + qF b j)
        unfold qF
        rw [if_neg h4]
      exact e_N (by first | (simp (disch := first | omega | assumption) only [wrI_s, wrI_o, wrI_r, wrL_1, wrL_r, wrL_s, wrL_o, blk_in, blk_out, blk_r, lit, litL, b00, b11, nI_l, lN_add, lN_mul, lN_sub, nI_add, pk_mul, pk_sub, pk_div, remN, Nat.add_sub_cancel, Nat.add_sub_cancel_left, Nat.zero_add, Nat.add_zero, nI_eq, nI_leI, nI_ltI, nI_m1, m1_lt, neg_lt, neg_le, neg_ge, neg_gt, neg_eq, not_true, not_false_iff]; done) | (simp (disch := first | omega | assumption) only [wrI_s, wrI_o, wrI_r, wrL_1, wrL_r, wrL_s, wrL_o, blk_in, blk_out, blk_r, lit, litL, b00, b11, nI_l, lN_add, lN_mul, lN_sub, nI_add, pk_mul, pk_sub, pk_div, remN, Nat.add_sub_cancel, Nat.add_sub_cancel_left, Nat.zero_add, Nat.add_zero, nI_eq, nI_leI, nI_ltI, nI_m1, m1_lt, neg_lt, neg_le, neg_ge, neg_gt, neg_eq, not_true, not_false_iff]; omega)) (e_ldA (j := 29 - j) (by rw [show (24 : Int32) = nI 24 from rfl, nI_add, show 24 + (5 - j) = 29 - j by omega]) (by omega) (by decide) (by decide) (g12 _ (by omega)) (e_tp hv rfl))
  have e0 : L_X12_isRight_44 (nI i) (nI m) fu 0 5 M = L_X12_isRight_44 (nI i) (nI m) (q + 1 + 1 + 1 + 1 + 1 + 1 + 1) (lN (nmF (qF b) 0)) (nI (5 - 0)) M := by
    rw [hq]
    rfl
  have k0 : nI (5 - 0) + (-1) = nI (5 - 1) := by decide
  have k1 : nI (5 - 1) + (-1) = nI (5 - 2) := by decide
  have k2 : nI (5 - 2) + (-1) = nI (5 - 3) := by decide
  have k3 : nI (5 - 3) + (-1) = nI (5 - 4) := by decide
  have k4 : nI (5 - 4) + (-1) = nI (5 - 5) := by decide
  have k5 : nI (5 - 5) + (-1) = -nI 1 := by decide
  rw [e0, stp 0 _ (by decide), k0, stp 1 _ (by decide), k1, stp 2 _ (by decide), k2, stp 3 _ (by decide), k3, stp 4 _ (by decide), k4, stp 5 _ (by decide), k5]
abbrev opMl : List Nat := [208, 209, 210, 211, 212, 213, 214, 283]
theorem wrL_self {S : Mm} {c i j : Nat} : wrL S c i j (S.2.1 c i j) = S := by
  have : (fun a b d => if a = c ∧ b = i ∧ d = j then S.2.1 c i j else S.2.1 a b d) = S.2.1 := by
    funext a b d
    by_cases h : a = c ∧ b = i ∧ d = j
    · rw [if_pos h, h.1, h.2.1, h.2.2]
    · rw [if_neg h]
  unfold wrL
  rw [this]
theorem opnT {s R n sd i m : Nat} {b : Nat → Nat} {C M : Mm} (hN : NB s R n sd b C M) (h44 : 44 ≤ n) (hm : m = n - 44) (hi : i < 18) (hx : boxd M) (hkey : ∀ k, k < 16 → isB (M.1 221 0 (16 * i + k)) ∧ C.1 24 i k = M.1 221 0 (16 * i + k)) : ∃ (z : Nat) (C' M' : Mm) (P : Nat → Int32), z ≤ 1 ∧ (∀ k, k < m → isB (P k)) ∧ F_X0_open 27 R (nI m) 24 i C = some (nI z, C') ∧ fq cL C C' ∧ (∀ k, k < m → C'.1 11 0 k = P k) ∧ (cl (F_X12_expand 221 0 (16 * nI i) M) fun r6 S7 => cl (F_X12_nonceOf 278 0 0 (lN (nmF (qF b) 6)) S7) fun r9 S10 => cl (F_X12_cover 278 0 32 283 0 0 (nI m) S10) fun r12 S13 => cl (F_X12_findTag 278 0 0 283 0 0 (nI m) S13) fun r15 S16 => L_X12_isRight_158 (nI i) (nI m) (lN (nmF (qF b) 6)) fu 1 0 S16) = some (nI z, if z = 1 then wrL M' 226 0 i (lN (nmF (qF b) 6)) else M') ∧ fq opMl M M' ∧ (∀ k, k < m → M'.1 283 0 k = P k) := by
  obtain ⟨g1, g2, g3, g4, g5, g6, g7, g8, g9, g10, g11, g12, g13, g14⟩ := hN
  have hB : ∀ k, k < 32 → isB (nI (b k)) := fun k _ => isB_n (g5 k)
  have pB : ∀ k, k < m → isB (nI (b (32 + k))) := fun k _ => isB_n (g5 _)
  have kB : ∀ k, k < 16 → isB (M.1 221 0 (16 * i + k)) := fun k hk => (hkey k hk).1
  have nB : ∀ k, k < 13 → isB (nnC (fun k => nI (b k)) k) := fun k hk => nnC_B hB hk
  have hKB : ∀ k, k < 176 → isB (ksF (fun k => M.1 221 0 (16 * i + k)) k) := fun k _ => ksF_B kB k
  obtain ⟨C', u1, u2, u3⟩ := openC (c1 := 27) (i1 := R) (n := m) (c3 := 24) (i3 := i) (S := C) (key := fun k => M.1 221 0 (16 * i + k)) (h := fun k => nI (b k)) (p := fun k => nI (b (32 + k))) (okW_n (by decide) g1) (by decide) (show 40 + m ≤ 300 by omega) (by decide) (okP_n (by decide) hi) (by decide) (by decide) (by omega) (fun k hk => (hkey k hk).2) kB (fun k hk => g10 k (by omega)) hB (fun k hk => g10 _ (by omega)) pB
  have cB : ∀ k, k < m → isB (covF (ksF (fun k => M.1 221 0 (16 * i + k))) (nnC (fun k => nI (b k))) (fun k => nI (b (32 + k))) k) := fun k hk => covF_B hKB nB (by omega) (pB k hk)
  have eK := keyM (c := 221) (i := 0) (at' := 16 * i) (S := M) hx (by decide) (by decide) (show 16 * i + 16 ≤ 288 by omega) (by decide) kB
  rw [show (fun k => rdI M 221 0 (16 * i + k)) = (fun k => M.1 221 0 (16 * i + k)) from rfl] at eK
  have hx1 : boxd (blk M 208 0 0 176 (ksF (fun k => M.1 221 0 (16 * i + k)))) := fun k hk => by
    rw [blk_ne (by decide)]
    exact hx k hk
  obtain ⟨S2, e2, f2, v2⟩ := nonceM (c := 278) (i := 0) (at' := 0) (num := lN (nmF (qF b) 6)) (S := blk M 208 0 0 176 (ksF (fun k => M.1 221 0 (16 * i + k)))) (h := fun k => nI (b k)) (by decide) (by decide) (by decide) (by decide) (fun k hk => by
    show (blk M 208 0 0 176 (ksF (fun k => M.1 221 0 (16 * i + k)))).1 278 0 (0 + k) = _
    rw [blk_ne (by decide), Nat.zero_add]
    exact g12 k (by omega)) (fun j hj => by
    rw [nm6 (qF_lt g5) j hj]
    have : j = 0 ∨ j = 1 ∨ j = 2 ∨ j = 3 ∨ j = 4 ∨ j = 5 := by omega
    rcases this with rfl | rfl | rfl | rfl | rfl | rfl <;> rfl)
  have hx2 : boxd S2 := fun k hk => by rw [f2.1 207 (by decide)]; exact hx1 k hk
  have s278 : ∀ k, k < n → S2.1 278 0 k = nI (b k) := fun k hk => by rw [f2.1 278 (by decide), blk_ne (by decide)]; exact g12 k hk
  have s208 : ∀ k, k < 176 → S2.1 208 0 k = ksF (fun k => M.1 221 0 (16 * i + k)) k := fun k hk => by rw [f2.1 208 (by decide), blk_in (by omega) (by omega), Nat.sub_zero]
  obtain ⟨S3, e3, f3, -, v3, -⟩ := covM (c1 := 278) (i1 := 0) (a1 := 32) (c2 := 283) (i2 := 0) (a := 0) (n := m) (S := S2) (ks := ksF (fun k => M.1 221 0 (16 * i + k))) (nn := nnC (fun k => nI (b k))) (p := fun k => nI (b (32 + k))) hx2 (by decide) (by decide) (show 32 + m ≤ 300 by omega) (by decide) (by decide) (by decide) (show 0 + m ≤ 300 by omega) (by decide) (by omega) v2 nB s208 hKB (fun k hk => s278 _ (by omega))
  have hx3 : boxd S3 := fun k hk => by rw [f3.1 207 (by decide)]; exact hx2 k hk
  obtain ⟨S4, e4, f4, v4⟩ := tagM (c1 := 278) (i1 := 0) (a1 := 0) (c3 := 283) (i3 := 0) (a3 := 0) (n := m) (S := S3) (ks := ksF (fun k => M.1 221 0 (16 * i + k))) (h := fun k => nI (b k)) (p := covF (ksF (fun k => M.1 221 0 (16 * i + k))) (nnC (fun k => nI (b k))) (fun k => nI (b (32 + k)))) hx3 (by decide) (by decide) (by decide) (by decide) (by decide) (by decide) (show 0 + m ≤ 300 by omega) (by decide) (fun k hk => by
    show S3.1 278 0 (0 + k) = _
    rw [f3.1 278 (by decide), Nat.zero_add]
    exact s278 k (by omega)) hB (fun k hk => by rw [f3.1 211 (by decide)]; exact v2 k hk) (fun k hk => by
    show S3.1 283 0 (0 + k) = _
    exact v3 k hk) cB (fun k hk => by rw [f3.1 208 (by decide)]; exact s208 k hk) hKB (by omega)
  have gM : fq opMl M S4 := (((show fq opMl M (blk M 208 0 0 176 (ksF (fun k => M.1 221 0 (16 * i + k)))) by repeat (first | exact fq.rf | (refine fq.tr ?_ (fq.wr (by decide))) | (refine fq.tr ?_ (fq.bk (by decide))) | (refine fq.tr ?_ (fq.wl (by decide))) | (refine fq.tr ?_ (fq.wR (by decide))))).tr (f2.q.up (by decide))).tr (f3.q.up (by decide))).tr (f4.q.up (by decide))
  have t278 : ∀ k, k < n → S4.1 278 0 k = nI (b k) := fun k hk => by rw [gM.1 278 (nc (by decide))]; exact g12 k hk
  have e226 : S4.2.1 226 0 i = M.2.1 226 0 i := by rw [gM.2.1 226 (nc (by decide))]
  obtain ⟨q, l1, l0⟩ := flagL (fun q v w T => L_X12_isRight_158 (nI i) (nI m) (lN (nmF (qF b) 6)) q v w T) S4 8 (by decide) (fun k => S4.1 214 0 k = nI (b (32 + m + k))) (fun q k hk hP => by
    rw [L_X12_isRight_158]
    unfold L_X12_isRight_197
    rw [nI_1]
    exact e_N (by first | (simp (disch := first | omega | assumption) only [wrI_s, wrI_o, wrI_r, wrL_1, wrL_r, wrL_s, wrL_o, blk_in, blk_out, blk_r, lit, litL, b00, b11, nI_l, lN_add, lN_mul, lN_sub, nI_add, pk_mul, pk_sub, pk_div, remN, Nat.add_sub_cancel, Nat.add_sub_cancel_left, Nat.zero_add, Nat.add_zero, nI_eq, nI_leI, nI_ltI, nI_m1, m1_lt, neg_lt, neg_le, neg_ge, neg_gt, neg_eq, not_true, not_false_iff]; done) | (simp (disch := first | omega | assumption) only [wrI_s, wrI_o, wrI_r, wrL_1, wrL_r, wrL_s, wrL_o, blk_in, blk_out, blk_r, lit, litL, b00, b11, nI_l, lN_add, lN_mul, lN_sub, nI_add, pk_mul, pk_sub, pk_div, remN, Nat.add_sub_cancel, Nat.add_sub_cancel_left, Nat.zero_add, Nat.add_zero, nI_eq, nI_leI, nI_ltI, nI_m1, m1_lt, neg_lt, neg_le, neg_ge, neg_gt, neg_eq, not_true, not_false_iff]; omega)) (e_N (by decide) (e_ldA rfl (by omega) (by decide) (by decide) rfl (e_ldA (j := 32 + m + k) (v := nI (b (32 + m + k))) (by first | (simp (disch := first | omega | assumption) only [wrI_s, wrI_o, wrI_r, wrL_1, wrL_r, wrL_s, wrL_o, blk_in, blk_out, blk_r, lit, litL, b00, b11, nI_l, lN_add, lN_mul, lN_sub, nI_add, pk_mul, pk_sub, pk_div, remN, Nat.add_sub_cancel, Nat.add_sub_cancel_left, Nat.zero_add, Nat.add_zero]; done) | (simp (disch := first | omega | assumption) only [wrI_s, wrI_o, wrI_r, wrL_1, wrL_r, wrL_s, wrL_o, blk_in, blk_out, blk_r, lit, litL, b00, b11, nI_l, lN_add, lN_mul, lN_sub, nI_add, pk_mul, pk_sub, pk_div, remN, Nat.add_sub_cancel, Nat.add_sub_cancel_left, Nat.zero_add, Nat.add_zero]; rfl) | rfl) (by omega) (by decide) (by decide) (t278 _ (by omega)) (e_T hP rfl))))) (fun q k hk hP => by
    rw [L_X12_isRight_158]
    unfold L_X12_isRight_196 L_X12_isRight_197
    rw [nI_1]
    exact e_N (by first | (simp (disch := first | omega | assumption) only [wrI_s, wrI_o, wrI_r, wrL_1, wrL_r, wrL_s, wrL_o, blk_in, blk_out, blk_r, lit, litL, b00, b11, nI_l, lN_add, lN_mul, lN_sub, nI_add, pk_mul, pk_sub, pk_div, remN, Nat.add_sub_cancel, Nat.add_sub_cancel_left, Nat.zero_add, Nat.add_zero, nI_eq, nI_leI, nI_ltI, nI_m1, m1_lt, neg_lt, neg_le, neg_ge, neg_gt, neg_eq, not_true, not_false_iff]; done) | (simp (disch := first | omega | assumption) only [wrI_s, wrI_o, wrI_r, wrL_1, wrL_r, wrL_s, wrL_o, blk_in, blk_out, blk_r, lit, litL, b00, b11, nI_l, lN_add, lN_mul, lN_sub, nI_add, pk_mul, pk_sub, pk_div, remN, Nat.add_sub_cancel, Nat.add_sub_cancel_left, Nat.zero_add, Nat.add_zero, nI_eq, nI_leI, nI_ltI, nI_m1, m1_lt, neg_lt, neg_le, neg_ge, neg_gt, neg_eq, not_true, not_false_iff]; omega)) (e_N (by decide) (e_ldA rfl (by omega) (by decide) (by decide) rfl (e_ldA (j := 32 + m + k) (v := nI (b (32 + m + k))) (by first | (simp (disch := first | omega | assumption) only [wrI_s, wrI_o, wrI_r, wrL_1, wrL_r, wrL_s, wrL_o, blk_in, blk_out, blk_r, lit, litL, b00, b11, nI_l, lN_add, lN_mul, lN_sub, nI_add, pk_mul, pk_sub, pk_div, remN, Nat.add_sub_cancel, Nat.add_sub_cancel_left, Nat.zero_add, Nat.add_zero]; done) | (simp (disch := first | omega | assumption) only [wrI_s, wrI_o, wrI_r, wrL_1, wrL_r, wrL_s, wrL_o, blk_in, blk_out, blk_r, lit, litL, b00, b11, nI_l, lN_add, lN_mul, lN_sub, nI_add, pk_mul, pk_sub, pk_div, remN, Nat.add_sub_cancel, Nat.add_sub_cancel_left, Nat.zero_add, Nat.add_zero]; rfl) | rfl) (by omega) (by decide) (by decide) (t278 _ (by omega)) (e_N hP rfl))))) (fun q k hk => by
    rw [L_X12_isRight_158]
    unfold L_X12_isRight_196 L_X12_isRight_197
    rw [nI_1]
    exact e_N (by first | (simp (disch := first | omega | assumption) only [wrI_s, wrI_o, wrI_r, wrL_1, wrL_r, wrL_s, wrL_o, blk_in, blk_out, blk_r, lit, litL, b00, b11, nI_l, lN_add, lN_mul, lN_sub, nI_add, pk_mul, pk_sub, pk_div, remN, Nat.add_sub_cancel, Nat.add_sub_cancel_left, Nat.zero_add, Nat.add_zero, nI_eq, nI_leI, nI_ltI, nI_m1, m1_lt, neg_lt, neg_le, neg_ge, neg_gt, neg_eq, not_true, not_false_iff]; done) | (simp (disch := first | omega | assumption) only [wrI_s, wrI_o, wrI_r, wrL_1, wrL_r, wrL_s, wrL_o, blk_in, blk_out, blk_r, lit, litL, b00, b11, nI_l, lN_add, lN_mul, lN_sub, nI_add, pk_mul, pk_sub, pk_div, remN, Nat.add_sub_cancel, Nat.add_sub_cancel_left, Nat.zero_add, Nat.add_zero, nI_eq, nI_leI, nI_ltI, nI_m1, m1_lt, neg_lt, neg_le, neg_ge, neg_gt, neg_eq, not_true, not_false_iff]; omega)) (e_T rfl rfl))
  have iff1 : (all8 (fun k => C.1 27 R (32 + m + k)) (tagF (ksF (fun k => M.1 221 0 (16 * i + k))) (nnC (fun k => nI (b k))) (aadF (fun k => nI (b k))) (covF (ksF (fun k => M.1 221 0 (16 * i + k))) (nnC (fun k => nI (b k))) (fun k => nI (b (32 + k)))) m) 8 = true) ↔ ∀ k, k < 8 → S4.1 214 0 k = nI (b (32 + m + k)) := by
    rw [all8_iff]
    constructor
    · intro z k hk
      rw [v4 k hk, ← z k hk]
      exact g10 _ (by omega)
    · intro z k hk
      rw [← v4 k hk, z k hk]
      exact g10 _ (by omega)
  have preM : ∀ X, L_X12_isRight_158 (nI i) (nI m) (lN (nmF (qF b) 6)) fu 1 0 S4 = X → (cl (F_X12_expand 221 0 (16 * nI i) M) fun r6 S7 => cl (F_X12_nonceOf 278 0 0 (lN (nmF (qF b) 6)) S7) fun r9 S10 => cl (F_X12_cover 278 0 32 283 0 0 (nI m) S10) fun r12 S13 => cl (F_X12_findTag 278 0 0 283 0 0 (nI m) S13) fun r15 S16 => L_X12_isRight_158 (nI i) (nI m) (lN (nmF (qF b) 6)) fu 1 0 S16) = X := by
    intro X hX
    rw [show (16 : Int32) * nI i = nI (16 * i) from pk_mul 16 i]
    exact e_cl eK (e_cl e2 (e_cl e3 (e_cl e4 hX)))
  by_cases hs : ∀ k, k < 8 → S4.1 214 0 k = nI (b (32 + m + k))
  · refine ⟨1, C', S4, _, by decide, cB, ?_, u2.q, u3, preM _ ((l1 hs).trans ?_), gM, fun k hk => ?_⟩
    · rw [u1, iff1.mpr hs]
      rfl
    · rw [if_pos rfl, L_X12_isRight_158]
      unfold L_X12_isRight_225
      exact e_T (by decide) (e_N (by decide) (e_stL rfl hi (by decide) (by decide) rfl (e_gd (by decide) rfl)))
    · rw [f4.1 283 (by decide)]
      have := v3 k hk
      rw [Nat.zero_add] at this
      exact this
  · refine ⟨0, C', S4, _, by decide, cB, ?_, u2.q, u3, preM _ ((l0 hs).trans ?_), gM, fun k hk => ?_⟩
    · have hf : all8 (fun k => C.1 27 R (32 + m + k)) (tagF (ksF (fun k => M.1 221 0 (16 * i + k))) (nnC (fun k => nI (b k))) (aadF (fun k => nI (b k))) (covF (ksF (fun k => M.1 221 0 (16 * i + k))) (nnC (fun k => nI (b k))) (fun k => nI (b (32 + k)))) m) 8 = false := by
        cases hh : all8 (fun k => C.1 27 R (32 + m + k)) (tagF (ksF (fun k => M.1 221 0 (16 * i + k))) (nnC (fun k => nI (b k))) (aadF (fun k => nI (b k))) (covF (ksF (fun k => M.1 221 0 (16 * i + k))) (nnC (fun k => nI (b k))) (fun k => nI (b (32 + k)))) m) 8 with
        | false => rfl
        | true => exact absurd (iff1.mp hh) hs
      rw [u1, hf]
      rfl
    · rw [if_neg (by decide), L_X12_isRight_158]
      unfold L_X12_isRight_225
      refine e_T (by decide) (e_T rfl (e_ldL rfl hi (by decide) (by decide) rfl (e_stL rfl hi (by decide) (by decide) rfl (e_gd (by decide) ?_))))
      rw [wrL_self]
      rfl
    · rw [f4.1 283 (by decide)]
      have := v3 k hk
      rw [Nat.zero_add] at this
      exact this
