/-! A FRAME IS OVER: the reference -/
def ov1 (M : Mm) (v n : Nat) : Mm := blk (wrI M 307 0 0 (nI n)) 278 0 0 n (fun i => M.1 265 0 (300 * v + i))
def ov2 (M : Mm) (v n c x g : Nat) : Mm := if g ≤ x + 40 then wrI (ov1 M v n) 270 0 (x % 40) (nI c) else ov1 M v n
def ov3 (M : Mm) (v n c x g : Nat) : Mm := wrI (ov2 M v n c x g) 302 0 0 (M.1 302 0 0 + nI (1 - c))
def ovM (M : Mm) (v n c x g sd s ak : Nat) : Mm := if sd = 9 then ov3 M v n c x g else if ak = 1 then wrI (ov3 M v n c x g) 254 0 sd (-nI 1) else wrI (wrI (wrI (ov3 M v n c x g) 254 0 sd (-nI 1)) 255 0 sd (nI 1)) 256 0 sd (nI s)
abbrev ovl : List Nat := [270, 278, 302, 307]
theorem ov2_q {M : Mm} {v n c x g : Nat} : fq [270, 278, 307] M (ov2 M v n c x g) := by
  unfold ov2 ov1
  by_cases h : g ≤ x + 40
  · rw [if_pos h]
    repeat (first | exact fq.rf | (refine fq.tr ?_ (fq.wr (by decide))) | (refine fq.tr ?_ (fq.bk (by decide))) | (refine fq.tr ?_ (fq.wl (by decide))) | (refine fq.tr ?_ (fq.wR (by decide))))
  · rw [if_neg h]
    repeat (first | exact fq.rf | (refine fq.tr ?_ (fq.wr (by decide))) | (refine fq.tr ?_ (fq.bk (by decide))) | (refine fq.tr ?_ (fq.wl (by decide))) | (refine fq.tr ?_ (fq.wR (by decide))))
theorem ov3_q {M : Mm} {v n c x g : Nat} : fq ovl M (ov3 M v n c x g) := by
  unfold ov3
  exact (ov2_q.up (by decide)).tr (by repeat (first | exact fq.rf | (refine fq.tr ?_ (fq.wr (by decide))) | (refine fq.tr ?_ (fq.bk (by decide))) | (refine fq.tr ?_ (fq.wl (by decide))) | (refine fq.tr ?_ (fq.wR (by decide)))))
theorem ovM_q {M : Mm} {v n c x g sd s ak : Nat} : fq [254, 255, 256, 270, 278, 302, 307] M (ovM M v n c x g sd s ak) := by
  unfold ovM
  refine ((ov3_q (M := M) (v := v) (n := n) (c := c) (x := x) (g := g)).up (by decide)).tr ?_
  split
  · exact fq.rf
  · split
    · repeat (first | exact fq.rf | (refine fq.tr ?_ (fq.wr (by decide))) | (refine fq.tr ?_ (fq.bk (by decide))) | (refine fq.tr ?_ (fq.wl (by decide))) | (refine fq.tr ?_ (fq.wR (by decide))))
    · repeat (first | exact fq.rf | (refine fq.tr ?_ (fq.wr (by decide))) | (refine fq.tr ?_ (fq.bk (by decide))) | (refine fq.tr ?_ (fq.wl (by decide))) | (refine fq.tr ?_ (fq.wR (by decide))))
theorem ov3_278 {M : Mm} {v n c x g : Nat} : (ov3 M v n c x g).1 307 0 0 = nI n ∧ ∀ i, i < n → (ov3 M v n c x g).1 278 0 i = M.1 265 0 (300 * v + i) := by
  unfold ov3 ov2 ov1
  by_cases h : g ≤ x + 40
  · rw [if_pos h]
    refine ⟨(by first | (simp (disch := first | omega | assumption) only [wrI_s, wrI_o, wrI_r, wrL_1, wrL_r, wrL_s, wrL_o, blk_in, blk_out, blk_r, lit, litL, b00, b11, nI_l, lN_add, lN_mul, lN_sub, nI_add, pk_mul, pk_sub, pk_div, remN, Nat.add_sub_cancel, Nat.add_sub_cancel_left, Nat.zero_add, Nat.add_zero]; done) | (simp (disch := first | omega | assumption) only [wrI_s, wrI_o, wrI_r, wrL_1, wrL_r, wrL_s, wrL_o, blk_in, blk_out, blk_r, lit, litL, b00, b11, nI_l, lN_add, lN_mul, lN_sub, nI_add, pk_mul, pk_sub, pk_div, remN, Nat.add_sub_cancel, Nat.add_sub_cancel_left, Nat.zero_add, Nat.add_zero]; rfl) | rfl), fun i hi => ?_⟩
    rw [wrI_ne (by decide), wrI_ne (by decide), blk_in (by omega) (by omega), Nat.sub_zero]
  · rw [if_neg h]
    refine ⟨(by first | (simp (disch := first | omega | assumption) only [wrI_s, wrI_o, wrI_r, wrL_1, wrL_r, wrL_s, wrL_o, blk_in, blk_out, blk_r, lit, litL, b00, b11, nI_l, lN_add, lN_mul, lN_sub, nI_add, pk_mul, pk_sub, pk_div, remN, Nat.add_sub_cancel, Nat.add_sub_cancel_left, Nat.zero_add, Nat.add_zero]; done) | (simp (disch := first | omega | assumption) only [wrI_s, wrI_o, wrI_r, wrL_1, wrL_r, wrL_s, wrL_o, blk_in, blk_out, blk_r, lit, litL, b00, b11, nI_l, lN_add, lN_mul, lN_sub, nI_add, pk_mul, pk_sub, pk_div, remN, Nat.add_sub_cancel, Nat.add_sub_cancel_left, Nat.zero_add, Nat.add_zero]; rfl) | rfl), fun i hi => ?_⟩
    rw [wrI_ne (by decide), blk_in (by omega) (by omega), Nat.sub_zero]
theorem ovM_278 {M : Mm} {v n c x g sd s ak : Nat} : (ovM M v n c x g sd s ak).1 307 0 0 = nI n ∧ ∀ i, i < n → (ovM M v n c x g sd s ak).1 278 0 i = M.1 265 0 (300 * v + i) := by
  obtain ⟨h1, h2⟩ := ov3_278 (M := M) (v := v) (n := n) (c := c) (x := x) (g := g)
  have q : fq [254, 255, 256] (ov3 M v n c x g) (ovM M v n c x g sd s ak) := by
    unfold ovM
    split
    · exact fq.rf
    · split
      · repeat (first | exact fq.rf | (refine fq.tr ?_ (fq.wr (by decide))) | (refine fq.tr ?_ (fq.bk (by decide))) | (refine fq.tr ?_ (fq.wl (by decide))) | (refine fq.tr ?_ (fq.wR (by decide))))
      · repeat (first | exact fq.rf | (refine fq.tr ?_ (fq.wr (by decide))) | (refine fq.tr ?_ (fq.bk (by decide))) | (refine fq.tr ?_ (fq.wl (by decide))) | (refine fq.tr ?_ (fq.wR (by decide))))
  rw [q.1 307 (nc (by decide)), q.1 278 (nc (by decide))]
  exact ⟨h1, h2⟩
theorem ovE {v n sd c x g s ak : Nat} {M : Mm} (hv : v < 300) (hn1 : 1 ≤ n) (hn : n ≤ 300) (hsd : sd ≤ 9) (hc : c ≤ 1) (hx : x < g) (hg : g < 2 ^ 30) (h260 : M.1 260 0 v = nI sd) (h262 : M.1 262 0 v = nI n) (h263 : M.1 263 0 v = nI c) (h264 : M.1 264 0 v = nI x) (h301 : M.1 301 0 0 = nI g) (h298 : M.1 298 0 0 = nI s) (hak : sd < 9 → (ak = 1 ∧ M.1 265 0 (300 * v) = nI 212 ∧ n = 14) ∨ (ak = 0 ∧ ¬ M.1 265 0 (300 * v) = nI 212)) : F_X12_over (nI v) M = L_X12_over_170 (nI sd) (nI c) (ovM M v n c x g sd s ak) := by
  have e35 : L_X12_over_35 (nI v) (nI sd) (nI c) (nI x) fu 0 (wrI M 307 0 0 (nI n)) = L_X12_over_101 (nI sd) (nI c) (ov2 M v n c x g) := by
    refine loopB (fun m w S => L_X12_over_35 (nI v) (nI sd) (nI c) (nI x) m w S) (wrI M 307 0 0 (nI n)) 278 0 0 n (fun i => M.1 265 0 (300 * v + i)) (by omega) (fun m i hi => ?_) (fun m => ?_)
    · rw [L_X12_over_35]
      refine e_gf (v := nI n) (by first | (simp (disch := first | omega | assumption) only [wrI_s, wrI_o, wrI_r, wrL_1, wrL_r, wrL_s, wrL_o, blk_in, blk_out, blk_r, lit, litL, b00, b11, nI_l, lN_add, lN_mul, lN_sub, nI_add, pk_mul, pk_sub, pk_div, remN, Nat.add_sub_cancel, Nat.add_sub_cancel_left, Nat.zero_add, Nat.add_zero]; done) | (simp (disch := first | omega | assumption) only [wrI_s, wrI_o, wrI_r, wrL_1, wrL_r, wrL_s, wrL_o, blk_in, blk_out, blk_r, lit, litL, b00, b11, nI_l, lN_add, lN_mul, lN_sub, nI_add, pk_mul, pk_sub, pk_div, remN, Nat.add_sub_cancel, Nat.add_sub_cancel_left, Nat.zero_add, Nat.add_zero]; rfl) | rfl) (e_N (by first | (simp (disch := first | omega | assumption) only [wrI_s, wrI_o, wrI_r, wrL_1, wrL_r, wrL_s, wrL_o, blk_in, blk_out, blk_r, lit, litL, b00, b11, nI_l, lN_add, lN_mul, lN_sub, nI_add, pk_mul, pk_sub, pk_div, remN, Nat.add_sub_cancel, Nat.add_sub_cancel_left, Nat.zero_add, Nat.add_zero, nI_eq, nI_leI, nI_ltI, nI_m1, m1_lt, neg_lt, neg_le, neg_ge, neg_gt, neg_eq, not_true, not_false_iff]; done) | (simp (disch := first | omega | assumption) only [wrI_s, wrI_o, wrI_r, wrL_1, wrL_r, wrL_s, wrL_o, blk_in, blk_out, blk_r, lit, litL, b00, b11, nI_l, lN_add, lN_mul, lN_sub, nI_add, pk_mul, pk_sub, pk_div, remN, Nat.add_sub_cancel, Nat.add_sub_cancel_left, Nat.zero_add, Nat.add_zero, nI_eq, nI_leI, nI_ltI, nI_m1, m1_lt, neg_lt, neg_le, neg_ge, neg_gt, neg_eq, not_true, not_false_iff]; omega)) (e_ldA (j := 300 * v + i) (v := M.1 265 0 (300 * v + i)) (by first | (simp (disch := first | omega | assumption) only [wrI_s, wrI_o, wrI_r, wrL_1, wrL_r, wrL_s, wrL_o, blk_in, blk_out, blk_r, lit, litL, b00, b11, nI_l, lN_add, lN_mul, lN_sub, nI_add, pk_mul, pk_sub, pk_div, remN, Nat.add_sub_cancel, Nat.add_sub_cancel_left, Nat.zero_add, Nat.add_zero]; done) | (simp (disch := first | omega | assumption) only [wrI_s, wrI_o, wrI_r, wrL_1, wrL_r, wrL_s, wrL_o, blk_in, blk_out, blk_r, lit, litL, b00, b11, nI_l, lN_add, lN_mul, lN_sub, nI_add, pk_mul, pk_sub, pk_div, remN, Nat.add_sub_cancel, Nat.add_sub_cancel_left, Nat.zero_add, Nat.add_zero]; rfl) | rfl) (by omega) (by decide) (by decide) (by first | (simp (disch := first | omega | assumption) only [wrI_s, wrI_o, wrI_r, wrL_1, wrL_r, wrL_s, wrL_o, blk_in, blk_out, blk_r, lit, litL, b00, b11, nI_l, lN_add, lN_mul, lN_sub, nI_add, pk_mul, pk_sub, pk_div, remN, Nat.add_sub_cancel, Nat.add_sub_cancel_left, Nat.zero_add, Nat.add_zero]; done) | (simp (disch := first | omega | assumption) only [wrI_s, wrI_o, wrI_r, wrL_1, wrL_r, wrL_s, wrL_o, blk_in, blk_out, blk_r, lit, litL, b00, b11, nI_l, lN_add, lN_mul, lN_sub, nI_add, pk_mul, pk_sub, pk_div, remN, Nat.add_sub_cancel, Nat.add_sub_cancel_left, Nat.zero_add, Nat.add_zero]; rfl) | rfl) (e_stA rfl (by omega) (by decide) (by decide) rfl ?_)))
      rw [nI_1, ← blk_succ, Nat.zero_add]
    · rw [L_X12_over_35]
      refine e_gf (v := nI n) (by first | (simp (disch := first | omega | assumption) only [wrI_s, wrI_o, wrI_r, wrL_1, wrL_r, wrL_s, wrL_o, blk_in, blk_out, blk_r, lit, litL, b00, b11, nI_l, lN_add, lN_mul, lN_sub, nI_add, pk_mul, pk_sub, pk_div, remN, Nat.add_sub_cancel, Nat.add_sub_cancel_left, Nat.zero_add, Nat.add_zero]; done) | (simp (disch := first | omega | assumption) only [wrI_s, wrI_o, wrI_r, wrL_1, wrL_r, wrL_s, wrL_o, blk_in, blk_out, blk_r, lit, litL, b00, b11, nI_l, lN_add, lN_mul, lN_sub, nI_add, pk_mul, pk_sub, pk_div, remN, Nat.add_sub_cancel, Nat.add_sub_cancel_left, Nat.zero_add, Nat.add_zero]; rfl) | rfl) (e_T (by first | (simp (disch := first | omega | assumption) only [wrI_s, wrI_o, wrI_r, wrL_1, wrL_r, wrL_s, wrL_o, blk_in, blk_out, blk_r, lit, litL, b00, b11, nI_l, lN_add, lN_mul, lN_sub, nI_add, pk_mul, pk_sub, pk_div, remN, Nat.add_sub_cancel, Nat.add_sub_cancel_left, Nat.zero_add, Nat.add_zero, nI_eq, nI_leI, nI_ltI, nI_m1, m1_lt, neg_lt, neg_le, neg_ge, neg_gt, neg_eq, not_true, not_false_iff]; done) | (simp (disch := first | omega | assumption) only [wrI_s, wrI_o, wrI_r, wrL_1, wrL_r, wrL_s, wrL_o, blk_in, blk_out, blk_r, lit, litL, b00, b11, nI_l, lN_add, lN_mul, lN_sub, nI_add, pk_mul, pk_sub, pk_div, remN, Nat.add_sub_cancel, Nat.add_sub_cancel_left, Nat.zero_add, Nat.add_zero, nI_eq, nI_leI, nI_ltI, nI_m1, m1_lt, neg_lt, neg_le, neg_ge, neg_gt, neg_eq, not_true, not_false_iff]; omega)) (e_gf (v := nI g) (by first | (simp (disch := first | omega | assumption) only [h301, wrI_s, wrI_o, wrI_r, wrL_1, wrL_r, wrL_s, wrL_o, blk_in, blk_out, blk_r, lit, litL, b00, b11, nI_l, lN_add, lN_mul, lN_sub, nI_add, pk_mul, pk_sub, pk_div, remN, Nat.add_sub_cancel, Nat.add_sub_cancel_left, Nat.zero_add, Nat.add_zero]; done) | (simp (disch := first | omega | assumption) only [h301, wrI_s, wrI_o, wrI_r, wrL_1, wrL_r, wrL_s, wrL_o, blk_in, blk_out, blk_r, lit, litL, b00, b11, nI_l, lN_add, lN_mul, lN_sub, nI_add, pk_mul, pk_sub, pk_div, remN, Nat.add_sub_cancel, Nat.add_sub_cancel_left, Nat.zero_add, Nat.add_zero]; rfl) | rfl) ?_))
      rw [pk_sub (by omega)]
      unfold ov2 ov1
      by_cases h40 : g ≤ x + 40
      · rw [if_pos h40]
        refine e_N (by first | (simp (disch := first | omega | assumption) only [wrI_s, wrI_o, wrI_r, wrL_1, wrL_r, wrL_s, wrL_o, blk_in, blk_out, blk_r, lit, litL, b00, b11, nI_l, lN_add, lN_mul, lN_sub, nI_add, pk_mul, pk_sub, pk_div, remN, Nat.add_sub_cancel, Nat.add_sub_cancel_left, Nat.zero_add, Nat.add_zero, nI_eq, nI_leI, nI_ltI, nI_m1, m1_lt, neg_lt, neg_le, neg_ge, neg_gt, neg_eq, not_true, not_false_iff]; done) | (simp (disch := first | omega | assumption) only [wrI_s, wrI_o, wrI_r, wrL_1, wrL_r, wrL_s, wrL_o, blk_in, blk_out, blk_r, lit, litL, b00, b11, nI_l, lN_add, lN_mul, lN_sub, nI_add, pk_mul, pk_sub, pk_div, remN, Nat.add_sub_cancel, Nat.add_sub_cancel_left, Nat.zero_add, Nat.add_zero, nI_eq, nI_leI, nI_ltI, nI_m1, m1_lt, neg_lt, neg_le, neg_ge, neg_gt, neg_eq, not_true, not_false_iff]; omega)) ?_
        unfold L_X12_over_100
        by_cases h0 : c = 0
        · exact e_T (by rw [h0]; rfl) (e_stA (j := x % 40) (by first | (simp (disch := first | omega | assumption) only [wrI_s, wrI_o, wrI_r, wrL_1, wrL_r, wrL_s, wrL_o, blk_in, blk_out, blk_r, lit, litL, b00, b11, nI_l, lN_add, lN_mul, lN_sub, nI_add, pk_mul, pk_sub, pk_div, remN, Nat.add_sub_cancel, Nat.add_sub_cancel_left, Nat.zero_add, Nat.add_zero]; done) | (simp (disch := first | omega | assumption) only [wrI_s, wrI_o, wrI_r, wrL_1, wrL_r, wrL_s, wrL_o, blk_in, blk_out, blk_r, lit, litL, b00, b11, nI_l, lN_add, lN_mul, lN_sub, nI_add, pk_mul, pk_sub, pk_div, remN, Nat.add_sub_cancel, Nat.add_sub_cancel_left, Nat.zero_add, Nat.add_zero]; rfl) | rfl) (Nat.mod_lt _ (by decide)) (by decide) (by decide) (w := nI c) (by rw [h0]; rfl) rfl)
        · have h1 : c = 1 := by omega
          exact e_N (by rw [h1]; decide) (e_stA (j := x % 40) (by first | (simp (disch := first | omega | assumption) only [wrI_s, wrI_o, wrI_r, wrL_1, wrL_r, wrL_s, wrL_o, blk_in, blk_out, blk_r, lit, litL, b00, b11, nI_l, lN_add, lN_mul, lN_sub, nI_add, pk_mul, pk_sub, pk_div, remN, Nat.add_sub_cancel, Nat.add_sub_cancel_left, Nat.zero_add, Nat.add_zero]; done) | (simp (disch := first | omega | assumption) only [wrI_s, wrI_o, wrI_r, wrL_1, wrL_r, wrL_s, wrL_o, blk_in, blk_out, blk_r, lit, litL, b00, b11, nI_l, lN_add, lN_mul, lN_sub, nI_add, pk_mul, pk_sub, pk_div, remN, Nat.add_sub_cancel, Nat.add_sub_cancel_left, Nat.zero_add, Nat.add_zero]; rfl) | rfl) (Nat.mod_lt _ (by decide)) (by decide) (by decide) (w := nI c) (by rw [h1]; rfl) rfl)
      · rw [if_neg h40]
        exact e_T (by first | (simp (disch := first | omega | assumption) only [wrI_s, wrI_o, wrI_r, wrL_1, wrL_r, wrL_s, wrL_o, blk_in, blk_out, blk_r, lit, litL, b00, b11, nI_l, lN_add, lN_mul, lN_sub, nI_add, pk_mul, pk_sub, pk_div, remN, Nat.add_sub_cancel, Nat.add_sub_cancel_left, Nat.zero_add, Nat.add_zero, nI_eq, nI_leI, nI_ltI, nI_m1, m1_lt, neg_lt, neg_le, neg_ge, neg_gt, neg_eq, not_true, not_false_iff]; done) | (simp (disch := first | omega | assumption) only [wrI_s, wrI_o, wrI_r, wrL_1, wrL_r, wrL_s, wrL_o, blk_in, blk_out, blk_r, lit, litL, b00, b11, nI_l, lN_add, lN_mul, lN_sub, nI_add, pk_mul, pk_sub, pk_div, remN, Nat.add_sub_cancel, Nat.add_sub_cancel_left, Nat.zero_add, Nat.add_zero, nI_eq, nI_leI, nI_ltI, nI_m1, m1_lt, neg_lt, neg_le, neg_ge, neg_gt, neg_eq, not_true, not_false_iff]; omega)) rfl
  unfold F_X12_over
  refine e_ldA rfl hv (by decide) (by decide) h260 (e_ldA rfl hv (by decide) (by decide) h263 (e_ldA rfl hv (by decide) (by decide) h264 (e_ldA rfl hv (by decide) (by decide) h262 (e_pf rfl ?_))))
  rw [e35]
  have h302 : (ov2 M v n c x g).1 302 0 0 = M.1 302 0 0 := by rw [ov2_q.1 302 (nc (by decide))]
  have e115 : L_X12_over_101 (nI sd) (nI c) (ov2 M v n c x g) = L_X12_over_115 (nI sd) (nI c) (M.1 302 0 0) (nI (1 - c)) (ov2 M v n c x g) := by
    unfold L_X12_over_101
    refine e_gf h302 ?_
    by_cases h0 : c = 0
    · exact e_T (by rw [h0]; rfl) (by rw [h0]; rfl)
    · have h1 : c = 1 := by omega
      exact e_N (by rw [h1]; decide) (by rw [h1]; rfl)
  rw [e115]
  unfold L_X12_over_115 ovM
  refine e_pf rfl ?_
  show (if 9 ≤ nI sd then L_X12_over_170 (nI sd) (nI c) (ov3 M v n c x g) else stA (ov3 M v n c x g) 254 0 9 1 (nI sd) (-1) fun S13 => ldA S13 278 0 300 1 0 fun x14 => if x14 = 212 then (gf S13 307 0 fun x15 => if x15 = 14 then (L_X12_over_170 (nI sd) (nI c) S13) else (L_X12_over_153 (nI sd) (nI c) S13)) else (L_X12_over_153 (nI sd) (nI c) S13)) = _
  by_cases h9 : sd = 9
  · rw [if_pos h9]
    exact e_T (by rw [h9]; decide) rfl
  · rw [if_neg h9]
    obtain ⟨b1, b2⟩ := ov3_278 (M := M) (v := v) (n := n) (c := c) (x := x) (g := g)
    have b3 := b2 0 (by omega)
    rw [Nat.add_zero] at b3
    have q298 : (ov3 M v n c x g).1 298 0 0 = nI s := by rw [ov3_q.1 298 (nc (by decide))]; exact h298
    refine e_N (by first | (simp (disch := first | omega | assumption) only [wrI_s, wrI_o, wrI_r, wrL_1, wrL_r, wrL_s, wrL_o, blk_in, blk_out, blk_r, lit, litL, b00, b11, nI_l, lN_add, lN_mul, lN_sub, nI_add, pk_mul, pk_sub, pk_div, remN, Nat.add_sub_cancel, Nat.add_sub_cancel_left, Nat.zero_add, Nat.add_zero, nI_eq, nI_leI, nI_ltI, nI_m1, m1_lt, neg_lt, neg_le, neg_ge, neg_gt, neg_eq, not_true, not_false_iff]; done) | (simp (disch := first | omega | assumption) only [wrI_s, wrI_o, wrI_r, wrL_1, wrL_r, wrL_s, wrL_o, blk_in, blk_out, blk_r, lit, litL, b00, b11, nI_l, lN_add, lN_mul, lN_sub, nI_add, pk_mul, pk_sub, pk_div, remN, Nat.add_sub_cancel, Nat.add_sub_cancel_left, Nat.zero_add, Nat.add_zero, nI_eq, nI_leI, nI_ltI, nI_m1, m1_lt, neg_lt, neg_le, neg_ge, neg_gt, neg_eq, not_true, not_false_iff]; omega)) (e_stA rfl (by omega) (by decide) (by decide) (w := -nI 1) rfl (e_ldA (j := 0) (v := M.1 265 0 (300 * v)) rfl (by decide) (by decide) (by decide) (by rw [wrI_ne (by decide)]; exact b3) ?_))
    rcases hak (by omega) with ⟨k1, k2, k3⟩ | ⟨k1, k2⟩
    · rw [if_pos k1]
      exact e_T k2 (e_gf (v := nI 14) (by rw [wrI_ne (by decide), b1, k3]) (e_T rfl rfl))
    · rw [if_neg (show ¬ ak = 1 by omega)]
      unfold L_X12_over_153
      exact e_N k2 (e_stA rfl (by omega) (by decide) (by decide) (w := nI 1) (by decide) (e_gf (v := nI s) (by rw [wrI_ne (by decide), wrI_ne (by decide)]; exact q298) (e_stA rfl (by omega) (by decide) (by decide) rfl rfl)))
theorem ov170 {sd : Int32} {S : Mm} : L_X12_over_170 sd 0 S = some ((), S) := by
  unfold L_X12_over_170
  obtain ⟨m, hm⟩ := fu_n (N := 0) (by decide)
  rw [hm, L_X12_over_173]
  exact e_N (by decide) (e_T rfl rfl)
/-! what is over, all together -/
def OVR (s g l : Nat) (M : Mm) (E : Nat → Bool) (T : Mm) : Prop := fq [254, 255, 256, 270, 278, 302, 307] M T ∧ T.1 302 0 0 = M.1 302 0 0 + nI (cnt E l) ∧ (∀ k, k < 9 → (∀ v, v < l → M.1 254 0 k = nI v → E v = true → T.1 254 0 k = -nI 1 ∧ (M.1 265 0 (300 * v) = nI 212 → T.1 255 0 k = M.1 255 0 k ∧ T.1 256 0 k = M.1 256 0 k) ∧ (¬ M.1 265 0 (300 * v) = nI 212 → T.1 255 0 k = nI 1 ∧ T.1 256 0 k = nI s)) ∧ ((∀ v, v < l → M.1 254 0 k = nI v → E v = false) → T.1 254 0 k = M.1 254 0 k ∧ T.1 255 0 k = M.1 255 0 k ∧ T.1 256 0 k = M.1 256 0 k)) ∧ (∀ r, r < 40 → ((∃ v x, v < l ∧ E v = true ∧ x < g ∧ M.1 264 0 v = nI x ∧ g ≤ x + 40 ∧ x % 40 = r) → T.1 270 0 r = nI 0) ∧ ((¬ ∃ v x, v < l ∧ E v = true ∧ x < g ∧ M.1 264 0 v = nI x ∧ g ≤ x + 40 ∧ x % 40 = r) → T.1 270 0 r = M.1 270 0 r))
theorem OVR.z {s g l : Nat} {M : Mm} {E : Nat → Bool} (h : ∀ v, v < l → E v = false) : OVR s g l M E M := by
  refine ⟨fq.rf, ?_, fun k hk => ⟨fun v hv _ he => ?_, fun _ => ⟨rfl, rfl, rfl⟩⟩, fun r hr => ⟨fun he => ?_, fun _ => rfl⟩⟩
  · rw [cnt_0 h]
    exact (Int32.add_zero _).symm
  · rw [h v hv] at he; cases he
  · obtain ⟨v, x, hv, he, -⟩ := he
    rw [h v hv] at he; cases he
theorem OVR.cg {s g l : Nat} {M T : Mm} {E E' : Nat → Bool} (h : OVR s g l M E T) (he : ∀ v, v < l → E' v = E v) : OVR s g l M E' T := by
  obtain ⟨h1, h2, h3, h4⟩ := h
  refine ⟨h1, ?_, fun k hk => ⟨fun v hv hm e => (h3 k hk).1 v hv hm (by rw [← he v hv]; exact e), fun q => (h3 k hk).2 (fun v hv hm => by rw [← he v hv]; exact q v hv hm)⟩, fun r hr => ⟨fun q => (h4 r hr).1 ?_, fun q => (h4 r hr).2 (fun q2 => q ?_)⟩⟩
  · rw [cnt_congr he]
    exact h2
  · obtain ⟨v, x, hv, e, y⟩ := q
    exact ⟨v, x, hv, by rw [← he v hv]; exact e, y⟩
  · obtain ⟨v, x, hv, e, y⟩ := q2
    exact ⟨v, x, hv, by rw [he v hv]; exact e, y⟩
theorem cnt_ins {E E' : Nat → Bool} {v0 : Nat} : ∀ l, v0 < l → E v0 = false → (∀ v, v < l → E' v = (E v || decide (v = v0))) → cnt E' l = cnt E l + 1 := by
  intro l
  induction l with
  | zero => intro h; omega
  | succ l ih =>
    intro h0 hf he
    show cnt E' l + (if E' l = true then 1 else 0) = cnt E l + (if E l = true then 1 else 0) + 1
    by_cases hl : v0 = l
    · subst hl
      rw [cnt_congr (p := E') (q := E) (fun v hv => by rw [he v (by omega), decide_eq_false (by omega), Bool.or_false]), he v0 (by omega), hf, decide_eq_true rfl]
      rfl
    · rw [ih (by omega) hf (fun v hv => he v (by omega)), he l (by omega), decide_eq_false (fun e => hl e.symm), Bool.or_false]
      omega
theorem OVR.st {s g l v0 n x sd ak : Nat} {M T : Mm} {E E' : Nat → Bool} (h : OVR s g l M E T) (hl : l < 2 ^ 31) (hv0 : v0 < l) (hE : E v0 = false) (hE' : ∀ v, v < l → E' v = (E v || decide (v = v0))) (hsd : sd ≤ 9) (hx : x < g) (hg : g < 2 ^ 30) (h264 : M.1 264 0 v0 = nI x) (hu : ∀ k, k < 9 → M.1 254 0 k = nI v0 → k = sd) (hs : sd < 9 → M.1 254 0 sd = nI v0) (hak : sd < 9 → (ak = 1 ∧ M.1 265 0 (300 * v0) = nI 212) ∨ (ak = 0 ∧ ¬ M.1 265 0 (300 * v0) = nI 212)) : OVR s g l M E' (ovM T v0 n 0 x g sd s ak) := by
  obtain ⟨h1, h2, h3, h4⟩ := h
  have hT : E' v0 = true := by rw [hE' v0 hv0, decide_eq_true rfl, Bool.or_true]
  have hO : ∀ v, v < l → ¬ v = v0 → E' v = E v := fun v hv hne => by rw [hE' v hv, decide_eq_false hne, Bool.or_false]
  have q3 : ∀ y, ¬ y = 254 → ¬ y = 255 → ¬ y = 256 → (ovM T v0 n 0 x g sd s ak).1 y = (ov3 T v0 n 0 x g).1 y := by
    intro y y1 y2 y3
    unfold ovM
    split
    · rfl
    · split
      · rw [wrI_ne y1]
      · rw [wrI_ne y3, wrI_ne y2, wrI_ne y1]
  have t3 : ∀ y, ¬ y = 270 → ¬ y = 278 → ¬ y = 302 → ¬ y = 307 → (ov3 T v0 n 0 x g).1 y = T.1 y := fun y y1 y2 y3 y4 => ov3_q.1 y (by simp only [List.mem_cons, List.not_mem_nil, or_false, not_or]; exact ⟨y1, y2, y3, y4⟩)
  refine ⟨h1.tr ovM_q, ?_, fun k hk => ?_, fun r hr => ?_⟩
  · rw [q3 302 (by decide) (by decide) (by decide)]
    unfold ov3
    rw [wrI_s, h2, cnt_ins l hv0 hE hE', ← nI_add, Int32.add_assoc]
  · by_cases hk9 : k = sd
    · have hsd9 : sd < 9 := by omega
      have hm := hs hsd9
      have hv : ∀ v, v < l → M.1 254 0 k = nI v → v = v0 := fun v hv e => by
        rw [hk9, hm] at e
        exact ((nI_eq (by omega) (by omega)).mp e).symm
      obtain ⟨t254, t255, t256⟩ := (h3 k hk).2 (fun v hv' e => by rw [hv v hv' e]; exact hE)
      refine ⟨fun v hv' e _ => ?_, fun q => ?_⟩
      · rw [hv v hv' e]
        unfold ovM
        rw [if_neg (by omega), ← hk9]
        rcases hak hsd9 with ⟨a1, a2⟩ | ⟨a1, a2⟩
        · rw [if_pos a1]
          refine ⟨wrI_s, fun _ => ?_, fun z => absurd a2 z⟩
          rw [wrI_ne (by decide), wrI_ne (by decide), t3 255 (by decide) (by decide) (by decide) (by decide), t3 256 (by decide) (by decide) (by decide) (by decide)]
          exact ⟨t255, t256⟩
        · rw [if_neg (by omega)]
          refine ⟨?_, fun z => absurd z a2, fun _ => ⟨?_, wrI_s⟩⟩
          · rw [wrI_ne (by decide), wrI_ne (by decide), wrI_s]
          · rw [wrI_ne (by decide), wrI_s]
      · have := q v0 hv0 (by rw [hk9]; exact hm)
        rw [hT] at this
        cases this
    · have e4 : (ovM T v0 n 0 x g sd s ak).1 254 0 k = T.1 254 0 k ∧ (ovM T v0 n 0 x g sd s ak).1 255 0 k = T.1 255 0 k ∧ (ovM T v0 n 0 x g sd s ak).1 256 0 k = T.1 256 0 k := by
        have u4 := t3 254 (by decide) (by decide) (by decide) (by decide)
        have u5 := t3 255 (by decide) (by decide) (by decide) (by decide)
        have u6 := t3 256 (by decide) (by decide) (by decide) (by decide)
        unfold ovM
        split
        · rw [u4, u5, u6]; exact ⟨rfl, rfl, rfl⟩
        · split
          · rw [wrI_o (by omega), wrI_ne (by decide), wrI_ne (by decide), u4, u5, u6]; exact ⟨rfl, rfl, rfl⟩
          · refine ⟨?_, ?_, ?_⟩
            · rw [wrI_ne (by decide), wrI_ne (by decide), wrI_o (by omega), u4]
            · rw [wrI_ne (by decide), wrI_o (by omega), wrI_ne (by decide), u5]
            · rw [wrI_o (by omega), wrI_ne (by decide), wrI_ne (by decide), u6]
      rw [e4.1, e4.2.1, e4.2.2]
      have hne : ∀ v, M.1 254 0 k = nI v → ¬ v = v0 := fun v e z => hk9 (hu k hk (by rw [e, z]))
      exact ⟨fun v hv e e' => (h3 k hk).1 v hv e (by rw [← hO v hv (hne v e)]; exact e'), fun q => (h3 k hk).2 (fun v hv e => by rw [← hO v hv (hne v e)]; exact q v hv e)⟩
  · have e0 : (ovM T v0 n 0 x g sd s ak).1 270 0 r = (if g ≤ x + 40 ∧ x % 40 = r then nI 0 else T.1 270 0 r) := by
      rw [q3 270 (by decide) (by decide) (by decide)]
      unfold ov3 ov2 ov1
      rw [wrI_ne (by decide)]
      by_cases h40 : g ≤ x + 40
      · rw [if_pos h40]
        by_cases hxr : x % 40 = r
        · rw [if_pos ⟨h40, hxr⟩, hxr, wrI_s]
        · rw [if_neg (fun z => hxr z.2), wrI_o (by omega), blk_ne (by decide), wrI_ne (by decide)]
      · rw [if_neg h40, if_neg (fun z => h40 z.1), blk_ne (by decide), wrI_ne (by decide)]
    rw [e0]
    by_cases hw : g ≤ x + 40 ∧ x % 40 = r
    · rw [if_pos hw]
      exact ⟨fun _ => rfl, fun q => absurd ⟨v0, x, hv0, hT, hx, h264, hw⟩ q⟩
    · rw [if_neg hw]
      refine ⟨fun q => (h4 r hr).1 ?_, fun q => (h4 r hr).2 (fun q2 => q ?_)⟩
      · obtain ⟨v, y, hv, e, hy, z1, z2⟩ := q
        have hne : ¬ v = v0 := fun z => by
          rw [z, h264] at z1
          have : x = y := (nI_eq (by omega) (by omega)).mp z1
          exact hw (by rw [this]; exact z2)
        exact ⟨v, y, hv, by rw [← hO v hv hne]; exact e, hy, z1, z2⟩
      · obtain ⟨v, y, hv, e, z⟩ := q2
        exact ⟨v, y, hv, by rw [hE' v hv, e]; rfl, z⟩
