/-! ALL NODES BEGIN: the step, the loop -/
theorem m65y {K : Int32 → Mm → Option (Unit × Mm)} {M : Mm} {k u : Nat} (hk : k < 9) (h1 : M.1 254 0 k = -nI 1) (h2 : M.1 257 0 k = nI 0) (h3 : M.1 255 0 k = nI 0) (hu : 0 < u) (hu2 : u ≤ 12) (h4 : M.1 234 0 k = nI u) (h5 : M.1 248 0 k = 0) (h6 : M.1 299 0 0 = nI 3) : L_X12_begin_65 K (nI k) M = (cl (F_X12_sendsAtHand (nI k) M) fun _ S => K (nI (k + 1)) S) := by
  unfold L_X12_begin_65 L_X12_begin_123
  refine e_ldA rfl hk (by decide) (by decide) h1 (e_N (by decide) (e_ldA rfl hk (by decide) (by decide) h2 (e_T rfl (e_ldA rfl hk (by decide) (by decide) h3 (e_T rfl (e_ldA rfl hk (by decide) (by decide) h4 (e_N (nI_nle hu (by omega)) (e_ldA rfl hk (by decide) (by decide) h5 (e_T rfl (e_gf h6 (e_N (by decide) ?_)))))))))))
  rw [nI_1]
theorem m65n {K : Int32 → Mm → Option (Unit × Mm)} {M : Mm} {k u q v x : Nat} (hk : k < 9) (h1 : M.1 254 0 k = -nI 1 ∨ (v < 1000 ∧ M.1 254 0 k = nI v)) (h2 : M.1 257 0 k = nI x) (hx : x ≤ 2) {y : Nat} (h3 : M.1 255 0 k = nI y) (hy : y ≤ 1) (hu2 : u ≤ 12) (h4 : M.1 234 0 k = nI u) (h6 : M.1 299 0 0 = nI q) (hq : q ≤ 3) (hno : ¬ (M.1 254 0 k = -nI 1 ∧ x = 0 ∧ y = 0 ∧ 0 < u ∧ M.1 248 0 k = 0 ∧ q = 3)) : L_X12_begin_65 K (nI k) M = K (nI (k + 1)) M := by
  unfold L_X12_begin_65 L_X12_begin_123
  rw [nI_1]
  rcases h1 with h1 | ⟨hv, h1⟩
  · refine e_ldA rfl hk (by decide) (by decide) h1 (e_N (by decide) (e_ldA rfl hk (by decide) (by decide) h2 ?_))
    by_cases hx0 : x = 0
    · refine e_T (by rw [hx0]; rfl) (e_ldA rfl hk (by decide) (by decide) h3 ?_)
      by_cases hy0 : y = 0
      · refine e_T (by rw [hy0]; rfl) (e_ldA rfl hk (by decide) (by decide) h4 ?_)
        by_cases hu0 : u = 0
        · exact e_T (by rw [hu0]; decide) rfl
        · refine e_N (nI_nle (by omega) (by omega)) (e_ldA rfl hk (by decide) (by decide) rfl ?_)
          by_cases hb : M.1 248 0 k = 0
          · refine e_T hb (e_gf h6 (e_T ?_ rfl))
            have hq3 : q < 3 := by
              rcases Nat.lt_or_ge q 3 with h | h
              · exact h
              · exact absurd ⟨h1, hx0, hy0, by omega, hb, by omega⟩ hno
            rw [show (3 : Int32) = nI 3 from rfl, nI_ltI (by omega) (by omega)]
            exact hq3
          · exact e_N hb rfl
      · exact e_N (nI_ne0 (by omega) (by omega)) rfl
    · exact e_N (nI_ne0 (by omega) (by omega)) rfl
  · exact e_ldA rfl hk (by decide) (by decide) h1 (e_T (nI_pos' (by omega)) rfl)
def NP (c s q : Nat) (C0 : Mm) (g l : Nat) (k : Nat) (C M : Mm) : Prop := ∃ g' l', SS c s s s s s s g' l' C M ∧ g' ≤ g + k ∧ l' ≤ l + k ∧ (∀ j, j < k → ¬ C.1 94 j 0 = nI s) ∧ M.1 299 0 0 = nI q ∧ C.1 78 = C0.1 78
abbrev l94 : List Nat := [94]
abbrev l257 : List Nat := [257]
theorem nstep {c s q g l k : Nat} {C0 C M : Mm} (hc : c ≤ 512) (hs : s < 2 ^ 27) (hg : g < 2 ^ 28) (hl : l < 2 ^ 20) (hq : q ≤ 3) (hk : k < 9) (h : NP c s q C0 g l k C M) : ∃ C' M', NP c s q C0 g l (k + 1) C' M' ∧ (∀ n, L_X11_beginNodes_10 (nI (if q = 3 then 1 else 0)) (n + 1) (nI k) C = L_X11_beginNodes_10 (nI (if q = 3 then 1 else 0)) n (nI (k + 1)) C') ∧ (∀ n, L_X12_begin_2 (n + 1) (nI k) M = L_X12_begin_2 n (nI (k + 1)) M') := by
  obtain ⟨g', l', hS, hg', hl', h94, h299, h78⟩ := h
  have hl2 := live_lt hS hc (by omega)
  have hS2 := hS
  obtain ⟨hITape, hIDraw, hINois, hIPar, hISub, hIKey, hIRef, hISta, hILnk, hIBeg, hIQue, hIHnd, hICon, hIDue, hIWai, hISnd, hISlo, hISto, hIRng, hILiv, hIEnd, hIPut, hILat, hIInb, hICnt, hIAlq⟩ := hS2
  have r52 := (hIRef.1 k hk).1
  obtain ⟨o1, o2, -⟩ := hISlo
  obtain ⟨f, u, qq, e1, e2, e3, e4, e5, e6, e7, e8, e9⟩ := hIQue k hk
  obtain ⟨r, r1, r2, r3⟩ := cont hS hk (by omega) (by omega) (by omega) (by omega)
  have c91 := (hICon k hk).1
  have h255 : ∃ y, y ≤ 1 ∧ M.1 255 0 k = nI y := by
    rcases hIWai k hk with ⟨w1, w2⟩ | ⟨w', n, u', w1, w2, w3, w4, w5, -⟩
    · exact ⟨0, by decide, w2⟩
    · exact ⟨1, by decide, w5⟩
  obtain ⟨y, hy, h255⟩ := h255
  have h254 : ∃ v, M.1 254 0 k = -nI 1 ∨ (v < 1000 ∧ M.1 254 0 k = nI v) := by
    rcases hISnd.1 k hk with ⟨s1, s2⟩ | ⟨v, t', m, s1, s2, -⟩
    · exact ⟨0, Or.inl s1⟩
    · exact ⟨v, Or.inr ⟨by omega, s2⟩⟩
  obtain ⟨v, h254⟩ := h254
  have h94' : ∀ (C' : Mm), C'.1 94 = C.1 94 → ¬ C.1 94 k 0 = nI s → ∀ j, j < k + 1 → ¬ C'.1 94 j 0 = nI s := by
    intro C' hC' hk' j hj
    rw [hC']
    by_cases hjk : j = k
    · rw [hjk]; exact hk'
    · exact h94 j (by omega)
  have idleC : ∀ n, ¬ C.1 94 k 0 = nI s → ¬ (q = 3 ∧ C.1 91 k 0 = 0 ∧ r = 1) → L_X11_beginNodes_10 (nI (if q = 3 then 1 else 0)) (n + 1) (nI k) C = L_X11_beginNodes_10 (nI (if q = 3 then 1 else 0)) n (nI (k + 1)) C := by
    intro n hne hno
    rw [L_X11_beginNodes_10]
    unfold L_X11_beginNodes_95
    rw [nI_1]
    refine e_N (by first | (simp (disch := first | omega | assumption) only [wrI_s, wrI_o, wrI_r, wrL_1, wrL_r, wrL_s, wrL_o, blk_in, blk_out, blk_r, lit, litL, b00, b11, nI_l, lN_add, lN_mul, lN_sub, nI_add, pk_mul, pk_sub, pk_div, remN, Nat.add_sub_cancel, Nat.add_sub_cancel_left, Nat.zero_add, Nat.add_zero, nI_eq, nI_leI, nI_ltI, nI_m1, m1_lt, neg_lt, neg_le, neg_ge, neg_gt, neg_eq, not_true, not_false_iff]; done) | (simp (disch := first | omega | assumption) only [wrI_s, wrI_o, wrI_r, wrL_1, wrL_r, wrL_s, wrL_o, blk_in, blk_out, blk_r, lit, litL, b00, b11, nI_l, lN_add, lN_mul, lN_sub, nI_add, pk_mul, pk_sub, pk_div, remN, Nat.add_sub_cancel, Nat.add_sub_cancel_left, Nat.zero_add, Nat.add_zero, nI_eq, nI_leI, nI_ltI, nI_m1, m1_lt, neg_lt, neg_le, neg_ge, neg_gt, neg_eq, not_true, not_false_iff]; omega)) (e_ldR rfl hk (by decide) (by decide) r52 hk (e_gf rfl (e_gf o1 (e_N hne ?_))))
    by_cases hq3 : q = 3
    · refine e_N (by rw [if_pos hq3]; decide) (e_gf rfl ?_)
      by_cases hb : C.1 91 k 0 = 0
      · refine e_T hb (e_gf o1 (e_cl r2 (e_T ?_ rfl)))
        have hr1 : ¬ r = 1 := fun hr => hno ⟨hq3, hb, hr⟩
        have : r = 0 := by omega
        rw [this]; rfl
      · exact e_N hb rfl
    · exact e_T (by rw [if_neg hq3]; rfl) rfl
  rcases (hIDue k hk).2 with ⟨d1, d2⟩ | ⟨dd, d1, d2, d3, d4, d5, d6⟩
  · have hne : ¬ C.1 94 k 0 = nI s := by
      rw [d1]
      exact fun e => absurd e.symm (by rw [nI_m1 (by omega)]; exact id)
    have mpre : ∀ n, L_X12_begin_2 (n + 1) (nI k) M = L_X12_begin_65 (L_X12_begin_2 n) (nI k) M := by
      intro n
      rw [L_X12_begin_2]
      exact e_N (by first | (simp (disch := first | omega | assumption) only [wrI_s, wrI_o, wrI_r, wrL_1, wrL_r, wrL_s, wrL_o, blk_in, blk_out, blk_r, lit, litL, b00, b11, nI_l, lN_add, lN_mul, lN_sub, nI_add, pk_mul, pk_sub, pk_div, remN, Nat.add_sub_cancel, Nat.add_sub_cancel_left, Nat.zero_add, Nat.add_zero, nI_eq, nI_leI, nI_ltI, nI_m1, m1_lt, neg_lt, neg_le, neg_ge, neg_gt, neg_eq, not_true, not_false_iff]; done) | (simp (disch := first | omega | assumption) only [wrI_s, wrI_o, wrI_r, wrL_1, wrL_r, wrL_s, wrL_o, blk_in, blk_out, blk_r, lit, litL, b00, b11, nI_l, lN_add, lN_mul, lN_sub, nI_add, pk_mul, pk_sub, pk_div, remN, Nat.add_sub_cancel, Nat.add_sub_cancel_left, Nat.zero_add, Nat.add_zero, nI_eq, nI_leI, nI_ltI, nI_m1, m1_lt, neg_lt, neg_le, neg_ge, neg_gt, neg_eq, not_true, not_false_iff]; omega)) (e_ldA rfl hk (by decide) (by decide) d2 (e_T (by decide) rfl))
    by_cases hact : q = 3 ∧ C.1 91 k 0 = 0 ∧ r = 1
    · obtain ⟨a1, a2, a3⟩ := hact
      obtain ⟨b1, b2, b3, u', b4, b5, b6⟩ := r3.mp a3
      have eu : u' = u := (nI_eq (by omega) (by omega)).mp (b6.symm.trans e6)
      subst eu
      obtain ⟨C', M', g2, l2, v1, v2, v3, v4, v5, v6, v7, v8⟩ := bfr hS hc hk (by omega) (by omega) (by omega) ⟨d1, d2⟩ b1 b3 ⟨u', b4, b5, e5⟩
      refine ⟨C', M', ⟨g2, l2, v5, by omega, by omega, h94' C' v6 hne, by rw [v7]; exact h299, v8.trans h78⟩, fun n => ?_, fun n => ?_⟩
      · rw [L_X11_beginNodes_10]
        unfold L_X11_beginNodes_95
        refine e_N (by first | (simp (disch := first | omega | assumption) only [wrI_s, wrI_o, wrI_r, wrL_1, wrL_r, wrL_s, wrL_o, blk_in, blk_out, blk_r, lit, litL, b00, b11, nI_l, lN_add, lN_mul, lN_sub, nI_add, pk_mul, pk_sub, pk_div, remN, Nat.add_sub_cancel, Nat.add_sub_cancel_left, Nat.zero_add, Nat.add_zero, nI_eq, nI_leI, nI_ltI, nI_m1, m1_lt, neg_lt, neg_le, neg_ge, neg_gt, neg_eq, not_true, not_false_iff]; done) | (simp (disch := first | omega | assumption) only [wrI_s, wrI_o, wrI_r, wrL_1, wrL_r, wrL_s, wrL_o, blk_in, blk_out, blk_r, lit, litL, b00, b11, nI_l, lN_add, lN_mul, lN_sub, nI_add, pk_mul, pk_sub, pk_div, remN, Nat.add_sub_cancel, Nat.add_sub_cancel_left, Nat.zero_add, Nat.add_zero, nI_eq, nI_leI, nI_ltI, nI_m1, m1_lt, neg_lt, neg_le, neg_ge, neg_gt, neg_eq, not_true, not_false_iff]; omega)) (e_ldR rfl hk (by decide) (by decide) r52 hk (e_gf rfl (e_gf o1 (e_N hne (e_N (by rw [if_pos a1]; decide) (e_gf a2 (e_T rfl (e_gf o1 (e_cl r2 (e_N (by rw [a3]; decide) (e_cl v1 ?_)))))))))))
        rw [nI_1]
      · rw [mpre n, m65y hk b1 b2 b3 b4 b5 b6 (by rw [← c91]; exact a2) (by rw [h299, a1])]
        exact e_cl v2 rfl
    · refine ⟨C, M, ⟨g', l', hS, by omega, by omega, h94' C rfl hne, h299, h78⟩, fun n => idleC n hne hact, fun n => ?_⟩
      rw [mpre n]
      refine m65n hk h254 d2 (by decide) h255 hy e2 e6 h299 hq (fun hh => hact ⟨hh.2.2.2.2.2, by rw [c91]; exact hh.2.2.2.2.1, ?_⟩)
      exact r3.mpr ⟨hh.1, d2, by rw [h255, hh.2.2.1], u, hh.2.2.2.1, e2, e6⟩
  · have x257 : ∃ x, 1 ≤ x ∧ x ≤ 2 ∧ M.1 257 0 k = nI x ∧ C.1 95 k 0 = nI (2 - x) ∧ (x = 2 → M.1 255 0 k = nI 0 ∧ pos12 C k) := by
      rcases d6 with ⟨g1, g2⟩ | ⟨g1, g2, g3, g4⟩
      · exact ⟨1, by decide, by decide, g2, g1, fun h => absurd h (by decide)⟩
      · exact ⟨2, by decide, by decide, g2, g1, fun _ => ⟨g3, g4⟩⟩
    obtain ⟨x, x1, x2, x3, x4, x5⟩ := x257
    by_cases hds : dd = s
    · subst hds
      have hS1 : SS c dd dd dd dd dd dd g' l' (wrI C 94 k 0 (-nI 1)) (wrI M 257 0 k (nI 0)) := by
        have hS3 := hS
        obtain ⟨hITape, hIDraw, hINois, hIPar, hISub, hIKey, hIRef, hISta, hILnk, hIBeg, hIQue, hIHnd, hICon, hIDue, hIWai, hISnd, hISlo, hISto, hIRng, hILiv, hIEnd, hIPut, hILat, hIInb, hICnt, hIAlq⟩ := hS3
        have key : ∀ C' M', fq l94 C C' → fq l257 M M' → IDue dd C' M' → SS c dd dd dd dd dd dd g' l' C' M' := fun C' M' fC gM tIDue => ⟨hITape.fr fC gM (by decide) (by decide), hIDraw.fr fC gM (by decide) (by decide), hINois.fr fC gM (by decide) (by decide), hIPar.fr fC gM (by decide) (by decide), hISub.fr fC gM (by decide) (by decide), hIKey.fr fC gM (by decide) (by decide), hIRef.fr fC gM (by decide) (by decide), hISta.fr fC gM (by decide) (by decide), hILnk.fr fC gM (by decide) (by decide), hIBeg.fr fC gM (by decide) (by decide), hIQue.fr fC gM (by decide) (by decide), hIHnd.fr fC gM (by decide) (by decide), hICon.fr fC gM (by decide) (by decide), tIDue, hIWai.fr fC gM (by decide) (by decide), hISnd.fr fC gM (by decide) (by decide), hISlo.fr fC gM (by decide) (by decide), hISto.fr fC gM (by decide) (by decide), hIRng.fr fC gM (by decide) (by decide), hILiv.fr fC gM (by decide) (by decide), hIEnd.fr fC gM (by decide) (by decide), hIPut.fr fC gM (by decide) (by decide), hILat.fr fC gM (by decide) (by decide), hIInb.fr fC gM (by decide) (by decide), hICnt.fr fC gM (by decide) (by decide), hIAlq.fr fC gM (by decide) (by decide)⟩
        refine key _ _ (by repeat (first | exact fq.rf | (refine fq.tr ?_ (fq.wr (by decide))) | (refine fq.tr ?_ (fq.bk (by decide))) | (refine fq.tr ?_ (fq.wl (by decide))) | (refine fq.tr ?_ (fq.wR (by decide))))) (by repeat (first | exact fq.rf | (refine fq.tr ?_ (fq.wr (by decide))) | (refine fq.tr ?_ (fq.bk (by decide))) | (refine fq.tr ?_ (fq.wl (by decide))) | (refine fq.tr ?_ (fq.wR (by decide))))) ?_
        intro j hj
        obtain ⟨y1, y2⟩ := hIDue j hj
        by_cases hjk : j = k
        · subst hjk
          refine ⟨fun i hi => ?_, Or.inl ⟨(by first | (simp (disch := first | omega | assumption) only [wrI_s, wrI_o, wrI_r, wrL_1, wrL_r, wrL_s, wrL_o, blk_in, blk_out, blk_r, lit, litL, b00, b11, nI_l, lN_add, lN_mul, lN_sub, nI_add, pk_mul, pk_sub, pk_div, remN, Nat.add_sub_cancel, Nat.add_sub_cancel_left, Nat.zero_add, Nat.add_zero]; done) | (simp (disch := first | omega | assumption) only [wrI_s, wrI_o, wrI_r, wrL_1, wrL_r, wrL_s, wrL_o, blk_in, blk_out, blk_r, lit, litL, b00, b11, nI_l, lN_add, lN_mul, lN_sub, nI_add, pk_mul, pk_sub, pk_div, remN, Nat.add_sub_cancel, Nat.add_sub_cancel_left, Nat.zero_add, Nat.add_zero]; rfl) | rfl), (by first | (simp (disch := first | omega | assumption) only [wrI_s, wrI_o, wrI_r, wrL_1, wrL_r, wrL_s, wrL_o, blk_in, blk_out, blk_r, lit, litL, b00, b11, nI_l, lN_add, lN_mul, lN_sub, nI_add, pk_mul, pk_sub, pk_div, remN, Nat.add_sub_cancel, Nat.add_sub_cancel_left, Nat.zero_add, Nat.add_zero]; done) | (simp (disch := first | omega | assumption) only [wrI_s, wrI_o, wrI_r, wrL_1, wrL_r, wrL_s, wrL_o, blk_in, blk_out, blk_r, lit, litL, b00, b11, nI_l, lN_add, lN_mul, lN_sub, nI_add, pk_mul, pk_sub, pk_div, remN, Nat.add_sub_cancel, Nat.add_sub_cancel_left, Nat.zero_add, Nat.add_zero]; rfl) | rfl)⟩⟩
          simp (disch := omega) only [wrI_o, wrI_r]
          exact y1 i hi
        · refine ⟨fun i hi => ?_, ?_⟩
          · simp (disch := omega) only [wrI_o, wrI_r]
            exact y1 i hi
          · simp (disch := omega) only [wrI_o, wrI_r]
            exact y2
      have h94k : ∀ (C' : Mm), C'.1 94 = (wrI C 94 k 0 (-nI 1)).1 94 → ∀ j, j < k + 1 → ¬ C'.1 94 j 0 = nI dd := by
        intro C' hC' j hj
        rw [hC']
        by_cases hjk : j = k
        · rw [hjk, wrI_s]
          exact fun e => absurd e.symm (by rw [nI_m1 (by omega)]; exact id)
        · rw [wrI_o (by omega)]
          exact h94 j (by omega)
      have mp : ∀ n, L_X12_begin_2 (n + 1) (nI k) M = (if x = 1 then cl (F_X12_acknowledge (nI k) (wrI M 257 0 k (nI 0))) fun _ S => L_X12_begin_2 n (nI (k + 1)) S else cl (F_X12_sendsAtHand (nI k) (wrI M 257 0 k (nI 0))) fun _ S => L_X12_begin_2 n (nI (k + 1)) S) := by
        intro n
        rw [L_X12_begin_2]
        unfold L_X12_begin_62 L_X12_begin_123
        refine e_N (by first | (simp (disch := first | omega | assumption) only [wrI_s, wrI_o, wrI_r, wrL_1, wrL_r, wrL_s, wrL_o, blk_in, blk_out, blk_r, lit, litL, b00, b11, nI_l, lN_add, lN_mul, lN_sub, nI_add, pk_mul, pk_sub, pk_div, remN, Nat.add_sub_cancel, Nat.add_sub_cancel_left, Nat.zero_add, Nat.add_zero, nI_eq, nI_leI, nI_ltI, nI_m1, m1_lt, neg_lt, neg_le, neg_ge, neg_gt, neg_eq, not_true, not_false_iff]; done) | (simp (disch := first | omega | assumption) only [wrI_s, wrI_o, wrI_r, wrL_1, wrL_r, wrL_s, wrL_o, blk_in, blk_out, blk_r, lit, litL, b00, b11, nI_l, lN_add, lN_mul, lN_sub, nI_add, pk_mul, pk_sub, pk_div, remN, Nat.add_sub_cancel, Nat.add_sub_cancel_left, Nat.zero_add, Nat.add_zero, nI_eq, nI_leI, nI_ltI, nI_m1, m1_lt, neg_lt, neg_le, neg_ge, neg_gt, neg_eq, not_true, not_false_iff]; omega)) (e_ldA rfl hk (by decide) (by decide) x3 (e_N (nI_nle (by omega) (by omega)) (e_ldA rfl hk (by decide) (by decide) d4 (e_gf o2 (e_T rfl (e_ldA rfl hk (by decide) (by decide) x3 (e_stA rfl hk (by decide) (by decide) (w := nI 0) rfl ?_)))))))
        by_cases hx1 : x = 1
        · rw [if_pos hx1]
          refine e_T (by rw [hx1]; rfl) ?_
          rw [nI_1]
        · rw [if_neg hx1]
          have hx2 : x = 2 := by omega
          refine e_N (by rw [hx2]; decide) ?_
          rw [nI_1]
      have cp : ∀ n, L_X11_beginNodes_10 (nI (if q = 3 then 1 else 0)) (n + 1) (nI k) C = (if x = 1 then cl (F_X11_beginAck k (wrI C 94 k 0 (-nI 1))) fun _ S => L_X11_beginNodes_10 (nI (if q = 3 then 1 else 0)) n (nI (k + 1)) S else cl (F_X11_beginFrame k (wrI C 94 k 0 (-nI 1))) fun _ S => L_X11_beginNodes_10 (nI (if q = 3 then 1 else 0)) n (nI (k + 1)) S) := by
        intro n
        rw [L_X11_beginNodes_10]
        unfold L_X11_beginNodes_95
        refine e_N (by first | (simp (disch := first | omega | assumption) only [wrI_s, wrI_o, wrI_r, wrL_1, wrL_r, wrL_s, wrL_o, blk_in, blk_out, blk_r, lit, litL, b00, b11, nI_l, lN_add, lN_mul, lN_sub, nI_add, pk_mul, pk_sub, pk_div, remN, Nat.add_sub_cancel, Nat.add_sub_cancel_left, Nat.zero_add, Nat.add_zero, nI_eq, nI_leI, nI_ltI, nI_m1, m1_lt, neg_lt, neg_le, neg_ge, neg_gt, neg_eq, not_true, not_false_iff]; done) | (simp (disch := first | omega | assumption) only [wrI_s, wrI_o, wrI_r, wrL_1, wrL_r, wrL_s, wrL_o, blk_in, blk_out, blk_r, lit, litL, b00, b11, nI_l, lN_add, lN_mul, lN_sub, nI_add, pk_mul, pk_sub, pk_div, remN, Nat.add_sub_cancel, Nat.add_sub_cancel_left, Nat.zero_add, Nat.add_zero, nI_eq, nI_leI, nI_ltI, nI_m1, m1_lt, neg_lt, neg_le, neg_ge, neg_gt, neg_eq, not_true, not_false_iff]; omega)) (e_ldR rfl hk (by decide) (by decide) r52 hk (e_gf d3 (e_gf o1 (e_T rfl (e_pf (w := -nI 1) rfl (e_gf (v := nI (2 - x)) (by first | (simp (disch := first | omega | assumption) only [x4, wrI_s, wrI_o, wrI_r, wrL_1, wrL_r, wrL_s, wrL_o, blk_in, blk_out, blk_r, lit, litL, b00, b11, nI_l, lN_add, lN_mul, lN_sub, nI_add, pk_mul, pk_sub, pk_div, remN, Nat.add_sub_cancel, Nat.add_sub_cancel_left, Nat.zero_add, Nat.add_zero]; done) | (simp (disch := first | omega | assumption) only [x4, wrI_s, wrI_o, wrI_r, wrL_1, wrL_r, wrL_s, wrL_o, blk_in, blk_out, blk_r, lit, litL, b00, b11, nI_l, lN_add, lN_mul, lN_sub, nI_add, pk_mul, pk_sub, pk_div, remN, Nat.add_sub_cancel, Nat.add_sub_cancel_left, Nat.zero_add, Nat.add_zero]; rfl) | rfl) ?_))))))
        by_cases hx1 : x = 1
        · rw [if_pos hx1]
          refine e_N (by rw [hx1]; decide) ?_
          rw [nI_1]
        · rw [if_neg hx1]
          have hx2 : x = 2 := by omega
          refine e_T (by rw [hx2]; rfl) ?_
          rw [nI_1]
      have m254 : (wrI M 257 0 k (nI 0)).1 254 0 k = -nI 1 := (by first | (simp (disch := first | omega | assumption) only [d5, wrI_s, wrI_o, wrI_r, wrL_1, wrL_r, wrL_s, wrL_o, blk_in, blk_out, blk_r, lit, litL, b00, b11, nI_l, lN_add, lN_mul, lN_sub, nI_add, pk_mul, pk_sub, pk_div, remN, Nat.add_sub_cancel, Nat.add_sub_cancel_left, Nat.zero_add, Nat.add_zero]; done) | (simp (disch := first | omega | assumption) only [d5, wrI_s, wrI_o, wrI_r, wrL_1, wrL_r, wrL_s, wrL_o, blk_in, blk_out, blk_r, lit, litL, b00, b11, nI_l, lN_add, lN_mul, lN_sub, nI_add, pk_mul, pk_sub, pk_div, remN, Nat.add_sub_cancel, Nat.add_sub_cancel_left, Nat.zero_add, Nat.add_zero]; rfl) | rfl)
      by_cases hx1 : x = 1
      · obtain ⟨C', M', v1, v2, v3, v4, v5, v6⟩ := sack hS1 hc hk (by omega) (by omega) (by omega) ⟨wrI_s, wrI_s⟩ m254
        refine ⟨C', M', ⟨g' + 1, l' + 1, v3, by omega, by omega, h94k C' v4, by rw [v5, wrI_ne (by decide)]; exact h299, by rw [v6, wrI_ne (by decide)]; exact h78⟩, fun n => ?_, fun n => ?_⟩
        · rw [cp n, if_pos hx1]
          exact e_cl v1 rfl
        · rw [mp n, if_pos hx1]
          exact e_cl v2 rfl
      · obtain ⟨y1, u', y2, y3, y4⟩ := x5 (by omega)
        obtain ⟨C', M', g2, l2, v1, v2, v3, v4, v5, v6, v7, v8⟩ := bfr hS1 hc hk (by omega) (by omega) (by omega) ⟨wrI_s, wrI_s⟩ m254 (by first | (simp (disch := first | omega | assumption) only [y1, wrI_s, wrI_o, wrI_r, wrL_1, wrL_r, wrL_s, wrL_o, blk_in, blk_out, blk_r, lit, litL, b00, b11, nI_l, lN_add, lN_mul, lN_sub, nI_add, pk_mul, pk_sub, pk_div, remN, Nat.add_sub_cancel, Nat.add_sub_cancel_left, Nat.zero_add, Nat.add_zero]; done) | (simp (disch := first | omega | assumption) only [y1, wrI_s, wrI_o, wrI_r, wrL_1, wrL_r, wrL_s, wrL_o, blk_in, blk_out, blk_r, lit, litL, b00, b11, nI_l, lN_add, lN_mul, lN_sub, nI_add, pk_mul, pk_sub, pk_div, remN, Nat.add_sub_cancel, Nat.add_sub_cancel_left, Nat.zero_add, Nat.add_zero]; rfl) | rfl) ⟨u', y2, y3, (by first | (simp (disch := first | omega | assumption) only [y4, wrI_s, wrI_o, wrI_r, wrL_1, wrL_r, wrL_s, wrL_o, blk_in, blk_out, blk_r, lit, litL, b00, b11, nI_l, lN_add, lN_mul, lN_sub, nI_add, pk_mul, pk_sub, pk_div, remN, Nat.add_sub_cancel, Nat.add_sub_cancel_left, Nat.zero_add, Nat.add_zero]; done) | (simp (disch := first | omega | assumption) only [y4, wrI_s, wrI_o, wrI_r, wrL_1, wrL_r, wrL_s, wrL_o, blk_in, blk_out, blk_r, lit, litL, b00, b11, nI_l, lN_add, lN_mul, lN_sub, nI_add, pk_mul, pk_sub, pk_div, remN, Nat.add_sub_cancel, Nat.add_sub_cancel_left, Nat.zero_add, Nat.add_zero]; rfl) | rfl)⟩
        refine ⟨C', M', ⟨g2, l2, v5, by omega, by omega, h94k C' v6, by rw [v7, wrI_ne (by decide)]; exact h299, by rw [v8, wrI_ne (by decide)]; exact h78⟩, fun n => ?_, fun n => ?_⟩
        · rw [cp n, if_neg hx1]
          exact e_cl v1 rfl
        · rw [mp n, if_neg hx1]
          exact e_cl v2 rfl
    · have hne : ¬ C.1 94 k 0 = nI s := by
        rw [d3, nI_eq (by omega) (by omega)]
        exact hds
      have hr0 : ¬ r = 1 := fun hr => by
        have := (r3.mp hr).2.1
        rw [x3, nI_eq (by omega) (by omega)] at this
        omega
      refine ⟨C, M, ⟨g', l', hS, by omega, by omega, h94' C rfl hne, h299, h78⟩, fun n => idleC n hne (fun hh => hr0 hh.2.2), fun n => ?_⟩
      rw [L_X12_begin_2]
      refine e_N (by first | (simp (disch := first | omega | assumption) only [wrI_s, wrI_o, wrI_r, wrL_1, wrL_r, wrL_s, wrL_o, blk_in, blk_out, blk_r, lit, litL, b00, b11, nI_l, lN_add, lN_mul, lN_sub, nI_add, pk_mul, pk_sub, pk_div, remN, Nat.add_sub_cancel, Nat.add_sub_cancel_left, Nat.zero_add, Nat.add_zero, nI_eq, nI_leI, nI_ltI, nI_m1, m1_lt, neg_lt, neg_le, neg_ge, neg_gt, neg_eq, not_true, not_false_iff]; done) | (simp (disch := first | omega | assumption) only [wrI_s, wrI_o, wrI_r, wrL_1, wrL_r, wrL_s, wrL_o, blk_in, blk_out, blk_r, lit, litL, b00, b11, nI_l, lN_add, lN_mul, lN_sub, nI_add, pk_mul, pk_sub, pk_div, remN, Nat.add_sub_cancel, Nat.add_sub_cancel_left, Nat.zero_add, Nat.add_zero, nI_eq, nI_leI, nI_ltI, nI_m1, m1_lt, neg_lt, neg_le, neg_ge, neg_gt, neg_eq, not_true, not_false_iff]; omega)) (e_ldA rfl hk (by decide) (by decide) x3 (e_N (nI_nle (by omega) (by omega)) (e_ldA rfl hk (by decide) (by decide) d4 (e_gf o2 (e_N (by rw [nI_eq (by omega) (by omega)]; exact hds) ?_)))))
      exact m65n hk h254 x3 x2 h255 hy e2 e6 h299 hq (fun hh => by omega)
theorem nodesB {c s g l : Nat} {C M : Mm} (hc : c ≤ 512) (hs : s < 2 ^ 27) (hg : g < 2 ^ 28) (hS : SS c s s s s s s g l C M) (hl : l < 2 ^ 20) (hQ : IQui s C M) : ∃ C' M' g' l' q, F_X11_beginNodes C = some ((), C') ∧ F_X12_begin M = L_X12_begin_133 fu 0 0 M' ∧ SS c s (s + 1) s s s s g' l' C' M' ∧ g' ≤ g + 9 ∧ l' ≤ l + 9 ∧ q ≤ 3 ∧ M.1 299 0 0 = nI q ∧ M'.1 299 0 0 = nI q ∧ C'.1 78 = C.1 78 ∧ F_X5_isQuietSince C = some (nI (if q = 3 then 1 else 0), C) := by
  have hS2 := hS
  obtain ⟨hITape, hIDraw, hINois, hIPar, hISub, hIKey, hIRef, hISta, hILnk, hIBeg, hIQue, hIHnd, hICon, hIDue, hIWai, hISnd, hISlo, hISto, hIRng, hILiv, hIEnd, hIPut, hILat, hIInb, hICnt, hIAlq⟩ := hS2
  obtain ⟨q, q1, q2, q3⟩ := quS (by omega) hISlo.1 hQ
  obtain ⟨C', M', n, ⟨g', l', p1, p2, p3, p4, p5, p6⟩, e1, e2⟩ := loop2 (fun n v S => L_X11_beginNodes_10 (nI (if q = 3 then 1 else 0)) n v S) (fun n v S => L_X12_begin_2 n v S) (NP c s q C g l) 9 (by decide) (fun k C1 M1 hk hP => nstep hc hs hg hl q1 hk hP) ⟨g, l, hS, by omega, by omega, fun j hj => absurd hj (by omega), q2, rfl⟩
  refine ⟨C', M', g', l', q, ?_, ?_, ?_, p2, p3, q1, q2, p5, p6, q3⟩
  · unfold F_X11_beginNodes
    refine e_cl q3 ?_
    rw [e1, L_X11_beginNodes_10]
    exact e_T (by decide) rfl
  · unfold F_X12_begin
    rw [e2, L_X12_begin_2]
    exact e_T (by decide) rfl
  · obtain ⟨hITape, hIDraw, hINois, hIPar, hISub, hIKey, hIRef, hISta, hILnk, hIBeg, hIQue, hIHnd, hICon, hIDue, hIWai, hISnd, hISlo, hISto, hIRng, hILiv, hIEnd, hIPut, hILat, hIInb, hICnt, hIAlq⟩ := p1
    refine ⟨hITape, hIDraw, hINois, hIPar, hISub, hIKey, hIRef, hISta, hILnk, hIBeg, hIQue, hIHnd, hICon, ?_, hIWai, hISnd, hISlo, hISto, hIRng, hILiv, hIEnd, hIPut, hILat, hIInb, hICnt, hIAlq⟩
    intro k hk
    obtain ⟨d1, d2⟩ := hIDue k hk
    refine ⟨d1, ?_⟩
    rcases d2 with d2 | ⟨d, y1, y2, y3, y4⟩
    · exact Or.inl d2
    · have := p4 k hk
      have hne : ¬ d = s := fun e => this (by rw [y3, e])
      exact Or.inr ⟨d, by omega, by omega, y3, y4⟩
