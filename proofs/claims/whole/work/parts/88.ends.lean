/-! FRAMES END: the class's loop over the nodes; the reference's two loops, where none that ends is clean -/
theorem efC {s : Nat} {C M : Mm} (hR : IRef C M) (h76 : C.1 76 0 0 = nI s) : ∃ D, fq [98] C D ∧ (∀ j, j < 9 → D.1 98 j 0 = if C.1 96 j 0 = nI s ∧ C.1 97 j 0 = nI 0 then nI s else C.1 98 j 0) ∧ F_X11_endFrames C = (cl (F_X5_closeEndings D) fun r1 S2 => if r1 = 0 then some ((-1), S2) else cl (F_X11_takeFrame S2) fun r4 S5 => some (r4, S5)) := by
  unfold F_X11_endFrames
  refine loopR (fun m v T => L_X11_endFrames_2 m v T) (fun o => ∃ D, fq [98] C D ∧ (∀ j, j < 9 → D.1 98 j 0 = if C.1 96 j 0 = nI s ∧ C.1 97 j 0 = nI 0 then nI s else C.1 98 j 0) ∧ o = (cl (F_X5_closeEndings D) fun r1 S2 => if r1 = 0 then some ((-1), S2) else cl (F_X11_takeFrame S2) fun r4 S5 => some (r4, S5))) (fun k T => fq [98] C T ∧ ∀ j, j < 9 → T.1 98 j 0 = if j < k ∧ C.1 96 j 0 = nI s ∧ C.1 97 j 0 = nI 0 then nI s else C.1 98 j 0) 0 9 (by omega) (by omega) (fun m j T _ hj hP ih => ?_) (fun m T hP => ?_) C ⟨fq.rf, fun j hj => by rw [if_neg (by omega)]⟩
  · obtain ⟨p1, p2⟩ := hP
    have t52 : T.2.2 52 0 j = j := by rw [p1.2.2 52 (nc (by decide))]; exact (hR.1 j hj).1
    have t96 : T.1 96 j 0 = C.1 96 j 0 := by rw [p1.1 96 (nc (by decide))]
    have t97 : T.1 97 j 0 = C.1 97 j 0 := by rw [p1.1 97 (nc (by decide))]
    have t76 : T.1 76 0 0 = nI s := by rw [p1.1 76 (nc (by decide))]; exact h76
    by_cases h1 : C.1 96 j 0 = nI s ∧ C.1 97 j 0 = nI 0
    · have e : L_X11_endFrames_2 (m + 1) (nI j) T = L_X11_endFrames_2 m (nI (j + 1)) (wrI T 98 j 0 (nI s)) := by
        rw [L_X11_endFrames_2]
        unfold L_X11_endFrames_47
        rw [nI_1]
        exact e_N (by first | (simp (disch := first | omega | assumption) only [wrI_s, wrI_o, wrI_r, wrL_1, wrL_r, wrL_s, wrL_o, blk_in, blk_out, blk_r, lit, litL, b00, b11, nI_l, lN_add, lN_mul, lN_sub, nI_add, pk_mul, pk_sub, pk_div, remN, Nat.add_sub_cancel, Nat.add_sub_cancel_left, Nat.zero_add, Nat.add_zero, nI_eq, nI_leI, nI_ltI, nI_m1, m1_lt, neg_lt, neg_le, neg_ge, neg_gt, neg_eq, not_true, not_false_iff]; done) | (simp (disch := first | omega | assumption) only [wrI_s, wrI_o, wrI_r, wrL_1, wrL_r, wrL_s, wrL_o, blk_in, blk_out, blk_r, lit, litL, b00, b11, nI_l, lN_add, lN_mul, lN_sub, nI_add, pk_mul, pk_sub, pk_div, remN, Nat.add_sub_cancel, Nat.add_sub_cancel_left, Nat.zero_add, Nat.add_zero, nI_eq, nI_leI, nI_ltI, nI_m1, m1_lt, neg_lt, neg_le, neg_ge, neg_gt, neg_eq, not_true, not_false_iff]; omega)) (e_ldR rfl hj (by decide) (by decide) t52 hj (e_gf (t96.trans h1.1) (e_gf t76 (e_T rfl (e_gf (t97.trans h1.2) (e_T rfl (e_gf t76 (e_pf rfl rfl))))))))
      rw [e]
      refine ih _ ⟨p1.tr (fq.wr (by decide)), fun i hi => ?_⟩
      by_cases hij : i = j
      · rw [hij, wrI_s, if_pos ⟨by omega, h1⟩]
      · rw [wrI_o (by omega), p2 i hi]
        by_cases hc : i < j ∧ C.1 96 i 0 = nI s ∧ C.1 97 i 0 = nI 0
        · rw [if_pos hc, if_pos ⟨by omega, hc.2⟩]
        · rw [if_neg hc, if_neg (fun z => hc ⟨by omega, z.2⟩)]
    · have e : L_X11_endFrames_2 (m + 1) (nI j) T = L_X11_endFrames_2 m (nI (j + 1)) T := by
        rw [L_X11_endFrames_2]
        unfold L_X11_endFrames_47
        rw [nI_1]
        refine e_N (by first | (simp (disch := first | omega | assumption) only [wrI_s, wrI_o, wrI_r, wrL_1, wrL_r, wrL_s, wrL_o, blk_in, blk_out, blk_r, lit, litL, b00, b11, nI_l, lN_add, lN_mul, lN_sub, nI_add, pk_mul, pk_sub, pk_div, remN, Nat.add_sub_cancel, Nat.add_sub_cancel_left, Nat.zero_add, Nat.add_zero, nI_eq, nI_leI, nI_ltI, nI_m1, m1_lt, neg_lt, neg_le, neg_ge, neg_gt, neg_eq, not_true, not_false_iff]; done) | (simp (disch := first | omega | assumption) only [wrI_s, wrI_o, wrI_r, wrL_1, wrL_r, wrL_s, wrL_o, blk_in, blk_out, blk_r, lit, litL, b00, b11, nI_l, lN_add, lN_mul, lN_sub, nI_add, pk_mul, pk_sub, pk_div, remN, Nat.add_sub_cancel, Nat.add_sub_cancel_left, Nat.zero_add, Nat.add_zero, nI_eq, nI_leI, nI_ltI, nI_m1, m1_lt, neg_lt, neg_le, neg_ge, neg_gt, neg_eq, not_true, not_false_iff]; omega)) (e_ldR rfl hj (by decide) (by decide) t52 hj (e_gf t96 (e_gf t76 ?_)))
        by_cases h96 : C.1 96 j 0 = nI s
        · exact e_T h96 (e_gf t97 (e_N (fun z => h1 ⟨h96, z⟩) rfl))
        · exact e_N h96 rfl
      rw [e]
      refine ih _ ⟨p1, fun i hi => ?_⟩
      rw [p2 i hi]
      by_cases hij : i = j
      · rw [hij, if_neg (by omega), if_neg (fun z => h1 z.2)]
      · by_cases hc : i < j ∧ C.1 96 i 0 = nI s ∧ C.1 97 i 0 = nI 0
        · rw [if_pos hc, if_pos ⟨by omega, hc.2⟩]
        · rw [if_neg hc, if_neg (fun z => hc ⟨by omega, z.2⟩)]
  · obtain ⟨p1, p2⟩ := hP
    refine ⟨T, p1, fun j hj => ?_, ?_⟩
    · rw [p2 j hj]
      by_cases hc : C.1 96 j 0 = nI s ∧ C.1 97 j 0 = nI 0
      · rw [if_pos ⟨hj, hc⟩, if_pos hc]
      · rw [if_neg (fun z => hc z.2), if_neg hc]
    · rw [L_X11_endFrames_2]
      exact e_T (by decide) rfl
def E1 (s : Nat) (M : Mm) (k v : Nat) : Bool := decide (M.1 261 0 v = nI s) && decide ((M.1 260 0 v).toNatClampNeg < k)
def E2 (s : Nat) (M : Mm) (u v : Nat) : Bool := decide (M.1 261 0 v = nI s) && (decide ((M.1 260 0 v).toNatClampNeg < 9) || decide (v < u))
theorem endB {s g l : Nat} {C M : Mm} (hg : g < 2 ^ 29) (hl : l ≤ 300) (hS : ISlo s g l C M) (hN : ISnd s l C M) (hL : ILiv s g l C M) (hs : s < 2 ^ 29) (hno : ∀ v, v < l → M.1 261 0 v = nI s → M.1 263 0 v = nI 0) : ∃ T, OVR s g l M (fun v => decide (M.1 261 0 v = nI s)) T ∧ F_X12_endAll M = L_X12_endAll_100 fu 0 0 T := by
  obtain ⟨o1, o2, o3, o4, o5, o6, o7, o8⟩ := hS
  have hsd : ∀ v, v < l → ∃ sd, sd ≤ 9 ∧ M.1 260 0 v = nI sd ∧ (M.1 260 0 v).toNatClampNeg = sd := fun v hv => by
    obtain ⟨x, t', n', sd', c', p1, p2, p3, p4, p5, p6, p7, p8, p9, p10, p11, -⟩ := hL.1 v hv
    exact ⟨sd', p6, p11, by rw [p11, nI_clamp (by omega)]⟩
  have stE : ∀ (T : Mm) (E E' : Nat → Bool) (v0 sd : Nat), OVR s g l M E T → v0 < l → M.1 261 0 v0 = nI s → E v0 = false → (∀ v, v < l → E' v = (E v || decide (v = v0))) → sd ≤ 9 → M.1 260 0 v0 = nI sd → (sd < 9 → M.1 254 0 sd = nI v0) → ∃ T', OVR s g l M E' T' ∧ F_X12_over (nI v0) T = some ((), T') := by
    intro T E E' v0 sd h hv0 ht hE hE' hsd9 h260 hs9
    obtain ⟨x, t', n', sd', c', p1, p2, p3, p4, p5, p6, p7, p8, p9, p10, p11, p12, p13, p14⟩ := hL.1 v0 hv0
    have esd : sd' = sd := (nI_eq (by omega) (by omega)).mp (p11.symm.trans h260)
    subst esd
    have h263 := hno v0 hv0 ht
    have hu : ∀ k, k < 9 → M.1 254 0 k = nI v0 → k = sd' := fun k hk e => by
      rcases hN.1 k hk with ⟨q1, -⟩ | ⟨v, t2, m, q1, q2, q3, -⟩
      · rw [q1] at e
        exact absurd e.symm (by rw [nI_m1 (by omega)]; exact id)
      · rw [q2] at e
        have ev : v = v0 := (nI_eq (by omega) (by omega)).mp e
        rw [ev, h260] at q3
        exact ((nI_eq (by omega) (by omega)).mp q3).symm
    have hak : ∃ ak, sd' < 9 → (ak = 1 ∧ M.1 265 0 (300 * v0) = nI 212 ∧ n' = 14) ∨ (ak = 0 ∧ ¬ M.1 265 0 (300 * v0) = nI 212) := by
      by_cases h9 : sd' < 9
      · rcases hN.1 sd' h9 with ⟨q1, -⟩ | ⟨v, t2, m, q1, q2, q3, q4, q5, q6, q7, q8, q9⟩
        · rw [hs9 h9] at q1
          exact absurd q1 (by rw [nI_m1 (by omega)]; exact id)
        · rw [hs9 h9] at q2
          have ev : v0 = v := (nI_eq (by omega) (by omega)).mp q2
          rw [← ev] at q7 q9
          have em : n' = m := (nI_eq (by omega) (by omega)).mp (p10.symm.trans q7)
          rcases q9 with ⟨-, y1, y2⟩ | ⟨-, y1, -⟩
          · exact ⟨1, fun _ => Or.inl ⟨rfl, y1, by omega⟩⟩
          · exact ⟨0, fun _ => Or.inr ⟨rfl, y1⟩⟩
      · exact ⟨0, fun z => absurd z h9⟩
    obtain ⟨ak, hak⟩ := hak
    have f := h.1
    have e := ovE (M := T) (v := v0) (n := n') (sd := sd') (c := 0) (x := x) (g := g) (s := s) (ak := ak) (by omega) p4 p5 p6 (by omega) p1 (by omega) (by rw [f.1 260 (nc (by decide))]; exact h260) (by rw [f.1 262 (nc (by decide))]; exact p10) (by rw [f.1 263 (nc (by decide))]; exact h263) (by rw [f.1 264 (nc (by decide))]; exact p8) (by rw [f.1 301 (nc (by decide))]; exact o4) (by rw [f.1 298 (nc (by decide))]; exact o2) (by rw [f.1 265 (nc (by decide))]; exact hak)
    refine ⟨_, h.st (n := n') (ak := ak) (by omega) hv0 hE hE' p6 p1 (by omega) p8 hu hs9 (fun z => (hak z).elim (fun y => Or.inl ⟨y.1, y.2.1⟩) Or.inr), ?_⟩
    rw [e]
    exact ov170
  unfold F_X12_endAll
  refine loopR (fun m v T => L_X12_endAll_2 m v T) (fun o => ∃ T, OVR s g l M (fun v => decide (M.1 261 0 v = nI s)) T ∧ o = L_X12_endAll_100 fu 0 0 T) (fun k T => OVR s g l M (E1 s M k) T) 0 9 (by omega) (by omega) (fun m k T _ hk hP ih => ?_) (fun m T hP => ?_) M (OVR.z (fun v hv => by unfold E1; rw [decide_eq_false (p := (M.1 260 0 v).toNatClampNeg < 0) (by omega), Bool.and_false]))
  · have f := hP.1
    have t254 : T.1 254 0 k = M.1 254 0 k := by
      refine ((hP.2.2.1 k hk).2 (fun v hv e => ?_)).1
      rcases hN.1 k hk with ⟨q1, -⟩ | ⟨v', t2, m', q1, q2, q3, -⟩
      · rw [q1] at e
        exact absurd e.symm (by rw [nI_m1 (by omega)]; exact id)
      · rw [q2] at e
        have ev : v' = v := (nI_eq (by omega) (by omega)).mp e
        rw [ev] at q3
        unfold E1
        rw [q3, nI_clamp (by omega), decide_eq_false (p := k < k) (by omega), Bool.and_false]
    have same : (∀ v, v < l → M.1 261 0 v = nI s → ¬ (M.1 260 0 v).toNatClampNeg = k) → ∀ v, v < l → E1 s M (k + 1) v = E1 s M k v := by
      intro hne v hv
      unfold E1
      by_cases h1 : M.1 261 0 v = nI s
      · have := hne v hv h1
        rw [decide_eq_decide.mpr (show (M.1 260 0 v).toNatClampNeg < k + 1 ↔ (M.1 260 0 v).toNatClampNeg < k by omega)]
      · rw [decide_eq_false h1]
        rfl
    have own : ∀ v, v < l → (M.1 260 0 v).toNatClampNeg = k → M.1 254 0 k = nI v := fun v hv e => by
      obtain ⟨sd, s1, s2, s3⟩ := hsd v hv
      exact hN.2 v k hv hk (by rw [s2, ← s3, e])
    rcases hN.1 k hk with ⟨q1, -⟩ | ⟨v0, t2, m', q1, q2, q3, q4, q5, q6, -⟩
    · have e : L_X12_endAll_2 (m + 1) (nI k) T = L_X12_endAll_2 m (nI (k + 1)) T := by
        rw [L_X12_endAll_2]
        unfold L_X12_endAll_45
        rw [nI_1]
        exact e_N (by first | (simp (disch := first | omega | assumption) only [wrI_s, wrI_o, wrI_r, wrL_1, wrL_r, wrL_s, wrL_o, blk_in, blk_out, blk_r, lit, litL, b00, b11, nI_l, lN_add, lN_mul, lN_sub, nI_add, pk_mul, pk_sub, pk_div, remN, Nat.add_sub_cancel, Nat.add_sub_cancel_left, Nat.zero_add, Nat.add_zero, nI_eq, nI_leI, nI_ltI, nI_m1, m1_lt, neg_lt, neg_le, neg_ge, neg_gt, neg_eq, not_true, not_false_iff]; done) | (simp (disch := first | omega | assumption) only [wrI_s, wrI_o, wrI_r, wrL_1, wrL_r, wrL_s, wrL_o, blk_in, blk_out, blk_r, lit, litL, b00, b11, nI_l, lN_add, lN_mul, lN_sub, nI_add, pk_mul, pk_sub, pk_div, remN, Nat.add_sub_cancel, Nat.add_sub_cancel_left, Nat.zero_add, Nat.add_zero, nI_eq, nI_leI, nI_ltI, nI_m1, m1_lt, neg_lt, neg_le, neg_ge, neg_gt, neg_eq, not_true, not_false_iff]; omega)) (e_ldA (v := -nI 1) rfl hk (by decide) (by decide) (t254.trans q1) (e_T (by decide) rfl))
      rw [e]
      refine ih T (hP.cg (same (fun v hv _ hc => ?_)))
      have := own v hv hc
      rw [q1] at this
      exact absurd this.symm (by rw [nI_m1 (by omega)]; exact id)
    · obtain ⟨x, t', n', sd', c', p1, p2, p3, p4, p5, p6, p7, p8, p9, -⟩ := hL.1 v0 q1
      by_cases hts : t' = s
      · rw [hts] at p9
        obtain ⟨T', r1, r2⟩ := stE T (E1 s M k) (E1 s M (k + 1)) v0 k hP q1 p9 (by unfold E1; rw [q3, nI_clamp (by omega), decide_eq_false (p := k < k) (by omega), Bool.and_false]) (fun v hv => by
          by_cases hv0 : v = v0
          · rw [decide_eq_true hv0, Bool.or_true, hv0]
            unfold E1
            rw [decide_eq_true p9, q3, nI_clamp (by omega), decide_eq_true (p := k < k + 1) (by omega)]
            rfl
          · rw [decide_eq_false hv0, Bool.or_false]
            have hne : ¬ (M.1 260 0 v).toNatClampNeg = k := fun z => by
              have := own v hv z
              rw [q2] at this
              exact hv0 ((nI_eq (by omega) (by omega)).mp this).symm
            unfold E1
            rw [decide_eq_decide.mpr (show (M.1 260 0 v).toNatClampNeg < k + 1 ↔ (M.1 260 0 v).toNatClampNeg < k by omega)]) (by omega) q3 (fun _ => q2)
        have e : L_X12_endAll_2 (m + 1) (nI k) T = L_X12_endAll_2 m (nI (k + 1)) T' := by
          rw [L_X12_endAll_2]
          unfold L_X12_endAll_45
          rw [nI_1]
          exact e_N (by first | (simp (disch := first | omega | assumption) only [wrI_s, wrI_o, wrI_r, wrL_1, wrL_r, wrL_s, wrL_o, blk_in, blk_out, blk_r, lit, litL, b00, b11, nI_l, lN_add, lN_mul, lN_sub, nI_add, pk_mul, pk_sub, pk_div, remN, Nat.add_sub_cancel, Nat.add_sub_cancel_left, Nat.zero_add, Nat.add_zero, nI_eq, nI_leI, nI_ltI, nI_m1, m1_lt, neg_lt, neg_le, neg_ge, neg_gt, neg_eq, not_true, not_false_iff]; done) | (simp (disch := first | omega | assumption) only [wrI_s, wrI_o, wrI_r, wrL_1, wrL_r, wrL_s, wrL_o, blk_in, blk_out, blk_r, lit, litL, b00, b11, nI_l, lN_add, lN_mul, lN_sub, nI_add, pk_mul, pk_sub, pk_div, remN, Nat.add_sub_cancel, Nat.add_sub_cancel_left, Nat.zero_add, Nat.add_zero, nI_eq, nI_leI, nI_ltI, nI_m1, m1_lt, neg_lt, neg_le, neg_ge, neg_gt, neg_eq, not_true, not_false_iff]; omega)) (e_ldA (v := nI v0) rfl hk (by decide) (by decide) (t254.trans q2) (e_N (by first | (simp (disch := first | omega | assumption) only [wrI_s, wrI_o, wrI_r, wrL_1, wrL_r, wrL_s, wrL_o, blk_in, blk_out, blk_r, lit, litL, b00, b11, nI_l, lN_add, lN_mul, lN_sub, nI_add, pk_mul, pk_sub, pk_div, remN, Nat.add_sub_cancel, Nat.add_sub_cancel_left, Nat.zero_add, Nat.add_zero, nI_eq, nI_leI, nI_ltI, nI_m1, m1_lt, neg_lt, neg_le, neg_ge, neg_gt, neg_eq, not_true, not_false_iff]; done) | (simp (disch := first | omega | assumption) only [wrI_s, wrI_o, wrI_r, wrL_1, wrL_r, wrL_s, wrL_o, blk_in, blk_out, blk_r, lit, litL, b00, b11, nI_l, lN_add, lN_mul, lN_sub, nI_add, pk_mul, pk_sub, pk_div, remN, Nat.add_sub_cancel, Nat.add_sub_cancel_left, Nat.zero_add, Nat.add_zero, nI_eq, nI_leI, nI_ltI, nI_m1, m1_lt, neg_lt, neg_le, neg_ge, neg_gt, neg_eq, not_true, not_false_iff]; omega)) (e_ldA (v := nI v0) rfl hk (by decide) (by decide) (t254.trans q2) (e_ldA (v := nI s) rfl (by omega) (by decide) (by decide) (by rw [f.1 261 (nc (by decide))]; exact p9) (e_gf (v := nI s) (by rw [f.1 298 (nc (by decide))]; exact o2) (e_T rfl (e_ldA (v := nI v0) rfl hk (by decide) (by decide) (t254.trans q2) (e_cl r2 rfl))))))))
        rw [e]
        exact ih T' r1
      · have hne : ¬ M.1 261 0 v0 = nI s := by
          rw [p9, nI_eq (by omega) (by omega)]
          exact hts
        have e : L_X12_endAll_2 (m + 1) (nI k) T = L_X12_endAll_2 m (nI (k + 1)) T := by
          rw [L_X12_endAll_2]
          unfold L_X12_endAll_45
          rw [nI_1]
          exact e_N (by first | (simp (disch := first | omega | assumption) only [wrI_s, wrI_o, wrI_r, wrL_1, wrL_r, wrL_s, wrL_o, blk_in, blk_out, blk_r, lit, litL, b00, b11, nI_l, lN_add, lN_mul, lN_sub, nI_add, pk_mul, pk_sub, pk_div, remN, Nat.add_sub_cancel, Nat.add_sub_cancel_left, Nat.zero_add, Nat.add_zero, nI_eq, nI_leI, nI_ltI, nI_m1, m1_lt, neg_lt, neg_le, neg_ge, neg_gt, neg_eq, not_true, not_false_iff]; done) | (simp (disch := first | omega | assumption) only [wrI_s, wrI_o, wrI_r, wrL_1, wrL_r, wrL_s, wrL_o, blk_in, blk_out, blk_r, lit, litL, b00, b11, nI_l, lN_add, lN_mul, lN_sub, nI_add, pk_mul, pk_sub, pk_div, remN, Nat.add_sub_cancel, Nat.add_sub_cancel_left, Nat.zero_add, Nat.add_zero, nI_eq, nI_leI, nI_ltI, nI_m1, m1_lt, neg_lt, neg_le, neg_ge, neg_gt, neg_eq, not_true, not_false_iff]; omega)) (e_ldA (v := nI v0) rfl hk (by decide) (by decide) (t254.trans q2) (e_N (by first | (simp (disch := first | omega | assumption) only [wrI_s, wrI_o, wrI_r, wrL_1, wrL_r, wrL_s, wrL_o, blk_in, blk_out, blk_r, lit, litL, b00, b11, nI_l, lN_add, lN_mul, lN_sub, nI_add, pk_mul, pk_sub, pk_div, remN, Nat.add_sub_cancel, Nat.add_sub_cancel_left, Nat.zero_add, Nat.add_zero, nI_eq, nI_leI, nI_ltI, nI_m1, m1_lt, neg_lt, neg_le, neg_ge, neg_gt, neg_eq, not_true, not_false_iff]; done) | (simp (disch := first | omega | assumption) only [wrI_s, wrI_o, wrI_r, wrL_1, wrL_r, wrL_s, wrL_o, blk_in, blk_out, blk_r, lit, litL, b00, b11, nI_l, lN_add, lN_mul, lN_sub, nI_add, pk_mul, pk_sub, pk_div, remN, Nat.add_sub_cancel, Nat.add_sub_cancel_left, Nat.zero_add, Nat.add_zero, nI_eq, nI_leI, nI_ltI, nI_m1, m1_lt, neg_lt, neg_le, neg_ge, neg_gt, neg_eq, not_true, not_false_iff]; omega)) (e_ldA (v := nI v0) rfl hk (by decide) (by decide) (t254.trans q2) (e_ldA rfl (by omega) (by decide) (by decide) (by rw [f.1 261 (nc (by decide))]) (e_gf (v := nI s) (by rw [f.1 298 (nc (by decide))]; exact o2) (e_N hne rfl))))))
        rw [e]
        refine ih T (hP.cg (same (fun v hv h1 hc => ?_)))
        have := own v hv hc
        rw [q2] at this
        have ev : v0 = v := (nI_eq (by omega) (by omega)).mp this
        rw [ev] at hne
        exact hne h1
  · rw [L_X12_endAll_2]
    rw [if_pos (show (9 : Int32) ≤ nI 9 by decide)]
    refine loopR (fun m v T => L_X12_endAll_53 m v T) (fun o => ∃ T, OVR s g l M (fun v => decide (M.1 261 0 v = nI s)) T ∧ o = L_X12_endAll_100 fu 0 0 T) (fun u T => OVR s g l M (E2 s M u) T) 0 l (by omega) (by omega) (fun m u T _ hu hP ih => ?_) (fun m T hP => ?_) T (hP.cg (fun v hv => by unfold E1 E2; rw [decide_eq_false (p := v < 0) (by omega), Bool.or_false]))
    · have f := hP.1
      obtain ⟨sd, s1, s2, s3⟩ := hsd u hu
      have t304 : T.1 304 0 0 = nI l := by rw [f.1 304 (nc (by decide))]; exact o8
      have t260 : T.1 260 0 u = nI sd := by rw [f.1 260 (nc (by decide))]; exact s2
      have same : (sd < 9 ∨ ¬ M.1 261 0 u = nI s) → ∀ v, v < l → E2 s M (u + 1) v = E2 s M u v := by
        intro hor v hv
        unfold E2
        by_cases huv : v = u
        · rw [huv]
          rcases hor with h9 | hne
          · rw [s3, decide_eq_true h9]; rfl
          · rw [decide_eq_false hne]; rfl
        · rw [decide_eq_decide.mpr (show v < u + 1 ↔ v < u by omega)]
      by_cases h9 : sd = 9
      · by_cases h1 : M.1 261 0 u = nI s
        · obtain ⟨T', r1, r2⟩ := stE T (E2 s M u) (E2 s M (u + 1)) u sd hP hu h1 (by
            unfold E2
            rw [s3, h9, decide_eq_false (p := u < u) (by omega), decide_eq_false (p := 9 < 9) (by omega), Bool.or_false, Bool.and_false]) (fun v hv => by
            by_cases hv0 : v = u
            · rw [decide_eq_true hv0, Bool.or_true, hv0]
              unfold E2
              rw [decide_eq_true h1, decide_eq_true (p := u < u + 1) (by omega), Bool.or_true]
              rfl
            · rw [decide_eq_false hv0, Bool.or_false]
              unfold E2
              rw [decide_eq_decide.mpr (show v < u + 1 ↔ v < u by omega)]) s1 s2 (fun z => by omega)
          have e : L_X12_endAll_53 (m + 1) (nI u) T = L_X12_endAll_53 m (nI (u + 1)) T' := by
            rw [L_X12_endAll_53]
            unfold L_X12_endAll_90
            rw [nI_1]
            exact e_gf t304 (e_N (by first | (simp (disch := first | omega | assumption) only [wrI_s, wrI_o, wrI_r, wrL_1, wrL_r, wrL_s, wrL_o, blk_in, blk_out, blk_r, lit, litL, b00, b11, nI_l, lN_add, lN_mul, lN_sub, nI_add, pk_mul, pk_sub, pk_div, remN, Nat.add_sub_cancel, Nat.add_sub_cancel_left, Nat.zero_add, Nat.add_zero, nI_eq, nI_leI, nI_ltI, nI_m1, m1_lt, neg_lt, neg_le, neg_ge, neg_gt, neg_eq, not_true, not_false_iff]; done) | (simp (disch := first | omega | assumption) only [wrI_s, wrI_o, wrI_r, wrL_1, wrL_r, wrL_s, wrL_o, blk_in, blk_out, blk_r, lit, litL, b00, b11, nI_l, lN_add, lN_mul, lN_sub, nI_add, pk_mul, pk_sub, pk_div, remN, Nat.add_sub_cancel, Nat.add_sub_cancel_left, Nat.zero_add, Nat.add_zero, nI_eq, nI_leI, nI_ltI, nI_m1, m1_lt, neg_lt, neg_le, neg_ge, neg_gt, neg_eq, not_true, not_false_iff]; omega)) (e_ldA rfl (by omega) (by decide) (by decide) t260 (e_T (by rw [h9]; rfl) (e_ldA (v := nI s) rfl (by omega) (by decide) (by decide) (by rw [f.1 261 (nc (by decide))]; exact h1) (e_gf (v := nI s) (by rw [f.1 298 (nc (by decide))]; exact o2) (e_T rfl (e_cl r2 rfl)))))))
          rw [e]
          exact ih T' r1
        · have e : L_X12_endAll_53 (m + 1) (nI u) T = L_X12_endAll_53 m (nI (u + 1)) T := by
            rw [L_X12_endAll_53]
            unfold L_X12_endAll_90
            rw [nI_1]
            exact e_gf t304 (e_N (by first | (simp (disch := first | omega | assumption) only [wrI_s, wrI_o, wrI_r, wrL_1, wrL_r, wrL_s, wrL_o, blk_in, blk_out, blk_r, lit, litL, b00, b11, nI_l, lN_add, lN_mul, lN_sub, nI_add, pk_mul, pk_sub, pk_div, remN, Nat.add_sub_cancel, Nat.add_sub_cancel_left, Nat.zero_add, Nat.add_zero, nI_eq, nI_leI, nI_ltI, nI_m1, m1_lt, neg_lt, neg_le, neg_ge, neg_gt, neg_eq, not_true, not_false_iff]; done) | (simp (disch := first | omega | assumption) only [wrI_s, wrI_o, wrI_r, wrL_1, wrL_r, wrL_s, wrL_o, blk_in, blk_out, blk_r, lit, litL, b00, b11, nI_l, lN_add, lN_mul, lN_sub, nI_add, pk_mul, pk_sub, pk_div, remN, Nat.add_sub_cancel, Nat.add_sub_cancel_left, Nat.zero_add, Nat.add_zero, nI_eq, nI_leI, nI_ltI, nI_m1, m1_lt, neg_lt, neg_le, neg_ge, neg_gt, neg_eq, not_true, not_false_iff]; omega)) (e_ldA rfl (by omega) (by decide) (by decide) t260 (e_T (by rw [h9]; rfl) (e_ldA rfl (by omega) (by decide) (by decide) (by rw [f.1 261 (nc (by decide))]) (e_gf (v := nI s) (by rw [f.1 298 (nc (by decide))]; exact o2) (e_N h1 rfl))))))
          rw [e]
          exact ih T (hP.cg (same (Or.inr h1)))
      · have e : L_X12_endAll_53 (m + 1) (nI u) T = L_X12_endAll_53 m (nI (u + 1)) T := by
          rw [L_X12_endAll_53]
          unfold L_X12_endAll_90
          rw [nI_1]
          exact e_gf t304 (e_N (by first | (simp (disch := first | omega | assumption) only [wrI_s, wrI_o, wrI_r, wrL_1, wrL_r, wrL_s, wrL_o, blk_in, blk_out, blk_r, lit, litL, b00, b11, nI_l, lN_add, lN_mul, lN_sub, nI_add, pk_mul, pk_sub, pk_div, remN, Nat.add_sub_cancel, Nat.add_sub_cancel_left, Nat.zero_add, Nat.add_zero, nI_eq, nI_leI, nI_ltI, nI_m1, m1_lt, neg_lt, neg_le, neg_ge, neg_gt, neg_eq, not_true, not_false_iff]; done) | (simp (disch := first | omega | assumption) only [wrI_s, wrI_o, wrI_r, wrL_1, wrL_r, wrL_s, wrL_o, blk_in, blk_out, blk_r, lit, litL, b00, b11, nI_l, lN_add, lN_mul, lN_sub, nI_add, pk_mul, pk_sub, pk_div, remN, Nat.add_sub_cancel, Nat.add_sub_cancel_left, Nat.zero_add, Nat.add_zero, nI_eq, nI_leI, nI_ltI, nI_m1, m1_lt, neg_lt, neg_le, neg_ge, neg_gt, neg_eq, not_true, not_false_iff]; omega)) (e_ldA rfl (by omega) (by decide) (by decide) t260 (e_N (by first | (simp (disch := first | omega | assumption) only [wrI_s, wrI_o, wrI_r, wrL_1, wrL_r, wrL_s, wrL_o, blk_in, blk_out, blk_r, lit, litL, b00, b11, nI_l, lN_add, lN_mul, lN_sub, nI_add, pk_mul, pk_sub, pk_div, remN, Nat.add_sub_cancel, Nat.add_sub_cancel_left, Nat.zero_add, Nat.add_zero, nI_eq, nI_leI, nI_ltI, nI_m1, m1_lt, neg_lt, neg_le, neg_ge, neg_gt, neg_eq, not_true, not_false_iff]; done) | (simp (disch := first | omega | assumption) only [wrI_s, wrI_o, wrI_r, wrL_1, wrL_r, wrL_s, wrL_o, blk_in, blk_out, blk_r, lit, litL, b00, b11, nI_l, lN_add, lN_mul, lN_sub, nI_add, pk_mul, pk_sub, pk_div, remN, Nat.add_sub_cancel, Nat.add_sub_cancel_left, Nat.zero_add, Nat.add_zero, nI_eq, nI_leI, nI_ltI, nI_m1, m1_lt, neg_lt, neg_le, neg_ge, neg_gt, neg_eq, not_true, not_false_iff]; omega)) rfl)))
        rw [e]
        exact ih T (hP.cg (same (Or.inl (by omega))))
    · have f := hP.1
      have t304 : T.1 304 0 0 = nI l := by rw [f.1 304 (nc (by decide))]; exact o8
      refine ⟨T, hP.cg (fun v hv => ?_), ?_⟩
      · unfold E2
        rw [decide_eq_true hv, Bool.or_true, Bool.and_true]
      · rw [L_X12_endAll_53]
        exact e_gf t304 (e_T (by first | (simp (disch := first | omega | assumption) only [wrI_s, wrI_o, wrI_r, wrL_1, wrL_r, wrL_s, wrL_o, blk_in, blk_out, blk_r, lit, litL, b00, b11, nI_l, lN_add, lN_mul, lN_sub, nI_add, pk_mul, pk_sub, pk_div, remN, Nat.add_sub_cancel, Nat.add_sub_cancel_left, Nat.zero_add, Nat.add_zero, nI_eq, nI_leI, nI_ltI, nI_m1, m1_lt, neg_lt, neg_le, neg_ge, neg_gt, neg_eq, not_true, not_false_iff]; done) | (simp (disch := first | omega | assumption) only [wrI_s, wrI_o, wrI_r, wrL_1, wrL_r, wrL_s, wrL_o, blk_in, blk_out, blk_r, lit, litL, b00, b11, nI_l, lN_add, lN_mul, lN_sub, nI_add, pk_mul, pk_sub, pk_div, remN, Nat.add_sub_cancel, Nat.add_sub_cancel_left, Nat.zero_add, Nat.add_zero, nI_eq, nI_leI, nI_ltI, nI_m1, m1_lt, neg_lt, neg_le, neg_ge, neg_gt, neg_eq, not_true, not_false_iff]; omega)) rfl)
