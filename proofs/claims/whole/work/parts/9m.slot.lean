/-! A SLOT, both sides -/
/-- what the class does in a slot in which something may happen -/
def slbC (K : Mm → Option (Int32 × Mm)) (C : Mm) : Option (Int32 × Mm) := cl (F_X11_beginNodes C) fun r6 S7 => cl (F_X8_begin S7) fun r9 S10 => cl (F_X5_closeBeginnings S10) fun r12 S13 => cl (F_X11_endFrames S13) fun r15 S16 => if r15 = (-1) then (cl (F_X11_failWaiters S16) fun r33 S34 => cl (F_X11_countDown S34) fun r36 S37 => gf S37 76 0 fun x39 => pf S37 76 0 (x39 + 1) fun S40 => K S40) else (cl (F_X5_newestBytes S16) fun r18 S19 => nn r18 40 fun i21 => ldA S19 27 i21 300 40 0 fun x22 => if x22 = 8 then (cl (F_X11_takeData r15 S19) fun r26 S27 => cl (F_X11_failWaiters S27) fun r33 S34 => cl (F_X11_countDown S34) fun r36 S37 => gf S37 76 0 fun x39 => pf S37 76 0 (x39 + 1) fun S40 => K S40) else (cl (F_X11_takeManagement r15 S19) fun r23 S24 => cl (F_X11_failWaiters S24) fun r33 S34 => cl (F_X11_countDown S34) fun r36 S37 => gf S37 76 0 fun x39 => pf S37 76 0 (x39 + 1) fun S40 => K S40))
theorem efC0 {s : Nat} {C M : Mm} (hR : IRef C M) (h76 : C.1 76 0 0 = nI s) (hno : ∀ j, j < 9 → ¬ C.1 96 j 0 = nI s) (h33 : C.1 33 0 (s % 16) = nI 0) (hs : s < 2 ^ 29) : F_X11_endFrames C = some (-nI 1, C) := by
  have h16 : s % 16 < 16 := Nat.mod_lt _ (by decide)
  unfold F_X11_endFrames
  refine loop0 (fun m (q : Int32 × Mm) => L_X11_endFrames_2 m q.1 q.2) (fun j => (nI j, C)) 9 (by decide) (fun m j hj => ?_) (fun m => ?_)
  · dsimp only
    rw [L_X11_endFrames_2]
    unfold L_X11_endFrames_47
    rw [nI_1]
    exact e_N (by first | (simp (disch := first | omega | assumption) only [wrI_s, wrI_o, wrI_r, wrL_1, wrL_r, wrL_s, wrL_o, blk_in, blk_out, blk_r, lit, litL, b00, b11, nI_l, lN_add, lN_mul, lN_sub, nI_add, pk_mul, pk_sub, pk_div, remN, Nat.add_sub_cancel, Nat.add_sub_cancel_left, Nat.zero_add, Nat.add_zero, nI_eq, nI_leI, nI_ltI, nI_m1, m1_lt, neg_lt, neg_le, neg_ge, neg_gt, neg_eq, not_true, not_false_iff]; done) | (simp (disch := first | omega | assumption) only [wrI_s, wrI_o, wrI_r, wrL_1, wrL_r, wrL_s, wrL_o, blk_in, blk_out, blk_r, lit, litL, b00, b11, nI_l, lN_add, lN_mul, lN_sub, nI_add, pk_mul, pk_sub, pk_div, remN, Nat.add_sub_cancel, Nat.add_sub_cancel_left, Nat.zero_add, Nat.add_zero, nI_eq, nI_leI, nI_ltI, nI_m1, m1_lt, neg_lt, neg_le, neg_ge, neg_gt, neg_eq, not_true, not_false_iff]; omega)) (e_ldR rfl hj (by decide) (by decide) (hR.1 j hj).1 hj (e_gf rfl (e_gf h76 (e_N (hno j hj) rfl))))
  · dsimp only
    rw [L_X11_endFrames_2]
    refine e_T (by decide) (e_cl (r := (0 : Int32)) (S1 := C) ?_ (e_T rfl rfl))
    unfold F_X5_closeEndings
    exact e_gf h76 (e_tp (w := nI (s % 16)) (and15 (by omega)) (e_ldA rfl h16 (by decide) (by decide) h33 (e_T rfl rfl)))
theorem eaM0 {s g : Nat} {C M : Mm} (hS : ISlo s g 0 C M) (hN : ISnd s 0 C M) : F_X12_endAll M = some ((), M) := by
  obtain ⟨o1, o2, o3, o4, o5, o6, o7, o8⟩ := hS
  have e100 : L_X12_endAll_100 fu 0 0 M = some ((), M) := by
    obtain ⟨m, hm⟩ := fu_n (N := 0) (by decide)
    rw [hm, L_X12_endAll_100]
    refine e_gf o8 (e_T (by decide) (e_pf (w := nI 0) rfl ?_))
    rw [wrI_self o8]
  have e53 : L_X12_endAll_53 fu 0 M = some ((), M) := by
    obtain ⟨m, hm⟩ := fu_n (N := 0) (by decide)
    rw [hm, L_X12_endAll_53]
    exact e_gf o8 (e_T (by decide) e100)
  unfold F_X12_endAll
  refine loop0 (fun m (q : Int32 × Mm) => L_X12_endAll_2 m q.1 q.2) (fun j => (nI j, M)) 9 (by decide) (fun m j hj => ?_) (fun m => ?_)
  · dsimp only
    rw [L_X12_endAll_2]
    unfold L_X12_endAll_45
    rw [nI_1]
    exact e_N (by first | (simp (disch := first | omega | assumption) only [wrI_s, wrI_o, wrI_r, wrL_1, wrL_r, wrL_s, wrL_o, blk_in, blk_out, blk_r, lit, litL, b00, b11, nI_l, lN_add, lN_mul, lN_sub, nI_add, pk_mul, pk_sub, pk_div, remN, Nat.add_sub_cancel, Nat.add_sub_cancel_left, Nat.zero_add, Nat.add_zero, nI_eq, nI_leI, nI_ltI, nI_m1, m1_lt, neg_lt, neg_le, neg_ge, neg_gt, neg_eq, not_true, not_false_iff]; done) | (simp (disch := first | omega | assumption) only [wrI_s, wrI_o, wrI_r, wrL_1, wrL_r, wrL_s, wrL_o, blk_in, blk_out, blk_r, lit, litL, b00, b11, nI_l, lN_add, lN_mul, lN_sub, nI_add, pk_mul, pk_sub, pk_div, remN, Nat.add_sub_cancel, Nat.add_sub_cancel_left, Nat.zero_add, Nat.add_zero, nI_eq, nI_leI, nI_ltI, nI_m1, m1_lt, neg_lt, neg_le, neg_ge, neg_gt, neg_eq, not_true, not_false_iff]; omega)) (e_ldA rfl hj (by decide) (by decide) (hN.n hj) (e_T (by decide) rfl))
  · dsimp only
    rw [L_X12_endAll_2]
    exact e_T (by decide) e53
abbrev l77 : List Nat := [77]
abbrev l300 : List Nat := [299, 300]
/-- the slot is counted as quiet, both sides -/
theorem quietC {c s d w e p t g l : Nat} {v : Int32} {x : Int32} {C M : Mm} (h : SS c s d w e p t g l C M) (hv : v = C.1 77 0 0 + x) (q : Int32) : SS c s d w e p t g l (wrI C 77 0 0 v) (wrI (wrI M 300 0 0 (M.1 300 0 0 + x)) 299 0 0 q) := by
  obtain ⟨hITape, hIDraw, hINois, hIPar, hISub, hIKey, hIRef, hISta, hILnk, hIBeg, hIQue, hIHnd, hICon, hIDue, hIWai, hISnd, hISlo, hISto, hIRng, hILiv, hIEnd, hIPut, hILat, hIInb, hICnt, hIAlq⟩ := h
  have key : ∀ C' M', fq l77 C C' → fq l300 M M' → ISto C' M' → SS c s d w e p t g l C' M' := fun C' M' fC gM tISto => ⟨hITape.fr fC gM (by decide) (by decide), hIDraw.fr fC gM (by decide) (by decide), hINois.fr fC gM (by decide) (by decide), hIPar.fr fC gM (by decide) (by decide), hISub.fr fC gM (by decide) (by decide), hIKey.fr fC gM (by decide) (by decide), hIRef.fr fC gM (by decide) (by decide), hISta.fr fC gM (by decide) (by decide), hILnk.fr fC gM (by decide) (by decide), hIBeg.fr fC gM (by decide) (by decide), hIQue.fr fC gM (by decide) (by decide), hIHnd.fr fC gM (by decide) (by decide), hICon.fr fC gM (by decide) (by decide), hIDue.fr fC gM (by decide) (by decide), hIWai.fr fC gM (by decide) (by decide), hISnd.fr fC gM (by decide) (by decide), hISlo.fr fC gM (by decide) (by decide), tISto, hIRng.fr fC gM (by decide) (by decide), hILiv.fr fC gM (by decide) (by decide), hIEnd.fr fC gM (by decide) (by decide), hIPut.fr fC gM (by decide) (by decide), hILat.fr fC gM (by decide) (by decide), hIInb.fr fC gM (by decide) (by decide), hICnt.fr fC gM (by decide) (by decide), hIAlq.fr fC gM (by decide) (by decide)⟩
  refine key _ _ (by repeat (first | exact fq.rf | (refine fq.tr ?_ (fq.wr (by decide))) | (refine fq.tr ?_ (fq.bk (by decide))) | (refine fq.tr ?_ (fq.wl (by decide))) | (refine fq.tr ?_ (fq.wR (by decide))))) (by repeat (first | exact fq.rf | (refine fq.tr ?_ (fq.wr (by decide))) | (refine fq.tr ?_ (fq.bk (by decide))) | (refine fq.tr ?_ (fq.wl (by decide))) | (refine fq.tr ?_ (fq.wR (by decide))))) ⟨?_, ?_⟩
  · rw [wrI_s, wrI_ne (by decide), wrI_s, hv, hISto.1]
  · rw [wrI_ne (by decide), wrI_ne (by decide), wrI_ne (by decide)]
    exact hISto.2
abbrev l299 : List Nat := [299, 300]
theorem busyC {c s d w e p t g l : Nat} {C M : Mm} (h : SS c s d w e p t g l C M) (q : Int32) : SS c s d w e p t g l C (wrI (wrI M 300 0 0 (M.1 300 0 0 + 0)) 299 0 0 q) := by
  obtain ⟨hITape, hIDraw, hINois, hIPar, hISub, hIKey, hIRef, hISta, hILnk, hIBeg, hIQue, hIHnd, hICon, hIDue, hIWai, hISnd, hISlo, hISto, hIRng, hILiv, hIEnd, hIPut, hILat, hIInb, hICnt, hIAlq⟩ := h
  have key : ∀ C' M', fq l77 C C' → fq l300 M M' → ISto C' M' → SS c s d w e p t g l C' M' := fun C' M' fC gM tISto => ⟨hITape.fr fC gM (by decide) (by decide), hIDraw.fr fC gM (by decide) (by decide), hINois.fr fC gM (by decide) (by decide), hIPar.fr fC gM (by decide) (by decide), hISub.fr fC gM (by decide) (by decide), hIKey.fr fC gM (by decide) (by decide), hIRef.fr fC gM (by decide) (by decide), hISta.fr fC gM (by decide) (by decide), hILnk.fr fC gM (by decide) (by decide), hIBeg.fr fC gM (by decide) (by decide), hIQue.fr fC gM (by decide) (by decide), hIHnd.fr fC gM (by decide) (by decide), hICon.fr fC gM (by decide) (by decide), hIDue.fr fC gM (by decide) (by decide), hIWai.fr fC gM (by decide) (by decide), hISnd.fr fC gM (by decide) (by decide), hISlo.fr fC gM (by decide) (by decide), tISto, hIRng.fr fC gM (by decide) (by decide), hILiv.fr fC gM (by decide) (by decide), hIEnd.fr fC gM (by decide) (by decide), hIPut.fr fC gM (by decide) (by decide), hILat.fr fC gM (by decide) (by decide), hIInb.fr fC gM (by decide) (by decide), hICnt.fr fC gM (by decide) (by decide), hIAlq.fr fC gM (by decide) (by decide)⟩
  refine key _ _ fq.rf (by repeat (first | exact fq.rf | (refine fq.tr ?_ (fq.wr (by decide))) | (refine fq.tr ?_ (fq.bk (by decide))) | (refine fq.tr ?_ (fq.wl (by decide))) | (refine fq.tr ?_ (fq.wR (by decide))))) ⟨?_, ?_⟩
  · rw [wrI_ne (by decide), wrI_s, Int32.add_zero]
    exact hISto.1
  · rw [wrI_ne (by decide), wrI_ne (by decide)]
    exact hISto.2
theorem live_g {s g l : Nat} {C M : Mm} (h : ILiv s g l C M) (hg : g < 2 ^ 31) : l ≤ g := by
  have hx : ∀ v, v < l → ∃ x, x < g ∧ M.1 264 0 v = nI x := fun v hv => by
    obtain ⟨x, t', n', sd', c', p1, p2, p3, p4, p5, p6, p7, p8, -⟩ := h.1 v hv
    exact ⟨x, p1, p8⟩
  have key : ∀ K, K ≤ g → cnt (fun v => decide ((M.1 264 0 v).toNatClampNeg < K)) l ≤ K := by
    intro K
    induction K with
    | zero =>
      intro _
      rw [cnt_0 (fun v hv => decide_eq_false (by omega))]
      exact Nat.le_refl 0
    | succ K ih =>
      intro hK
      rw [cnt_congr (q := fun v => decide ((M.1 264 0 v).toNatClampNeg < K) || decide ((M.1 264 0 v).toNatClampNeg = K)) (fun v hv => by
        rw [← Bool.decide_or]
        exact decide_eq_decide.mpr (by omega))]
      have h1 := cnt_or (p := fun v => decide ((M.1 264 0 v).toNatClampNeg < K)) (q := fun v => decide ((M.1 264 0 v).toNatClampNeg = K)) (n := l)
      have h2 := ih (by omega)
      have h3 : cnt (fun v => decide ((M.1 264 0 v).toNatClampNeg = K)) l ≤ 1 := by
        refine cnt_1 (fun v w hv hw pv pw => ?_)
        obtain ⟨a, a1, a2⟩ := hx v hv
        obtain ⟨b, b1, b2⟩ := hx w hw
        have ea := of_decide_eq_true pv
        have eb := of_decide_eq_true pw
        rw [a2, nI_clamp (by omega)] at ea
        rw [b2, nI_clamp (by omega)] at eb
        exact h.2 v w hv hw (by rw [a2, b2, ea, eb])
      omega
  have h2 := key g (Nat.le_refl g)
  rw [cnt_congr (q := fun _ => true) (fun v hv => by
    obtain ⟨a, a1, a2⟩ := hx v hv
    rw [a2, nI_clamp (by omega)]
    exact decide_eq_true a1), cnt_all] at h2
  exact h2
theorem slotT {c s g l : Nat} {C M : Mm} (hc : c ≤ 512) (hs : s < 2 ^ 27) (hg : g < 2 ^ 27) (hS : SS c s s s s s s g l C M) (hQ : IQui s C M) : ∃ C' M' g' l', (∀ K, slbC K C = K C') ∧ F_X12_goSlot M = some ((), M') ∧ SS c (s + 1) (s + 1) (s + 1) (s + 1) (s + 1) (s + 1) g' l' C' M' ∧ IQui (s + 1) C' M' ∧ IAlo g' l' C' M' ∧ g' ≤ g + 29 := by
  have hl0 : l ≤ 265 := by
    have hS2 := hS
    obtain ⟨hITape, hIDraw, hINois, hIPar, hISub, hIKey, hIRef, hISta, hILnk, hIBeg, hIQue, hIHnd, hICon, hIDue, hIWai, hISnd, hISlo, hISto, hIRng, hILiv, hIEnd, hIPut, hILat, hIInb, hICnt, hIAlq⟩ := hS2
    have := live_g hILiv (by omega)
    exact live_lt hS hc (by omega)
  obtain ⟨C1, M1, g1, l1, q, a1, a2, a3, a4, a5, a6, a7, a8, a9, a10⟩ := nodesB hc hs (by omega) hS (by omega) hQ
  obtain ⟨C2, M2, g2, l2, b1, b2, b3, b4, b5, b6, b7⟩ := putsB hc (by omega) (by omega) (by omega) a3
  obtain ⟨C3, M3, c1, c2, c3⟩ := closeB hc (by omega) (by omega) b3
  have m304 : M2.1 304 0 0 = nI l2 := by
    have hS2 := b3
    obtain ⟨hITape, hIDraw, hINois, hIPar, hISub, hIKey, hIRef, hISta, hILnk, hIBeg, hIQue, hIHnd, hICon, hIDue, hIWai, hISnd, hISlo, hISto, hIRng, hILiv, hIEnd, hIPut, hILat, hIInb, hICnt, hIAlq⟩ := hS2
    exact hISlo.2.2.2.2.2.2.2
  have m299 : M2.1 299 0 0 = nI q := by rw [b6]; exact a8
  have c78 : C2.1 78 = C.1 78 := b7.trans a9
  have c76 : C.1 76 0 0 = nI s := by
    have hS2 := hS
    obtain ⟨hITape, hIDraw, hINois, hIPar, hISub, hIKey, hIRef, hISta, hILnk, hIBeg, hIQue, hIHnd, hICon, hIDue, hIWai, hISnd, hISlo, hISto, hIRng, hILiv, hIEnd, hIPut, hILat, hIInb, hICnt, hIAlq⟩ := hS2
    exact hISlo.1
  have preM : ∀ X, L_X12_goSlot_65 (nI (if l2 = 0 then 1 else 0)) M3 = X → F_X12_goSlot M = X := by
    intro X hX
    unfold F_X12_goSlot
    refine e_cl (a2.trans b2) (e_gf m304 ?_)
    by_cases h0 : l2 = 0
    · rw [if_pos h0] at c2 hX
      exact e_T (by rw [h0]; rfl) (c2.trans hX)
    · rw [if_neg h0] at c2 hX
      exact e_N (nI_ne0 (by omega) (by omega)) (c2.trans hX)
  have preC : ∀ K X, (cl (F_X11_endFrames C3) fun r15 S16 => if r15 = (-1) then (cl (F_X11_failWaiters S16) fun r33 S34 => cl (F_X11_countDown S34) fun r36 S37 => gf S37 76 0 fun x39 => pf S37 76 0 (x39 + 1) fun S40 => K S40) else (cl (F_X5_newestBytes S16) fun r18 S19 => nn r18 40 fun i21 => ldA S19 27 i21 300 40 0 fun x22 => if x22 = 8 then (cl (F_X11_takeData r15 S19) fun r26 S27 => cl (F_X11_failWaiters S27) fun r33 S34 => cl (F_X11_countDown S34) fun r36 S37 => gf S37 76 0 fun x39 => pf S37 76 0 (x39 + 1) fun S40 => K S40) else (cl (F_X11_takeManagement r15 S19) fun r23 S24 => cl (F_X11_failWaiters S24) fun r33 S34 => cl (F_X11_countDown S34) fun r36 S37 => gf S37 76 0 fun x39 => pf S37 76 0 (x39 + 1) fun S40 => K S40))) = X → slbC K C = X := by
    intro K X hX
    unfold slbC
    exact e_cl a1 (e_cl b1 (e_cl c1 hX))
  rcases c3 with ⟨h0, hC3, hM3⟩ | ⟨h0, d1, d2, d3, d4⟩
  · -- a quiet slot
    subst h0
    rw [if_pos rfl] at preM
    have hS2 := b3
    obtain ⟨hITape, hIDraw, hINois, hIPar, hISub, hIKey, hIRef, hISta, hILnk, hIBeg, hIQue, hIHnd, hICon, hIDue, hIWai, hISnd, hISlo, hISto, hIRng, hILiv, hIEnd, hIPut, hILat, hIInb, hICnt, hIAlq⟩ := hS2
    have o76 : C2.1 76 0 0 = nI s := hISlo.1
    have h33 := hIEnd 0 (by decide)
    rw [Nat.add_zero] at h33
    have eEf : F_X11_endFrames C3 = some (-nI 1, C3) := by
      rw [hC3]
      refine efC0 (s := s) (M := M2) (hIRef.fr (u := [77]) (w := []) (by repeat (first | exact fq.rf | (refine fq.tr ?_ (fq.wr (by decide))) | (refine fq.tr ?_ (fq.bk (by decide))) | (refine fq.tr ?_ (fq.wl (by decide))) | (refine fq.tr ?_ (fq.wR (by decide))))) fq.rf (by decide) (by decide)) (by first | (simp (disch := first | omega | assumption) only [o76, wrI_s, wrI_o, wrI_r, wrL_1, wrL_r, wrL_s, wrL_o, blk_in, blk_out, blk_r, lit, litL, b00, b11, nI_l, lN_add, lN_mul, lN_sub, nI_add, pk_mul, pk_sub, pk_div, remN, Nat.add_sub_cancel, Nat.add_sub_cancel_left, Nat.zero_add, Nat.add_zero]; done) | (simp (disch := first | omega | assumption) only [o76, wrI_s, wrI_o, wrI_r, wrL_1, wrL_r, wrL_s, wrL_o, blk_in, blk_out, blk_r, lit, litL, b00, b11, nI_l, lN_add, lN_mul, lN_sub, nI_add, pk_mul, pk_sub, pk_div, remN, Nat.add_sub_cancel, Nat.add_sub_cancel_left, Nat.zero_add, Nat.add_zero]; rfl) | rfl) (fun j hj => ?_) ?_ (by omega)
      · rw [wrI_ne (by decide)]
        rcases hISnd.1 j hj with ⟨-, s2⟩ | ⟨v, t', m, s1, -⟩
        · rcases s2 with s2 | ⟨x, x1, x2⟩
          · rw [s2]
            exact fun e => absurd e.symm (by rw [nI_m1 (by omega)]; exact id)
          · rw [x2, nI_eq (by omega) (by omega)]
            omega
        · omega
      · rw [wrI_ne (by decide), h33]
        rfl
    have eEa : F_X12_endAll M3 = some ((), M3) := by
      rw [hM3]
      exact eaM0 hISlo hISnd
    obtain ⟨C4, M4, f1, f2, f3, f4, f5⟩ := waitF (x := nI 1) (by omega) (by decide) b3
    have f1' : F_X11_failWaiters C3 = some ((), W7 (C2.1 77 0 0 + 1) C4) := by
      rw [hC3]
      exact w_fw.use f1
    have n299 : M4.1 299 0 0 = nI q := by rw [f5.1 299 (nc (by decide))]; exact m299
    have n78 : C4.1 78 = C.1 78 := (f4.1 78 (nc (by decide))).trans c78
    have n76 : C4.1 76 0 0 = nI s := by rw [f4.1 76 (nc (by decide))]; exact o76
    have hq4 : F_X5_isQuietSince C4 = some (nI (if q = 3 then 1 else 0), C4) := by
      obtain ⟨q', q1, q2, q3⟩ := quS (M := wrI M 299 0 0 (nI q)) (C := C4) (by omega) n76 (by
        obtain ⟨q0, z1, z2, z3⟩ := hQ
        have e0 : q0 = q := (nI_eq (by omega) (by omega)).mp (z2.symm.trans a7)
        rw [e0] at z1 z3
        exact ⟨q, z1, wrI_s, by rw [n78]; exact z3⟩)
      rw [wrI_s] at q2
      have e0 : q = q' := (nI_eq (by omega) (by omega)).mp q2
      rw [e0]
      exact q3
    have cd : ∃ C5 M5, F_X11_countDown C4 = some ((), C5) ∧ L_X12_goSlot_114 1 fu 0 M4 = L_X12_goSlot_184 1 M5 ∧ SS c s (s + 1) (s + 1) s (s + 1) s g2 0 C5 M5 ∧ fq l91 C4 C5 ∧ fq l248 M4 M5 := by
      by_cases hq3 : q = 3
      · rw [hq3] at n299 hq4
        exact cntD (by omega) (by omega) (by omega) f3 n299 hq4
      · rw [if_neg hq3] at hq4
        refine ⟨C4, M4, ?_, ?_, f3, fq.rf, fq.rf⟩
        · unfold F_X11_countDown
          exact e_cl hq4 (e_T rfl rfl)
        · obtain ⟨m, hm⟩ := fu_n (N := 0) (by decide)
          rw [hm, L_X12_goSlot_114]
          exact e_N (by decide) (e_N (by decide) (e_gf n299 (e_T (by first | (simp (disch := first | omega | assumption) only [wrI_s, wrI_o, wrI_r, wrL_1, wrL_r, wrL_s, wrL_o, blk_in, blk_out, blk_r, lit, litL, b00, b11, nI_l, lN_add, lN_mul, lN_sub, nI_add, pk_mul, pk_sub, pk_div, remN, Nat.add_sub_cancel, Nat.add_sub_cancel_left, Nat.zero_add, Nat.add_zero, nI_eq, nI_leI, nI_ltI, nI_m1, m1_lt, neg_lt, neg_le, neg_ge, neg_gt, neg_eq, not_true, not_false_iff]; done) | (simp (disch := first | omega | assumption) only [wrI_s, wrI_o, wrI_r, wrL_1, wrL_r, wrL_s, wrL_o, blk_in, blk_out, blk_r, lit, litL, b00, b11, nI_l, lN_add, lN_mul, lN_sub, nI_add, pk_mul, pk_sub, pk_div, remN, Nat.add_sub_cancel, Nat.add_sub_cancel_left, Nat.zero_add, Nat.add_zero, nI_eq, nI_leI, nI_ltI, nI_m1, m1_lt, neg_lt, neg_le, neg_ge, neg_gt, neg_eq, not_true, not_false_iff]; omega)) rfl)))
    obtain ⟨C5, M5, g1', g2', g3', g4', g5'⟩ := cd
    have g1'' : F_X11_countDown (W7 (C2.1 77 0 0 + 1) C4) = some ((), W7 (C2.1 77 0 0 + 1) C5) := w_cd.use g1'
    have p76 : C5.1 76 0 0 = nI s := by rw [g4'.1 76 (nc (by decide))]; exact n76
    have p77 : C5.1 77 = C2.1 77 := (g4'.1 77 (nc (by decide))).trans (f4.1 77 (nc (by decide)))
    have p298 : M5.1 298 0 0 = nI s := by
      have hS3 := g3'
      obtain ⟨hITape, hIDraw, hINois, hIPar, hISub, hIKey, hIRef, hISta, hILnk, hIBeg, hIQue, hIHnd, hICon, hIDue, hIWai, hISnd, hISlo, hISto, hIRng, hILiv, hIEnd, hIPut, hILat, hIInb, hICnt, hIAlq⟩ := hS3
      exact hISlo.2.1
    have p299 : M5.1 299 0 0 = nI q := by rw [g5'.1 299 (nc (by decide))]; exact n299
    have e184 : L_X12_goSlot_184 1 M5 = some ((), wrI (wrI (wrI M5 300 0 0 (M5.1 300 0 0 + 1)) 299 0 0 (nI (if q = 3 then 3 else q + 1))) 298 0 0 (nI (s + 1))) := by
      unfold L_X12_goSlot_184 L_X12_goSlot_198 L_X12_goSlot_229
      refine e_gf rfl (e_N (by decide) (e_pf rfl (e_N (by decide) (e_gf (v := nI q) (by first | (simp (disch := first | omega | assumption) only [p299, wrI_s, wrI_o, wrI_r, wrL_1, wrL_r, wrL_s, wrL_o, blk_in, blk_out, blk_r, lit, litL, b00, b11, nI_l, lN_add, lN_mul, lN_sub, nI_add, pk_mul, pk_sub, pk_div, remN, Nat.add_sub_cancel, Nat.add_sub_cancel_left, Nat.zero_add, Nat.add_zero]; done) | (simp (disch := first | omega | assumption) only [p299, wrI_s, wrI_o, wrI_r, wrL_1, wrL_r, wrL_s, wrL_o, blk_in, blk_out, blk_r, lit, litL, b00, b11, nI_l, lN_add, lN_mul, lN_sub, nI_add, pk_mul, pk_sub, pk_div, remN, Nat.add_sub_cancel, Nat.add_sub_cancel_left, Nat.zero_add, Nat.add_zero]; rfl) | rfl) ?_))))
      by_cases hq3 : q = 3
      · rw [if_pos hq3]
        exact e_T (by rw [hq3]; decide) (e_pf (w := nI 3) rfl (e_gf (v := nI s) (by first | (simp (disch := first | omega | assumption) only [p298, wrI_s, wrI_o, wrI_r, wrL_1, wrL_r, wrL_s, wrL_o, blk_in, blk_out, blk_r, lit, litL, b00, b11, nI_l, lN_add, lN_mul, lN_sub, nI_add, pk_mul, pk_sub, pk_div, remN, Nat.add_sub_cancel, Nat.add_sub_cancel_left, Nat.zero_add, Nat.add_zero]; done) | (simp (disch := first | omega | assumption) only [p298, wrI_s, wrI_o, wrI_r, wrL_1, wrL_r, wrL_s, wrL_o, blk_in, blk_out, blk_r, lit, litL, b00, b11, nI_l, lN_add, lN_mul, lN_sub, nI_add, pk_mul, pk_sub, pk_div, remN, Nat.add_sub_cancel, Nat.add_sub_cancel_left, Nat.zero_add, Nat.add_zero]; rfl) | rfl) (e_pf (nI_1 s) rfl)))
      · rw [if_neg hq3]
        exact e_N (by first | (simp (disch := first | omega | assumption) only [wrI_s, wrI_o, wrI_r, wrL_1, wrL_r, wrL_s, wrL_o, blk_in, blk_out, blk_r, lit, litL, b00, b11, nI_l, lN_add, lN_mul, lN_sub, nI_add, pk_mul, pk_sub, pk_div, remN, Nat.add_sub_cancel, Nat.add_sub_cancel_left, Nat.zero_add, Nat.add_zero, nI_eq, nI_leI, nI_ltI, nI_m1, m1_lt, neg_lt, neg_le, neg_ge, neg_gt, neg_eq, not_true, not_false_iff]; done) | (simp (disch := first | omega | assumption) only [wrI_s, wrI_o, wrI_r, wrL_1, wrL_r, wrL_s, wrL_o, blk_in, blk_out, blk_r, lit, litL, b00, b11, nI_l, lN_add, lN_mul, lN_sub, nI_add, pk_mul, pk_sub, pk_div, remN, Nat.add_sub_cancel, Nat.add_sub_cancel_left, Nat.zero_add, Nat.add_zero, nI_eq, nI_leI, nI_ltI, nI_m1, m1_lt, neg_lt, neg_le, neg_ge, neg_gt, neg_eq, not_true, not_false_iff]; omega)) (e_gf (v := nI q) (by first | (simp (disch := first | omega | assumption) only [p299, wrI_s, wrI_o, wrI_r, wrL_1, wrL_r, wrL_s, wrL_o, blk_in, blk_out, blk_r, lit, litL, b00, b11, nI_l, lN_add, lN_mul, lN_sub, nI_add, pk_mul, pk_sub, pk_div, remN, Nat.add_sub_cancel, Nat.add_sub_cancel_left, Nat.zero_add, Nat.add_zero]; done) | (simp (disch := first | omega | assumption) only [p299, wrI_s, wrI_o, wrI_r, wrL_1, wrL_r, wrL_s, wrL_o, blk_in, blk_out, blk_r, lit, litL, b00, b11, nI_l, lN_add, lN_mul, lN_sub, nI_add, pk_mul, pk_sub, pk_div, remN, Nat.add_sub_cancel, Nat.add_sub_cancel_left, Nat.zero_add, Nat.add_zero]; rfl) | rfl) (e_pf (nI_1 q) (e_gf (v := nI s) (by first | (simp (disch := first | omega | assumption) only [p298, wrI_s, wrI_o, wrI_r, wrL_1, wrL_r, wrL_s, wrL_o, blk_in, blk_out, blk_r, lit, litL, b00, b11, nI_l, lN_add, lN_mul, lN_sub, nI_add, pk_mul, pk_sub, pk_div, remN, Nat.add_sub_cancel, Nat.add_sub_cancel_left, Nat.zero_add, Nat.add_zero]; done) | (simp (disch := first | omega | assumption) only [p298, wrI_s, wrI_o, wrI_r, wrL_1, wrL_r, wrL_s, wrL_o, blk_in, blk_out, blk_r, lit, litL, b00, b11, nI_l, lN_add, lN_mul, lN_sub, nI_add, pk_mul, pk_sub, pk_div, remN, Nat.add_sub_cancel, Nat.add_sub_cancel_left, Nat.zero_add, Nat.add_zero]; rfl) | rfl) (e_pf (nI_1 s) rfl))))
    have hSf := slotUp (quietC (v := C2.1 77 0 0 + 1) (x := 1) (quietE g3') (by rw [p77]) (nI (if q = 3 then 3 else q + 1))).tup
    refine ⟨_, _, g2, 0, fun K => preC K _ ?_, preM _ ?_, hSf, ?_, fun v hv => absurd hv (by omega), by omega⟩
    · refine e_cl eEf (e_T rfl (e_cl f1' (e_cl g1'' (e_gf (v := nI s) ?_ (e_pf (nI_1 s) rfl)))))
      rw [W7_1 (by decide)]
      exact p76
    · unfold L_X12_goSlot_65
      exact e_cl eEa (by rw [hM3]; exact f2.trans (g2'.trans e184))
    · have k78 : (wrI (wrI C5 77 0 0 (C2.1 77 0 0 + 1)) 76 0 0 (nI (s + 1))).1 78 = C.1 78 := by
        rw [wrI_ne (by decide), wrI_ne (by decide)]
        exact (g4'.1 78 (nc (by decide))).trans n78
      have k299 : (wrI (wrI (wrI M5 300 0 0 (M5.1 300 0 0 + 1)) 299 0 0 (nI (if q = 3 then 3 else q + 1))) 298 0 0 (nI (s + 1))).1 299 0 0 = nI (if q = 3 then 3 else q + 1) := (by first | (simp (disch := first | omega | assumption) only [wrI_s, wrI_o, wrI_r, wrL_1, wrL_r, wrL_s, wrL_o, blk_in, blk_out, blk_r, lit, litL, b00, b11, nI_l, lN_add, lN_mul, lN_sub, nI_add, pk_mul, pk_sub, pk_div, remN, Nat.add_sub_cancel, Nat.add_sub_cancel_left, Nat.zero_add, Nat.add_zero]; done) | (simp (disch := first | omega | assumption) only [wrI_s, wrI_o, wrI_r, wrL_1, wrL_r, wrL_s, wrL_o, blk_in, blk_out, blk_r, lit, litL, b00, b11, nI_l, lN_add, lN_mul, lN_sub, nI_add, pk_mul, pk_sub, pk_div, remN, Nat.add_sub_cancel, Nat.add_sub_cancel_left, Nat.zero_add, Nat.add_zero]; rfl) | rfl)
      obtain ⟨q0, z1, z2, z3⟩ := hQ
      have e0 : q0 = q := (nI_eq (by omega) (by omega)).mp (z2.symm.trans a7)
      rw [e0] at z1 z3
      refine ⟨if q = 3 then 3 else q + 1, by split <;> omega, k299, ?_⟩
      rw [k78]
      rcases z3 with ⟨y1, y2, y3⟩ | ⟨y1, y2⟩
      · rw [if_neg (by omega)]
        by_cases hq2 : q = 2
        · exact Or.inr ⟨by omega, Or.inr ⟨s - 1 - q, by omega, y3⟩⟩
        · refine Or.inl ⟨by omega, by omega, ?_⟩
          rw [y3, show s + 1 - 1 - (q + 1) = s - 1 - q by omega]
      · rw [if_pos y1]
        refine Or.inr ⟨rfl, ?_⟩
        rcases y2 with y2 | ⟨b, k1, k2⟩
        · exact Or.inl y2
        · exact Or.inr ⟨b, by omega, k2⟩
  · -- something is on the air
    rw [if_neg (by omega)] at preM
    have hlg : 0 < l2 → 0 < g2 := fun _ => by
      have hS2 := d1
      obtain ⟨hITape, hIDraw, hINois, hIPar, hISub, hIKey, hIRef, hISta, hILnk, hIBeg, hIQue, hIHnd, hICon, hIDue, hIWai, hISnd, hISlo, hISto, hIRng, hILiv, hIEnd, hIPut, hILat, hIInb, hICnt, hIAlq⟩ := hS2
      have := live_g hILiv (by omega)
      omega
    obtain ⟨r, Cx, C4, M4, l4, e1, e2, e3, e4, e5, e6, e7, e8⟩ := endT hc d1 d2 (by omega) (by omega) (by omega) (by omega) hlg
    obtain ⟨C5, M5, f1, f2, f3, f4, f5⟩ := waitF (x := nI 0) (by omega) (by omega) e5
    have hS2 := f3
    obtain ⟨hITape, hIDraw, hINois, hIPar, hISub, hIKey, hIRef, hISta, hILnk, hIBeg, hIQue, hIHnd, hICon, hIDue, hIWai, hISnd, hISlo, hISto, hIRng, hILiv, hIEnd, hIPut, hILat, hIInb, hICnt, hIAlq⟩ := hS2
    have o76 := hISlo.1
    have o298 := hISlo.2.1
    have n78 : C5.1 78 0 0 = nI s := by rw [f4.1 78 (nc (by decide)), e7]; exact d3
    have hq : F_X5_isQuietSince C5 = some (nI 0, C5) := by
      unfold F_X5_isQuietSince
      refine e_gf o76 (e_gf n78 (e_T ?_ rfl))
      rw [pk_sub (Nat.le_refl s), Nat.sub_self]
      decide
    have hcd : F_X11_countDown C5 = some ((), C5) := by
      unfold F_X11_countDown
      exact e_cl hq (e_T rfl rfl)
    have e114 : L_X12_goSlot_114 (nI 0) fu 0 M5 = L_X12_goSlot_184 (nI 0) M5 := by
      obtain ⟨m, hm⟩ := fu_n (N := 0) (by decide)
      rw [hm, L_X12_goSlot_114]
      exact e_N (by decide) (e_T rfl rfl)
    have e184 : L_X12_goSlot_184 (nI 0) M5 = some ((), wrI (wrI (wrI M5 300 0 0 (M5.1 300 0 0 + 0)) 299 0 0 (nI 0)) 298 0 0 (nI (s + 1))) := by
      unfold L_X12_goSlot_184 L_X12_goSlot_198 L_X12_goSlot_229
      exact e_gf rfl (e_T rfl (e_pf rfl (e_T rfl (e_pf (w := nI 0) rfl (e_gf (v := nI s) (by first | (simp (disch := first | omega | assumption) only [o298, wrI_s, wrI_o, wrI_r, wrL_1, wrL_r, wrL_s, wrL_o, blk_in, blk_out, blk_r, lit, litL, b00, b11, nI_l, lN_add, lN_mul, lN_sub, nI_add, pk_mul, pk_sub, pk_div, remN, Nat.add_sub_cancel, Nat.add_sub_cancel_left, Nat.zero_add, Nat.add_zero]; done) | (simp (disch := first | omega | assumption) only [o298, wrI_s, wrI_o, wrI_r, wrL_1, wrL_r, wrL_s, wrL_o, blk_in, blk_out, blk_r, lit, litL, b00, b11, nI_l, lN_add, lN_mul, lN_sub, nI_add, pk_mul, pk_sub, pk_div, remN, Nat.add_sub_cancel, Nat.add_sub_cancel_left, Nat.zero_add, Nat.add_zero]; rfl) | rfl) (e_pf (nI_1 s) rfl))))))
    have hSf := slotUp (busyC f3 (nI 0))
    refine ⟨_, _, g2, l4, fun K => preC K _ ?_, preM _ ?_, hSf, ?_, ?_, by omega⟩
    · refine e_cl e1 ?_
      have tail : ∀ (Z : Mm), Z = C4 → (cl (F_X11_failWaiters Z) fun r33 S34 => cl (F_X11_countDown S34) fun r36 S37 => gf S37 76 0 fun x39 => pf S37 76 0 (x39 + 1) fun S40 => K S40) = K (wrI C5 76 0 0 (nI (s + 1))) := by
        intro Z hZ
        rw [hZ]
        exact e_cl f1 (e_cl hcd (e_gf o76 (e_pf (nI_1 s) rfl)))
      rcases e2 with ⟨k1, k2⟩ | ⟨a, k1, k2, k3⟩
      · exact e_T k1 (tail _ k2.symm)
      · rw [k2]
        refine e_N (fun z => absurd z (by rw [show (-1 : Int32) = -nI 1 from rfl, nI_m1 (by omega)]; exact id)) ?_
        have := k3 (fun Z => cl (F_X11_failWaiters Z) fun r33 S34 => cl (F_X11_countDown S34) fun r36 S37 => gf S37 76 0 fun x39 => pf S37 76 0 (x39 + 1) fun S40 => K S40)
        unfold actK at this
        exact this.trans (tail C4 rfl)
    · unfold L_X12_goSlot_65
      exact e_cl e3 (f2.trans (e114.trans e184))
    · refine ⟨0, by decide, (by first | (simp (disch := first | omega | assumption) only [wrI_s, wrI_o, wrI_r, wrL_1, wrL_r, wrL_s, wrL_o, blk_in, blk_out, blk_r, lit, litL, b00, b11, nI_l, lN_add, lN_mul, lN_sub, nI_add, pk_mul, pk_sub, pk_div, remN, Nat.add_sub_cancel, Nat.add_sub_cancel_left, Nat.zero_add, Nat.add_zero]; done) | (simp (disch := first | omega | assumption) only [wrI_s, wrI_o, wrI_r, wrL_1, wrL_r, wrL_s, wrL_o, blk_in, blk_out, blk_r, lit, litL, b00, b11, nI_l, lN_add, lN_mul, lN_sub, nI_add, pk_mul, pk_sub, pk_div, remN, Nat.add_sub_cancel, Nat.add_sub_cancel_left, Nat.zero_add, Nat.add_zero]; rfl) | rfl), Or.inl ⟨by decide, by omega, ?_⟩⟩
      rw [wrI_ne (by decide), n78, show s + 1 - 1 - 0 = s by omega]
    · have i2 : IAlo g2 l4 C5 M5 := e6.fr f4 f5 (by decide) (by decide)
      exact i2.fr (u := [76]) (w := [298, 299, 300]) (by repeat (first | exact fq.rf | (refine fq.tr ?_ (fq.wr (by decide))) | (refine fq.tr ?_ (fq.bk (by decide))) | (refine fq.tr ?_ (fq.wl (by decide))) | (refine fq.tr ?_ (fq.wR (by decide))))) (by repeat (first | exact fq.rf | (refine fq.tr ?_ (fq.wr (by decide))) | (refine fq.tr ?_ (fq.bk (by decide))) | (refine fq.tr ?_ (fq.wl (by decide))) | (refine fq.tr ?_ (fq.wR (by decide))))) (by decide) (by decide)
