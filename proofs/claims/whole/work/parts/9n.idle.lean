/-! SLOTS IN WHICH NOTHING CAN HAPPEN -/
theorem idlT {c s g l left : Nat} {C M : Mm} (hS : SS c s s s s s s g l C M) (hs : s < 2 ^ 28) (hl : l < 2 ^ 20) (hleft : left ≤ 3000) : ∃ a, a ≤ left ∧ F_X11_idleSlots (nI left) C = some (nI a, C) ∧ (0 < a → l = 0 ∧ (∀ k, k < 9 → C.1 103 k 0 = nI 0 ∧ C.1 94 k 0 = -nI 1) ∧ ∀ i n, n ≤ 20 → C.1 101 0 0 = nI n → i < n → ∃ t', t' < 2 ^ 31 ∧ C.1 44 0 i = nI t' ∧ s + a ≤ t') := by
  obtain ⟨hITape, hIDraw, hINois, hIPar, hISub, hIKey, hIRef, hISta, hILnk, hIBeg, hIQue, hIHnd, hICon, hIDue, hIWai, hISnd, hISlo, hISto, hIRng, hILiv, hIEnd, hIPut, hILat, hIInb, hICnt, hIAlq⟩ := hS
  obtain ⟨o1, o2, o3, o4, o5, o6, o7, o8⟩ := id hISlo
  obtain ⟨nP, p1, p2, p3, p4, p5, p6⟩ := id hIPut
  by_cases h0 : l = 0
  case neg =>
    refine ⟨0, by omega, ?_, fun z => absurd z (by omega)⟩
    unfold F_X11_idleSlots
    exact e_gf o7 (e_N (nI_nle (by omega) (by omega)) rfl)
  by_cases hk : ∀ k, k < 9 → C.1 103 k 0 = nI 0 ∧ C.1 94 k 0 = -nI 1
  · have eA : ∃ a, a ≤ left ∧ F_X8_slotsAhead (nI s) (nI left) C = some (nI a, C) ∧ ∀ i, i < nP → ∀ t', t' < 2 ^ 31 → C.1 44 0 i = nI t' → s + a ≤ t' := by
      unfold F_X8_slotsAhead
      refine loopR (fun m v (q : Int32) => L_X8_slotsAhead_5 (nI s) m q v C) (fun o => ∃ a, a ≤ left ∧ o = some (nI a, C) ∧ ∀ i, i < nP → ∀ t', t' < 2 ^ 31 → C.1 44 0 i = nI t' → s + a ≤ t') (fun i q => ∃ a, q = nI a ∧ a ≤ left ∧ ∀ i', i' < i → ∀ t', t' < 2 ^ 31 → C.1 44 0 i' = nI t' → s + a ≤ t') 0 nP (by omega) (by omega) (fun m i q _ hi hP ih => ?_) (fun m q hP => ?_) (nI left) ⟨left, rfl, Nat.le_refl _, fun i' hi' => absurd hi' (by omega)⟩
      · obtain ⟨a, rfl, a2, a3⟩ := hP
        obtain ⟨m', t, k1, k2, k3, k4, k5, k6, k7, k8, -⟩ := p4 i hi
        have e : L_X8_slotsAhead_5 (nI s) (m + 1) (nI a) (nI i) C = L_X8_slotsAhead_5 (nI s) m (nI (if t - s < a then t - s else a)) (nI (i + 1)) C := by
          rw [L_X8_slotsAhead_5]
          refine e_gf p2 (e_N (by first | (simp (disch := first | omega | assumption) only [wrI_s, wrI_o, wrI_r, wrL_1, wrL_r, wrL_s, wrL_o, blk_in, blk_out, blk_r, lit, litL, b00, b11, nI_l, lN_add, lN_mul, lN_sub, nI_add, pk_mul, pk_sub, pk_div, remN, Nat.add_sub_cancel, Nat.add_sub_cancel_left, Nat.zero_add, Nat.add_zero, nI_eq, nI_leI, nI_ltI, nI_m1, m1_lt, neg_lt, neg_le, neg_ge, neg_gt, neg_eq, not_true, not_false_iff]; done) | (simp (disch := first | omega | assumption) only [wrI_s, wrI_o, wrI_r, wrL_1, wrL_r, wrL_s, wrL_o, blk_in, blk_out, blk_r, lit, litL, b00, b11, nI_l, lN_add, lN_mul, lN_sub, nI_add, pk_mul, pk_sub, pk_div, remN, Nat.add_sub_cancel, Nat.add_sub_cancel_left, Nat.zero_add, Nat.add_zero, nI_eq, nI_leI, nI_ltI, nI_m1, m1_lt, neg_lt, neg_le, neg_ge, neg_gt, neg_eq, not_true, not_false_iff]; omega)) (e_ldA rfl (by omega) (by decide) (by decide) k7 (e_tp (w := nI (if t - s < a then t - s else a)) ?_ (by rw [nI_1]))))
          rw [pk_sub k3]
          by_cases hlt : t - s < a
          · rw [if_pos hlt, if_pos (by rw [nI_ltI (by omega) (by omega)]; exact hlt)]
          · rw [if_neg hlt, if_neg (by rw [nI_ltI (by omega) (by omega)]; exact hlt)]
        rw [e]
        refine ih _ ⟨_, rfl, by split <;> omega, fun i' hi' t' ht' e' => ?_⟩
        by_cases hii : i' = i
        · rw [hii, k7] at e'
          have et : t = t' := (nI_eq (by omega) (by omega)).mp e'
          split <;> omega
        · have := a3 i' (by omega) t' ht' e'
          split <;> omega
      · obtain ⟨a, rfl, a2, a3⟩ := hP
        refine ⟨a, a2, ?_, a3⟩
        rw [L_X8_slotsAhead_5]
        exact e_gf p2 (e_T (by first | (simp (disch := first | omega | assumption) only [wrI_s, wrI_o, wrI_r, wrL_1, wrL_r, wrL_s, wrL_o, blk_in, blk_out, blk_r, lit, litL, b00, b11, nI_l, lN_add, lN_mul, lN_sub, nI_add, pk_mul, pk_sub, pk_div, remN, Nat.add_sub_cancel, Nat.add_sub_cancel_left, Nat.zero_add, Nat.add_zero, nI_eq, nI_leI, nI_ltI, nI_m1, m1_lt, neg_lt, neg_le, neg_ge, neg_gt, neg_eq, not_true, not_false_iff]; done) | (simp (disch := first | omega | assumption) only [wrI_s, wrI_o, wrI_r, wrL_1, wrL_r, wrL_s, wrL_o, blk_in, blk_out, blk_r, lit, litL, b00, b11, nI_l, lN_add, lN_mul, lN_sub, nI_add, pk_mul, pk_sub, pk_div, remN, Nat.add_sub_cancel, Nat.add_sub_cancel_left, Nat.zero_add, Nat.add_zero, nI_eq, nI_leI, nI_ltI, nI_m1, m1_lt, neg_lt, neg_le, neg_ge, neg_gt, neg_eq, not_true, not_false_iff]; omega)) rfl)
    obtain ⟨a, a1, a2, a3⟩ := eA
    refine ⟨a, a1, ?_, fun _ => ⟨h0, hk, fun i n hn en hi => ?_⟩⟩
    · unfold F_X11_idleSlots
      refine e_gf o7 (e_T (by rw [h0]; decide) ?_)
      refine loop0 (fun m (q : Int32 × Mm) => L_X11_idleSlots_14 (nI left) m q.1 q.2) (fun j => (nI j, C)) 9 (by decide) (fun m j hj => ?_) (fun m => ?_)
      · dsimp only
        rw [L_X11_idleSlots_14]
        obtain ⟨k1, k2⟩ := hk j hj
        refine e_N (by first | (simp (disch := first | omega | assumption) only [wrI_s, wrI_o, wrI_r, wrL_1, wrL_r, wrL_s, wrL_o, blk_in, blk_out, blk_r, lit, litL, b00, b11, nI_l, lN_add, lN_mul, lN_sub, nI_add, pk_mul, pk_sub, pk_div, remN, Nat.add_sub_cancel, Nat.add_sub_cancel_left, Nat.zero_add, Nat.add_zero, nI_eq, nI_leI, nI_ltI, nI_m1, m1_lt, neg_lt, neg_le, neg_ge, neg_gt, neg_eq, not_true, not_false_iff]; done) | (simp (disch := first | omega | assumption) only [wrI_s, wrI_o, wrI_r, wrL_1, wrL_r, wrL_s, wrL_o, blk_in, blk_out, blk_r, lit, litL, b00, b11, nI_l, lN_add, lN_mul, lN_sub, nI_add, pk_mul, pk_sub, pk_div, remN, Nat.add_sub_cancel, Nat.add_sub_cancel_left, Nat.zero_add, Nat.add_zero, nI_eq, nI_leI, nI_ltI, nI_m1, m1_lt, neg_lt, neg_le, neg_ge, neg_gt, neg_eq, not_true, not_false_iff]; omega)) (e_ldR rfl hj (by decide) (by decide) (hIRef.1 j hj).1 hj (e_gf k1 (e_N (by decide) (e_ldR rfl hj (by decide) (by decide) (hIRef.1 j hj).1 hj (e_gf k2 (e_T rfl ?_))))))
        rw [nI_1]
      · dsimp only
        rw [L_X11_idleSlots_14]
        exact e_T (by decide) (e_gf o1 (e_cl a2 rfl))
    · have enp : n = nP := (nI_eq (by omega) (by omega)).mp (en.symm.trans p2)
      rw [enp] at hi
      obtain ⟨m', t, k1, k2, k3, k4, k5, k6, k7, k8, -⟩ := p4 i hi
      exact ⟨t, k4, k7, a3 i hi t k4 k7⟩
  · refine ⟨0, by omega, ?_, fun z => absurd z (by omega)⟩
    unfold F_X11_idleSlots
    refine e_gf o7 (e_T (by rw [h0]; decide) ?_)
    have key : ∀ K, K ≤ 9 → (∃ k, 9 - K ≤ k ∧ k < 9 ∧ ¬ (C.1 103 k 0 = nI 0 ∧ C.1 94 k 0 = -nI 1)) → ∀ m, L_X11_idleSlots_14 (nI left) (m + K + 1) (nI (9 - K)) C = some (nI 0, C) := by
      intro K
      induction K with
      | zero => intro _ ⟨k, k1, k2, _⟩; omega
      | succ K ih =>
        intro hK ⟨k, k1, k2, k3⟩ m
        have hj : 9 - (K + 1) < 9 := by omega
        rw [L_X11_idleSlots_14]
        unfold L_X11_idleSlots_48
        obtain ⟨f, u, q, e1, e2, e3, e4, e5, -⟩ := hIQue (9 - (K + 1)) hj
        refine e_N (by first | (simp (disch := first | omega | assumption) only [wrI_s, wrI_o, wrI_r, wrL_1, wrL_r, wrL_s, wrL_o, blk_in, blk_out, blk_r, lit, litL, b00, b11, nI_l, lN_add, lN_mul, lN_sub, nI_add, pk_mul, pk_sub, pk_div, remN, Nat.add_sub_cancel, Nat.add_sub_cancel_left, Nat.zero_add, Nat.add_zero, nI_eq, nI_leI, nI_ltI, nI_m1, m1_lt, neg_lt, neg_le, neg_ge, neg_gt, neg_eq, not_true, not_false_iff]; done) | (simp (disch := first | omega | assumption) only [wrI_s, wrI_o, wrI_r, wrL_1, wrL_r, wrL_s, wrL_o, blk_in, blk_out, blk_r, lit, litL, b00, b11, nI_l, lN_add, lN_mul, lN_sub, nI_add, pk_mul, pk_sub, pk_div, remN, Nat.add_sub_cancel, Nat.add_sub_cancel_left, Nat.zero_add, Nat.add_zero, nI_eq, nI_leI, nI_ltI, nI_m1, m1_lt, neg_lt, neg_le, neg_ge, neg_gt, neg_eq, not_true, not_false_iff]; omega)) (e_ldR rfl hj (by decide) (by decide) (hIRef.1 _ hj).1 hj (e_gf e5 ?_))
        by_cases hu : u = 0
        · refine e_N (by rw [hu]; decide) (e_ldR rfl hj (by decide) (by decide) (hIRef.1 _ hj).1 hj ?_)
          rcases (hIDue _ hj).2 with ⟨d1, d2⟩ | ⟨dd, d1, d2, d3, -⟩
          · refine e_gf d1 (e_T rfl ?_)
            rw [nI_1, show 9 - (K + 1) + 1 = 9 - K by omega]
            refine ih (by omega) ⟨k, ?_, k2, k3⟩ m
            have hne : ¬ k = 9 - (K + 1) := fun z => k3 (by rw [z]; exact ⟨by rw [e5, hu], d1⟩)
            omega
          · exact e_gf d3 (e_N (fun z => absurd z (by rw [show (-1 : Int32) = -nI 1 from rfl, nI_m1 (by omega)]; exact id)) rfl)
        · exact e_T (by first | (simp (disch := first | omega | assumption) only [wrI_s, wrI_o, wrI_r, wrL_1, wrL_r, wrL_s, wrL_o, blk_in, blk_out, blk_r, lit, litL, b00, b11, nI_l, lN_add, lN_mul, lN_sub, nI_add, pk_mul, pk_sub, pk_div, remN, Nat.add_sub_cancel, Nat.add_sub_cancel_left, Nat.zero_add, Nat.add_zero, nI_eq, nI_leI, nI_ltI, nI_m1, m1_lt, neg_lt, neg_le, neg_ge, neg_gt, neg_eq, not_true, not_false_iff]; done) | (simp (disch := first | omega | assumption) only [wrI_s, wrI_o, wrI_r, wrL_1, wrL_r, wrL_s, wrL_o, blk_in, blk_out, blk_r, lit, litL, b00, b11, nI_l, lN_add, lN_mul, lN_sub, nI_add, pk_mul, pk_sub, pk_div, remN, Nat.add_sub_cancel, Nat.add_sub_cancel_left, Nat.zero_add, Nat.add_zero, nI_eq, nI_leI, nI_ltI, nI_m1, m1_lt, neg_lt, neg_le, neg_ge, neg_gt, neg_eq, not_true, not_false_iff]; omega)) rfl
    obtain ⟨m, hm⟩ := fu_n (N := 9) (by decide)
    rw [hm]
    have hex : ∃ k, 9 - 9 ≤ k ∧ k < 9 ∧ ¬ (C.1 103 k 0 = nI 0 ∧ C.1 94 k 0 = -nI 1) := by
      by_cases hh : ∃ k, 9 - 9 ≤ k ∧ k < 9 ∧ ¬ (C.1 103 k 0 = nI 0 ∧ C.1 94 k 0 = -nI 1)
      · exact hh
      · exfalso
        apply hk
        intro k hk9
        by_cases h2 : C.1 103 k 0 = nI 0 ∧ C.1 94 k 0 = -nI 1
        · exact h2
        · exact absurd ⟨k, by omega, hk9, h2⟩ hh
    exact key 9 (Nat.le_refl 9) hex m
theorem wrR_self {S : Mm} {c i j v : Nat} (h : S.2.2 c i j = v) : wrR S c i j v = S := by
  have : (fun a b d => if a = c ∧ b = i ∧ d = j then v else S.2.2 a b d) = S.2.2 := by
    funext a b d
    by_cases hh : a = c ∧ b = i ∧ d = j
    · rw [if_pos hh, hh.1, hh.2.1, hh.2.2, h]
    · rw [if_neg hh]
  unfold wrR
  rw [this]
theorem mvC_i {C : Mm} {i : Nat} : mvC C i i = C := by
  unfold mvC
  rw [wrR_self rfl, wrR_self rfl, wrI_self rfl, wrI_self rfl]
/-- what the class would do in such a slot -/
theorem idlS {c s g : Nat} {C M : Mm} (hS : SS c s s s s s s g 0 C M) (hQ : IQui s C M) (hs : s < 2 ^ 27) (hk : ∀ k, k < 9 → C.1 103 k 0 = nI 0 ∧ C.1 94 k 0 = -nI 1) (hp : ∀ i n, n ≤ 20 → C.1 101 0 0 = nI n → i < n → ∃ t', t' < 2 ^ 31 ∧ C.1 44 0 i = nI t' ∧ s + 1 ≤ t') (K : Mm → Option (Int32 × Mm)) : slbC K C = K (wrI (wrI C 77 0 0 (C.1 77 0 0 + 1)) 76 0 0 (nI (s + 1))) := by
  obtain ⟨hITape, hIDraw, hINois, hIPar, hISub, hIKey, hIRef, hISta, hILnk, hIBeg, hIQue, hIHnd, hICon, hIDue, hIWai, hISnd, hISlo, hISto, hIRng, hILiv, hIEnd, hIPut, hILat, hIInb, hICnt, hIAlq⟩ := hS
  obtain ⟨o1, o2, o3, o4, o5, o6, o7, o8⟩ := id hISlo
  obtain ⟨q, q1, q2, q3⟩ := quS (by omega) o1 hQ
  have hcon : ∀ k, k < 9 → F_X7_contends k (nI s) C = some (nI 0, C) := fun k h9 => by
    unfold F_X7_contends L_X7_contends_38
    exact e_gd h9 (e_gf (hk k h9).1 (e_T (by decide) rfl))
  have eB : F_X11_beginNodes C = some ((), C) := by
    unfold F_X11_beginNodes
    refine e_cl q3 ?_
    refine loop0 (fun m (p : Int32 × Mm) => L_X11_beginNodes_10 (nI (if q = 3 then 1 else 0)) m p.1 p.2) (fun j => (nI j, C)) 9 (by decide) (fun m k h9 => ?_) (fun m => ?_)
    · dsimp only
      rw [L_X11_beginNodes_10]
      unfold L_X11_beginNodes_95
      rw [nI_1]
      have hne : ¬ (-nI 1 : Int32) = nI s := fun e => absurd e.symm (by rw [nI_m1 (by omega)]; exact id)
      refine e_N (by first | (simp (disch := first | omega | assumption) only [wrI_s, wrI_o, wrI_r, wrL_1, wrL_r, wrL_s, wrL_o, blk_in, blk_out, blk_r, lit, litL, b00, b11, nI_l, lN_add, lN_mul, lN_sub, nI_add, pk_mul, pk_sub, pk_div, remN, Nat.add_sub_cancel, Nat.add_sub_cancel_left, Nat.zero_add, Nat.add_zero, nI_eq, nI_leI, nI_ltI, nI_m1, m1_lt, neg_lt, neg_le, neg_ge, neg_gt, neg_eq, not_true, not_false_iff]; done) | (simp (disch := first | omega | assumption) only [wrI_s, wrI_o, wrI_r, wrL_1, wrL_r, wrL_s, wrL_o, blk_in, blk_out, blk_r, lit, litL, b00, b11, nI_l, lN_add, lN_mul, lN_sub, nI_add, pk_mul, pk_sub, pk_div, remN, Nat.add_sub_cancel, Nat.add_sub_cancel_left, Nat.zero_add, Nat.add_zero, nI_eq, nI_leI, nI_ltI, nI_m1, m1_lt, neg_lt, neg_le, neg_ge, neg_gt, neg_eq, not_true, not_false_iff]; omega)) (e_ldR rfl h9 (by decide) (by decide) (hIRef.1 k h9).1 h9 (e_gf (hk k h9).2 (e_gf o1 (e_N hne ?_))))
      by_cases hq3 : q = 3
      · refine e_N (by rw [if_pos hq3]; decide) (e_gf rfl ?_)
        by_cases hb : C.1 91 k 0 = 0
        · exact e_T hb (e_gf o1 (e_cl (hcon k h9) (e_T rfl rfl)))
        · exact e_N hb rfl
      · exact e_T (by rw [if_neg hq3]; rfl) rfl
    · dsimp only
      rw [L_X11_beginNodes_10]
      exact e_T (by decide) rfl
  obtain ⟨nP, p1, p2, p3, p4, p5, p6⟩ := id hIPut
  have eP : F_X8_begin C = some ((), C) := by
    unfold F_X8_begin
    refine loop0 (fun m (p : Int32 × Mm) => L_X8_begin_4 m p.1 p.1 p.2) (fun j => (nI j, C)) nP (by omega) (fun m i hi => ?_) (fun m => ?_)
    · dsimp only
      rw [L_X8_begin_4]
      unfold L_X8_begin_56
      obtain ⟨t', t1, t2, t3⟩ := hp i nP p1 p2 hi
      have em := mvCe (C := C) (k := i) (j := i) (by omega) (by omega) p5
      rw [mvC_i] at em
      refine e_gf p2 (e_N (by first | (simp (disch := first | omega | assumption) only [wrI_s, wrI_o, wrI_r, wrL_1, wrL_r, wrL_s, wrL_o, blk_in, blk_out, blk_r, lit, litL, b00, b11, nI_l, lN_add, lN_mul, lN_sub, nI_add, pk_mul, pk_sub, pk_div, remN, Nat.add_sub_cancel, Nat.add_sub_cancel_left, Nat.zero_add, Nat.add_zero, nI_eq, nI_leI, nI_ltI, nI_m1, m1_lt, neg_lt, neg_le, neg_ge, neg_gt, neg_eq, not_true, not_false_iff]; done) | (simp (disch := first | omega | assumption) only [wrI_s, wrI_o, wrI_r, wrL_1, wrL_r, wrL_s, wrL_o, blk_in, blk_out, blk_r, lit, litL, b00, b11, nI_l, lN_add, lN_mul, lN_sub, nI_add, pk_mul, pk_sub, pk_div, remN, Nat.add_sub_cancel, Nat.add_sub_cancel_left, Nat.zero_add, Nat.add_zero, nI_eq, nI_leI, nI_ltI, nI_m1, m1_lt, neg_lt, neg_le, neg_ge, neg_gt, neg_eq, not_true, not_false_iff]; omega)) (e_ldA rfl (by omega) (by decide) (by decide) t2 (e_gf o1 (e_N (by rw [nI_eq (by omega) (by omega)]; omega) (e_cl em ?_)))))
      rw [nI_1]
    · dsimp only
      rw [L_X8_begin_4]
      refine e_gf p2 (e_T (by first | (simp (disch := first | omega | assumption) only [wrI_s, wrI_o, wrI_r, wrL_1, wrL_r, wrL_s, wrL_o, blk_in, blk_out, blk_r, lit, litL, b00, b11, nI_l, lN_add, lN_mul, lN_sub, nI_add, pk_mul, pk_sub, pk_div, remN, Nat.add_sub_cancel, Nat.add_sub_cancel_left, Nat.zero_add, Nat.add_zero, nI_eq, nI_leI, nI_ltI, nI_m1, m1_lt, neg_lt, neg_le, neg_ge, neg_gt, neg_eq, not_true, not_false_iff]; done) | (simp (disch := first | omega | assumption) only [wrI_s, wrI_o, wrI_r, wrL_1, wrL_r, wrL_s, wrL_o, blk_in, blk_out, blk_r, lit, litL, b00, b11, nI_l, lN_add, lN_mul, lN_sub, nI_add, pk_mul, pk_sub, pk_div, remN, Nat.add_sub_cancel, Nat.add_sub_cancel_left, Nat.zero_add, Nat.add_zero, nI_eq, nI_leI, nI_ltI, nI_m1, m1_lt, neg_lt, neg_le, neg_ge, neg_gt, neg_eq, not_true, not_false_iff]; omega)) (e_pf rfl ?_))
      rw [wrI_self p2]
  have eCl : F_X5_closeBeginnings C = some ((), wrI C 77 0 0 (C.1 77 0 0 + 1)) := by
    unfold F_X5_closeBeginnings
    exact e_gf o7 (e_T rfl (e_gf rfl (e_pf rfl rfl)))
  have h33 := hIEnd 0 (by decide)
  rw [Nat.add_zero] at h33
  have eEf : F_X11_endFrames (wrI C 77 0 0 (C.1 77 0 0 + 1)) = some (-nI 1, wrI C 77 0 0 (C.1 77 0 0 + 1)) := by
    refine efC0 (s := s) (M := M) (hIRef.fr (u := [77]) (w := []) (by repeat (first | exact fq.rf | (refine fq.tr ?_ (fq.wr (by decide))) | (refine fq.tr ?_ (fq.bk (by decide))) | (refine fq.tr ?_ (fq.wl (by decide))) | (refine fq.tr ?_ (fq.wR (by decide))))) fq.rf (by decide) (by decide)) (by first | (simp (disch := first | omega | assumption) only [o1, wrI_s, wrI_o, wrI_r, wrL_1, wrL_r, wrL_s, wrL_o, blk_in, blk_out, blk_r, lit, litL, b00, b11, nI_l, lN_add, lN_mul, lN_sub, nI_add, pk_mul, pk_sub, pk_div, remN, Nat.add_sub_cancel, Nat.add_sub_cancel_left, Nat.zero_add, Nat.add_zero]; done) | (simp (disch := first | omega | assumption) only [o1, wrI_s, wrI_o, wrI_r, wrL_1, wrL_r, wrL_s, wrL_o, blk_in, blk_out, blk_r, lit, litL, b00, b11, nI_l, lN_add, lN_mul, lN_sub, nI_add, pk_mul, pk_sub, pk_div, remN, Nat.add_sub_cancel, Nat.add_sub_cancel_left, Nat.zero_add, Nat.add_zero]; rfl) | rfl) (fun j hj => ?_) ?_ (by omega)
    · rw [wrI_ne (by decide)]
      rcases hISnd.1 j hj with ⟨-, s2⟩ | ⟨v, t', m, s1, -⟩
      · rcases s2 with s2 | ⟨x, x1, x2⟩
        · rw [s2]
          exact fun e => absurd e.symm (by rw [nI_m1 (by omega)]; exact id)
        · rw [x2, nI_eq (by omega) (by omega)]
          omega
      · omega
    · rw [wrI_ne (by decide), h33]
      rfl
  have eF : F_X11_failWaiters C = some ((), C) := by
    unfold F_X11_failWaiters
    refine loop0 (fun m (p : Int32 × Mm) => L_X11_failWaiters_2 m p.1 p.2) (fun j => (nI j, C)) 9 (by decide) (fun m k h9 => ?_) (fun m => ?_)
    · dsimp only
      rw [L_X11_failWaiters_2]
      unfold L_X11_failWaiters_49
      rw [nI_1]
      have h98 : C.1 98 k 0 = -nI 1 := by
        rcases hIWai k h9 with ⟨w1, -⟩ | ⟨w', n, u, w1, w2, w3, w4, w5, w6, w7, w8, -⟩
        · exact w1
        · rw [(hk k h9).1] at w8
          have := (nI_eq (by omega) (by omega)).mp w8
          omega
      exact e_N (by first | (simp (disch := first | omega | assumption) only [wrI_s, wrI_o, wrI_r, wrL_1, wrL_r, wrL_s, wrL_o, blk_in, blk_out, blk_r, lit, litL, b00, b11, nI_l, lN_add, lN_mul, lN_sub, nI_add, pk_mul, pk_sub, pk_div, remN, Nat.add_sub_cancel, Nat.add_sub_cancel_left, Nat.zero_add, Nat.add_zero, nI_eq, nI_leI, nI_ltI, nI_m1, m1_lt, neg_lt, neg_le, neg_ge, neg_gt, neg_eq, not_true, not_false_iff]; done) | (simp (disch := first | omega | assumption) only [wrI_s, wrI_o, wrI_r, wrL_1, wrL_r, wrL_s, wrL_o, blk_in, blk_out, blk_r, lit, litL, b00, b11, nI_l, lN_add, lN_mul, lN_sub, nI_add, pk_mul, pk_sub, pk_div, remN, Nat.add_sub_cancel, Nat.add_sub_cancel_left, Nat.zero_add, Nat.add_zero, nI_eq, nI_leI, nI_ltI, nI_m1, m1_lt, neg_lt, neg_le, neg_ge, neg_gt, neg_eq, not_true, not_false_iff]; omega)) (e_ldR rfl h9 (by decide) (by decide) (hIRef.1 k h9).1 h9 (e_gf h98 (e_T rfl rfl)))
    · dsimp only
      rw [L_X11_failWaiters_2]
      exact e_T (by decide) rfl
  have eD : F_X11_countDown C = some ((), C) := by
    unfold F_X11_countDown
    refine e_cl q3 ?_
    by_cases hq3 : q = 3
    · refine e_N (by rw [if_pos hq3]; decide) ?_
      refine loop0 (fun m (p : Int32 × Mm) => L_X11_countDown_13 m p.1 p.2) (fun j => (nI j, C)) 9 (by decide) (fun m k h9 => ?_) (fun m => ?_)
      · dsimp only
        rw [L_X11_countDown_13]
        unfold L_X11_countDown_65
        rw [nI_1]
        refine e_N (by first | (simp (disch := first | omega | assumption) only [wrI_s, wrI_o, wrI_r, wrL_1, wrL_r, wrL_s, wrL_o, blk_in, blk_out, blk_r, lit, litL, b00, b11, nI_l, lN_add, lN_mul, lN_sub, nI_add, pk_mul, pk_sub, pk_div, remN, Nat.add_sub_cancel, Nat.add_sub_cancel_left, Nat.zero_add, Nat.add_zero, nI_eq, nI_leI, nI_ltI, nI_m1, m1_lt, neg_lt, neg_le, neg_ge, neg_gt, neg_eq, not_true, not_false_iff]; done) | (simp (disch := first | omega | assumption) only [wrI_s, wrI_o, wrI_r, wrL_1, wrL_r, wrL_s, wrL_o, blk_in, blk_out, blk_r, lit, litL, b00, b11, nI_l, lN_add, lN_mul, lN_sub, nI_add, pk_mul, pk_sub, pk_div, remN, Nat.add_sub_cancel, Nat.add_sub_cancel_left, Nat.zero_add, Nat.add_zero, nI_eq, nI_leI, nI_ltI, nI_m1, m1_lt, neg_lt, neg_le, neg_ge, neg_gt, neg_eq, not_true, not_false_iff]; omega)) (e_ldR rfl h9 (by decide) (by decide) (hIRef.1 k h9).1 h9 (e_gf rfl ?_))
        by_cases hb : C.1 91 k 0 ≤ 0
        · exact e_T hb rfl
        · exact e_N hb (e_ldR rfl h9 (by decide) (by decide) (hIRef.1 k h9).1 h9 (e_gf o1 (e_cl (hcon k h9) (e_T rfl rfl))))
      · dsimp only
        rw [L_X11_countDown_13]
        exact e_T (by decide) rfl
    · exact e_T (by rw [if_neg hq3]; rfl) rfl
  have eF' : F_X11_failWaiters (wrI C 77 0 0 (C.1 77 0 0 + 1)) = some ((), wrI C 77 0 0 (C.1 77 0 0 + 1)) := w_fw.use (v := C.1 77 0 0 + 1) eF
  have eD' : F_X11_countDown (wrI C 77 0 0 (C.1 77 0 0 + 1)) = some ((), wrI C 77 0 0 (C.1 77 0 0 + 1)) := w_cd.use (v := C.1 77 0 0 + 1) eD
  unfold slbC
  exact e_cl eB (e_cl eP (e_cl eCl (e_cl eEf (e_T rfl (e_cl eF' (e_cl eD' (e_gf (v := nI s) (by first | (simp (disch := first | omega | assumption) only [o1, wrI_s, wrI_o, wrI_r, wrL_1, wrL_r, wrL_s, wrL_o, blk_in, blk_out, blk_r, lit, litL, b00, b11, nI_l, lN_add, lN_mul, lN_sub, nI_add, pk_mul, pk_sub, pk_div, remN, Nat.add_sub_cancel, Nat.add_sub_cancel_left, Nat.zero_add, Nat.add_zero]; done) | (simp (disch := first | omega | assumption) only [o1, wrI_s, wrI_o, wrI_r, wrL_1, wrL_r, wrL_s, wrL_o, blk_in, blk_out, blk_r, lit, litL, b00, b11, nI_l, lN_add, lN_mul, lN_sub, nI_add, pk_mul, pk_sub, pk_div, remN, Nat.add_sub_cancel, Nat.add_sub_cancel_left, Nat.zero_add, Nat.add_zero]; rfl) | rfl) (e_pf (nI_1 s) rfl))))))))
def itM : Nat → Mm → Option (Unit × Mm)
  | 0, M => some ((), M)
  | n + 1, M => cl (itM n M) fun _ S => F_X12_goSlot S
theorem itM_add {a b : Nat} {M M1 M2 : Mm} (h1 : itM a M = some ((), M1)) (h2 : itM b M1 = some ((), M2)) : itM (a + b) M = some ((), M2) := by
  induction b generalizing M2 with
  | zero =>
    have e : some ((), M1) = some ((), M2) := h2
    rw [← e]
    exact h1
  | succ b ih =>
    show cl (itM (a + b) M) (fun _ S => F_X12_goSlot S) = _
    have h2' : cl (itM b M1) (fun _ S => F_X12_goSlot S) = some ((), M2) := h2
    cases hb : itM b M1 with
    | none => rw [hb] at h2'; cases h2'
    | some p =>
      obtain ⟨⟨⟩, S⟩ := p
      rw [hb] at h2'
      rw [ih hb]
      exact h2'
theorem itM_go {N : Nat} {x : Int32} (hN : N ≤ 3000) : ∀ i j m (M M' : Mm), itM i M = some ((), M') → j + i ≤ N → L_X12_go_26 (nI N) x (m + i) (nI j) M = L_X12_go_26 (nI N) x m (nI (j + i)) M' := by
  intro i
  induction i with
  | zero =>
    intro j m M M' h _
    have e : some ((), M) = some ((), M') := h
    have e2 : M = M' := by injection e with e; injection e
    rw [e2]
    rfl
  | succ i ih =>
    intro j m M M' h hj
    have h' : cl (itM i M) (fun _ S => F_X12_goSlot S) = some ((), M') := h
    cases hb : itM i M with
    | none => rw [hb] at h'; cases h'
    | some p =>
      obtain ⟨⟨⟩, S⟩ := p
      rw [hb] at h'
      have h2 : F_X12_goSlot S = some ((), M') := h'
      rw [show m + (i + 1) = (m + 1) + i by omega, ih j (m + 1) M S hb (by omega), L_X12_go_26]
      refine e_N (by first | (simp (disch := first | omega | assumption) only [wrI_s, wrI_o, wrI_r, wrL_1, wrL_r, wrL_s, wrL_o, blk_in, blk_out, blk_r, lit, litL, b00, b11, nI_l, lN_add, lN_mul, lN_sub, nI_add, pk_mul, pk_sub, pk_div, remN, Nat.add_sub_cancel, Nat.add_sub_cancel_left, Nat.zero_add, Nat.add_zero, nI_eq, nI_leI, nI_ltI, nI_m1, m1_lt, neg_lt, neg_le, neg_ge, neg_gt, neg_eq, not_true, not_false_iff]; done) | (simp (disch := first | omega | assumption) only [wrI_s, wrI_o, wrI_r, wrL_1, wrL_r, wrL_s, wrL_o, blk_in, blk_out, blk_r, lit, litL, b00, b11, nI_l, lN_add, lN_mul, lN_sub, nI_add, pk_mul, pk_sub, pk_div, remN, Nat.add_sub_cancel, Nat.add_sub_cancel_left, Nat.zero_add, Nat.add_zero, nI_eq, nI_leI, nI_ltI, nI_m1, m1_lt, neg_lt, neg_le, neg_ge, neg_gt, neg_eq, not_true, not_false_iff]; omega)) (e_cl h2 ?_)
      rw [nI_1]
      rfl
/-- i slots in which nothing can happen -/
theorem idlL {c s g : Nat} {C M : Mm} (hc : c ≤ 512) (hS : SS c s s s s s s g 0 C M) (hQ : IQui s C M) (hk : ∀ k, k < 9 → C.1 103 k 0 = nI 0 ∧ C.1 94 k 0 = -nI 1) {a : Nat} (hs : s + a < 2 ^ 27) (hg : g + 29 * a < 2 ^ 27) (hp : ∀ i n, n ≤ 20 → C.1 101 0 0 = nI n → i < n → ∃ t', t' < 2 ^ 31 ∧ C.1 44 0 i = nI t' ∧ s + a ≤ t') : ∀ i, i ≤ a → ∃ M' g', itM i M = some ((), M') ∧ g' ≤ g + 29 * i ∧ SS c (s + i) (s + i) (s + i) (s + i) (s + i) (s + i) g' 0 (wrI (wrI C 76 0 0 (nI (s + i))) 77 0 0 (C.1 77 0 0 + nI i)) M' ∧ IQui (s + i) (wrI (wrI C 76 0 0 (nI (s + i))) 77 0 0 (C.1 77 0 0 + nI i)) M' := by
  have c74 : C.1 74 0 0 = nI 0 := by
    have hS2 := hS
    obtain ⟨hITape, hIDraw, hINois, hIPar, hISub, hIKey, hIRef, hISta, hILnk, hIBeg, hIQue, hIHnd, hICon, hIDue, hIWai, hISnd, hISlo, hISto, hIRng, hILiv, hIEnd, hIPut, hILat, hIInb, hICnt, hIAlq⟩ := hS2
    exact hISlo.2.2.2.2.2.2.1
  have c76 : C.1 76 0 0 = nI s := by
    have hS2 := hS
    obtain ⟨hITape, hIDraw, hINois, hIPar, hISub, hIKey, hIRef, hISta, hILnk, hIBeg, hIQue, hIHnd, hICon, hIDue, hIWai, hISnd, hISlo, hISto, hIRng, hILiv, hIEnd, hIPut, hILat, hIInb, hICnt, hIAlq⟩ := hS2
    exact hISlo.1
  intro i
  induction i with
  | zero =>
    intro _
    refine ⟨M, g, rfl, by omega, ?_, ?_⟩
    · rw [wrI_self (S := C) (by rw [c76]; rfl), wrI_self (by exact (Int32.add_zero _).symm)]
      exact hS
    · rw [wrI_self (S := C) (by rw [c76]; rfl), wrI_self (by exact (Int32.add_zero _).symm)]
      exact hQ
  | succ i ih =>
    intro hi
    obtain ⟨M1, g1, e1, e2, e3, e4⟩ := ih (by omega)
    have f1 : fq [76, 77] C (wrI (wrI C 76 0 0 (nI (s + i))) 77 0 0 (C.1 77 0 0 + nI i)) := by repeat (first | exact fq.rf | (refine fq.tr ?_ (fq.wr (by decide))) | (refine fq.tr ?_ (fq.bk (by decide))) | (refine fq.tr ?_ (fq.wl (by decide))) | (refine fq.tr ?_ (fq.wR (by decide))))
    have idl := idlS e3 e4 (by omega) (fun k h9 => by rw [f1.1 103 (nc (by decide)), f1.1 94 (nc (by decide))]; exact hk k h9) (fun j n hn en hj => by
      rw [f1.1 101 (nc (by decide))] at en
      rw [f1.1 44 (nc (by decide))]
      obtain ⟨t', t1, t2, t3⟩ := hp j n hn en hj
      exact ⟨t', t1, t2, by omega⟩)
    obtain ⟨C2, M2, g2, l2, k1, k2, k3, k4, -, k6⟩ := slotT hc (by omega) (by omega) e3 e4
    have eC2 : C2 = wrI (wrI (wrI (wrI C 76 0 0 (nI (s + i))) 77 0 0 (C.1 77 0 0 + nI i)) 77 0 0 ((wrI (wrI C 76 0 0 (nI (s + i))) 77 0 0 (C.1 77 0 0 + nI i)).1 77 0 0 + 1)) 76 0 0 (nI (s + i + 1)) := by
      have z := (k1 (fun S => some (0, S))).symm.trans (idl (fun S => some (0, S)))
      injection z with z
      injection z
    have eC3 : C2 = wrI (wrI C 76 0 0 (nI (s + (i + 1)))) 77 0 0 (C.1 77 0 0 + nI (i + 1)) := by
      rw [eC2, wrI_s, wrI_ww, show s + i + 1 = s + (i + 1) by omega, Int32.add_assoc, nI_1]
      rw [wrI_cm (c := 77) (c' := 76) (by omega), wrI_ww]
    have hl2 : l2 = 0 := by
      have hS2 := k3
      obtain ⟨hITape, hIDraw, hINois, hIPar, hISub, hIKey, hIRef, hISta, hILnk, hIBeg, hIQue, hIHnd, hICon, hIDue, hIWai, hISnd, hISlo, hISto, hIRng, hILiv, hIEnd, hIPut, hILat, hIInb, hICnt, hIAlq⟩ := hS2
      have h1 := live_g hILiv (by omega)
      have h2 := hISlo.2.2.2.2.2.2.1
      rw [eC3, wrI_ne (by decide), wrI_ne (by decide), c74] at h2
      exact ((nI_eq (by omega) (by omega)).mp h2).symm
    rw [hl2] at k3
    rw [eC3] at k3 k4
    refine ⟨M2, g2, ?_, by omega, k3, k4⟩
    show cl (itM i M) (fun _ S => F_X12_goSlot S) = _
    rw [e1]
    exact k2
