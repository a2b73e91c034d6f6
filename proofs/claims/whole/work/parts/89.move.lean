/-! WHAT STAYS ON THE AIR MOVES UP: the reference -/
def neE (s : Nat) (M : Mm) (u : Nat) : Bool := !decide (M.1 261 0 u = nI s)
theorem cnt_lt {p : Nat → Bool} {u v : Nat} (h : u < v) (hp : p u = true) : cnt p u < cnt p v := by
  induction v with
  | zero => omega
  | succ v ih =>
    show cnt p u < cnt p v + (if p v = true then 1 else 0)
    by_cases huv : u = v
    · rw [← huv, if_pos hp]
      omega
    · have := ih (by omega)
      omega
theorem cnt_mo {p : Nat → Bool} {u v : Nat} (h : u ≤ v) : cnt p u ≤ cnt p v := by
  induction v with
  | zero => rw [show u = 0 by omega]; exact Nat.le_refl _
  | succ v ih =>
    by_cases huv : u = v + 1
    · rw [huv]; exact Nat.le_refl _
    · show cnt p u ≤ cnt p v + _
      exact Nat.le_trans (ih (by omega)) (Nat.le_add_right _ _)
theorem cnt_sel {p p' ne : Nat → Bool} : ∀ l, (∀ u, u < l → ne u = true → p' (cnt ne u) = p u) → cnt p' (cnt ne l) = cnt (fun u => p u && ne u) l := by
  intro l
  induction l with
  | zero => intro _; rfl
  | succ l ih =>
    intro h
    show cnt p' (cnt ne l + (if ne l = true then 1 else 0)) = cnt (fun u => p u && ne u) l + (if (p l && ne l) = true then 1 else 0)
    rw [← ih (fun u hu => h u (by omega))]
    by_cases hn : ne l = true
    · rw [if_pos hn, hn, Bool.and_true]
      show cnt p' (cnt ne l) + (if p' (cnt ne l) = true then 1 else 0) = _
      rw [h l (by omega) hn]
    · have : ne l = false := by
        cases hh : ne l with
        | false => rfl
        | true => exact absurd hh hn
      rw [if_neg hn, this, Bool.and_false, Nat.add_zero]
      rfl
/-- a row is found again -/
theorem cnt_inv {ne : Nat → Bool} : ∀ l w, w < cnt ne l → ∃ u, u < l ∧ ne u = true ∧ cnt ne u = w := by
  intro l
  induction l with
  | zero => intro w h; exact absurd h (Nat.not_lt_zero _)
  | succ l ih =>
    intro w h
    by_cases hw : w < cnt ne l
    · obtain ⟨u, h1, h2, h3⟩ := ih w hw
      exact ⟨u, by omega, h2, h3⟩
    · have h' : w < cnt ne l + (if ne l = true then 1 else 0) := h
      by_cases hn : ne l = true
      · rw [if_pos hn] at h'
        exact ⟨l, by omega, hn, by omega⟩
      · rw [if_neg hn] at h'
        omega
def ml0 (S : Mm) (j sd t n c x : Nat) : Mm := wrI (wrI (wrI (wrI (wrI S 260 0 j (nI sd)) 261 0 j (nI t)) 262 0 j (nI n)) 263 0 j (nI c)) 264 0 j (nI x)
def mlM (S : Mm) (v j sd t n c x : Nat) : Mm := if 9 ≤ sd then blk (ml0 S j sd t n c x) 265 0 (300 * j) n (fun i => S.1 265 0 (300 * v + i)) else wrI (blk (ml0 S j sd t n c x) 265 0 (300 * j) n (fun i => S.1 265 0 (300 * v + i))) 254 0 sd (nI j)
theorem ml0_q {S : Mm} {j sd t n c x : Nat} : fq [260, 261, 262, 263, 264] S (ml0 S j sd t n c x) := by
  unfold ml0
  repeat (first | exact fq.rf | (refine fq.tr ?_ (fq.wr (by decide))) | (refine fq.tr ?_ (fq.bk (by decide))) | (refine fq.tr ?_ (fq.wl (by decide))) | (refine fq.tr ?_ (fq.wR (by decide))))
theorem mlE {S : Mm} {v j sd t n c x : Nat} (hj : j < v) (hv : v < 300) (hsd : sd ≤ 9) (hn : n ≤ 300) (hc : c ≤ 1) (h260 : S.1 260 0 v = nI sd) (h261 : S.1 261 0 v = nI t) (h262 : S.1 262 0 v = nI n) (h263 : S.1 263 0 v = nI c) (h264 : S.1 264 0 v = nI x) : F_X12_moveLive (nI v) (nI j) S = some ((), mlM S v j sd t n c x) := by
  have c1 : nI c &&& 1 = nI c := by
    by_cases h0 : c = 0
    · rw [h0]; rfl
    · rw [show c = 1 by omega]; rfl
  have m262 : (ml0 S j sd t n c x).1 262 0 v = nI n := by
    unfold ml0
    first | (simp (disch := first | omega | assumption) only [h262, wrI_s, wrI_o, wrI_r, wrL_1, wrL_r, wrL_s, wrL_o, blk_in, blk_out, blk_r, lit, litL, b00, b11, nI_l, lN_add, lN_mul, lN_sub, nI_add, pk_mul, pk_sub, pk_div, remN, Nat.add_sub_cancel, Nat.add_sub_cancel_left, Nat.zero_add, Nat.add_zero]; done) | (simp (disch := first | omega | assumption) only [h262, wrI_s, wrI_o, wrI_r, wrL_1, wrL_r, wrL_s, wrL_o, blk_in, blk_out, blk_r, lit, litL, b00, b11, nI_l, lN_add, lN_mul, lN_sub, nI_add, pk_mul, pk_sub, pk_div, remN, Nat.add_sub_cancel, Nat.add_sub_cancel_left, Nat.zero_add, Nat.add_zero]; rfl) | rfl
  have m260 : (ml0 S j sd t n c x).1 260 0 j = nI sd := by
    unfold ml0
    first | (simp (disch := first | omega | assumption) only [wrI_s, wrI_o, wrI_r, wrL_1, wrL_r, wrL_s, wrL_o, blk_in, blk_out, blk_r, lit, litL, b00, b11, nI_l, lN_add, lN_mul, lN_sub, nI_add, pk_mul, pk_sub, pk_div, remN, Nat.add_sub_cancel, Nat.add_sub_cancel_left, Nat.zero_add, Nat.add_zero]; done) | (simp (disch := first | omega | assumption) only [wrI_s, wrI_o, wrI_r, wrL_1, wrL_r, wrL_s, wrL_o, blk_in, blk_out, blk_r, lit, litL, b00, b11, nI_l, lN_add, lN_mul, lN_sub, nI_add, pk_mul, pk_sub, pk_div, remN, Nat.add_sub_cancel, Nat.add_sub_cancel_left, Nat.zero_add, Nat.add_zero]; rfl) | rfl
  have e0 : F_X12_moveLive (nI v) (nI j) S = L_X12_moveLive_62 (nI v) (nI j) fu 0 (ml0 S j sd t n c x) := by
    unfold F_X12_moveLive ml0
    exact e_ldA rfl hv (by decide) (by decide) h260 (e_stA rfl (by omega) (by decide) (by decide) rfl (e_ldA (v := nI t) rfl hv (by decide) (by decide) (by first | (simp (disch := first | omega | assumption) only [h261, wrI_s, wrI_o, wrI_r, wrL_1, wrL_r, wrL_s, wrL_o, blk_in, blk_out, blk_r, lit, litL, b00, b11, nI_l, lN_add, lN_mul, lN_sub, nI_add, pk_mul, pk_sub, pk_div, remN, Nat.add_sub_cancel, Nat.add_sub_cancel_left, Nat.zero_add, Nat.add_zero]; done) | (simp (disch := first | omega | assumption) only [h261, wrI_s, wrI_o, wrI_r, wrL_1, wrL_r, wrL_s, wrL_o, blk_in, blk_out, blk_r, lit, litL, b00, b11, nI_l, lN_add, lN_mul, lN_sub, nI_add, pk_mul, pk_sub, pk_div, remN, Nat.add_sub_cancel, Nat.add_sub_cancel_left, Nat.zero_add, Nat.add_zero]; rfl) | rfl) (e_stA rfl (by omega) (by decide) (by decide) rfl (e_ldA (v := nI n) rfl hv (by decide) (by decide) (by first | (simp (disch := first | omega | assumption) only [h262, wrI_s, wrI_o, wrI_r, wrL_1, wrL_r, wrL_s, wrL_o, blk_in, blk_out, blk_r, lit, litL, b00, b11, nI_l, lN_add, lN_mul, lN_sub, nI_add, pk_mul, pk_sub, pk_div, remN, Nat.add_sub_cancel, Nat.add_sub_cancel_left, Nat.zero_add, Nat.add_zero]; done) | (simp (disch := first | omega | assumption) only [h262, wrI_s, wrI_o, wrI_r, wrL_1, wrL_r, wrL_s, wrL_o, blk_in, blk_out, blk_r, lit, litL, b00, b11, nI_l, lN_add, lN_mul, lN_sub, nI_add, pk_mul, pk_sub, pk_div, remN, Nat.add_sub_cancel, Nat.add_sub_cancel_left, Nat.zero_add, Nat.add_zero]; rfl) | rfl) (e_stA rfl (by omega) (by decide) (by decide) rfl (e_ldA (v := nI c) rfl hv (by decide) (by decide) (by first | (simp (disch := first | omega | assumption) only [h263, wrI_s, wrI_o, wrI_r, wrL_1, wrL_r, wrL_s, wrL_o, blk_in, blk_out, blk_r, lit, litL, b00, b11, nI_l, lN_add, lN_mul, lN_sub, nI_add, pk_mul, pk_sub, pk_div, remN, Nat.add_sub_cancel, Nat.add_sub_cancel_left, Nat.zero_add, Nat.add_zero]; done) | (simp (disch := first | omega | assumption) only [h263, wrI_s, wrI_o, wrI_r, wrL_1, wrL_r, wrL_s, wrL_o, blk_in, blk_out, blk_r, lit, litL, b00, b11, nI_l, lN_add, lN_mul, lN_sub, nI_add, pk_mul, pk_sub, pk_div, remN, Nat.add_sub_cancel, Nat.add_sub_cancel_left, Nat.zero_add, Nat.add_zero]; rfl) | rfl) (e_stA rfl (by omega) (by decide) (by decide) c1 (e_ldA (v := nI x) rfl hv (by decide) (by decide) (by first | (simp (disch := first | omega | assumption) only [h264, wrI_s, wrI_o, wrI_r, wrL_1, wrL_r, wrL_s, wrL_o, blk_in, blk_out, blk_r, lit, litL, b00, b11, nI_l, lN_add, lN_mul, lN_sub, nI_add, pk_mul, pk_sub, pk_div, remN, Nat.add_sub_cancel, Nat.add_sub_cancel_left, Nat.zero_add, Nat.add_zero]; done) | (simp (disch := first | omega | assumption) only [h264, wrI_s, wrI_o, wrI_r, wrL_1, wrL_r, wrL_s, wrL_o, blk_in, blk_out, blk_r, lit, litL, b00, b11, nI_l, lN_add, lN_mul, lN_sub, nI_add, pk_mul, pk_sub, pk_div, remN, Nat.add_sub_cancel, Nat.add_sub_cancel_left, Nat.zero_add, Nat.add_zero]; rfl) | rfl) (e_stA rfl (by omega) (by decide) (by decide) rfl rfl)))))))))
  rw [e0]
  have b265 : (ml0 S j sd t n c x).1 265 = S.1 265 := ml0_q.1 265 (nc (by decide))
  refine loopB (fun m w T => L_X12_moveLive_62 (nI v) (nI j) m w T) (ml0 S j sd t n c x) 265 0 (300 * j) n (fun i => S.1 265 0 (300 * v + i)) (by omega) (fun m i hi => ?_) (fun m => ?_)
  · rw [L_X12_moveLive_62]
    refine e_ldA (v := nI n) rfl hv (by decide) (by decide) (by rw [blk_ne (by decide)]; exact m262) (e_N (by first | (simp (disch := first | omega | assumption) only [wrI_s, wrI_o, wrI_r, wrL_1, wrL_r, wrL_s, wrL_o, blk_in, blk_out, blk_r, lit, litL, b00, b11, nI_l, lN_add, lN_mul, lN_sub, nI_add, pk_mul, pk_sub, pk_div, remN, Nat.add_sub_cancel, Nat.add_sub_cancel_left, Nat.zero_add, Nat.add_zero, nI_eq, nI_leI, nI_ltI, nI_m1, m1_lt, neg_lt, neg_le, neg_ge, neg_gt, neg_eq, not_true, not_false_iff]; done) | (simp (disch := first | omega | assumption) only [wrI_s, wrI_o, wrI_r, wrL_1, wrL_r, wrL_s, wrL_o, blk_in, blk_out, blk_r, lit, litL, b00, b11, nI_l, lN_add, lN_mul, lN_sub, nI_add, pk_mul, pk_sub, pk_div, remN, Nat.add_sub_cancel, Nat.add_sub_cancel_left, Nat.zero_add, Nat.add_zero, nI_eq, nI_leI, nI_ltI, nI_m1, m1_lt, neg_lt, neg_le, neg_ge, neg_gt, neg_eq, not_true, not_false_iff]; omega)) (e_ldA (j := 300 * v + i) (v := S.1 265 0 (300 * v + i)) (by first | (simp (disch := first | omega | assumption) only [wrI_s, wrI_o, wrI_r, wrL_1, wrL_r, wrL_s, wrL_o, blk_in, blk_out, blk_r, lit, litL, b00, b11, nI_l, lN_add, lN_mul, lN_sub, nI_add, pk_mul, pk_sub, pk_div, remN, Nat.add_sub_cancel, Nat.add_sub_cancel_left, Nat.zero_add, Nat.add_zero]; done) | (simp (disch := first | omega | assumption) only [wrI_s, wrI_o, wrI_r, wrL_1, wrL_r, wrL_s, wrL_o, blk_in, blk_out, blk_r, lit, litL, b00, b11, nI_l, lN_add, lN_mul, lN_sub, nI_add, pk_mul, pk_sub, pk_div, remN, Nat.add_sub_cancel, Nat.add_sub_cancel_left, Nat.zero_add, Nat.add_zero]; rfl) | rfl) (by omega) (by decide) (by decide) (by rw [blk_out (by omega), b265]) (e_stA (j := 300 * j + i) (by first | (simp (disch := first | omega | assumption) only [wrI_s, wrI_o, wrI_r, wrL_1, wrL_r, wrL_s, wrL_o, blk_in, blk_out, blk_r, lit, litL, b00, b11, nI_l, lN_add, lN_mul, lN_sub, nI_add, pk_mul, pk_sub, pk_div, remN, Nat.add_sub_cancel, Nat.add_sub_cancel_left, Nat.zero_add, Nat.add_zero]; done) | (simp (disch := first | omega | assumption) only [wrI_s, wrI_o, wrI_r, wrL_1, wrL_r, wrL_s, wrL_o, blk_in, blk_out, blk_r, lit, litL, b00, b11, nI_l, lN_add, lN_mul, lN_sub, nI_add, pk_mul, pk_sub, pk_div, remN, Nat.add_sub_cancel, Nat.add_sub_cancel_left, Nat.zero_add, Nat.add_zero]; rfl) | rfl) (by omega) (by decide) (by decide) rfl ?_)))
    rw [blk_succ (f := fun i => S.1 265 0 (300 * v + i)), nI_1]
  · rw [L_X12_moveLive_62]
    unfold mlM
    refine e_ldA (v := nI n) rfl hv (by decide) (by decide) (by rw [blk_ne (by decide)]; exact m262) (e_T (by first | (simp (disch := first | omega | assumption) only [wrI_s, wrI_o, wrI_r, wrL_1, wrL_r, wrL_s, wrL_o, blk_in, blk_out, blk_r, lit, litL, b00, b11, nI_l, lN_add, lN_mul, lN_sub, nI_add, pk_mul, pk_sub, pk_div, remN, Nat.add_sub_cancel, Nat.add_sub_cancel_left, Nat.zero_add, Nat.add_zero, nI_eq, nI_leI, nI_ltI, nI_m1, m1_lt, neg_lt, neg_le, neg_ge, neg_gt, neg_eq, not_true, not_false_iff]; done) | (simp (disch := first | omega | assumption) only [wrI_s, wrI_o, wrI_r, wrL_1, wrL_r, wrL_s, wrL_o, blk_in, blk_out, blk_r, lit, litL, b00, b11, nI_l, lN_add, lN_mul, lN_sub, nI_add, pk_mul, pk_sub, pk_div, remN, Nat.add_sub_cancel, Nat.add_sub_cancel_left, Nat.zero_add, Nat.add_zero, nI_eq, nI_leI, nI_ltI, nI_m1, m1_lt, neg_lt, neg_le, neg_ge, neg_gt, neg_eq, not_true, not_false_iff]; omega)) (e_ldA (v := nI sd) rfl (by omega) (by decide) (by decide) (by rw [blk_ne (by decide)]; exact m260) ?_))
    by_cases h9 : 9 ≤ sd
    · rw [if_pos h9]
      exact e_T (by first | (simp (disch := first | omega | assumption) only [wrI_s, wrI_o, wrI_r, wrL_1, wrL_r, wrL_s, wrL_o, blk_in, blk_out, blk_r, lit, litL, b00, b11, nI_l, lN_add, lN_mul, lN_sub, nI_add, pk_mul, pk_sub, pk_div, remN, Nat.add_sub_cancel, Nat.add_sub_cancel_left, Nat.zero_add, Nat.add_zero, nI_eq, nI_leI, nI_ltI, nI_m1, m1_lt, neg_lt, neg_le, neg_ge, neg_gt, neg_eq, not_true, not_false_iff]; done) | (simp (disch := first | omega | assumption) only [wrI_s, wrI_o, wrI_r, wrL_1, wrL_r, wrL_s, wrL_o, blk_in, blk_out, blk_r, lit, litL, b00, b11, nI_l, lN_add, lN_mul, lN_sub, nI_add, pk_mul, pk_sub, pk_div, remN, Nat.add_sub_cancel, Nat.add_sub_cancel_left, Nat.zero_add, Nat.add_zero, nI_eq, nI_leI, nI_ltI, nI_m1, m1_lt, neg_lt, neg_le, neg_ge, neg_gt, neg_eq, not_true, not_false_iff]; omega)) rfl
    · rw [if_neg h9]
      exact e_N (by first | (simp (disch := first | omega | assumption) only [wrI_s, wrI_o, wrI_r, wrL_1, wrL_r, wrL_s, wrL_o, blk_in, blk_out, blk_r, lit, litL, b00, b11, nI_l, lN_add, lN_mul, lN_sub, nI_add, pk_mul, pk_sub, pk_div, remN, Nat.add_sub_cancel, Nat.add_sub_cancel_left, Nat.zero_add, Nat.add_zero, nI_eq, nI_leI, nI_ltI, nI_m1, m1_lt, neg_lt, neg_le, neg_ge, neg_gt, neg_eq, not_true, not_false_iff]; done) | (simp (disch := first | omega | assumption) only [wrI_s, wrI_o, wrI_r, wrL_1, wrL_r, wrL_s, wrL_o, blk_in, blk_out, blk_r, lit, litL, b00, b11, nI_l, lN_add, lN_mul, lN_sub, nI_add, pk_mul, pk_sub, pk_div, remN, Nat.add_sub_cancel, Nat.add_sub_cancel_left, Nat.zero_add, Nat.add_zero, nI_eq, nI_leI, nI_ltI, nI_m1, m1_lt, neg_lt, neg_le, neg_ge, neg_gt, neg_eq, not_true, not_false_iff]; omega)) (e_ldA (v := nI sd) rfl (by omega) (by decide) (by decide) (by rw [blk_ne (by decide)]; exact m260) (e_stA rfl (by omega) (by decide) (by decide) rfl rfl))
def CMP (s l : Nat) (M : Mm) (v : Nat) (T : Mm) : Prop := fq [254, 260, 261, 262, 263, 264, 265] M T ∧ (∀ u, u < v → neE s M u = true → (∀ x, 260 ≤ x → x ≤ 264 → T.1 x 0 (cnt (neE s M) u) = M.1 x 0 u) ∧ ∀ n, n ≤ 300 → M.1 262 0 u = nI n → ∀ i, i < n → T.1 265 0 (300 * cnt (neE s M) u + i) = M.1 265 0 (300 * u + i)) ∧ (∀ u, v ≤ u → u < l → (∀ x, 260 ≤ x → x ≤ 264 → T.1 x 0 u = M.1 x 0 u) ∧ ∀ i, i < 300 → T.1 265 0 (300 * u + i) = M.1 265 0 (300 * u + i)) ∧ (∀ k, k < 9 → (M.1 254 0 k = -nI 1 → T.1 254 0 k = -nI 1) ∧ ∀ u, u < l → M.1 254 0 k = nI u → T.1 254 0 k = nI (if u < v then cnt (neE s M) u else u))
theorem cmpS {s l v : Nat} {M T : Mm} (hl : l ≤ 300) (hv : v < l) (hrow : ∀ u, u < l → ∃ x t n sd c, n ≤ 300 ∧ sd ≤ 9 ∧ c ≤ 1 ∧ M.1 264 0 u = nI x ∧ M.1 261 0 u = nI t ∧ M.1 262 0 u = nI n ∧ M.1 260 0 u = nI sd ∧ M.1 263 0 u = nI c) (h1 : ∀ k u, k < 9 → u < l → M.1 254 0 k = nI u → neE s M u = true ∧ M.1 260 0 u = nI k) (h2 : ∀ k u, k < 9 → u < l → neE s M u = true → M.1 260 0 u = nI k → M.1 254 0 k = nI u) (h298 : M.1 298 0 0 = nI s) (h304 : M.1 304 0 0 = nI l) (hP : CMP s l M v T) : ∃ T', CMP s l M (v + 1) T' ∧ ∀ n, L_X12_endAll_100 (n + 1) (nI (cnt (neE s M) v)) (nI v) T = L_X12_endAll_100 n (nI (cnt (neE s M) (v + 1))) (nI (v + 1)) T' := by
  obtain ⟨f, q1, q2, q3⟩ := hP
  obtain ⟨x, t, n', sd, c, a1, a2, a3, a4, a5, a6, a7, a8⟩ := hrow v hv
  have hle : cnt (neE s M) v ≤ v := cnt_le
  have t304 : T.1 304 0 0 = nI l := by rw [f.1 304 (nc (by decide))]; exact h304
  have t298 : T.1 298 0 0 = nI s := by rw [f.1 298 (nc (by decide))]; exact h298
  obtain ⟨r1, r2⟩ := q2 v (Nat.le_refl v) hv
  have t261 : T.1 261 0 v = nI t := by rw [r1 261 (by omega) (by omega)]; exact a5
  have cs : cnt (neE s M) (v + 1) = cnt (neE s M) v + (if neE s M v = true then 1 else 0) := rfl
  by_cases hne : neE s M v = true
  · have hts : ¬ nI t = nI s := by
      unfold neE at hne
      rw [a5] at hne
      intro z
      rw [decide_eq_true z] at hne
      cases hne
    rw [cs, if_pos hne]
    by_cases hj : cnt (neE s M) v = v
    · refine ⟨T, ⟨f, fun u hu hnu => ?_, fun u hu hul => q2 u (by omega) hul, fun k hk => ⟨(q3 k hk).1, fun u hul e => ?_⟩⟩, fun n => ?_⟩
      · by_cases huv : u = v
        · rw [huv, hj]
          exact ⟨r1, fun n hn _ i hi => r2 i (by omega)⟩
        · exact q1 u (by omega) hnu
      · rw [(q3 k hk).2 u hul e]
        by_cases huv : u = v
        · rw [huv, if_neg (by omega), if_pos (by omega), hj]
        · by_cases hlt : u < v
          · rw [if_pos hlt, if_pos (by omega)]
          · rw [if_neg hlt, if_neg (by omega)]
      · rw [L_X12_endAll_100]
        unfold L_X12_endAll_135 L_X12_endAll_138
        refine e_gf t304 (e_N (by first | (simp (disch := first | omega | assumption) only [wrI_s, wrI_o, wrI_r, wrL_1, wrL_r, wrL_s, wrL_o, blk_in, blk_out, blk_r, lit, litL, b00, b11, nI_l, lN_add, lN_mul, lN_sub, nI_add, pk_mul, pk_sub, pk_div, remN, Nat.add_sub_cancel, Nat.add_sub_cancel_left, Nat.zero_add, Nat.add_zero, nI_eq, nI_leI, nI_ltI, nI_m1, m1_lt, neg_lt, neg_le, neg_ge, neg_gt, neg_eq, not_true, not_false_iff]; done) | (simp (disch := first | omega | assumption) only [wrI_s, wrI_o, wrI_r, wrL_1, wrL_r, wrL_s, wrL_o, blk_in, blk_out, blk_r, lit, litL, b00, b11, nI_l, lN_add, lN_mul, lN_sub, nI_add, pk_mul, pk_sub, pk_div, remN, Nat.add_sub_cancel, Nat.add_sub_cancel_left, Nat.zero_add, Nat.add_zero, nI_eq, nI_leI, nI_ltI, nI_m1, m1_lt, neg_lt, neg_le, neg_ge, neg_gt, neg_eq, not_true, not_false_iff]; omega)) (e_ldA rfl (by omega) (by decide) (by decide) t261 (e_gf t298 (e_N hts (e_T (by rw [hj]) ?_)))))
        rw [nI_1, nI_1]
    · have em := mlE (S := T) (v := v) (j := cnt (neE s M) v) (sd := sd) (t := t) (n := n') (c := c) (x := x) (by omega) (by omega) a2 a1 a3 (by rw [r1 260 (by omega) (by omega)]; exact a7) t261 (by rw [r1 262 (by omega) (by omega)]; exact a6) (by rw [r1 263 (by omega) (by omega)]; exact a8) (by rw [r1 264 (by omega) (by omega)]; exact a4)
      have g0 : fq [254, 260, 261, 262, 263, 264, 265] T (mlM T v (cnt (neE s M) v) sd t n' c x) := by
        unfold mlM
        split
        · exact (ml0_q.up (by decide)).tr (by repeat (first | exact fq.rf | (refine fq.tr ?_ (fq.wr (by decide))) | (refine fq.tr ?_ (fq.bk (by decide))) | (refine fq.tr ?_ (fq.wl (by decide))) | (refine fq.tr ?_ (fq.wR (by decide)))))
        · exact (ml0_q.up (by decide)).tr (by repeat (first | exact fq.rf | (refine fq.tr ?_ (fq.wr (by decide))) | (refine fq.tr ?_ (fq.bk (by decide))) | (refine fq.tr ?_ (fq.wl (by decide))) | (refine fq.tr ?_ (fq.wR (by decide)))))
      have n254 : ∀ y, ¬ y = 254 → (mlM T v (cnt (neE s M) v) sd t n' c x).1 y = (blk (ml0 T (cnt (neE s M) v) sd t n' c x) 265 0 (300 * cnt (neE s M) v) n' (fun i => T.1 265 0 (300 * v + i))).1 y := by
        intro y hy
        unfold mlM
        split
        · rfl
        · rw [wrI_ne hy]
      have o254 : ∀ k, ¬ k = sd → (mlM T v (cnt (neE s M) v) sd t n' c x).1 254 0 k = T.1 254 0 k := by
        intro k hk
        unfold mlM
        split
        · rw [blk_ne (by decide), ml0_q.1 254 (nc (by decide))]
        · rw [wrI_o (by omega), blk_ne (by decide), ml0_q.1 254 (nc (by decide))]
      have s254 : sd < 9 → (mlM T v (cnt (neE s M) v) sd t n' c x).1 254 0 sd = nI (cnt (neE s M) v) := by
        intro h9
        unfold mlM
        rw [if_neg (by omega), wrI_s]
      have rowj : ∀ y, 260 ≤ y → y ≤ 264 → (mlM T v (cnt (neE s M) v) sd t n' c x).1 y 0 (cnt (neE s M) v) = M.1 y 0 v := by
        intro y y1 y2
        rw [n254 y (by omega), blk_ne (by omega)]
        unfold ml0
        have hy : y = 260 ∨ y = 261 ∨ y = 262 ∨ y = 263 ∨ y = 264 := by omega
        rcases hy with hy | hy | hy | hy | hy
        · subst hy; rw [a7]; first | (simp (disch := first | omega | assumption) only [wrI_s, wrI_o, wrI_r, wrL_1, wrL_r, wrL_s, wrL_o, blk_in, blk_out, blk_r, lit, litL, b00, b11, nI_l, lN_add, lN_mul, lN_sub, nI_add, pk_mul, pk_sub, pk_div, remN, Nat.add_sub_cancel, Nat.add_sub_cancel_left, Nat.zero_add, Nat.add_zero]; done) | (simp (disch := first | omega | assumption) only [wrI_s, wrI_o, wrI_r, wrL_1, wrL_r, wrL_s, wrL_o, blk_in, blk_out, blk_r, lit, litL, b00, b11, nI_l, lN_add, lN_mul, lN_sub, nI_add, pk_mul, pk_sub, pk_div, remN, Nat.add_sub_cancel, Nat.add_sub_cancel_left, Nat.zero_add, Nat.add_zero]; rfl) | rfl
        · subst hy; rw [a5]; first | (simp (disch := first | omega | assumption) only [wrI_s, wrI_o, wrI_r, wrL_1, wrL_r, wrL_s, wrL_o, blk_in, blk_out, blk_r, lit, litL, b00, b11, nI_l, lN_add, lN_mul, lN_sub, nI_add, pk_mul, pk_sub, pk_div, remN, Nat.add_sub_cancel, Nat.add_sub_cancel_left, Nat.zero_add, Nat.add_zero]; done) | (simp (disch := first | omega | assumption) only [wrI_s, wrI_o, wrI_r, wrL_1, wrL_r, wrL_s, wrL_o, blk_in, blk_out, blk_r, lit, litL, b00, b11, nI_l, lN_add, lN_mul, lN_sub, nI_add, pk_mul, pk_sub, pk_div, remN, Nat.add_sub_cancel, Nat.add_sub_cancel_left, Nat.zero_add, Nat.add_zero]; rfl) | rfl
        · subst hy; rw [a6]; first | (simp (disch := first | omega | assumption) only [wrI_s, wrI_o, wrI_r, wrL_1, wrL_r, wrL_s, wrL_o, blk_in, blk_out, blk_r, lit, litL, b00, b11, nI_l, lN_add, lN_mul, lN_sub, nI_add, pk_mul, pk_sub, pk_div, remN, Nat.add_sub_cancel, Nat.add_sub_cancel_left, Nat.zero_add, Nat.add_zero]; done) | (simp (disch := first | omega | assumption) only [wrI_s, wrI_o, wrI_r, wrL_1, wrL_r, wrL_s, wrL_o, blk_in, blk_out, blk_r, lit, litL, b00, b11, nI_l, lN_add, lN_mul, lN_sub, nI_add, pk_mul, pk_sub, pk_div, remN, Nat.add_sub_cancel, Nat.add_sub_cancel_left, Nat.zero_add, Nat.add_zero]; rfl) | rfl
        · subst hy; rw [a8]; first | (simp (disch := first | omega | assumption) only [wrI_s, wrI_o, wrI_r, wrL_1, wrL_r, wrL_s, wrL_o, blk_in, blk_out, blk_r, lit, litL, b00, b11, nI_l, lN_add, lN_mul, lN_sub, nI_add, pk_mul, pk_sub, pk_div, remN, Nat.add_sub_cancel, Nat.add_sub_cancel_left, Nat.zero_add, Nat.add_zero]; done) | (simp (disch := first | omega | assumption) only [wrI_s, wrI_o, wrI_r, wrL_1, wrL_r, wrL_s, wrL_o, blk_in, blk_out, blk_r, lit, litL, b00, b11, nI_l, lN_add, lN_mul, lN_sub, nI_add, pk_mul, pk_sub, pk_div, remN, Nat.add_sub_cancel, Nat.add_sub_cancel_left, Nat.zero_add, Nat.add_zero]; rfl) | rfl
        · subst hy; rw [a4]; first | (simp (disch := first | omega | assumption) only [wrI_s, wrI_o, wrI_r, wrL_1, wrL_r, wrL_s, wrL_o, blk_in, blk_out, blk_r, lit, litL, b00, b11, nI_l, lN_add, lN_mul, lN_sub, nI_add, pk_mul, pk_sub, pk_div, remN, Nat.add_sub_cancel, Nat.add_sub_cancel_left, Nat.zero_add, Nat.add_zero]; done) | (simp (disch := first | omega | assumption) only [wrI_s, wrI_o, wrI_r, wrL_1, wrL_r, wrL_s, wrL_o, blk_in, blk_out, blk_r, lit, litL, b00, b11, nI_l, lN_add, lN_mul, lN_sub, nI_add, pk_mul, pk_sub, pk_div, remN, Nat.add_sub_cancel, Nat.add_sub_cancel_left, Nat.zero_add, Nat.add_zero]; rfl) | rfl
      have rowo : ∀ y u, 260 ≤ y → y ≤ 264 → ¬ u = cnt (neE s M) v → (mlM T v (cnt (neE s M) v) sd t n' c x).1 y 0 u = T.1 y 0 u := by
        intro y u y1 y2 hu
        rw [n254 y (by omega), blk_ne (by omega)]
        unfold ml0
        rw [wrI_o (by omega), wrI_o (by omega), wrI_o (by omega), wrI_o (by omega), wrI_o (by omega)]
      have byj : ∀ i, i < n' → (mlM T v (cnt (neE s M) v) sd t n' c x).1 265 0 (300 * cnt (neE s M) v + i) = M.1 265 0 (300 * v + i) := by
        intro i hi
        rw [n254 265 (by omega), blk_in (by omega) (by omega), Nat.add_sub_cancel_left]
        exact r2 i (by omega)
      have byo : ∀ u i, ¬ u = cnt (neE s M) v → i < 300 → (mlM T v (cnt (neE s M) v) sd t n' c x).1 265 0 (300 * u + i) = T.1 265 0 (300 * u + i) := by
        intro u i hu hi
        rw [n254 265 (by omega), blk_out (by omega), ml0_q.1 265 (nc (by decide))]
      refine ⟨mlM T v (cnt (neE s M) v) sd t n' c x, ⟨f.tr g0, fun u hu hnu => ?_, fun u hu hul => ⟨fun y y1 y2 => ?_, fun i hi => ?_⟩, fun k hk => ⟨fun e => ?_, fun u hul e => ?_⟩⟩, fun n => ?_⟩
      · by_cases huv : u = v
        · rw [huv]
          refine ⟨rowj, fun n hn e i hi => byj i ?_⟩
          by_cases hn2 : n < 2 ^ 31
          · have : n = n' := (nI_eq hn2 (by omega)).mp (e.symm.trans a6)
            omega
          · omega
        · have hlt := cnt_lt (p := neE s M) (show u < v by omega) hnu
          obtain ⟨z1, z2⟩ := q1 u (by omega) hnu
          refine ⟨fun y y1 y2 => ?_, fun n hn e i hi => ?_⟩
          · rw [rowo y _ y1 y2 (by omega)]
            exact z1 y y1 y2
          · rw [byo _ i (by omega) (by omega)]
            exact z2 n hn e i hi
      · rw [rowo y u y1 y2 (by omega)]
        exact (q2 u (by omega) hul).1 y y1 y2
      · rw [byo u i (by omega) hi]
        exact (q2 u (by omega) hul).2 i hi
      · have hks : ¬ k = sd := fun z => by
          have := h2 k v hk hv hne (by rw [z]; exact a7)
          rw [e] at this
          exact absurd this.symm (by rw [nI_m1 (by omega)]; exact id)
        rw [o254 k hks]
        exact (q3 k hk).1 e
      · by_cases hks : k = sd
        · have e' := h2 k v hk hv hne (by rw [hks]; exact a7)
          have huv : u = v := (nI_eq (by omega) (by omega)).mp (e.symm.trans e')
          rw [huv, if_pos (by omega), hks]
          exact s254 (by omega)
        · have huv : ¬ u = v := fun z => by
            have := (h1 k u hk hul e).2
            rw [z, a7] at this
            exact hks ((nI_eq (by omega) (by omega)).mp this).symm
          rw [o254 k hks, (q3 k hk).2 u hul e]
          by_cases hlt : u < v
          · rw [if_pos hlt, if_pos (by omega)]
          · rw [if_neg hlt, if_neg (by omega)]
      · rw [L_X12_endAll_100]
        unfold L_X12_endAll_135 L_X12_endAll_138
        refine e_gf t304 (e_N (by first | (simp (disch := first | omega | assumption) only [wrI_s, wrI_o, wrI_r, wrL_1, wrL_r, wrL_s, wrL_o, blk_in, blk_out, blk_r, lit, litL, b00, b11, nI_l, lN_add, lN_mul, lN_sub, nI_add, pk_mul, pk_sub, pk_div, remN, Nat.add_sub_cancel, Nat.add_sub_cancel_left, Nat.zero_add, Nat.add_zero, nI_eq, nI_leI, nI_ltI, nI_m1, m1_lt, neg_lt, neg_le, neg_ge, neg_gt, neg_eq, not_true, not_false_iff]; done) | (simp (disch := first | omega | assumption) only [wrI_s, wrI_o, wrI_r, wrL_1, wrL_r, wrL_s, wrL_o, blk_in, blk_out, blk_r, lit, litL, b00, b11, nI_l, lN_add, lN_mul, lN_sub, nI_add, pk_mul, pk_sub, pk_div, remN, Nat.add_sub_cancel, Nat.add_sub_cancel_left, Nat.zero_add, Nat.add_zero, nI_eq, nI_leI, nI_ltI, nI_m1, m1_lt, neg_lt, neg_le, neg_ge, neg_gt, neg_eq, not_true, not_false_iff]; omega)) (e_ldA rfl (by omega) (by decide) (by decide) t261 (e_gf t298 (e_N hts (e_N (by rw [nI_eq (by omega) (by omega)]; exact hj) (e_cl em ?_))))))
        rw [nI_1, nI_1]
  · have hts : nI t = nI s := by
      unfold neE at hne
      rw [a5] at hne
      by_cases z : nI t = nI s
      · exact z
      · exact absurd (by rw [decide_eq_false z]; rfl) hne
    rw [cs, if_neg hne, Nat.add_zero]
    refine ⟨T, ⟨f, fun u hu hnu => q1 u ?_ hnu, fun u hu hul => q2 u (by omega) hul, fun k hk => ⟨(q3 k hk).1, fun u hul e => ?_⟩⟩, fun n => ?_⟩
    · by_cases huv : u = v
      · rw [huv] at hnu
        exact absurd hnu hne
      · omega
    · have huv : ¬ u = v := fun z => by
        have := (h1 k u hk hul e).1
        rw [z] at this
        exact hne this
      rw [(q3 k hk).2 u hul e]
      by_cases hlt : u < v
      · rw [if_pos hlt, if_pos (by omega)]
      · rw [if_neg hlt, if_neg (by omega)]
    · rw [L_X12_endAll_100]
      unfold L_X12_endAll_138
      refine e_gf t304 (e_N (by first | (simp (disch := first | omega | assumption) only [wrI_s, wrI_o, wrI_r, wrL_1, wrL_r, wrL_s, wrL_o, blk_in, blk_out, blk_r, lit, litL, b00, b11, nI_l, lN_add, lN_mul, lN_sub, nI_add, pk_mul, pk_sub, pk_div, remN, Nat.add_sub_cancel, Nat.add_sub_cancel_left, Nat.zero_add, Nat.add_zero, nI_eq, nI_leI, nI_ltI, nI_m1, m1_lt, neg_lt, neg_le, neg_ge, neg_gt, neg_eq, not_true, not_false_iff]; done) | (simp (disch := first | omega | assumption) only [wrI_s, wrI_o, wrI_r, wrL_1, wrL_r, wrL_s, wrL_o, blk_in, blk_out, blk_r, lit, litL, b00, b11, nI_l, lN_add, lN_mul, lN_sub, nI_add, pk_mul, pk_sub, pk_div, remN, Nat.add_sub_cancel, Nat.add_sub_cancel_left, Nat.zero_add, Nat.add_zero, nI_eq, nI_leI, nI_ltI, nI_m1, m1_lt, neg_lt, neg_le, neg_ge, neg_gt, neg_eq, not_true, not_false_iff]; omega)) (e_ldA rfl (by omega) (by decide) (by decide) t261 (e_gf t298 (e_T hts ?_))))
      rw [nI_1, Nat.add_zero (cnt (neE s M) v)]
theorem cmpL {s l : Nat} {M : Mm} (hl : l ≤ 300) (hrow : ∀ u, u < l → ∃ x t n sd c, n ≤ 300 ∧ sd ≤ 9 ∧ c ≤ 1 ∧ M.1 264 0 u = nI x ∧ M.1 261 0 u = nI t ∧ M.1 262 0 u = nI n ∧ M.1 260 0 u = nI sd ∧ M.1 263 0 u = nI c) (h1 : ∀ k u, k < 9 → u < l → M.1 254 0 k = nI u → neE s M u = true ∧ M.1 260 0 u = nI k) (h2 : ∀ k u, k < 9 → u < l → neE s M u = true → M.1 260 0 u = nI k → M.1 254 0 k = nI u) (h298 : M.1 298 0 0 = nI s) (h304 : M.1 304 0 0 = nI l) : ∃ T, CMP s l M l T ∧ L_X12_endAll_100 fu 0 0 M = some ((), wrI T 304 0 0 (nI (cnt (neE s M) l))) := by
  obtain ⟨j, -, T, m, ⟨hj, hT⟩, -, e2⟩ := loop3 (fun _ _ _ _ => ()) (fun n a b S => L_X12_endAll_100 n a b S) (fun v j _ T => j = cnt (neE s M) v ∧ CMP s l M v T) l (by omega) (fun v j C1 T hv hP => by
    obtain ⟨hj, hT⟩ := hP
    obtain ⟨T', r1, r2⟩ := cmpS hl hv hrow h1 h2 h298 h304 hT
    exact ⟨cnt (neE s M) (v + 1), C1, T', ⟨rfl, r1⟩, fun _ => rfl, fun n => by rw [hj]; exact r2 n⟩) (C := M) (M := M) ⟨rfl, fq.rf, fun u hu => absurd hu (by omega), fun u _ _ => ⟨fun _ _ _ => rfl, fun _ _ => rfl⟩, fun k hk => ⟨id, fun u hul e => by rw [if_neg (by omega)]; exact e⟩⟩
  refine ⟨T, hT, ?_⟩
  rw [e2, L_X12_endAll_100, hj]
  exact e_gf (v := nI l) (by rw [hT.1.1 304 (nc (by decide))]; exact h304) (e_T (by first | (simp (disch := first | omega | assumption) only [wrI_s, wrI_o, wrI_r, wrL_1, wrL_r, wrL_s, wrL_o, blk_in, blk_out, blk_r, lit, litL, b00, b11, nI_l, lN_add, lN_mul, lN_sub, nI_add, pk_mul, pk_sub, pk_div, remN, Nat.add_sub_cancel, Nat.add_sub_cancel_left, Nat.zero_add, Nat.add_zero, nI_eq, nI_leI, nI_ltI, nI_m1, m1_lt, neg_lt, neg_le, neg_ge, neg_gt, neg_eq, not_true, not_false_iff]; done) | (simp (disch := first | omega | assumption) only [wrI_s, wrI_o, wrI_r, wrL_1, wrL_r, wrL_s, wrL_o, blk_in, blk_out, blk_r, lit, litL, b00, b11, nI_l, lN_add, lN_mul, lN_sub, nI_add, pk_mul, pk_sub, pk_div, remN, Nat.add_sub_cancel, Nat.add_sub_cancel_left, Nat.zero_add, Nat.add_zero, nI_eq, nI_leI, nI_ltI, nI_m1, m1_lt, neg_lt, neg_le, neg_ge, neg_gt, neg_eq, not_true, not_false_iff]; omega)) (e_pf rfl rfl))
