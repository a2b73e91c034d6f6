/-! WITHIN A SLOT: the invariant, and a node that sends -/
def SS (c s d w e p t g l : Nat) (C M : Mm) : Prop := ITape C M ∧ IDraw C M ∧ INois C M ∧ IPar C M ∧ ISub C M ∧ IKey C M ∧ IRef C M ∧ ISta C M ∧ ILnk C M ∧ IBeg C M ∧ IQue C M ∧ IHnd C M ∧ ICon C M ∧ IDue d C M ∧ IWai w C M ∧ ISnd e l C M ∧ ISlo s g l C M ∧ ISto C M ∧ IRng e g l C M ∧ ILiv e g l C M ∧ IEnd e l C M ∧ IPut p C M ∧ ILat C M ∧ IInb t C M ∧ ICnt c l C M ∧ IAlq g l C M
theorem cnt_or {p q : Nat → Bool} {n : Nat} : cnt (fun v => p v || q v) n ≤ cnt p n + cnt q n := by
  induction n with
  | zero => exact Nat.le_refl 0
  | succ n ih =>
    show cnt (fun v => p v || q v) n + (if (p n || q n) = true then 1 else 0) ≤ (cnt p n + if p n = true then 1 else 0) + (cnt q n + if q n = true then 1 else 0)
    generalize p n = a
    generalize q n = b
    cases a <;> cases b <;> simp <;> omega
theorem cnt_0 {p : Nat → Bool} {n : Nat} (h : ∀ v, v < n → p v = false) : cnt p n = 0 := by
  induction n with
  | zero => rfl
  | succ n ih =>
    show cnt p n + _ = 0
    rw [ih (fun v hv => h v (by omega)), h n (by omega)]
    rfl
theorem cnt_1 {p : Nat → Bool} {n : Nat} (h : ∀ v w, v < n → w < n → p v = true → p w = true → v = w) : cnt p n ≤ 1 := by
  induction n with
  | zero => exact Nat.zero_le 1
  | succ n ih =>
    show cnt p n + _ ≤ 1
    by_cases hn : p n = true
    · rw [cnt_0 (fun v hv => by
        cases hp : p v with
        | false => rfl
        | true => exact absurd (h v n (by omega) (by omega) hp hn) (by omega)), if_pos hn]
      exact Nat.le_refl 1
    · rw [if_neg hn]
      exact ih (fun v w hv hw => h v w (by omega) (by omega))
theorem cnt_all (n : Nat) : cnt (fun _ => true) n = n := by
  induction n with
  | zero => rfl
  | succ n ih => show cnt _ n + 1 = n + 1; rw [ih]
theorem cnt_le {p : Nat → Bool} {n : Nat} : cnt p n ≤ n := by
  induction n with
  | zero => exact Nat.le_refl 0
  | succ n ih => show cnt p n + _ ≤ n + 1; split <;> omega
theorem live_lt {c s d w e p t g l : Nat} {C M : Mm} (h : SS c s d w e p t g l C M) (hc : c ≤ 512) (hl : l < 2 ^ 31) : l ≤ 265 := by
  obtain ⟨hITape, hIDraw, hINois, hIPar, hISub, hIKey, hIRef, hISta, hILnk, hIBeg, hIQue, hIHnd, hICon, hIDue, hIWai, hISnd, hISlo, hISto, hIRng, hILiv, hIEnd, hIPut, hILat, hIInb, hICnt, hIAlq⟩ := h
  obtain ⟨n, p', P, c1, c2, c3, c4, c5, c6⟩ := hICnt
  have hsd : ∀ v, v < l → ∃ sd, sd ≤ 9 ∧ M.1 260 0 v = nI sd := fun v hv => by
    obtain ⟨x, t', n', sd', c', p1, p2, p3, p4, p5, p6, p7, p8, p9, p10, p11, -⟩ := hILiv.1 v hv
    exact ⟨sd', p6, p11⟩
  have key : ∀ K, K ≤ 9 → cnt (fun v => decide ((M.1 260 0 v).toNatClampNeg < K)) l ≤ K := by
    intro K
    induction K with
    | zero =>
      intro _
      rw [cnt_0 (fun v hv => decide_eq_false (by omega))]
      exact Nat.le_refl 0
    | succ K ih =>
      intro hK
      rw [cnt_congr (q := fun v => decide ((M.1 260 0 v).toNatClampNeg < K) || decide ((M.1 260 0 v).toNatClampNeg = K)) (fun v hv => by
        rw [← Bool.decide_or]
        exact decide_eq_decide.mpr (by omega))]
      have h1 := cnt_or (p := fun v => decide ((M.1 260 0 v).toNatClampNeg < K)) (q := fun v => decide ((M.1 260 0 v).toNatClampNeg = K)) (n := l)
      have h2 := ih (by omega)
      have h3 : cnt (fun v => decide ((M.1 260 0 v).toNatClampNeg = K)) l ≤ 1 := by
        refine cnt_1 (fun v w hv hw pv pw => ?_)
        obtain ⟨a, a1, a2⟩ := hsd v hv
        obtain ⟨b, b1, b2⟩ := hsd w hw
        have ea := of_decide_eq_true pv
        have eb := of_decide_eq_true pw
        rw [a2, nI_clamp (by omega)] at ea
        rw [b2, nI_clamp (by omega)] at eb
        subst ea
        have q1 := hISnd.2 v a hv (by omega) a2
        have q2 := hISnd.2 w a hw (by omega) (by rw [b2, eb])
        exact (nI_eq (by omega) (by omega)).mp (q1.symm.trans q2)
      omega
  have h1 := cnt_or (p := fun v => decide ((M.1 260 0 v).toNatClampNeg < 9)) (q := fun v => decide (M.1 260 0 v = nI 9)) (n := l)
  rw [cnt_congr (p := fun v => decide ((M.1 260 0 v).toNatClampNeg < 9) || decide (M.1 260 0 v = nI 9)) (q := fun _ => true) (fun v hv => by
    obtain ⟨a, a1, a2⟩ := hsd v hv
    rw [a2, nI_clamp (by omega)]
    by_cases h9 : a < 9
    · rw [decide_eq_true h9]; rfl
    · rw [show a = 9 by omega]; rfl), cnt_all] at h1
  have h2 := key 9 (by omega)
  omega
abbrev outCl : List Nat := [27, 28, 29, 30, 31, 32, 33, 71, 72, 73, 74]
abbrev outMl : List Nat := [254, 260, 261, 262, 263, 264, 265, 266, 267, 268, 269, 270, 271, 301, 304]
theorem outC_q {C : Mm} {R n sd s t e g l : Nat} {f : Nat → Int32} : fq outCl C (outC C R n sd s t e g l f) := by
  unfold outC
  repeat (first | exact fq.rf | (refine fq.tr ?_ (fq.wr (by decide))) | (refine fq.tr ?_ (fq.bk (by decide))) | (refine fq.tr ?_ (fq.wl (by decide))) | (refine fq.tr ?_ (fq.wR (by decide))))
theorem outB_q {M : Mm} {R n sd s t g l : Nat} {f : Nat → Int32} : fq (outMl.erase 254) M (outB M R n sd s t g l f) := by
  unfold outB outM0
  repeat (first | exact fq.rf | (refine fq.tr ?_ (fq.wr (by decide))) | (refine fq.tr ?_ (fq.bk (by decide))) | (refine fq.tr ?_ (fq.wl (by decide))) | (refine fq.tr ?_ (fq.wR (by decide))))
theorem outM_q {M : Mm} {R n sd s t g l : Nat} {f : Nat → Int32} : fq outMl M (outM M R n sd s t g l f) := (outB_q.up (by decide)).tr (outM_B.up (by decide))
theorem outM_254 {M : Mm} {R n sd s t g l : Nat} {f : Nat → Int32} (h : sd < 9) : (outM M R n sd s t g l f).1 254 0 sd = nI l ∧ ∀ j, ¬ j = sd → (outM M R n sd s t g l f).1 254 0 j = M.1 254 0 j := by
  unfold outM outM0
  rw [if_neg (by omega)]
  exact ⟨wrI_s, fun j hj => (by first | (simp (disch := first | omega | assumption) only [wrI_s, wrI_o, wrI_r, wrL_1, wrL_r, wrL_s, wrL_o, blk_in, blk_out, blk_r, lit, litL, b00, b11, nI_l, lN_add, lN_mul, lN_sub, nI_add, pk_mul, pk_sub, pk_div, remN, Nat.add_sub_cancel, Nat.add_sub_cancel_left, Nat.zero_add, Nat.add_zero]; done) | (simp (disch := first | omega | assumption) only [wrI_s, wrI_o, wrI_r, wrL_1, wrL_r, wrL_s, wrL_o, blk_in, blk_out, blk_r, lit, litL, b00, b11, nI_l, lN_add, lN_mul, lN_sub, nI_add, pk_mul, pk_sub, pk_div, remN, Nat.add_sub_cancel, Nat.add_sub_cancel_left, Nat.zero_add, Nat.add_zero]; rfl) | rfl)⟩
theorem outM_254' {M : Mm} {R n s t g l : Nat} {f : Nat → Int32} : (outM M R n 9 s t g l f).1 254 = M.1 254 := by
  unfold outM outM0
  rw [if_pos (by omega)]
  funext b d
  first | (simp (disch := first | omega | assumption) only [wrI_s, wrI_o, wrI_r, wrL_1, wrL_r, wrL_s, wrL_o, blk_in, blk_out, blk_r, lit, litL, b00, b11, nI_l, lN_add, lN_mul, lN_sub, nI_add, pk_mul, pk_sub, pk_div, remN, Nat.add_sub_cancel, Nat.add_sub_cancel_left, Nat.zero_add, Nat.add_zero]; done) | (simp (disch := first | omega | assumption) only [wrI_s, wrI_o, wrI_r, wrL_1, wrL_r, wrL_s, wrL_o, blk_in, blk_out, blk_r, lit, litL, b00, b11, nI_l, lN_add, lN_mul, lN_sub, nI_add, pk_mul, pk_sub, pk_div, remN, Nat.add_sub_cancel, Nat.add_sub_cancel_left, Nat.zero_add, Nat.add_zero]; rfl) | rfl
theorem outM_row {M : Mm} {R n sd s t g l : Nat} {f : Nat → Int32} (hn : 1 ≤ n) : let N := outM M R n sd s t g l f; (N.1 260 0 l = nI sd ∧ N.1 261 0 l = nI t ∧ N.1 262 0 l = nI n ∧ N.1 265 0 (300 * l) = f 0) ∧ (∀ v, v < l → N.1 260 0 v = M.1 260 0 v ∧ N.1 261 0 v = M.1 261 0 v ∧ N.1 262 0 v = M.1 262 0 v ∧ N.1 265 0 (300 * v) = M.1 265 0 (300 * v)) := by
  intro N
  have e : ∀ x, ¬ x = 254 → N.1 x = (outB M R n sd s t g l f).1 x := fun x hx => outM_B.1 x (by simp only [List.mem_cons, List.not_mem_nil, or_false]; exact hx)
  rw [e 260 (by decide), e 261 (by decide), e 262 (by decide), e 265 (by decide)]
  unfold outB outM0
  refine ⟨⟨(by first | (simp (disch := first | omega | assumption) only [wrI_s, wrI_o, wrI_r, wrL_1, wrL_r, wrL_s, wrL_o, blk_in, blk_out, blk_r, lit, litL, b00, b11, nI_l, lN_add, lN_mul, lN_sub, nI_add, pk_mul, pk_sub, pk_div, remN, Nat.add_sub_cancel, Nat.add_sub_cancel_left, Nat.zero_add, Nat.add_zero]; done) | (simp (disch := first | omega | assumption) only [wrI_s, wrI_o, wrI_r, wrL_1, wrL_r, wrL_s, wrL_o, blk_in, blk_out, blk_r, lit, litL, b00, b11, nI_l, lN_add, lN_mul, lN_sub, nI_add, pk_mul, pk_sub, pk_div, remN, Nat.add_sub_cancel, Nat.add_sub_cancel_left, Nat.zero_add, Nat.add_zero]; rfl) | rfl), (by first | (simp (disch := first | omega | assumption) only [wrI_s, wrI_o, wrI_r, wrL_1, wrL_r, wrL_s, wrL_o, blk_in, blk_out, blk_r, lit, litL, b00, b11, nI_l, lN_add, lN_mul, lN_sub, nI_add, pk_mul, pk_sub, pk_div, remN, Nat.add_sub_cancel, Nat.add_sub_cancel_left, Nat.zero_add, Nat.add_zero]; done) | (simp (disch := first | omega | assumption) only [wrI_s, wrI_o, wrI_r, wrL_1, wrL_r, wrL_s, wrL_o, blk_in, blk_out, blk_r, lit, litL, b00, b11, nI_l, lN_add, lN_mul, lN_sub, nI_add, pk_mul, pk_sub, pk_div, remN, Nat.add_sub_cancel, Nat.add_sub_cancel_left, Nat.zero_add, Nat.add_zero]; rfl) | rfl), (by first | (simp (disch := first | omega | assumption) only [wrI_s, wrI_o, wrI_r, wrL_1, wrL_r, wrL_s, wrL_o, blk_in, blk_out, blk_r, lit, litL, b00, b11, nI_l, lN_add, lN_mul, lN_sub, nI_add, pk_mul, pk_sub, pk_div, remN, Nat.add_sub_cancel, Nat.add_sub_cancel_left, Nat.zero_add, Nat.add_zero]; done) | (simp (disch := first | omega | assumption) only [wrI_s, wrI_o, wrI_r, wrL_1, wrL_r, wrL_s, wrL_o, blk_in, blk_out, blk_r, lit, litL, b00, b11, nI_l, lN_add, lN_mul, lN_sub, nI_add, pk_mul, pk_sub, pk_div, remN, Nat.add_sub_cancel, Nat.add_sub_cancel_left, Nat.zero_add, Nat.add_zero]; rfl) | rfl), ?_⟩, fun v hv => ⟨(by first | (simp (disch := first | omega | assumption) only [wrI_s, wrI_o, wrI_r, wrL_1, wrL_r, wrL_s, wrL_o, blk_in, blk_out, blk_r, lit, litL, b00, b11, nI_l, lN_add, lN_mul, lN_sub, nI_add, pk_mul, pk_sub, pk_div, remN, Nat.add_sub_cancel, Nat.add_sub_cancel_left, Nat.zero_add, Nat.add_zero]; done) | (simp (disch := first | omega | assumption) only [wrI_s, wrI_o, wrI_r, wrL_1, wrL_r, wrL_s, wrL_o, blk_in, blk_out, blk_r, lit, litL, b00, b11, nI_l, lN_add, lN_mul, lN_sub, nI_add, pk_mul, pk_sub, pk_div, remN, Nat.add_sub_cancel, Nat.add_sub_cancel_left, Nat.zero_add, Nat.add_zero]; rfl) | rfl), (by first | (simp (disch := first | omega | assumption) only [wrI_s, wrI_o, wrI_r, wrL_1, wrL_r, wrL_s, wrL_o, blk_in, blk_out, blk_r, lit, litL, b00, b11, nI_l, lN_add, lN_mul, lN_sub, nI_add, pk_mul, pk_sub, pk_div, remN, Nat.add_sub_cancel, Nat.add_sub_cancel_left, Nat.zero_add, Nat.add_zero]; done) | (simp (disch := first | omega | assumption) only [wrI_s, wrI_o, wrI_r, wrL_1, wrL_r, wrL_s, wrL_o, blk_in, blk_out, blk_r, lit, litL, b00, b11, nI_l, lN_add, lN_mul, lN_sub, nI_add, pk_mul, pk_sub, pk_div, remN, Nat.add_sub_cancel, Nat.add_sub_cancel_left, Nat.zero_add, Nat.add_zero]; rfl) | rfl), (by first | (simp (disch := first | omega | assumption) only [wrI_s, wrI_o, wrI_r, wrL_1, wrL_r, wrL_s, wrL_o, blk_in, blk_out, blk_r, lit, litL, b00, b11, nI_l, lN_add, lN_mul, lN_sub, nI_add, pk_mul, pk_sub, pk_div, remN, Nat.add_sub_cancel, Nat.add_sub_cancel_left, Nat.zero_add, Nat.add_zero]; done) | (simp (disch := first | omega | assumption) only [wrI_s, wrI_o, wrI_r, wrL_1, wrL_r, wrL_s, wrL_o, blk_in, blk_out, blk_r, lit, litL, b00, b11, nI_l, lN_add, lN_mul, lN_sub, nI_add, pk_mul, pk_sub, pk_div, remN, Nat.add_sub_cancel, Nat.add_sub_cancel_left, Nat.zero_add, Nat.add_zero]; rfl) | rfl), (by first | (simp (disch := first | omega | assumption) only [wrI_s, wrI_o, wrI_r, wrL_1, wrL_r, wrL_s, wrL_o, blk_in, blk_out, blk_r, lit, litL, b00, b11, nI_l, lN_add, lN_mul, lN_sub, nI_add, pk_mul, pk_sub, pk_div, remN, Nat.add_sub_cancel, Nat.add_sub_cancel_left, Nat.zero_add, Nat.add_zero]; done) | (simp (disch := first | omega | assumption) only [wrI_s, wrI_o, wrI_r, wrL_1, wrL_r, wrL_s, wrL_o, blk_in, blk_out, blk_r, lit, litL, b00, b11, nI_l, lN_add, lN_mul, lN_sub, nI_add, pk_mul, pk_sub, pk_div, remN, Nat.add_sub_cancel, Nat.add_sub_cancel_left, Nat.zero_add, Nat.add_zero]; rfl) | rfl)⟩⟩
  simp (disch := omega) only [wrI_o, blk_in, blk_out, Nat.sub_self]
theorem cnt9 {M : Mm} {R n sd s t g l : Nat} {f : Nat → Int32} (hn : 1 ≤ n) (hsd : sd ≤ 9) : cnt (fun v => decide ((outM M R n sd s t g l f).1 260 0 v = nI 9)) (l + 1) = cnt (fun v => decide (M.1 260 0 v = nI 9)) l + (if sd = 9 then 1 else 0) := by
  obtain ⟨⟨h1, -⟩, h2⟩ := outM_row (M := M) (R := R) (n := n) (sd := sd) (s := s) (t := t) (g := g) (l := l) (f := f) hn
  show cnt _ l + (if decide ((outM M R n sd s t g l f).1 260 0 l = nI 9) = true then 1 else 0) = _
  rw [cnt_congr (q := fun v => decide (M.1 260 0 v = nI 9)) (fun v hv => by rw [(h2 v hv).1]), h1]
  congr 1
  by_cases h9 : sd = 9
  · rw [if_pos h9, h9]; rfl
  · rw [if_neg h9, if_neg (by rw [decide_eq_true_eq, nI_eq (by omega) (by decide)]; exact h9)]
