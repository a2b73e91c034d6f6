/-! FRAMES END, where none that ends is clean: what both sides have done -/
theorem cnt_not {p : Nat → Bool} : ∀ l, cnt p l + cnt (fun v => !p v) l = l := by
  intro l
  induction l with
  | zero => rfl
  | succ l ih =>
    show (cnt p l + (if p l = true then 1 else 0)) + (cnt (fun v => !p v) l + (if (!p l) = true then 1 else 0)) = l + 1
    cases h : p l with
    | false => simp; omega
    | true => simp; omega
abbrev enCl : List Nat := [33, 74, 75, 98]
abbrev enMl : List Nat := [254, 255, 256, 260, 261, 262, 263, 264, 265, 270, 278, 302, 304, 307]
def EN (s g l : Nat) (M M2 : Mm) : Prop := fq enMl M M2 ∧ M2.1 304 0 0 = nI (cnt (neE s M) l) ∧ M2.1 302 0 0 = M.1 302 0 0 + nI (cnt (fun v => decide (M.1 261 0 v = nI s)) l) ∧ (∀ u, u < l → neE s M u = true → (∀ x, 260 ≤ x → x ≤ 264 → M2.1 x 0 (cnt (neE s M) u) = M.1 x 0 u) ∧ ∀ n, n ≤ 300 → M.1 262 0 u = nI n → ∀ i, i < n → M2.1 265 0 (300 * cnt (neE s M) u + i) = M.1 265 0 (300 * u + i)) ∧ (∀ k, k < 9 → (M.1 254 0 k = -nI 1 → M2.1 254 0 k = -nI 1 ∧ M2.1 255 0 k = M.1 255 0 k ∧ M2.1 256 0 k = M.1 256 0 k) ∧ ∀ u, u < l → M.1 254 0 k = nI u → (neE s M u = true → M2.1 254 0 k = nI (cnt (neE s M) u) ∧ M2.1 255 0 k = M.1 255 0 k ∧ M2.1 256 0 k = M.1 256 0 k) ∧ (M.1 261 0 u = nI s → M2.1 254 0 k = -nI 1 ∧ (M.1 265 0 (300 * u) = nI 212 → M2.1 255 0 k = M.1 255 0 k ∧ M2.1 256 0 k = M.1 256 0 k) ∧ (¬ M.1 265 0 (300 * u) = nI 212 → M2.1 255 0 k = nI 1 ∧ M2.1 256 0 k = nI s))) ∧ (∀ r, r < 40 → ((∃ v x, v < l ∧ M.1 261 0 v = nI s ∧ x < g ∧ M.1 264 0 v = nI x ∧ g ≤ x + 40 ∧ x % 40 = r) → M2.1 270 0 r = nI 0) ∧ ((¬ ∃ v x, v < l ∧ M.1 261 0 v = nI s ∧ x < g ∧ M.1 264 0 v = nI x ∧ g ≤ x + 40 ∧ x % 40 = r) → M2.1 270 0 r = M.1 270 0 r))
theorem endAM {s g l : Nat} {C M : Mm} (hg : g < 2 ^ 29) (hl : l ≤ 300) (hS : ISlo s g l C M) (hN : ISnd s l C M) (hL : ILiv s g l C M) (hs : s < 2 ^ 29) (hno : ∀ v, v < l → M.1 261 0 v = nI s → M.1 263 0 v = nI 0) : ∃ M2, F_X12_endAll M = some ((), M2) ∧ EN s g l M M2 := by
  obtain ⟨T, hT, e1⟩ := endB hg hl hS hN hL hs hno
  obtain ⟨o1, o2, o3, o4, o5, o6, o7, o8⟩ := hS
  obtain ⟨f, t302, tk, t270⟩ := hT
  have n261 : T.1 261 = M.1 261 := f.1 261 (nc (by decide))
  have hne : neE s T = neE s M := by
    funext u
    unfold neE
    rw [n261]
  have neF : ∀ u, neE s M u = true → ¬ M.1 261 0 u = nI s := fun u h z => by
    unfold neE at h
    rw [decide_eq_true z] at h
    cases h
  have neT : ∀ u, ¬ M.1 261 0 u = nI s → neE s M u = true := fun u h => by
    unfold neE
    rw [decide_eq_false h]
    rfl
  have own : ∀ k u, k < 9 → u < l → M.1 254 0 k = nI u → M.1 260 0 u = nI k := fun k u hk hu e => by
    rcases hN.1 k hk with ⟨q1, -⟩ | ⟨v, t2, m, q1, q2, q3, -⟩
    · rw [q1] at e
      exact absurd e.symm (by rw [nI_m1 (by omega)]; exact id)
    · rw [q2] at e
      have ev : v = u := (nI_eq (by omega) (by omega)).mp e
      rw [ev] at q3
      exact q3
  have keep : ∀ k u, k < 9 → u < l → M.1 254 0 k = nI u → neE s M u = true → T.1 254 0 k = nI u ∧ T.1 255 0 k = M.1 255 0 k ∧ T.1 256 0 k = M.1 256 0 k := fun k u hk hu e hn => by
    have q := (tk k hk).2 (fun v hv ev => by
      rw [e] at ev
      have : u = v := (nI_eq (by omega) (by omega)).mp ev
      rw [← this]
      exact decide_eq_false (neF u hn))
    rw [q.1]
    exact ⟨e, q.2⟩
  have h1 : ∀ k u, k < 9 → u < l → T.1 254 0 k = nI u → neE s T u = true ∧ T.1 260 0 u = nI k := fun k u hk hu e => by
    rw [hne, f.1 260 (nc (by decide))]
    rcases hN.1 k hk with ⟨q1, -⟩ | ⟨v, t2, m, q1, q2, q3, -⟩
    · have q := (tk k hk).2 (fun v hv ev => by
        rw [q1] at ev
        exact absurd ev.symm (by rw [nI_m1 (by omega)]; exact id))
      rw [q.1, q1] at e
      exact absurd e.symm (by rw [nI_m1 (by omega)]; exact id)
    · by_cases hv : M.1 261 0 v = nI s
      · have q := (tk k hk).1 v q1 q2 (decide_eq_true hv)
        rw [q.1] at e
        exact absurd e.symm (by rw [nI_m1 (by omega)]; exact id)
      · have q := keep k v hk q1 q2 (neT v hv)
        rw [q.1] at e
        have ev : v = u := (nI_eq (by omega) (by omega)).mp e
        rw [← ev]
        exact ⟨neT v hv, q3⟩
  have h2 : ∀ k u, k < 9 → u < l → neE s T u = true → T.1 260 0 u = nI k → T.1 254 0 k = nI u := fun k u hk hu hn e => by
    rw [hne] at hn
    rw [f.1 260 (nc (by decide))] at e
    exact (keep k u hk hu (hN.2 u k hu hk e) hn).1
  obtain ⟨T', hC, e2⟩ := cmpL (s := s) (l := l) (M := T) hl (fun u hu => by
    obtain ⟨x, t', n', sd', c', p1, p2, p3, p4, p5, p6, p7, p8, p9, p10, p11, p12, -⟩ := hL.1 u hu
    rw [f.1 264 (nc (by decide)), n261, f.1 262 (nc (by decide)), f.1 260 (nc (by decide)), f.1 263 (nc (by decide))]
    exact ⟨x, t', n', sd', c', p5, p6, p7, p8, p9, p10, p11, p12⟩) h1 h2 (by rw [f.1 298 (nc (by decide))]; exact o2) (by rw [f.1 304 (nc (by decide))]; exact o8)
  rw [hne] at e2
  obtain ⟨fC, q1, q2, q3⟩ := hC
  rw [hne] at q1
  refine ⟨_, e1.trans e2, ?_⟩
  have w304 : ∀ y, ¬ y = 304 → (wrI T' 304 0 0 (nI (cnt (neE s M) l))).1 y = T'.1 y := fun y hy => wrI_ne hy
  refine ⟨((f.up (by decide)).tr (fC.up (by decide))).tr (by repeat (first | exact fq.rf | (refine fq.tr ?_ (fq.wr (by decide))) | (refine fq.tr ?_ (fq.bk (by decide))) | (refine fq.tr ?_ (fq.wl (by decide))) | (refine fq.tr ?_ (fq.wR (by decide))))), wrI_s, ?_, fun u hu hn => ⟨fun x x1 x2 => ?_, fun n hn3 e i hi => ?_⟩, fun k hk => ⟨fun e => ?_, fun u hu e => ⟨fun hn => ?_, fun hs2 => ?_⟩⟩, fun r hr => ?_⟩
  · rw [w304 302 (by decide), fC.1 302 (nc (by decide))]
    exact t302
  · rw [w304 x (by omega), (q1 u hu hn).1 x x1 x2]
    have : x = 260 ∨ x = 261 ∨ x = 262 ∨ x = 263 ∨ x = 264 := by omega
    rcases this with z | z | z | z | z
    · subst z; rw [f.1 260 (nc (by decide))]
    · subst z; rw [f.1 261 (nc (by decide))]
    · subst z; rw [f.1 262 (nc (by decide))]
    · subst z; rw [f.1 263 (nc (by decide))]
    · subst z; rw [f.1 264 (nc (by decide))]
  · rw [w304 265 (by decide), (q1 u hu hn).2 n hn3 (by rw [f.1 262 (nc (by decide))]; exact e) i hi, f.1 265 (nc (by decide))]
  · have q := (tk k hk).2 (fun v hv ev => by
      rw [e] at ev
      exact absurd ev.symm (by rw [nI_m1 (by omega)]; exact id))
    rw [w304 254 (by decide), w304 255 (by decide), w304 256 (by decide), fC.1 255 (nc (by decide)), fC.1 256 (nc (by decide))]
    exact ⟨(q3 k hk).1 (by rw [q.1]; exact e), q.2⟩
  · have q := keep k u hk hu e hn
    rw [w304 254 (by decide), w304 255 (by decide), w304 256 (by decide), fC.1 255 (nc (by decide)), fC.1 256 (nc (by decide))]
    have q' := (q3 k hk).2 u hu q.1
    rw [if_pos hu, hne] at q'
    exact ⟨q', q.2⟩
  · have q := (tk k hk).1 u hu e (decide_eq_true hs2)
    rw [w304 254 (by decide), w304 255 (by decide), w304 256 (by decide), fC.1 255 (nc (by decide)), fC.1 256 (nc (by decide))]
    exact ⟨(q3 k hk).1 q.1, q.2⟩
  · rw [w304 270 (by decide), fC.1 270 (nc (by decide))]
    obtain ⟨y1, y2⟩ := t270 r hr
    refine ⟨fun ⟨v, x, a1, a2, a3⟩ => y1 ⟨v, x, a1, decide_eq_true a2, a3⟩, fun h => y2 (fun ⟨v, x, a1, a2, a3⟩ => h ⟨v, x, a1, of_decide_eq_true a2, a3⟩)⟩
/-- the class: how many end, and whether the newest of them was clean -/
theorem clE {s g l e : Nat} {D M : Mm} (hs : s < 2 ^ 29) (hl : l ≤ 300) (hS : ISlo s g l D M) (hR : IRng s g l D M) (he : D.1 33 0 (s % 16) = nI e) (hel : e ≤ l) : (e = 0 → F_X5_closeEndings D = some (0, D)) ∧ (0 < e → 0 < g → ∃ cl, cl ≤ 1 ∧ (cl = 1 ↔ D.1 31 0 ((g + 39) % 40) = nI s ∧ D.1 32 0 ((g + 39) % 40) = nI 0) ∧ F_X5_closeEndings D = some (nI cl, wrI (wrI (wrI D 33 0 (s % 16) (nI 0)) 74 0 0 (nI (l - e))) 75 0 0 (D.1 75 0 0 + nI (e - cl)))) := by
  obtain ⟨o1, o2, o3, o4, o5, o6, o7, o8⟩ := hS
  have h16 : s % 16 < 16 := Nat.mod_lt _ (by decide)
  have h40 : (g + 39) % 40 < 40 := Nat.mod_lt _ (by decide)
  refine ⟨fun h0 => ?_, fun h0 hg0 => ?_⟩
  · unfold F_X5_closeEndings
    exact e_gf o1 (e_tp (w := nI (s % 16)) (and15 (by omega)) (e_ldA rfl h16 (by decide) (by decide) he (e_T (by rw [h0]; rfl) rfl)))
  · have h70 : ∀ S : Mm, S.1 75 0 0 = D.1 75 0 0 → L_X5_closeEndings_70 (nI e) S = some (nI 0, wrI S 75 0 0 (D.1 75 0 0 + nI (e - 0))) := by
      intro S h75
      unfold L_X5_closeEndings_70 L_X5_closeEndings_71 L_X5_closeEndings_88
      exact e_gf h75 (e_T rfl (e_pf rfl (e_gd (by decide) rfl)))
    have h71 : ∀ S : Mm, S.1 75 0 0 = D.1 75 0 0 → L_X5_closeEndings_71 (nI e) 1 S = some (nI 1, wrI S 75 0 0 (D.1 75 0 0 + nI (e - 1))) := by
      intro S h75
      unfold L_X5_closeEndings_71 L_X5_closeEndings_88
      exact e_gf h75 (e_N (by decide) (e_pf (w := D.1 75 0 0 + nI (e - 1)) (by rw [show (1 : Int32) = nI 1 from rfl, pk_sub (by omega)]) (e_gd (by decide) rfl)))
    have pre : ∀ X, (gf (wrI (wrI D 33 0 (s % 16) (nI 0)) 74 0 0 (nI (l - e))) 71 0 fun x7 => ldA (wrI (wrI D 33 0 (s % 16) (nI 0)) 74 0 0 (nI (l - e))) 31 0 40 1 x7 fun x8 => gf (wrI (wrI D 33 0 (s % 16) (nI 0)) 74 0 0 (nI (l - e))) 76 0 fun x9 => if x8 = x9 then (gf (wrI (wrI D 33 0 (s % 16) (nI 0)) 74 0 0 (nI (l - e))) 71 0 fun x10 => ldA (wrI (wrI D 33 0 (s % 16) (nI 0)) 74 0 0 (nI (l - e))) 32 0 40 1 x10 fun x11 => if x11 = 0 then (L_X5_closeEndings_71 (nI e) 1 (wrI (wrI D 33 0 (s % 16) (nI 0)) 74 0 0 (nI (l - e)))) else (L_X5_closeEndings_70 (nI e) (wrI (wrI D 33 0 (s % 16) (nI 0)) 74 0 0 (nI (l - e))))) else (L_X5_closeEndings_70 (nI e) (wrI (wrI D 33 0 (s % 16) (nI 0)) 74 0 0 (nI (l - e))))) = X → F_X5_closeEndings D = X := by
      intro X hX
      unfold F_X5_closeEndings
      exact e_gf o1 (e_tp (w := nI (s % 16)) (and15 (by omega)) (e_ldA rfl h16 (by decide) (by decide) he (e_N (nI_ne0 h0 (by omega)) (e_stA rfl h16 (by decide) (by decide) (w := nI 0) rfl (e_gf (v := nI l) (by first | (simp (disch := first | omega | assumption) only [o7, wrI_s, wrI_o, wrI_r, wrL_1, wrL_r, wrL_s, wrL_o, blk_in, blk_out, blk_r, lit, litL, b00, b11, nI_l, lN_add, lN_mul, lN_sub, nI_add, pk_mul, pk_sub, pk_div, remN, Nat.add_sub_cancel, Nat.add_sub_cancel_left, Nat.zero_add, Nat.add_zero]; done) | (simp (disch := first | omega | assumption) only [o7, wrI_s, wrI_o, wrI_r, wrL_1, wrL_r, wrL_s, wrL_o, blk_in, blk_out, blk_r, lit, litL, b00, b11, nI_l, lN_add, lN_mul, lN_sub, nI_add, pk_mul, pk_sub, pk_div, remN, Nat.add_sub_cancel, Nat.add_sub_cancel_left, Nat.zero_add, Nat.add_zero]; rfl) | rfl) (e_pf (w := nI (l - e)) (pk_sub hel) hX))))))
    have i75 : (wrI (wrI D 33 0 (s % 16) (nI 0)) 74 0 0 (nI (l - e))).1 75 0 0 = D.1 75 0 0 := (by first | (simp (disch := first | omega | assumption) only [wrI_s, wrI_o, wrI_r, wrL_1, wrL_r, wrL_s, wrL_o, blk_in, blk_out, blk_r, lit, litL, b00, b11, nI_l, lN_add, lN_mul, lN_sub, nI_add, pk_mul, pk_sub, pk_div, remN, Nat.add_sub_cancel, Nat.add_sub_cancel_left, Nat.zero_add, Nat.add_zero]; done) | (simp (disch := first | omega | assumption) only [wrI_s, wrI_o, wrI_r, wrL_1, wrL_r, wrL_s, wrL_o, blk_in, blk_out, blk_r, lit, litL, b00, b11, nI_l, lN_add, lN_mul, lN_sub, nI_add, pk_mul, pk_sub, pk_div, remN, Nat.add_sub_cancel, Nat.add_sub_cancel_left, Nat.zero_add, Nat.add_zero]; rfl) | rfl)
    by_cases c1 : D.1 31 0 ((g + 39) % 40) = nI s
    · by_cases c2 : D.1 32 0 ((g + 39) % 40) = nI 0
      · exact ⟨1, by decide, ⟨fun _ => ⟨c1, c2⟩, fun _ => rfl⟩, pre _ (e_gf (v := nI ((g + 39) % 40)) (by first | (simp (disch := first | omega | assumption) only [o5, wrI_s, wrI_o, wrI_r, wrL_1, wrL_r, wrL_s, wrL_o, blk_in, blk_out, blk_r, lit, litL, b00, b11, nI_l, lN_add, lN_mul, lN_sub, nI_add, pk_mul, pk_sub, pk_div, remN, Nat.add_sub_cancel, Nat.add_sub_cancel_left, Nat.zero_add, Nat.add_zero]; done) | (simp (disch := first | omega | assumption) only [o5, wrI_s, wrI_o, wrI_r, wrL_1, wrL_r, wrL_s, wrL_o, blk_in, blk_out, blk_r, lit, litL, b00, b11, nI_l, lN_add, lN_mul, lN_sub, nI_add, pk_mul, pk_sub, pk_div, remN, Nat.add_sub_cancel, Nat.add_sub_cancel_left, Nat.zero_add, Nat.add_zero]; rfl) | rfl) (e_ldA (v := nI s) rfl h40 (by decide) (by decide) (by first | (simp (disch := first | omega | assumption) only [c1, wrI_s, wrI_o, wrI_r, wrL_1, wrL_r, wrL_s, wrL_o, blk_in, blk_out, blk_r, lit, litL, b00, b11, nI_l, lN_add, lN_mul, lN_sub, nI_add, pk_mul, pk_sub, pk_div, remN, Nat.add_sub_cancel, Nat.add_sub_cancel_left, Nat.zero_add, Nat.add_zero]; done) | (simp (disch := first | omega | assumption) only [c1, wrI_s, wrI_o, wrI_r, wrL_1, wrL_r, wrL_s, wrL_o, blk_in, blk_out, blk_r, lit, litL, b00, b11, nI_l, lN_add, lN_mul, lN_sub, nI_add, pk_mul, pk_sub, pk_div, remN, Nat.add_sub_cancel, Nat.add_sub_cancel_left, Nat.zero_add, Nat.add_zero]; rfl) | rfl) (e_gf (v := nI s) (by first | (simp (disch := first | omega | assumption) only [o1, wrI_s, wrI_o, wrI_r, wrL_1, wrL_r, wrL_s, wrL_o, blk_in, blk_out, blk_r, lit, litL, b00, b11, nI_l, lN_add, lN_mul, lN_sub, nI_add, pk_mul, pk_sub, pk_div, remN, Nat.add_sub_cancel, Nat.add_sub_cancel_left, Nat.zero_add, Nat.add_zero]; done) | (simp (disch := first | omega | assumption) only [o1, wrI_s, wrI_o, wrI_r, wrL_1, wrL_r, wrL_s, wrL_o, blk_in, blk_out, blk_r, lit, litL, b00, b11, nI_l, lN_add, lN_mul, lN_sub, nI_add, pk_mul, pk_sub, pk_div, remN, Nat.add_sub_cancel, Nat.add_sub_cancel_left, Nat.zero_add, Nat.add_zero]; rfl) | rfl) (e_T rfl (e_gf (v := nI ((g + 39) % 40)) (by first | (simp (disch := first | omega | assumption) only [o5, wrI_s, wrI_o, wrI_r, wrL_1, wrL_r, wrL_s, wrL_o, blk_in, blk_out, blk_r, lit, litL, b00, b11, nI_l, lN_add, lN_mul, lN_sub, nI_add, pk_mul, pk_sub, pk_div, remN, Nat.add_sub_cancel, Nat.add_sub_cancel_left, Nat.zero_add, Nat.add_zero]; done) | (simp (disch := first | omega | assumption) only [o5, wrI_s, wrI_o, wrI_r, wrL_1, wrL_r, wrL_s, wrL_o, blk_in, blk_out, blk_r, lit, litL, b00, b11, nI_l, lN_add, lN_mul, lN_sub, nI_add, pk_mul, pk_sub, pk_div, remN, Nat.add_sub_cancel, Nat.add_sub_cancel_left, Nat.zero_add, Nat.add_zero]; rfl) | rfl) (e_ldA (v := nI 0) rfl h40 (by decide) (by decide) (by first | (simp (disch := first | omega | assumption) only [c2, wrI_s, wrI_o, wrI_r, wrL_1, wrL_r, wrL_s, wrL_o, blk_in, blk_out, blk_r, lit, litL, b00, b11, nI_l, lN_add, lN_mul, lN_sub, nI_add, pk_mul, pk_sub, pk_div, remN, Nat.add_sub_cancel, Nat.add_sub_cancel_left, Nat.zero_add, Nat.add_zero]; done) | (simp (disch := first | omega | assumption) only [c2, wrI_s, wrI_o, wrI_r, wrL_1, wrL_r, wrL_s, wrL_o, blk_in, blk_out, blk_r, lit, litL, b00, b11, nI_l, lN_add, lN_mul, lN_sub, nI_add, pk_mul, pk_sub, pk_div, remN, Nat.add_sub_cancel, Nat.add_sub_cancel_left, Nat.zero_add, Nat.add_zero]; rfl) | rfl) (e_T rfl (h71 _ i75))))))))⟩
      · exact ⟨0, by decide, ⟨fun z => absurd z (by decide), fun z => absurd z.2 c2⟩, pre _ (e_gf (v := nI ((g + 39) % 40)) (by first | (simp (disch := first | omega | assumption) only [o5, wrI_s, wrI_o, wrI_r, wrL_1, wrL_r, wrL_s, wrL_o, blk_in, blk_out, blk_r, lit, litL, b00, b11, nI_l, lN_add, lN_mul, lN_sub, nI_add, pk_mul, pk_sub, pk_div, remN, Nat.add_sub_cancel, Nat.add_sub_cancel_left, Nat.zero_add, Nat.add_zero]; done) | (simp (disch := first | omega | assumption) only [o5, wrI_s, wrI_o, wrI_r, wrL_1, wrL_r, wrL_s, wrL_o, blk_in, blk_out, blk_r, lit, litL, b00, b11, nI_l, lN_add, lN_mul, lN_sub, nI_add, pk_mul, pk_sub, pk_div, remN, Nat.add_sub_cancel, Nat.add_sub_cancel_left, Nat.zero_add, Nat.add_zero]; rfl) | rfl) (e_ldA (v := nI s) rfl h40 (by decide) (by decide) (by first | (simp (disch := first | omega | assumption) only [c1, wrI_s, wrI_o, wrI_r, wrL_1, wrL_r, wrL_s, wrL_o, blk_in, blk_out, blk_r, lit, litL, b00, b11, nI_l, lN_add, lN_mul, lN_sub, nI_add, pk_mul, pk_sub, pk_div, remN, Nat.add_sub_cancel, Nat.add_sub_cancel_left, Nat.zero_add, Nat.add_zero]; done) | (simp (disch := first | omega | assumption) only [c1, wrI_s, wrI_o, wrI_r, wrL_1, wrL_r, wrL_s, wrL_o, blk_in, blk_out, blk_r, lit, litL, b00, b11, nI_l, lN_add, lN_mul, lN_sub, nI_add, pk_mul, pk_sub, pk_div, remN, Nat.add_sub_cancel, Nat.add_sub_cancel_left, Nat.zero_add, Nat.add_zero]; rfl) | rfl) (e_gf (v := nI s) (by first | (simp (disch := first | omega | assumption) only [o1, wrI_s, wrI_o, wrI_r, wrL_1, wrL_r, wrL_s, wrL_o, blk_in, blk_out, blk_r, lit, litL, b00, b11, nI_l, lN_add, lN_mul, lN_sub, nI_add, pk_mul, pk_sub, pk_div, remN, Nat.add_sub_cancel, Nat.add_sub_cancel_left, Nat.zero_add, Nat.add_zero]; done) | (simp (disch := first | omega | assumption) only [o1, wrI_s, wrI_o, wrI_r, wrL_1, wrL_r, wrL_s, wrL_o, blk_in, blk_out, blk_r, lit, litL, b00, b11, nI_l, lN_add, lN_mul, lN_sub, nI_add, pk_mul, pk_sub, pk_div, remN, Nat.add_sub_cancel, Nat.add_sub_cancel_left, Nat.zero_add, Nat.add_zero]; rfl) | rfl) (e_T rfl (e_gf (v := nI ((g + 39) % 40)) (by first | (simp (disch := first | omega | assumption) only [o5, wrI_s, wrI_o, wrI_r, wrL_1, wrL_r, wrL_s, wrL_o, blk_in, blk_out, blk_r, lit, litL, b00, b11, nI_l, lN_add, lN_mul, lN_sub, nI_add, pk_mul, pk_sub, pk_div, remN, Nat.add_sub_cancel, Nat.add_sub_cancel_left, Nat.zero_add, Nat.add_zero]; done) | (simp (disch := first | omega | assumption) only [o5, wrI_s, wrI_o, wrI_r, wrL_1, wrL_r, wrL_s, wrL_o, blk_in, blk_out, blk_r, lit, litL, b00, b11, nI_l, lN_add, lN_mul, lN_sub, nI_add, pk_mul, pk_sub, pk_div, remN, Nat.add_sub_cancel, Nat.add_sub_cancel_left, Nat.zero_add, Nat.add_zero]; rfl) | rfl) (e_ldA (v := D.1 32 0 ((g + 39) % 40)) rfl h40 (by decide) (by decide) (by first | (simp (disch := first | omega | assumption) only [wrI_s, wrI_o, wrI_r, wrL_1, wrL_r, wrL_s, wrL_o, blk_in, blk_out, blk_r, lit, litL, b00, b11, nI_l, lN_add, lN_mul, lN_sub, nI_add, pk_mul, pk_sub, pk_div, remN, Nat.add_sub_cancel, Nat.add_sub_cancel_left, Nat.zero_add, Nat.add_zero]; done) | (simp (disch := first | omega | assumption) only [wrI_s, wrI_o, wrI_r, wrL_1, wrL_r, wrL_s, wrL_o, blk_in, blk_out, blk_r, lit, litL, b00, b11, nI_l, lN_add, lN_mul, lN_sub, nI_add, pk_mul, pk_sub, pk_div, remN, Nat.add_sub_cancel, Nat.add_sub_cancel_left, Nat.zero_add, Nat.add_zero]; rfl) | rfl) (e_N c2 (h70 _ i75))))))))⟩
    · exact ⟨0, by decide, ⟨fun z => absurd z (by decide), fun z => absurd z.1 c1⟩, pre _ (e_gf (v := nI ((g + 39) % 40)) (by first | (simp (disch := first | omega | assumption) only [o5, wrI_s, wrI_o, wrI_r, wrL_1, wrL_r, wrL_s, wrL_o, blk_in, blk_out, blk_r, lit, litL, b00, b11, nI_l, lN_add, lN_mul, lN_sub, nI_add, pk_mul, pk_sub, pk_div, remN, Nat.add_sub_cancel, Nat.add_sub_cancel_left, Nat.zero_add, Nat.add_zero]; done) | (simp (disch := first | omega | assumption) only [o5, wrI_s, wrI_o, wrI_r, wrL_1, wrL_r, wrL_s, wrL_o, blk_in, blk_out, blk_r, lit, litL, b00, b11, nI_l, lN_add, lN_mul, lN_sub, nI_add, pk_mul, pk_sub, pk_div, remN, Nat.add_sub_cancel, Nat.add_sub_cancel_left, Nat.zero_add, Nat.add_zero]; rfl) | rfl) (e_ldA (v := D.1 31 0 ((g + 39) % 40)) rfl h40 (by decide) (by decide) (by first | (simp (disch := first | omega | assumption) only [wrI_s, wrI_o, wrI_r, wrL_1, wrL_r, wrL_s, wrL_o, blk_in, blk_out, blk_r, lit, litL, b00, b11, nI_l, lN_add, lN_mul, lN_sub, nI_add, pk_mul, pk_sub, pk_div, remN, Nat.add_sub_cancel, Nat.add_sub_cancel_left, Nat.zero_add, Nat.add_zero]; done) | (simp (disch := first | omega | assumption) only [wrI_s, wrI_o, wrI_r, wrL_1, wrL_r, wrL_s, wrL_o, blk_in, blk_out, blk_r, lit, litL, b00, b11, nI_l, lN_add, lN_mul, lN_sub, nI_add, pk_mul, pk_sub, pk_div, remN, Nat.add_sub_cancel, Nat.add_sub_cancel_left, Nat.zero_add, Nat.add_zero]; rfl) | rfl) (e_gf (v := nI s) (by first | (simp (disch := first | omega | assumption) only [o1, wrI_s, wrI_o, wrI_r, wrL_1, wrL_r, wrL_s, wrL_o, blk_in, blk_out, blk_r, lit, litL, b00, b11, nI_l, lN_add, lN_mul, lN_sub, nI_add, pk_mul, pk_sub, pk_div, remN, Nat.add_sub_cancel, Nat.add_sub_cancel_left, Nat.zero_add, Nat.add_zero]; done) | (simp (disch := first | omega | assumption) only [o1, wrI_s, wrI_o, wrI_r, wrL_1, wrL_r, wrL_s, wrL_o, blk_in, blk_out, blk_r, lit, litL, b00, b11, nI_l, lN_add, lN_mul, lN_sub, nI_add, pk_mul, pk_sub, pk_div, remN, Nat.add_sub_cancel, Nat.add_sub_cancel_left, Nat.zero_add, Nat.add_zero]; rfl) | rfl) (e_N c1 (h70 _ i75)))))⟩
