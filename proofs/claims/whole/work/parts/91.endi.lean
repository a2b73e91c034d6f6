/-! FRAMES END, where none that ends is clean: what holds behind it -/
theorem cnt_and {p ne : Nat → Bool} : ∀ l, cnt (fun u => p u && ne u) l ≤ cnt p l := by
  intro l
  induction l with
  | zero => exact Nat.le_refl 0
  | succ l ih =>
    show cnt (fun u => p u && ne u) l + (if (p l && ne l) = true then 1 else 0) ≤ cnt p l + (if p l = true then 1 else 0)
    cases p l <;> cases ne l <;> simp <;> omega
def CN (s l : Nat) (C M C2 : Mm) : Prop := fq enCl C C2 ∧ (∀ j, j < 9 → C2.1 98 j 0 = if C.1 96 j 0 = nI s ∧ C.1 97 j 0 = nI 0 then nI s else C.1 98 j 0) ∧ C2.1 33 0 (s % 16) = nI 0 ∧ (∀ i, i < 16 → ¬ i = s % 16 → C2.1 33 0 i = C.1 33 0 i) ∧ C2.1 74 0 0 = nI (cnt (neE s M) l) ∧ C2.1 75 0 0 = C.1 75 0 0 + nI (cnt (fun v => decide (M.1 261 0 v = nI s)) l)
theorem endI {c s d p t g l : Nat} {C M C2 M2 : Mm} (hS : SS c s d s s p t g l C M) (hA : IAlo g l C M) (hs : s < 2 ^ 28) (hg : g < 2 ^ 29) (hl : l ≤ 300) (hno : ∀ v, v < l → M.1 261 0 v = nI s → M.1 263 0 v = nI 0) (hC : CN s l C M C2) (hM : EN s g l M M2) : SS c s d s (s + 1) p t g (cnt (neE s M) l) C2 M2 ∧ IAlo g (cnt (neE s M) l) C2 M2 := by
  obtain ⟨fC, c98, c33, c33', c74, c75⟩ := hC
  obtain ⟨gM, m304, m302, mrow, m254, m270⟩ := hM
  obtain ⟨hITape, hIDraw, hINois, hIPar, hISub, hIKey, hIRef, hISta, hILnk, hIBeg, hIQue, hIHnd, hICon, hIDue, hIWai, hISnd, hISlo, hISto, hIRng, hILiv, hIEnd, hIPut, hILat, hIInb, hICnt, hIAlq⟩ := hS
  have neF : ∀ u, neE s M u = true → ¬ M.1 261 0 u = nI s := fun u h z => by
    unfold neE at h
    rw [decide_eq_true z] at h
    cases h
  have neT : ∀ u, ¬ M.1 261 0 u = nI s → neE s M u = true := fun u h => by
    unfold neE
    rw [decide_eq_false h]
    rfl
  have hl' : cnt (neE s M) l ≤ l := cnt_le
  have back : ∀ w, w < cnt (neE s M) l → ∃ u, u < l ∧ neE s M u = true ∧ cnt (neE s M) u = w := fun w hw => cnt_inv l w hw
  have inl : ∀ u, u < l → neE s M u = true → cnt (neE s M) u < cnt (neE s M) l := fun u hu hn => cnt_lt hu hn
  have pos : ∀ j, pos12 C j → pos12 C2 j := fun j ⟨u, a1, a2, a3⟩ => ⟨u, a1, a2, by rw [fC.1 103 (nc (by decide))]; exact a3⟩
  have len : ∀ j, len1 C j → len1 C2 j := fun j ⟨u, a1, a2, a3⟩ => ⟨u, a1, a2, by rw [fC.1 100 (nc (by decide))]; exact a3⟩
  have alo : IAlo g (cnt (neE s M) l) C2 M2 := fun w hw h1 => by
    obtain ⟨u, u1, u2, u3⟩ := back w hw
    obtain ⟨r1, -⟩ := mrow u u1 u2
    rw [← u3, r1 263 (by omega) (by omega)] at h1
    obtain ⟨a1, a2⟩ := hA u u1 h1
    refine ⟨by omega, ?_⟩
    rw [← u3, r1 264 (by omega) (by omega)]
    exact a2
  have key : ∀ C' M', fq enCl C C' → fq enMl M M' → IDue d C' M' → IWai s C' M' → ISnd (s + 1) (cnt (neE s M) l) C' M' → ISlo s g (cnt (neE s M) l) C' M' → ISto C' M' → IRng (s + 1) g (cnt (neE s M) l) C' M' → ILiv (s + 1) g (cnt (neE s M) l) C' M' → IEnd (s + 1) (cnt (neE s M) l) C' M' → ICnt c (cnt (neE s M) l) C' M' → IAlq g (cnt (neE s M) l) C' M' → SS c s d s (s + 1) p t g (cnt (neE s M) l) C' M' := fun C' M' fC gM tIDue tIWai tISnd tISlo tISto tIRng tILiv tIEnd tICnt tIAlq => ⟨hITape.fr fC gM (by decide) (by decide), hIDraw.fr fC gM (by decide) (by decide), hINois.fr fC gM (by decide) (by decide), hIPar.fr fC gM (by decide) (by decide), hISub.fr fC gM (by decide) (by decide), hIKey.fr fC gM (by decide) (by decide), hIRef.fr fC gM (by decide) (by decide), hISta.fr fC gM (by decide) (by decide), hILnk.fr fC gM (by decide) (by decide), hIBeg.fr fC gM (by decide) (by decide), hIQue.fr fC gM (by decide) (by decide), hIHnd.fr fC gM (by decide) (by decide), hICon.fr fC gM (by decide) (by decide), tIDue, tIWai, tISnd, tISlo, tISto, tIRng, tILiv, tIEnd, hIPut.fr fC gM (by decide) (by decide), hILat.fr fC gM (by decide) (by decide), hIInb.fr fC gM (by decide) (by decide), tICnt, tIAlq⟩
  refine ⟨key _ _ fC gM ?_ ?_ ?_ ?_ ?_ ?_ ?_ ?_ ?_ (fun v hv _ h1 => (alo v hv h1).2), alo⟩
  · intro k hk
    obtain ⟨d1, d2⟩ := hIDue k hk
    rw [fC.1 39 (nc (by decide)), gM.2.1 259 (nc (by decide)), fC.1 94 (nc (by decide)), fC.1 95 (nc (by decide)), fC.1 103 (nc (by decide)), gM.1 257 (nc (by decide)), gM.1 258 (nc (by decide))]
    refine ⟨d1, ?_⟩
    rcases d2 with d2 | ⟨dd, y1, y2, y3, y4, y5, y6⟩
    · exact Or.inl d2
    · obtain ⟨z1, z2, z3⟩ := (m254 k hk).1 y5
      refine Or.inr ⟨dd, y1, y2, y3, y4, z1, ?_⟩
      rw [z2]
      exact y6
  · intro k hk
    have same : C2.1 98 k 0 = C.1 98 k 0 → M2.1 255 0 k = M.1 255 0 k → M2.1 256 0 k = M.1 256 0 k → (C2.1 98 k 0 = -nI 1 ∧ M2.1 255 0 k = nI 0) ∨ (∃ w n u, w ≤ s ∧ s ≤ w + 4 ∧ C2.1 98 k 0 = nI w ∧ M2.1 256 0 k = nI w ∧ M2.1 255 0 k = nI 1 ∧ 0 < u ∧ u ≤ 12 ∧ C2.1 103 k 0 = nI u ∧ 0 < n ∧ n ≤ 300 ∧ C2.1 100 k 0 = nI n) := by
      intro x1 x2 x3
      rw [x1, x2, x3, fC.1 103 (nc (by decide)), fC.1 100 (nc (by decide))]
      exact hIWai k hk
    have no98 : ¬ (C.1 96 k 0 = nI s ∧ C.1 97 k 0 = nI 0) → C2.1 98 k 0 = C.1 98 k 0 := fun z => by
      rw [c98 k hk, if_neg z]
    rcases hISnd.1 k hk with ⟨q1, q2⟩ | ⟨v, t', m, q1, q2, q3, q4, q5, q6, q7, q8, q9⟩
    · obtain ⟨z1, z2, z3⟩ := (m254 k hk).1 q1
      refine same (no98 (fun z => ?_)) z2 z3
      rcases q2 with q2 | ⟨x, x1, x2⟩
      · rw [q2] at z
        exact absurd z.1.symm (by rw [nI_m1 (by omega)]; exact id)
      · rw [x2] at z
        have := (nI_eq (by omega) (by omega)).mp z.1
        omega
    · obtain ⟨x, t2, n', sd', c', p1, p2, p3, p4, p5, p6, p7, p8, p9, p10, p11, p12, p13, p14⟩ := hILiv.1 v q1
      have et : nI t' = nI t2 := q4.symm.trans p9
      by_cases hts : t2 = s
      · rw [hts] at p9 et
        obtain ⟨z1, z2, z3⟩ := ((m254 k hk).2 v q1 q2).2 p9
        rcases q9 with ⟨y1, y2, y3⟩ | ⟨y1, y2, y3, u, n, a1, a2, a3, b1, b2, b3⟩
        · obtain ⟨x1, x2⟩ := z2 y2
          refine same (no98 (fun z => ?_)) x1 x2
          rw [y1] at z
          exact absurd z.2 (by decide)
        · obtain ⟨x1, x2⟩ := z3 y2
          refine Or.inr ⟨s, n, u, Nat.le_refl s, by omega, ?_, x2, x1, a1, a2, by rw [fC.1 103 (nc (by decide))]; exact a3, b1, b2, by rw [fC.1 100 (nc (by decide))]; exact b3⟩
          rw [c98 k hk, if_pos ⟨by rw [q6, et], y1⟩]
      · obtain ⟨z1, z2, z3⟩ := ((m254 k hk).2 v q1 q2).1 (neT v (by rw [p9, nI_eq (by omega) (by omega)]; exact hts))
        refine same (no98 (fun z => ?_)) z2 z3
        rw [q6, et] at z
        exact hts ((nI_eq (by omega) (by omega)).mp z.1)
  · refine ⟨fun k hk => ?_, fun w k hw hk e => ?_⟩
    · rw [fC.1 96 (nc (by decide)), fC.1 97 (nc (by decide))]
      rcases hISnd.1 k hk with ⟨q1, q2⟩ | ⟨v, t', m, q1, q2, q3, q4, q5, q6, q7, q8, q9⟩
      · obtain ⟨z1, z2, z3⟩ := (m254 k hk).1 q1
        refine Or.inl ⟨z1, ?_⟩
        rcases q2 with q2 | ⟨x, x1, x2⟩
        · exact Or.inl q2
        · exact Or.inr ⟨x, by omega, x2⟩
      · obtain ⟨x, t2, n', sd', c', p1, p2, p3, p4, p5, p6, p7, p8, p9, p10, p11, p12, p13, p14⟩ := hILiv.1 v q1
        have et : nI t' = nI t2 := q4.symm.trans p9
        by_cases hts : t2 = s
        · rw [hts] at p9 et
          obtain ⟨z1, z2, z3⟩ := ((m254 k hk).2 v q1 q2).2 p9
          exact Or.inl ⟨z1, Or.inr ⟨s, by omega, by rw [q6, et]⟩⟩
        · have hn := neT v (by rw [p9, nI_eq (by omega) (by omega)]; exact hts)
          obtain ⟨z1, z2, z3⟩ := ((m254 k hk).2 v q1 q2).1 hn
          obtain ⟨r1, r2⟩ := mrow v q1 hn
          have b0 := r2 n' p5 p10 0 (by omega)
          rw [Nat.add_zero, Nat.add_zero] at b0
          refine Or.inr ⟨cnt (neE s M) v, t2, m, inl v q1 hn, z1, by rw [r1 260 (by omega) (by omega)]; exact q3, by rw [r1 261 (by omega) (by omega)]; exact p9, by omega, by rw [q6, et], by rw [r1 262 (by omega) (by omega)]; exact q7, q8, ?_⟩
          rw [b0, z2, fC.1 103 (nc (by decide)), fC.1 100 (nc (by decide))]
          exact q9
    · obtain ⟨u, u1, u2, u3⟩ := back w hw
      obtain ⟨r1, -⟩ := mrow u u1 u2
      rw [← u3, r1 260 (by omega) (by omega)] at e
      have q := hISnd.2 u k u1 hk e
      rw [(((m254 k hk).2 u u1 q).1 u2).1, u3]
  · obtain ⟨o1, o2, o3, o4, o5, o6, o7, o8⟩ := hISlo
    exact ⟨by rw [fC.1 76 (nc (by decide))]; exact o1, by rw [gM.1 298 (nc (by decide))]; exact o2, by rw [fC.1 73 (nc (by decide))]; exact o3, by rw [gM.1 301 (nc (by decide))]; exact o4, by rw [fC.1 71 (nc (by decide))]; exact o5, by rw [fC.1 72 (nc (by decide))]; exact o6, c74, m304⟩
  · refine ⟨by rw [fC.1 77 (nc (by decide)), gM.1 300 (nc (by decide))]; exact hISto.1, ?_⟩
    rw [c75, m302, hISto.2]
  · intro r hr hrg
    obtain ⟨n', sd', t', p1, p2, p3, p4, p5, p6, p7, p8, p9, p10, p11, p12, p13⟩ := hIRng r hr hrg
    rw [fC.1 28 (nc (by decide)), fC.1 29 (nc (by decide)), fC.1 30 (nc (by decide)), fC.1 31 (nc (by decide)), fC.1 27 (nc (by decide)), fC.1 32 (nc (by decide)), gM.1 268 (nc (by decide)), gM.1 266 (nc (by decide)), gM.1 267 (nc (by decide)), gM.1 269 (nc (by decide)), gM.1 271 (nc (by decide))]
    refine ⟨n', sd', t', p1, p2, p3, p4, p5, p6, p7, p8, p9, p10, p11, p12, ?_⟩
    have lone : t' < s → M2.1 270 0 r = M.1 270 0 r := fun hlt => by
      refine (m270 r hr).2 (fun ⟨v, x, a1, a2, a3, a4, a5, a6⟩ => ?_)
      obtain ⟨x2, t2, n2, sd2, c2, y1, y2, y3, y4, y5, y6, y7, y8, y9, y10, y11, y12, y13, y14⟩ := hILiv.1 v a1
      have ex : x = x2 := (nI_eq (by omega) (by omega)).mp (a4.symm.trans y8)
      obtain ⟨w1, -⟩ := y14 (by omega)
      rw [← ex, a6, p11] at w1
      have e1 : t' = t2 := (nI_eq (by omega) (by omega)).mp w1
      omega
    rcases p13 with ⟨y1, y2, v, y3, y4⟩ | ⟨y1, y2, y3⟩ | ⟨y1, y2, y3⟩
    · obtain ⟨x2, t2, n2, sd2, c2, z1, z2, z3, z4, z5, z6, z7, z8, z9, z10, z11, z12, z13, z14⟩ := hILiv.1 v y3
      have enr : nr g r < g ∧ g ≤ nr g r + 40 ∧ nr g r % 40 = r := by unfold nr; omega
      have ex : nr g r = x2 := (nI_eq (by omega) (by omega)).mp (y4.symm.trans z8)
      obtain ⟨w1, w2, -⟩ := z14 (by omega)
      rw [← ex, enr.2.2] at w1 w2
      have e1 : t' = t2 := (nI_eq (by omega) (by omega)).mp (p11.symm.trans w1)
      by_cases hts : t2 = s
      · rw [hts] at z9
        refine Or.inr (Or.inr ⟨(m270 r hr).1 ⟨v, nr g r, y3, z9, enr.1, y4, enr.2.1, enr.2.2⟩, by omega, ?_⟩)
        have h0 := hno v y3 z9
        have ec : c2 = 0 := (nI_eq (by omega) (by omega)).mp (z12.symm.trans h0)
        rw [w2, ec]
      · have hn := neT v (by rw [z9, nI_eq (by omega) (by omega)]; exact hts)
        refine Or.inl ⟨?_, by omega, cnt (neE s M) v, inl v y3 hn, ?_⟩
        · rw [(m270 r hr).2 (fun ⟨v', x, a1, a2, a3, a4, a5, a6⟩ => ?_)]
          · exact y1
          · have exx : x = nr g r := by
              have hx : x < g := a3
              have : nr g r % 40 = x % 40 := by rw [enr.2.2, a6]
              omega
            have : v' = v := hILiv.2 v' v a1 y3 (by rw [a4, y4, exx])
            rw [this, z9] at a2
            exact hts ((nI_eq (by omega) (by omega)).mp a2)
        · rw [(mrow v y3 hn).1 264 (by omega) (by omega)]
          exact y4
    · exact Or.inr (Or.inl ⟨by rw [lone y2]; exact y1, by omega, y3⟩)
    · exact Or.inr (Or.inr ⟨by rw [lone y2]; exact y1, by omega, y3⟩)
  · refine ⟨fun w hw => ?_, fun w w' hw hw' e => ?_⟩
    · obtain ⟨u, u1, u2, u3⟩ := back w hw
      obtain ⟨r1, r2⟩ := mrow u u1 u2
      obtain ⟨x, t2, n', sd', c', p1, p2, p3, p4, p5, p6, p7, p8, p9, p10, p11, p12, p13, p14⟩ := hILiv.1 u u1
      have hts : ¬ t2 = s := fun z => neF u u2 (by rw [p9, z])
      rw [← u3, r1 264 (by omega) (by omega), r1 261 (by omega) (by omega), r1 262 (by omega) (by omega), r1 260 (by omega) (by omega), r1 263 (by omega) (by omega), fC.1 31 (nc (by decide)), fC.1 32 (nc (by decide)), gM.1 268 (nc (by decide)), gM.1 266 (nc (by decide)), gM.1 271 (nc (by decide))]
      refine ⟨x, t2, n', sd', c', p1, by omega, by omega, p4, p5, p6, p7, p8, p9, p10, p11, p12, fun j hj => ?_, fun h40 => ?_⟩
      · rw [r2 n' p5 p10 j hj]
        exact p13 j hj
      · obtain ⟨y1, y2, y3, y4, y5⟩ := p14 h40
        exact ⟨y1, y2, y3, y4, fun j hj => by rw [r2 n' p5 p10 j hj]; exact y5 j hj⟩
    · obtain ⟨u, u1, u2, u3⟩ := back w hw
      obtain ⟨u', v1, v2, v3⟩ := back w' hw'
      rw [← u3, ← v3, (mrow u u1 u2).1 264 (by omega) (by omega), (mrow u' v1 v2).1 264 (by omega) (by omega)] at e
      rw [← u3, ← v3, hILiv.2 u u' u1 v1 e]
  · intro t' ht'
    have tlt : ∀ u, u < l → ∃ tt, M.1 261 0 u = nI tt ∧ s ≤ tt ∧ tt < s + 12 := fun u hu => by
      obtain ⟨x, t2, n', sd', c', p1, p2, p3, p4, p5, p6, p7, p8, p9, -⟩ := hILiv.1 u hu
      exact ⟨t2, p9, p2, p3⟩
    rw [cnt_sel (p := fun v => decide (M.1 261 0 v = nI (s + 1 + t'))) (p' := fun v => decide (M2.1 261 0 v = nI (s + 1 + t'))) l (fun u hu hn => by
      rw [(mrow u hu hn).1 261 (by omega) (by omega)])]
    rw [cnt_congr (q := fun v => decide (M.1 261 0 v = nI (s + 1 + t'))) (fun v hv => by
      by_cases hh : M.1 261 0 v = nI (s + 1 + t')
      · have : neE s M v = true := neT v (by rw [hh, nI_eq (by omega) (by omega)]; omega)
        rw [this, Bool.and_true]
      · rw [decide_eq_false hh, Bool.false_and])]
    by_cases h15 : t' = 15
    · rw [show (s + 1 + t') % 16 = s % 16 by omega, c33, cnt_0 (fun v hv => by
        obtain ⟨tt, a1, a2, a3⟩ := tlt v hv
        refine decide_eq_false ?_
        rw [a1, nI_eq (by omega) (by omega)]
        omega)]
    · rw [c33' _ (Nat.mod_lt _ (by decide)) (by omega)]
      have q := hIEnd (t' + 1) (by omega)
      rw [show s + (t' + 1) = s + 1 + t' by omega] at q
      exact q
  · obtain ⟨n', p', P, c1, c2, c3, c4, c5, c6⟩ := hICnt
    refine ⟨n', p', P, c1, c2, by rw [gM.1 291 (nc (by decide))]; exact c3, by rw [gM.1 306 (nc (by decide))]; exact c4, ?_, c6⟩
    rw [cnt_sel (p := fun v => decide (M.1 260 0 v = nI 9)) (p' := fun v => decide (M2.1 260 0 v = nI 9)) l (fun u hu hn => by
      rw [(mrow u hu hn).1 260 (by omega) (by omega)])]
    have := cnt_and (p := fun v => decide (M.1 260 0 v = nI 9)) (ne := neE s M) l
    omega
