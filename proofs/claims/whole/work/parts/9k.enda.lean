/-! FRAMES END, all of it: both sides -/
theorem SS.ofTT {c s d w e p t d' w' t' g : Nat} {C M C' M' : Mm} (h : SS c s d w e p t g 0 C M) (hT : TT d' w' e t' C' M') (fC : fq tkC C C') (gM : fq tkM M M') : SS c s d' w' e p t' g 0 C' M' := by
  obtain ⟨hITape, hIDraw, hINois, hIPar, hISub, hIKey, hIRef, hISta, hILnk, hIBeg, hIQue, hIHnd, hICon, hIDue, hIWai, hISnd, hISlo, hISto, hIRng, hILiv, hIEnd, hIPut, hILat, hIInb, hICnt, hIAlq⟩ := h
  obtain ⟨hIDraw2, hIPar2, hISub2, hIKey2, hIRef2, hISta2, hILnk2, hIBeg2, hIQue2, hIHnd2, hICon2, hIDue2, hIWai2, hISnd2, hILat2, hIInb2⟩ := hT
  exact ⟨hITape.fr fC gM (by decide) (by decide), hIDraw2, hINois.fr fC gM (by decide) (by decide), hIPar2, hISub2, hIKey2, hIRef2, hISta2, hILnk2, hIBeg2, hIQue2, hIHnd2, hICon2, hIDue2, hIWai2, hISnd2, hISlo.fr fC gM (by decide) (by decide), hISto.fr fC gM (by decide) (by decide), hIRng.fr fC gM (by decide) (by decide), hILiv.fr fC gM (by decide) (by decide), hIEnd.fr fC gM (by decide) (by decide), hIPut.fr fC gM (by decide) (by decide), hILat2, hIInb2, hICnt.fr fC gM (by decide) (by decide), hIAlq.fr fC gM (by decide) (by decide)⟩
theorem SS.toTT {c s d w e p t g : Nat} {C M : Mm} (h : SS c s d w e p t g 0 C M) : TT d w e t C M := by
  obtain ⟨hITape, hIDraw, hINois, hIPar, hISub, hIKey, hIRef, hISta, hILnk, hIBeg, hIQue, hIHnd, hICon, hIDue, hIWai, hISnd, hISlo, hISto, hIRng, hILiv, hIEnd, hIPut, hILat, hIInb, hICnt, hIAlq⟩ := h
  exact ⟨hIDraw, hIPar, hISub, hIKey, hIRef, hISta, hILnk, hIBeg, hIQue, hIHnd, hICon, hIDue, hIWai, hISnd, hILat, hIInb⟩
theorem SS.tup {c s d w e p t g l : Nat} {C M : Mm} (h : SS c s d w e p t g l C M) : SS c s d w e p (t + 1) g l C M := by
  obtain ⟨hITape, hIDraw, hINois, hIPar, hISub, hIKey, hIRef, hISta, hILnk, hIBeg, hIQue, hIHnd, hICon, hIDue, hIWai, hISnd, hISlo, hISto, hIRng, hILiv, hIEnd, hIPut, hILat, hIInb, hICnt, hIAlq⟩ := h
  refine ⟨hITape, hIDraw, hINois, hIPar, hISub, hIKey, hIRef, hISta, hILnk, hIBeg, hIQue, hIHnd, hICon, hIDue, hIWai, hISnd, hISlo, hISto, hIRng, hILiv, hIEnd, hIPut, hILat, ?_, hICnt, hIAlq⟩
  intro k hk
  obtain ⟨q, q1, q2⟩ := hIInb k hk
  exact ⟨q, by omega, q2⟩
abbrev eaM : List Nat := [254, 255, 256, 270, 278, 302, 304, 307]
theorem endA {c s p t g : Nat} {C M : Mm} (hS : SS c s (s + 1) s s p t g 1 C M) (hA : IAlo g 1 C M) (hs : s < 2 ^ 28) (hg : g < 2 ^ 29) (ht : t < 2 ^ 28) (h261 : M.1 261 0 0 = nI s) (h263 : M.1 263 0 0 = nI 1) : ∃ r C1 C2 M2, F_X11_endFrames C = some (r, C1) ∧ ((r = -nI 1 ∧ C2 = C1) ∨ (∃ a, a < 9 ∧ r = nI a ∧ ∀ K, actK K a C1 = K C2)) ∧ F_X12_endAll M = some ((), M2) ∧ SS c s (s + 1) s (s + 1) p (t + 1) g 0 C2 M2 ∧ C2.1 78 = C.1 78 ∧ M2.1 299 = M.1 299 := by
  have hS2 := hS
  obtain ⟨hITape, hIDraw, hINois, hIPar, hISub, hIKey, hIRef, hISta, hILnk, hIBeg, hIQue, hIHnd, hICon, hIDue, hIWai, hISnd, hISlo, hISto, hIRng, hILiv, hIEnd, hIPut, hILat, hIInb, hICnt, hIAlq⟩ := hS2
  obtain ⟨o1, o2, o3, o4, o5, o6, o7, o8⟩ := id hISlo
  obtain ⟨x, t0, n, sd, c0, p1, p2, p3, p4, p5, p6, p7, p8, p9, p10, p11, p12, p13, p14⟩ := hILiv.1 0 (by decide)
  have hx1 : x + 1 = g := by
    have := (hA 0 (by decide) h263).2
    rw [p8, nI_1] at this
    exact (nI_eq (by omega) (by omega)).mp this
  have et : t0 = s := (nI_eq (by omega) (by omega)).mp (p9.symm.trans h261)
  have ec : c0 = 1 := (nI_eq (by omega) (by omega)).mp (p12.symm.trans h263)
  subst et ec
  obtain ⟨y1, y2, y3, y4, y5⟩ := p14 (by omega)
  have eR : (g + 39) % 40 = x % 40 := by omega
  have hR40 : x % 40 < 40 := Nat.mod_lt _ (by decide)
  obtain ⟨n', sd', t', r1, r2, r3, r4, r5, r6, r7, r8, r9, r10, r11, r12, r13⟩ := hIRng (x % 40) hR40 (by omega)
  have en : n' = n := (nI_eq (by omega) (by omega)).mp (r6.symm.trans y3)
  have esd : sd' = sd := (nI_eq (by omega) (by omega)).mp (r8.symm.trans y4)
  subst en esd
  -- the bytes
  have hbb : ∃ b : Nat → Nat, (∀ j, b j < 256) ∧ ∀ j, j < n' → M.1 265 0 (300 * 0 + j) = nI (b j) := by
    refine ⟨fun j => if j < n' then (M.1 265 0 (300 * 0 + j)).toNatClampNeg else 0, fun j => ?_, fun j hj => ?_⟩
    · by_cases hj : j < n'
      · obtain ⟨q, q1, q2⟩ := p13 j hj
        simp only [if_pos hj]
        rw [q2, nI_clamp (by omega)]
        exact q1
      · simp only [if_neg hj]
        decide
    · obtain ⟨q, q1, q2⟩ := p13 j hj
      simp only [if_pos hj]
      rw [q2, nI_clamp (by omega)]
  obtain ⟨b, hb1, hb2⟩ := hbb
  -- the class
  obtain ⟨D, fD, d98, eE⟩ := efC hIRef o1
  have hS0 : ISlo t0 g 1 D M := hISlo.fr (u := [98]) (w := []) fD fq.rf (by decide) (by decide)
  have hR0 : IRng t0 g 1 D M := hIRng.fr (u := [98]) (w := []) fD fq.rf (by decide) (by decide)
  have e33 := hIEnd 0 (by decide)
  have ecnt : cnt (fun v => decide (M.1 261 0 v = nI (t0 + 0))) 1 = 1 := by
    show 0 + (if decide (M.1 261 0 0 = nI (t0 + 0)) = true then 1 else 0) = 1
    rw [if_pos (show decide (M.1 261 0 0 = nI (t0 + 0)) = true from decide_eq_true h261)]
  rw [ecnt, Nat.add_zero] at e33
  obtain ⟨cl, hcl, icl, eCl⟩ := (clE (e := 1) (by omega) (by omega) hS0 hR0 (by rw [fD.1 33 (nc (by decide))]; exact e33) (by decide)).2 (by decide) (by omega)
  have cl1 : cl = 1 := icl.mpr ⟨by rw [eR, fD.1 31 (nc (by decide))]; exact y1, by rw [eR, fD.1 32 (nc (by decide))]; exact y2⟩
  rw [cl1] at eCl
  -- the reference
  have hak : ∃ ak, sd' < 9 → (ak = 1 ∧ M.1 265 0 (300 * 0) = nI 212 ∧ n' = 14) ∨ (ak = 0 ∧ ¬ M.1 265 0 (300 * 0) = nI 212) := by
    by_cases h9 : sd' < 9
    · have q0 := hISnd.2 0 sd' (by decide) h9 p11
      rcases hISnd.1 sd' h9 with ⟨q1, -⟩ | ⟨v, t2, m, q1, q2, q3, q4, q5, q6, q7, q8, q9⟩
      · rw [q0] at q1
        exact absurd q1 (by rw [nI_m1 (by omega)]; exact id)
      · have ev : v = 0 := by omega
        rw [ev] at q7 q9
        have em : n' = m := (nI_eq (by omega) (by omega)).mp (p10.symm.trans q7)
        rcases q9 with ⟨-, z1, z2⟩ | ⟨-, z1, -⟩
        · exact ⟨1, fun _ => Or.inl ⟨rfl, z1, by omega⟩⟩
        · exact ⟨0, fun _ => Or.inr ⟨rfl, z1⟩⟩
    · exact ⟨0, fun z => absurd z h9⟩
  obtain ⟨ak, hak⟩ := hak
  have eO := ovE (M := M) (v := 0) (n := n') (sd := sd') (c := 1) (x := x) (g := g) (s := t0) (ak := ak) (by decide) p4 p5 p6 (by decide) p1 (by omega) p11 p10 p12 p8 o4 o2 hak
  have qT := ovM_q (M := M) (v := 0) (n := n') (c := 1) (x := x) (g := g) (sd := sd') (s := t0) (ak := ak)
  have bT := ovM_278 (M := M) (v := 0) (n := n') (c := 1) (x := x) (g := g) (sd := sd') (s := t0) (ak := ak)
  have q3 : ∀ y, ¬ y = 254 → ¬ y = 255 → ¬ y = 256 → (ovM M 0 n' 1 x g sd' t0 ak).1 y = (ov3 M 0 n' 1 x g).1 y := by
    intro y k1 k2 k3
    unfold ovM
    split
    · rfl
    · split
      · rw [wrI_ne k1]
      · rw [wrI_ne k3, wrI_ne k2, wrI_ne k1]
  have u3 : ∀ y, ¬ y = 270 → ¬ y = 278 → ¬ y = 302 → ¬ y = 307 → (ov3 M 0 n' 1 x g).1 y = M.1 y := fun y k1 k2 k3 k4 => ov3_q.1 y (by simp only [List.mem_cons, List.not_mem_nil, or_false, not_or]; exact ⟨k1, k2, k3, k4⟩)
  have T302 : (ovM M 0 n' 1 x g sd' t0 ak).1 302 0 0 = M.1 302 0 0 := by
    rw [q3 302 (by decide) (by decide) (by decide)]
    unfold ov3
    rw [wrI_s]
    exact Int32.add_zero _
  have T270 : ∀ r, (ovM M 0 n' 1 x g sd' t0 ak).1 270 0 r = if r = x % 40 then nI 1 else M.1 270 0 r := by
    intro r
    rw [q3 270 (by decide) (by decide) (by decide)]
    unfold ov3 ov2 ov1
    rw [wrI_ne (by decide), if_pos (show g ≤ x + 40 by omega)]
    by_cases hr : r = x % 40
    · rw [hr, wrI_s, if_pos rfl]
    · rw [wrI_o (by omega), blk_ne (by decide), wrI_ne (by decide), if_neg hr]
  have T254 : ∀ k, k < 9 → (ovM M 0 n' 1 x g sd' t0 ak).1 254 0 k = -nI 1 := by
    intro k hk
    by_cases hks : k = sd'
    · unfold ovM
      rw [if_neg (by omega), hks]
      split
      · rw [wrI_s]
      · rw [wrI_ne (by decide), wrI_ne (by decide), wrI_s]
    · have m254 : M.1 254 0 k = -nI 1 := by
        rcases hISnd.1 k hk with ⟨q1, -⟩ | ⟨v, t2, m, q1, q2, q4, -⟩
        · exact q1
        · rw [show v = 0 by omega, p11] at q4
          exact absurd ((nI_eq (by omega) (by omega)).mp q4).symm hks
      unfold ovM
      split
      · rw [u3 254 (by decide) (by decide) (by decide) (by decide)]; exact m254
      · split
        · rw [wrI_o (by omega), u3 254 (by decide) (by decide) (by decide) (by decide)]; exact m254
        · rw [wrI_ne (by decide), wrI_ne (by decide), wrI_o (by omega), u3 254 (by decide) (by decide) (by decide) (by decide)]; exact m254
  have T255o : ∀ k, ¬ k = sd' → (ovM M 0 n' 1 x g sd' t0 ak).1 255 0 k = M.1 255 0 k ∧ (ovM M 0 n' 1 x g sd' t0 ak).1 256 0 k = M.1 256 0 k := by
    intro k hks
    have u5 := u3 255 (by decide) (by decide) (by decide) (by decide)
    have u6 := u3 256 (by decide) (by decide) (by decide) (by decide)
    unfold ovM
    split
    · rw [u5, u6]; exact ⟨rfl, rfl⟩
    · split
      · rw [wrI_ne (by decide), wrI_ne (by decide), u5, u6]; exact ⟨rfl, rfl⟩
      · refine ⟨?_, ?_⟩
        · rw [wrI_ne (by decide), wrI_o (by omega), wrI_ne (by decide), u5]
        · rw [wrI_o (by omega), wrI_ne (by decide), wrI_ne (by decide), u6]
  have T255s : sd' < 9 → (ak = 1 → (ovM M 0 n' 1 x g sd' t0 ak).1 255 0 sd' = M.1 255 0 sd' ∧ (ovM M 0 n' 1 x g sd' t0 ak).1 256 0 sd' = M.1 256 0 sd') ∧ (¬ ak = 1 → (ovM M 0 n' 1 x g sd' t0 ak).1 255 0 sd' = nI 1 ∧ (ovM M 0 n' 1 x g sd' t0 ak).1 256 0 sd' = nI t0) := by
    intro h9
    have u5 := u3 255 (by decide) (by decide) (by decide) (by decide)
    have u6 := u3 256 (by decide) (by decide) (by decide) (by decide)
    unfold ovM
    rw [if_neg (by omega)]
    refine ⟨fun k1 => ?_, fun k1 => ?_⟩
    · rw [if_pos k1, wrI_ne (by decide), wrI_ne (by decide), u5, u6]; exact ⟨rfl, rfl⟩
    · rw [if_neg k1]
      exact ⟨by rw [wrI_ne (by decide), wrI_s], wrI_s⟩
  generalize hT : ovM M 0 n' 1 x g sd' t0 ak = T at *
  have fDp : fq enCl C (wrI (wrI (wrI D 33 0 (t0 % 16) (nI 0)) 74 0 0 (nI (1 - 1))) 75 0 0 (D.1 75 0 0 + nI (1 - 1))) := (fD.up (by decide)).tr (by repeat (first | exact fq.rf | (refine fq.tr ?_ (fq.wr (by decide))) | (refine fq.tr ?_ (fq.bk (by decide))) | (refine fq.tr ?_ (fq.wl (by decide))) | (refine fq.tr ?_ (fq.wR (by decide)))))
  have p98 : ∀ j, j < 9 → (wrI (wrI (wrI D 33 0 (t0 % 16) (nI 0)) 74 0 0 (nI (1 - 1))) 75 0 0 (D.1 75 0 0 + nI (1 - 1))).1 98 j 0 = if C.1 96 j 0 = nI t0 ∧ C.1 97 j 0 = nI 0 then nI t0 else C.1 98 j 0 := fun j hj => by
    rw [wrI_ne (by decide), wrI_ne (by decide), wrI_ne (by decide)]
    exact d98 j hj
  have p33 : ∀ i, i < 16 → (wrI (wrI (wrI D 33 0 (t0 % 16) (nI 0)) 74 0 0 (nI (1 - 1))) 75 0 0 (D.1 75 0 0 + nI (1 - 1))).1 33 0 i = if i = t0 % 16 then nI 0 else C.1 33 0 i := fun i hi => by
    rw [wrI_ne (by decide), wrI_ne (by decide)]
    by_cases h : i = t0 % 16
    · rw [h, wrI_s, if_pos rfl]
    · rw [wrI_o (by omega), fD.1 33 (nc (by decide)), if_neg h]
  have p74 : (wrI (wrI (wrI D 33 0 (t0 % 16) (nI 0)) 74 0 0 (nI (1 - 1))) 75 0 0 (D.1 75 0 0 + nI (1 - 1))).1 74 0 0 = nI 0 := (by first | (simp (disch := first | omega | assumption) only [wrI_s, wrI_o, wrI_r, wrL_1, wrL_r, wrL_s, wrL_o, blk_in, blk_out, blk_r, lit, litL, b00, b11, nI_l, lN_add, lN_mul, lN_sub, nI_add, pk_mul, pk_sub, pk_div, remN, Nat.add_sub_cancel, Nat.add_sub_cancel_left, Nat.zero_add, Nat.add_zero]; done) | (simp (disch := first | omega | assumption) only [wrI_s, wrI_o, wrI_r, wrL_1, wrL_r, wrL_s, wrL_o, blk_in, blk_out, blk_r, lit, litL, b00, b11, nI_l, lN_add, lN_mul, lN_sub, nI_add, pk_mul, pk_sub, pk_div, remN, Nat.add_sub_cancel, Nat.add_sub_cancel_left, Nat.zero_add, Nat.add_zero]; rfl) | rfl)
  have p75 : (wrI (wrI (wrI D 33 0 (t0 % 16) (nI 0)) 74 0 0 (nI (1 - 1))) 75 0 0 (D.1 75 0 0 + nI (1 - 1))).1 75 0 0 = C.1 75 0 0 := by
    rw [wrI_s, fD.1 75 (nc (by decide))]
    exact Int32.add_zero _
  generalize hD' : wrI (wrI (wrI D 33 0 (t0 % 16) (nI 0)) 74 0 0 (nI (1 - 1))) 75 0 0 (D.1 75 0 0 + nI (1 - 1)) = D' at *
  have gT4 : fq eaM M (wrI T 304 0 0 (nI 0)) := (qT.up (by decide)).tr (by repeat (first | exact fq.rf | (refine fq.tr ?_ (fq.wr (by decide))) | (refine fq.tr ?_ (fq.bk (by decide))) | (refine fq.tr ?_ (fq.wl (by decide))) | (refine fq.tr ?_ (fq.wR (by decide)))))
  have w4 : ∀ y, ¬ y = 304 → (wrI T 304 0 0 (nI 0)).1 y = T.1 y := fun y hy => wrI_ne hy
  have hSE : SS c t0 (t0 + 1) t0 (t0 + 1) p t g 0 D' (wrI T 304 0 0 (nI 0)) := by
    have key : ∀ C' M', fq enCl C C' → fq eaM M M' → IDue (t0 + 1) C' M' → IWai t0 C' M' → ISnd (t0 + 1) 0 C' M' → ISlo t0 g 0 C' M' → ISto C' M' → IRng (t0 + 1) g 0 C' M' → ILiv (t0 + 1) g 0 C' M' → IEnd (t0 + 1) 0 C' M' → ICnt c 0 C' M' → IAlq g 0 C' M' → SS c t0 (t0 + 1) t0 (t0 + 1) p t g 0 C' M' := fun C' M' fC gM tIDue tIWai tISnd tISlo tISto tIRng tILiv tIEnd tICnt tIAlq => ⟨hITape.fr fC gM (by decide) (by decide), hIDraw.fr fC gM (by decide) (by decide), hINois.fr fC gM (by decide) (by decide), hIPar.fr fC gM (by decide) (by decide), hISub.fr fC gM (by decide) (by decide), hIKey.fr fC gM (by decide) (by decide), hIRef.fr fC gM (by decide) (by decide), hISta.fr fC gM (by decide) (by decide), hILnk.fr fC gM (by decide) (by decide), hIBeg.fr fC gM (by decide) (by decide), hIQue.fr fC gM (by decide) (by decide), hIHnd.fr fC gM (by decide) (by decide), hICon.fr fC gM (by decide) (by decide), tIDue, tIWai, tISnd, tISlo, tISto, tIRng, tILiv, tIEnd, hIPut.fr fC gM (by decide) (by decide), hILat.fr fC gM (by decide) (by decide), hIInb.fr fC gM (by decide) (by decide), tICnt, tIAlq⟩
    refine key _ _ fDp gT4 ?_ ?_ ?_ ?_ ?_ ?_ ?_ ?_ ?_ (fun v hv => absurd hv (by omega))
    · intro k hk
      obtain ⟨d1, d2⟩ := hIDue k hk
      rw [fDp.1 39 (nc (by decide)), gT4.2.1 259 (nc (by decide)), fDp.1 94 (nc (by decide)), fDp.1 95 (nc (by decide)), fDp.1 103 (nc (by decide)), gT4.1 257 (nc (by decide)), gT4.1 258 (nc (by decide)), w4 254 (by decide), w4 255 (by decide), T254 k hk]
      refine ⟨d1, ?_⟩
      rcases d2 with d2 | ⟨dd, z1, z2, z3, z4, z5, z6⟩
      · exact Or.inl d2
      · have hks : ¬ k = sd' := fun z => by
          have := hISnd.2 0 k (by decide) hk (by rw [z]; exact p11)
          rw [z5] at this
          exact absurd this.symm (by rw [nI_m1 (by omega)]; exact id)
        rw [(T255o k hks).1]
        exact Or.inr ⟨dd, z1, z2, z3, z4, rfl, z6⟩
    · intro k hk
      rw [fDp.1 103 (nc (by decide)), fDp.1 100 (nc (by decide)), w4 255 (by decide), w4 256 (by decide), p98 k hk]
      by_cases hks : k = sd'
      · have q0 := hISnd.2 0 k (by decide) hk (by rw [hks]; exact p11)
        rcases hISnd.1 k hk with ⟨q1, -⟩ | ⟨v, t2, m, q1, q2, q4, q5, q6, q7, q8, q9, q10⟩
        · rw [q0] at q1
          exact absurd q1 (by rw [nI_m1 (by omega)]; exact id)
        · have ev : v = 0 := by omega
          rw [ev] at q5 q8 q10
          have e96 : C.1 96 k 0 = nI t0 := by rw [q7, ← q5]; exact h261
          have h9 : sd' < 9 := by omega
          rcases hak h9 with ⟨k1, k2, k3⟩ | ⟨k1, k2⟩
          · obtain ⟨z1, z2⟩ := (T255s h9).1 k1
            rcases q10 with ⟨z3, -⟩ | ⟨z3, z4, -⟩
            · rw [hks] at z3 ⊢
              rw [if_neg (fun z => absurd (z3.symm.trans z.2) (by decide)), z1, z2]
              exact hIWai sd' h9
            · exact absurd k2 z4
          · obtain ⟨z1, z2⟩ := (T255s h9).2 (by omega)
            rcases q10 with ⟨z3, z4, -⟩ | ⟨z3, z4, z5, u, n, a1, a2, a3, b1, b2, b3⟩
            · exact absurd z4 k2
            · rw [if_pos ⟨e96, z3⟩, hks, z1, z2]
              rw [hks] at a3 b3
              exact Or.inr ⟨t0, n, u, Nat.le_refl t0, by omega, rfl, rfl, rfl, a1, a2, a3, b1, b2, b3⟩
      · rw [(T255o k hks).1, (T255o k hks).2, if_neg (fun z => ?_)]
        · exact hIWai k hk
        · rcases hISnd.1 k hk with ⟨q1, q2⟩ | ⟨v, t2, m, q1, q2, q4, -⟩
          · rcases q2 with q2 | ⟨y, x1, x2⟩
            · rw [q2] at z
              exact absurd z.1.symm (by rw [nI_m1 (by omega)]; exact id)
            · rw [x2] at z
              have := (nI_eq (by omega) (by omega)).mp z.1
              omega
          · rw [show v = 0 by omega, p11] at q4
            exact absurd ((nI_eq (by omega) (by omega)).mp q4).symm hks
    · refine ⟨fun k hk => ?_, fun v k hv => absurd hv (by omega)⟩
      rw [w4 254 (by decide), T254 k hk, fDp.1 96 (nc (by decide))]
      refine Or.inl ⟨rfl, ?_⟩
      rcases hISnd.1 k hk with ⟨q1, q2⟩ | ⟨v, t2, m, q1, q2, q4, q5, q6, q7, -⟩
      · rcases q2 with q2 | ⟨y, x1, x2⟩
        · exact Or.inl q2
        · exact Or.inr ⟨y, by omega, x2⟩
      · refine Or.inr ⟨t0, by omega, ?_⟩
        rw [q7, ← q5, show v = 0 by omega]
        exact h261
    · exact ⟨by rw [fDp.1 76 (nc (by decide))]; exact o1, by rw [gT4.1 298 (nc (by decide))]; exact o2, by rw [fDp.1 73 (nc (by decide))]; exact o3, by rw [gT4.1 301 (nc (by decide))]; exact o4, by rw [fDp.1 71 (nc (by decide))]; exact o5, by rw [fDp.1 72 (nc (by decide))]; exact o6, p74, wrI_s⟩
    · refine ⟨by rw [fDp.1 77 (nc (by decide)), gT4.1 300 (nc (by decide))]; exact hISto.1, ?_⟩
      rw [p75, w4 302 (by decide), T302]
      exact hISto.2
    · intro r hr hrg
      obtain ⟨n1, sd1, t1, k1, k2, k3, k4, k5, k6, k7, k8, k9, k10, k11, k12, k13⟩ := hIRng r hr hrg
      rw [fDp.1 28 (nc (by decide)), fDp.1 29 (nc (by decide)), fDp.1 30 (nc (by decide)), fDp.1 31 (nc (by decide)), fDp.1 27 (nc (by decide)), fDp.1 32 (nc (by decide)), gT4.1 268 (nc (by decide)), gT4.1 266 (nc (by decide)), gT4.1 267 (nc (by decide)), gT4.1 269 (nc (by decide)), gT4.1 271 (nc (by decide)), w4 270 (by decide), T270]
      refine ⟨n1, sd1, t1, k1, k2, k3, k4, k5, k6, k7, k8, k9, k10, k11, k12, ?_⟩
      by_cases hrx : r = x % 40
      · rw [if_pos hrx]
        refine Or.inr (Or.inl ⟨rfl, ?_, by rw [hrx]; exact y2⟩)
        rw [hrx, y1] at k11
        have := (nI_eq (by omega) (by omega)).mp k11
        omega
      · rw [if_neg hrx]
        rcases k13 with ⟨-, -, v, z3, z4⟩ | ⟨z1, z2, z3⟩ | ⟨z1, z2, z3⟩
        · exfalso
          rw [show v = 0 by omega, p8] at z4
          have e1 : x = nr g r := (nI_eq (by omega) (by unfold nr; omega)).mp z4
          apply hrx
          rw [e1]
          unfold nr
          omega
        · exact Or.inr (Or.inl ⟨z1, by omega, z3⟩)
        · exact Or.inr (Or.inr ⟨z1, by omega, z3⟩)
    · exact ⟨fun v hv => absurd hv (by omega), fun v w' hv => absurd hv (by omega)⟩
    · intro t' ht'
      show D'.1 33 0 ((t0 + 1 + t') % 16) = nI 0
      rw [p33 _ (Nat.mod_lt _ (by decide))]
      by_cases h15 : (t0 + 1 + t') % 16 = t0 % 16
      · rw [if_pos h15]
      · rw [if_neg h15]
        have q := hIEnd (t' + 1) (by omega)
        rw [show t0 + (t' + 1) = t0 + 1 + t' by omega] at q
        rw [q]
        have e0 : cnt (fun v => decide (M.1 261 0 v = nI (t0 + 1 + t'))) 1 = 0 := by
          refine cnt_0 (fun v hv => decide_eq_false ?_)
          rw [show v = 0 by omega, h261, nI_eq (by omega) (by omega)]
          omega
        rw [e0]
    · obtain ⟨n1, p', P, c1, c2, c3, c4, c5, c6⟩ := hICnt
      exact ⟨n1, p', P, c1, c2, by rw [gT4.1 291 (nc (by decide))]; exact c3, by rw [gT4.1 306 (nc (by decide))]; exact c4, by show p' + 0 ≤ P; omega, c6⟩
  have hTT : TT (t0 + 1) t0 (t0 + 1) t D' T := hSE.toTT.fr (u := []) (v := [304]) fq.rf (fq.sy (by repeat (first | exact fq.rf | (refine fq.tr ?_ (fq.wr (by decide))) | (refine fq.tr ?_ (fq.bk (by decide))) | (refine fq.tr ?_ (fq.wl (by decide))) | (refine fq.tr ?_ (fq.wR (by decide)))))) (by decide) (by decide)
  have hNB : NB t0 (x % 40) n' sd' b D' T := by
    refine ⟨hR40, p4, p5, p6, hb1, by rw [fDp.1 71 (nc (by decide)), o5, eR], by rw [fDp.2.2 26 (nc (by decide))]; exact hIRef.2.1 _ hR40, by rw [fDp.1 28 (nc (by decide))]; exact r5, by rw [fDp.1 29 (nc (by decide))]; exact r7, fun j hj => ?_, bT.1, fun j hj => by rw [bT.2 j hj]; exact hb2 j hj, by rw [fDp.1 76 (nc (by decide))]; exact o1, by rw [qT.1 298 (nc (by decide))]; exact o2⟩
    rw [fDp.1 27 (nc (by decide)), (r12 j hj).2, ← y5 j hj]
    exact hb2 j hj
  obtain ⟨r, C1, C2, M2, k1, k2, k3, k4, k5, k6⟩ := takA hTT hNB hs (by omega) (by omega)
  have g2 : fq tkM (wrI T 304 0 0 (nI 0)) (wrI M2 304 0 0 (nI 0)) := k6.cw
  have hT2 : TT (t0 + 1) t0 (t0 + 1) (t + 1) C2 (wrI M2 304 0 0 (nI 0)) := k4.fr (u := []) (v := [304]) fq.rf (by repeat (first | exact fq.rf | (refine fq.tr ?_ (fq.wr (by decide))) | (refine fq.tr ?_ (fq.bk (by decide))) | (refine fq.tr ?_ (fq.wl (by decide))) | (refine fq.tr ?_ (fq.wR (by decide))))) (by decide) (by decide)
  have m304 : M2.1 304 0 0 = nI 1 := by rw [k6.1 304 (nc (by decide)), qT.1 304 (nc (by decide))]; exact o8
  have m261 : M2.1 261 0 0 = nI t0 := by rw [k6.1 261 (nc (by decide)), qT.1 261 (nc (by decide))]; exact h261
  have m260 : M2.1 260 0 0 = nI sd' := by rw [k6.1 260 (nc (by decide)), qT.1 260 (nc (by decide))]; exact p11
  have m298 : M2.1 298 0 0 = nI t0 := by rw [k6.1 298 (nc (by decide)), qT.1 298 (nc (by decide))]; exact o2
  have m254 : ∀ k, k < 9 → M2.1 254 0 k = -nI 1 := fun k hk => by rw [k6.1 254 (nc (by decide))]; exact T254 k hk
  have eOv : F_X12_over (nI 0) M = some ((), M2) := by
    rw [eO]
    unfold L_X12_over_170
    exact k3
  have e100 : L_X12_endAll_100 fu 0 0 M2 = some ((), wrI M2 304 0 0 (nI 0)) := by
    obtain ⟨m, hm⟩ := fu_n (N := 1) (by decide)
    rw [hm, show m + 1 + 1 = (m + 1) + 1 by omega, L_X12_endAll_100]
    unfold L_X12_endAll_138
    refine e_gf m304 (e_N (by decide) (e_ldA (j := 0) rfl (by decide) (by decide) (by decide) m261 (e_gf m298 (e_T rfl ?_))))
    rw [L_X12_endAll_100]
    exact e_gf m304 (e_T (by decide) (e_pf (w := nI 0) rfl rfl))
  have eAll : F_X12_endAll M = some ((), wrI M2 304 0 0 (nI 0)) := by
    unfold F_X12_endAll
    by_cases h9 : sd' < 9
    · have e53 : L_X12_endAll_53 fu 0 M2 = some ((), wrI M2 304 0 0 (nI 0)) := by
        obtain ⟨m, hm⟩ := fu_n (N := 1) (by decide)
        rw [hm, show m + 1 + 1 = (m + 1) + 1 by omega, L_X12_endAll_53]
        unfold L_X12_endAll_90
        refine e_gf m304 (e_N (by decide) (e_ldA (j := 0) rfl (by decide) (by decide) (by decide) m260 (e_N (by first | (simp (disch := first | omega | assumption) only [wrI_s, wrI_o, wrI_r, wrL_1, wrL_r, wrL_s, wrL_o, blk_in, blk_out, blk_r, lit, litL, b00, b11, nI_l, lN_add, lN_mul, lN_sub, nI_add, pk_mul, pk_sub, pk_div, remN, Nat.add_sub_cancel, Nat.add_sub_cancel_left, Nat.zero_add, Nat.add_zero, nI_eq, nI_leI, nI_ltI, nI_m1, m1_lt, neg_lt, neg_le, neg_ge, neg_gt, neg_eq, not_true, not_false_iff]; done) | (simp (disch := first | omega | assumption) only [wrI_s, wrI_o, wrI_r, wrL_1, wrL_r, wrL_s, wrL_o, blk_in, blk_out, blk_r, lit, litL, b00, b11, nI_l, lN_add, lN_mul, lN_sub, nI_add, pk_mul, pk_sub, pk_div, remN, Nat.add_sub_cancel, Nat.add_sub_cancel_left, Nat.zero_add, Nat.add_zero, nI_eq, nI_leI, nI_ltI, nI_m1, m1_lt, neg_lt, neg_le, neg_ge, neg_gt, neg_eq, not_true, not_false_iff]; omega)) ?_)))
        rw [L_X12_endAll_53]
        exact e_gf m304 (e_T (by decide) e100)
      refine loop0 (fun m (q : Int32 × Mm) => L_X12_endAll_2 m q.1 q.2) (fun j => (nI j, if j ≤ sd' then M else M2)) 9 (by decide) (fun m j hj => ?_) (fun m => ?_)
      · dsimp only
        rw [L_X12_endAll_2]
        unfold L_X12_endAll_45
        rw [nI_1]
        refine e_N (by first | (simp (disch := first | omega | assumption) only [wrI_s, wrI_o, wrI_r, wrL_1, wrL_r, wrL_s, wrL_o, blk_in, blk_out, blk_r, lit, litL, b00, b11, nI_l, lN_add, lN_mul, lN_sub, nI_add, pk_mul, pk_sub, pk_div, remN, Nat.add_sub_cancel, Nat.add_sub_cancel_left, Nat.zero_add, Nat.add_zero, nI_eq, nI_leI, nI_ltI, nI_m1, m1_lt, neg_lt, neg_le, neg_ge, neg_gt, neg_eq, not_true, not_false_iff]; done) | (simp (disch := first | omega | assumption) only [wrI_s, wrI_o, wrI_r, wrL_1, wrL_r, wrL_s, wrL_o, blk_in, blk_out, blk_r, lit, litL, b00, b11, nI_l, lN_add, lN_mul, lN_sub, nI_add, pk_mul, pk_sub, pk_div, remN, Nat.add_sub_cancel, Nat.add_sub_cancel_left, Nat.zero_add, Nat.add_zero, nI_eq, nI_leI, nI_ltI, nI_m1, m1_lt, neg_lt, neg_le, neg_ge, neg_gt, neg_eq, not_true, not_false_iff]; omega)) ?_
        by_cases hjs : j = sd'
        · rw [if_pos (by omega), if_neg (by omega), hjs]
          have q0 := hISnd.2 0 sd' (by decide) h9 p11
          exact e_ldA rfl h9 (by decide) (by decide) q0 (e_N (by decide) (e_ldA rfl h9 (by decide) (by decide) q0 (e_ldA (j := 0) rfl (by decide) (by decide) (by decide) h261 (e_gf o2 (e_T rfl (e_ldA rfl h9 (by decide) (by decide) q0 (e_cl eOv rfl)))))))
        · by_cases hlt : j ≤ sd'
          · rw [if_pos hlt, if_pos (by omega)]
            have q0 : M.1 254 0 j = -nI 1 := by
              rcases hISnd.1 j hj with ⟨q1, -⟩ | ⟨v, t2, m, q1, q2, q4, -⟩
              · exact q1
              · rw [show v = 0 by omega, p11] at q4
                exact absurd ((nI_eq (by omega) (by omega)).mp q4).symm hjs
            exact e_ldA rfl hj (by decide) (by decide) q0 (e_T (by decide) rfl)
          · rw [if_neg hlt, if_neg (by omega)]
            exact e_ldA rfl hj (by decide) (by decide) (m254 j hj) (e_T (by decide) rfl)
      · dsimp only
        rw [if_neg (by omega), L_X12_endAll_2]
        exact e_T (by decide) e53
    · have hsd9 : sd' = 9 := by omega
      have e53 : L_X12_endAll_53 fu 0 M = some ((), wrI M2 304 0 0 (nI 0)) := by
        obtain ⟨m, hm⟩ := fu_n (N := 1) (by decide)
        rw [hm, show m + 1 + 1 = (m + 1) + 1 by omega, L_X12_endAll_53]
        unfold L_X12_endAll_90
        refine e_gf o8 (e_N (by decide) (e_ldA (j := 0) rfl (by decide) (by decide) (by decide) p11 (e_T (by rw [hsd9]; rfl) (e_ldA (j := 0) rfl (by decide) (by decide) (by decide) h261 (e_gf o2 (e_T rfl (e_cl eOv ?_)))))))
        rw [L_X12_endAll_53]
        exact e_gf m304 (e_T (by decide) e100)
      refine loop0 (fun m (q : Int32 × Mm) => L_X12_endAll_2 m q.1 q.2) (fun j => (nI j, M)) 9 (by decide) (fun m j hj => ?_) (fun m => ?_)
      · dsimp only
        rw [L_X12_endAll_2]
        unfold L_X12_endAll_45
        rw [nI_1]
        have q0 : M.1 254 0 j = -nI 1 := by
          rcases hISnd.1 j hj with ⟨q1, -⟩ | ⟨v, t2, m, q1, q2, q4, -⟩
          · exact q1
          · rw [show v = 0 by omega, p11] at q4
            have := (nI_eq (by omega) (by omega)).mp q4
            omega
        exact e_N (by first | (simp (disch := first | omega | assumption) only [wrI_s, wrI_o, wrI_r, wrL_1, wrL_r, wrL_s, wrL_o, blk_in, blk_out, blk_r, lit, litL, b00, b11, nI_l, lN_add, lN_mul, lN_sub, nI_add, pk_mul, pk_sub, pk_div, remN, Nat.add_sub_cancel, Nat.add_sub_cancel_left, Nat.zero_add, Nat.add_zero, nI_eq, nI_leI, nI_ltI, nI_m1, m1_lt, neg_lt, neg_le, neg_ge, neg_gt, neg_eq, not_true, not_false_iff]; done) | (simp (disch := first | omega | assumption) only [wrI_s, wrI_o, wrI_r, wrL_1, wrL_r, wrL_s, wrL_o, blk_in, blk_out, blk_r, lit, litL, b00, b11, nI_l, lN_add, lN_mul, lN_sub, nI_add, pk_mul, pk_sub, pk_div, remN, Nat.add_sub_cancel, Nat.add_sub_cancel_left, Nat.zero_add, Nat.add_zero, nI_eq, nI_leI, nI_ltI, nI_m1, m1_lt, neg_lt, neg_le, neg_ge, neg_gt, neg_eq, not_true, not_false_iff]; omega)) (e_ldA rfl hj (by decide) (by decide) q0 (e_T (by decide) rfl))
      · dsimp only
        rw [L_X12_endAll_2]
        exact e_T (by decide) e53
  refine ⟨r, C1, C2, wrI M2 304 0 0 (nI 0), ?_, k2, eAll, hSE.ofTT hT2 k5 g2, by rw [k5.1 78 (nc (by decide)), fDp.1 78 (nc (by decide))], by rw [wrI_ne (by decide), k6.1 299 (nc (by decide)), qT.1 299 (nc (by decide))]⟩
  rw [eE]
  exact e_cl eCl (e_N (by decide) (e_cl k1 rfl))
theorem endT {c s p t g l : Nat} {C M : Mm} (hc : c ≤ 512) (hS : SS c s (s + 1) s s p t g l C M) (hA : IAlo g l C M) (hs : s < 2 ^ 28) (hg : g < 2 ^ 29) (hl : l < 2 ^ 20) (ht : t < 2 ^ 28) (hg0 : 0 < l → 0 < g) : ∃ r C1 C2 M2 l', F_X11_endFrames C = some (r, C1) ∧ ((r = -nI 1 ∧ C2 = C1) ∨ (∃ a, a < 9 ∧ r = nI a ∧ ∀ K, actK K a C1 = K C2)) ∧ F_X12_endAll M = some ((), M2) ∧ l' ≤ l ∧ SS c s (s + 1) s (s + 1) p (t + 1) g l' C2 M2 ∧ IAlo g l' C2 M2 ∧ C2.1 78 = C.1 78 ∧ M2.1 299 = M.1 299 := by
  have hl2 := live_lt hS hc (by omega)
  by_cases hcl : ∃ v, v < l ∧ M.1 261 0 v = nI s ∧ M.1 263 0 v = nI 1
  · obtain ⟨v, v1, v2, v3⟩ := hcl
    have hl1 := (hA v v1 v3).1
    subst hl1
    rw [show v = 0 by omega] at v2 v3
    obtain ⟨r, C1, C2, M2, k1, k2, k3, k4, k5, k6⟩ := endA hS hA hs hg ht v2 v3
    exact ⟨r, C1, C2, M2, 0, k1, k2, k3, by decide, k4, fun v hv => absurd hv (by omega), k5, k6⟩
  · have hS2 := hS
    obtain ⟨hITape, hIDraw, hINois, hIPar, hISub, hIKey, hIRef, hISta, hILnk, hIBeg, hIQue, hIHnd, hICon, hIDue, hIWai, hISnd, hISlo, hISto, hIRng, hILiv, hIEnd, hIPut, hILat, hIInb, hICnt, hIAlq⟩ := hS2
    obtain ⟨o1, o2, o3, o4, o5, o6, o7, o8⟩ := id hISlo
    have hno : ∀ v, v < l → M.1 261 0 v = nI s → M.1 263 0 v = nI 0 := fun v hv he => by
      obtain ⟨x, t0, n, sd, c0, p1, p2, p3, p4, p5, p6, p7, p8, p9, p10, p11, p12, -⟩ := hILiv.1 v hv
      by_cases h0 : c0 = 0
      · rw [p12, h0]
      · exact absurd ⟨v, hv, he, by rw [p12, show c0 = 1 by omega]⟩ hcl
    obtain ⟨M2, m1, m2⟩ := endAM hg (by omega) hISlo hISnd hILiv (by omega) hno
    obtain ⟨D, fD, d98, eE⟩ := efC hIRef o1
    have hS0 : ISlo s g l D M := hISlo.fr (u := [98]) (w := []) fD fq.rf (by decide) (by decide)
    have hR0 : IRng s g l D M := hIRng.fr (u := [98]) (w := []) fD fq.rf (by decide) (by decide)
    have e33 := hIEnd 0 (by decide)
    rw [Nat.add_zero] at e33
    have hel : cnt (fun v => decide (M.1 261 0 v = nI s)) l ≤ l := cnt_le
    have hne : cnt (neE s M) l = l - cnt (fun v => decide (M.1 261 0 v = nI s)) l := by
      have := cnt_not (p := fun v => decide (M.1 261 0 v = nI s)) l
      have e : cnt (fun v => !decide (M.1 261 0 v = nI s)) l = cnt (neE s M) l := rfl
      omega
    have hl' : cnt (neE s M) l ≤ l := cnt_le
    have ce := clE (e := cnt (fun v => decide (M.1 261 0 v = nI s)) l) (by omega) (by omega) hS0 hR0 (by rw [fD.1 33 (nc (by decide))]; exact e33) hel
    generalize hE : cnt (fun v => decide (M.1 261 0 v = nI s)) l = e at *
    have k299 : M2.1 299 = M.1 299 := m2.1.1 299 (nc (by decide))
    by_cases he0 : e = 0
    · obtain ⟨i1, i2⟩ := endI (C2 := D) hS hA hs hg (by omega) hno ⟨fD.up (by decide), d98, by rw [fD.1 33 (nc (by decide)), e33, he0], fun i _ _ => by rw [fD.1 33 (nc (by decide))], by rw [fD.1 74 (nc (by decide)), o7, hne, he0, Nat.sub_zero], by rw [fD.1 75 (nc (by decide)), hE, he0]; exact (Int32.add_zero _).symm⟩ m2
      refine ⟨-nI 1, D, D, M2, cnt (neE s M) l, ?_, Or.inl ⟨rfl, rfl⟩, m1, hl', i1.tup, i2, by rw [fD.1 78 (nc (by decide))], k299⟩
      rw [eE]
      exact e_cl (ce.1 he0) (e_T rfl rfl)
    · obtain ⟨cl, hcl1, icl, eCl⟩ := ce.2 (by omega) (hg0 (by omega))
      have cl0 : cl = 0 := by
        by_cases h1 : cl = 1
        · exfalso
          obtain ⟨z1, z2⟩ := icl.mp h1
          have hgp := hg0 (by omega)
          have hR40 : (g + 39) % 40 < 40 := Nat.mod_lt _ (by decide)
          obtain ⟨n', sd', t', r1, r2, r3, r4, r5, r6, r7, r8, r9, r10, r11, r12, r13⟩ := hIRng ((g + 39) % 40) hR40 (by omega)
          rw [fD.1 31 (nc (by decide)), r11] at z1
          have et := (nI_eq (by omega) (by omega)).mp z1
          rcases r13 with ⟨-, -, v, q3, q4⟩ | ⟨-, q2, -⟩ | ⟨-, q2, -⟩
          · obtain ⟨x, t0, n, sd, c0, p1, p2, p3, p4, p5, p6, p7, p8, p9, p10, p11, p12, p13, p14⟩ := hILiv.1 v q3
            have ex : x = nr g ((g + 39) % 40) := (nI_eq (by omega) (by unfold nr; omega)).mp (p8.symm.trans q4)
            have hx : g ≤ x + 40 ∧ x % 40 = (g + 39) % 40 := by rw [ex]; unfold nr; omega
            obtain ⟨y1, y2, -⟩ := p14 hx.1
            rw [hx.2] at y1 y2
            have e1 : t' = t0 := (nI_eq (by omega) (by omega)).mp (r11.symm.trans y1)
            rw [fD.1 32 (nc (by decide)), y2] at z2
            have e2 : 1 - c0 = 0 := (nI_eq (by omega) (by omega)).mp z2
            exact hcl ⟨v, q3, by rw [p9, ← e1, et], by rw [p12, show c0 = 1 by omega]⟩
          · omega
          · omega
        · omega
      rw [cl0] at eCl
      have f3 : fq enCl C (wrI (wrI (wrI D 33 0 (s % 16) (nI 0)) 74 0 0 (nI (l - e))) 75 0 0 (D.1 75 0 0 + nI (e - 0))) := (fD.up (by decide)).tr (by repeat (first | exact fq.rf | (refine fq.tr ?_ (fq.wr (by decide))) | (refine fq.tr ?_ (fq.bk (by decide))) | (refine fq.tr ?_ (fq.wl (by decide))) | (refine fq.tr ?_ (fq.wR (by decide)))))
      obtain ⟨i1, i2⟩ := endI (C2 := wrI (wrI (wrI D 33 0 (s % 16) (nI 0)) 74 0 0 (nI (l - e))) 75 0 0 (D.1 75 0 0 + nI (e - 0))) hS hA hs hg (by omega) hno ⟨f3, fun j hj => by
        rw [wrI_ne (by decide), wrI_ne (by decide), wrI_ne (by decide)]
        exact d98 j hj, (by first | (simp (disch := first | omega | assumption) only [wrI_s, wrI_o, wrI_r, wrL_1, wrL_r, wrL_s, wrL_o, blk_in, blk_out, blk_r, lit, litL, b00, b11, nI_l, lN_add, lN_mul, lN_sub, nI_add, pk_mul, pk_sub, pk_div, remN, Nat.add_sub_cancel, Nat.add_sub_cancel_left, Nat.zero_add, Nat.add_zero]; done) | (simp (disch := first | omega | assumption) only [wrI_s, wrI_o, wrI_r, wrL_1, wrL_r, wrL_s, wrL_o, blk_in, blk_out, blk_r, lit, litL, b00, b11, nI_l, lN_add, lN_mul, lN_sub, nI_add, pk_mul, pk_sub, pk_div, remN, Nat.add_sub_cancel, Nat.add_sub_cancel_left, Nat.zero_add, Nat.add_zero]; rfl) | rfl), fun i hi hne => by
        rw [wrI_ne (by decide), wrI_ne (by decide), wrI_o (by omega), fD.1 33 (nc (by decide))], by rw [wrI_ne (by decide), wrI_s, hne], by rw [wrI_s, fD.1 75 (nc (by decide)), hE, Nat.sub_zero]⟩ m2
      refine ⟨-nI 1, _, _, M2, cnt (neE s M) l, ?_, Or.inl ⟨rfl, rfl⟩, m1, hl', i1.tup, i2, by rw [f3.1 78 (nc (by decide))], k299⟩
      rw [eE]
      exact e_cl eCl (e_T rfl rfl)
