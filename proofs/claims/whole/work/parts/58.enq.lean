/-! THE QUEUE: both sides queue -/
theorem QR.cg {C M C2 M2 : Mm} {a b a2 b2 : Nat} (h : QR C M a b) (hC : ∀ x, 80 ≤ x → x ≤ 87 → C2.1 x a2 0 = C.1 x a 0) (hC36 : ∀ j, C2.1 36 a2 j = C.1 36 a j) (hM : ∀ x, 235 ≤ x → x ≤ 241 → M2.1 x 0 b2 = M.1 x 0 b) (hM242 : ∀ j, j < 208 → M2.1 242 0 (208 * b2 + j) = M.1 242 0 (208 * b + j)) : QR C2 M2 a2 b2 := by
  obtain ⟨to, th, sq, len, z, kd, h1, h2, h3, h4, h5, h6, h7, h8, h9, h10, h11, h12, h13, h14, h15, h16, h17, h18, h19, h20, h21⟩ := h
  refine ⟨to, th, sq, len, z, kd, h1, h2, h3, h4, h5, h6, (hC 81 (by omega) (by omega)).trans h7, (hM 235 (by omega) (by omega)).trans h8, (hC 82 (by omega) (by omega)).trans h9, (hM 236 (by omega) (by omega)).trans h10, (hC 83 (by omega) (by omega)).trans h11, (hM 237 (by omega) (by omega)).trans h12, (hC 86 (by omega) (by omega)).trans h13, (hM 238 (by omega) (by omega)).trans h14, (hC 80 (by omega) (by omega)).trans h15, (hM 240 (by omega) (by omega)).trans h16, (hC 85 (by omega) (by omega)).trans h17, ?_, ?_, fun j hj => ?_, ?_⟩
  · rw [hC 87 (by omega) (by omega), hM 241 (by omega) (by omega)]; exact h18
  · rw [hM 241 (by omega) (by omega)]; exact h19
  · rw [hC36, hM242 j (by omega)]; exact h20 j hj
  · rcases h21 with ⟨g1, g2, g3, g4⟩ | ⟨g1, g2, g3, g4, g5⟩
    · exact Or.inl ⟨g1, (hM 239 (by omega) (by omega)).trans g2, g3, by rw [hC 84 (by omega) (by omega), hM242 6 (by omega)]; exact g4⟩
    · exact Or.inr ⟨g1, (hM 239 (by omega) (by omega)).trans g2, g3, g4, (hC 84 (by omega) (by omega)).trans g5⟩
def pos12 (C : Mm) (j : Nat) : Prop := ∃ u, 0 < u ∧ u ≤ 12 ∧ C.1 103 j 0 = nI u
def len1 (C : Mm) (j : Nat) : Prop := ∃ n, 0 < n ∧ n ≤ 300 ∧ C.1 100 j 0 = nI n
theorem IDue.nd {s : Nat} {C M C' M' : Mm} (h : IDue s C M) {u w : List Nat} (fC : fq u C C') (gM : fq w M M') (d : dj u [39, 94, 95] = true) (e : dj w IDue_M = true) (hu : ∀ j, j < 9 → M.1 257 0 j = nI 2 → pos12 C' j) : IDue s C' M' := by
  have hC := dj_of d
  have hM := dj_of e
  intro k hk
  obtain ⟨h1, h2⟩ := h k hk
  rw [fC.1 39 (hC 39 (by decide)), fC.1 94 (hC 94 (by decide)), fC.1 95 (hC 95 (by decide)), gM.1 257 (hM 257 (by decide)), gM.1 258 (hM 258 (by decide)), gM.1 254 (hM 254 (by decide)), gM.1 255 (hM 255 (by decide)), gM.2.1 259 (hM 259 (by decide))]
  refine ⟨h1, ?_⟩
  rcases h2 with h2 | ⟨d, d1, d2, d3, d4, d5, d6⟩
  · exact Or.inl h2
  · refine Or.inr ⟨d, d1, d2, d3, d4, d5, ?_⟩
    rcases d6 with d6 | ⟨g1, g2, g3, -⟩
    · exact Or.inl d6
    · exact Or.inr ⟨g1, g2, g3, hu k hk g2⟩
theorem IWai.nd {s : Nat} {C M C' M' : Mm} (h : IWai s C M) {u w : List Nat} (fC : fq u C C') (gM : fq w M M') (d : dj u [98] = true) (e : dj w IWai_M = true) (hu : ∀ j, j < 9 → M.1 255 0 j = nI 1 → pos12 C' j ∧ len1 C' j) : IWai s C' M' := by
  have hC := dj_of d
  have hM := dj_of e
  intro k hk
  rw [fC.1 98 (hC 98 (by decide)), gM.1 255 (hM 255 (by decide)), gM.1 256 (hM 256 (by decide))]
  rcases h k hk with h2 | ⟨w', n, u', g1, g2, g3, g4, g5, -⟩
  · exact Or.inl h2
  · obtain ⟨⟨u1, a1, a2, a3⟩, ⟨n1, b1, b2, b3⟩⟩ := hu k hk g5
    exact Or.inr ⟨w', n1, u1, g1, g2, g3, g4, g5, a1, a2, a3, b1, b2, b3⟩
theorem ISnd.nd {s l : Nat} {C M C' M' : Mm} (h : ISnd s l C M) {u w : List Nat} (fC : fq u C C') (gM : fq w M M') (d : dj u [96, 97] = true) (e : dj w ISnd_M = true) (hu : ∀ j, j < 9 → (∃ v, v < l ∧ M.1 254 0 j = nI v) → C.1 97 j 0 = nI 0 → pos12 C' j ∧ len1 C' j) : ISnd s l C' M' := by
  have hC := dj_of d
  have hM := dj_of e
  obtain ⟨h1, h2⟩ := h
  rw [ISnd, fC.1 96 (hC 96 (by decide)), fC.1 97 (hC 97 (by decide)), gM.1 254 (hM 254 (by decide)), gM.1 255 (hM 255 (by decide)), gM.1 260 (hM 260 (by decide)), gM.1 261 (hM 261 (by decide)), gM.1 262 (hM 262 (by decide)), gM.1 265 (hM 265 (by decide))]
  refine ⟨fun k hk => ?_, h2⟩
  rcases h1 k hk with g | ⟨v, t, m, g1, g2, g3, g4, g5, g6, g7, g8, g9⟩
  · exact Or.inl g
  · refine Or.inr ⟨v, t, m, g1, g2, g3, g4, g5, g6, g7, g8, ?_⟩
    rcases g9 with g9 | ⟨q1, q2, q3, -⟩
    · exact Or.inl g9
    · obtain ⟨⟨u1, a1, a2, a3⟩, ⟨n1, b1, b2, b3⟩⟩ := hu k hk ⟨v, g1, g2⟩ q1
      exact Or.inr ⟨q1, q2, q3, u1, n1, a1, a2, a3, b1, b2, b3⟩
theorem IDue.p2 {s j : Nat} {C M : Mm} (h : IDue s C M) (hj : j < 9) (h2 : M.1 257 0 j = nI 2) : pos12 C j := by
  obtain ⟨-, q⟩ := h j hj
  rcases q with ⟨q1, q2⟩ | ⟨d, d1, d2, d3, d4, d5, d6⟩
  · rw [q2] at h2; exact absurd h2 (by decide)
  · rcases d6 with ⟨g1, g2⟩ | ⟨g1, g2, g3, g4⟩
    · rw [g2] at h2; exact absurd h2 (by decide)
    · exact g4
theorem IWai.p1 {s j : Nat} {C M : Mm} (h : IWai s C M) (hj : j < 9) (h2 : M.1 255 0 j = nI 1) : pos12 C j ∧ len1 C j := by
  rcases h j hj with ⟨q1, q2⟩ | ⟨w', n, u', g1, g2, g3, g4, g5, a1, a2, a3, b1, b2, b3⟩
  · rw [q2] at h2; exact absurd h2 (by decide)
  · exact ⟨⟨u', a1, a2, a3⟩, ⟨n, b1, b2, b3⟩⟩
theorem ISnd.p0 {s l j : Nat} {C M : Mm} (h : ISnd s l C M) (hl : l < 2 ^ 31) (hj : j < 9) (h1 : ∃ v, v < l ∧ M.1 254 0 j = nI v) (h2 : C.1 97 j 0 = nI 0) : pos12 C j ∧ len1 C j := by
  rcases h.1 j hj with ⟨q1, q2⟩ | ⟨v, t, m, g1, g2, g3, g4, g5, g6, g7, g8, g9⟩
  · obtain ⟨v, hv, e⟩ := h1
    rw [e] at q1
    rw [nI_m1 (by omega)] at q1
    exact q1.elim
  · rcases g9 with ⟨q1, -⟩ | ⟨q1, q2, q3, u1, n1, a1, a2, a3, b1, b2, b3⟩
    · rw [q1] at h2; exact absurd h2 (by decide)
    · exact ⟨⟨u1, a1, a2, a3⟩, ⟨n1, b1, b2, b3⟩⟩
abbrev eqC : List Nat := [59, 60, 80, 81, 82, 83, 84, 85, 86, 87, 91, 103, 104]
abbrev eqM : List Nat := [234, 235, 236, 237, 238, 239, 240, 241, 242, 243, 244, 247, 248, 294]
abbrev eqR : List Nat := [36, 46, 47, 48, 49, 50, 51, 80, 83, 84, 87]
def EQF (C M C1 M1 : Mm) (k f u q z to kd th len : Nat) (sub : Int32) : Prop := fq eqC C C1 ∧ fq eqM M M1 ∧ ICon C1 M1 ∧ IDraw C1 M1 ∧ (C1.1 103 k 0 = nI (u + 1) ∧ C1.1 104 k 0 = nI ((q + 1) % 4096) ∧ (∀ j, ¬ j = k → C1.1 103 j 0 = C.1 103 j 0 ∧ C1.1 104 j 0 = C.1 104 j 0) ∧ ∀ x a', 80 ≤ x → x ≤ 87 → ¬ a' = 12 * k + (f + u) % 12 → C1.1 x a' 0 = C.1 x a' 0) ∧ (C1.1 81 (12 * k + (f + u) % 12) 0 = nI kd ∧ C1.1 82 (12 * k + (f + u) % 12) 0 = nI to ∧ C1.1 83 (12 * k + (f + u) % 12) 0 = nI 0 ∧ C1.1 84 (12 * k + (f + u) % 12) 0 = nI 0 ∧ C1.1 85 (12 * k + (f + u) % 12) 0 = nI z ∧ C1.1 86 (12 * k + (f + u) % 12) 0 = nI q ∧ C1.1 87 (12 * k + (f + u) % 12) 0 = -nI 1 ∧ C1.1 80 (12 * k + (f + u) % 12) 0 = nI 0) ∧ (M1.1 234 0 k = nI (u + 1) ∧ M1.1 247 0 k = nI ((q + 1) % 4096) ∧ (∀ j, ¬ j = k → M1.1 234 0 j = M.1 234 0 j ∧ M1.1 247 0 j = M.1 247 0 j ∧ M1.1 243 0 j = M.1 243 0 j ∧ M1.1 244 0 j = M.1 244 0 j) ∧ (0 < u → M1.1 243 0 k = M.1 243 0 k ∧ M1.1 244 0 k = M.1 244 0 k) ∧ (u = 0 → M1.1 243 0 k = nI 0 ∧ M1.1 244 0 k = nI 0)) ∧ (∀ x b', 235 ≤ x → x ≤ 241 → ¬ b' = 12 * k + u → M1.1 x 0 b' = M.1 x 0 b') ∧ (∀ b' j, j < 208 → ¬ b' = 12 * k + u → M1.1 242 0 (208 * b' + j) = M.1 242 0 (208 * b' + j)) ∧ (M1.1 235 0 (12 * k + u) = nI kd ∧ M1.1 236 0 (12 * k + u) = nI to ∧ M1.1 237 0 (12 * k + u) = nI th ∧ M1.1 238 0 (12 * k + u) = nI q ∧ M1.1 239 0 (12 * k + u) = nI (if kd = 8 then z else 255) ∧ M1.1 240 0 (12 * k + u) = nI len ∧ M1.1 241 0 (12 * k + u) = sub ∧ ∀ j, j < len → M1.1 242 0 (208 * (12 * k + u) + j) = M.1 253 0 j)
theorem enq_fin {C M C1 M1 : Mm} {s1 s2 s3 l k f u q z to kd th len : Nat} {sub : Int32} (E : EQF C M C1 M1 k f u q z to kd th len sub) (hl : l < 2 ^ 31) (hk : k < 9) (hf : f < 12) (hu : u < 12) (hq : q < 4096) (hto : to < 9) (hth : th < 9) (hlen : len ≤ 208) (hz1 : 16 ≤ z) (hz2 : z ≤ 255) (h102 : C.1 102 k 0 = nI f) (h103 : C.1 103 k 0 = nI u) (hsub : sub = -nI 1 ∨ ∃ x, x < 200 ∧ sub = nI x) (hIQue : IQue C M) (hIHnd : IHnd C M) (hIDue : IDue s1 C M) (hIWai : IWai s2 C M) (hISnd : ISnd s3 l C M) {C2 : Mm} {sl : Nat} (r1 : fq eqR C1 C2) (r2 : ∀ x, (x = 36 ∨ x = 80 ∨ x = 83 ∨ x = 84 ∨ x = 87) → ∀ b, ¬ b = 12 * k + (f + u) % 12 → C2.1 x b = C1.1 x b) (r3 : C2.1 80 (12 * k + (f + u) % 12) 0 = nI len) (r4 : C2.1 83 (12 * k + (f + u) % 12) 0 = nI th) (r5 : C2.1 87 (12 * k + (f + u) % 12) 0 = sub) (r6 : C2.1 84 (12 * k + (f + u) % 12) 0 = nI sl) (r7 : ∀ j, j < len → isB (M.1 253 0 j) ∧ C2.1 36 (12 * k + (f + u) % 12) j = M.1 253 0 j) (r8 : (kd = 8 ∧ 8 ≤ len ∧ sl = if M.1 253 0 6 = nI 8 then 1 else 0) ∨ ((kd = 176 ∨ kd = 0 ∨ kd = 16 ∨ kd = 192) ∧ 1 ≤ len ∧ len ≤ 6 ∧ sl = 0)) : IQue C2 M1 ∧ IHnd C2 M1 ∧ ICon C2 M1 ∧ IDraw C2 M1 ∧ IDue s1 C2 M1 ∧ IWai s2 C2 M1 ∧ ISnd s3 l C2 M1 := by
  obtain ⟨e1, e2, e3, e4, ⟨e5, e6, e7, e8⟩, ⟨e9, e10, e11, e12, e13, e14, e15, e16⟩, ⟨e17, e18, e19, e20, e21⟩, e22, e23, ⟨e24, e25, e26, e27, e28, e29, e30, e31⟩⟩ := E
  have c103 : C2.1 103 = C1.1 103 := r1.1 103 (nc (by decide))
  have c104 : C2.1 104 = C1.1 104 := r1.1 104 (nc (by decide))
  have c102 : C2.1 102 = C.1 102 := (r1.1 102 (nc (by decide))).trans (e1.1 102 (nc (by decide)))
  have c99 : C2.1 99 = C.1 99 := (r1.1 99 (nc (by decide))).trans (e1.1 99 (nc (by decide)))
  have c100 : C2.1 100 = C.1 100 := (r1.1 100 (nc (by decide))).trans (e1.1 100 (nc (by decide)))
  have c40 : C2.1 40 = C.1 40 := (r1.1 40 (nc (by decide))).trans (e1.1 40 (nc (by decide)))
  have c97 : C2.1 97 = C.1 97 := (r1.1 97 (nc (by decide))).trans (e1.1 97 (nc (by decide)))
  have row : ∀ x a', 80 ≤ x → x ≤ 87 → ¬ a' = 12 * k + (f + u) % 12 → C2.1 x a' 0 = C.1 x a' 0 := by
    intro x a' h1 h2 h3
    rw [← e8 x a' h1 h2 h3]
    by_cases h4 : x = 80 ∨ x = 83 ∨ x = 84 ∨ x = 87
    · rw [r2 x (Or.inr h4) a' h3]
    · rw [r1.1 x (fun z => by simp only [eqR, List.mem_cons, List.not_mem_nil, or_false] at z; omega)]
  have row36 : ∀ a', ¬ a' = 12 * k + (f + u) % 12 → C2.1 36 a' = C.1 36 a' := by
    intro a' h3
    rw [r2 36 (Or.inl rfl) a' h3, e1.1 36 (nc (by decide))]
  have rowN : ∀ x, (x = 81 ∨ x = 82 ∨ x = 85 ∨ x = 86) → C2.1 x = C1.1 x := by
    intro x h4
    exact r1.1 x (fun z => by simp only [eqR, List.mem_cons, List.not_mem_nil, or_false] at z; omega)
  have hpos : ∀ j, pos12 C j → pos12 C2 j := by
    rintro j ⟨u', a1, a2, a3⟩
    by_cases hj : j = k
    · subst hj
      exact ⟨u + 1, by omega, by omega, by rw [c103]; exact e5⟩
    · exact ⟨u', a1, a2, by rw [c103, (e7 j hj).1]; exact a3⟩
  have hlen1 : ∀ j, len1 C j → len1 C2 j := by
    rintro j ⟨n, a1, a2, a3⟩
    exact ⟨n, a1, a2, by rw [c100]; exact a3⟩
  have fC : fq (eqC ++ eqR) C C2 := (e1.up (by decide)).tr (r1.up (by decide))
  refine ⟨fun k' hk' => ?_, fun k' hk' => ?_, e3.fr r1 fq.rf (by decide) (u := eqR) (w := []) (by decide), e4.fr r1 fq.rf (by decide) (u := eqR) (w := []) (by decide), hIDue.nd fC e2 (by decide) (by decide) (fun j hj h => hpos j (hIDue.p2 hj h)), hIWai.nd fC e2 (by decide) (by decide) (fun j hj h => ⟨hpos j (hIWai.p1 hj h).1, hlen1 j (hIWai.p1 hj h).2⟩), hISnd.nd fC e2 (by decide) (by decide) (fun j hj h h' => ⟨hpos j (hISnd.p0 hl hj h h').1, hlen1 j (hISnd.p0 hl hj h h').2⟩)⟩
  · obtain ⟨f', u', q', b1, b2, b3, b4, b5, b6, b7, b8, b9⟩ := hIQue k' hk'
    by_cases hkk : k' = k
    · subst hkk
      have ef : f' = f := (nI_eq (by omega) (by omega)).mp (b4.symm.trans h102)
      have eu : u' = u := (nI_eq (by omega) (by omega)).mp (b5.symm.trans h103)
      subst ef eu
      refine ⟨f', u' + 1, (q + 1) % 4096, b1, by omega, Nat.mod_lt _ (by decide), by rw [c102]; exact b4, by rw [c103]; exact e5, e17, by rw [c104]; exact e6, e18, fun j hj => ?_⟩
      by_cases hju : j = u'
      · subst hju
        refine ⟨to, th, q, len, z, kd, hto, hth, hq, hlen, hz1, hz2, by rw [rowN 81 (by omega)]; exact e9, e24, by rw [rowN 82 (by omega)]; exact e10, e25, r4, e26, by rw [rowN 86 (by omega)]; exact e14, e27, r3, e29, by rw [rowN 85 (by omega)]; exact e13, r5.trans e30.symm, by rw [e30]; exact hsub, fun i hi => ?_, ?_⟩
        · rw [e31 i hi]
          exact r7 i hi
        · rcases r8 with ⟨g1, g2, g3⟩ | ⟨g1, g2, g3, g4⟩
          · refine Or.inl ⟨g1, by rw [e28, if_pos g1], g2, ?_⟩
            rw [r6, g3, e31 6 (by omega)]
          · refine Or.inr ⟨g1, by rw [e28, if_neg (by omega)], g2, g3, ?_⟩
            rw [r6, g4]
      · have ha : ¬ 12 * k' + (f' + j) % 12 = 12 * k' + (f' + u') % 12 := by omega
        exact (b9 j (by omega)).cg (fun x h1 h2 => row x _ h1 h2 ha) (fun i => by rw [row36 _ ha]) (fun x h1 h2 => e22 x _ h1 h2 (by omega)) (fun i hi => e23 _ i hi (by omega))
    · refine ⟨f', u', q', b1, b2, b3, by rw [c102]; exact b4, by rw [c103, (e7 k' hkk).1]; exact b5, by rw [(e19 k' hkk).1]; exact b6, by rw [c104, (e7 k' hkk).2]; exact b7, by rw [(e19 k' hkk).2.1]; exact b8, fun j hj => ?_⟩
      have ha : ¬ 12 * k' + (f' + j) % 12 = 12 * k + (f + u) % 12 := by omega
      exact (b9 j hj).cg (fun x h1 h2 => row x _ h1 h2 ha) (fun i => by rw [row36 _ ha]) (fun x h1 h2 => e22 x _ h1 h2 (by omega)) (fun i hi => e23 _ i hi (by omega))
  · obtain ⟨f', u', p, n, b1, b2, b3, b4, b5, b6, b7, b8⟩ := hIHnd k' hk'
    have m245 : M1.1 245 = M.1 245 := e2.1 245 (nc (by decide))
    have m246 : M1.1 246 = M.1 246 := e2.1 246 (nc (by decide))
    by_cases hkk : k' = k
    · subst hkk
      have ef : f' = f := (nI_eq (by omega) (by omega)).mp (b3.symm.trans h102)
      have eu : u' = u := (nI_eq (by omega) (by omega)).mp (b4.symm.trans h103)
      subst ef eu
      refine ⟨f', u' + 1, p, n, b1, by omega, by rw [c102]; exact b3, by rw [c103]; exact e5, by rw [c99]; exact b5, by rw [c100]; exact b6, fun h0 => absurd h0 (by omega), fun _ => ?_⟩
      by_cases hu0 : u' = 0
      · subst hu0
        obtain ⟨p0, n0⟩ := b7 rfl
        subst p0 n0
        have ea : 12 * k' + (f' + 0) % 12 = 12 * k' + f' := by omega
        rw [ea] at r3 e13
        refine ⟨(e21 rfl).1, ⟨z, len, by rw [rowN 85 (by omega)]; exact e13, r3, hz2, hlen, ?_⟩, Or.inl ⟨rfl, (e21 rfl).2⟩⟩
        rcases r8 with ⟨g1, g2, g3⟩ | ⟨g1, g2, g3, g4⟩
        · omega
        · omega
      · obtain ⟨d1, ⟨z', len', d2, d3, d4, d5, d6⟩, d7⟩ := b8 (by omega)
        have ha : ¬ 12 * k' + f' = 12 * k' + (f' + u') % 12 := by omega
        rw [m245, m246, c40, (e20 (by omega)).1, (e20 (by omega)).2]
        exact ⟨d1, ⟨z', len', by rw [row 85 _ (by omega) (by omega) ha]; exact d2, by rw [row 80 _ (by omega) (by omega) ha]; exact d3, d4, d5, d6⟩, d7⟩
    · refine ⟨f', u', p, n, b1, b2, by rw [c102]; exact b3, by rw [c103, (e7 k' hkk).1]; exact b4, by rw [c99]; exact b5, by rw [c100]; exact b6, b7, fun h0 => ?_⟩
      obtain ⟨d1, ⟨z', len', d2, d3, d4, d5, d6⟩, d7⟩ := b8 h0
      have ha : ¬ 12 * k' + f' = 12 * k + (f + u) % 12 := by omega
      rw [m245, m246, c40, (e19 k' hkk).2.2.1, (e19 k' hkk).2.2.2]
      exact ⟨d1, ⟨z', len', by rw [row 85 _ (by omega) (by omega) ha]; exact d2, by rw [row 80 _ (by omega) (by omega) ha]; exact d3, d4, d5, d6⟩, d7⟩
