/-! ALL NODES BEGIN -/
theorem loop2 {R1 R2 : Type} (L1 : Nat → Int32 → Mm → R1) (L2 : Nat → Int32 → Mm → R2) (P : Nat → Mm → Mm → Prop) (N : Nat) (hN : N < 100000) (hs : ∀ k C M, k < N → P k C M → ∃ C' M', P (k + 1) C' M' ∧ (∀ n, L1 (n + 1) (nI k) C = L1 n (nI (k + 1)) C') ∧ (∀ n, L2 (n + 1) (nI k) M = L2 n (nI (k + 1)) M')) {C M : Mm} (h0 : P 0 C M) : ∃ C' M' n, P N C' M' ∧ L1 fu 0 C = L1 (n + 1) (nI N) C' ∧ L2 fu 0 M = L2 (n + 1) (nI N) M' := by
  obtain ⟨m, hm⟩ := fu_n hN
  have key : ∀ k, k ≤ N → ∃ C' M', P k C' M' ∧ L1 fu 0 C = L1 (m + (N - k) + 1) (nI k) C' ∧ L2 fu 0 M = L2 (m + (N - k) + 1) (nI k) M' := by
    intro k
    induction k with
    | zero => intro _; exact ⟨C, M, h0, by rw [Nat.sub_zero, ← hm]; rfl, by rw [Nat.sub_zero, ← hm]; rfl⟩
    | succ k ih =>
      intro hk
      obtain ⟨C1, M1, p1, e1, e2⟩ := ih (by omega)
      obtain ⟨C2, M2, p2, f1, f2⟩ := hs k C1 M1 (by omega) p1
      refine ⟨C2, M2, p2, ?_, ?_⟩
      · rw [e1, f1, show m + (N - k) = m + (N - (k + 1)) + 1 by omega]
      · rw [e2, f2, show m + (N - k) = m + (N - (k + 1)) + 1 by omega]
  obtain ⟨C', M', p1, e1, e2⟩ := key N (Nat.le_refl N)
  rw [Nat.sub_self] at e1 e2
  exact ⟨C', M', m, p1, e1, e2⟩
theorem quS {s : Nat} {C M : Mm} (hs : s < 2 ^ 29) (h76 : C.1 76 0 0 = nI s) (hq : IQui s C M) : ∃ q, q ≤ 3 ∧ M.1 299 0 0 = nI q ∧ F_X5_isQuietSince C = some (nI (if q = 3 then 1 else 0), C) := by
  obtain ⟨q, q1, q2, q3⟩ := hq
  refine ⟨q, q1, q2, ?_⟩
  unfold F_X5_isQuietSince
  rcases q3 with ⟨a1, a2, a3⟩ | ⟨a1, a2⟩
  · rw [if_neg (by omega)]
    refine e_gf h76 (e_gf a3 (e_T ?_ rfl))
    rw [pk_sub (by omega), show (3 : Int32) = nI 3 from rfl, nI_leI (by omega) (by omega)]
    omega
  · rw [if_pos a1]
    rcases a2 with a2 | ⟨b, b1, b2⟩
    · refine e_gf h76 (e_gf a2 (e_N ?_ rfl))
      have e : nI s - -nI 4 = nI (s + 4) := by
        rw [Int32.sub_neg, nI_add]
      rw [e, show (3 : Int32) = nI 3 from rfl, nI_leI (by omega) (by omega)]
      omega
    · refine e_gf h76 (e_gf b2 (e_N ?_ rfl))
      rw [pk_sub (by omega), show (3 : Int32) = nI 3 from rfl, nI_leI (by omega) (by omega)]
      omega
theorem cont {c s d w p t g l k : Nat} {C M : Mm} (h : SS c s d w s p t g l C M) (hk : k < 9) (hs : s < 2 ^ 28) (hd : d < 2 ^ 29) (hw : w < 2 ^ 29) (hl : l < 2 ^ 31) : ∃ r, r ≤ 1 ∧ F_X7_contends k (nI s) C = some (nI r, C) ∧ (r = 1 ↔ (M.1 254 0 k = -nI 1 ∧ M.1 257 0 k = nI 0 ∧ M.1 255 0 k = nI 0 ∧ ∃ u, 0 < u ∧ u ≤ 12 ∧ M.1 234 0 k = nI u)) := by
  obtain ⟨hITape, hIDraw, hINois, hIPar, hISub, hIKey, hIRef, hISta, hILnk, hIBeg, hIQue, hIHnd, hICon, hIDue, hIWai, hISnd, hISlo, hISto, hIRng, hILiv, hIEnd, hIPut, hILat, hIInb, hICnt, hIAlq⟩ := h
  obtain ⟨f, u, q, e1, e2, e3, e4, e5, e6, e7, e8, e9⟩ := hIQue k hk
  unfold F_X7_contends L_X7_contends_38
  by_cases hu : u = 0
  · subst hu
    refine ⟨0, by decide, e_gd hk (e_gf e5 (e_T (by decide) rfl)), fun h => absurd h (by decide), fun hh => ?_⟩
    obtain ⟨-, -, -, u', a1, a2, a3⟩ := hh
    have := (nI_eq (by omega) (by omega)).mp (e6.symm.trans a3)
    omega
  have hu0 : ¬ nI u ≤ 0 := nI_nle (by omega) (by omega)
  rcases (hIDue k hk).2 with ⟨d1, d2⟩ | ⟨dd, d1, d2, d3, d4, d5, d6⟩
  · rcases hIWai k hk with ⟨w1, w2⟩ | ⟨w', n, u', w1, w2, w3, w4, w5, -⟩
    · rcases hISnd.1 k hk with ⟨s1, s2⟩ | ⟨v, t', m, s1, s2, s3, s4, s5, s6, -⟩
      · refine ⟨1, by decide, ?_, fun _ => ⟨s1, d2, w2, u, by omega, e2, e6⟩, fun _ => rfl⟩
        refine e_gd hk (e_gf e5 (e_N hu0 (e_gf d1 (e_T rfl (e_gf w1 (e_T rfl ?_))))))
        rcases s2 with s2 | ⟨x, x1, x2⟩
        · refine e_gf s2 (e_N ?_ rfl)
          rw [i32_le, nI_toInt (by omega), show (-nI 1 : Int32).toInt = -1 by decide]
          omega
        · exact e_gf x2 (e_N (by rw [nI_leI (by omega) (by omega)]; omega) rfl)
      · refine ⟨0, by decide, ?_, fun h => absurd h (by decide), fun hh => ?_⟩
        · refine e_gd hk (e_gf e5 (e_N hu0 (e_gf d1 (e_T rfl (e_gf w1 (e_T rfl (e_gf s6 (e_T ?_ rfl))))))))
          obtain ⟨x, t2, n', sd', c', p1, p2, p3, p4, p5, p6, p7, p8, p9, -⟩ := hILiv.1 v s1
          have et : nI t' = nI t2 := s4.symm.trans p9
          rw [et, nI_leI (by omega) (by omega)]
          exact p2
        · rw [hh.1] at s2
          exact absurd s2.symm (by rw [nI_m1 (by omega)]; exact id)
    · refine ⟨0, by decide, ?_, fun h => absurd h (by decide), fun hh => ?_⟩
      · exact e_gd hk (e_gf e5 (e_N hu0 (e_gf d1 (e_T rfl (e_gf w3 (e_N (show ¬ nI w' = -nI 1 by rw [nI_m1 (by omega)]; exact id) rfl))))))
      · rw [hh.2.2.1] at w5
        exact absurd w5 (by decide)
  · refine ⟨0, by decide, ?_, fun h => absurd h (by decide), fun hh => ?_⟩
    · exact e_gd hk (e_gf e5 (e_N hu0 (e_gf d3 (e_N (show ¬ nI dd = -nI 1 by rw [nI_m1 (by omega)]; exact id) rfl))))
    · rcases d6 with ⟨-, g2⟩ | ⟨-, g2, -⟩
      · rw [hh.2.1] at g2; exact absurd g2 (by decide)
      · rw [hh.2.1] at g2; exact absurd g2 (by decide)
