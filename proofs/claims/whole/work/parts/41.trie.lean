/-! the PTK of the reference -/
theorem loopR {R σ : Type} (L : Nat → Int32 → σ → R) (r : R → Prop) (P : Nat → σ → Prop) (a N : Nat) (haN : a ≤ N) (hN : N < 100000) (hs : ∀ m j T, a ≤ j → j < N → P j T → (∀ T', P (j + 1) T' → r (L m (nI (j + 1)) T')) → r (L (m + 1) (nI j) T)) (hx : ∀ m T, P N T → r (L (m + 1) (nI N) T)) (S : σ) (h0 : P a S) : r (L fu (nI a) S) := by
  have key : ∀ k, k ≤ N - a → ∀ m T, P (N - k) T → r (L (m + k + 1) (nI (N - k)) T) := by
    intro k
    induction k with
    | zero => intro _ m T hT; exact hx m T hT
    | succ k ih =>
      intro hk m T hT
      refine hs (m + k + 1) (N - (k + 1)) T (by omega) (by omega) hT (fun T' hT' => ?_)
      rw [show N - (k + 1) + 1 = N - k by omega] at hT' ⊢
      exact ih (by omega) m T' hT'
  obtain ⟨m0, hm0⟩ := fu_n (N := N - a) (by omega)
  rw [hm0]
  have h := key (N - a) (Nat.le_refl _) m0 S (by rw [show N - (N - a) = a by omega]; exact h0)
  rw [show N - (N - a) = a by omega] at h
  exact h
abbrev fL : List Nat := [201, 202, 203, 204, 205, 206, 233, 289, 290]
theorem haddM {S : Mm} {f : Nat → Int32} {n s : Nat} (hs9 : s < 9) (hs : str S f n) (hf : ∀ j, j < 6 → f (n + j) = adr (nI s) j) : ∃ S', F_X12_hashAddress (nI s) S = some ((), S') ∧ str S' f (n + 6) ∧ fr hL S S' := by
  have hd : ∀ s, s < 9 → ∀ j, j < 6 → adr (nI s) j = btL (2199023255552 + Int32.toInt64 (nI s)) (6 - 1 - j) := by decide
  obtain ⟨S', e, h1, h2⟩ := lettM (v := 2199023255552 + Int32.toInt64 (nI s)) (N := 6) (by decide) (by decide) hs (fun j hj => by rw [hf j hj, hd s hs9 j hj])
  unfold F_X12_hashAddress
  rw [show (6 : Int32) = nI 6 from rfl, e, cl_eq]
  exact ⟨S', rfl, h1, h2⟩
theorem labD : (∀ j, j < 8 → labL.getD j 0 = btL 5792026536125756261 (8 - 1 - j)) ∧ (∀ j, j < 8 → labL.getD (8 + j) 0 = btL 2336072402630703216 (8 - 1 - j)) ∧ (∀ j, j < 6 → labL.getD (16 + j) 0 = btL 107127010586478 (6 - 1 - j)) := by decide
theorem nI_and255 {n : Nat} (h : n < 256) : nI n &&& 255 = nI n := isB_and ⟨n, h, rfl⟩
theorem seedF_0 {st : Int32} {ap own : Nat → Int32} {t j : Nat} (h : j < 22) : seedF st ap own t j = labL.getD j 0 := if_pos h
theorem seedF_1 {st : Int32} {ap own : Nat → Int32} {t : Nat} : seedF st ap own t 22 = 0 := rfl
theorem seedF_2 {st : Int32} {ap own : Nat → Int32} {t j : Nat} (h : j < 6) : seedF st ap own t (23 + j) = adr 0 j := by
  unfold seedF
  rw [if_neg (by omega), if_neg (by omega), if_pos (by omega), Nat.add_sub_cancel_left]
theorem seedF_3 {st : Int32} {ap own : Nat → Int32} {t j : Nat} (h : j < 6) : seedF st ap own t (29 + j) = adr st j := by
  unfold seedF
  rw [if_neg (by omega), if_neg (by omega), if_neg (by omega), if_pos (by omega), Nat.add_sub_cancel_left]
theorem seedF_4 {st : Int32} {ap own : Nat → Int32} {t j : Nat} (h : j < 32) : seedF st ap own t (35 + j) = ap j := by
  unfold seedF
  rw [if_neg (by omega), if_neg (by omega), if_neg (by omega), if_neg (by omega), if_pos (by omega), Nat.add_sub_cancel_left]
theorem seedF_5 {st : Int32} {ap own : Nat → Int32} {t j : Nat} (h : j < 32) : seedF st ap own t (67 + j) = own j := by
  unfold seedF
  rw [if_neg (by omega), if_neg (by omega), if_neg (by omega), if_neg (by omega), if_neg (by omega), if_pos (by omega), Nat.add_sub_cancel_left]
theorem seedF_6 {st : Int32} {ap own : Nat → Int32} {t : Nat} : seedF st ap own t 99 = nI t := rfl
def tdn (S : Mm) (q : Nat → Int32) (o : Option (Unit × Mm)) : Prop := ∃ S', o = some ((), S') ∧ fr fL S S' ∧ ∀ j, j < 48 → S'.1 233 0 j = q j
theorem trieM {p c2 i2 a2 c4 i4 a4 : Nat} {S : Mm} (hp : p < 18) (hsec : ∀ k, k < 576 → isB (S.1 216 0 k)) (ho2 : okP true c2 i2 = true) (hc2 : c2 ∉ fL) (hk2 : a2 + 32 ≤ kn c2) (hn2 : kn c2 < 50000) (hb2 : ∀ k, k < 32 → isB (rdI S c2 i2 (a2 + k))) (ho4 : okP true c4 i4 = true) (hc4 : c4 ∉ fL) (hk4 : a4 + 32 ≤ kn c4) (hn4 : kn c4 < 50000) (hb4 : ∀ k, k < 32 → isB (rdI S c4 i4 (a4 + k))) :
    ∃ S', F_X12_findTried (nI p) c2 i2 (nI a2) c4 i4 (nI a4) S = some ((), S') ∧ fr fL S S' ∧ ∀ j, j < 48 → S'.1 233 0 j = ptkF (fun k => S.1 216 0 (32 * p + k)) (nI (p % 9)) (fun k => rdI S c2 i2 (a2 + k)) (fun k => rdI S c4 i4 (a4 + k)) j := by
  have hmod : ∀ p, p < 18 → nI p - nI p / 9 * 9 = nI (p % 9) := by decide
  have r216 : ∀ T : Mm, rdI T 216 0 = T.1 216 0 := fun T => by funext j; exact if_neg (by decide)
  unfold F_X12_findTried
  generalize hap : (fun k => rdI S c2 i2 (a2 + k)) = ap
  generalize how : (fun k => rdI S c4 i4 (a4 + k)) = own
  generalize hse : (fun k => S.1 216 0 (32 * p + k)) = sec
  refine loopR (L_X12_findTried_3 (nI p) c2 i2 (nI a2) c4 i4 (nI a4)) (tdn S (ptkF sec (nI (p % 9)) ap own)) (fun t T => fr fL S T ∧ ∀ j, j < 20 * t → j < 48 → T.1 233 0 j = ptkF sec (nI (p % 9)) ap own j) 0 3 (by decide) (by decide) (fun m t T _ ht hT hk => ?_) (fun m T hT => ?_) S ⟨fr.rf, fun j hj => absurd hj (by omega)⟩
  · obtain ⟨fT, hT⟩ := hT
    rw [L_X12_findTried_3, if_neg (show ¬ (3 : Int32) ≤ nI t from nI_ge (b := 3) ht (by decide)), show (32 : Int32) * nI p = nI (32 * p) from pk_mul 32 p, hmod p hp]
    generalize hG : cat (kpad sec 32 54) 64 (seedF (nI (p % 9)) ap own t) = G
    have gs : ∀ j, j < 100 → padF G 164 (64 + j) = seedF (nI (p % 9)) ap own t j := fun j hj => by
      rw [padF_lo (by omega), ← hG]
      unfold cat
      rw [if_neg (by omega), Nat.add_sub_cancel_left]
    have eT : (fun k => rdI T 216 0 (32 * p + k)) = sec := by rw [r216, fT.1 216 (by decide)]; exact hse
    have hb : ∀ k, k < 32 → isB (sec k) := fun k hk => by rw [← hse]; exact hsec _ (by omega)
    obtain ⟨S2, e2, s2, f2, k2⟩ := mbegM (S := T) (c := 216) (i := 0) (at' := 32 * p) (kl := 32) (padF G 164) (by decide) (by decide) (show _ ≤ 576 by omega) (by decide) (fun k hk => by have := hb k hk; rw [← eT] at this; exact this) (fun j hj => by rw [eT, padF_lo (by omega), ← hG]; exact if_pos hj)
    rw [eT] at k2
    rw [show (32 : Int32) = nI 32 from rfl, e2, cl_eq]
    obtain ⟨S5, e5, s5, f5⟩ := lettM (v := 5792026536125756261) (N := 8) (by decide) (by decide) s2 (fun j hj => by rw [gs j (by omega), seedF_0 (by omega)]; exact labD.1 j hj)
    rw [show (8 : Int32) = nI 8 from rfl, e5, cl_eq]
    obtain ⟨S8, e8, s8, f8⟩ := lettM (v := 2336072402630703216) (N := 8) (by decide) (by decide) s5 (fun j hj => by rw [show 64 + 8 + j = 64 + (8 + j) by omega, gs _ (by omega), seedF_0 (by omega)]; exact labD.2.1 j hj)
    rw [e8, cl_eq]
    obtain ⟨S11, e11, s11, f11⟩ := lettM (v := 107127010586478) (N := 6) (by decide) (by decide) s8 (fun j hj => by rw [show 64 + 8 + 8 + j = 64 + (16 + j) by omega, gs _ (by omega), seedF_0 (by omega)]; exact labD.2.2 j hj)
    rw [show (6 : Int32) = nI 6 from rfl, e11, cl_eq]
    obtain ⟨S14, e14, s14, f14⟩ := hash1 (v := 0) s11 (by rw [show 64 + 8 + 8 + 6 = 64 + 22 by omega, gs _ (by omega), seedF_1]; rfl)
    rw [e14, cl_eq]
    obtain ⟨S17, e17, s17, f17⟩ := haddM (s := 0) (by decide) s14 (fun j hj => by rw [show 64 + 8 + 8 + 6 + 1 + j = 64 + (23 + j) by omega, gs _ (by omega), seedF_2 hj]; rfl)
    rw [show (0 : Int32) = nI 0 from rfl, e17, cl_eq]
    obtain ⟨S20, e20, s20, f20⟩ := haddM (s := p % 9) (by omega) s17 (fun j hj => by rw [show 64 + 8 + 8 + 6 + 1 + 6 + j = 64 + (29 + j) by omega, gs _ (by omega), seedF_3 hj])
    rw [e20, cl_eq, show nI 0 = (0 : Int32) from rfl]
    have fA : fr (205 :: hL) T S20 := f2.tr ((f5.tr (f8.tr (f11.tr (f14.tr (f17.tr f20))))).up (by decide))
    have fB : fr fL S S20 := fT.tr (fA.up (by decide))
    refine hrunM (r := tdn S (ptkF sec (nI (p % 9)) ap own)) (v := fun j => ap j) (L_X12_findTried_71 (L_X12_findTried_3 (nI p) c2 i2 (nI a2) c4 i4 (nI a4) m) (nI p) c2 i2 (nI a2) c4 i4 (nI a4) (nI t)) s20 (by decide : 32 < 10000) (fun j hj => ?_) (fun m1 j U U' hj hU hh => ?_) (fun m1 U hU hF => ?_)
    · rw [show 64 + 8 + 8 + 6 + 1 + 6 + 6 + j = 64 + (35 + j) by omega, gs _ (by omega), seedF_4 hj, ← hap]
      exact (isB_and (hb2 j hj)).symm
    · have er : rdI U c2 i2 = rdI S c2 i2 := rdI_fr (fB.tr (hU.up (by decide))) hc2 i2
      rw [L_X12_findTried_71, if_neg (show ¬ (32 : Int32) ≤ nI j from nI_ge (b := 32) hj (by decide)), nI_add, ldP_n ho2 (by omega) (by omega), er, show rdI S c2 i2 (a2 + j) = ap j from by rw [← hap], hh, cl_eq, nI_1]
    · rw [L_X12_findTried_71, if_pos (show (32 : Int32) ≤ nI 32 by decide)]
      refine hrunM (r := tdn S (ptkF sec (nI (p % 9)) ap own)) (v := fun j => own j) (L_X12_findTried_97 (L_X12_findTried_3 (nI p) c2 i2 (nI a2) c4 i4 (nI a4) m) (nI p) c2 i2 (nI a2) c4 i4 (nI a4) (nI t)) hU (by decide : 32 < 10000) (fun j hj => ?_) (fun m2 j V V' hj hV hh => ?_) (fun m2 V hV hF2 => ?_)
      · rw [show 64 + 8 + 8 + 6 + 1 + 6 + 6 + 32 + j = 64 + (67 + j) by omega, gs _ (by omega), seedF_5 hj, ← how]
        exact (isB_and (hb4 j hj)).symm
      · have er : rdI V c4 i4 = rdI S c4 i4 := rdI_fr (fB.tr ((hF.up (by decide)).tr (hV.up (by decide)))) hc4 i4
        rw [L_X12_findTried_97, if_neg (show ¬ (32 : Int32) ≤ nI j from nI_ge (b := 32) hj (by decide)), nI_add, ldP_n ho4 (by omega) (by omega), er, show rdI S c4 i4 (a4 + j) = own j from by rw [← how], hh, cl_eq, nI_1]
      · rw [L_X12_findTried_97, if_pos (show (32 : Int32) ≤ nI 32 by decide)]
        obtain ⟨S27, e27, s27, f27⟩ := hash1 (v := nI t) hV (by rw [show 64 + 8 + 8 + 6 + 1 + 6 + 6 + 32 + 32 = 64 + 99 by omega, gs _ (by omega), seedF_6, nI_and255 (by omega)])
        rw [e27, cl_eq]
        obtain ⟨S30, e30, f30, d30⟩ := mendM (g := G) (n := 164) (key := sec) (kl := 32) (by decide) s27 (fun k hk => by rw [f27.1 205 (by decide), hF2.1 205 (by decide), hF.1 205 (by decide), f20.1 205 (by decide), f17.1 205 (by decide), f14.1 205 (by decide), f11.1 205 (by decide), f8.1 205 (by decide), f5.1 205 (by decide)]; exact k2 k hk) hb
        rw [e30, cl_eq]
        have fC : fr (204 :: 205 :: 206 :: hL) T S30 := (fA.up (by decide)).tr ((hF.up (by decide)).tr ((hF2.up (by decide)).tr ((f27.up (by decide)).tr (f30.up (by decide)))))
        have d30' : ∀ j, j < 20 → S30.1 204 0 j = hmac sec 32 (seedF (nI (p % 9)) ap own t) 100 j := fun j hj => by rw [d30 j hj, ← hG]; rfl
        refine loopR (L_X12_findTried_135 (L_X12_findTried_3 (nI p) c2 i2 (nI a2) c4 i4 (nI a4) m) (nI p) c2 i2 (nI a2) c4 i4 (nI a4) (nI t)) (tdn S (ptkF sec (nI (p % 9)) ap own)) (fun j V => V = blk S30 233 0 (20 * t) j (fun k => S30.1 204 0 k)) 0 (min 20 (48 - 20 * t)) (by omega) (by omega) (fun m3 j V _ hj hV hk2 => ?_) (fun m3 V hV => ?_) S30 (by rw [blk_0])
        · subst hV
          rw [L_X12_findTried_135, if_neg (show ¬ (20 : Int32) ≤ nI j from nI_ge (b := 20) (by omega) (by decide)), show (20 : Int32) * nI t = nI (20 * t) from pk_mul 20 t, nI_add, if_neg (show ¬ (48 : Int32) ≤ nI (20 * t + j) from nI_ge (b := 48) (by omega) (by decide)), ldA_n (by decide) (by omega) (by decide), stA_n (by decide) (by omega) (by decide), nI_1]
          refine hk2 _ ?_
          rw [← blk_succ, blk_ne (by decide)]
        · subst hV
          rw [L_X12_findTried_135]
          unfold L_X12_findTried_181
          rw [nI_1, show (20 : Int32) * nI t = nI (20 * t) from pk_mul 20 t, nI_add]
          have fD : fr fL S (blk S30 233 0 (20 * t) (min 20 (48 - 20 * t)) (fun k => S30.1 204 0 k)) := fT.tr ((fC.up (by decide)).tr (fr.bk (by decide)))
          have hfin := hk (blk S30 233 0 (20 * t) (min 20 (48 - 20 * t)) (fun k => S30.1 204 0 k)) ⟨fD, fun j hj hj2 => by
            by_cases hlo : j < 20 * t
            · rw [blk_out (by omega), fC.1 233 (by decide)]
              exact hT j hlo hj2
            · rw [blk_in (by omega) (by omega), d30' _ (by omega)]
              unfold ptkF
              rw [show j / 20 = t by omega, show j % 20 = j - 20 * t by omega]⟩
          by_cases h20 : (20 : Int32) ≤ nI (min 20 (48 - 20 * t))
          · rw [if_pos h20]
            exact hfin
          · rw [if_neg h20, if_pos (show (48 : Int32) ≤ nI (20 * t + min 20 (48 - 20 * t)) from nI_le (a := 48) (by
              have : ¬ 20 ≤ min 20 (48 - 20 * t) := fun z => h20 (nI_le (a := 20) z (by omega))
              omega) (by omega))]
            exact hfin
  · rw [L_X12_findTried_3, if_pos (show (3 : Int32) ≤ nI 3 by decide)]
    exact ⟨T, rfl, hT.1, fun j hj => hT.2 j (by omega) hj⟩
