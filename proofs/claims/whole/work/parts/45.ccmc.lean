/-! CCM: the class -/
theorem wr12 {T : Mm} {c j d : Nat} {x : Int32} : (wrI T c 0 j x).1 c 0 d = if d = j then x else T.1 c 0 d := by
  show (if c = c ∧ 0 = 0 ∧ d = j then x else _) = _
  by_cases h : d = j
  · rw [if_pos ⟨rfl, rfl, h⟩, if_pos h]
  · rw [if_neg (fun z => h z.2.2), if_neg h]
theorem addiC {c i j : Nat} {S : Mm} {h : Nat → Int32} (hj : j < 22) (ho : okP false c i = true) (hk : 32 ≤ kn c) (hn : kn c < 50000) (hh : ∀ k, k < 32 → rdI S c i k = h k) : F_X0_additional c i (nI j) S = some (addF h j, S) := by
  unfold F_X0_additional addF
  by_cases h0 : j = 0
  · subst h0
    rw [if_pos (show nI 0 = 0 from rfl), ldP_l 0 0 rfl ho (by omega) hn, hh 0 (by omega), if_pos rfl]
  · rw [if_neg (nI_ne0 (by omega) (by omega)), if_neg h0]
    by_cases h1 : j = 1
    · subst h1
      rw [if_pos (show nI 1 = 1 from rfl), ldP_l 1 1 rfl ho (by omega) hn, hh 1 (by omega), if_pos rfl]
    · rw [if_neg (show ¬ nI j = 1 from fun z => h1 ((nI_eq (b := 1) (by omega) (by decide)).mp z)), if_neg h1]
      by_cases h2 : j = 20
      · subst h2
        rw [if_pos (show nI 20 = 20 from rfl), ldP_l 22 22 rfl ho (by omega) hn, hh 22 (by omega), if_pos rfl]
      · rw [if_neg (show ¬ nI j = 20 from fun z => h2 ((nI_eq (b := 20) (by omega) (by decide)).mp z)), if_neg h2]
        by_cases h3 : j = 21
        · subst h3
          rw [if_pos (show nI 21 = 21 from rfl), if_pos rfl]
        · rw [if_neg (show ¬ nI j = 21 from fun z => h3 ((nI_eq (b := 21) (by omega) (by decide)).mp z)), if_neg h3, ldP_l ((4 + nI j) - 2) (2 + j) (by rw [show (4 : Int32) + nI j = nI (4 + j) from nI_add 4 j, show nI (4 + j) - 2 = nI (4 + j - 2) from pk_sub (b := 2) (by omega), show 4 + j - 2 = 2 + j by omega]) ho (by omega) hn, hh _ (by omega)]
theorem addC {c i n : Nat} {S : Mm} {ks h p : Nat → Int32} (ho : okP false c i = true) (hc : c ∉ [12, 14]) (hk : 32 ≤ kn c) (hn : kn c < 50000) (hks : ∀ k, k < 176 → S.1 15 0 k = ks k) (kB : ∀ k, k < 176 → isB (ks k)) (hh : ∀ k, k < 32 → rdI S c i k = h k) (hB : ∀ k, k < 32 → isB (h k)) (hp : ∀ k, k < n → S.1 11 0 k = p k) (pB : ∀ k, k < n → isB (p k)) (hn3 : n ≤ 300) :
    ∃ S', F_X0_addUp c i (nI n) S = some ((), S') ∧ fr [12, 14] S S' ∧ ∀ k, k < 16 → S'.1 12 0 k = macF ks (nnC h) (aadF h) p n k := by
  have c12 : ¬ c = 12 := fun e => hc (by rw [e]; decide)
  have nB : ∀ k, k < 13 → isB (nnC h k) := fun k hk => nnC_B hB hk
  have aB := aadF_B hB
  unfold F_X0_addUp
  obtain ⟨S2, e2, f2, v2⟩ := firstC (c := 12) (a := 89) (v := n) (by decide) (by decide) ho c12 hk hn hh (by omega)
  rw [e2, cl_eq]
  have fA : fr [12, 14] S S2 := f2.up (by decide)
  obtain ⟨S5, e5, f5, v5⟩ := encC2 (c := 12) (S := S2) (ks := ks) (by decide) (by decide) (by decide) v2 (fun k _ => blkF_B isB_89 nB (by omega)) (fun k hk => by rw [fA.1 15 (by decide)]; exact hks k hk) kB
  rw [e5, cl_eq]
  have fB : fr [12, 14] S S5 := fA.tr f5
  generalize hX0 : aes ks (blkF 89 (nnC h) n) 10 = X0 at v5
  have X0B : ∀ k, k < 16 → isB (X0 k) := by rw [← hX0]; exact aes_B kB (fun k _ => blkF_B isB_89 nB (by omega)) 10 (by decide)
  rw [show ldA S5 12 0 16 1 1 = fun K => K (S5.1 12 0 1) from funext fun K => ldA_n (j := 1) (by decide) (by decide) (by decide)]
  dsimp only
  rw [show stA S5 12 0 16 1 1 (S5.1 12 0 1 ^^^ 22) = fun K => K (wrI S5 12 0 1 (S5.1 12 0 1 ^^^ 22)) from funext fun K => stA_n (j := 1) (by decide) (by decide) (by decide)]
  dsimp only
  refine loopR (L_X0_addUp_32 c i (nI n)) (fun o => ∃ S', o = some ((), S') ∧ fr [12, 14] S S' ∧ ∀ k, k < 16 → S'.1 12 0 k = macF ks (nnC h) (aadF h) p n k) (fun j T => fr [12, 14] S T ∧ ∀ k, k < 16 → T.1 12 0 k = if j + 2 = 16 then X0 k ^^^ aadF h k else pc ks X0 (aadF h) (j + 2) k) 0 22 (by decide) (by decide) (fun m j T _ hj hT hk2 => ?_) (fun m T hT => ?_) _ ⟨fB.tr (fr.wr (by decide)), fun k hk => ?_⟩
  · obtain ⟨fT, vT⟩ := hT
    have hm : ∀ j, j < 22 → (nI j + 2) - (nI j + 2) / 16 * 16 = nI ((j + 2) % 16) := by decide
    -- with the block of position j + 2 in place
    have tail : ∀ U : Mm, fr [12, 14] S U → (∀ k, k < 16 → U.1 12 0 k = pc ks X0 (aadF h) (j + 2) k) → ∃ S', L_X0_addUp_59 (L_X0_addUp_32 c i (nI n) m) c i (nI n) (nI j) (nI ((j + 2) % 16)) U = some ((), S') ∧ fr [12, 14] S S' ∧ ∀ k, k < 16 → S'.1 12 0 k = macF ks (nnC h) (aadF h) p n k := by
      intro U fU vU
      unfold L_X0_addUp_59
      rw [ldA_n (by decide) (by omega) (by decide), addiC (h := h) hj ho hk hn (fun k hk => by rw [rdI_fr fU hc i]; exact hh k hk), cl_eq, stA_n (by decide) (by omega) (by decide), nI_1]
      refine hk2 _ ⟨fU.tr (fr.wr (by decide)), fun k hk => ?_⟩
      rw [wr12, vU _ (by omega), show addF h j = aadF h (j + 2) from by unfold aadF; rw [if_neg (by omega), if_neg (by omega), if_neg (by omega), Nat.add_sub_cancel]]
      by_cases h13 : (j + 2) % 16 = 15
      · rw [show j + 1 + 2 = 16 by omega, if_pos rfl]
        have := pcB (ks := ks) (X := X0) (f := aadF h) (j := j + 2) hk h13
        rw [show (j + 2) / 16 = 0 by omega, Nat.mul_zero, Nat.zero_add] at this
        rw [vU k hk]
        exact this
      · rw [if_neg (show ¬ j + 1 + 2 = 16 by omega), vU k hk]
        exact pcA h13
    rw [L_X0_addUp_32, if_neg (show ¬ (22 : Int32) ≤ nI j from nI_ge (b := 22) hj (by decide)), hm j hj, tp_eq]
    by_cases h14 : j + 2 = 16
    · rw [if_pos (show nI ((j + 2) % 16) = 0 by rw [h14]; rfl)]
      obtain ⟨U, eU, fU, vU⟩ := encC2 (c := 12) (S := T) (ks := ks) (X := fun k => X0 k ^^^ aadF h k) (by decide) (by decide) (by decide) (fun k hk => by rw [vT k hk, if_pos h14]) (fun k hk => isB_xor (X0B k hk) (aB k)) (fun k hk => by rw [fT.1 15 (by decide)]; exact hks k hk) kB
      rw [eU, cl_eq]
      refine tail U (fT.tr fU) (fun k hk => ?_)
      rw [vU k hk]
      have := pcC (ks := ks) (X := X0) (f := aadF h) (j := 15) (k := k) (by decide)
      rw [show 15 / 16 = 0 from rfl, Nat.mul_zero] at this
      rw [h14, ← this]
      refine aes_congr (fun _ _ => rfl) (fun k _ => ?_) 10 (by decide) k hk
      rw [Nat.zero_add]
      rfl
    · rw [if_neg (show ¬ nI ((j + 2) % 16) = 0 from nI_ne0 (by omega) (by omega))]
      exact tail T fT (fun k hk => by rw [vT k hk, if_neg h14])
  · obtain ⟨fT, vT⟩ := hT
    rw [L_X0_addUp_32, if_pos (show (22 : Int32) ≤ nI 22 by decide)]
    obtain ⟨U, eU, fU, vU⟩ := encC2 (c := 12) (S := T) (ks := ks) (X := fun k => chn ks X0 (aadF h) 1 k ^^^ aadF h (16 * 1 + k)) (by decide) (by decide) (by decide) (fun k hk => by
      rw [vT k hk, if_neg (by decide)]
      show chn ks X0 (aadF h) 1 k ^^^ (if k < 8 then aadF h (16 * 1 + k) else 0) = _
      by_cases h8 : k < 8
      · rw [if_pos h8]
      · rw [if_neg h8]
        congr 1
        unfold aadF
        rw [if_neg (by omega), if_neg (by omega), if_pos (by omega)]) (fun k hk => isB_xor (chn_B kB X0B aB 1 k hk) (aB _)) (fun k hk => by rw [fT.1 15 (by decide)]; exact hks k hk) kB
    rw [eU, cl_eq]
    have fU2 : fr [12, 14] S U := fT.tr fU
    have vU2 : ∀ k, k < 16 → U.1 12 0 k = chn ks X0 (aadF h) 2 k := vU
    have mE : macF ks (nnC h) (aadF h) p n = chn ks (chn ks X0 (aadF h) 2) (padZ p n) ((n + 15) / 16) := by unfold macF; rw [hX0]
    rw [mE]
    have X2B := chn_B kB X0B aB 2
    generalize chn ks X0 (aadF h) 2 = X2 at vU2 X2B
    have zB := padZ_B pB
    refine loopR (L_X0_addUp_90 (nI n)) (fun o => ∃ S', o = some ((), S') ∧ fr [12, 14] S S' ∧ ∀ k, k < 16 → S'.1 12 0 k = chn ks X2 (padZ p n) ((n + 15) / 16) k) (fun j V => fr [12, 14] S V ∧ ∀ k, k < 16 → V.1 12 0 k = if j = n then chn ks X2 (padZ p n) ((n + 15) / 16) k else pc ks X2 (padZ p n) j k) 0 n (by omega) (by omega) (fun m j V _ hj hV hk2 => ?_) (fun m V hV => ?_) U ⟨fU2, fun k hk => ?_⟩
    · obtain ⟨fV, vV⟩ := hV
      have vV' : ∀ k, k < 16 → V.1 12 0 k = pc ks X2 (padZ p n) j k := fun k hk => by rw [vV k hk, if_neg (by omega)]
      have hpj : V.1 11 0 j = padZ p n j := by rw [fV.1 11 (by decide), hp j hj]; unfold padZ; rw [if_pos hj]
      have hm : nI j - nI j / 16 * 16 = nI (j % 16) := pk_rem (d := 16) (by omega) (by decide) (by decide)
      have hn1 : 0 < n := by omega
      rw [L_X0_addUp_90, if_neg (nI_ge hj (by omega)), hm, ldA_n (by decide) (by omega) (by decide), ldA_n (by decide) (by omega) (by decide), stA_n (by decide) (by omega) (by decide), show nI n - 1 = nI (n - 1) from pk_sub (b := 1) (by omega)]
      generalize hW : wrI V 12 0 (j % 16) (V.1 12 0 (j % 16) ^^^ V.1 11 0 j) = W
      have fW : fr [12, 14] S W := by rw [← hW]; exact fV.tr (fr.wr (by decide))
      have vW : ∀ k, k < 16 → W.1 12 0 k = if k = j % 16 then pc ks X2 (padZ p n) j (j % 16) ^^^ padZ p n j else pc ks X2 (padZ p n) j k := fun k hk => by
        rw [← hW, wr12, vV' _ (by omega), hpj]
        by_cases h : k = j % 16
        · rw [if_pos h, if_pos h]
        · rw [if_neg h, if_neg h, vV' k hk]
      -- a block that ends here
      have enc : (∀ k, k < 16 → W.1 12 0 k = chn ks X2 (padZ p n) (j / 16) k ^^^ padZ p n (16 * (j / 16) + k)) → (∀ k, k < 16 → chn ks X2 (padZ p n) (j / 16 + 1) k = if j + 1 = n then chn ks X2 (padZ p n) ((n + 15) / 16) k else pc ks X2 (padZ p n) (j + 1) k) → ∃ S', L_X0_addUp_129 (L_X0_addUp_90 (nI n) m) (nI n) (nI j) W = some ((), S') ∧ fr [12, 14] S S' ∧ ∀ k, k < 16 → S'.1 12 0 k = chn ks X2 (padZ p n) ((n + 15) / 16) k := by
        intro h1 h2
        unfold L_X0_addUp_129 L_X0_addUp_137
        obtain ⟨Z, eZ, fZ, vZ⟩ := encC2 (c := 12) (S := W) (ks := ks) (X := fun k => chn ks X2 (padZ p n) (j / 16) k ^^^ padZ p n (16 * (j / 16) + k)) (by decide) (by decide) (by decide) h1 (fun k hk => isB_xor (chn_B kB X2B zB _ k hk) (zB _)) (fun k hk => by rw [fW.1 15 (by decide)]; exact hks k hk) kB
        rw [eZ, cl_eq, nI_1]
        exact hk2 Z ⟨fW.tr fZ, fun k hk => by rw [vZ k hk, ← h2 k hk]; rfl⟩
      by_cases h15 : j % 16 = 15
      · rw [if_pos (show nI (j % 16) = 15 by rw [h15]; rfl)]
        refine enc (fun k hk => by rw [vW k hk]; exact pcB hk h15) (fun k hk => ?_)
        by_cases hl : j + 1 = n
        · rw [if_pos hl, show (n + 15) / 16 = j / 16 + 1 by omega]
        · rw [if_neg hl]
          unfold pc
          rw [show (j + 1) % 16 = 0 by omega, px_0, show (j + 1) / 16 = j / 16 + 1 by omega]
      · rw [if_neg (show ¬ nI (j % 16) = 15 from fun z => h15 ((nI_eq (b := 15) (by omega) (by decide)).mp z))]
        by_cases hl : j = n - 1
        · rw [if_pos (show nI j = nI (n - 1) by rw [hl])]
          refine enc (fun k hk => ?_) (fun k hk => ?_)
          · rw [vW k hk, pcA h15]
            unfold pc px
            rw [show (j + 1) / 16 = j / 16 by omega]
            by_cases hk3 : k < (j + 1) % 16
            · rw [if_pos hk3]
            · rw [if_neg hk3, show padZ p n (16 * (j / 16) + k) = 0 from if_neg (by omega)]
          · rw [if_pos (by omega), show (n + 15) / 16 = j / 16 + 1 by omega]
        · rw [if_neg (show ¬ nI j = nI (n - 1) from fun z => hl ((nI_eq (by omega) (by omega)).mp z))]
          unfold L_X0_addUp_137
          rw [nI_1]
          exact hk2 W ⟨fW, fun k hk => by rw [vW k hk, pcA h15, if_neg (by omega)]⟩
    · rw [L_X0_addUp_90, if_pos (nI_le (Nat.le_refl n) (by omega))]
      exact ⟨V, rfl, hV.1, fun k hk => by rw [hV.2 k hk, if_pos rfl]⟩
    · by_cases h0 : 0 = n
      · rw [if_pos h0, ← h0]
        exact vU2 k hk
      · rw [if_neg h0, vU2 k hk]
        unfold pc
        rw [show 0 % 16 = 0 from rfl, px_0]
        rfl
  · rw [if_neg (by decide), wr12, v5 k hk, v5 1 (by decide)]
    show _ = X0 k ^^^ (if k < 2 then aadF h (16 * 0 + k) else 0)
    by_cases h1 : k = 1
    · subst h1
      rw [if_pos rfl, if_pos (by decide)]
      rfl
    · rw [if_neg h1]
      by_cases h2 : k < 2
      · have h0 : k = 0 := by omega
        subst h0
        rw [if_pos h2]
        exact (xor_0 _).symm
      · rw [if_neg h2, xor_0]
