/-! CCM: the reference -/
theorem encM2 {S : Mm} {ks X : Nat → Int32} (hx : boxd S) (hX : ∀ k, k < 16 → S.1 209 0 k = X k) (XB : ∀ k, k < 16 → isB (X k)) (hks : ∀ k, k < 176 → S.1 208 0 k = ks k) (kB : ∀ k, k < 176 → isB (ks k)) :
    ∃ S', F_X12_encipher S = some ((), S') ∧ fr [209, 210] S S' ∧ ∀ k, k < 16 → S'.1 209 0 k = aes ks X 10 k := by
  obtain ⟨S', e, f, v⟩ := encM hx (fun k hk => by rw [hX k hk]; exact XB k hk) (fun k hk => by rw [hks k hk]; exact kB k hk)
  exact ⟨S', e, f, fun k hk => by rw [v k hk]; exact aes_congr hks hX 10 (by decide) k hk⟩
theorem boxd_fr {l : List Nat} {S S' : Mm} (hx : boxd S) (h : fr l S S') (hl : 207 ∉ l) : boxd S' := fun n hn => by rw [h.1 207 hl]; exact hx n hn
theorem nonceM {c i at' : Nat} {num : Int64} {S : Mm} {h : Nat → Int32} (ho : okP true c i = true) (hc : ¬ c = 211) (hk : at' + 32 ≤ kn c) (hn : kn c < 50000) (hh : ∀ k, k < 32 → rdI S c i (at' + k) = h k) (hnum : ∀ j, j < 6 → btL num (5 - j) = nnC h (7 + j)) :
    ∃ S', F_X12_nonceOf c i (nI at') num S = some ((), S') ∧ fr [211] S S' ∧ ∀ k, k < 13 → S'.1 211 0 k = nnC h k := by
  unfold F_X12_nonceOf
  rw [show stA S 211 0 13 1 0 0 = fun K => K (wrI S 211 0 0 0) from funext fun K => stA_n (j := 0) (by decide) (by decide) (by decide)]
  refine loopR (L_X12_nonceOf_10 c i (nI at') num) (fun o => ∃ S', o = some ((), S') ∧ fr [211] S S' ∧ ∀ k, k < 13 → S'.1 211 0 k = nnC h k) (fun j T => fr [211] S T ∧ T.1 211 0 0 = 0 ∧ ∀ k, k < j → T.1 211 0 (1 + k) = h (10 + k) ∧ T.1 211 0 (7 + k) = nnC h (7 + k)) 0 6 (by decide) (by decide) (fun m j T _ hj hT hk2 => ?_) (fun m T hT => ?_) _ ⟨fr.wr (by decide), wrI_s, fun k hk => absurd hk (by omega)⟩
  · obtain ⟨fT, zT, vT⟩ := hT
    have hsh : ∀ j, j < 6 → (((Int32.toInt64 (40 - (8 * nI j)) &&& 63).toBitVec).smod 64).toNat = 8 * (5 - j) := by decide
    rw [L_X12_nonceOf_10, if_neg (show ¬ (6 : Int32) ≤ nI j from nI_ge (b := 6) hj (by decide)), ldP_l ((nI at' + 10) + nI j) (at' + (10 + j)) (by rw [show nI at' + 10 = nI (at' + 10) from nI_add at' 10, nI_add, Nat.add_assoc]) ho (by omega) hn, show (1 : Int32) + nI j = nI (1 + j) from nI_add 1 j, show (7 : Int32) + nI j = nI (7 + j) from nI_add 7 j, stA_n (by decide) (by omega) (by decide), stA_n (by decide) (by omega) (by decide), lsh_bt (k := 5 - j) (by omega) _ _ (hsh j hj), hnum j hj, rdI_fr fT (by simpa using hc) i, hh _ (by omega), nI_1]
    refine hk2 _ ⟨fT.tr ((fr.wr (by decide)).tr (fr.wr (by decide))), ?_, fun k hk => ⟨?_, ?_⟩⟩
    · rw [wrI_o (by omega), wrI_o (by omega)]
      exact zT
    · by_cases e : k = j
      · subst e
        rw [wrI_o (by omega), wrI_s]
      · rw [wrI_o (by omega), wrI_o (by omega)]
        exact (vT k (by omega)).1
    · by_cases e : k = j
      · subst e
        rw [wrI_s]
      · rw [wrI_o (by omega), wrI_o (by omega)]
        exact (vT k (by omega)).2
  · rw [L_X12_nonceOf_10, if_pos (show (6 : Int32) ≤ nI 6 by decide)]
    refine ⟨T, rfl, hT.1, fun k hk => ?_⟩
    by_cases h0 : k = 0
    · subst h0
      exact hT.2.1
    · by_cases h7 : k < 7
      · have := (hT.2.2 (k - 1) (by omega)).1
        rw [show 1 + (k - 1) = k by omega] at this
        rw [this]
        unfold nnC
        rw [if_neg h0, if_pos h7, show 10 + (k - 1) = 9 + k by omega]
      · have := (hT.2.2 (k - 7) (by omega)).2
        rw [show 7 + (k - 7) = k by omega] at this
        exact this
theorem stepM {S : Mm} {ks X : Nat → Int32} (hx : boxd S) (hX : ∀ k, k < 16 → S.1 212 0 k = X k) (XB : ∀ k, k < 16 → isB (X k)) (hks : ∀ k, k < 176 → S.1 208 0 k = ks k) (kB : ∀ k, k < 176 → isB (ks k)) :
    ∃ S', F_X12_chainStep S = some ((), S') ∧ fr [209, 210, 212] S S' ∧ ∀ k, k < 16 → S'.1 212 0 k = aes ks X 10 k := by
  unfold F_X12_chainStep
  have e1 : L_X12_chainStep_2 fu 0 S = cl (F_X12_encipher (blk S 209 0 0 16 (S.1 212 0))) fun _ S2 => L_X12_chainStep_32 fu 0 S2 := by
    refine loopB L_X12_chainStep_2 S 209 0 0 16 (S.1 212 0) (by decide) (fun m j hj => ?_) (fun m => ?_)
    · rw [L_X12_chainStep_2, if_neg (show ¬ (16 : Int32) ≤ nI j from nI_ge (b := 16) hj (by decide)), ldA_n (by decide) hj (by decide), stA_n (by decide) hj (by decide), blk_ne (by decide : ¬ 212 = 209), nI_1, ← blk_succ, Nat.zero_add]
    · rw [L_X12_chainStep_2, if_pos (show (16 : Int32) ≤ nI 16 by decide)]
  rw [e1]
  obtain ⟨S2, e2, f2, v2⟩ := encM2 (S := blk S 209 0 0 16 (S.1 212 0)) (ks := ks) (X := X) (boxd_fr hx (fr.bk (l := [209]) (by decide)) (by decide)) (fun k hk => by rw [blk_in (by omega) (by omega), Nat.sub_zero]; exact hX k hk) XB (fun k hk => by rw [blk_ne (by decide)]; exact hks k hk) kB
  rw [e2, cl_eq]
  have e3 : L_X12_chainStep_32 fu 0 S2 = some ((), blk S2 212 0 0 16 (S2.1 209 0)) := by
    refine loopB L_X12_chainStep_32 S2 212 0 0 16 (S2.1 209 0) (by decide) (fun m j hj => ?_) (fun m => ?_)
    · rw [L_X12_chainStep_32, if_neg (show ¬ (16 : Int32) ≤ nI j from nI_ge (b := 16) hj (by decide)), ldA_n (by decide) hj (by decide), stA_n (by decide) hj (by decide), blk_ne (by decide : ¬ 209 = 212), nI_1, ← blk_succ, Nat.zero_add]
    · rw [L_X12_chainStep_32, if_pos (show (16 : Int32) ≤ nI 16 by decide)]
  rw [e3]
  exact ⟨_, rfl, (fr.bk (by decide)).tr ((f2.up (by decide)).tr (fr.bk (by decide))), fun k hk => by rw [blk_in (by omega) (by omega), Nat.sub_zero]; exact v2 k hk⟩
/-- a first block out of the nonce, the reference's two places -/
theorem ctrM {S : Mm} {v : Nat} {ks nn : Nat → Int32} (hx : boxd S) (hv : v < 65536) (hn : ∀ k, k < 13 → S.1 211 0 k = nn k) (nB : ∀ k, k < 13 → isB (nn k)) (hks : ∀ k, k < 176 → S.1 208 0 k = ks k) (kB : ∀ k, k < 176 → isB (ks k)) :
    ∃ S', F_X12_counter (nI v) S = some ((), S') ∧ fr [209, 210, 213] S S' ∧ ∀ k, k < 16 → S'.1 213 0 k = ctrF ks nn v k := by
  unfold F_X12_counter
  rw [show stA S 209 0 16 1 0 1 = fun K => K (wrI S 209 0 0 1) from funext fun K => stA_n (j := 0) (by decide) (by decide) (by decide)]
  dsimp only
  generalize hS1 : wrI (wrI (blk (wrI S 209 0 0 1) 209 0 1 13 nn) 209 0 14 (nI (v / 256))) 209 0 15 (nI (v % 256)) = S1
  have f1 : fr [209] S S1 := by rw [← hS1]; exact (fr.wr (by decide)).tr ((fr.bk (by decide)).tr ((fr.wr (by decide)).tr (fr.wr (by decide))))
  have e1 : L_X12_counter_9 (nI v) fu 0 (wrI S 209 0 0 1) = cl (F_X12_encipher S1) fun _ S5 => L_X12_counter_64 fu 0 S5 := by
    refine loopB (L_X12_counter_9 (nI v)) (wrI S 209 0 0 1) 209 0 1 13 nn (by decide) (fun m j hj => ?_) (fun m => ?_)
    · rw [L_X12_counter_9, if_neg (show ¬ (13 : Int32) ≤ nI j from nI_ge (b := 13) hj (by decide)), ldA_n (by decide) hj (by decide), show (1 : Int32) + nI j = nI (1 + j) from nI_add 1 j, stA_n (by decide) (by omega) (by decide), blk_ne (by decide : ¬ 211 = 209), wrI_ne (by decide : ¬ 211 = 209), hn j hj, nI_1, ← blk_succ]
    · rw [L_X12_counter_9, if_pos (show (13 : Int32) ≤ nI 13 by decide), sh8 hv, an255 hv, show stA (blk (wrI S 209 0 0 1) 209 0 1 13 nn) 209 0 16 1 14 (nI (v / 256)) = fun K => K (wrI (blk (wrI S 209 0 0 1) 209 0 1 13 nn) 209 0 14 (nI (v / 256))) from funext fun K => stA_n (j := 14) (by decide) (by decide) (by decide)]
      dsimp only
      rw [show stA (wrI (blk (wrI S 209 0 0 1) 209 0 1 13 nn) 209 0 14 (nI (v / 256))) 209 0 16 1 15 (nI (v % 256)) = fun K => K (wrI (wrI (blk (wrI S 209 0 0 1) 209 0 1 13 nn) 209 0 14 (nI (v / 256))) 209 0 15 (nI (v % 256))) from funext fun K => stA_n (j := 15) (by decide) (by decide) (by decide)]
      dsimp only
      rw [hS1]
  rw [e1]
  have v1 : ∀ k, k < 16 → S1.1 209 0 k = blkF 1 nn v k := by
    rw [← hS1]
    simp only [wr12, blkS]
    exact c16 rfl rfl rfl rfl rfl rfl rfl rfl rfl rfl rfl rfl rfl rfl rfl rfl
  obtain ⟨S2, e2, f2, v2⟩ := encM2 (S := S1) (ks := ks) (X := blkF 1 nn v) (boxd_fr hx f1 (by decide)) v1 (fun k _ => blkF_B isB_1 nB hv) (fun k hk => by rw [f1.1 208 (by decide)]; exact hks k hk) kB
  rw [e2, cl_eq]
  have e3 : L_X12_counter_64 fu 0 S2 = some ((), blk S2 213 0 0 16 (S2.1 209 0)) := by
    refine loopB L_X12_counter_64 S2 213 0 0 16 (S2.1 209 0) (by decide) (fun m j hj => ?_) (fun m => ?_)
    · rw [L_X12_counter_64, if_neg (show ¬ (16 : Int32) ≤ nI j from nI_ge (b := 16) hj (by decide)), ldA_n (by decide) hj (by decide), stA_n (by decide) hj (by decide), blk_ne (by decide : ¬ 209 = 213), nI_1, ← blk_succ, Nat.zero_add]
    · rw [L_X12_counter_64, if_pos (show (16 : Int32) ≤ nI 16 by decide)]
  rw [e3]
  exact ⟨_, rfl, (f1.up (by decide)).tr ((f2.up (by decide)).tr (fr.bk (by decide))), fun k hk => by rw [blk_in (by omega) (by omega), Nat.sub_zero]; exact v2 k hk⟩
theorem besM {c i at' j : Nat} {S : Mm} {h : Nat → Int32} (hj : j < 22) (ho : okP true c i = true) (hk : at' + 32 ≤ kn c) (hn : kn c < 50000) (hh : ∀ k, k < 32 → rdI S c i (at' + k) = h k) : F_X12_besideAt c i (nI at') (nI j) S = some (addF h j, S) := by
  unfold F_X12_besideAt addF
  by_cases h2 : 2 ≤ j
  · rw [if_pos (show (2 : Int32) ≤ nI j from nI_le (a := 2) h2 (by omega)), if_neg (show ¬ j = 0 by omega), if_neg (show ¬ j = 1 by omega)]
    by_cases h20 : 20 ≤ j
    · rw [if_pos (show (20 : Int32) ≤ nI j from nI_le (a := 20) h20 (by omega))]
      by_cases e : j = 20
      · rw [if_pos (show nI j = 20 by rw [e]; rfl), if_pos e, ldP_l (nI at' + 22) (at' + 22) (nI_add at' 22) ho (by omega) hn, hh 22 (by decide)]
      · rw [if_neg (show ¬ nI j = 20 from fun z => e ((nI_eq (b := 20) (by omega) (by decide)).mp z)), if_neg e, if_pos (show j = 21 by omega)]
    · rw [if_neg (show ¬ (20 : Int32) ≤ nI j from nI_ge (b := 20) (by omega) (by decide)), if_neg (by omega), if_neg (by omega), ldP_l ((nI at' + 2) + nI j) (at' + (2 + j)) (by rw [show nI at' + 2 = nI (at' + 2) from nI_add at' 2, nI_add, Nat.add_assoc]) ho (by omega) hn, hh _ (by omega)]
  · rw [if_neg (show ¬ (2 : Int32) ≤ nI j from nI_ge (b := 2) (by omega) (by decide))]
    by_cases e : j = 0
    · rw [if_pos (show nI j = 0 by rw [e]; rfl), if_pos e, ldP_n ho (by omega) (by omega)]
      have := hh 0 (by decide)
      rw [Nat.add_zero] at this
      rw [this]
    · rw [if_neg (nI_ne0 (by omega) (by omega)), if_neg e, if_pos (show j = 1 by omega), ldP_l (nI at' + 1) (at' + 1) (nI_add at' 1) ho (by omega) hn, hh 1 (by decide)]
abbrev gL : List Nat := [209, 210, 212, 213, 214]
theorem tagM {c1 i1 a1 c3 i3 a3 n : Nat} {S : Mm} {ks h p : Nat → Int32} (hx : boxd S) (ho1 : okP true c1 i1 = true) (hc1 : c1 ∉ gL) (hk1 : a1 + 32 ≤ kn c1) (hn1 : kn c1 < 50000) (ho3 : okP true c3 i3 = true) (hc3 : c3 ∉ gL) (hk3 : a3 + n ≤ kn c3) (hn3 : kn c3 < 50000) (hh : ∀ k, k < 32 → rdI S c1 i1 (a1 + k) = h k) (hB : ∀ k, k < 32 → isB (h k)) (hN : ∀ k, k < 13 → S.1 211 0 k = nnC h k) (hp : ∀ k, k < n → rdI S c3 i3 (a3 + k) = p k) (pB : ∀ k, k < n → isB (p k)) (hks : ∀ k, k < 176 → S.1 208 0 k = ks k) (kB : ∀ k, k < 176 → isB (ks k)) (hn : n ≤ 300) :
    ∃ S', F_X12_findTag c1 i1 (nI a1) c3 i3 (nI a3) (nI n) S = some ((), S') ∧ fr gL S S' ∧ ∀ k, k < 8 → S'.1 214 0 k = tagF ks (nnC h) (aadF h) p n k := by
  have nB : ∀ k, k < 13 → isB (nnC h k) := fun k hk => nnC_B hB hk
  have aB := aadF_B hB
  have zB := padZ_B pB
  unfold F_X12_findTag
  rw [show stA S 212 0 16 1 0 89 = fun K => K (wrI S 212 0 0 89) from funext fun K => stA_n (j := 0) (by decide) (by decide) (by decide)]
  dsimp only
  generalize hS1 : wrI (wrI (blk (wrI S 212 0 0 89) 212 0 1 13 (nnC h)) 212 0 14 (nI (n / 256))) 212 0 15 (nI (n % 256)) = S1
  have f1 : fr gL S S1 := by rw [← hS1]; exact (fr.wr (by decide)).tr ((fr.bk (by decide)).tr ((fr.wr (by decide)).tr (fr.wr (by decide))))
  have e1 : L_X12_findTag_11 c1 i1 (nI a1) c3 i3 (nI a3) (nI n) fu 0 (wrI S 212 0 0 89) = cl (F_X12_chainStep S1) fun _ S5 => L_X12_findTag_72 c1 i1 (nI a1) c3 i3 (nI a3) (nI n) fu 0 S5 := by
    refine loopB (L_X12_findTag_11 c1 i1 (nI a1) c3 i3 (nI a3) (nI n)) (wrI S 212 0 0 89) 212 0 1 13 (nnC h) (by decide) (fun m j hj => ?_) (fun m => ?_)
    · rw [L_X12_findTag_11, if_neg (show ¬ (13 : Int32) ≤ nI j from nI_ge (b := 13) hj (by decide)), ldA_n (by decide) hj (by decide), show (1 : Int32) + nI j = nI (1 + j) from nI_add 1 j, stA_n (by decide) (by omega) (by decide), blk_ne (by decide : ¬ 211 = 212), wrI_ne (by decide : ¬ 211 = 212), hN j hj, nI_1, ← blk_succ]
    · rw [L_X12_findTag_11, if_pos (show (13 : Int32) ≤ nI 13 by decide), sh8 (by omega), an255 (by omega), show stA (blk (wrI S 212 0 0 89) 212 0 1 13 (nnC h)) 212 0 16 1 14 (nI (n / 256)) = fun K => K (wrI (blk (wrI S 212 0 0 89) 212 0 1 13 (nnC h)) 212 0 14 (nI (n / 256))) from funext fun K => stA_n (j := 14) (by decide) (by decide) (by decide)]
      dsimp only
      rw [show stA (wrI (blk (wrI S 212 0 0 89) 212 0 1 13 (nnC h)) 212 0 14 (nI (n / 256))) 212 0 16 1 15 (nI (n % 256)) = fun K => K (wrI (wrI (blk (wrI S 212 0 0 89) 212 0 1 13 (nnC h)) 212 0 14 (nI (n / 256))) 212 0 15 (nI (n % 256))) from funext fun K => stA_n (j := 15) (by decide) (by decide) (by decide)]
      dsimp only
      rw [hS1]
  rw [e1]
  have v1 : ∀ k, k < 16 → S1.1 212 0 k = blkF 89 (nnC h) n k := by
    rw [← hS1]
    simp only [wr12, blkS]
    exact c16 rfl rfl rfl rfl rfl rfl rfl rfl rfl rfl rfl rfl rfl rfl rfl rfl
  obtain ⟨S2, e2, f2, v2⟩ := stepM (S := S1) (ks := ks) (boxd_fr hx f1 (by decide)) v1 (fun k _ => blkF_B isB_89 nB (by omega)) (fun k hk => by rw [f1.1 208 (by decide)]; exact hks k hk) kB
  rw [e2, cl_eq]
  have X0B := aes_B (s := blkF 89 (nnC h) n) kB (fun k _ => blkF_B isB_89 nB (by omega)) 10 (by decide)
  have mE : ∀ k, tagF ks (nnC h) (aadF h) p n k = chn ks (chn ks (aes ks (blkF 89 (nnC h) n) 10) (aadF h) 2) (padZ p n) ((n + 15) / 16) k ^^^ ctrF ks (nnC h) 0 k := fun k => rfl
  generalize aes ks (blkF 89 (nnC h) n) 10 = X0 at v2 X0B mE
  have fA : fr gL S S2 := f1.tr (f2.up (by decide))
  -- one more number under the sum
  have one : ∀ (X f : Nat → Int32) (T : Mm) (j : Nat) (x : Int32), fr gL S T → (∀ k, k < 16 → isB (X k)) → (∀ k, isB (f k)) → x = f j → (∀ k, k < 16 → T.1 212 0 k = pc ks X f j k) → (¬ j % 16 = 15 → ∀ k, k < 16 → (wrI T 212 0 (j % 16) (T.1 212 0 (j % 16) ^^^ x)).1 212 0 k = pc ks X f (j + 1) k) ∧ (j % 16 = 15 → ∃ U, F_X12_chainStep (wrI T 212 0 (j % 16) (T.1 212 0 (j % 16) ^^^ x)) = some ((), U) ∧ fr gL S U ∧ ∀ k, k < 16 → U.1 212 0 k = pc ks X f (j + 1) k) := by
    intro X f T j x fT XB fB hxj hT
    subst hxj
    have hw : ∀ k, k < 16 → (wrI T 212 0 (j % 16) (T.1 212 0 (j % 16) ^^^ f j)).1 212 0 k = if k = j % 16 then pc ks X f j (j % 16) ^^^ f j else pc ks X f j k := fun k hk => by
      rw [wr12, hT _ (by omega)]
      by_cases e : k = j % 16
      · rw [if_pos e, if_pos e]
      · rw [if_neg e, if_neg e, hT k hk]
    refine ⟨fun h15 k hk => by rw [hw k hk]; exact pcA h15, fun h15 => ?_⟩
    obtain ⟨U, eU, fU, vU⟩ := stepM (S := wrI T 212 0 (j % 16) (T.1 212 0 (j % 16) ^^^ f j)) (ks := ks) (X := fun k => chn ks X f (j / 16) k ^^^ f (16 * (j / 16) + k)) (boxd_fr hx (fT.tr (fr.wr (by decide))) (by decide)) (fun k hk => by rw [hw k hk]; exact pcB hk h15) (fun k hk => isB_xor (chn_B kB XB fB _ k hk) (fB _)) (fun k hk => by rw [wrI_ne (by decide), fT.1 208 (by decide)]; exact hks k hk) kB
    exact ⟨U, eU, fT.tr ((fr.wr (by decide)).tr (fU.up (by decide))), fun k hk => by rw [vU k hk]; exact pcC h15⟩
  refine loopR (L_X12_findTag_72 c1 i1 (nI a1) c3 i3 (nI a3) (nI n)) (fun o => ∃ S', o = some ((), S') ∧ fr gL S S' ∧ ∀ k, k < 8 → S'.1 214 0 k = tagF ks (nnC h) (aadF h) p n k) (fun j T => fr gL S T ∧ ∀ k, k < 16 → T.1 212 0 k = pc ks X0 (aadF h) j k) 0 32 (by decide) (by decide) (fun m j T _ hj hT hk => ?_) (fun m T hT => ?_) S2 ⟨fA, fun k hk => by rw [v2 k hk]; exact (pc_16 (m := 0)).symm⟩
  · obtain ⟨fT, vT⟩ := hT
    have hm : nI j - nI j / 16 * 16 = nI (j % 16) := pk_rem (d := 16) (by omega) (by decide) (by decide)
    have tail : ∀ x, x = aadF h j → ∃ S', L_X12_findTag_116 (L_X12_findTag_72 c1 i1 (nI a1) c3 i3 (nI a3) (nI n) m) c1 i1 (nI a1) c3 i3 (nI a3) (nI n) (nI j) x T = some ((), S') ∧ fr gL S S' ∧ ∀ k, k < 8 → S'.1 214 0 k = tagF ks (nnC h) (aadF h) p n k := by
      intro x hxj
      obtain ⟨o1, o2⟩ := one X0 (aadF h) T j x fT X0B aB hxj vT
      unfold L_X12_findTag_116 L_X12_findTag_155
      rw [hm, ldA_n (by decide) (by omega) (by decide), stA_n (by decide) (by omega) (by decide), nI_1]
      by_cases h15 : j % 16 = 15
      · obtain ⟨U, eU, fU, vU⟩ := o2 h15
        rw [if_pos (show nI (j % 16) = 15 by rw [h15]; rfl), eU, cl_eq]
        exact hk U ⟨fU, vU⟩
      · rw [if_neg (show ¬ nI (j % 16) = 15 from fun z => h15 ((nI_eq (b := 15) (by omega) (by decide)).mp z))]
        exact hk _ ⟨fT.tr (fr.wr (by decide)), o1 h15⟩
    rw [L_X12_findTag_72, if_neg (show ¬ (32 : Int32) ≤ nI j from nI_ge (b := 32) hj (by decide))]
    unfold L_X12_findTag_115
    by_cases j1 : j = 1
    · rw [if_pos (show nI j = 1 by rw [j1]; rfl)]
      exact tail 22 (by rw [j1]; rfl)
    · rw [if_neg (show ¬ nI j = 1 from fun z => j1 ((nI_eq (b := 1) (by omega) (by decide)).mp z))]
      by_cases j2 : j < 2
      · rw [if_pos (show nI j < 2 from nI_lt (b := 2) j2 (by decide))]
        exact tail 0 (by unfold aadF; rw [if_neg j1, if_pos j2])
      · rw [if_neg (show ¬ nI j < 2 from nI_nlt (b := 2) (by omega) (by omega))]
        by_cases j3 : 24 ≤ j
        · rw [if_pos (show (24 : Int32) ≤ nI j from nI_le (a := 24) j3 (by omega))]
          exact tail 0 (by unfold aadF; rw [if_neg j1, if_neg j2, if_pos j3])
        · rw [if_neg (show ¬ (24 : Int32) ≤ nI j from nI_ge (b := 24) (by omega) (by decide)), show nI j - 2 = nI (j - 2) from pk_sub (b := 2) (by omega), besM (h := h) (by omega) ho1 hk1 hn1 (fun k hk => by rw [rdI_fr fT hc1 i1]; exact hh k hk), cl_eq]
          exact tail _ (by unfold aadF; rw [if_neg j1, if_neg j2, if_neg j3])
  · obtain ⟨fT, vT⟩ := hT
    rw [L_X12_findTag_72, if_pos (show (32 : Int32) ≤ nI 32 by decide)]
    have vT2 : ∀ k, k < 16 → T.1 212 0 k = chn ks X0 (aadF h) 2 k := fun k hk => by rw [vT k hk]; exact pc_16 (m := 2)
    have X2B := chn_B kB X0B aB 2
    generalize chn ks X0 (aadF h) 2 = X2 at vT2 X2B mE
    refine loopR (L_X12_findTag_164 c3 i3 (nI a3) (nI n)) (fun o => ∃ S', o = some ((), S') ∧ fr gL S S' ∧ ∀ k, k < 8 → S'.1 214 0 k = tagF ks (nnC h) (aadF h) p n k) (fun j V => fr gL S V ∧ ∀ k, k < 16 → V.1 212 0 k = pc ks X2 (padZ p n) j k) 0 (16 * ((n + 15) / 16)) (by omega) (by omega) (fun m j V _ hj hV hk => ?_) (fun m V hV => ?_) T ⟨fT, fun k hk => by rw [vT2 k hk]; exact (pc_16 (m := 0)).symm⟩
    · obtain ⟨fV, vV⟩ := hV
      have hm : nI j - nI j / 16 * 16 = nI (j % 16) := pk_rem (d := 16) (by omega) (by decide) (by decide)
      have he : ((nI n + 15) / 16) * 16 = nI (16 * ((n + 15) / 16)) := by rw [show nI n + 15 = nI (n + 15) from nI_add n 15, show nI (n + 15) / 16 = nI ((n + 15) / 16) from pk_div (d := 16) (by omega) (by decide) (by decide), show nI ((n + 15) / 16) * 16 = nI ((n + 15) / 16 * 16) from pk_mul _ 16, Nat.mul_comm]
      have tail : ∀ x, x = padZ p n j → ∃ S', L_X12_findTag_217 (L_X12_findTag_164 c3 i3 (nI a3) (nI n) m) c3 i3 (nI a3) (nI n) (nI j) (nI (j % 16)) (V.1 212 0 (j % 16)) x V = some ((), S') ∧ fr gL S S' ∧ ∀ k, k < 8 → S'.1 214 0 k = tagF ks (nnC h) (aadF h) p n k := by
        intro x hxj
        obtain ⟨o1, o2⟩ := one X2 (padZ p n) V j x fV X2B zB hxj vV
        unfold L_X12_findTag_217 L_X12_findTag_233
        rw [stA_n (by decide) (by omega) (by decide), hm, nI_1]
        by_cases h15 : j % 16 = 15
        · obtain ⟨U, eU, fU, vU⟩ := o2 h15
          rw [if_pos (show nI (j % 16) = 15 by rw [h15]; rfl), eU, cl_eq]
          exact hk U ⟨fU, vU⟩
        · rw [if_neg (show ¬ nI (j % 16) = 15 from fun z => h15 ((nI_eq (b := 15) (by omega) (by decide)).mp z))]
          exact hk _ ⟨fV.tr (fr.wr (by decide)), o1 h15⟩
      rw [L_X12_findTag_164, he, if_neg (nI_ge hj (by omega)), hm, ldA_n (by decide) (by omega) (by decide)]
      by_cases hj2 : n ≤ j
      · rw [if_pos (nI_le hj2 (by omega))]
        exact tail 0 (by unfold padZ; rw [if_neg (by omega)])
      · rw [if_neg (nI_ge (by omega) (by omega)), nI_add, ldP_n ho3 (by omega) (by omega), rdI_fr fV hc3 i3, hp j (by omega)]
        exact tail _ (by unfold padZ; rw [if_pos (by omega)])
    · obtain ⟨fV, vV⟩ := hV
      have he : ((nI n + 15) / 16) * 16 = nI (16 * ((n + 15) / 16)) := by rw [show nI n + 15 = nI (n + 15) from nI_add n 15, show nI (n + 15) / 16 = nI ((n + 15) / 16) from pk_div (d := 16) (by omega) (by decide) (by decide), show nI ((n + 15) / 16) * 16 = nI ((n + 15) / 16 * 16) from pk_mul _ 16, Nat.mul_comm]
      rw [L_X12_findTag_164, he, if_pos (nI_le (Nat.le_refl _) (by omega))]
      obtain ⟨U, eU, fU, vU⟩ := ctrM (S := V) (v := 0) (ks := ks) (nn := nnC h) (boxd_fr hx fV (by decide)) (by decide) (fun k hk => by rw [fV.1 211 (by decide)]; exact hN k hk) nB (fun k hk => by rw [fV.1 208 (by decide)]; exact hks k hk) kB
      rw [show (0 : Int32) = nI 0 from rfl, eU, cl_eq]
      have e3 : L_X12_findTag_247 fu 0 U = some ((), blk U 214 0 0 8 (tagF ks (nnC h) (aadF h) p n)) := by
        refine loopB L_X12_findTag_247 U 214 0 0 8 (tagF ks (nnC h) (aadF h) p n) (by decide) (fun m j hj => ?_) (fun m => ?_)
        · rw [L_X12_findTag_247, if_neg (show ¬ (8 : Int32) ≤ nI j from nI_ge (b := 8) hj (by decide)), ldA_n (by decide) (by omega) (by decide), ldA_n (by decide) (by omega) (by decide), stA_n (by decide) hj (by decide), blk_ne (by decide : ¬ 212 = 214), blk_ne (by decide : ¬ 213 = 214), vU j (by omega), fU.1 212 (by decide), vV j (by omega), pc_16, nI_1, ← blk_succ, Nat.zero_add, mE]
        · rw [L_X12_findTag_247, if_pos (show (8 : Int32) ≤ nI 8 by decide)]
      rw [show nI 0 = (0 : Int32) from rfl, e3]
      exact ⟨_, rfl, fV.tr ((fU.up (by decide)).tr (fr.bk (by decide))), fun k hk => by rw [blk_in (by omega) (by omega), Nat.sub_zero]⟩
def cvQ (S : Mm) (c2 i2 a : Nat) (ks nn p : Nat → Int32) (j : Nat) (T : Mm) : Prop :=
  fr [c2, 209, 210, 213] S T ∧ (∀ i d, ¬ (i = i2 ∧ a ≤ d ∧ d < a + j) → T.1 c2 i d = S.1 c2 i d) ∧ (∀ k, k < j → T.1 c2 i2 (a + k) = covF ks nn p k) ∧ (¬ j % 16 = 0 → ∀ k, k < 16 → T.1 213 0 k = ctrF ks nn (j / 16 + 1) k)
theorem covM {c1 i1 a1 c2 i2 a n : Nat} {S : Mm} {ks nn p : Nat → Int32} (hx : boxd S) (ho1 : okP true c1 i1 = true) (hc1 : c1 ∉ [c2, 209, 210, 213]) (hk1 : a1 + n ≤ kn c1) (hn1 : kn c1 < 50000) (ho2 : okW true c2 i2 = true) (hc2 : c2 ∉ [207, 208, 209, 210, 211, 213]) (hk2 : a + n ≤ kn c2) (hn2 : kn c2 < 50000) (hn : n ≤ 300) (hN : ∀ k, k < 13 → S.1 211 0 k = nn k) (nB : ∀ k, k < 13 → isB (nn k)) (hks : ∀ k, k < 176 → S.1 208 0 k = ks k) (kB : ∀ k, k < 176 → isB (ks k)) (hp : ∀ k, k < n → rdI S c1 i1 (a1 + k) = p k) :
    ∃ S', F_X12_cover c1 i1 (nI a1) c2 i2 (nI a) (nI n) S = some ((), S') ∧ cvQ S c2 i2 a ks nn p n S' := by
  have d1 : ¬ 207 = c2 := fun e => hc2 (by rw [← e]; decide)
  have d2 : ¬ 208 = c2 := fun e => hc2 (by rw [← e]; decide)
  have d3 : ¬ 211 = c2 := fun e => hc2 (by rw [← e]; decide)
  have d4 : ¬ 213 = c2 := fun e => hc2 (by rw [← e]; decide)
  have d5 : c2 ∉ [209, 210, 213] := fun z => hc2 (by simp at z ⊢; omega)
  unfold F_X12_cover
  refine loopR (L_X12_cover_3 c1 i1 (nI a1) c2 i2 (nI a) (nI n)) (fun o => ∃ S', o = some ((), S') ∧ cvQ S c2 i2 a ks nn p n S') (cvQ S c2 i2 a ks nn p) 0 n (by omega) (by omega) (fun m j T _ hj hT hk => ?_) (fun m T hT => ?_) S ⟨fr.rf, fun _ _ _ => rfl, fun k hk => absurd hk (by omega), fun z => absurd rfl z⟩
  · obtain ⟨fT, oT, vT, bT⟩ := hT
    have hm : nI j - nI j / 16 * 16 = nI (j % 16) := pk_rem (d := 16) (by omega) (by decide) (by decide)
    have hd : nI j / 16 = nI (j / 16) := pk_div (d := 16) (by omega) (by decide) (by decide)
    have tail : ∀ U : Mm, fr [c2, 209, 210, 213] S U → (∀ i d, U.1 c2 i d = T.1 c2 i d) → (∀ k, k < 16 → U.1 213 0 k = ctrF ks nn (j / 16 + 1) k) → ∃ S', L_X12_cover_29 (L_X12_cover_3 c1 i1 (nI a1) c2 i2 (nI a) (nI n) m) c1 i1 (nI a1) c2 i2 (nI a) (nI n) (nI j) U = some ((), S') ∧ cvQ S c2 i2 a ks nn p n S' := by
      intro U fU oU bU
      unfold L_X12_cover_29
      have oU2 : ∀ i d, ¬ (i = i2 ∧ a ≤ d ∧ d < a + j) → U.1 c2 i d = S.1 c2 i d := fun i d z => (oU i d).trans (oT i d z)
      rw [hm, nI_add, ldP_n ho1 (by omega) (by omega), ldA_n (by decide) (by omega) (by decide), nI_add, stP_n ho2 (by omega) (by omega), nI_1, rdI_fr fU hc1 i1, hp j hj, bU _ (by omega)]
      refine hk _ ⟨fU.tr (fr.wr (by simp)), fun i d z => ?_, fun k hk => ?_, fun z k hk => ?_⟩
      · rw [wrI_o (by omega)]
        exact oU2 i d (by omega)
      · by_cases e : k = j
        · subst e
          rw [wrI_s]
          rfl
        · rw [wrI_o (by omega), oU, vT k (by omega)]
      · rw [wrI_ne d4, bU k hk, show (j + 1) / 16 = j / 16 by omega]
    rw [L_X12_cover_3, if_neg (nI_ge hj (by omega)), hm]
    by_cases h0 : j % 16 = 0
    · rw [if_pos (show nI (j % 16) = 0 by rw [h0]; rfl), hd, show (1 : Int32) + nI (j / 16) = nI (j / 16 + 1) from by rw [show (1 : Int32) + nI (j / 16) = nI (1 + j / 16) from nI_add 1 _, Nat.add_comm]]
      obtain ⟨S2, e2, f2, v2⟩ := ctrM (S := T) (v := j / 16 + 1) (ks := ks) (nn := nn) (boxd_fr hx fT (by simp; exact d1)) (by omega) (fun k hk => by rw [fT.1 211 (by simp; exact d3)]; exact hN k hk) nB (fun k hk => by rw [fT.1 208 (by simp; exact d2)]; exact hks k hk) kB
      rw [e2, cl_eq]
      exact tail S2 (fT.tr (f2.up (by simp))) (fun i d => by rw [f2.1 c2 d5]) v2
    · rw [if_neg (show ¬ nI (j % 16) = 0 from nI_ne0 (by omega) (by omega))]
      exact tail T fT (fun _ _ => rfl) (bT h0)
  · rw [L_X12_cover_3, if_pos (nI_le (Nat.le_refl n) (by omega))]
    exact ⟨T, rfl, hT⟩
