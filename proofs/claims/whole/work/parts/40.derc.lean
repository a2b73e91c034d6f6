/-! addresses; the PTK of the class -/
def adr (k : Int32) (j : Nat) : Int32 := if j = 0 then 2 else if j = 5 then k else 0
theorem stP_eq {β : Type} {b : Bool} {S : Mm} {c i j : Nat} {x v : Int32} {K : Mm → Option β} (hx : x = nI j) (ho : okW b c i = true) (hj : j < kn c) (hn : kn c < 50000) : stP b S c i x v K = K (wrI S c i j v) := by
  rw [hx]
  exact stP_n ho hj (by omega)
theorem adrC {c i at' : Nat} {v : Int32} {S : Mm} (ho : okW false c i = true) (hk : at' + 6 ≤ kn c) (hn : kn c < 50000) : F_X2_writeAddress c i (nI at') v S = some ((), blk S c i at' 6 (adr v)) := by
  unfold F_X2_writeAddress
  rw [stP_n ho (by omega) (by omega), nI_1, show nI at' + 5 = nI (at' + 5) from nI_add _ 5, fillC ho (by omega) (by omega) hn, cl_eq, stP_n ho (by omega) (by omega)]
  congr 2
  refine Mm_ext (fun a b d => ?_) rfl
  show (if a = c ∧ b = i ∧ d = at' + 5 then v else if a = c ∧ b = i ∧ at' + 1 ≤ d ∧ d < at' + 1 + (at' + 5 - (at' + 1)) then 0 else if a = c ∧ b = i ∧ d = at' then 2 else S.1 a b d) = if a = c ∧ b = i ∧ at' ≤ d ∧ d < at' + 6 then adr v (d - at') else S.1 a b d
  unfold adr
  by_cases h1 : a = c ∧ b = i
  · by_cases h2 : at' ≤ d ∧ d < at' + 6
    · rw [if_pos (show a = c ∧ b = i ∧ at' ≤ d ∧ d < at' + 6 from ⟨h1.1, h1.2, h2⟩)]
      by_cases e5 : d = at' + 5
      · rw [if_pos ⟨h1.1, h1.2, e5⟩, if_neg (by omega), if_pos (by omega)]
      · rw [if_neg (fun z => e5 z.2.2)]
        by_cases e0 : d = at'
        · rw [if_neg (by omega), if_pos ⟨h1.1, h1.2, e0⟩, if_pos (by omega)]
        · rw [if_pos ⟨h1.1, h1.2, by omega, by omega⟩, if_neg (by omega), if_neg (by omega)]
    · rw [if_neg (by omega), if_neg (by omega), if_neg (by omega), if_neg (fun z => h2 z.2.2)]
  · rw [if_neg (fun z => h1 ⟨z.1, z.2.1⟩), if_neg (fun z => h1 ⟨z.1, z.2.1⟩), if_neg (fun z => h1 ⟨z.1, z.2.1⟩), if_neg (fun z => h1 ⟨z.1, z.2.1⟩)]
theorem adrM {c i at' : Nat} {v : Int32} {S : Mm} (ho : okW true c i = true) (hk : at' + 6 ≤ kn c) (hn : kn c < 50000) : F_X12_putAddress c i (nI at') v S = some ((), blk S c i at' 6 (adr v)) := by
  unfold F_X12_putAddress
  refine loopB (L_X12_putAddress_2 c i (nI at') v) S c i at' 6 (adr v) (by decide) (fun m j hj => ?_) (fun m => ?_)
  · rw [L_X12_putAddress_2, if_neg (show ¬ (6 : Int32) ≤ nI j from nI_ge (b := 6) hj (by decide)), ← blk_succ, nI_add]
    unfold L_X12_putAddress_30 adr
    by_cases e0 : j = 0
    · subst e0
      rw [if_pos (show nI 0 = 0 from rfl), stP_n ho (by omega) (by omega), nI_1, if_pos rfl]
    · rw [if_neg (nI_ne0 (by omega) (by omega)), if_neg e0]
      by_cases e5 : j = 5
      · subst e5
        rw [if_pos (show nI 5 = 5 from rfl), stP_n ho (by omega) (by omega), nI_1, if_pos rfl]
      · rw [if_neg (show ¬ nI j = 5 from fun q => e5 ((nI_eq (b := 5) (by omega) (by decide)).mp q)), stP_n ho (by omega) (by omega), nI_1, if_neg e5]
  · rw [L_X12_putAddress_2, if_pos (show (6 : Int32) ≤ nI 6 by decide)]
def seedF (st : Int32) (ap own : Nat → Int32) (t j : Nat) : Int32 := if j < 22 then labL.getD j 0 else if j = 22 then 0 else if j < 29 then adr 0 (j - 23) else if j < 35 then adr st (j - 29) else if j < 67 then ap (j - 35) else if j < 99 then own (j - 67) else nI t
def ptkF (sec : Nat → Int32) (st : Int32) (ap own : Nat → Int32) (j : Nat) : Int32 := hmac sec 32 (seedF st ap own (j / 20)) 100 (j % 20)
theorem hmac_congr {k k' : Nat → Int32} {m m' : Nat → Int32} {kl len : Nat} (hk : ∀ j, j < kl → k j = k' j) (hm : ∀ j, j < len → m j = m' j) (j : Nat) (hj : j < 20) : hmac k kl m len j = hmac k' kl m' len j := by
  have e : ∀ p i, kpad k kl p i = kpad k' kl p i := fun p i => by
    unfold kpad
    by_cases h : i < kl
    · rw [if_pos h, if_pos h, hk i h]
    · rw [if_neg h, if_neg h]
  unfold hmac
  refine dgst_congr (fun i hi => ?_) j hj
  unfold cat
  by_cases h : i < 64
  · rw [if_pos h, if_pos h, e]
  · rw [if_neg h, if_neg h]
    refine dgst_congr (fun i2 hi2 => ?_) _ (by omega)
    by_cases h2 : i2 < 64
    · rw [if_pos h2, if_pos h2, e]
    · rw [if_neg h2, if_neg h2, hm _ (by omega)]
abbrev sL : List Nat := [46, 47, 48, 49, 50, 51]
theorem derC {c1 i1 c3 i3 c4 i4 a4 : Nat} {st : Int32} {S : Mm} (ho1 : okP false c1 i1 = true) (hc1 : c1 ∉ sL) (hk1 : kn c1 = 32) (ho3 : okP false c3 i3 = true) (hc3 : c3 ∉ sL) (hk3 : 32 ≤ kn c3) (hn3 : kn c3 < 50000) (ho4 : okP false c4 i4 = true) (hc4 : c4 ∉ sL) (hk4 : a4 + 32 ≤ kn c4) (hn4 : kn c4 < 50000) :
    ∃ S', F_X10_derive c1 i1 st c3 i3 c4 i4 (nI a4) S = some ((), S') ∧ fr sL S S' ∧ ∀ j, j < 60 → S'.1 47 0 j = ptkF (rdI S c1 i1) st (rdI S c3 i3) (fun k => rdI S c4 i4 (a4 + k)) j := by
  unfold F_X10_derive
  rw [tp_eq]
  generalize hS10 : blk (blk (blk (blk (wrI (blk S 48 0 0 22 (fun k => labL.getD k 0)) 48 0 22 0) 48 0 23 6 (adr 0)) 48 0 29 6 (adr st)) 48 0 35 32 (fun k => rdI S c3 i3 (0 + k))) 48 0 67 32 (fun k => rdI S c4 i4 (a4 + k)) = S10
  have f10 : fr [48] S S10 := by
    rw [← hS10]
    exact (fr.bk (by decide)).tr ((fr.wr (by decide)).tr ((fr.bk (by decide)).tr ((fr.bk (by decide)).tr ((fr.bk (by decide)).tr (fr.bk (by decide))))))
  have c3' : c3 ∉ [48] := fun h => hc3 (by simp at h; rw [h]; decide)
  have c4' : c4 ∉ [48] := fun h => hc4 (by simp at h; rw [h]; decide)
  have hlab : L_X10_derive_10 c1 i1 st c3 i3 c4 i4 (nI a4) 22 fu 0 S = L_X10_derive_110 c1 i1 fu 0 S10 := by
    refine loopB (L_X10_derive_10 c1 i1 st c3 i3 c4 i4 (nI a4) 22) S 48 0 0 22 (fun k => labL.getD k 0) (by decide) (fun m j hj => ?_) (fun m => ?_)
    · rw [L_X10_derive_10, if_neg (show ¬ (22 : Int32) ≤ nI j from nI_ge (b := 22) hj (by decide))]
      unfold gd
      rw [if_pos (inb_n hj (by decide)), tp_eq, nI_clamp (by omega), stA_n (by decide) (by omega) (by decide), nI_1, ← blk_succ, Nat.zero_add]
    · rw [L_X10_derive_10, if_pos (show (22 : Int32) ≤ nI 22 by decide), show stA (blk S 48 0 0 22 fun k => labL.getD k 0) 48 0 100 1 (22 : Int32) 0 = fun K => K (wrI (blk S 48 0 0 22 fun k => labL.getD k 0) 48 0 22 0) from funext fun K => stA_n (j := 22) (by decide) (by decide) (by decide)]
      dsimp only
      rw [show (22 + 1 : Int32) = nI 23 from rfl, adrC (by decide) (by decide) (by decide), cl_eq, show (22 + 7 : Int32) = nI 29 from rfl, adrC (by decide) (by decide) (by decide), cl_eq, show (0 : Int32) = nI 0 from rfl, show (22 + 13 : Int32) = nI 35 from rfl, show (32 : Int32) = nI 32 from rfl, cpP_n ho3 (by decide) (by omega) (by decide) hn3 (by decide), nI_add, cpP_n ho4 (by decide) hk4 (by decide) hn4 (by decide)]
      rw [← hS10]
      have r3 : rdI (blk (blk (wrI (blk S 48 0 0 22 (fun k => labL.getD k 0)) 48 0 22 0) 48 0 23 6 (adr 0)) 48 0 29 6 (adr st)) c3 i3 = rdI S c3 i3 := rdI_fr (l := [48]) ((fr.bk (by decide)).tr ((fr.wr (by decide)).tr ((fr.bk (by decide)).tr (fr.bk (by decide))))) c3' i3
      have r4 : rdI (blk (blk (blk (wrI (blk S 48 0 0 22 (fun k => labL.getD k 0)) 48 0 22 0) 48 0 23 6 (adr 0)) 48 0 29 6 (adr st)) 48 0 35 32 (fun k => rdI S c3 i3 (0 + k))) c4 i4 = rdI S c4 i4 := rdI_fr (l := [48]) ((fr.bk (by decide)).tr ((fr.wr (by decide)).tr ((fr.bk (by decide)).tr ((fr.bk (by decide)).tr (fr.bk (by decide)))))) c4' i4
      rw [show (nI 0 : Int32) = 0 from rfl, r3, r4]
  rw [hlab]
  have hseed : ∀ t j, j < 99 → S10.1 48 0 j = seedF st (rdI S c3 i3) (fun k => rdI S c4 i4 (a4 + k)) t j := by
    intro t j hj
    rw [← hS10]
    unfold seedF
    by_cases h1 : j < 22
    · rw [if_pos h1, blk_out (by omega), blk_out (by omega), blk_out (by omega), blk_out (by omega), wrI_o (by omega), blk_in (by omega) (by omega), Nat.sub_zero]
    · rw [if_neg h1]
      by_cases h2 : j = 22
      · subst h2
        rw [if_pos rfl, blk_out (by omega), blk_out (by omega), blk_out (by omega), blk_out (by omega), wrI_s]
      · rw [if_neg h2]
        by_cases h3 : j < 29
        · rw [if_pos h3, blk_out (by omega), blk_out (by omega), blk_out (by omega), blk_in (by omega) (by omega)]
        · rw [if_neg h3]
          by_cases h4 : j < 35
          · rw [if_pos h4, blk_out (by omega), blk_out (by omega), blk_in (by omega) (by omega)]
          · rw [if_neg h4]
            by_cases h5 : j < 67
            · rw [if_pos h5, blk_out (by omega), blk_in (by omega) (by omega), Nat.zero_add]
            · rw [if_neg h5, if_pos hj, blk_in (by omega) (by omega)]
  obtain ⟨rs, a0, as, aP⟩ := run_ex (P := fun p T => fr sL S T ∧ (∀ j, j < 99 → T.1 48 0 j = S10.1 48 0 j) ∧ ∀ j, j < 20 * p → T.1 47 0 j = ptkF (rdI S c1 i1) st (rdI S c3 i3) (fun k => rdI S c4 i4 (a4 + k)) j) (step := fun p T T' => ∃ T1, F_X10_hashKeyed c1 i1 (nI 32) 48 0 0 100 (wrI T 48 0 99 (nI p)) = some ((), T1) ∧ T' = blk T1 47 0 (20 * p) 20 (fun k => rdI T1 46 0 (0 + k))) 0 S10 ⟨f10.up (by decide), fun _ _ => rfl, fun j hj => absurd hj (by omega)⟩ 3 (by decide) (fun p T _ hp hT => by
    obtain ⟨h1, h2, h3⟩ := hT
    obtain ⟨T1, e1, f1, d1⟩ := hmacC (S := wrI T 48 0 99 (nI p)) (c := c1) (i := i1) (kl := 32) (c3 := 48) (i3 := 0) (at' := 0) (len := 100) ho1 (fun h => hc1 (by simp at h ⊢; omega)) (by omega) (by omega) (by decide) (by decide) (by decide) (by decide) (by decide)
    refine ⟨_, ⟨T1, e1, rfl⟩, h1.tr ((fr.wr (by decide)).tr ((f1.up (by decide)).tr (fr.bk (by decide)))), fun j hj => ?_, fun j hj => ?_⟩
    · rw [blk_ne (by decide), f1.1 48 (by decide), wrI_o (by omega)]
      exact h2 j hj
    · by_cases hlo : j < 20 * p
      · rw [blk_out (by omega), f1.1 47 (by decide), wrI_ne (by decide)]
        exact h3 j hlo
      · rw [blk_in (by omega) (by omega), Nat.zero_add, show rdI T1 46 0 (j - 20 * p) = T1.1 46 0 (j - 20 * p) from if_neg (by decide), d1 _ (by omega)]
        unfold ptkF
        rw [show j / 20 = p by omega, show j % 20 = j - 20 * p by omega]
        refine hmac_congr (fun k _ => ?_) (fun k hk => ?_) _ (by omega)
        · rw [rdI_fr (l := sL) (h1.tr (fr.wr (by decide))) hc1 i1]
        · rw [Nat.zero_add, show rdI (wrI T 48 0 99 (nI p)) 48 0 k = (wrI T 48 0 99 (nI p)).1 48 0 k from if_neg (by decide)]
          by_cases h99 : k = 99
          · subst h99
            rw [wrI_s]
            rfl
          · rw [wrI_o (by omega), h2 k (by omega)]
            exact hseed p k (by omega))
  refine ⟨rs 3, ?_, aP.1, fun j hj => aP.2.2 j (by omega)⟩
  rw [← a0]
  refine loopA (L_X10_derive_110 c1 i1) 0 3 rs (by decide) (by decide) (fun m j _ hj => ?_) (fun m => ?_)
  · obtain ⟨T1, e1, e2⟩ := as j (Nat.zero_le _) hj
    rw [L_X10_derive_110, if_neg (show ¬ (3 : Int32) ≤ nI j from nI_ge (b := 3) hj (by decide)), show stA (rs j) 48 0 100 1 (99 : Int32) (nI j) = fun K => K (wrI (rs j) 48 0 99 (nI j)) from funext fun K => stA_n (j := 99) (by decide) (by decide) (by decide)]
    dsimp only
    rw [lnP_eq ho1, hk1, e1, cl_eq, show (0 : Int32) = nI 0 from rfl, show nI j * 20 = nI (20 * j) from by rw [show nI j * 20 = nI (j * 20) from pk_mul j 20, Nat.mul_comm], show (20 : Int32) = nI 20 from rfl, cpP_n (by decide) (by decide) (by decide) (show 20 * j + 20 ≤ kn 47 by show _ ≤ 60; omega) (by decide) (by decide), nI_1, e2]
  · rw [L_X10_derive_110, if_pos (show (3 : Int32) ≤ nI 3 by decide)]
