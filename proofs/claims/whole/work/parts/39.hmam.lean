/-! HMAC: the reference -/
def mkey (key : Nat → Int32) (kl : Nat) (k : Nat) : Int32 := if k < kl then key k else 0
theorem mkey_pad {key : Nat → Int32} {kl k : Nat} {p : Int32} (hb : ∀ k, k < kl → isB (key k)) (hp : isB p) : (mkey key kl k ^^^ p) &&& 255 = kpad key kl p k := by
  unfold mkey kpad
  by_cases h : k < kl
  · rw [if_pos h, if_pos h]
    exact isB_and (isB_xor (hb k h) hp)
  · rw [if_neg h, if_neg h, Int32.xor_comm, xor_0]
    exact isB_and hp
theorem isB_54 : isB 54 := ⟨54, by decide, rfl⟩
theorem isB_92 : isB 92 := ⟨92, by decide, rfl⟩
theorem mbegM {c i at' kl : Nat} {S : Mm} (f : Nat → Int32) (ho : okP true c i = true) (hc : ¬ c = 205) (hk : at' + kl ≤ kn c) (hn : kn c < 50000) (hb : ∀ k, k < kl → isB (rdI S c i (at' + k))) (hf : ∀ j, j < 64 → f j = kpad (fun k => rdI S c i (at' + k)) kl 54 j) :
    ∃ S', F_X12_macBegin c i (nI at') (nI kl) S = some ((), S') ∧ str S' f 64 ∧ fr (205 :: hL) S S' ∧ ∀ k, k < 64 → S'.1 205 0 k = mkey (fun k => rdI S c i (at' + k)) kl k := by
  unfold F_X12_macBegin
  have h3 : L_X12_macBegin_3 c i (nI at') (nI kl) fu 0 S = cl (F_X12_hashBegin (blk S 205 0 0 64 (mkey (fun k => rdI S c i (at' + k)) kl))) fun r1 S2 => L_X12_macBegin_46 fu 0 S2 := by
    refine loopB (L_X12_macBegin_3 c i (nI at') (nI kl)) S 205 0 0 64 (mkey (fun k => rdI S c i (at' + k)) kl) (by decide) (fun m j hj => ?_) (fun m => ?_)
    · have er : rdI (blk S 205 0 0 j (mkey (fun k => rdI S c i (at' + k)) kl)) c i = rdI S c i := rdI_fr (l := [205]) (fr.bk (by decide)) (by simpa using hc) i
      rw [L_X12_macBegin_3, if_neg (show ¬ (64 : Int32) ≤ nI j from nI_ge (b := 64) hj (by decide)), ← blk_succ, Nat.zero_add]
      unfold L_X12_macBegin_32
      by_cases h : j < kl
      · rw [if_neg (nI_ge h (by omega)), nI_add, ldP_n ho (by omega) (by omega), stA_n (by decide) (by omega) (by decide), nI_1, er, show mkey (fun k => rdI S c i (at' + k)) kl j = rdI S c i (at' + j) from if_pos h]
      · rw [if_pos (nI_le (by omega) (by omega)), stA_n (by decide) (by omega) (by decide), nI_1, show mkey (fun k => rdI S c i (at' + k)) kl j = 0 from if_neg h]
    · rw [L_X12_macBegin_3, if_pos (show (64 : Int32) ≤ nI 64 by decide)]
  rw [h3]
  obtain ⟨S2, e2, s2, f2⟩ := hbegM (S := blk S 205 0 0 64 (mkey (fun k => rdI S c i (at' + k)) kl)) f
  rw [e2, cl_eq]
  have k2 : ∀ k, k < 64 → S2.1 205 0 k = mkey (fun k => rdI S c i (at' + k)) kl k := fun k hk => by rw [f2.1 205 (by decide), blk_in (by omega) (by omega), Nat.sub_zero]
  refine hrunM (v := fun j => mkey (fun k => rdI S c i (at' + k)) kl j ^^^ 54) (r := fun o => ∃ S', o = some ((), S') ∧ str S' f 64 ∧ fr (205 :: hL) S S' ∧ ∀ k, k < 64 → S'.1 205 0 k = mkey (fun k => rdI S c i (at' + k)) kl k) L_X12_macBegin_46 s2 (by decide : 64 < 10000) (fun j hj => ?_) (fun m j T T' hj hT hh => ?_) (fun m T hT hF => ?_)
  · rw [Nat.zero_add, mkey_pad hb isB_54]
    exact hf j hj
  · rw [L_X12_macBegin_46, if_neg (show ¬ (64 : Int32) ≤ nI j from nI_ge (b := 64) hj (by decide)), ldA_n (by decide) hj (by decide), hT.1 205 (by decide), k2 j hj, hh, cl_eq, nI_1]
  · rw [L_X12_macBegin_46, if_pos (show (64 : Int32) ≤ nI 64 by decide)]
    exact ⟨T, rfl, hT, (fr.bk (by decide)).tr ((f2.up (by decide)).tr (hF.up (by decide))), fun k hk => by rw [hF.1 205 (by decide)]; exact k2 k hk⟩
theorem mendM {S : Mm} {g key : Nat → Int32} {n kl : Nat} (hn : n < 10000) (hs : str S (padF g n) n) (hk : ∀ k, k < 64 → S.1 205 0 k = mkey key kl k) (hb : ∀ k, k < kl → isB (key k)) :
    ∃ S', F_X12_macEnd S = some ((), S') ∧ fr (204 :: 206 :: hL) S S' ∧ ∀ j, j < 20 → S'.1 204 0 j = dgst (cat (kpad key kl 92) 64 (dgst g n)) 84 j := by
  unfold F_X12_macEnd
  obtain ⟨S2, e2, f2, d2⟩ := hendM hn hs
  rw [e2, cl_eq]
  have h6 : L_X12_macEnd_6 fu 0 S2 = cl (F_X12_hashBegin (blk S2 206 0 0 20 (S2.1 204 0))) fun r4 S5 => L_X12_macEnd_36 fu 0 S5 := by
    refine loopB L_X12_macEnd_6 S2 206 0 0 20 (S2.1 204 0) (by decide) (fun m j hj => ?_) (fun m => ?_)
    · rw [L_X12_macEnd_6, if_neg (show ¬ (20 : Int32) ≤ nI j from nI_ge (b := 20) hj (by decide)), ldA_n (by decide) hj (by decide), stA_n (by decide) hj (by decide), nI_1, blk_ne (by decide : ¬ 204 = 206), ← blk_succ, Nat.zero_add]
    · rw [L_X12_macEnd_6, if_pos (show (20 : Int32) ≤ nI 20 by decide)]
  rw [h6]
  generalize hG : cat (kpad key kl 92) 64 (dgst g n) = G
  obtain ⟨S5, e5, s5, f5⟩ := hbegM (S := blk S2 206 0 0 20 (S2.1 204 0)) (padF G 84)
  rw [e5, cl_eq]
  have k5 : ∀ k, k < 64 → S5.1 205 0 k = mkey key kl k := fun k hk' => by rw [f5.1 205 (by decide), blk_ne (by decide), f2.1 205 (by decide)]; exact hk k hk'
  have i5 : ∀ k, k < 20 → S5.1 206 0 k = dgst g n k := fun k hk' => by rw [f5.1 206 (by decide), blk_in (by omega) (by omega), Nat.sub_zero]; exact d2 k hk'
  have fr5 : fr (204 :: 206 :: hL) S S5 := (f2.up (by decide)).tr ((fr.bk (by decide)).tr (f5.up (by decide)))
  refine hrunM (v := fun j => mkey key kl j ^^^ 92) (r := fun o => ∃ S', o = some ((), S') ∧ fr (204 :: 206 :: hL) S S' ∧ ∀ j, j < 20 → S'.1 204 0 j = dgst G 84 j) L_X12_macEnd_36 s5 (by decide : 64 < 10000) (fun j hj => ?_) (fun m j T T' hj hT hh => ?_) (fun m T hT hF => ?_)
  · rw [Nat.zero_add, mkey_pad hb isB_92, padF_lo (by omega), ← hG]
    exact if_pos hj
  · rw [L_X12_macEnd_36, if_neg (show ¬ (64 : Int32) ≤ nI j from nI_ge (b := 64) hj (by decide)), ldA_n (by decide) hj (by decide), hT.1 205 (by decide), k5 j hj, hh, cl_eq, nI_1]
  · rw [L_X12_macEnd_36, if_pos (show (64 : Int32) ≤ nI 64 by decide)]
    refine hrunM (v := fun j => dgst g n j) (r := fun o => ∃ S', o = some ((), S') ∧ fr (204 :: 206 :: hL) S S' ∧ ∀ j, j < 20 → S'.1 204 0 j = dgst G 84 j) L_X12_macEnd_63 hT (by decide : 20 < 10000) (fun j hj => ?_) (fun m j T2 T' hj hT2 hh => ?_) (fun m T2 hT2 hF2 => ?_)
    · rw [padF_lo (by omega), ← hG, show (0 + 64 + j : Nat) = 64 + j by omega]
      unfold cat
      rw [if_neg (by omega), Nat.add_sub_cancel_left]
      exact (isB_and (bt_B _ _)).symm
    · rw [L_X12_macEnd_63, if_neg (show ¬ (20 : Int32) ≤ nI j from nI_ge (b := 20) hj (by decide)), ldA_n (by decide) hj (by decide), hT2.1 206 (by decide), hF.1 206 (by decide), i5 j hj, hh, cl_eq, nI_1]
    · rw [L_X12_macEnd_63, if_pos (show (20 : Int32) ≤ nI 20 by decide)]
      obtain ⟨S', e', f', d'⟩ := hendM (g := G) (n := 84) (by decide) hT2
      rw [e', cl_eq]
      exact ⟨S', rfl, fr5.tr ((hF.up (by decide)).tr ((hF2.up (by decide)).tr (f'.up (by decide)))), d'⟩
/-- macOf: the HMAC of len bytes with a key of 16 -/
theorem hmacM {c1 i1 a1 c3 i3 a3 len : Nat} {S : Mm} (ho : okP true c1 i1 = true) (hc : c1 ∉ 204 :: 205 :: 206 :: hL) (hk : a1 + 16 ≤ kn c1) (hn : kn c1 < 50000) (hb : ∀ k, k < 16 → isB (rdI S c1 i1 (a1 + k))) (ho3 : okP true c3 i3 = true) (hc3 : c3 ∉ 204 :: 205 :: 206 :: hL) (hk3 : a3 + len ≤ kn c3) (hn3 : kn c3 < 50000) (hb3 : ∀ k, k < len → isB (rdI S c3 i3 (a3 + k))) (hl : len < 5000) :
    ∃ S', F_X12_macOf c1 i1 (nI a1) c3 i3 (nI a3) (nI len) S = some ((), S') ∧ fr (204 :: 205 :: 206 :: hL) S S' ∧ ∀ j, j < 20 → S'.1 204 0 j = hmac (fun k => rdI S c1 i1 (a1 + k)) 16 (fun k => rdI S c3 i3 (a3 + k)) len j := by
  have c205 : ¬ c1 = 205 := fun e => hc (by rw [e]; decide)
  have c3n : c3 ∉ 205 :: hL := fun h => hc3 (by simp at h ⊢; omega)
  unfold F_X12_macOf
  generalize hG : cat (kpad (fun k => rdI S c1 i1 (a1 + k)) 16 54) 64 (fun k => rdI S c3 i3 (a3 + k)) = G
  obtain ⟨S2, e2, s2, f2, k2⟩ := mbegM (padF G (64 + len)) ho c205 hk hn hb (fun j hj => by rw [padF_lo (by omega), ← hG]; exact if_pos hj)
  rw [show (16 : Int32) = nI 16 from rfl, e2, cl_eq]
  refine hrunM (v := fun j => rdI S c3 i3 (a3 + j)) (r := fun o => ∃ S', o = some ((), S') ∧ fr (204 :: 205 :: 206 :: hL) S S' ∧ ∀ j, j < 20 → S'.1 204 0 j = hmac (fun k => rdI S c1 i1 (a1 + k)) 16 (fun k => rdI S c3 i3 (a3 + k)) len j) (L_X12_macOf_11 c3 i3 (nI a3) (nI len)) s2 (by omega : len < 10000) (fun j hj => ?_) (fun m j T T' hj hT hh => ?_) (fun m T hT hF => ?_)
  · rw [padF_lo (by omega), ← hG]
    unfold cat
    rw [if_neg (by omega), Nat.add_sub_cancel_left]
    exact (isB_and (hb3 j hj)).symm
  · have er : rdI T c3 i3 = rdI S c3 i3 := rdI_fr (f2.tr (hT.up (by decide))) c3n i3
    rw [L_X12_macOf_11, if_neg (nI_ge hj (by omega)), nI_add, ldP_n ho3 (by omega) (by omega), er, hh, cl_eq, nI_1]
  · rw [L_X12_macOf_11, if_pos (nI_le (Nat.le_refl _) (by omega))]
    obtain ⟨S', e', f', d'⟩ := mendM (g := G) (n := 64 + len) (by omega) hT (fun k hk' => by rw [hF.1 205 (by decide)]; exact k2 k hk') hb
    rw [e', cl_eq]
    refine ⟨S', rfl, (f2.up (by decide)).tr ((hF.up (by decide)).tr (f'.up (by decide))), fun j hj => ?_⟩
    rw [d' j hj, ← hG]
    rfl
