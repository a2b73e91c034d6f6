/-! CCM: the class's crypt, seal, open -/
theorem rd_w {b : Bool} {c i : Nat} {T : Mm} (ho : okW b c i = true) : rdI T c i = T.1 c i := by
  obtain ⟨w1, _, _, _⟩ := okW_of ho
  funext j
  exact if_neg (by omega)
theorem okW_P {b : Bool} {c i : Nat} (ho : okW b c i = true) : okP b c i = true := by unfold okP; unfold okW at ho; rw [ho, Bool.or_true]
def crQ (S : Mm) (c2 i2 a : Nat) (ks nn p : Nat → Int32) (j : Nat) (T : Mm) : Prop :=
  fr [c2, 13, 14] S T ∧ (∀ i d, ¬ (i = i2 ∧ a ≤ d ∧ d < a + j) → T.1 c2 i d = S.1 c2 i d) ∧ (∀ k, k < j → T.1 c2 i2 (a + k) = covF ks nn p k) ∧ (¬ j % 16 = 0 → ∀ k, k < 16 → T.1 13 0 k = ctrF ks nn (j / 16 + 1) k)
theorem cryC {c1 i1 c2 i2 a n : Nat} {S : Mm} {ks h p : Nat → Int32} (ho1 : okW false c1 i1 = true) (hc1 : c1 ∉ [13, 14]) (hk1 : 32 + n ≤ kn c1) (hn1 : kn c1 < 50000) (ho2 : okW false c2 i2 = true) (hc2 : c2 ∉ [13, 14, 15]) (hk2 : a + n ≤ kn c2) (hn2 : kn c2 < 50000) (hcc : ¬ c1 = c2 ∨ (i1 = i2 ∧ a = 32)) (hks : ∀ k, k < 176 → S.1 15 0 k = ks k) (kB : ∀ k, k < 176 → isB (ks k)) (hh : ∀ k, k < 32 → S.1 c1 i1 k = h k) (hB : ∀ k, k < 32 → isB (h k)) (hp : ∀ k, k < n → S.1 c1 i1 (32 + k) = p k) :
    ∃ S', F_X0_crypt c1 i1 c2 i2 (nI a) (nI n) S = some ((), S') ∧ crQ S c2 i2 a ks (nnC h) p n S' := by
  have nB : ∀ k, k < 13 → isB (nnC h k) := fun k hk => nnC_B hB hk
  have c13 : ¬ c1 = 13 := fun e => hc1 (by rw [e]; decide)
  have c15 : ¬ 15 = c2 := fun e => hc2 (by rw [← e]; decide)
  have c13' : ¬ 13 = c2 := fun e => hc2 (by rw [← e]; decide)
  have c14' : ¬ c2 = 14 := fun e => hc2 (by rw [e]; decide)
  have c132 : ¬ c2 = 13 := fun e => hc2 (by rw [e]; decide)
  unfold F_X0_crypt
  -- what the source still holds
  have src : ∀ j T, fr [c2, 13, 14] S T → (∀ i d, ¬ (i = i2 ∧ a ≤ d ∧ d < a + j) → T.1 c2 i d = S.1 c2 i d) → ∀ d, (d < 32 ∨ 32 + j ≤ d) → T.1 c1 i1 d = S.1 c1 i1 d := by
    intro j T fT oT d hd
    by_cases e : c1 = c2
    · subst e
      rcases hcc with z | ⟨e1, e2⟩
      · exact absurd rfl z
      · exact oT i1 d (by omega)
    · rw [fT.1 c1 (fun z => by simp at z; rcases z with z | z | z; exact e z; exact hc1 (by rw [z]; decide); exact hc1 (by rw [z]; decide))]
  refine loopR (L_X0_crypt_3 c1 i1 c2 i2 (nI a) (nI n)) (fun o => ∃ S', o = some ((), S') ∧ crQ S c2 i2 a ks (nnC h) p n S') (crQ S c2 i2 a ks (nnC h) p) 0 n (by omega) (by omega) (fun m j T _ hj hT hk => ?_) (fun m T hT => ?_) S ⟨fr.rf, fun _ _ _ => rfl, fun k hk => absurd hk (by omega), fun z => absurd rfl z⟩
  · obtain ⟨fT, oT, vT, bT⟩ := hT
    have hm : nI j - nI j / 16 * 16 = nI (j % 16) := pk_rem (d := 16) (by omega) (by decide) (by decide)
    have hd : nI j / 16 = nI (j / 16) := pk_div (d := 16) (by omega) (by decide) (by decide)
    have tail : ∀ U : Mm, fr [c2, 13, 14] S U → (∀ i d, U.1 c2 i d = T.1 c2 i d) → (∀ k, k < 16 → U.1 13 0 k = ctrF ks (nnC h) (j / 16 + 1) k) → ∃ S', L_X0_crypt_42 (L_X0_crypt_3 c1 i1 c2 i2 (nI a) (nI n) m) c1 i1 c2 i2 (nI a) (nI n) (nI j) U = some ((), S') ∧ crQ S c2 i2 a ks (nnC h) p n S' := by
      intro U fU oU bU
      unfold L_X0_crypt_42
      have oU2 : ∀ i d, ¬ (i = i2 ∧ a ≤ d ∧ d < a + j) → U.1 c2 i d = S.1 c2 i d := fun i d z => (oU i d).trans (oT i d z)
      rw [hm, ldP_l (32 + nI j) (32 + j) (nI_add 32 j) (okW_P ho1) (by omega) hn1, ldA_n (by decide) (by omega) (by decide), nI_add, stP_n ho2 (by omega) (by omega), nI_1, rd_w ho1, src j U fU oU2 _ (by omega), hp j hj, bU _ (by omega)]
      refine hk _ ⟨fU.tr (fr.wr (by simp)), fun i d z => ?_, fun k hk => ?_, fun z k hk => ?_⟩
      · rw [wrI_o (by omega)]
        exact oU2 i d (by omega)
      · by_cases e : k = j
        · subst e
          rw [wrI_s]
          rfl
        · rw [wrI_o (by omega), oU, vT k (by omega)]
      · rw [wrI_ne c13', bU k hk, show (j + 1) / 16 = j / 16 by omega]
    rw [L_X0_crypt_3, if_neg (nI_ge hj (by omega)), hm]
    by_cases h0 : j % 16 = 0
    · rw [if_pos (show nI (j % 16) = 0 by rw [h0]; rfl), hd, nI_1]
      obtain ⟨S2, e2, f2, v2⟩ := firstC (c := 13) (a := 1) (v := j / 16 + 1) (S := T) (h := h) (by decide) (by decide) (okW_P ho1) c13 (by omega) hn1 (fun k hk => by rw [rd_w ho1, src j T fT oT k (by omega)]; exact hh k hk) (by omega)
      rw [e2, cl_eq]
      obtain ⟨S5, e5, f5, v5⟩ := encC2 (c := 13) (S := S2) (ks := ks) (by decide) (by decide) (by decide) v2 (fun k _ => blkF_B isB_1 nB (by omega)) (fun k hk => by rw [f2.1 15 (by decide), fT.1 15 (by simp; exact c15)]; exact hks k hk) kB
      rw [e5, cl_eq]
      exact tail S5 (fT.tr ((f2.up (by simp)).tr (f5.up (by simp)))) (fun i d => by rw [f5.1 c2 (by simp; exact ⟨c132, c14'⟩), f2.1 c2 (by simp; exact c132)]) v5
    · rw [if_neg (show ¬ nI (j % 16) = 0 from nI_ne0 (by omega) (by omega))]
      exact tail T fT (fun _ _ => rfl) (bT h0)
  · rw [L_X0_crypt_3, if_pos (nI_le (Nat.le_refl n) (by omega))]
    exact ⟨T, rfl, hT⟩
theorem blkS {T : Mm} {c i p n d : Nat} {f : Nat → Int32} : (blk T c i p n f).1 c i d = if p ≤ d ∧ d < p + n then f (d - p) else T.1 c i d := by
  show (if c = c ∧ i = i ∧ p ≤ d ∧ d < p + n then _ else _) = _
  by_cases h : p ≤ d ∧ d < p + n
  · rw [if_pos ⟨rfl, rfl, h⟩, if_pos h]
  · rw [if_neg (fun z => h z.2.2), if_neg h]
abbrev cL : List Nat := [11, 12, 13, 14, 15]
theorem sealC {c1 i1 n c3 i3 : Nat} {S : Mm} {key h p : Nat → Int32} (ho1 : okW false c1 i1 = true) (hc1 : c1 ∉ cL) (hk1 : 40 + n ≤ kn c1) (hn1 : kn c1 < 50000) (ho3 : okP false c3 i3 = true) (hk3 : 16 ≤ kn c3) (hn3 : kn c3 < 50000) (hn : n ≤ 300) (hkey : ∀ k, k < 16 → rdI S c3 i3 k = key k) (kB : ∀ k, k < 16 → isB (key k)) (hh : ∀ k, k < 32 → S.1 c1 i1 k = h k) (hB : ∀ k, k < 32 → isB (h k)) (hp : ∀ k, k < n → S.1 c1 i1 (32 + k) = p k) (pB : ∀ k, k < n → isB (p k)) :
    ∃ S', F_X0_seal c1 i1 (nI n) c3 i3 S = some ((), S') ∧ fr (c1 :: cL) S S' ∧ (∀ i d, ¬ (i = i1 ∧ 32 ≤ d ∧ d < 40 + n) → S'.1 c1 i d = S.1 c1 i d) ∧ (∀ k, k < n → S'.1 c1 i1 (32 + k) = covF (ksF key) (nnC h) p k) ∧ ∀ k, k < 8 → S'.1 c1 i1 (32 + n + k) = tagF (ksF key) (nnC h) (aadF h) p n k := by
  have nB : ∀ k, k < 13 → isB (nnC h k) := fun k hk => nnC_B hB hk
  have c11 : ¬ c1 = 11 := fun e => hc1 (by rw [e]; decide)
  have c12 : ¬ c1 = 12 := fun e => hc1 (by rw [e]; decide)
  have c13 : ¬ c1 = 13 := fun e => hc1 (by rw [e]; decide)
  have c14 : ¬ c1 = 14 := fun e => hc1 (by rw [e]; decide)
  have c15 : ¬ c1 = 15 := fun e => hc1 (by rw [e]; decide)
  unfold F_X0_seal
  rw [keyC ho3 hk3 hn3 (fun k hk => by rw [hkey k hk]; exact kB k hk), cl_eq, show (32 : Int32) = nI 32 from rfl, show (0 : Int32) = nI 0 from rfl, cpP_n (okW_P ho1) (by decide) (by omega) (show 0 + n ≤ 300 by omega) hn1 (by decide)]
  have kB' := fun k (_ : k < 176) => ksF_B kB k
  have ksE : ksF (rdI S c3 i3) = ksF key := funext (ksF_congr hkey)
  rw [ksE]
  generalize ksF key = ks at kB'
  generalize hS4 : blk (blk S 15 0 0 176 ks) 11 0 0 n (fun k => rdI (blk S 15 0 0 176 ks) c1 i1 (32 + k)) = S4
  have f4 : fr cL S S4 := by rw [← hS4]; exact (fr.bk (by decide)).tr (fr.bk (by decide))
  have k4 : ∀ k, k < 176 → S4.1 15 0 k = ks k := fun k hk => by rw [← hS4, blk_ne (by decide), blk_in (by omega) (by omega), Nat.sub_zero]
  have p4 : ∀ k, k < n → S4.1 11 0 k = p k := fun k hk => by rw [← hS4, blk_in (by omega) (by omega), Nat.sub_zero, rd_w ho1, blk_ne c15]; exact hp k hk
  have s4 : S4.1 c1 = S.1 c1 := f4.1 c1 hc1
  obtain ⟨S6, e6, f6, v6⟩ := addC (S := S4) (ks := ks) (h := h) (p := p) (n := n) (okW_P ho1) (by simp; exact ⟨c12, c14⟩) (by omega) hn1 k4 kB' (fun k hk => by rw [rd_w ho1, s4]; exact hh k hk) hB p4 pB hn
  rw [e6, cl_eq]
  have s6 : S6.1 c1 = S.1 c1 := (f6.1 c1 (by simp; exact ⟨c12, c14⟩)).trans s4
  have k6 : ∀ k, k < 176 → S6.1 15 0 k = ks k := fun k hk => by rw [f6.1 15 (by decide)]; exact k4 k hk
  obtain ⟨S9, e9, f9, o9, v9, _⟩ := cryC (S := S6) (c1 := c1) (i1 := i1) (c2 := c1) (i2 := i1) (a := 32) (n := n) (ks := ks) (h := h) (p := p) ho1 (by simp; exact ⟨c13, c14⟩) (by omega) hn1 ho1 (by simp; exact ⟨c13, c14, c15⟩) (by omega) hn1 (Or.inr ⟨rfl, rfl⟩) k6 kB' (fun k hk => by rw [s6]; exact hh k hk) hB (fun k hk => by rw [s6]; exact hp k hk)
  rw [e9, cl_eq]
  have h9 : ∀ k, k < 32 → rdI S9 c1 i1 k = h k := fun k hk => by rw [rd_w ho1, o9 i1 k (by omega), s6]; exact hh k hk
  obtain ⟨S12, e12, f12, v12⟩ := firstC (c := 13) (a := 1) (v := 0) (S := S9) (h := h) (by decide) (by decide) (okW_P ho1) c13 (by omega) hn1 h9 (by decide)
  rw [e12, cl_eq]
  obtain ⟨S15, e15, f15, v15⟩ := encC2 (c := 13) (S := S12) (ks := ks) (by decide) (by decide) (by decide) v12 (fun k _ => blkF_B isB_1 nB (by decide)) (fun k hk => by rw [f12.1 15 (by decide), f9.1 15 (by simp; exact fun e => c15 e.symm)]; exact k6 k hk) kB'
  rw [e15, cl_eq]
  have s15 : S15.1 c1 = S9.1 c1 := by rw [f15.1 c1 (by simp; exact ⟨c13, c14⟩), f12.1 c1 (by simp; exact c13)]
  have m15 : ∀ k, k < 16 → S15.1 12 0 k = macF ks (nnC h) (aadF h) p n k := fun k hk => by rw [f15.1 12 (by decide), f12.1 12 (by decide), f9.1 12 (by simp; exact fun e => c12 e.symm)]; exact v6 k hk
  have eL : L_X0_seal_53 c1 i1 (nI n) fu 0 S15 = some ((), blk S15 c1 i1 (32 + n) 8 (tagF ks (nnC h) (aadF h) p n)) := by
    refine loopB (L_X0_seal_53 c1 i1 (nI n)) S15 c1 i1 (32 + n) 8 (tagF ks (nnC h) (aadF h) p n) (by decide) (fun m j hj => ?_) (fun m => ?_)
    · rw [L_X0_seal_53, if_neg (show ¬ (8 : Int32) ≤ nI j from nI_ge (b := 8) hj (by decide)), ldA_n (by decide) (by omega) (by decide), ldA_n (by decide) (by omega) (by decide), stP_l ((32 + nI n) + nI j) (32 + n + j) (by rw [show (32 : Int32) + nI n = nI (32 + n) from nI_add 32 n, nI_add]) ho1 (by omega) hn1, blk_ne (fun e => c12 e.symm), blk_ne (fun e => c13 e.symm), m15 j (by omega), v15 j (by omega), nI_1, ← blk_succ]
      rfl
    · rw [L_X0_seal_53, if_pos (show (8 : Int32) ≤ nI 8 by decide)]
  refine ⟨_, eL, ?_, fun i d z => ?_, fun k hk => ?_, fun k hk => ?_⟩
  · exact (f4.up (by simp)).tr ((f6.up (by simp)).tr ((f9.up (by simp)).tr ((f12.up (by simp)).tr ((f15.up (by simp)).tr (fr.bk (by simp))))))
  · rw [blk_out (by omega), s15, o9 i d (by omega), s6]
  · rw [blk_out (by omega), s15]
    exact v9 k hk
  · rw [blk_in (by omega) (by omega), Nat.add_sub_cancel_left]
theorem or_0 (a b : Int32) : a ||| b = 0 ↔ a = 0 ∧ b = 0 := by
  constructor
  · intro h
    have h1 := congrArg Int32.toBitVec h
    rw [Int32.toBitVec_or] at h1
    have hb : ∀ i, a.toBitVec.getLsbD i = false ∧ b.toBitVec.getLsbD i = false := fun i => by
      have := congrArg (fun z : BitVec 32 => z.getLsbD i) h1
      rw [BitVec.getLsbD_or, show (Int32.toBitVec 0).getLsbD i = false from BitVec.getLsbD_zero, Bool.or_eq_false_iff] at this
      exact this
    constructor
    · apply Int32.toBitVec_inj.mp
      apply BitVec.eq_of_getLsbD_eq
      intro i _
      rw [(hb i).1]
      exact BitVec.getLsbD_zero.symm
    · apply Int32.toBitVec_inj.mp
      apply BitVec.eq_of_getLsbD_eq
      intro i _
      rw [(hb i).2]
      exact BitVec.getLsbD_zero.symm
  · rintro ⟨rfl, rfl⟩
    rfl
theorem xor_eq0 (a b : Int32) : a ^^^ b = 0 ↔ a = b := by
  constructor
  · intro h
    have := congrArg (fun z => z ^^^ b) h
    rw [xor_a, Int32.xor_self, xor_0, Int32.xor_comm, xor_0] at this
    exact this
  · rintro rfl
    exact Int32.xor_self
theorem xor3_eq0 (a b c : Int32) : (a ^^^ b) ^^^ c = 0 ↔ a = b ^^^ c := by rw [xor_a, xor_eq0]
def all8 (f g : Nat → Int32) : Nat → Bool
  | 0 => true
  | n + 1 => all8 f g n && decide (f n = g n)
theorem all8_iff {f g : Nat → Int32} {n : Nat} : all8 f g n = true ↔ ∀ k, k < n → f k = g k := by
  induction n with
  | zero => exact ⟨fun _ k h => absurd h (by omega), fun _ => rfl⟩
  | succ n ih =>
    show (all8 f g n && decide (f n = g n)) = true ↔ _
    rw [Bool.and_eq_true, ih, decide_eq_true_iff]
    exact ⟨fun h k hk => by
      by_cases e : k = n
      · subst e; exact h.2
      · exact h.1 k (by omega), fun h => ⟨fun k hk => h k (by omega), h n (by omega)⟩⟩
theorem all8_congr {f g f' g' : Nat → Int32} {n : Nat} (h1 : ∀ k, k < n → f k = f' k) (h2 : ∀ k, k < n → g k = g' k) : all8 f g n = all8 f' g' n := by
  rw [Bool.eq_iff_iff, all8_iff, all8_iff]
  exact ⟨fun h k hk => by rw [← h1 k hk, ← h2 k hk]; exact h k hk, fun h k hk => by rw [h1 k hk, h2 k hk]; exact h k hk⟩
def bI (b : Bool) : Int32 := if b then 1 else 0
theorem openC {c1 i1 n c3 i3 : Nat} {S : Mm} {key h p : Nat → Int32} (ho1 : okW false c1 i1 = true) (hc1 : c1 ∉ cL) (hk1 : 40 + n ≤ kn c1) (hn1 : kn c1 < 50000) (ho3 : okP false c3 i3 = true) (hk3 : 16 ≤ kn c3) (hn3 : kn c3 < 50000) (hn : n ≤ 300) (hkey : ∀ k, k < 16 → rdI S c3 i3 k = key k) (kB : ∀ k, k < 16 → isB (key k)) (hh : ∀ k, k < 32 → S.1 c1 i1 k = h k) (hB : ∀ k, k < 32 → isB (h k)) (hp : ∀ k, k < n → S.1 c1 i1 (32 + k) = p k) (pB : ∀ k, k < n → isB (p k)) :
    ∃ S', F_X0_open c1 i1 (nI n) c3 i3 S = some (bI (all8 (fun k => S.1 c1 i1 (32 + n + k)) (tagF (ksF key) (nnC h) (aadF h) (covF (ksF key) (nnC h) p) n) 8), S') ∧ fr cL S S' ∧ ∀ k, k < n → S'.1 11 0 k = covF (ksF key) (nnC h) p k := by
  have nB : ∀ k, k < 13 → isB (nnC h k) := fun k hk => nnC_B hB hk
  have c11 : ¬ c1 = 11 := fun e => hc1 (by rw [e]; decide)
  have c12 : ¬ c1 = 12 := fun e => hc1 (by rw [e]; decide)
  have c13 : ¬ c1 = 13 := fun e => hc1 (by rw [e]; decide)
  have c14 : ¬ c1 = 14 := fun e => hc1 (by rw [e]; decide)
  have c15 : ¬ c1 = 15 := fun e => hc1 (by rw [e]; decide)
  unfold F_X0_open
  rw [keyC ho3 hk3 hn3 (fun k hk => by rw [hkey k hk]; exact kB k hk), cl_eq]
  have kB' := fun k (_ : k < 176) => ksF_B kB k
  have ksE : ksF (rdI S c3 i3) = ksF key := funext (ksF_congr hkey)
  rw [ksE]
  generalize ksF key = ks at kB'
  generalize hS2 : blk S 15 0 0 176 ks = S2
  have f2 : fr cL S S2 := by rw [← hS2]; exact fr.bk (by decide)
  have k2 : ∀ k, k < 176 → S2.1 15 0 k = ks k := fun k hk => by rw [← hS2, blk_in (by omega) (by omega), Nat.sub_zero]
  have s2 : S2.1 c1 = S.1 c1 := f2.1 c1 hc1
  obtain ⟨S5, e5, f5, _, v5, _⟩ := cryC (S := S2) (c1 := c1) (i1 := i1) (c2 := 11) (i2 := 0) (a := 0) (n := n) (ks := ks) (h := h) (p := p) ho1 (by simp; exact ⟨c13, c14⟩) (by omega) hn1 (by decide) (by decide) (show 0 + n ≤ 300 by omega) (by decide) (Or.inl c11) k2 kB' (fun k hk => by rw [s2]; exact hh k hk) hB (fun k hk => by rw [s2]; exact hp k hk)
  rw [show (0 : Int32) = nI 0 from rfl, e5, cl_eq]
  have s5 : S5.1 c1 = S.1 c1 := (f5.1 c1 (by simp; exact ⟨c11, c13, c14⟩)).trans s2
  have k5 : ∀ k, k < 176 → S5.1 15 0 k = ks k := fun k hk => by rw [f5.1 15 (by decide)]; exact k2 k hk
  obtain ⟨S8, e8, f8, v8⟩ := addC (S := S5) (ks := ks) (h := h) (p := covF ks (nnC h) p) (n := n) (okW_P ho1) (by simp; exact ⟨c12, c14⟩) (by omega) hn1 k5 kB' (fun k hk => by rw [rd_w ho1, s5]; exact hh k hk) hB (fun k hk => by have := v5 k hk; rw [Nat.zero_add] at this; exact this) (fun k hk => covF_B kB' nB (by omega) (pB k hk)) hn
  rw [e8, cl_eq]
  have s8 : S8.1 c1 = S.1 c1 := (f8.1 c1 (by simp; exact ⟨c12, c14⟩)).trans s5
  obtain ⟨S11, e11, f11, v11⟩ := firstC (c := 13) (a := 1) (v := 0) (S := S8) (h := h) (by decide) (by decide) (okW_P ho1) c13 (by omega) hn1 (fun k hk => by rw [rd_w ho1, s8]; exact hh k hk) (by decide)
  rw [e11, cl_eq]
  obtain ⟨S14, e14, f14, v14⟩ := encC2 (c := 13) (S := S11) (ks := ks) (by decide) (by decide) (by decide) v11 (fun k _ => blkF_B isB_1 nB (by decide)) (fun k hk => by rw [f11.1 15 (by decide), f8.1 15 (by decide)]; exact k5 k hk) kB'
  rw [e14, cl_eq]
  have s14 : S14.1 c1 = S.1 c1 := by rw [f14.1 c1 (by simp; exact ⟨c13, c14⟩), f11.1 c1 (by simp; exact c13), s8]
  have m14 : ∀ k, k < 16 → S14.1 12 0 k = macF ks (nnC h) (aadF h) (covF ks (nnC h) p) n k := fun k hk => by rw [f14.1 12 (by decide), f11.1 12 (by decide)]; exact v8 k hk
  refine ⟨S14, ?_, (f2.tr ((f5.up (by decide)).tr ((f8.up (by decide)).tr ((f11.up (by decide)).tr (f14.up (by decide)))))), fun k hk => ?_⟩
  · generalize hg : tagF ks (nnC h) (aadF h) (covF ks (nnC h) p) n = g
    refine loopR (fun m v5 (q : Int32) => L_X0_open_46 c1 i1 (nI n) m q v5 S14) (fun o => o = some (bI (all8 (fun k => S.1 c1 i1 (32 + n + k)) g 8), S14)) (fun j q => q = 0 ↔ all8 (fun k => S.1 c1 i1 (32 + n + k)) g j = true) 0 8 (by decide) (by decide) (fun m j q _ hj hq hk => ?_) (fun m q hq => ?_) (nI 0) ⟨fun _ => rfl, fun _ => rfl⟩
    · rw [L_X0_open_46, if_neg (show ¬ (8 : Int32) ≤ nI j from nI_ge (b := 8) hj (by decide)), ldP_l ((32 + nI n) + nI j) (32 + n + j) (by rw [show (32 : Int32) + nI n = nI (32 + n) from nI_add 32 n, nI_add]) (okW_P ho1) (by omega) hn1, ldA_n (by decide) (by omega) (by decide), ldA_n (by decide) (by omega) (by decide), tp_eq, nI_1, rd_w ho1, s14, m14 j (by omega), v14 j (by omega)]
      refine hk _ ?_
      rw [or_0, xor3_eq0, hq]
      show _ ↔ (all8 (fun k => S.1 c1 i1 (32 + n + k)) g j && decide (S.1 c1 i1 (32 + n + j) = g j)) = true
      rw [Bool.and_eq_true, decide_eq_true_iff, ← hg]
      exact Iff.rfl
    · rw [L_X0_open_46, if_pos (show (8 : Int32) ≤ nI 8 by decide)]
      by_cases e : q = 0
      · rw [if_pos e, hq.mp e]
        rfl
      · rw [if_neg e, show all8 (fun k => S.1 c1 i1 (32 + n + k)) g 8 = false from Bool.eq_false_iff.mpr (fun z => e (hq.mpr z))]
        rfl
  · rw [f14.1 11 (by decide), f11.1 11 (by decide), f8.1 11 (by decide)]
    have := v5 k hk
    rw [Nat.zero_add] at this
    exact this
