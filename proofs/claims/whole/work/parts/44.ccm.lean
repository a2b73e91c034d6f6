/-! CCM: the pure side, the blocks -/
def blkF (a : Int32) (nn : Nat → Int32) (v k : Nat) : Int32 := if k = 0 then a else if k < 14 then nn (k - 1) else if k = 14 then nI (v / 256) else nI (v % 256)
def nnC (h : Nat → Int32) (k : Nat) : Int32 := if k = 0 then 0 else if k < 7 then h (9 + k) else if k < 11 then h (31 - (k - 7)) else if k = 11 then h 25 else h 24
def addF (h : Nat → Int32) (j : Nat) : Int32 := if j = 0 then h 0 else if j = 1 then h 1 &&& (-9) else if j = 20 then h 22 &&& 15 else if j = 21 then 0 else h (2 + j)
def aadF (h : Nat → Int32) (k : Nat) : Int32 := if k = 1 then 22 else if k < 2 then 0 else if 24 ≤ k then 0 else addF h (k - 2)
def padZ (p : Nat → Int32) (n k : Nat) : Int32 := if k < n then p k else 0
def chn (ks X f : Nat → Int32) : Nat → Nat → Int32
  | 0 => X
  | m + 1 => aes ks (fun k => chn ks X f m k ^^^ f (16 * m + k)) 10
def px (X f : Nat → Int32) (m k : Nat) : Int32 := X k ^^^ (if k < m then f k else 0)
def pc (ks X f : Nat → Int32) (j k : Nat) : Int32 := px (chn ks X f (j / 16)) (fun k => f (16 * (j / 16) + k)) (j % 16) k
def ctrF (ks nn : Nat → Int32) (i : Nat) : Nat → Int32 := aes ks (blkF 1 nn i) 10
def macF (ks nn A p : Nat → Int32) (n : Nat) : Nat → Int32 := chn ks (chn ks (aes ks (blkF 89 nn n) 10) A 2) (padZ p n) ((n + 15) / 16)
def tagF (ks nn A p : Nat → Int32) (n k : Nat) : Int32 := macF ks nn A p n k ^^^ ctrF ks nn 0 k
def covF (ks nn p : Nat → Int32) (k : Nat) : Int32 := p k ^^^ ctrF ks nn (k / 16 + 1) (k % 16)
theorem px_0 {X f : Nat → Int32} {k : Nat} : px X f 0 k = X k := by
  unfold px
  rw [if_neg (by omega), xor_0]
theorem isB_0 : isB 0 := ⟨0, by decide, rfl⟩
theorem chn_B {ks X f : Nat → Int32} (hk : ∀ k, k < 176 → isB (ks k)) (hX : ∀ k, k < 16 → isB (X k)) (hf : ∀ k, isB (f k)) : ∀ m k, k < 16 → isB (chn ks X f m k) := by
  intro m
  induction m with
  | zero => exact hX
  | succ m ih => exact aes_B hk (fun k h => isB_xor (ih k h) (hf _)) 10 (by decide)
theorem px_B {X f : Nat → Int32} {m k : Nat} (hX : isB (X k)) (hf : ∀ k, isB (f k)) : isB (px X f m k) := by
  unfold px
  refine isB_xor hX ?_
  by_cases h : k < m
  · rw [if_pos h]; exact hf k
  · rw [if_neg h]; exact isB_0
theorem pc_B {ks X f : Nat → Int32} (hk : ∀ k, k < 176 → isB (ks k)) (hX : ∀ k, k < 16 → isB (X k)) (hf : ∀ k, isB (f k)) {j k : Nat} (h : k < 16) : isB (pc ks X f j k) := px_B (chn_B hk hX hf _ k h) (fun k => hf _)
theorem pcA {ks X f : Nat → Int32} {j k : Nat} (hj : ¬ j % 16 = 15) : (if k = j % 16 then pc ks X f j (j % 16) ^^^ f j else pc ks X f j k) = pc ks X f (j + 1) k := by
  unfold pc px
  rw [show (j + 1) / 16 = j / 16 by omega, show (j + 1) % 16 = j % 16 + 1 by omega]
  by_cases h : k = j % 16
  · subst h
    rw [if_pos rfl, if_neg (by omega), if_pos (by omega), xor_0]
    show _ = _ ^^^ f (16 * (j / 16) + j % 16)
    rw [show 16 * (j / 16) + j % 16 = j by omega]
  · rw [if_neg h]
    by_cases h2 : k < j % 16
    · rw [if_pos h2, if_pos (by omega)]
    · rw [if_neg h2, if_neg (by omega)]
theorem pcB {ks X f : Nat → Int32} {j k : Nat} (hk : k < 16) (hj : j % 16 = 15) : (if k = j % 16 then pc ks X f j (j % 16) ^^^ f j else pc ks X f j k) = chn ks X f (j / 16) k ^^^ f (16 * (j / 16) + k) := by
  unfold pc px
  by_cases h : k = j % 16
  · subst h
    rw [if_pos rfl, if_neg (by omega), xor_0, show 16 * (j / 16) + j % 16 = j by omega]
  · rw [if_neg h, if_pos (by omega)]
theorem pcC {ks X f : Nat → Int32} {j k : Nat} (hj : j % 16 = 15) : aes ks (fun k => chn ks X f (j / 16) k ^^^ f (16 * (j / 16) + k)) 10 k = pc ks X f (j + 1) k := by
  unfold pc
  rw [show (j + 1) % 16 = 0 by omega, px_0, show (j + 1) / 16 = j / 16 + 1 by omega]
  rfl
theorem pc_16 {ks X f : Nat → Int32} {m k : Nat} : pc ks X f (16 * m) k = chn ks X f m k := by
  unfold pc
  rw [show 16 * m % 16 = 0 by omega, px_0, show 16 * m / 16 = m by omega]
theorem and9_B {x : Int32} (h : isB x) : isB (x &&& (-9)) := by
  obtain ⟨n, hn, rfl⟩ := h
  have hd : ∀ n, n < 256 → (nI n &&& (-9)) &&& 255 = nI n &&& (-9) := by decide +kernel
  exact isB_of (hd n hn)
theorem and15_B (x : Int32) : isB (x &&& 15) := by
  obtain ⟨j, hj, e⟩ := pk_andE x (m := 15) 4 (by decide)
  exact ⟨j, by omega, e⟩
theorem aadF_B {h : Nat → Int32} (hB : ∀ k, k < 32 → isB (h k)) (k : Nat) : isB (aadF h k) := by
  unfold aadF addF
  by_cases h1 : k = 1
  · rw [if_pos h1]; exact ⟨22, by decide, rfl⟩
  · rw [if_neg h1]
    by_cases h2 : k < 2
    · rw [if_pos h2]; exact isB_0
    · rw [if_neg h2]
      by_cases h3 : 24 ≤ k
      · rw [if_pos h3]; exact isB_0
      · rw [if_neg h3]
        by_cases h4 : k - 2 = 0
        · rw [if_pos h4]; exact hB 0 (by decide)
        · rw [if_neg h4]
          by_cases h5 : k - 2 = 1
          · rw [if_pos h5]; exact and9_B (hB 1 (by decide))
          · rw [if_neg h5]
            by_cases h6 : k - 2 = 20
            · rw [if_pos h6]; exact and15_B _
            · rw [if_neg h6]
              by_cases h7 : k - 2 = 21
              · rw [if_pos h7]; exact isB_0
              · rw [if_neg h7]; exact hB _ (by omega)
theorem padZ_B {p : Nat → Int32} {n : Nat} (h : ∀ k, k < n → isB (p k)) (k : Nat) : isB (padZ p n k) := by
  unfold padZ
  by_cases h1 : k < n
  · rw [if_pos h1]; exact h k h1
  · rw [if_neg h1]; exact isB_0
theorem nnC_B {h : Nat → Int32} (hB : ∀ k, k < 32 → isB (h k)) {k : Nat} (hk : k < 13) : isB (nnC h k) := by
  unfold nnC
  by_cases h1 : k = 0
  · rw [if_pos h1]; exact isB_0
  · rw [if_neg h1]
    by_cases h2 : k < 7
    · rw [if_pos h2]; exact hB _ (by omega)
    · rw [if_neg h2]
      by_cases h3 : k < 11
      · rw [if_pos h3]; exact hB _ (by omega)
      · rw [if_neg h3]
        by_cases h4 : k = 11
        · rw [if_pos h4]; exact hB _ (by omega)
        · rw [if_neg h4]; exact hB _ (by omega)
theorem blkF_B {a : Int32} {nn : Nat → Int32} {v k : Nat} (ha : isB a) (hn : ∀ k, k < 13 → isB (nn k)) (hv : v < 65536) : isB (blkF a nn v k) := by
  unfold blkF
  by_cases h1 : k = 0
  · rw [if_pos h1]; exact ha
  · rw [if_neg h1]
    by_cases h2 : k < 14
    · rw [if_pos h2]; exact hn _ (by omega)
    · rw [if_neg h2]
      by_cases h3 : k = 14
      · rw [if_pos h3]; exact ⟨_, by omega, rfl⟩
      · rw [if_neg h3]; exact ⟨_, by omega, rfl⟩
theorem isB_1 : isB 1 := ⟨1, by decide, rfl⟩
theorem isB_89 : isB 89 := ⟨89, by decide, rfl⟩
theorem ctrF_B {ks nn : Nat → Int32} (hk : ∀ k, k < 176 → isB (ks k)) (hn : ∀ k, k < 13 → isB (nn k)) {i k : Nat} (hi : i < 65536) (h : k < 16) : isB (ctrF ks nn i k) := aes_B hk (fun _ _ => blkF_B isB_1 hn hi) 10 (by decide) k h
theorem covF_B {ks nn p : Nat → Int32} (hk : ∀ k, k < 176 → isB (ks k)) (hn : ∀ k, k < 13 → isB (nn k)) {k : Nat} (hi : k < 65536) (hp : isB (p k)) : isB (covF ks nn p k) := isB_xor hp (ctrF_B hk hn (by omega) (by omega))
theorem macF_B {ks nn A p : Nat → Int32} {n : Nat} (hk : ∀ k, k < 176 → isB (ks k)) (hn : ∀ k, k < 13 → isB (nn k)) (hA : ∀ k, isB (A k)) (hp : ∀ k, k < n → isB (p k)) (h : n < 65536) : ∀ k, k < 16 → isB (macF ks nn A p n k) := chn_B hk (chn_B hk (aes_B hk (fun _ _ => blkF_B isB_89 hn h) 10 (by decide)) hA 2) (padZ_B hp) _
theorem tagF_B {ks nn A p : Nat → Int32} {n k : Nat} (hk : ∀ k, k < 176 → isB (ks k)) (hn : ∀ k, k < 13 → isB (nn k)) (hA : ∀ k, isB (A k)) (hp : ∀ k, k < n → isB (p k)) (h : n < 65536) (h16 : k < 16) : isB (tagF ks nn A p n k) := isB_xor (macF_B hk hn hA hp h k h16) (ctrF_B hk hn (by decide) h16)
theorem sh8 {v : Nat} (h : v < 65536) : nI v >>> (8 &&& 31) = nI (v / 256) := pk_shrN (by omega) _ 8 (by decide)
theorem an255 {v : Nat} (h : v < 65536) : nI v &&& 255 = nI (v % 256) := pk_andN (by omega) 8 (by decide)
/-! the class -/
theorem encC2 {c : Nat} {S : Mm} {ks X : Nat → Int32} (ho : okW false c 0 = true) (hkn : kn c = 16) (hc : c ∉ [14, 15]) (hX : ∀ k, k < 16 → S.1 c 0 k = X k) (XB : ∀ k, k < 16 → isB (X k)) (hks : ∀ k, k < 176 → S.1 15 0 k = ks k) (kB : ∀ k, k < 176 → isB (ks k)) :
    ∃ S', F_X0_encrypt c 0 S = some ((), S') ∧ fr [c, 14] S S' ∧ ∀ k, k < 16 → S'.1 c 0 k = aes ks X 10 k := by
  obtain ⟨S', e, f, v⟩ := encC ho hkn hc (fun k hk => by rw [hX k hk]; exact XB k hk) (fun k hk => by rw [hks k hk]; exact kB k hk)
  exact ⟨S', e, f, fun k hk => by rw [v k hk]; exact aes_congr hks hX 10 (by decide) k hk⟩
theorem c16 {P : Nat → Prop} (h0 : P 0) (h1 : P 1) (h2 : P 2) (h3 : P 3) (h4 : P 4) (h5 : P 5) (h6 : P 6) (h7 : P 7) (h8 : P 8) (h9 : P 9) (h10 : P 10) (h11 : P 11) (h12 : P 12) (h13 : P 13) (h14 : P 14) (h15 : P 15) : ∀ k, k < 16 → P k := by
  intro k hk
  rcases (show k = 0 ∨ k = 1 ∨ k = 2 ∨ k = 3 ∨ k = 4 ∨ k = 5 ∨ k = 6 ∨ k = 7 ∨ k = 8 ∨ k = 9 ∨ k = 10 ∨ k = 11 ∨ k = 12 ∨ k = 13 ∨ k = 14 ∨ k = 15 by omega) with rfl | rfl | rfl | rfl | rfl | rfl | rfl | rfl | rfl | rfl | rfl | rfl | rfl | rfl | rfl | rfl <;> assumption
theorem stP_l {β : Type} {b : Bool} {S : Mm} {c i : Nat} {v : Int32} {K : Mm → Option β} (x : Int32) (j : Nat) (e : x = nI j) (ho : okW b c i = true) (hj : j < kn c) (hn : kn c < 50000) : stP b S c i x v K = K (wrI S c i j v) := by
  rw [e]
  exact stP_n ho hj (by omega)
theorem ldP_l {β : Type} {b : Bool} {S : Mm} {c i : Nat} {K : Int32 → Option β} (x : Int32) (j : Nat) (e : x = nI j) (ho : okP b c i = true) (hj : j < kn c) (hn : kn c < 50000) : ldP b S c i x K = K (rdI S c i j) := by
  rw [e]
  exact ldP_n ho hj (by omega)
theorem firstC {c c1 i1 v : Nat} {a : Int32} {S : Mm} {h : Nat → Int32} (ho : okW false c 0 = true) (hkn : kn c = 16) (ho1 : okP false c1 i1 = true) (hc : ¬ c1 = c) (hk1 : 32 ≤ kn c1) (hn1 : kn c1 < 50000) (hh : ∀ k, k < 32 → rdI S c1 i1 k = h k) (hv : v < 65536) :
    ∃ S', F_X0_setFirstBlock c 0 c1 i1 a (nI v) S = some ((), S') ∧ fr [c] S S' ∧ ∀ k, k < 16 → S'.1 c 0 k = blkF a (nnC h) v k := by
  unfold F_X0_setFirstBlock
  rw [stP_l 0 0 rfl ho (by omega) (by omega), stP_l 1 1 rfl ho (by omega) (by omega)]
  generalize hS2 : wrI (wrI S c 0 0 a) c 0 1 0 = S2
  have f2 : fr [c] S S2 := by rw [← hS2]; exact (fr.wr (by simp)).tr (fr.wr (by simp))
  have cc : c1 ∉ [c] := by simpa using hc
  have e1 : L_X0_setFirstBlock_11 c 0 c1 i1 (nI v) fu 0 S2 = L_X0_setFirstBlock_40 c 0 c1 i1 (nI v) fu 0 (blk S2 c 0 2 6 (fun k => h (10 + k))) := by
    refine loopB (L_X0_setFirstBlock_11 c 0 c1 i1 (nI v)) S2 c 0 2 6 (fun k => h (10 + k)) (by decide) (fun m j hj => ?_) (fun m => ?_)
    · rw [L_X0_setFirstBlock_11, if_neg (show ¬ (6 : Int32) ≤ nI j from nI_ge (b := 6) hj (by decide)), ldP_l (10 + nI j) (10 + j) (nI_add 10 j) ho1 (by omega) hn1, stP_l (2 + nI j) (2 + j) (nI_add 2 j) ho (by omega) (by omega), rdI_fr (f2.tr (fr.bk (by simp))) cc i1, hh _ (by omega), nI_1, ← blk_succ]
    · rw [L_X0_setFirstBlock_11, if_pos (show (6 : Int32) ≤ nI 6 by decide)]
  rw [e1]
  generalize hS3 : blk S2 c 0 2 6 (fun k => h (10 + k)) = S3
  have f3 : fr [c] S S3 := by rw [← hS3]; exact f2.tr (fr.bk (by simp))
  have e2 : L_X0_setFirstBlock_40 c 0 c1 i1 (nI v) fu 0 S3 = some ((), wrI (wrI (wrI (wrI (blk S3 c 0 8 4 (fun k => h (31 - k))) c 0 12 (h 25)) c 0 13 (h 24)) c 0 14 (nI (v / 256))) c 0 15 (nI (v % 256))) := by
    refine loopB (L_X0_setFirstBlock_40 c 0 c1 i1 (nI v)) S3 c 0 8 4 (fun k => h (31 - k)) (by decide) (fun m j hj => ?_) (fun m => ?_)
    · rw [L_X0_setFirstBlock_40, if_neg (show ¬ (4 : Int32) ≤ nI j from nI_ge (b := 4) hj (by decide)), ldP_l (31 - nI j) (31 - j) (pk_sub (a := 31) (by omega)) ho1 (by omega) hn1, stP_l (8 + nI j) (8 + j) (nI_add 8 j) ho (by omega) (by omega), rdI_fr (f3.tr (fr.bk (by simp))) cc i1, hh _ (by omega), nI_1, ← blk_succ]
    · rw [L_X0_setFirstBlock_40, if_pos (show (4 : Int32) ≤ nI 4 by decide), ldP_l 25 25 rfl ho1 (by omega) hn1, stP_l 12 12 rfl ho (by omega) (by omega), ldP_l 24 24 rfl ho1 (by omega) hn1, stP_l 13 13 rfl ho (by omega) (by omega), stP_l 14 14 rfl ho (by omega) (by omega), stP_l 15 15 rfl ho (by omega) (by omega), rdI_fr (f3.tr (fr.bk (by simp))) cc i1, rdI_fr ((f3.tr (fr.bk (by simp))).tr (fr.wr (by simp))) cc i1, hh _ (by omega), hh _ (by omega), sh8 hv, an255 hv, nI_and255 (by omega)]
  rw [e2]
  refine ⟨_, rfl, f3.tr ((fr.bk (by simp)).tr ((fr.wr (by simp)).tr ((fr.wr (by simp)).tr ((fr.wr (by simp)).tr (fr.wr (by simp)))))), ?_⟩
  rw [← hS3, ← hS2]
  have w : ∀ (T : Mm) j d x, (wrI T c 0 j x).1 c 0 d = if d = j then x else T.1 c 0 d := fun T j d x => by
    show (if c = c ∧ 0 = 0 ∧ d = j then x else _) = _
    by_cases h : d = j
    · rw [if_pos ⟨rfl, rfl, h⟩, if_pos h]
    · rw [if_neg (fun z => h z.2.2), if_neg h]
  have b : ∀ (T : Mm) p n d f, (blk T c 0 p n f).1 c 0 d = if p ≤ d ∧ d < p + n then f (d - p) else T.1 c 0 d := fun T p n d f => by
    show (if c = c ∧ 0 = 0 ∧ p ≤ d ∧ d < p + n then _ else _) = _
    by_cases h : p ≤ d ∧ d < p + n
    · rw [if_pos ⟨rfl, rfl, h⟩, if_pos h]
    · rw [if_neg (fun z => h z.2.2), if_neg h]
  simp only [w, b]
  exact c16 rfl rfl rfl rfl rfl rfl rfl rfl rfl rfl rfl rfl rfl rfl rfl rfl
