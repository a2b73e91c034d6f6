/-! AES: the key's expansion -/
def rcL : List Int32 := [1, 2, 4, 8, 16, 32, 64, 128, 27, 54, 108]
def ksF (key : Nat → Int32) (j : Nat) : Int32 :=
  if j < 16 then key j
  else if j % 16 < 4 then (ksF key (j - 16) ^^^ bx (ksF key (j / 4 * 4 - 4 + (j + 1) % 4))) ^^^ (if j % 4 = 0 then rcL.getD (j / 16 - 1) 0 else 0)
  else ksF key (j - 16) ^^^ ksF key (j - 4)
termination_by j
decreasing_by all_goals omega
theorem ksF_0 {key : Nat → Int32} {j : Nat} (h : j < 16) : ksF key j = key j := by rw [ksF, if_pos h]
theorem ksF_1 {key : Nat → Int32} {j : Nat} (h : ¬ j < 16) (h2 : j % 16 < 4) : ksF key j = (ksF key (j - 16) ^^^ bx (ksF key (j / 4 * 4 - 4 + (j + 1) % 4))) ^^^ (if j % 4 = 0 then rcL.getD (j / 16 - 1) 0 else 0) := by rw [ksF, if_neg h, if_pos h2]
theorem ksF_2 {key : Nat → Int32} {j : Nat} (h : ¬ j < 16) (h2 : ¬ j % 16 < 4) : ksF key j = ksF key (j - 16) ^^^ ksF key (j - 4) := by rw [ksF, if_neg h, if_neg h2]
theorem rc_B {k : Nat} : isB (rcL.getD k 0) := by
  by_cases h : k < 11
  · have hd : ∀ k, k < 11 → rcL.getD k 0 &&& 255 = rcL.getD k 0 := by decide
    exact isB_of (hd k h)
  · rw [List.getD_eq_getElem?_getD, List.getElem?_eq_none (show rcL.length ≤ k from Nat.le_of_not_lt h)]
    exact ⟨0, by decide, rfl⟩
theorem ksF_B {key : Nat → Int32} (h : ∀ k, k < 16 → isB (key k)) : ∀ j, isB (ksF key j) := by
  intro j
  induction j using Nat.strongRecOn with
  | _ j ih =>
    by_cases h1 : j < 16
    · rw [ksF_0 h1]
      exact h j h1
    · by_cases h2 : j % 16 < 4
      · rw [ksF_1 h1 h2]
        refine isB_xor (isB_xor (ih _ (by omega)) (bx_B (ih _ (by omega)))) ?_
        by_cases h3 : j % 4 = 0
        · rw [if_pos h3]
          exact rc_B
        · rw [if_neg h3]
          exact ⟨0, by decide, rfl⟩
      · rw [ksF_2 h1 h2]
        exact isB_xor (ih _ (by omega)) (ih _ (by omega))
theorem ksF_congr {key key' : Nat → Int32} (h : ∀ k, k < 16 → key k = key' k) : ∀ j, ksF key j = ksF key' j := by
  intro j
  induction j using Nat.strongRecOn with
  | _ j ih =>
    by_cases h1 : j < 16
    · rw [ksF_0 h1, ksF_0 h1, h j h1]
    · by_cases h2 : j % 16 < 4
      · rw [ksF_1 h1 h2, ksF_1 h1 h2, ih _ (by omega), ih _ (by omega)]
      · rw [ksF_2 h1 h2, ksF_2 h1 h2, ih _ (by omega), ih _ (by omega)]
theorem wr_blk0 {X : Mm} {c i p n : Nat} {g : Nat → Int32} {v : Int32} (hn : 0 < n) : wrI (blk X c i p n g) c i p v = blk X c i p n (fun k => if k = 0 then v else g k) := by
  refine Mm_ext (fun a b d => ?_) rfl
  show (if a = c ∧ b = i ∧ d = p then v else if a = c ∧ b = i ∧ p ≤ d ∧ d < p + n then g (d - p) else X.1 a b d) = if a = c ∧ b = i ∧ p ≤ d ∧ d < p + n then (if d - p = 0 then v else g (d - p)) else X.1 a b d
  by_cases h1 : a = c ∧ b = i
  · by_cases h2 : d = p
    · rw [if_pos ⟨h1.1, h1.2, h2⟩, if_pos ⟨h1.1, h1.2, by omega, by omega⟩, if_pos (by omega)]
    · rw [if_neg (fun z => h2 z.2.2)]
      by_cases h3 : p ≤ d ∧ d < p + n
      · rw [if_pos ⟨h1.1, h1.2, h3⟩, if_pos ⟨h1.1, h1.2, h3⟩, if_neg (by omega)]
      · rw [if_neg (fun z => h3 z.2.2), if_neg (fun z => h3 z.2.2)]
  · rw [if_neg (fun z => h1 ⟨z.1, z.2.1⟩), if_neg (fun z => h1 ⟨z.1, z.2.1⟩), if_neg (fun z => h1 ⟨z.1, z.2.1⟩)]
def rcq (q : Nat) : Int32 := rcL.getD ((q + 3) / 4 - 1) 0
theorem rcq_tw : ∀ q, q < 44 → 4 ≤ q → q % 4 = 0 → tw (rcq q) = rcq (q + 1) := by decide
theorem rcq_st {q : Nat} (h4 : 4 ≤ q) (h : ¬ q % 4 = 0) : rcq (q + 1) = rcq q := by
  unfold rcq
  rw [show (q + 1 + 3) / 4 = (q + 3) / 4 by omega]
theorem keyC {c i : Nat} {S : Mm} (ho : okP false c i = true) (hk : 16 ≤ kn c) (hn : kn c < 50000) (hb : ∀ k, k < 16 → isB (rdI S c i k)) : F_X0_expandKey c i S = some ((), blk S 15 0 0 176 (ksF (rdI S c i))) := by
  unfold F_X0_expandKey
  rw [show (0 : Int32) = nI 0 from rfl, show (16 : Int32) = nI 16 from rfl, cpP_n ho (by decide) (by omega) (by decide) hn (by decide)]
  rw [blk_congr (g := ksF (rdI S c i)) (fun k hk => by rw [ksF_0 hk, Nat.zero_add])]
  have kB := ksF_B hb
  generalize ksF_eq : ksF (rdI S c i) = ks at kB
  have k1 : ∀ j, ¬ j < 16 → j % 16 < 4 → ks j = (ks (j - 16) ^^^ bx (ks (j / 4 * 4 - 4 + (j + 1) % 4))) ^^^ (if j % 4 = 0 then rcL.getD (j / 16 - 1) 0 else 0) := fun j h1 h2 => by rw [← ksF_eq]; exact ksF_1 h1 h2
  have k2 : ∀ j, ¬ j < 16 → ¬ j % 16 < 4 → ks j = ks (j - 16) ^^^ ks (j - 4) := fun j h1 h2 => by rw [← ksF_eq]; exact ksF_2 h1 h2
  have h := loop0 (r := some ((), blk S 15 0 0 176 ks)) (fun m (q : Int32 × Int32 × Mm) => L_X0_expandKey_17 m q.1 q.2.1 q.2.2) (fun q => (rcq (4 + q), nI (4 * (4 + q)), blk S 15 0 0 (4 * (4 + q)) ks)) 40 (by decide) (fun m q' hq' => ?_) (fun m => ?_)
  · exact h
  · dsimp only
    rw [show 4 + (q' + 1) = 4 + q' + 1 by omega]
    generalize hq0 : 4 + q' = q
    have hq : 4 ≤ q ∧ q < 44 := by omega
    have hm : ∀ q, q < 44 → nI (4 * q) - nI (4 * q) / 16 * 16 = nI (4 * q % 16) := by decide
    have hp : nI (4 * q) - 4 = nI (4 * q - 4) := pk_sub (b := 4) (by omega)
    have hp16 : nI (4 * q) - 16 = nI (4 * q - 16) := pk_sub (b := 16) (by omega)
    rw [L_X0_expandKey_17, lnP_eq (by decide), if_neg (show ¬ nI (kn 15) ≤ nI (4 * q) from nI_ge (show 4 * q < 176 by omega) (by decide)), hm q hq.2]
    unfold L_X0_expandKey_38
    by_cases h4 : q % 4 = 0
    · rw [if_pos (show nI (4 * q % 16) = 0 by rw [show 4 * q % 16 = 0 by omega]; rfl)]
      have e1 : L_X0_expandKey_43 (L_X0_expandKey_17 m) (rcq q) (nI (4 * q)) 1 fu 0 (blk S 15 0 0 (4 * q) ks) = L_X0_expandKey_17 m (rcq (q + 1)) (nI (4 * (q + 1))) (wrI (blk (blk S 15 0 0 (4 * q) ks) 15 0 (4 * q) 4 (fun k => ks (4 * q + k - 16) ^^^ bx (ks (4 * q - 4 + (k + 1) % 4)))) 15 0 (4 * q) ((ks (4 * q - 16) ^^^ bx (ks (4 * q - 4 + 1))) ^^^ rcq q)) := by
        refine loopB (L_X0_expandKey_43 (L_X0_expandKey_17 m) (rcq q) (nI (4 * q)) 1) (blk S 15 0 0 (4 * q) ks) 15 0 (4 * q) 4 (fun k => ks (4 * q + k - 16) ^^^ bx (ks (4 * q - 4 + (k + 1) % 4))) (by decide) (fun m2 j hj => ?_) (fun m2 => ?_)
        · have i1 : ∀ j, j < 4 → (nI j + 1) - (nI j + 1) / 4 * 4 = nI ((j + 1) % 4) := by decide
          have rd : ∀ n, n < 4 * q → (blk (blk S 15 0 0 (4 * q) ks) 15 0 (4 * q) j (fun k => ks (4 * q + k - 16) ^^^ bx (ks (4 * q - 4 + (k + 1) % 4)))).1 15 0 n = ks n := fun n hn => by rw [blk_out (by omega), blk_in (by omega) (by omega), Nat.sub_zero]
          rw [L_X0_expandKey_43, if_neg (show ¬ (4 : Int32) ≤ nI j from nI_ge (b := 4) hj (by decide)), if_neg (by decide), i1 j hj, hp, nI_add]
          unfold L_X0_expandKey_77 L_X0_expandKey_120
          rw [ldA_n (by decide) (by omega) (by decide), hp16, nI_add, ldA_n (by decide) (by omega) (by decide), if_neg (by decide), nI_add, rd _ (by omega), rd _ (by omega), ldB (kB _), stA_n (by decide) (by omega) (by decide), nI_1, ← blk_succ, show 4 * q - 16 + j = 4 * q + j - 16 by omega]
        · rw [L_X0_expandKey_43, if_pos (show (4 : Int32) ≤ nI 4 by decide), if_neg (by decide), ldA_n (by decide) (by omega) (by decide), stA_n (by decide) (by omega) (by decide), tp_eq]
          unfold L_X0_expandKey_156
          rw [blk_in (by omega) (by omega), Nat.sub_self, show nI (4 * q) + 4 = nI (4 * q + 4) from nI_add _ 4, ← rcq_tw q hq.2 hq.1 h4]
          rfl
      rw [e1]
      congr 1
      rw [wr_blk0 (by decide), show 4 * (q + 1) = 4 * q + 4 by omega, ← blk_app S 15 0 0 (4 * q) 4 ks, Nat.zero_add]
      refine blk_congr (fun k hk => ?_)
      rw [k1 (4 * q + k) (by omega) (by omega), show (4 * q + k) / 4 * 4 - 4 + (4 * q + k + 1) % 4 = 4 * q - 4 + (k + 1) % 4 by omega]
      by_cases k0 : k = 0
      · subst k0
        rw [if_pos rfl, if_pos (by omega)]
        unfold rcq
        rw [show (q + 3) / 4 - 1 = (4 * q + 0) / 16 - 1 by omega]
        rfl
      · rw [if_neg k0, if_neg (by omega), xor_0]
    · rw [if_neg (show ¬ nI (4 * q % 16) = 0 from nI_ne0 (by omega) (by omega))]
      have e1 : L_X0_expandKey_43 (L_X0_expandKey_17 m) (rcq q) (nI (4 * q)) 0 fu 0 (blk S 15 0 0 (4 * q) ks) = L_X0_expandKey_17 m (rcq (q + 1)) (nI (4 * (q + 1))) (blk (blk S 15 0 0 (4 * q) ks) 15 0 (0 + 4 * q) 4 (fun k => ks (4 * q + k))) := by
        rw [Nat.zero_add]
        refine loopB (L_X0_expandKey_43 (L_X0_expandKey_17 m) (rcq q) (nI (4 * q)) 0) (blk S 15 0 0 (4 * q) ks) 15 0 (4 * q) 4 (fun k => ks (4 * q + k)) (by decide) (fun m2 j hj => ?_) (fun m2 => ?_)
        · have rd : ∀ n, n < 4 * q → (blk (blk S 15 0 0 (4 * q) ks) 15 0 (4 * q) j (fun k => ks (4 * q + k))).1 15 0 n = ks n := fun n hn => by rw [blk_out (by omega), blk_in (by omega) (by omega), Nat.sub_zero]
          rw [L_X0_expandKey_43, if_neg (show ¬ (4 : Int32) ≤ nI j from nI_ge (b := 4) hj (by decide)), if_pos rfl, hp, nI_add]
          unfold L_X0_expandKey_77 L_X0_expandKey_120
          rw [ldA_n (by decide) (by omega) (by decide), hp16, nI_add, ldA_n (by decide) (by omega) (by decide), if_pos rfl, nI_add, rd _ (by omega), rd _ (by omega), stA_n (by decide) (by omega) (by decide), nI_1, ← blk_succ, k2 (4 * q + j) (by omega) (by omega), show 4 * q - 16 + j = 4 * q + j - 16 by omega, show 4 * q - 4 + j = 4 * q + j - 4 by omega]
        · rw [L_X0_expandKey_43, if_pos (show (4 : Int32) ≤ nI 4 by decide), if_pos rfl]
          unfold L_X0_expandKey_156
          rw [show nI (4 * q) + 4 = nI (4 * q + 4) from nI_add _ 4, rcq_st hq.1 h4]
          rfl
      rw [e1, blk_app]
      rfl
  · dsimp only
    rw [L_X0_expandKey_17, lnP_eq (by decide), if_pos (show nI (kn 15) ≤ nI (4 * (4 + 40)) by decide)]
theorem keyM {c i at' : Nat} {S : Mm} (hx : boxd S) (ho : okP true c i = true) (hc : ¬ c = 208) (hk : at' + 16 ≤ kn c) (hn : kn c < 50000) (hb : ∀ k, k < 16 → isB (rdI S c i (at' + k))) : F_X12_expand c i (nI at') S = some ((), blk S 208 0 0 176 (ksF (fun k => rdI S c i (at' + k)))) := by
  unfold F_X12_expand
  have e0 : L_X12_expand_2 c i (nI at') fu 0 S = L_X12_expand_31 fu 1 16 (blk S 208 0 0 16 (fun k => rdI S c i (at' + k))) := by
    refine loopB (L_X12_expand_2 c i (nI at')) S 208 0 0 16 (fun k => rdI S c i (at' + k)) (by decide) (fun m j hj => ?_) (fun m => ?_)
    · have er : rdI (blk S 208 0 0 j (fun k => rdI S c i (at' + k))) c i = rdI S c i := rdI_fr (l := [208]) (fr.bk (by decide)) (by simpa using hc) i
      rw [L_X12_expand_2, if_neg (show ¬ (16 : Int32) ≤ nI j from nI_ge (b := 16) hj (by decide)), nI_add, ldP_n ho (by omega) (by omega), er, stA_n (by decide) (by omega) (by decide), nI_1, ← blk_succ, Nat.zero_add]
    · rw [L_X12_expand_2, if_pos (show (16 : Int32) ≤ nI 16 by decide)]
  rw [e0, blk_congr (g := ksF (fun k => rdI S c i (at' + k))) (fun k hk => by rw [ksF_0 hk])]
  have kB := ksF_B hb
  generalize ksF_eq : ksF (fun k => rdI S c i (at' + k)) = ks at kB
  have k1 : ∀ j, ¬ j < 16 → j % 16 < 4 → ks j = (ks (j - 16) ^^^ bx (ks (j / 4 * 4 - 4 + (j + 1) % 4))) ^^^ (if j % 4 = 0 then rcL.getD (j / 16 - 1) 0 else 0) := fun j h1 h2 => by rw [← ksF_eq]; exact ksF_1 h1 h2
  have k2 : ∀ j, ¬ j < 16 → ¬ j % 16 < 4 → ks j = ks (j - 16) ^^^ ks (j - 4) := fun j h1 h2 => by rw [← ksF_eq]; exact ksF_2 h1 h2
  have h := loop0 (r := some ((), blk S 208 0 0 176 ks)) (fun m (q : Int32 × Int32 × Mm) => L_X12_expand_31 m q.1 q.2.1 q.2.2) (fun q => (rcq (4 + q), nI (4 * (4 + q)), blk S 208 0 0 (4 * (4 + q)) ks)) 40 (by decide) (fun m q' hq' => ?_) (fun m => ?_)
  · exact h
  · dsimp only
    rw [show 4 + (q' + 1) = 4 + q' + 1 by omega]
    generalize hq0 : 4 + q' = q
    have hq : 4 ≤ q ∧ q < 44 := by omega
    have hm : ∀ q, q < 44 → nI (4 * q) - nI (4 * q) / 16 * 16 = nI (4 * q % 16) := by decide
    have hp : nI (4 * q) - 4 = nI (4 * q - 4) := pk_sub (b := 4) (by omega)
    have hp16 : nI (4 * q) - 16 = nI (4 * q - 16) := pk_sub (b := 16) (by omega)
    rw [L_X12_expand_31, if_neg (show ¬ (176 : Int32) ≤ nI (4 * q) from nI_ge (b := 176) (by omega) (by decide)), hm q hq.2]
    unfold L_X12_expand_52
    have rd : ∀ j n, n < 4 * q → (blk S 208 0 0 (4 * q + j) ks).1 208 0 n = ks n := fun j n hn => by rw [blk_in (by omega) (by omega), Nat.sub_zero]
    have bd : ∀ j, boxd (blk S 208 0 0 (4 * q + j) ks) := fun j n hn => by rw [blk_ne (by decide)]; exact hx n hn
    by_cases h4 : q % 4 = 0
    · rw [if_pos (show nI (4 * q % 16) = 0 by rw [show 4 * q % 16 = 0 by omega]; rfl)]
      refine loopA (L_X12_expand_57 (L_X12_expand_31 m) (rcq q) (nI (4 * q)) 1) 0 4 (fun j => blk S 208 0 0 (4 * q + j) ks) (by decide) (by decide) (fun m2 j _ hj => ?_) (fun m2 => ?_)
      · have i1 : ∀ j, j < 4 → (nI j + 1) - (nI j + 1) / 4 * 4 = nI ((j + 1) % 4) := by decide
        rw [L_X12_expand_57, if_neg (show ¬ (4 : Int32) ≤ nI j from nI_ge (b := 4) hj (by decide)), if_neg (by decide), i1 j hj, hp, nI_add, ldA_n (by decide) (by omega) (by decide), rd _ _ (by omega), ldBM (bd j) (kB _)]
        unfold L_X12_expand_104 L_X12_expand_145 L_X12_expand_146
        rw [hp16, nI_add, ldA_n (by decide) (by omega) (by decide), rd _ _ (by omega), if_neg (by decide), nI_add, show 4 * q + (j + 1) = (4 * q + j) + 1 by omega, ← blk_succ, Nat.zero_add, k1 (4 * q + j) (by omega) (by omega), show (4 * q + j) / 4 * 4 - 4 + (4 * q + j + 1) % 4 = 4 * q - 4 + (j + 1) % 4 by omega, show 4 * q - 16 + j = 4 * q + j - 16 by omega]
        by_cases j0 : j = 0
        · subst j0
          rw [if_pos (show nI 0 = 0 from rfl), stA_n (by decide) (by omega) (by decide), nI_1, if_pos (by omega)]
          unfold rcq
          rw [show (q + 3) / 4 - 1 = (4 * q + 0) / 16 - 1 by omega]
        · rw [if_neg (nI_ne0 (by omega) (by omega)), stA_n (by decide) (by omega) (by decide), nI_1, if_neg (by omega)]
      · have rB : isB (rcq q) := rc_B
        rw [L_X12_expand_57, if_pos (show (4 : Int32) ≤ nI 4 by decide), if_neg (by decide), twM rB, cl_eq, rcq_tw q hq.2 hq.1 h4]
        unfold L_X12_expand_167
        rw [show nI (4 * q) + 4 = nI (4 * q + 4) from nI_add _ 4]
        rfl
    · rw [if_neg (show ¬ nI (4 * q % 16) = 0 from nI_ne0 (by omega) (by omega))]
      refine loopA (L_X12_expand_57 (L_X12_expand_31 m) (rcq q) (nI (4 * q)) 0) 0 4 (fun j => blk S 208 0 0 (4 * q + j) ks) (by decide) (by decide) (fun m2 j _ hj => ?_) (fun m2 => ?_)
      · rw [L_X12_expand_57, if_neg (show ¬ (4 : Int32) ≤ nI j from nI_ge (b := 4) hj (by decide)), if_pos rfl, hp, nI_add, ldA_n (by decide) (by omega) (by decide), rd _ _ (by omega)]
        unfold L_X12_expand_104 L_X12_expand_145 L_X12_expand_146
        rw [hp16, nI_add, ldA_n (by decide) (by omega) (by decide), rd _ _ (by omega), if_pos rfl, nI_add, show 4 * q + (j + 1) = (4 * q + j) + 1 by omega, ← blk_succ, Nat.zero_add, k2 (4 * q + j) (by omega) (by omega), stA_n (by decide) (by omega) (by decide), nI_1, show 4 * q - 16 + j = 4 * q + j - 16 by omega, show 4 * q - 4 + j = 4 * q + j - 4 by omega, xor_0]
      · rw [L_X12_expand_57, if_pos (show (4 : Int32) ≤ nI 4 by decide), if_pos rfl]
        unfold L_X12_expand_167
        rw [show nI (4 * q) + 4 = nI (4 * q + 4) from nI_add _ 4, rcq_st hq.1 h4]
        rfl
  · dsimp only
    rw [L_X12_expand_31, if_pos (show (176 : Int32) ≤ nI (4 * (4 + 40)) by decide)]
