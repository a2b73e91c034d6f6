/-! HMAC: the class -/
theorem rdI_fr {l : List Nat} {S S' : Mm} (h : fr l S S') {c : Nat} (hc : c ∉ l) (i : Nat) : rdI S' c i = rdI S c i := by
  funext j
  unfold rdI
  rw [h.1 c hc]
theorem cpP_n {β : Type} {b : Bool} {S : Mm} {c0 i0 sp c1 i1 dp n : Nat} {K : Mm → Option β} (h0 : okP b c0 i0 = true) (h1 : okW b c1 i1 = true) (hs : sp + n ≤ kn c0) (hd : dp + n ≤ kn c1) (k0 : kn c0 < 50000) (k1 : kn c1 < 50000) : cpP b S c0 i0 (nI sp) c1 i1 (nI dp) (nI n) K = K (blk S c1 i1 dp n (fun k => rdI S c0 i0 (sp + k))) := by
  unfold cpP
  rw [nI_clamp (by omega), nI_clamp (by omega), nI_clamp (by omega), if_pos]
  · rfl
  · simp only [Bool.and_eq_true, decide_eq_true_eq, Nat.ble_eq]
    exact ⟨⟨h0, h1⟩, ⟨nI_pos' (by omega), nI_pos' (by omega), nI_pos' (by omega)⟩, hs, hd⟩
def cat (f : Nat → Int32) (n : Nat) (g : Nat → Int32) (j : Nat) : Int32 := if j < n then f j else g (j - n)
def kpad (key : Nat → Int32) (kl : Nat) (p : Int32) (k : Nat) : Int32 := if k < kl then key k ^^^ p else p
def hmac (key : Nat → Int32) (kl : Nat) (msg : Nat → Int32) (len j : Nat) : Int32 := dgst (cat (kpad key kl 92) 64 (dgst (cat (kpad key kl 54) 64 msg) (64 + len))) 84 j
theorem padKC {c i kl : Nat} {p : Int32} {S : Mm} (ho : okP false c i = true) (hc : ¬ c = 49) (hk : kl ≤ kn c) (hn : kn c < 50000) : F_X10_padKey c i (nI kl) p S = some ((), blk S 49 0 0 64 (kpad (rdI S c i) kl p)) := by
  unfold F_X10_padKey
  refine loopB (L_X10_padKey_3 c i (nI kl) p) S 49 0 0 64 (kpad (rdI S c i) kl p) (by decide) (fun m j hj => ?_) (fun m => ?_)
  · have er : rdI (blk S 49 0 0 j (kpad (rdI S c i) kl p)) c i = rdI S c i := rdI_fr (l := [49]) (fr.bk (by decide)) (by simpa using hc) i
    rw [L_X10_padKey_3, if_neg (show ¬ (64 : Int32) ≤ nI j from nI_ge (b := 64) hj (by decide)), ← blk_succ, Nat.zero_add]
    unfold L_X10_padKey_32 kpad
    by_cases h : j < kl
    · rw [if_neg (nI_ge h (by omega)), ldP_n ho (by omega) (by omega), stA_n (by decide) (by omega) (by decide), nI_1, if_pos h]
      have er' := congrFun er j
      unfold kpad at er'
      rw [er']
    · rw [if_pos (nI_le (by omega) (by omega)), stA_n (by decide) (by omega) (by decide), nI_1, if_neg h]
  · rw [L_X10_padKey_3, if_pos (show (64 : Int32) ≤ nI 64 by decide)]
theorem hmacC {c i kl c3 i3 at' len : Nat} {S : Mm} (ho : okP false c i = true) (hc : c ∉ [46, 49, 50, 51]) (hk : kl ≤ kn c) (hn : kn c < 50000) (ho3 : okP false c3 i3 = true) (hc3 : c3 ∉ [46, 49, 50, 51]) (hk3 : at' + len ≤ kn c3) (hn3 : kn c3 < 50000) (hl : len ≤ 183) :
    ∃ S', F_X10_hashKeyed c i (nI kl) c3 i3 (nI at') (nI len) S = some ((), S') ∧ fr [46, 49, 50, 51] S S' ∧ ∀ j, j < 20 → S'.1 46 0 j = hmac (rdI S c i) kl (fun k => rdI S c3 i3 (at' + k)) len j := by
  have c49 : ¬ c = 49 := fun e => hc (by rw [e]; decide)
  have c349 : ¬ c3 = 49 := fun e => hc3 (by rw [e]; decide)
  unfold F_X10_hashKeyed
  rw [padKC ho c49 hk hn, cl_eq, show (64 : Int32) = nI 64 from rfl, cpP_n ho3 (by decide) hk3 (show 64 + len ≤ kn 49 by show 64 + len ≤ 256; omega) hn3 (by decide), nI_add]
  generalize hS4 : blk (blk S 49 0 0 64 (kpad (rdI S c i) kl 54)) 49 0 64 len (fun k => rdI (blk S 49 0 0 64 (kpad (rdI S c i) kl 54)) c3 i3 (at' + k)) = S4
  have hr3 : rdI (blk S 49 0 0 64 (kpad (rdI S c i) kl 54)) c3 i3 = rdI S c3 i3 := rdI_fr (l := [49]) (fr.bk (by decide)) (by simpa using c349) i3
  have hT4 : ∀ j, j < 64 + len → S4.1 49 0 j = cat (kpad (rdI S c i) kl 54) 64 (fun k => rdI S c3 i3 (at' + k)) j := by
    intro j hj
    rw [← hS4]
    unfold cat
    by_cases h : j < 64
    · rw [if_pos h, blk_out (by omega), blk_in (by omega) (by omega), Nat.sub_zero]
    · rw [if_neg h, blk_in (by omega) (by omega), hr3]
  have hF4 : fr [46, 49, 50, 51] S S4 := by
    rw [← hS4]
    exact (fr.bk (by decide)).tr (fr.bk (by decide))
  obtain ⟨S6, e6, f6, d6⟩ := textC (S := S4) (n := 64 + len) (by omega)
  have hrk : rdI S6 c i = rdI S c i := rdI_fr (hF4.tr f6) hc i
  rw [e6, cl_eq, padKC ho c49 hk hn, cl_eq, show (0 : Int32) = nI 0 from rfl, show (20 : Int32) = nI 20 from rfl, cpP_n (by decide) (by decide) (by decide) (by decide) (by decide) (by decide), hrk]
  generalize hS11 : blk (blk S6 49 0 0 64 (kpad (rdI S c i) kl 92)) 49 0 64 20 (fun k => rdI (blk S6 49 0 0 64 (kpad (rdI S c i) kl 92)) 46 0 (0 + k)) = S11
  have hT11 : ∀ j, j < 84 → S11.1 49 0 j = cat (kpad (rdI S c i) kl 92) 64 (dgst (cat (kpad (rdI S c i) kl 54) 64 (fun k => rdI S c3 i3 (at' + k))) (64 + len)) j := by
    intro j hj
    rw [← hS11]
    unfold cat
    by_cases h : j < 64
    · rw [if_pos h, blk_out (by omega), blk_in (by omega) (by omega), Nat.sub_zero]
    · rw [if_neg h, blk_in (by omega) (by omega), Nat.zero_add]
      have e : rdI (blk S6 49 0 0 64 (kpad (rdI S c i) kl 92)) 46 0 (j - 64) = S6.1 46 0 (j - 64) := by
        unfold rdI
        rw [if_neg (by decide), blk_ne (by decide)]
      rw [e, d6 _ (by omega)]
      exact dgst_congr (fun k hk => hT4 k hk) _ (by omega)
  have hF11 : fr [46, 49, 50, 51] S6 S11 := by
    rw [← hS11]
    exact (fr.bk (by decide)).tr (fr.bk (by decide))
  obtain ⟨S13, e13, f13, d13⟩ := textC (S := S11) (n := 84) (by omega)
  refine ⟨S13, ?_, hF4.tr (f6.tr (hF11.tr f13)), fun j hj => ?_⟩
  · rw [show (84 : Int32) = nI 84 from rfl, e13, cl_eq]
  · rw [d13 j hj]
    exact dgst_congr (fun k hk => hT11 k hk) j hj
