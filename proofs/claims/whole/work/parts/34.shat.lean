/-! SHA-1 of a text: the class -/
def fr (l : List Nat) (S S' : Mm) : Prop := (∀ a, a ∉ l → S'.1 a = S.1 a) ∧ (∀ a, a ∉ l → S'.2.1 a = S.2.1 a) ∧ S'.2.2 = S.2.2
theorem fr.rf {l : List Nat} {S : Mm} : fr l S S := ⟨fun _ _ => rfl, fun _ _ => rfl, rfl⟩
theorem fr.tr {l : List Nat} {S T U : Mm} (h1 : fr l S T) (h2 : fr l T U) : fr l S U := ⟨fun a h => (h2.1 a h).trans (h1.1 a h), fun a h => (h2.2.1 a h).trans (h1.2.1 a h), h2.2.2.trans h1.2.2⟩
theorem fr.up {l l' : List Nat} {S T : Mm} (h : fr l S T) (hl : ∀ a, a ∈ l → a ∈ l') : fr l' S T := ⟨fun a ha => h.1 a (fun z => ha (hl a z)), fun a ha => h.2.1 a (fun z => ha (hl a z)), h.2.2⟩
theorem fr.wr {l : List Nat} {S : Mm} {c i j : Nat} {v : Int32} (h : c ∈ l) : fr l S (wrI S c i j v) := ⟨fun a ha => wrI_ne (fun z => ha (z ▸ h)), fun _ _ => rfl, rfl⟩
theorem fr.wl {l : List Nat} {S : Mm} {c i j : Nat} {v : Int64} (h : c ∈ l) : fr l S (wrL S c i j v) := ⟨fun _ _ => rfl, fun a ha => by funext b d; exact if_neg (fun z : a = c ∧ b = i ∧ d = j => ha (z.1 ▸ h)), rfl⟩
theorem fr.bk {l : List Nat} {S : Mm} {c i p n : Nat} {f : Nat → Int32} (h : c ∈ l) : fr l S (blk S c i p n f) := ⟨fun a ha => blk_ne (fun z => ha (z ▸ h)), fun _ _ => rfl, rfl⟩
theorem blk_app (S : Mm) (c i p n m : Nat) (g : Nat → Int32) : blk (blk S c i p n g) c i (p + n) m (fun k => g (n + k)) = blk S c i p (n + m) g := by
  induction m with
  | zero => rw [blk_0, Nat.add_zero]
  | succ m ih =>
    rw [← blk_succ, ih, ← Nat.add_assoc n m 1, ← blk_succ, Nat.add_assoc]
theorem blk_congr {S : Mm} {c i p n : Nat} {f g : Nat → Int32} (h : ∀ k, k < n → f k = g k) : blk S c i p n f = blk S c i p n g := by
  refine Mm_ext (fun a b d => ?_) rfl
  show (if a = c ∧ b = i ∧ p ≤ d ∧ d < p + n then f (d - p) else _) = if a = c ∧ b = i ∧ p ≤ d ∧ d < p + n then g (d - p) else _
  by_cases hc : a = c ∧ b = i ∧ p ≤ d ∧ d < p + n
  · rw [if_pos hc, if_pos hc, h _ (by omega)]
  · rw [if_neg hc, if_neg hc]
theorem lnP_eq {β : Type} {b : Bool} {c i : Nat} {K : Int32 → Option β} (ho : okP b c i = true) : lnP b c i K = K (nI (kn c)) := if_pos ho
theorem fillC {c i a b : Nat} {S : Mm} {v : Int32} (ho : okW false c i = true) (hab : a ≤ b) (hb : b ≤ kn c) (hk : kn c < 50000) : F_J7_fill_fda19 c i (nI a) (nI b) v S = some ((), blk S c i a (b - a) (fun _ => v)) := by
  have ho' : okP false c i = true := by unfold okP; unfold okW at ho; rw [ho, Bool.or_true]
  unfold F_J7_fill_fda19
  rw [lnP_eq ho', F_J7_rangeCheck_23922, if_pos (nI_le hab (by omega)), if_pos (nI_pos' (by omega)), if_pos (nI_le hb (by omega)), cl_eq]
  have h := loopA (r := some ((), blk S c i a (b - a) (fun _ => v))) (L_J7_fill_fda19_10 c i (nI b) v) a b (fun j => blk S c i a (j - a) (fun _ => v)) hab (by omega) (fun m j h1 hj => ?_) (fun m => ?_)
  · rw [Nat.sub_self, blk_0] at h
    exact h
  · rw [L_J7_fill_fda19_10, if_neg (nI_ge hj (by omega)), stP_n ho (by omega) (by omega), nI_1, show j + 1 - a = (j - a) + 1 by omega, ← blk_succ, show a + (j - a) = j by omega]
  · rw [L_J7_fill_fda19_10, if_pos (nI_le (Nat.le_refl b) (by omega))]
def h0L : List Int32 := [1732584193, -271733879, -1732584194, 271733878, -1009589776]
def shaH (f : Nat → Int32) : Nat → Nat → Int32
  | 0 => fun j => h0L.getD j 0
  | k + 1 => shaC (shaH f k) (shaW (fun j => f (64 * k + j)))
def nbk (n : Nat) : Nat := (n + 8) / 64 + 1
/-- a text and what pads it -/
def padF (f : Nat → Int32) (n j : Nat) : Int32 := if j < n then f j else if j = n then 128 else if j < 64 * nbk n - 8 then 0 else btL (lN (8 * n)) (7 - (j - (64 * nbk n - 8)))
def dgst (f : Nat → Int32) (n j : Nat) : Int32 := bt (shaH (padF f n) (nbk n) (j / 4)) (3 - j % 4)
theorem shaC_congr {h h' w w' : Nat → Int32} (e1 : ∀ j, j < 5 → h j = h' j) (e2 : ∀ t, t < 80 → w t = w' t) : ∀ j, j < 5 → shaC h w j = shaC h' w' j := by
  intro j hj
  have e3 : t5 h = t5 h' := by unfold t5; rw [e1 0 (by omega), e1 1 (by omega), e1 2 (by omega), e1 3 (by omega), e1 4 (by omega)]
  have e4 : ∀ n, n ≤ 80 → shaT w (t5 h') n = shaT w' (t5 h') n := by
    intro n
    induction n with
    | zero => intro _; rfl
    | succ n ih => intro hn; show shaS _ _ _ = shaS _ _ _; rw [ih (by omega), e2 n (by omega)]
  unfold shaC
  rw [e1 j hj, e3, e4 80 (Nat.le_refl _)]
theorem shaH_congr {f g : Nat → Int32} {n : Nat} (h : ∀ j, j < 64 * n → f j = g j) : ∀ k, k ≤ n → ∀ j, j < 5 → shaH f k j = shaH g k j := by
  intro k
  induction k with
  | zero => intro _ j _; rfl
  | succ k ih =>
    intro hk j hj
    exact shaC_congr (ih (by omega)) (fun t _ => shaW_congr (fun i hi => h _ (by omega)) t) j hj
theorem dgst_congr {f g : Nat → Int32} {n : Nat} (h : ∀ j, j < n → f j = g j) (j : Nat) (hj : j < 20) : dgst f n j = dgst g n j := by
  unfold dgst
  rw [shaH_congr (f := padF f n) (g := padF g n) (n := nbk n) (fun i _ => ?_) (nbk n) (Nat.le_refl _) (j / 4) (by omega)]
  unfold padF
  by_cases hi : i < n
  · rw [if_pos hi, if_pos hi, h i hi]
  · rw [if_neg hi, if_neg hi]
theorem st5 {β : Type} {S : Mm} {c : Nat} (f : Nat → Int32) {K : Mm → Option β} {a0 a1 a2 a3 a4 : Int32} (e0 : a0 = f 0) (e1 : a1 = f 1) (e2 : a2 = f 2) (e3 : a3 = f 3) (e4 : a4 = f 4) : (stA S c 0 5 1 0 a0 fun S1 => stA S1 c 0 5 1 1 a1 fun S2 => stA S2 c 0 5 1 2 a2 fun S3 => stA S3 c 0 5 1 3 a3 fun S4 => stA S4 c 0 5 1 4 a4 fun S5 => K S5) = K (blk S c 0 0 5 f) := by
  subst e0; subst e1; subst e2; subst e3; subst e4
  have s : ∀ (T : Mm) (j : Nat) (hj : j < 5) (v : Int32) (J : Mm → Option β), stA T c 0 5 1 (nI j) v J = J (wrI T c 0 j v) := fun T j hj v J => stA_n (by decide) hj (by decide)
  show (stA S c 0 5 1 (nI 0) (f 0) fun S1 => stA S1 c 0 5 1 (nI 1) (f 1) fun S2 => stA S2 c 0 5 1 (nI 2) (f 2) fun S3 => stA S3 c 0 5 1 (nI 3) (f 3) fun S4 => stA S4 c 0 5 1 (nI 4) (f 4) fun S5 => K S5) = _
  rw [s _ 0 (by decide), s _ 1 (by decide), s _ 2 (by decide), s _ 3 (by decide), s _ 4 (by decide)]
  have e : ∀ n (f : Nat → Int32), blk S c 0 0 (n + 1) f = wrI (blk S c 0 0 n f) c 0 n (f n) := fun n f => by rw [← blk_succ, Nat.zero_add]
  rw [e 4, e 3, e 2, e 1, e 0, blk_0]
/-- the digest out of the five numbers -/
theorem digC {S : Mm} : L_X10_hashText_124 fu 0 S = some ((), blk S 46 0 0 20 (fun k => bt (S.1 51 0 (k / 4)) (3 - k % 4))) := by
  have h := loopA (r := some ((), blk S 46 0 0 20 (fun k => bt (S.1 51 0 (k / 4)) (3 - k % 4)))) L_X10_hashText_124 0 5 (fun j => blk S 46 0 0 (4 * j) (fun k => bt (S.1 51 0 (k / 4)) (3 - k % 4))) (by decide) (by decide) (fun m j _ hj => ?_) (fun m => ?_)
  · rw [Nat.mul_zero, blk_0] at h
    exact h
  · rw [L_X10_hashText_124, if_neg (show ¬ (5 : Int32) ≤ nI j from nI_ge (b := 5) hj (by decide)), ldA_n (by decide) hj (by decide), show (4 : Int32) * nI j = nI (4 * j) from pk_mul 4 j, whf4 (by decide) (show 4 * j + 4 ≤ kn 46 by show 4 * j + 4 ≤ 20; omega) (by decide), cl_eq, nI_1, blk_ne (by decide : ¬ 51 = 46)]
    congr 1
    rw [show 4 * (j + 1) = 4 * j + 4 by omega, ← blk_app, Nat.zero_add]
    refine blk_congr (fun k hk => ?_)
    rw [show (4 * j + k) / 4 = j by omega, show (4 * j + k) % 4 = k by omega]
  · rw [L_X10_hashText_124, if_pos (show (5 : Int32) ≤ nI 5 by decide)]
