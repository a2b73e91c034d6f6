/-! the reference finds the S-box: the same numbers as the class's table -/
def tN (x : Nat) : Nat := bif Nat.blt x 128 then 2 * x else Nat.xor (2 * x) 283
def prN (b : Nat) : Nat → Nat → Nat → Nat → Nat
  | 0, _, acc, _ => acc
  | k + 1, i, acc, x => prN b k (i + 1) (Nat.xor acc (b / 2 ^ i % 2 * x)) (tN x)
def ivN (a : Nat) : Nat → Nat → Nat → Nat
  | 0, _, v => v
  | k + 1, b, v => ivN a k (b + 1) (bif Nat.beq (prN b 8 0 0 a) 1 then b else v)
def tu (x k : Int32) : Int32 := ((x <<< (k &&& 31)) ||| (x >>> ((8 - k) &&& 31))) &&& 255
def bvN (v : Int32) : Int32 := ((((v ^^^ tu v 1) ^^^ tu v 2) ^^^ tu v 3) ^^^ tu v 4) ^^^ 99
set_option maxRecDepth 1000000 in
theorem box_0 : ((List.range 64).all fun a => bvN (nI (ivN a 255 1 0)) == sc 193 a) = true := by decide +kernel
set_option maxRecDepth 1000000 in
theorem box_1 : ((List.range 64).all fun a => bvN (nI (ivN (64 + a) 255 1 0)) == sc 193 (64 + a)) = true := by decide +kernel
set_option maxRecDepth 1000000 in
theorem box_2 : ((List.range 64).all fun a => bvN (nI (ivN (128 + a) 255 1 0)) == sc 193 (128 + a)) = true := by decide +kernel
set_option maxRecDepth 1000000 in
theorem box_3 : ((List.range 64).all fun a => bvN (nI (ivN (192 + a) 255 1 0)) == sc 193 (192 + a)) = true := by decide +kernel
theorem box_all (a : Nat) (h : a < 256) : bvN (nI (ivN a 255 1 0)) = sc 193 a := by
  have key : ∀ (o : Nat), ((List.range 64).all fun a => bvN (nI (ivN (o + a) 255 1 0)) == sc 193 (o + a)) = true → ∀ a, o ≤ a → a < o + 64 → bvN (nI (ivN a 255 1 0)) = sc 193 a := by
    intro o ho a h1 h2
    have h3 := List.all_eq_true.mp ho (a - o) (List.mem_range.mpr (by omega))
    rw [show o + (a - o) = a by omega] at h3
    exact eq_of_beq h3
  by_cases h1 : a < 64
  · exact eq_of_beq (List.all_eq_true.mp box_0 a (List.mem_range.mpr h1))
  · by_cases h2 : a < 128
    · exact key 64 box_1 a (by omega) (by omega)
    · by_cases h3 : a < 192
      · exact key 128 box_2 a (by omega) (by omega)
      · exact key 192 box_3 a (by omega) (by omega)
theorem tN_ok : ∀ x, x < 256 → tw (nI x) = nI (tN x) ∧ tN x < 256 := by decide +kernel
theorem bit_ok : ∀ i, i < 8 → ∀ b, b < 256 → (((nI b >>> (nI i &&& 31)) &&& 1) = 1 ∧ b / 2 ^ i % 2 = 1) ∨ (¬ ((nI b >>> (nI i &&& 31)) &&& 1) = 1 ∧ b / 2 ^ i % 2 = 0) := by decide +kernel
theorem xorB {a b : Nat} (ha : a < 256) (hb : b < 256) : nI a ^^^ nI b = nI (Nat.xor a b) ∧ Nat.xor a b < 256 := by
  have h2 : Nat.xor a b < 256 := Nat.xor_lt_two_pow (n := 8) ha hb
  refine ⟨?_, h2⟩
  apply Int32.toBitVec_inj.mp
  rw [Int32.toBitVec_xor]
  apply BitVec.eq_of_toNat_eq
  rw [BitVec.toNat_xor]
  show (BitVec.ofNat 32 a).toNat ^^^ (BitVec.ofNat 32 b).toNat = (BitVec.ofNat 32 (Nat.xor a b)).toNat
  rw [BitVec.toNat_ofNat, BitVec.toNat_ofNat, BitVec.toNat_ofNat, Nat.mod_eq_of_lt (by omega), Nat.mod_eq_of_lt (by omega), Nat.mod_eq_of_lt (by omega)]
  rfl
theorem prod_l {b : Nat} (hb : b < 256) (S : Mm) : ∀ (k i n acc x : Nat), i + k = 8 → acc < 256 → x < 256 → L_X12_product_7 (nI b) (n + k + 1) (nI acc) (nI x) (nI i) S = some (nI (prN b k i acc x), S) := by
  intro k
  induction k with
  | zero =>
    intro i n acc x hi ha hx
    have h8 : i = 8 := by omega
    subst h8
    rw [L_X12_product_7, if_pos (by decide)]
    rfl
  | succ k ih =>
    intro i n acc x hi ha hx
    have h8 : ¬ (8 : Int32) ≤ nI i := nI_ge (b := 8) (by omega) (by decide)
    obtain ⟨t1, t2⟩ := tN_ok x hx
    rw [L_X12_product_7, if_neg h8]
    rcases bit_ok i (by omega) b hb with ⟨c1, c2⟩ | ⟨c1, c2⟩
    · obtain ⟨x1, x2⟩ := xorB ha hx
      rw [if_pos c1]
      unfold L_X12_product_31
      rw [twM ⟨x, hx, rfl⟩, cl_eq, x1, t1, nI_1]
      have h := ih (i + 1) n (Nat.xor acc x) (tN x) (by omega) x2 t2
      show L_X12_product_7 (nI b) (n + (k + 1)) _ _ _ S = _
      rw [show n + (k + 1) = n + k + 1 by omega, h]
      have e1 : prN b (k + 1) i acc x = prN b k (i + 1) (Nat.xor acc (b / 2 ^ i % 2 * x)) (tN x) := rfl
      rw [e1, c2, Nat.one_mul]
    · rw [if_neg c1]
      unfold L_X12_product_31
      rw [twM ⟨x, hx, rfl⟩, cl_eq, t1, nI_1]
      have h := ih (i + 1) n acc (tN x) (by omega) ha t2
      show L_X12_product_7 (nI b) (n + (k + 1)) _ _ _ S = _
      rw [show n + (k + 1) = n + k + 1 by omega, h]
      have e1 : prN b (k + 1) i acc x = prN b k (i + 1) (Nat.xor acc (b / 2 ^ i % 2 * x)) (tN x) := rfl
      have e2 : Nat.xor acc 0 = acc := Nat.xor_zero acc
      rw [e1, c2, Nat.zero_mul, e2]
theorem prN_lt (b : Nat) : ∀ (k i acc x : Nat), acc < 256 → x < 256 → prN b k i acc x < 256 := by
  intro k
  induction k with
  | zero => intro i acc x ha hx; exact ha
  | succ k ih =>
    intro i acc x ha hx
    refine ih (i + 1) _ _ (Nat.xor_lt_two_pow (n := 8) ha ?_) (tN_ok x hx).2
    rcases Nat.mod_two_eq_zero_or_one (b / 2 ^ i) with h | h
    · rw [h, Nat.zero_mul]; decide
    · rw [h, Nat.one_mul]; exact hx
theorem prod_ok {a b : Nat} (ha : a < 256) (hb : b < 256) (S : Mm) : F_X12_product (nI a) (nI b) S = some (nI (prN b 8 0 0 a), S) := by
  have h := prod_l hb S 8 0 99991 0 a rfl (by decide) ha
  rw [nI_0] at h
  exact h
theorem turn_ok (x k : Int32) (S : Mm) : F_X12_turn x k S = some (tu x k, S) := rfl
theorem fb13 {a : Nat} (ha : a < 256) (k2 : Int32 → Mm → Option (Unit × Mm)) (S : Mm) : ∀ (k b n v : Nat), b + k = 256 → v < 256 → L_X12_findBoxes_13 k2 (nI a) (n + k + 1) (nI v) (nI b) S = k2 (nI (a + 1)) (wrI S 207 0 a (bvN (nI (ivN a k b v)))) := by
  intro k
  induction k with
  | zero =>
    intro b n v hi hv
    have h8 : b = 256 := by omega
    subst h8
    rw [L_X12_findBoxes_13, if_pos (by decide), turn_ok, cl_eq, turn_ok, cl_eq, turn_ok, cl_eq, turn_ok, cl_eq, stA_n (by decide) ha (by decide), nI_1]
    rfl
  | succ k ih =>
    intro b n v hi hv
    have h8 : ¬ (256 : Int32) ≤ nI b := nI_ge (b := 256) (by omega) (by decide)
    have e1 : ivN a (k + 1) b v = ivN a k (b + 1) (bif Nat.beq (prN b 8 0 0 a) 1 then b else v) := rfl
    have hp := prN_lt b 8 0 0 a (by decide) ha
    rw [L_X12_findBoxes_13, if_neg h8, prod_ok ha (by omega), cl_eq, e1]
    by_cases hc : prN b 8 0 0 a = 1
    · rw [if_pos (by rw [hc]; rfl), hc]
      unfold L_X12_findBoxes_34
      rw [nI_1]
      have h := ih (b + 1) n b (by omega) (by omega)
      show L_X12_findBoxes_13 k2 (nI a) (n + (k + 1)) _ _ S = _
      rw [show n + (k + 1) = n + k + 1 by omega, h]
      rfl
    · have hb : Nat.beq (prN b 8 0 0 a) 1 = false := by
        cases hq : Nat.beq (prN b 8 0 0 a) 1 with
        | false => rfl
        | true => exact absurd (Nat.eq_of_beq_eq_true hq) hc
      rw [if_neg (fun q => hc ((nI_eq (by omega) (by decide)).mp (q.trans (show (1 : Int32) = nI 1 from rfl)))), hb]
      unfold L_X12_findBoxes_34
      rw [nI_1]
      have h := ih (b + 1) n v (by omega) hv
      show L_X12_findBoxes_13 k2 (nI a) (n + (k + 1)) _ _ S = _
      rw [show n + (k + 1) = n + k + 1 by omega, h]
      rfl
theorem fb2 : ∀ (k a n : Nat) (S : Mm), a + k = 256 → ∃ S' : Mm, L_X12_findBoxes_2 (n + k + 1) (nI a) S = some ((), S') ∧ S'.2 = S.2 ∧ ∀ c i j, S'.1 c i j = if c = 207 ∧ i = 0 ∧ a ≤ j ∧ j < 256 then sc 193 j else S.1 c i j := by
  intro k
  induction k with
  | zero =>
    intro a n S hi
    have h8 : a = 256 := by omega
    subst h8
    refine ⟨S, by rw [L_X12_findBoxes_2, if_pos (by decide)], rfl, fun c i j => ?_⟩
    rw [if_neg (fun h => by omega)]
  | succ k ih =>
    intro a n S hi
    have h8 : ¬ (256 : Int32) ≤ nI a := nI_ge (b := 256) (by omega) (by decide)
    obtain ⟨S', h1, h2, h3⟩ := ih (a + 1) n (wrI S 207 0 a (bvN (nI (ivN a 255 1 0)))) (by omega)
    refine ⟨S', ?_, h2.trans rfl, fun c i j => ?_⟩
    · have h := fb13 (a := a) (by omega) (L_X12_findBoxes_2 (n + k + 1)) S 255 1 99744 0 rfl (by decide)
      rw [nI_0] at h
      rw [L_X12_findBoxes_2, if_neg h8]
      exact h.trans h1
    · rw [h3, box_all a (by omega)]
      show (if c = 207 ∧ i = 0 ∧ a + 1 ≤ j ∧ j < 256 then sc 193 j else if c = 207 ∧ i = 0 ∧ j = a then sc 193 a else S.1 c i j) = _
      by_cases q1 : c = 207 ∧ i = 0 ∧ a + 1 ≤ j ∧ j < 256
      · rw [if_pos q1, if_pos ⟨q1.1, q1.2.1, by omega, q1.2.2.2⟩]
      · rw [if_neg q1]
        by_cases q2 : c = 207 ∧ i = 0 ∧ j = a
        · rw [if_pos q2, if_pos ⟨q2.1, q2.2.1, by omega, by omega⟩, q2.2.2]
        · rw [if_neg q2, if_neg (fun q => by
            by_cases q3 : j = a
            · exact q2 ⟨q.1, q.2.1, q3⟩
            · exact q1 ⟨q.1, q.2.1, by omega, q.2.2.2⟩)]
theorem fboxes (S : Mm) : ∃ S' : Mm, F_X12_findBoxes S = some ((), S') ∧ S'.2 = S.2 ∧ ∀ c i j, S'.1 c i j = if c = 207 ∧ i = 0 ∧ j < 256 then sc 193 j else S.1 c i j := by
  obtain ⟨S', h1, h2, h3⟩ := fb2 256 0 99743 S rfl
  rw [nI_0] at h1
  refine ⟨S', h1, h2, fun c i j => ?_⟩
  rw [h3]
  by_cases q : c = 207 ∧ i = 0 ∧ j < 256
  · rw [if_pos q, if_pos ⟨q.1, q.2.1, Nat.zero_le _, q.2.2⟩]
  · rw [if_neg q, if_neg (fun z => q ⟨z.1, z.2.1, z.2.2.2⟩)]
