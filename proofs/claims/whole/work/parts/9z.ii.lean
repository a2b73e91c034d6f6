/-! THE INVARIANT AT THE START -/
theorem mI_1 (S : Mm) (n : Nat) : ∀ c i j, (mI S n).1 c i j = if (c = 218 ∨ c = 219) ∧ i = 0 ∧ j < n then 1 else if c = 249 ∧ i = 0 ∧ j < n then 7 else if c = 254 ∧ i = 0 ∧ j < n then -1 else S.1 c i j := by
  induction n with
  | zero =>
    intro c i j
    rw [if_neg (fun q => absurd q.2.2 (Nat.not_lt_zero _)), if_neg (fun q => absurd q.2.2 (Nat.not_lt_zero _)), if_neg (fun q => absurd q.2.2 (Nat.not_lt_zero _))]
    rfl
  | succ n ih =>
    intro c i j
    rw [mI_s]
    show (if c = 254 ∧ i = 0 ∧ j = n then (-1 : Int32) else if c = 249 ∧ i = 0 ∧ j = n then 7 else if c = 219 ∧ i = 0 ∧ j = n then 1 else if c = 218 ∧ i = 0 ∧ j = n then 1 else (mI S n).1 c i j) = _
    rw [ih]
    by_cases hi : i = 0
    · by_cases hj : j = n
      · by_cases h1 : c = 254
        · rw [if_pos ⟨h1, hi, hj⟩, if_neg (by omega), if_neg (by omega), if_pos ⟨h1, hi, by omega⟩]
        · rw [if_neg (fun q => h1 q.1)]
          by_cases h2 : c = 249
          · rw [if_pos ⟨h2, hi, hj⟩, if_neg (by omega), if_pos ⟨h2, hi, by omega⟩]
          · rw [if_neg (fun q => h2 q.1)]
            by_cases h3 : c = 219
            · rw [if_pos ⟨h3, hi, hj⟩, if_pos ⟨Or.inr h3, hi, by omega⟩]
            · rw [if_neg (fun q => h3 q.1)]
              by_cases h4 : c = 218
              · rw [if_pos ⟨h4, hi, hj⟩, if_pos ⟨Or.inl h4, hi, by omega⟩]
              · rw [if_neg (fun q => h4 q.1), if_neg (by omega), if_neg (by omega), if_neg (by omega), if_neg (by omega), if_neg (by omega), if_neg (by omega)]
      · rw [if_neg (fun q => hj q.2.2), if_neg (fun q => hj q.2.2), if_neg (fun q => hj q.2.2), if_neg (fun q => hj q.2.2)]
        have e : j < n + 1 ↔ j < n := by omega
        simp only [e]
    · rw [if_neg (fun q => hi q.2.1), if_neg (fun q => hi q.2.1), if_neg (fun q => hi q.2.1), if_neg (fun q => hi q.2.1), if_neg (fun q => hi q.2.1), if_neg (fun q => hi q.2.1), if_neg (fun q => hi q.2.1), if_neg (fun q => hi q.2.1), if_neg (fun q => hi q.2.1), if_neg (fun q => hi q.2.1)]
theorem mI_2 (S : Mm) (n : Nat) : (mI S n).2 = S.2 := by
  induction n with
  | zero => rfl
  | succ n ih => rw [mI_s]; exact ih
/-- the reference's memory when it is made -/
def mz : Nat → Nat → Nat → Int32 := fun c i j => if (c = 218 ∨ c = 219) ∧ i = 0 ∧ j < 9 then 1 else if c = 249 ∧ i = 0 ∧ j < 9 then 7 else if c = 254 ∧ i = 0 ∧ j < 9 then -1 else if c = 207 ∧ i = 0 ∧ j < 256 then sc 193 j else if c = 292 then 255 else if c = 293 then 4 else if c = 299 then 3 else 0
theorem m_mem {S1 : Mm} (h2 : S1.2 = S0m.2) (h1 : ∀ c i j, S1.1 c i j = if c = 207 ∧ i = 0 ∧ j < 256 then sc 193 j else S0m.1 c i j) : mI S1 9 = (mz, S0m.2) := by
  have e1 : (mI S1 9).1 = mz := by
    funext c i j
    rw [mI_1, h1]
    rfl
  have e2 : (mI S1 9).2 = S0m.2 := (mI_2 S1 9).trans h2
  rw [← e1, ← e2]
theorem mz_218 {k : Nat} (h : k < 9) : mz 218 0 k = 1 := if_pos ⟨Or.inl rfl, rfl, h⟩
theorem mz_219 {k : Nat} (h : k < 9) : mz 219 0 k = 1 := if_pos ⟨Or.inr rfl, rfl, h⟩
theorem mz_249 {k : Nat} (h : k < 9) : mz 249 0 k = 7 := (if_neg (by omega)).trans (if_pos ⟨rfl, rfl, h⟩)
theorem mz_254 {k : Nat} (h : k < 9) : mz 254 0 k = -1 := (if_neg (by omega)).trans ((if_neg (by omega)).trans (if_pos ⟨rfl, rfl, h⟩))
theorem mz_207 {k : Nat} (h : k < 256) : mz 207 0 k = sc 193 k := (if_neg (by omega)).trans ((if_neg (by omega)).trans ((if_neg (by omega)).trans (if_pos ⟨rfl, rfl, h⟩)))
theorem mz_0 {c i j : Nat} (h : (c != 218 && c != 219 && c != 249 && c != 254 && c != 207 && c != 292 && c != 293 && c != 299) = true) : mz c i j = 0 := by
  simp only [Bool.and_eq_true, bne_iff_ne, ne_eq] at h
  obtain ⟨⟨⟨⟨⟨⟨⟨a1, a2⟩, a3⟩, a4⟩, a5⟩, a6⟩, a7⟩, a8⟩ := h
  unfold mz
  rw [if_neg (by omega), if_neg (by omega), if_neg (by omega), if_neg (by omega), if_neg a6, if_neg a7, if_neg a8]
theorem isB_00 : isB 0 := ⟨0, by decide, by decide⟩
theorem isB_z {c i j : Nat} (h : (c != 218 && c != 219 && c != 249 && c != 254 && c != 207 && c != 292 && c != 293 && c != 299) = true) : isB (mz c i j) := by rw [mz_0 h]; exact isB_00
theorem S0_38 {r f : Nat} (h : f < 9) : S0c.1 38 r f = -nI 1 := by
  show (if f < 9 then (-1 : Int32) else 0) = -nI 1
  rw [if_pos h]
  decide
theorem ii_0 : II 0 0 0 0 S0c (mz, S0m.2) := by
  refine ⟨by omega, by omega, by omega, ?_, ?_, ?_, ?_, ?_, ?_, ?_, ?_, ?_, ?_, ?_, ?_, ?_, ?_, ?_, ?_, ?_, ?_, ?_, ?_, ?_, ?_, ?_, ?_, ?_, ?_, ?_, ?_⟩
  · exact ⟨0, by omega, by first | rfl | decide, by first | rfl | decide, fun j hj => absurd hj (Nat.not_lt_zero _)⟩
  · exact ⟨0, 0, 0, by omega, by omega, by first | rfl | decide, by first | rfl | decide, by first | rfl | decide, by first | rfl | decide, fun j hj => absurd hj (Nat.not_lt_zero _)⟩
  · exact ⟨0, by omega, by first | rfl | decide, by first | rfl | decide, fun j hj => absurd hj (Nat.not_lt_zero _)⟩
  · exact ⟨255, 4, by omega, by omega, by omega, by omega, by first | rfl | decide, by first | rfl | decide, by first | rfl | decide, by first | rfl | decide, by first | rfl | decide⟩
  · exact ⟨0, by omega, by first | rfl | decide, by first | rfl | decide, fun j hj => absurd hj (Nat.not_lt_zero _)⟩
  · exact ⟨fun i k _ _ => ⟨isB_00, rfl⟩, fun i k _ _ => ⟨isB_00, rfl⟩⟩
  · exact ⟨fun k _ => ⟨rfl, rfl, rfl, rfl, fun r _ => ⟨rfl, rfl⟩⟩, fun r _ => rfl, fun k hk => mz_207 hk⟩
  · intro k hk
    exact ⟨(mz_218 hk).symm, (mz_219 hk).symm, rfl, Or.inl rfl⟩
  · intro i hi
    exact ⟨⟨1, by omega, by omega, by first | rfl | decide, rfl, fun h => absurd h (by omega)⟩, ⟨0, by omega, by first | rfl | decide, rfl⟩, fun j _ => ⟨isB_00, rfl⟩, fun j _ => ⟨isB_00, rfl⟩, fun _ j _ => ⟨isB_00, rfl⟩⟩
  · intro i hi
    exact ⟨0, 0, by omega, by omega, by first | rfl | decide, rfl, rfl, rfl, by first | rfl | decide, rfl, fun j hj => absurd hj (Nat.not_lt_zero _)⟩
  · intro k hk
    exact ⟨0, 0, 0, by omega, by omega, by omega, by first | rfl | decide, by first | rfl | decide, rfl, by first | rfl | decide, rfl, fun j hj => absurd hj (Nat.not_lt_zero _)⟩
  · intro k hk
    exact ⟨0, 0, 0, 0, by omega, by omega, by first | rfl | decide, by first | rfl | decide, by first | rfl | decide, by first | rfl | decide, fun _ => ⟨rfl, rfl⟩, fun h => absurd h (Nat.lt_irrefl _)⟩
  · intro k hk
    exact ⟨rfl, rfl, 7, Or.inl rfl, by first | rfl | decide, mz_249 hk⟩
  · intro k hk
    refine ⟨fun j hj => ?_, Or.inl ⟨by first | rfl | decide, rfl⟩⟩
    have h : ∀ j, j < 6 → (0 : Int32) = btL 0 (5 - j) := by decide +kernel
    exact h j hj
  · intro k hk
    exact Or.inl ⟨by first | rfl | decide, rfl⟩
  · exact ⟨fun k hk => Or.inl ⟨(mz_254 hk).trans (by first | rfl | decide), Or.inl (by first | rfl | decide)⟩, fun v k hv => absurd hv (Nat.not_lt_zero _)⟩
  · exact ⟨by first | rfl | decide, by first | rfl | decide, by first | rfl | decide, by first | rfl | decide, by first | rfl | decide, by first | rfl | decide, by first | rfl | decide, by first | rfl | decide⟩
  · exact ⟨by first | rfl | decide, by first | rfl | decide⟩
  · exact ⟨3, by omega, by first | rfl | decide, Or.inr ⟨rfl, Or.inl (by first | rfl | decide)⟩⟩
  · intro r _ hr
    exact absurd hr (Nat.not_lt_zero _)
  · exact ⟨fun v hv => absurd hv (Nat.not_lt_zero _), fun v w hv => absurd hv (Nat.not_lt_zero _)⟩
  · intro t ht
    show (0 : Int32) = nI 0
    decide
  · intro v hv
    exact absurd hv (Nat.not_lt_zero _)
  · exact ⟨0, by omega, by first | rfl | decide, by first | rfl | decide, fun i hi => absurd hi (Nat.not_lt_zero _), fun i hi => hi, fun i j _ _ e => e⟩
  · exact ⟨fun r f _ hf => Or.inl ⟨S0_38 hf, rfl⟩, fun r _ => ⟨rfl, rfl⟩⟩
  · intro k hk
    exact ⟨0, by omega, by first | rfl | decide, rfl, fun i _ hi => absurd hi (Nat.not_lt_zero _)⟩
  · exact ⟨0, 0, 0, by omega, by omega, by first | rfl | decide, by first | rfl | decide, Nat.le_refl _, Nat.le_refl _⟩
  · intro v hv
    exact absurd hv (Nat.not_lt_zero _)
