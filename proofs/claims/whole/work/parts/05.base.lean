/-! the worlds of the class (side false) and of the reference (side true): a memory of numbers by kind of cell, number of the cell, place -/
abbrev Mm : Type := (Nat → Nat → Nat → Int32) × (Nat → Nat → Nat → Int64) × (Nat → Nat → Nat → Nat)
abbrev xG : Type := va_G × (Nat → ClassId) × (Nat → Nat → Nat)
def kK (b : Bool) : List (Nat × Nat) := (List.range nk).flatMap fun c => if sd c = b ∧ kt c < 5 then (List.range (kc c)).map fun i => (c, i) else []
theorem kK_mem {b : Bool} {c i : Nat} (h1 : c < nk) (h2 : sd c = b) (h3 : kt c < 5) (h4 : i < kc c) : (c, i) ∈ kK b := by
  unfold kK
  rw [List.mem_flatMap]
  exact ⟨c, List.mem_range.mpr h1, by rw [if_pos ⟨h2, h3⟩]; exact List.mem_map.mpr ⟨i, List.mem_range.mpr h4, rfl⟩⟩
theorem kK_of {b : Bool} {c i : Nat} (h : (c, i) ∈ kK b) : c < nk ∧ sd c = b ∧ kt c < 5 ∧ i < kc c := by
  unfold kK at h
  rw [List.mem_flatMap] at h
  obtain ⟨d, h1, h2⟩ := h
  by_cases hd : sd d = b ∧ kt d < 5
  · rw [if_pos hd] at h2
    obtain ⟨j, h3, h4⟩ := List.mem_map.mp h2
    cases h4
    exact ⟨List.mem_range.mp h1, hd.1, hd.2, List.mem_range.mp h3⟩
  · rw [if_neg hd] at h2
    cases h2
def wrI (S : Mm) (c i j : Nat) (v : Int32) : Mm := (fun a b d => if a = c ∧ b = i ∧ d = j then v else S.1 a b d, S.2)
def wrL (S : Mm) (c i j : Nat) (v : Int64) : Mm := (S.1, fun a b d => if a = c ∧ b = i ∧ d = j then v else S.2.1 a b d, S.2.2)
def wrR (S : Mm) (c i j : Nat) (v : Nat) : Mm := (S.1, S.2.1, fun a b d => if a = c ∧ b = i ∧ d = j then v else S.2.2 a b d)
def sc (c j : Nat) : Int32 := (scL c).getD j 0
def rdI (S : Mm) (c i j : Nat) : Int32 := if kt c = 6 then sc c j else S.1 c i j
def cpI (S : Mm) (c0 i0 sp c1 i1 dp n : Nat) : Mm := (fun a b d => if a = c1 ∧ b = i1 ∧ dp ≤ d ∧ d < dp + n then rdI S c0 i0 (sp + (d - dp)) else S.1 a b d, S.2)
def fv (G : xG) (S : Mm) (i : Nat) (q : Nat × Nat) : Value := if q.1 = 0 then .int (S.1 q.2 i 0) else if q.1 = 1 then .long (S.2.1 q.2 i 0) else .ref (G.2.2 q.2 i)
def en (G : xG) (S : Mm) (c i : Nat) : va_E :=
  if kt c = 0 then .inr (kn c, (kf c).map (fv G S i))
  else if kt c = 3 then .inl (G.2.1 (ka c), kn c, .inr (.inl (S.2.1 c i)))
  else if kt c = 4 then .inl (G.2.1 (ka c), kn c, .inr (.inr (.inr (.inr fun j => some (G.2.2 (kx c) (S.2.2 c i j))))))
  else .inl (G.2.1 (ka c), kn c, .inl (S.1 c i))
def wl (G : xG) (S : Mm) (b : Bool) : va_W := (kK b).map fun q => (G.2.2 q.1 q.2, en G S q.1 q.2)
def tyL (G : xG) : List (ClassId × FieldType) := [(G.2.1 0, .byte), (G.2.1 1, .int), (G.2.1 2, .boolean), (G.2.1 3, .long), (G.2.1 4, .object "WirelessCell$Node"), (G.2.1 5, .object "WirelessCell$Link"), (G.2.1 6, .object "WirelessCell$Message"), (G.2.1 7, .array .int)]
abbrev xK (G : xG) (U : State) : Prop := va_K G.1 vwCl (tyL G) U
def xD (G : xG) (b : Bool) : Prop := ∀ (i j : Nat) (q q' : Nat × Nat), (kK b)[i]? = some q → (kK b)[j]? = some q' → G.2.2 q.1 q.2 = G.2.2 q'.1 q'.2 → i = j
def XA (G : xG) (b : Bool) (sz : Nat) : Nat → Prop := fun a => (∃ q ∈ kK b, G.2.2 q.1 q.2 = a) ∨ sz ≤ a
def xP (G : xG) (b : Bool) (S : Mm) (H : Heap) : Prop := va_P G.1 vwCl (wl G S b) H
theorem wl_at {G : xG} {S : Mm} {b : Bool} {p : Nat} {q : Nat × Nat} (h : (kK b)[p]? = some q) : (wl G S b)[p]? = some (G.2.2 q.1 q.2, en G S q.1 q.2) := by
  unfold wl
  rw [List.getElem?_map, h]
  rfl
theorem xP.ix {G : xG} {S : Mm} {b : Bool} {c i : Nat} (hm : (c, i) ∈ kK b) : ∃ p : Nat, (kK b)[p]? = some (c, i) ∧ (wl G S b)[p]? = some (G.2.2 c i, en G S c i) := by
  obtain ⟨p, hp⟩ := List.getElem?_of_mem hm
  exact ⟨p, hp, wl_at hp⟩
theorem xP.set {G : xG} {S S' : Mm} {b : Bool} {c i p : Nat} {H1 : Heap} (hp : (kK b)[p]? = some (c, i)) (h : va_P G.1 vwCl ((wl G S b).set p (G.2.2 c i, en G S' c i)) H1) (he : ∀ c' i', (c', i') ∈ kK b → ¬ (c' = c ∧ i' = i) → en G S' c' i' = en G S c' i') : xP G b S' H1 := by
  intro k q hq
  have hk : (kK b)[k]? = some ((kK b)[k]?.getD (0, 0)) := by
    cases hz : (kK b)[k]? with
    | none => unfold wl at hq; rw [List.getElem?_map, hz] at hq; cases hq
    | some z => rfl
  generalize (kK b)[k]?.getD (0, 0) = r at hk
  obtain ⟨c', i'⟩ := r
  rw [wl_at hk] at hq
  cases hq
  have hl : p < (wl G S b).length := (List.getElem?_eq_some_iff.mp (wl_at (G := G) (S := S) hp)).1
  by_cases hkp : k = p
  · subst hkp
    rw [hp] at hk
    cases hk
    exact h k _ (List.getElem?_set_self hl)
  · by_cases hc : c' = c ∧ i' = i
    · obtain ⟨rfl, rfl⟩ := hc
      exact h p _ (List.getElem?_set_self hl)
    · show va_at G.1 vwCl (G.2.2 c' i', en G S' c' i') H1
      rw [he c' i' (List.mem_of_getElem? hk) hc]
      refine h k _ ?_
      rw [List.getElem?_set_ne (Ne.symm hkp)]
      exact wl_at hk
theorem xD.va {G : xG} {b : Bool} {S : Mm} {sz : Nat} (h : xD G b) : va_D (XA G b sz) (wl G S b) := by
  have key : ∀ (k : Nat) (q : Nat × va_E), (wl G S b)[k]? = some q → ∃ z, (kK b)[k]? = some z ∧ q = (G.2.2 z.1 z.2, en G S z.1 z.2) := by
    intro k q hq
    cases hz : (kK b)[k]? with
    | none => unfold wl at hq; rw [List.getElem?_map, hz] at hq; cases hq
    | some z => rw [wl_at hz] at hq; cases hq; exact ⟨z, rfl, rfl⟩
  refine ⟨fun i j x y hi hj hxy => ?_, fun k q hk => ?_⟩
  · obtain ⟨z, h1, rfl⟩ := key i x hi
    obtain ⟨z', h2, rfl⟩ := key j y hj
    exact h i j z z' h1 h2 hxy
  · obtain ⟨z, h1, rfl⟩ := key k q hk
    exact Or.inl ⟨z, List.mem_of_getElem? h1, rfl⟩
/-! what a write changes of the picture -/
def owOk : Bool := (List.range nk).all fun c => (kf c).all fun e => (e.1 = 0 || e.1 = 1 || e.1 = 2) && (e.1 = 2 || (ow e.2 = c && kt e.2 = 9))
theorem owOk_t : owOk = true := by decide +kernel
theorem ow_of {c : Nat} {e : Nat × Nat} (hc : c < nk) (he : e ∈ kf c) (h2 : ¬ e.1 = 2) : ow e.2 = c ∧ kt e.2 = 9 := by
  have h := List.all_eq_true.mp (List.all_eq_true.mp owOk_t c (List.mem_range.mpr hc)) e he
  simp only [Bool.and_eq_true, Bool.or_eq_true, decide_eq_true_eq] at h
  rcases h.2 with h | h
  · exact absurd h h2
  · exact h
theorem en_wrF {G : xG} {S : Mm} {b : Bool} {f i0 c i : Nat} {v : Int32} (hf : kt f = 9) (hm : (c, i) ∈ kK b) (hn : ¬ (c = ow f ∧ i = i0)) : en G (wrI S f i0 0 v) c i = en G S c i := by
  have hk := kK_of hm
  have hcf : ¬ c = f := fun e => by rw [e, hf] at hk; omega
  unfold en
  by_cases h0 : kt c = 0
  · rw [if_pos h0, if_pos h0]
    congr 2
    apply List.map_congr_left
    intro e he
    unfold fv
    by_cases h1 : e.1 = 0
    · rw [if_pos h1, if_pos h1]
      have ho := ow_of hk.1 he (by omega)
      show Value.int (if e.2 = f ∧ i = i0 ∧ 0 = 0 then v else S.1 e.2 i 0) = _
      rw [if_neg]
      rintro ⟨ef, ei, -⟩
      exact hn ⟨by rw [← ho.1, ef], ei⟩
    · rw [if_neg h1, if_neg h1]
      rfl
  · rw [if_neg h0, if_neg h0]
    by_cases h3 : kt c = 3
    · rw [if_pos h3, if_pos h3]; rfl
    · rw [if_neg h3, if_neg h3]
      by_cases h4 : kt c = 4
      · rw [if_pos h4, if_pos h4]; rfl
      · rw [if_neg h4, if_neg h4]
        congr 4
        funext d
        show (if c = f ∧ i = i0 ∧ d = 0 then v else S.1 c i d) = _
        rw [if_neg (fun h => hcf h.1)]
theorem en_wrFL {G : xG} {S : Mm} {b : Bool} {f i0 c i : Nat} {v : Int64} (hf : kt f = 9) (hm : (c, i) ∈ kK b) (hn : ¬ (c = ow f ∧ i = i0)) : en G (wrL S f i0 0 v) c i = en G S c i := by
  have hk := kK_of hm
  have hcf : ¬ c = f := fun e => by rw [e, hf] at hk; omega
  unfold en
  by_cases h0 : kt c = 0
  · rw [if_pos h0, if_pos h0]
    congr 2
    apply List.map_congr_left
    intro e he
    unfold fv
    by_cases h1 : e.1 = 0
    · rw [if_pos h1, if_pos h1]
      rfl
    · rw [if_neg h1, if_neg h1]
      by_cases h2 : e.1 = 1
      · rw [if_pos h2, if_pos h2]
        have ho := ow_of hk.1 he (by omega)
        show Value.long (if e.2 = f ∧ i = i0 ∧ 0 = 0 then v else S.2.1 e.2 i 0) = _
        rw [if_neg]
        rintro ⟨ef, ei, -⟩
        exact hn ⟨by rw [← ho.1, ef], ei⟩
      · rw [if_neg h2, if_neg h2]
  · rw [if_neg h0, if_neg h0]
    by_cases h3 : kt c = 3
    · rw [if_pos h3, if_pos h3]
      congr 5
      funext d
      show (if c = f ∧ i = i0 ∧ d = 0 then v else S.2.1 c i d) = _
      rw [if_neg (fun h => hcf h.1)]
    · rw [if_neg h3, if_neg h3]
      by_cases h4 : kt c = 4
      · rw [if_pos h4, if_pos h4]; rfl
      · rw [if_neg h4, if_neg h4]; rfl
/-- a change of an int or boolean array alone -/
theorem en_chA {G : xG} {S S' : Mm} {b : Bool} {c0 i0 c i : Nat} (h2 : S'.2 = S.2) (h1 : ∀ a x d, ¬ (a = c0 ∧ x = i0) → S'.1 a x d = S.1 a x d) (hk0 : kt c0 < 5) (hm : (c, i) ∈ kK b) (hn : ¬ (c = c0 ∧ i = i0)) : en G S' c i = en G S c i := by
  have hk := kK_of hm
  unfold en
  rw [h2]
  by_cases h0 : kt c = 0
  · rw [if_pos h0, if_pos h0]
    congr 2
    apply List.map_congr_left
    intro e he
    unfold fv
    rw [h2]
    by_cases h1' : e.1 = 0
    · rw [if_pos h1', if_pos h1']
      have ho := ow_of hk.1 he (by omega)
      rw [h1 e.2 i 0 (fun h => by have := ho.2; rw [h.1] at this; omega)]
    · rw [if_neg h1', if_neg h1']
  · rw [if_neg h0, if_neg h0]
    by_cases h3 : kt c = 3
    · rw [if_pos h3, if_pos h3]
    · rw [if_neg h3, if_neg h3]
      by_cases h4 : kt c = 4
      · rw [if_pos h4, if_pos h4]
      · rw [if_neg h4, if_neg h4]
        congr 4
        funext d
        exact h1 c i d hn
theorem en_wrA {G : xG} {S : Mm} {b : Bool} {c0 i0 j0 c i : Nat} {v : Int32} (hk0 : kt c0 < 5) (hm : (c, i) ∈ kK b) (hn : ¬ (c = c0 ∧ i = i0)) : en G (wrI S c0 i0 j0 v) c i = en G S c i :=
  en_chA (S := S) (S' := wrI S c0 i0 j0 v) rfl (fun a x d h => if_neg (fun q => h ⟨q.1, q.2.1⟩)) hk0 hm hn
theorem en_wrAL {G : xG} {S : Mm} {b : Bool} {c0 i0 j0 c i : Nat} {v : Int64} (hk0 : kt c0 < 5) (hm : (c, i) ∈ kK b) (hn : ¬ (c = c0 ∧ i = i0)) : en G (wrL S c0 i0 j0 v) c i = en G S c i := by
  have hk := kK_of hm
  unfold en
  by_cases h0 : kt c = 0
  · rw [if_pos h0, if_pos h0]
    congr 2
    apply List.map_congr_left
    intro e he
    unfold fv
    by_cases h1 : e.1 = 0
    · rw [if_pos h1, if_pos h1]; rfl
    · rw [if_neg h1, if_neg h1]
      by_cases h2 : e.1 = 1
      · rw [if_pos h2, if_pos h2]
        have ho := ow_of hk.1 he (by omega)
        show Value.long (if e.2 = c0 ∧ i = i0 ∧ 0 = j0 then v else S.2.1 e.2 i 0) = _
        rw [if_neg (fun h => by have := ho.2; rw [h.1] at this; omega)]
      · rw [if_neg h2, if_neg h2]
  · rw [if_neg h0, if_neg h0]
    by_cases h3 : kt c = 3
    · rw [if_pos h3, if_pos h3]
      congr 5
      funext d
      show (if c = c0 ∧ i = i0 ∧ d = j0 then v else S.2.1 c i d) = _
      rw [if_neg (fun h => hn ⟨h.1, h.2.1⟩)]
    · rw [if_neg h3, if_neg h3]
      by_cases h4 : kt c = 4
      · rw [if_pos h4, if_pos h4]; rfl
      · rw [if_neg h4, if_neg h4]; rfl
theorem en_wrAR {G : xG} {S : Mm} {b : Bool} {c0 i0 j0 c i v : Nat} (hm : (c, i) ∈ kK b) (hn : ¬ (c = c0 ∧ i = i0)) : en G (wrR S c0 i0 j0 v) c i = en G S c i := by
  have hk := kK_of hm
  unfold en
  by_cases h0 : kt c = 0
  · rw [if_pos h0, if_pos h0]
    rfl
  · rw [if_neg h0, if_neg h0]
    by_cases h3 : kt c = 3
    · rw [if_pos h3, if_pos h3]; rfl
    · rw [if_neg h3, if_neg h3]
      by_cases h4 : kt c = 4
      · rw [if_pos h4, if_pos h4]
        congr 7
        funext d
        show some (G.2.2 (kx c) (if c = c0 ∧ i = i0 ∧ d = j0 then v else S.2.2 c i d)) = _
        rw [if_neg (fun h => hn ⟨h.1, h.2.1⟩)]
      · rw [if_neg h4, if_neg h4]; rfl
