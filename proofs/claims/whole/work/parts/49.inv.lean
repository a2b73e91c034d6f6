/-! THE INVARIANT between the class's memory C and the reference's memory M, by components -/
def fq (l : List Nat) (S S' : Mm) : Prop := (∀ a, a ∉ l → S'.1 a = S.1 a) ∧ (∀ a, a ∉ l → S'.2.1 a = S.2.1 a) ∧ (∀ a, a ∉ l → S'.2.2 a = S.2.2 a)
theorem fr.q {l : List Nat} {S S' : Mm} (h : fr l S S') : fq l S S' := ⟨h.1, h.2.1, fun a _ => by rw [h.2.2]⟩
theorem fq.rf {l : List Nat} {S : Mm} : fq l S S := ⟨fun _ _ => rfl, fun _ _ => rfl, fun _ _ => rfl⟩
theorem fq.tr {l : List Nat} {S T U : Mm} (h1 : fq l S T) (h2 : fq l T U) : fq l S U := ⟨fun a h => (h2.1 a h).trans (h1.1 a h), fun a h => (h2.2.1 a h).trans (h1.2.1 a h), fun a h => (h2.2.2 a h).trans (h1.2.2 a h)⟩
theorem fq.up {l l' : List Nat} {S T : Mm} (h : fq l S T) (hl : (l.all fun a => l'.contains a) = true) : fq l' S T := by
  have hh : ∀ a, a ∉ l' → a ∉ l := fun a ha z => ha (List.contains_iff_mem.mp (List.all_eq_true.mp hl a z))
  exact ⟨fun a ha => h.1 a (hh a ha), fun a ha => h.2.1 a (hh a ha), fun a ha => h.2.2 a (hh a ha)⟩
theorem fq.wr {l : List Nat} {S : Mm} {c i j : Nat} {v : Int32} (h : l.contains c = true) : fq l S (wrI S c i j v) := (fr.wr (List.contains_iff_mem.mp h)).q
theorem fq.wl {l : List Nat} {S : Mm} {c i j : Nat} {v : Int64} (h : l.contains c = true) : fq l S (wrL S c i j v) := (fr.wl (List.contains_iff_mem.mp h)).q
theorem fq.bk {l : List Nat} {S : Mm} {c i p n : Nat} {f : Nat → Int32} (h : l.contains c = true) : fq l S (blk S c i p n f) := (fr.bk (List.contains_iff_mem.mp h)).q
theorem fq.wR {l : List Nat} {S : Mm} {c i j v : Nat} (h : l.contains c = true) : fq l S (wrR S c i j v) := by
  refine ⟨fun _ _ => rfl, fun _ _ => rfl, fun a ha => ?_⟩
  funext b d
  exact if_neg (fun z : a = c ∧ b = i ∧ d = j => ha (z.1 ▸ List.contains_iff_mem.mp h))
theorem nc {l : List Nat} {a : Nat} (h : (!l.contains a) = true) : a ∉ l := fun z => by
  rw [List.contains_iff_mem.mpr z] at h
  cases h
def dj (l s : List Nat) : Bool := s.all fun a => !l.contains a
theorem dj_of {l s : List Nat} (h : dj l s = true) : ∀ a, s.contains a = true → a ∉ l := fun a ha => nc (List.all_eq_true.mp h a (List.contains_iff_mem.mp ha))
def cnt (p : Nat → Bool) : Nat → Nat
  | 0 => 0
  | n + 1 => cnt p n + (if p n = true then 1 else 0)
/-- the latest number below g whose place in the ring of 40 is r -/
def nr (g r : Nat) : Nat := r + 40 * ((g - 1 - r) / 40)
def ITape (C M : Mm) : Prop := ∃ n, n ≤ 300 ∧ C.1 105 0 0 = nI n ∧ M.1 291 0 0 = nI n ∧ ∀ j, j < n → isB (M.1 215 0 j) ∧ C.1 55 0 j = M.1 215 0 j
def IDraw (C M : Mm) : Prop := ∃ f l a, f < 200 ∧ a + l ≤ 200 ∧ C.1 59 0 0 = nI f ∧ C.1 60 0 0 = nI l ∧ M.1 294 0 0 = nI a ∧ M.1 295 0 0 = nI (a + l) ∧ ∀ j, j < l → C.1 16 0 ((f + j) % 200) = M.1 251 0 (a + j)
def INois (C M : Mm) : Prop := ∃ n, n ≤ 30 ∧ C.1 79 0 0 = nI n ∧ M.1 305 0 0 = nI n ∧ ∀ j, j < n → C.1 34 0 j = M.1 272 0 j ∧ C.1 35 0 j = M.1 273 0 j
def IPar (C M : Mm) : Prop := ∃ z t, 16 ≤ z ∧ z ≤ 255 ∧ 1 ≤ t ∧ t ≤ 15 ∧ C.1 107 0 0 = nI z ∧ M.1 292 0 0 = nI z ∧ C.1 108 0 0 = nI t ∧ M.1 293 0 0 = nI t ∧ C.1 109 0 0 = M.1 303 0 0
def ISub (C M : Mm) : Prop := ∃ n, n ≤ 200 ∧ C.1 106 0 0 = nI n ∧ M.1 296 0 0 = nI n ∧ ∀ j, j < n → C.1 56 0 j = M.1 252 0 j
def IKey (C M : Mm) : Prop := (∀ i k, i < 18 → k < 32 → isB (M.1 216 0 (32 * i + k)) ∧ C.1 21 i k = M.1 216 0 (32 * i + k)) ∧ (∀ i k, i < 9 → k < 32 → isB (M.1 217 0 (32 * i + k)) ∧ C.1 37 i k = M.1 217 0 (32 * i + k))
def IRef (C M : Mm) : Prop := (∀ k, k < 9 → C.2.2 52 0 k = k ∧ C.2.2 53 0 k = k ∧ C.2.2 54 0 k = 9 + k ∧ C.1 88 k 0 = nI k ∧ ∀ r, r < 12 → C.2.2 45 k r = 12 * k + r ∧ C.2.2 17 k r = 12 * k + r) ∧ (∀ r, r < 40 → C.2.2 26 0 r = r) ∧ (∀ k, k < 256 → M.1 207 0 k = sc 193 k)
def ISta (C M : Mm) : Prop := ∀ k, k < 9 → C.1 62 k 0 = M.1 218 0 k ∧ C.1 62 (9 + k) 0 = M.1 219 0 k ∧ C.1 63 k 0 = M.1 220 0 k ∧ (M.1 220 0 k = nI 0 ∨ M.1 220 0 k = nI 1)
def ILnk (C M : Mm) : Prop := ∀ i, i < 18 → (∃ s, 1 ≤ s ∧ s ≤ 4 ∧ C.1 62 i 0 = nI s ∧ M.1 222 0 i = nI (if s = 4 then 1 else 0) ∧ (s = 4 → C.2.1 65 i 0 = M.2.1 226 0 i ∧ C.2.1 66 i 0 = M.2.1 227 0 i)) ∧ (∃ s, s ≤ 1 ∧ C.1 64 i 0 = nI s ∧ M.1 224 0 i = nI s) ∧ (∀ j, j < 48 → isB (M.1 223 0 (48 * i + j)) ∧ C.1 22 i j = M.1 223 0 (48 * i + j)) ∧ (∀ j, j < 16 → isB (M.1 221 0 (16 * i + j)) ∧ C.1 24 i j = M.1 221 0 (16 * i + j)) ∧ (i < 9 → ∀ j, j < 32 → isB (M.1 225 0 (32 * i + j)) ∧ C.1 23 i j = M.1 225 0 (32 * i + j))
def IBeg (C M : Mm) : Prop := ∀ i, i < 18 → ∃ b n, b ≤ 1 ∧ n ≤ 208 ∧ C.1 67 i 0 = nI b ∧ M.1 228 0 i = nI b ∧ C.1 68 i 0 = M.1 229 0 i ∧ C.1 69 i 0 = M.1 230 0 i ∧ C.1 70 i 0 = nI n ∧ M.1 231 0 i = nI n ∧ ∀ j, j < n → isB (M.1 232 0 (208 * i + j)) ∧ C.1 25 i j = M.1 232 0 (208 * i + j)
def QR (C M : Mm) (a b : Nat) : Prop := ∃ to th sq len z kd : Nat, to < 9 ∧ th < 9 ∧ sq < 4096 ∧ len ≤ 208 ∧ 16 ≤ z ∧ z ≤ 255 ∧ C.1 81 a 0 = nI kd ∧ M.1 235 0 b = nI kd ∧ C.1 82 a 0 = nI to ∧ M.1 236 0 b = nI to ∧ C.1 83 a 0 = nI th ∧ M.1 237 0 b = nI th ∧ C.1 86 a 0 = nI sq ∧ M.1 238 0 b = nI sq ∧ C.1 80 a 0 = nI len ∧ M.1 240 0 b = nI len ∧ C.1 85 a 0 = nI z ∧ C.1 87 a 0 = M.1 241 0 b ∧ (M.1 241 0 b = -nI 1 ∨ ∃ x, x < 200 ∧ M.1 241 0 b = nI x) ∧ (∀ j, j < len → isB (M.1 242 0 (208 * b + j)) ∧ C.1 36 a j = M.1 242 0 (208 * b + j)) ∧ ((kd = 8 ∧ M.1 239 0 b = nI z ∧ 8 ≤ len ∧ C.1 84 a 0 = nI (if M.1 242 0 (208 * b + 6) = nI 8 then 1 else 0)) ∨ ((kd = 176 ∨ kd = 0 ∨ kd = 16 ∨ kd = 192) ∧ M.1 239 0 b = nI 255 ∧ 1 ≤ len ∧ len ≤ 6 ∧ C.1 84 a 0 = nI 0))
def IQue (C M : Mm) : Prop := ∀ k, k < 9 → ∃ f u q, f < 12 ∧ u ≤ 12 ∧ q < 4096 ∧ C.1 102 k 0 = nI f ∧ C.1 103 k 0 = nI u ∧ M.1 234 0 k = nI u ∧ C.1 104 k 0 = nI q ∧ M.1 247 0 k = nI q ∧ ∀ j, j < u → QR C M (12 * k + (f + j) % 12) (12 * k + j)
def IHnd (C M : Mm) : Prop := ∀ k, k < 9 → ∃ f u p n, f < 12 ∧ u ≤ 12 ∧ C.1 102 k 0 = nI f ∧ C.1 103 k 0 = nI u ∧ C.1 99 k 0 = nI p ∧ C.1 100 k 0 = nI n ∧ (u = 0 → p = 0 ∧ n = 0) ∧ (0 < u → M.1 243 0 k = nI p ∧ (∃ z len, C.1 85 (12 * k + f) 0 = nI z ∧ C.1 80 (12 * k + f) 0 = nI len ∧ z ≤ 255 ∧ len ≤ 208 ∧ p * z < len) ∧ ((n = 0 ∧ M.1 244 0 k = nI 0) ∨ (28 ≤ n ∧ n ≤ 300 ∧ M.1 244 0 k = nI 1 ∧ M.1 246 0 k = nI n ∧ (∀ j, j < n → isB (M.1 245 0 (300 * k + j)) ∧ C.1 40 k j = M.1 245 0 (300 * k + j)) ∧ ¬ M.1 245 0 (300 * k) = nI 212)))
def ICon (C M : Mm) : Prop := ∀ k, k < 9 → C.1 91 k 0 = M.1 248 0 k ∧ C.1 93 k 0 = M.1 250 0 k ∧ ∃ w, (w = 7 ∨ w = 15 ∨ w = 31 ∨ w = 63 ∨ w = 127) ∧ C.1 92 k 0 = nI w ∧ M.1 249 0 k = nI w
def IDue (s : Nat) (C M : Mm) : Prop := ∀ k, k < 9 → (∀ j, j < 6 → C.1 39 k j = btL (M.2.1 259 0 k) (5 - j)) ∧ ((C.1 94 k 0 = -nI 1 ∧ M.1 257 0 k = nI 0) ∨ (∃ d, s ≤ d ∧ d ≤ s + 2 ∧ C.1 94 k 0 = nI d ∧ M.1 258 0 k = nI d ∧ M.1 254 0 k = -nI 1 ∧ ((C.1 95 k 0 = nI 1 ∧ M.1 257 0 k = nI 1) ∨ (C.1 95 k 0 = nI 0 ∧ M.1 257 0 k = nI 2 ∧ M.1 255 0 k = nI 0 ∧ ∃ u, 0 < u ∧ u ≤ 12 ∧ C.1 103 k 0 = nI u))))
def IWai (s : Nat) (C M : Mm) : Prop := ∀ k, k < 9 → (C.1 98 k 0 = -nI 1 ∧ M.1 255 0 k = nI 0) ∨ (∃ w n u, w ≤ s ∧ s ≤ w + 4 ∧ C.1 98 k 0 = nI w ∧ M.1 256 0 k = nI w ∧ M.1 255 0 k = nI 1 ∧ 0 < u ∧ u ≤ 12 ∧ C.1 103 k 0 = nI u ∧ 0 < n ∧ n ≤ 300 ∧ C.1 100 k 0 = nI n)
def ISnd (s l : Nat) (C M : Mm) : Prop := (∀ k, k < 9 → (M.1 254 0 k = -nI 1 ∧ (C.1 96 k 0 = -nI 1 ∨ ∃ x, x < s ∧ C.1 96 k 0 = nI x)) ∨ (∃ v t m, v < l ∧ M.1 254 0 k = nI v ∧ M.1 260 0 v = nI k ∧ M.1 261 0 v = nI t ∧ s ≤ t ∧ C.1 96 k 0 = nI t ∧ M.1 262 0 v = nI m ∧ m ≤ 300 ∧ ((C.1 97 k 0 = nI 1 ∧ M.1 265 0 (300 * v) = nI 212 ∧ m = 14) ∨ (C.1 97 k 0 = nI 0 ∧ ¬ M.1 265 0 (300 * v) = nI 212 ∧ M.1 255 0 k = nI 0 ∧ ∃ u n, 0 < u ∧ u ≤ 12 ∧ C.1 103 k 0 = nI u ∧ 0 < n ∧ n ≤ 300 ∧ C.1 100 k 0 = nI n)))) ∧ (∀ v k, v < l → k < 9 → M.1 260 0 v = nI k → M.1 254 0 k = nI v)
def ISlo (s g l : Nat) (C M : Mm) : Prop := C.1 76 0 0 = nI s ∧ M.1 298 0 0 = nI s ∧ C.1 73 0 0 = nI g ∧ M.1 301 0 0 = nI g ∧ C.1 71 0 0 = nI ((g + 39) % 40) ∧ C.1 72 0 0 = nI (if g < 40 then g else 40) ∧ C.1 74 0 0 = nI l ∧ M.1 304 0 0 = nI l
def ISto (C M : Mm) : Prop := C.1 77 0 0 = M.1 300 0 0 ∧ C.1 75 0 0 = M.1 302 0 0
def IQui (s : Nat) (C M : Mm) : Prop := ∃ q, q ≤ 3 ∧ M.1 299 0 0 = nI q ∧ ((q < 3 ∧ q + 1 ≤ s ∧ C.1 78 0 0 = nI (s - 1 - q)) ∨ (q = 3 ∧ (C.1 78 0 0 = -nI 4 ∨ ∃ b, b + 4 ≤ s ∧ C.1 78 0 0 = nI b)))
def IRng (s g l : Nat) (C M : Mm) : Prop := ∀ r, r < 40 → r < g → ∃ n sd t, 1 ≤ n ∧ n ≤ 300 ∧ sd ≤ 9 ∧ t < 2 ^ 30 ∧ C.1 28 0 r = nI n ∧ M.1 268 0 r = nI n ∧ C.1 29 0 r = nI sd ∧ M.1 266 0 r = nI sd ∧ C.1 30 0 r = M.1 267 0 r ∧ M.1 269 0 r = nI (2 + (n + 31) / 32) ∧ C.1 31 0 r = nI t ∧ (∀ j, j < n → isB (M.1 271 0 (300 * r + j)) ∧ C.1 27 r j = M.1 271 0 (300 * r + j)) ∧ ((M.1 270 0 r = nI 2 ∧ s ≤ t ∧ ∃ v, v < l ∧ M.1 264 0 v = nI (nr g r)) ∨ (M.1 270 0 r = nI 1 ∧ t < s ∧ C.1 32 0 r = nI 0) ∨ (M.1 270 0 r = nI 0 ∧ t < s ∧ C.1 32 0 r = nI 1))
def ILiv (s g l : Nat) (C M : Mm) : Prop := (∀ v, v < l → ∃ x t n sd c, x < g ∧ s ≤ t ∧ t < s + 12 ∧ 1 ≤ n ∧ n ≤ 300 ∧ sd ≤ 9 ∧ c ≤ 1 ∧ M.1 264 0 v = nI x ∧ M.1 261 0 v = nI t ∧ M.1 262 0 v = nI n ∧ M.1 260 0 v = nI sd ∧ M.1 263 0 v = nI c ∧ (∀ j, j < n → isB (M.1 265 0 (300 * v + j))) ∧ (g ≤ x + 40 → C.1 31 0 (x % 40) = nI t ∧ C.1 32 0 (x % 40) = nI (1 - c) ∧ M.1 268 0 (x % 40) = nI n ∧ M.1 266 0 (x % 40) = nI sd ∧ ∀ j, j < n → M.1 265 0 (300 * v + j) = M.1 271 0 (300 * (x % 40) + j))) ∧ (∀ v w, v < l → w < l → M.1 264 0 v = M.1 264 0 w → v = w)
def IEnd (s l : Nat) (C M : Mm) : Prop := ∀ t, t < 16 → C.1 33 0 ((s + t) % 16) = nI (cnt (fun v => decide (M.1 261 0 v = nI (s + t))) l)
def IAlo (g l : Nat) (C M : Mm) : Prop := ∀ v, v < l → M.1 263 0 v = nI 1 → l = 1 ∧ M.1 264 0 v + 1 = nI g
def IPut (s : Nat) (C M : Mm) : Prop := ∃ n, n ≤ 20 ∧ C.1 101 0 0 = nI n ∧ M.1 306 0 0 = nI n ∧ (∀ i, i < n → ∃ m t, 1 ≤ m ∧ m ≤ 300 ∧ s ≤ t ∧ t < 2 ^ 31 ∧ C.1 43 0 i = nI m ∧ M.1 275 0 i = nI m ∧ C.1 44 0 i = nI t ∧ M.1 274 0 i = nI t ∧ ∀ j, j < m → isB (M.1 276 0 (300 * i + j)) ∧ C.1 42 (C.2.2 41 0 i) j = M.1 276 0 (300 * i + j)) ∧ (∀ i, i < 20 → C.2.2 41 0 i < 20) ∧ (∀ i j, i < 20 → j < 20 → C.2.2 41 0 i = C.2.2 41 0 j → i = j)
def ILat (C M : Mm) : Prop := (∀ r f, r < 9 → f < 9 → (C.1 38 r f = -nI 1 ∧ M.1 280 0 (9 * r + f) = nI 0) ∨ (∃ x, x < 65536 ∧ C.1 38 r f = nI x ∧ M.1 279 0 (9 * r + f) = nI x ∧ M.1 280 0 (9 * r + f) = nI 1)) ∧ (∀ r, r < 9 → C.1 89 r 0 = M.1 281 0 r ∧ C.1 90 r 0 = M.1 282 0 r)
def IInb (s : Nat) (C M : Mm) : Prop := ∀ k, k < 9 → ∃ d, d ≤ s ∧ C.1 61 k 0 = nI d ∧ M.1 284 0 k = nI d ∧ ∀ i, i < 12 → i < d → ∃ n, n ≤ 200 ∧ C.1 20 k i = M.1 285 0 (12 * k + i) ∧ C.1 19 k i = nI n ∧ M.1 286 0 (12 * k + i) = nI n ∧ ∀ j, j < n → C.1 18 (12 * k + i) j = M.1 287 0 (200 * (12 * k + i) + j)
def ICnt (c l : Nat) (C M : Mm) : Prop := ∃ n p P, n ≤ 300 ∧ p ≤ 20 ∧ M.1 291 0 0 = nI n ∧ M.1 306 0 0 = nI p ∧ p + cnt (fun v => decide (M.1 260 0 v = nI 9)) l ≤ P ∧ 2 * P + (if n = 0 then 0 else 1) ≤ c
def IAlq (g l : Nat) (C M : Mm) : Prop := ∀ v, v < l → v + 1 = l → M.1 263 0 v = nI 1 → M.1 264 0 v + 1 = nI g
abbrev ITape_C : List Nat := [55, 105]
abbrev ITape_M : List Nat := [215, 291]
theorem ITape.fr {u w : List Nat} {C M C' M' : Mm} (h : ITape C M) (fC : fq u C C') (gM : fq w M M') (d : dj u ITape_C = true) (e : dj w ITape_M = true) : ITape C' M' := by
  have hC := dj_of d
  have hM := dj_of e
  unfold ITape at h ⊢
  simp only [fC.1 55 (hC 55 (by decide)), fC.1 105 (hC 105 (by decide)), gM.1 215 (hM 215 (by decide)), gM.1 291 (hM 291 (by decide))]
  exact h
abbrev IDraw_C : List Nat := [16, 59, 60]
abbrev IDraw_M : List Nat := [251, 294, 295]
theorem IDraw.fr {u w : List Nat} {C M C' M' : Mm} (h : IDraw C M) (fC : fq u C C') (gM : fq w M M') (d : dj u IDraw_C = true) (e : dj w IDraw_M = true) : IDraw C' M' := by
  have hC := dj_of d
  have hM := dj_of e
  unfold IDraw at h ⊢
  simp only [fC.1 16 (hC 16 (by decide)), fC.1 59 (hC 59 (by decide)), fC.1 60 (hC 60 (by decide)), gM.1 251 (hM 251 (by decide)), gM.1 294 (hM 294 (by decide)), gM.1 295 (hM 295 (by decide))]
  exact h
abbrev INois_C : List Nat := [34, 35, 79]
abbrev INois_M : List Nat := [272, 273, 305]
theorem INois.fr {u w : List Nat} {C M C' M' : Mm} (h : INois C M) (fC : fq u C C') (gM : fq w M M') (d : dj u INois_C = true) (e : dj w INois_M = true) : INois C' M' := by
  have hC := dj_of d
  have hM := dj_of e
  unfold INois at h ⊢
  simp only [fC.1 34 (hC 34 (by decide)), fC.1 35 (hC 35 (by decide)), fC.1 79 (hC 79 (by decide)), gM.1 272 (hM 272 (by decide)), gM.1 273 (hM 273 (by decide)), gM.1 305 (hM 305 (by decide))]
  exact h
abbrev IPar_C : List Nat := [107, 108, 109]
abbrev IPar_M : List Nat := [292, 293, 303]
theorem IPar.fr {u w : List Nat} {C M C' M' : Mm} (h : IPar C M) (fC : fq u C C') (gM : fq w M M') (d : dj u IPar_C = true) (e : dj w IPar_M = true) : IPar C' M' := by
  have hC := dj_of d
  have hM := dj_of e
  unfold IPar at h ⊢
  simp only [fC.1 107 (hC 107 (by decide)), fC.1 108 (hC 108 (by decide)), fC.1 109 (hC 109 (by decide)), gM.1 292 (hM 292 (by decide)), gM.1 293 (hM 293 (by decide)), gM.1 303 (hM 303 (by decide))]
  exact h
abbrev ISub_C : List Nat := [56, 106]
abbrev ISub_M : List Nat := [252, 296]
theorem ISub.fr {u w : List Nat} {C M C' M' : Mm} (h : ISub C M) (fC : fq u C C') (gM : fq w M M') (d : dj u ISub_C = true) (e : dj w ISub_M = true) : ISub C' M' := by
  have hC := dj_of d
  have hM := dj_of e
  unfold ISub at h ⊢
  simp only [fC.1 56 (hC 56 (by decide)), fC.1 106 (hC 106 (by decide)), gM.1 252 (hM 252 (by decide)), gM.1 296 (hM 296 (by decide))]
  exact h
abbrev IKey_C : List Nat := [21, 37]
abbrev IKey_M : List Nat := [216, 217]
theorem IKey.fr {u w : List Nat} {C M C' M' : Mm} (h : IKey C M) (fC : fq u C C') (gM : fq w M M') (d : dj u IKey_C = true) (e : dj w IKey_M = true) : IKey C' M' := by
  have hC := dj_of d
  have hM := dj_of e
  unfold IKey at h ⊢
  simp only [fC.1 21 (hC 21 (by decide)), fC.1 37 (hC 37 (by decide)), gM.1 216 (hM 216 (by decide)), gM.1 217 (hM 217 (by decide))]
  exact h
abbrev IRef_C : List Nat := [17, 26, 45, 52, 53, 54, 88]
abbrev IRef_M : List Nat := [207]
theorem IRef.fr {u w : List Nat} {C M C' M' : Mm} (h : IRef C M) (fC : fq u C C') (gM : fq w M M') (d : dj u IRef_C = true) (e : dj w IRef_M = true) : IRef C' M' := by
  have hC := dj_of d
  have hM := dj_of e
  unfold IRef at h ⊢
  simp only [fC.1 88 (hC 88 (by decide)), fC.2.2 17 (hC 17 (by decide)), fC.2.2 26 (hC 26 (by decide)), fC.2.2 45 (hC 45 (by decide)), fC.2.2 52 (hC 52 (by decide)), fC.2.2 53 (hC 53 (by decide)), fC.2.2 54 (hC 54 (by decide)), gM.1 207 (hM 207 (by decide))]
  exact h
abbrev ISta_C : List Nat := [62, 63]
abbrev ISta_M : List Nat := [218, 219, 220]
theorem ISta.fr {u w : List Nat} {C M C' M' : Mm} (h : ISta C M) (fC : fq u C C') (gM : fq w M M') (d : dj u ISta_C = true) (e : dj w ISta_M = true) : ISta C' M' := by
  have hC := dj_of d
  have hM := dj_of e
  unfold ISta at h ⊢
  simp only [fC.1 62 (hC 62 (by decide)), fC.1 63 (hC 63 (by decide)), gM.1 218 (hM 218 (by decide)), gM.1 219 (hM 219 (by decide)), gM.1 220 (hM 220 (by decide))]
  exact h
abbrev ILnk_C : List Nat := [22, 23, 24, 62, 64, 65, 66]
abbrev ILnk_M : List Nat := [221, 222, 223, 224, 225, 226, 227]
theorem ILnk.fr {u w : List Nat} {C M C' M' : Mm} (h : ILnk C M) (fC : fq u C C') (gM : fq w M M') (d : dj u ILnk_C = true) (e : dj w ILnk_M = true) : ILnk C' M' := by
  have hC := dj_of d
  have hM := dj_of e
  unfold ILnk at h ⊢
  simp only [fC.1 22 (hC 22 (by decide)), fC.1 23 (hC 23 (by decide)), fC.1 24 (hC 24 (by decide)), fC.1 62 (hC 62 (by decide)), fC.1 64 (hC 64 (by decide)), fC.2.1 65 (hC 65 (by decide)), fC.2.1 66 (hC 66 (by decide)), gM.1 221 (hM 221 (by decide)), gM.1 222 (hM 222 (by decide)), gM.1 223 (hM 223 (by decide)), gM.1 224 (hM 224 (by decide)), gM.1 225 (hM 225 (by decide)), gM.2.1 226 (hM 226 (by decide)), gM.2.1 227 (hM 227 (by decide))]
  exact h
abbrev IBeg_C : List Nat := [25, 67, 68, 69, 70]
abbrev IBeg_M : List Nat := [228, 229, 230, 231, 232]
theorem IBeg.fr {u w : List Nat} {C M C' M' : Mm} (h : IBeg C M) (fC : fq u C C') (gM : fq w M M') (d : dj u IBeg_C = true) (e : dj w IBeg_M = true) : IBeg C' M' := by
  have hC := dj_of d
  have hM := dj_of e
  unfold IBeg at h ⊢
  simp only [fC.1 25 (hC 25 (by decide)), fC.1 67 (hC 67 (by decide)), fC.1 68 (hC 68 (by decide)), fC.1 69 (hC 69 (by decide)), fC.1 70 (hC 70 (by decide)), gM.1 228 (hM 228 (by decide)), gM.1 229 (hM 229 (by decide)), gM.1 230 (hM 230 (by decide)), gM.1 231 (hM 231 (by decide)), gM.1 232 (hM 232 (by decide))]
  exact h
abbrev IQue_C : List Nat := [36, 80, 81, 82, 83, 84, 85, 86, 87, 102, 103, 104]
abbrev IQue_M : List Nat := [234, 235, 236, 237, 238, 239, 240, 241, 242, 247]
theorem IQue.fr {u w : List Nat} {C M C' M' : Mm} (h : IQue C M) (fC : fq u C C') (gM : fq w M M') (d : dj u IQue_C = true) (e : dj w IQue_M = true) : IQue C' M' := by
  have hC := dj_of d
  have hM := dj_of e
  unfold IQue QR at h ⊢
  simp only [fC.1 36 (hC 36 (by decide)), fC.1 80 (hC 80 (by decide)), fC.1 81 (hC 81 (by decide)), fC.1 82 (hC 82 (by decide)), fC.1 83 (hC 83 (by decide)), fC.1 84 (hC 84 (by decide)), fC.1 85 (hC 85 (by decide)), fC.1 86 (hC 86 (by decide)), fC.1 87 (hC 87 (by decide)), fC.1 102 (hC 102 (by decide)), fC.1 103 (hC 103 (by decide)), fC.1 104 (hC 104 (by decide)), gM.1 234 (hM 234 (by decide)), gM.1 235 (hM 235 (by decide)), gM.1 236 (hM 236 (by decide)), gM.1 237 (hM 237 (by decide)), gM.1 238 (hM 238 (by decide)), gM.1 239 (hM 239 (by decide)), gM.1 240 (hM 240 (by decide)), gM.1 241 (hM 241 (by decide)), gM.1 242 (hM 242 (by decide)), gM.1 247 (hM 247 (by decide))]
  exact h
abbrev IHnd_C : List Nat := [40, 80, 85, 99, 100, 102, 103]
abbrev IHnd_M : List Nat := [243, 244, 245, 246]
theorem IHnd.fr {u w : List Nat} {C M C' M' : Mm} (h : IHnd C M) (fC : fq u C C') (gM : fq w M M') (d : dj u IHnd_C = true) (e : dj w IHnd_M = true) : IHnd C' M' := by
  have hC := dj_of d
  have hM := dj_of e
  unfold IHnd at h ⊢
  simp only [fC.1 40 (hC 40 (by decide)), fC.1 80 (hC 80 (by decide)), fC.1 85 (hC 85 (by decide)), fC.1 99 (hC 99 (by decide)), fC.1 100 (hC 100 (by decide)), fC.1 102 (hC 102 (by decide)), fC.1 103 (hC 103 (by decide)), gM.1 243 (hM 243 (by decide)), gM.1 244 (hM 244 (by decide)), gM.1 245 (hM 245 (by decide)), gM.1 246 (hM 246 (by decide))]
  exact h
abbrev ICon_C : List Nat := [91, 92, 93]
abbrev ICon_M : List Nat := [248, 249, 250]
theorem ICon.fr {u w : List Nat} {C M C' M' : Mm} (h : ICon C M) (fC : fq u C C') (gM : fq w M M') (d : dj u ICon_C = true) (e : dj w ICon_M = true) : ICon C' M' := by
  have hC := dj_of d
  have hM := dj_of e
  unfold ICon at h ⊢
  simp only [fC.1 91 (hC 91 (by decide)), fC.1 92 (hC 92 (by decide)), fC.1 93 (hC 93 (by decide)), gM.1 248 (hM 248 (by decide)), gM.1 249 (hM 249 (by decide)), gM.1 250 (hM 250 (by decide))]
  exact h
abbrev IDue_C : List Nat := [39, 94, 95, 103]
abbrev IDue_M : List Nat := [254, 255, 257, 258, 259]
theorem IDue.fr {s : Nat} {u w : List Nat} {C M C' M' : Mm} (h : IDue s C M) (fC : fq u C C') (gM : fq w M M') (d : dj u IDue_C = true) (e : dj w IDue_M = true) : IDue s C' M' := by
  have hC := dj_of d
  have hM := dj_of e
  unfold IDue at h ⊢
  simp only [fC.1 39 (hC 39 (by decide)), fC.1 94 (hC 94 (by decide)), fC.1 95 (hC 95 (by decide)), fC.1 103 (hC 103 (by decide)), gM.1 254 (hM 254 (by decide)), gM.1 255 (hM 255 (by decide)), gM.1 257 (hM 257 (by decide)), gM.1 258 (hM 258 (by decide)), gM.2.1 259 (hM 259 (by decide))]
  exact h
abbrev IWai_C : List Nat := [98, 100, 103]
abbrev IWai_M : List Nat := [255, 256]
theorem IWai.fr {s : Nat} {u w : List Nat} {C M C' M' : Mm} (h : IWai s C M) (fC : fq u C C') (gM : fq w M M') (d : dj u IWai_C = true) (e : dj w IWai_M = true) : IWai s C' M' := by
  have hC := dj_of d
  have hM := dj_of e
  unfold IWai at h ⊢
  simp only [fC.1 98 (hC 98 (by decide)), fC.1 100 (hC 100 (by decide)), fC.1 103 (hC 103 (by decide)), gM.1 255 (hM 255 (by decide)), gM.1 256 (hM 256 (by decide))]
  exact h
abbrev ISnd_C : List Nat := [96, 97, 100, 103]
abbrev ISnd_M : List Nat := [254, 255, 260, 261, 262, 265]
theorem ISnd.fr {s l : Nat} {u w : List Nat} {C M C' M' : Mm} (h : ISnd s l C M) (fC : fq u C C') (gM : fq w M M') (d : dj u ISnd_C = true) (e : dj w ISnd_M = true) : ISnd s l C' M' := by
  have hC := dj_of d
  have hM := dj_of e
  unfold ISnd at h ⊢
  simp only [fC.1 96 (hC 96 (by decide)), fC.1 97 (hC 97 (by decide)), fC.1 100 (hC 100 (by decide)), fC.1 103 (hC 103 (by decide)), gM.1 254 (hM 254 (by decide)), gM.1 255 (hM 255 (by decide)), gM.1 260 (hM 260 (by decide)), gM.1 261 (hM 261 (by decide)), gM.1 262 (hM 262 (by decide)), gM.1 265 (hM 265 (by decide))]
  exact h
abbrev ISlo_C : List Nat := [71, 72, 73, 74, 76]
abbrev ISlo_M : List Nat := [298, 301, 304]
theorem ISlo.fr {s g l : Nat} {u w : List Nat} {C M C' M' : Mm} (h : ISlo s g l C M) (fC : fq u C C') (gM : fq w M M') (d : dj u ISlo_C = true) (e : dj w ISlo_M = true) : ISlo s g l C' M' := by
  have hC := dj_of d
  have hM := dj_of e
  unfold ISlo at h ⊢
  simp only [fC.1 71 (hC 71 (by decide)), fC.1 72 (hC 72 (by decide)), fC.1 73 (hC 73 (by decide)), fC.1 74 (hC 74 (by decide)), fC.1 76 (hC 76 (by decide)), gM.1 298 (hM 298 (by decide)), gM.1 301 (hM 301 (by decide)), gM.1 304 (hM 304 (by decide))]
  exact h
abbrev ISto_C : List Nat := [75, 77]
abbrev ISto_M : List Nat := [300, 302]
theorem ISto.fr {u w : List Nat} {C M C' M' : Mm} (h : ISto C M) (fC : fq u C C') (gM : fq w M M') (d : dj u ISto_C = true) (e : dj w ISto_M = true) : ISto C' M' := by
  have hC := dj_of d
  have hM := dj_of e
  unfold ISto at h ⊢
  simp only [fC.1 75 (hC 75 (by decide)), fC.1 77 (hC 77 (by decide)), gM.1 300 (hM 300 (by decide)), gM.1 302 (hM 302 (by decide))]
  exact h
abbrev IQui_C : List Nat := [78]
abbrev IQui_M : List Nat := [299]
theorem IQui.fr {s : Nat} {u w : List Nat} {C M C' M' : Mm} (h : IQui s C M) (fC : fq u C C') (gM : fq w M M') (d : dj u IQui_C = true) (e : dj w IQui_M = true) : IQui s C' M' := by
  have hC := dj_of d
  have hM := dj_of e
  unfold IQui at h ⊢
  simp only [fC.1 78 (hC 78 (by decide)), gM.1 299 (hM 299 (by decide))]
  exact h
abbrev IRng_C : List Nat := [27, 28, 29, 30, 31, 32]
abbrev IRng_M : List Nat := [264, 266, 267, 268, 269, 270, 271]
theorem IRng.fr {s g l : Nat} {u w : List Nat} {C M C' M' : Mm} (h : IRng s g l C M) (fC : fq u C C') (gM : fq w M M') (d : dj u IRng_C = true) (e : dj w IRng_M = true) : IRng s g l C' M' := by
  have hC := dj_of d
  have hM := dj_of e
  unfold IRng at h ⊢
  simp only [fC.1 27 (hC 27 (by decide)), fC.1 28 (hC 28 (by decide)), fC.1 29 (hC 29 (by decide)), fC.1 30 (hC 30 (by decide)), fC.1 31 (hC 31 (by decide)), fC.1 32 (hC 32 (by decide)), gM.1 264 (hM 264 (by decide)), gM.1 266 (hM 266 (by decide)), gM.1 267 (hM 267 (by decide)), gM.1 268 (hM 268 (by decide)), gM.1 269 (hM 269 (by decide)), gM.1 270 (hM 270 (by decide)), gM.1 271 (hM 271 (by decide))]
  exact h
abbrev ILiv_C : List Nat := [31, 32]
abbrev ILiv_M : List Nat := [260, 261, 262, 263, 264, 265, 266, 268, 271]
theorem ILiv.fr {s g l : Nat} {u w : List Nat} {C M C' M' : Mm} (h : ILiv s g l C M) (fC : fq u C C') (gM : fq w M M') (d : dj u ILiv_C = true) (e : dj w ILiv_M = true) : ILiv s g l C' M' := by
  have hC := dj_of d
  have hM := dj_of e
  unfold ILiv at h ⊢
  simp only [fC.1 31 (hC 31 (by decide)), fC.1 32 (hC 32 (by decide)), gM.1 260 (hM 260 (by decide)), gM.1 261 (hM 261 (by decide)), gM.1 262 (hM 262 (by decide)), gM.1 263 (hM 263 (by decide)), gM.1 264 (hM 264 (by decide)), gM.1 265 (hM 265 (by decide)), gM.1 266 (hM 266 (by decide)), gM.1 268 (hM 268 (by decide)), gM.1 271 (hM 271 (by decide))]
  exact h
abbrev IEnd_C : List Nat := [33]
abbrev IEnd_M : List Nat := [261]
theorem IEnd.fr {s l : Nat} {u w : List Nat} {C M C' M' : Mm} (h : IEnd s l C M) (fC : fq u C C') (gM : fq w M M') (d : dj u IEnd_C = true) (e : dj w IEnd_M = true) : IEnd s l C' M' := by
  have hC := dj_of d
  have hM := dj_of e
  unfold IEnd at h ⊢
  simp only [fC.1 33 (hC 33 (by decide)), gM.1 261 (hM 261 (by decide))]
  exact h
abbrev IAlo_C : List Nat := []
abbrev IAlo_M : List Nat := [263, 264]
theorem IAlo.fr {g l : Nat} {u w : List Nat} {C M C' M' : Mm} (h : IAlo g l C M) (fC : fq u C C') (gM : fq w M M') (d : dj u IAlo_C = true) (e : dj w IAlo_M = true) : IAlo g l C' M' := by
  have hC := dj_of d
  have hM := dj_of e
  unfold IAlo at h ⊢
  simp only [gM.1 263 (hM 263 (by decide)), gM.1 264 (hM 264 (by decide))]
  exact h
abbrev IPut_C : List Nat := [41, 42, 43, 44, 101]
abbrev IPut_M : List Nat := [274, 275, 276, 306]
theorem IPut.fr {s : Nat} {u w : List Nat} {C M C' M' : Mm} (h : IPut s C M) (fC : fq u C C') (gM : fq w M M') (d : dj u IPut_C = true) (e : dj w IPut_M = true) : IPut s C' M' := by
  have hC := dj_of d
  have hM := dj_of e
  unfold IPut at h ⊢
  simp only [fC.1 42 (hC 42 (by decide)), fC.1 43 (hC 43 (by decide)), fC.1 44 (hC 44 (by decide)), fC.1 101 (hC 101 (by decide)), fC.2.2 41 (hC 41 (by decide)), gM.1 274 (hM 274 (by decide)), gM.1 275 (hM 275 (by decide)), gM.1 276 (hM 276 (by decide)), gM.1 306 (hM 306 (by decide))]
  exact h
abbrev ILat_C : List Nat := [38, 89, 90]
abbrev ILat_M : List Nat := [279, 280, 281, 282]
theorem ILat.fr {u w : List Nat} {C M C' M' : Mm} (h : ILat C M) (fC : fq u C C') (gM : fq w M M') (d : dj u ILat_C = true) (e : dj w ILat_M = true) : ILat C' M' := by
  have hC := dj_of d
  have hM := dj_of e
  unfold ILat at h ⊢
  simp only [fC.1 38 (hC 38 (by decide)), fC.1 89 (hC 89 (by decide)), fC.1 90 (hC 90 (by decide)), gM.1 279 (hM 279 (by decide)), gM.1 280 (hM 280 (by decide)), gM.1 281 (hM 281 (by decide)), gM.1 282 (hM 282 (by decide))]
  exact h
abbrev IInb_C : List Nat := [18, 19, 20, 61]
abbrev IInb_M : List Nat := [284, 285, 286, 287]
theorem IInb.fr {s : Nat} {u w : List Nat} {C M C' M' : Mm} (h : IInb s C M) (fC : fq u C C') (gM : fq w M M') (d : dj u IInb_C = true) (e : dj w IInb_M = true) : IInb s C' M' := by
  have hC := dj_of d
  have hM := dj_of e
  unfold IInb at h ⊢
  simp only [fC.1 18 (hC 18 (by decide)), fC.1 19 (hC 19 (by decide)), fC.1 20 (hC 20 (by decide)), fC.1 61 (hC 61 (by decide)), gM.1 284 (hM 284 (by decide)), gM.1 285 (hM 285 (by decide)), gM.1 286 (hM 286 (by decide)), gM.1 287 (hM 287 (by decide))]
  exact h
abbrev ICnt_C : List Nat := []
abbrev ICnt_M : List Nat := [260, 291, 306]
theorem ICnt.fr {c l : Nat} {u w : List Nat} {C M C' M' : Mm} (h : ICnt c l C M) (fC : fq u C C') (gM : fq w M M') (d : dj u ICnt_C = true) (e : dj w ICnt_M = true) : ICnt c l C' M' := by
  have hC := dj_of d
  have hM := dj_of e
  unfold ICnt at h ⊢
  simp only [gM.1 260 (hM 260 (by decide)), gM.1 291 (hM 291 (by decide)), gM.1 306 (hM 306 (by decide))]
  exact h
abbrev IAlq_C : List Nat := []
abbrev IAlq_M : List Nat := [263, 264]
theorem IAlq.fr {g l : Nat} {u w : List Nat} {C M C' M' : Mm} (h : IAlq g l C M) (fC : fq u C C') (gM : fq w M M') (d : dj u IAlq_C = true) (e : dj w IAlq_M = true) : IAlq g l C' M' := by
  have hC := dj_of d
  have hM := dj_of e
  unfold IAlq at h ⊢
  simp only [gM.1 263 (hM 263 (by decide)), gM.1 264 (hM 264 (by decide))]
  exact h
/-- all of it: between two calls, c calls of at most 512 having been made -/
def II (c s g l : Nat) (C M : Mm) : Prop := c ≤ 512 ∧ s ≤ 3000 * c ∧ g ≤ 29 * s ∧ ITape C M ∧ IDraw C M ∧ INois C M ∧ IPar C M ∧ ISub C M ∧ IKey C M ∧ IRef C M ∧ ISta C M ∧ ILnk C M ∧ IBeg C M ∧ IQue C M ∧ IHnd C M ∧ ICon C M ∧ IDue s C M ∧ IWai s C M ∧ ISnd s l C M ∧ ISlo s g l C M ∧ ISto C M ∧ IQui s C M ∧ IRng s g l C M ∧ ILiv s g l C M ∧ IEnd s l C M ∧ IAlo g l C M ∧ IPut s C M ∧ ILat C M ∧ IInb s C M ∧ ICnt c l C M ∧ IAlq g l C M
