/-! THE START: the class's cells lie from B on, in the order in which the constructors make them -/
def oT : List (List Nat) := [[87], [78], [125, 184, 243, 302, 361, 420, 479, 538, 597], [144, 203, 262, 321, 380, 439, 498, 557, 616, 150, 209, 268, 327, 386, 445, 504, 563, 622], [4], [101, 103, 105, 107, 109, 111, 113, 115, 117, 119, 121, 123, 160, 162, 164, 166, 168, 170, 172, 174, 176, 178, 180, 182, 219, 221, 223, 225, 227, 229, 231, 233, 235, 237, 239, 241, 278, 280, 282, 284, 286, 288, 290, 292, 294, 296, 298, 300, 337, 339, 341, 343, 345, 347, 349, 351, 353, 355, 357, 359, 396, 398, 400, 402, 404, 406, 408, 410, 412, 414, 416, 418, 455, 457, 459, 461, 463, 465, 467, 469, 471, 473, 475, 477, 514, 516, 518, 520, 522, 524, 526, 528, 530, 532, 534, 536, 573, 575, 577, 579, 581, 583, 585, 587, 589, 591, 593, 595], [97, 156, 215, 274, 333, 392, 451, 510, 569], [54], [99, 158, 217, 276, 335, 394, 453, 512, 571], [80], [0], [88], [89], [90], [91], [92], [79], [126, 185, 244, 303, 362, 421, 480, 539, 598], [127, 128, 129, 130, 131, 132, 133, 134, 135, 136, 137, 138, 186, 187, 188, 189, 190, 191, 192, 193, 194, 195, 196, 197, 245, 246, 247, 248, 249, 250, 251, 252, 253, 254, 255, 256, 304, 305, 306, 307, 308, 309, 310, 311, 312, 313, 314, 315, 363, 364, 365, 366, 367, 368, 369, 370, 371, 372, 373, 374, 422, 423, 424, 425, 426, 427, 428, 429, 430, 431, 432, 433, 481, 482, 483, 484, 485, 486, 487, 488, 489, 490, 491, 492, 540, 541, 542, 543, 544, 545, 546, 547, 548, 549, 550, 551, 599, 600, 601, 602, 603, 604, 605, 606, 607, 608, 609, 610], [139, 198, 257, 316, 375, 434, 493, 552, 611], [140, 199, 258, 317, 376, 435, 494, 553, 612], [145, 204, 263, 322, 381, 440, 499, 558, 617, 151, 210, 269, 328, 387, 446, 505, 564, 623], [146, 205, 264, 323, 382, 441, 500, 559, 618, 152, 211, 270, 329, 388, 447, 506, 565, 624], [147, 206, 265, 324, 383, 442, 501, 560, 619, 153, 212, 271, 330, 389, 448, 507, 566, 625], [148, 207, 266, 325, 384, 443, 502, 561, 620, 154, 213, 272, 331, 390, 449, 508, 567, 626], [149, 208, 267, 326, 385, 444, 503, 562, 621, 155, 214, 273, 332, 391, 450, 509, 568, 627], [5], [6, 7, 8, 9, 10, 11, 12, 13, 14, 15, 16, 17, 18, 19, 20, 21, 22, 23, 24, 25, 26, 27, 28, 29, 30, 31, 32, 33, 34, 35, 36, 37, 38, 39, 40, 41, 42, 43, 44, 45], [46], [47], [48], [49], [50], [51], [52], [53], [102, 104, 106, 108, 110, 112, 114, 116, 118, 120, 122, 124, 161, 163, 165, 167, 169, 171, 173, 175, 177, 179, 181, 183, 220, 222, 224, 226, 228, 230, 232, 234, 236, 238, 240, 242, 279, 281, 283, 285, 287, 289, 291, 293, 295, 297, 299, 301, 338, 340, 342, 344, 346, 348, 350, 352, 354, 356, 358, 360, 397, 399, 401, 403, 405, 407, 409, 411, 413, 415, 417, 419, 456, 458, 460, 462, 464, 466, 468, 470, 472, 474, 476, 478, 515, 517, 519, 521, 523, 525, 527, 529, 531, 533, 535, 537, 574, 576, 578, 580, 582, 584, 586, 588, 590, 592, 594, 596], [98, 157, 216, 275, 334, 393, 452, 511, 570], [141, 200, 259, 318, 377, 436, 495, 554, 613], [142, 201, 260, 319, 378, 437, 496, 555, 614], [143, 202, 261, 320, 379, 438, 497, 556, 615], [55], [56, 57, 58, 59, 60, 61, 62, 63, 64, 65, 66, 67, 68, 69, 70, 71, 72, 73, 74, 75], [76], [77], [100, 159, 218, 277, 336, 395, 454, 513, 572], [81], [82], [83], [84], [85], [86], [1], [2], [3], [93], [94], [95], [96]]
def oF (c i : Nat) : Nat := (oT.getD c []).getD i 0
def iT : List Nat := [158, 621, 622, 623, 29, 390, 391, 392, 393, 394, 395, 396, 397, 398, 399, 400, 401, 402, 403, 404, 405, 406, 407, 408, 409, 410, 411, 412, 413, 414, 415, 416, 417, 418, 419, 420, 421, 422, 423, 424, 425, 426, 427, 428, 429, 430, 431, 432, 433, 434, 435, 436, 437, 438, 147, 583, 584, 585, 586, 587, 588, 589, 590, 591, 592, 593, 594, 595, 596, 597, 598, 599, 600, 601, 602, 603, 604, 605, 1, 164, 157, 615, 616, 617, 618, 619, 620, 0, 159, 160, 161, 162, 163, 624, 625, 626, 627, 138, 547, 148, 606, 30, 439, 31, 440, 32, 441, 33, 442, 34, 443, 35, 444, 36, 445, 37, 446, 38, 447, 39, 448, 40, 449, 41, 450, 2, 165, 174, 175, 176, 177, 178, 179, 180, 181, 182, 183, 184, 185, 282, 291, 556, 565, 574, 11, 300, 318, 336, 354, 372, 20, 309, 327, 345, 363, 381, 139, 548, 149, 607, 42, 451, 43, 452, 44, 453, 45, 454, 46, 455, 47, 456, 48, 457, 49, 458, 50, 459, 51, 460, 52, 461, 53, 462, 3, 166, 186, 187, 188, 189, 190, 191, 192, 193, 194, 195, 196, 197, 283, 292, 557, 566, 575, 12, 301, 319, 337, 355, 373, 21, 310, 328, 346, 364, 382, 140, 549, 150, 608, 54, 463, 55, 464, 56, 465, 57, 466, 58, 467, 59, 468, 60, 469, 61, 470, 62, 471, 63, 472, 64, 473, 65, 474, 4, 167, 198, 199, 200, 201, 202, 203, 204, 205, 206, 207, 208, 209, 284, 293, 558, 567, 576, 13, 302, 320, 338, 356, 374, 22, 311, 329, 347, 365, 383, 141, 550, 151, 609, 66, 475, 67, 476, 68, 477, 69, 478, 70, 479, 71, 480, 72, 481, 73, 482, 74, 483, 75, 484, 76, 485, 77, 486, 5, 168, 210, 211, 212, 213, 214, 215, 216, 217, 218, 219, 220, 221, 285, 294, 559, 568, 577, 14, 303, 321, 339, 357, 375, 23, 312, 330, 348, 366, 384, 142, 551, 152, 610, 78, 487, 79, 488, 80, 489, 81, 490, 82, 491, 83, 492, 84, 493, 85, 494, 86, 495, 87, 496, 88, 497, 89, 498, 6, 169, 222, 223, 224, 225, 226, 227, 228, 229, 230, 231, 232, 233, 286, 295, 560, 569, 578, 15, 304, 322, 340, 358, 376, 24, 313, 331, 349, 367, 385, 143, 552, 153, 611, 90, 499, 91, 500, 92, 501, 93, 502, 94, 503, 95, 504, 96, 505, 97, 506, 98, 507, 99, 508, 100, 509, 101, 510, 7, 170, 234, 235, 236, 237, 238, 239, 240, 241, 242, 243, 244, 245, 287, 296, 561, 570, 579, 16, 305, 323, 341, 359, 377, 25, 314, 332, 350, 368, 386, 144, 553, 154, 612, 102, 511, 103, 512, 104, 513, 105, 514, 106, 515, 107, 516, 108, 517, 109, 518, 110, 519, 111, 520, 112, 521, 113, 522, 8, 171, 246, 247, 248, 249, 250, 251, 252, 253, 254, 255, 256, 257, 288, 297, 562, 571, 580, 17, 306, 324, 342, 360, 378, 26, 315, 333, 351, 369, 387, 145, 554, 155, 613, 114, 523, 115, 524, 116, 525, 117, 526, 118, 527, 119, 528, 120, 529, 121, 530, 122, 531, 123, 532, 124, 533, 125, 534, 9, 172, 258, 259, 260, 261, 262, 263, 264, 265, 266, 267, 268, 269, 289, 298, 563, 572, 581, 18, 307, 325, 343, 361, 379, 27, 316, 334, 352, 370, 388, 146, 555, 156, 614, 126, 535, 127, 536, 128, 537, 129, 538, 130, 539, 131, 540, 132, 541, 133, 542, 134, 543, 135, 544, 136, 545, 137, 546, 10, 173, 270, 271, 272, 273, 274, 275, 276, 277, 278, 279, 280, 281, 290, 299, 564, 573, 582, 19, 308, 326, 344, 362, 380, 28, 317, 335, 353, 371, 389]
def cV : List pE := .inr (10, fin_X11 1) :: new_X11 1
/-- the class's memory when it is made -/
def S0c : Mm := (fun c i j => if c = 38 then (if j < 9 then -1 else 0) else if c = 88 then Int32.ofNat i else if c = 92 then 7 else if c = 94 then -1 else if c = 96 then -1 else if c = 98 then -1 else if c = 62 then 1 else if c = 71 then 39 else if c = 78 then -4 else if c = 107 then 255 else if c = 108 then 4 else 0, fun c _ _ => if c = 66 then 1 else 0, fun c i j => if c = 54 then 9 + j else if c = 45 then 12 * i + j else if c = 17 then 12 * i + j else j)
def fvP (i : Nat) (q : Nat × Nat) : Value := if q.1 = 0 then .int (S0c.1 q.2 i 0) else if q.1 = 1 then .long (S0c.2.1 q.2 i 0) else .ref (oF q.2 i)
def eP (c i : Nat) : pE := if kt c = 0 then .inr (kn c, (kf c).map (fvP i)) else if kt c = 4 then .inl (ka c, kn c, [], (List.range (kn c)).map fun j => oF (kx c) (S0c.2.2 c i j)) else .inl (ka c, kn c, if c = 38 then List.replicate 9 (-1) else [], [])
theorem cV_ok : ((kK false).all fun q => decide (cV[oF q.1 q.2]? = some (eP q.1 q.2))) = true := by decide +kernel
theorem iT_ok : ((kK false).map fun q => iT.getD (oF q.1 q.2) 0) = List.range 628 := by decide +kernel
theorem oF_ok : ((kK false).all fun q => Nat.blt (oF q.1 q.2) 628) = true := by decide +kernel
theorem oF_lt {c i : Nat} (h : (c, i) ∈ kK false) : oF c i < 628 := Nat.blt_eq.mp (List.all_eq_true.mp oF_ok (c, i) h)
theorem cV_len : cV.length = 628 := by
  unfold cV
  rw [List.length_cons, new_X11_len]
def cG (G : xG) (B : Nat) : Prop := ∀ c i, (c, i) ∈ kK false → G.2.2 c i = B + oF c i
theorem cG.xD {G : xG} {B : Nat} (h : cG G B) : xD G false := by
  intro i j q q' hi hj he
  have key : ∀ (p : Nat) (z : Nat × Nat), (kK false)[p]? = some z → iT.getD (oF z.1 z.2) 0 = p := by
    intro p z hp
    have h1 : ((kK false).map fun q => iT.getD (oF q.1 q.2) 0)[p]? = some (iT.getD (oF z.1 z.2) 0) := by rw [List.getElem?_map, hp]; rfl
    rw [iT_ok] at h1
    have hl : p < 628 := by
      have := (List.getElem?_eq_some_iff.mp h1).1
      rwa [List.length_range] at this
    rw [List.getElem?_range hl] at h1
    exact (Option.some.inj h1).symm
  have e1 := h q.1 q.2 (List.mem_of_getElem? hi)
  have e2 := h q'.1 q'.2 (List.mem_of_getElem? hj)
  rw [e1, e2] at he
  rw [← key i q hi, ← key j q' hj, show oF q.1 q.2 = oF q'.1 q'.2 by omega]
theorem kd_a : ∀ c, c < 400 → sd c = false → kt c < 5 → c < 59 := by decide +kernel
theorem kd_b : ∀ c, c < 59 → kt c = 0 ∨ ((kt c = 1 ∨ kt c = 2) ∧ ka c < 3) ∨ (kt c = 4 ∧ 3 < ka c ∧ kx c < 400 ∧ sd (kx c) = false ∧ kt (kx c) < 5) := by decide +kernel
theorem kd_c (c : Nat) (h1 : c < 400) (h2 : sd c = false) (h3 : kt c < 5) : c < 59 ∧ (kt c = 0 ∨ ((kt c = 1 ∨ kt c = 2) ∧ ka c < 3) ∨ (kt c = 4 ∧ 3 < ka c ∧ kx c < nk ∧ sd (kx c) = false ∧ kt (kx c) < 5)) := ⟨kd_a c h1 h2 h3, kd_b c (kd_a c h1 h2 h3)⟩
theorem kf_c : ∀ c, c < 59 → ∀ q ∈ kf c, q.1 = 0 ∨ q.1 = 1 ∨ (q.1 = 2 ∧ q.2 < nk ∧ sd q.2 = false ∧ kt q.2 < 5 ∧ kc c ≤ kc q.2) := by decide +kernel
theorem rw_c : ((kK false).all fun q => !(Nat.beq (kt q.1) 4) || (List.range (kn q.1)).all fun j => Nat.blt (S0c.2.2 q.1 q.2 j) (kc (kx q.1))) = true := by decide +kernel
theorem arrV_congr {cA : ClassId} {n : Nat} {f g : Nat → Value} (h : ∀ j, j < n → f j = g j) : arrV cA n f = arrV cA n g := by
  unfold arrV
  congr 2
  funext j
  exact h j.val j.isLt
theorem pt_en {G : xG} {B : Nat} {H : Heap} {c i : Nat} (hG : cG G B) (hm : (c, i) ∈ kK false) (h : va_at G.1 vwCl (B + oF c i, pt G B (eP c i)) H) : va_at G.1 vwCl (B + oF c i, en G S0c c i) H := by
  obtain ⟨hk1, hk2, hk3, hk4⟩ := kK_of hm
  obtain ⟨h59, hd⟩ := kd_c c hk1 hk2 hk3
  unfold eP at h
  unfold en
  by_cases h0 : kt c = 0
  · rw [if_pos h0] at h ⊢
    have e : pt G B (.inr (kn c, (kf c).map (fvP i))) = .inr (kn c, (kf c).map (fv G S0c i)) := by
      show (.inr (kn c, ((kf c).map (fvP i)).map (shV B)) : va_E) = .inr (kn c, (kf c).map (fv G S0c i))
      rw [List.map_map]
      congr 2
      apply List.map_congr_left
      intro q hq
      show shV B (fvP i q) = fv G S0c i q
      unfold fvP fv
      rcases kf_c c h59 q hq with z | z | ⟨z, z1, z2, z3, z4⟩
      · rw [if_pos z, if_pos z]; rfl
      · rw [if_neg (by omega), if_pos z, if_neg (by omega), if_pos z]; rfl
      · rw [if_neg (by omega), if_neg (by omega), if_neg (by omega), if_neg (by omega), hG q.2 i (kK_mem z1 z2 z3 (by omega))]
        rfl
    rw [e] at h
    exact h
  · rw [if_neg h0] at h ⊢
    rcases hd with hd | ⟨hd, ha⟩ | ⟨hd, ha, x1, x2, x3⟩
    · exact absurd hd h0
    · rw [if_neg (by omega)] at h
      rw [if_neg (by omega), if_neg (by omega)]
      have h' : va_at G.1 vwCl (B + oF c i, (.inl (G.2.1 (ka c), kn c, if ka c < 3 then .inl (fun j => (if c = 38 then List.replicate 9 (-1 : Int32) else []).getD j 0) else if ka c = 3 then .inr (.inl fun _ => 0) else .inr (.inr (.inr (.inr fun j => (([] : List Nat)[j]?).map (B + ·))))) : va_E)) H := h
      rw [if_pos ha] at h'
      have e : (fun j => (if c = 38 then List.replicate 9 (-1 : Int32) else []).getD j 0) = S0c.1 c i := by
        funext j
        show _ = if c = 38 then (if j < 9 then -1 else 0) else if c = 88 then Int32.ofNat i else if c = 92 then 7 else if c = 94 then -1 else if c = 96 then -1 else if c = 98 then -1 else if c = 62 then 1 else if c = 71 then 39 else if c = 78 then -4 else if c = 107 then 255 else if c = 108 then 4 else 0
        by_cases h38 : c = 38
        · rw [if_pos h38, if_pos h38, List.getD_eq_getElem?_getD, List.getElem?_replicate]
          by_cases hj : j < 9
          · rw [if_pos hj, if_pos hj] <;> rfl
          · rw [if_neg hj, if_neg hj] <;> rfl
        · rw [if_neg h38, if_neg h38, if_neg (by omega), if_neg (by omega), if_neg (by omega), if_neg (by omega), if_neg (by omega), if_neg (by omega), if_neg (by omega), if_neg (by omega), if_neg (by omega), if_neg (by omega)] <;> rfl
      rw [e] at h'
      exact h'
    · rw [if_pos hd] at h
      rw [if_neg (by omega), if_pos hd]
      have h' : H[B + oF c i]? = some (vp_cell (G.2.1 (ka c)) (kn c, if ka c < 3 then .inl (fun j => ([] : List Int32).getD j 0) else if ka c = 3 then .inr (.inl fun _ => 0) else .inr (.inr (.inr (.inr fun j => (((List.range (kn c)).map fun j => oF (kx c) (S0c.2.2 c i j))[j]?).map (B + ·)))))) := h
      rw [if_neg (by omega), if_neg (by omega), vp_cell_q] at h'
      show H[B + oF c i]? = some (vp_cell (G.2.1 (ka c)) (kn c, .inr (.inr (.inr (.inr fun j => some (G.2.2 (kx c) (S0c.2.2 c i j)))))))
      rw [vp_cell_q, h']
      refine congrArg some (arrV_congr fun j hj => ?_)
      have hr := List.all_eq_true.mp rw_c (c, i) hm
      rw [Bool.or_eq_true] at hr
      rcases hr with hr | hr
      · exfalso
        have hr : (!(Nat.beq (kt c) 4)) = true := hr
        rw [hd] at hr
        cases hr
      · have hr := List.all_eq_true.mp hr j (List.mem_range.mpr hj)
        have hr : S0c.2.2 c i j < kc (kx c) := Nat.blt_eq.mp hr
        show va_rf ((((List.range (kn c)).map fun j => oF (kx c) (S0c.2.2 c i j))[j]?).map (B + ·)) = va_rf (some (G.2.2 (kx c) (S0c.2.2 c i j)))
        rw [List.getElem?_map, List.getElem?_range hj, hG _ _ (kK_mem x1 x2 x3 hr)] <;> rfl
theorem c_xP {G : xG} {B : Nat} {H : Heap} (hG : cG G B) (hv : vL G B cV H) : xP G false S0c H := by
  intro k q hq
  have hz : ∃ z, (kK false)[k]? = some z := by
    cases hz : (kK false)[k]? with
    | none => unfold wl at hq; rw [List.getElem?_map, hz] at hq; cases hq
    | some z => exact ⟨z, rfl⟩
  obtain ⟨⟨c, i⟩, hz⟩ := hz
  rw [wl_at hz] at hq
  cases hq
  have hm : (c, i) ∈ kK false := List.mem_of_getElem? hz
  have h1 : cV[oF c i]? = some (eP c i) := of_decide_eq_true (List.all_eq_true.mp cV_ok (c, i) hm)
  show va_at G.1 vwCl (G.2.2 c i, en G S0c c i) H
  rw [hG c i hm]
  exact pt_en hG hm (hv.2 (oF c i) _ h1)
theorem cG.le {G : xG} {B : Nat} (h : cG G B) : ∀ q ∈ kK false, B ≤ G.2.2 q.1 q.2 ∧ G.2.2 q.1 q.2 < B + 628 := by
  intro q hq
  rw [h q.1 q.2 hq]
  exact ⟨Nat.le_add_right _ _, Nat.add_lt_add_left (oF_lt (c := q.1) (i := q.2) hq) B⟩
