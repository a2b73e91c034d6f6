/-! WHOM A FRAME IS FOR; an ACK is due; what is dropped as sent again -/
def lkB (r : Nat) (M : Mm) : Option (Unit × Mm) := ldA M 278 0 300 1 0 fun x10 => if x10 = 212 then (cl (F_X12_acknowledged (nI r) M) fun _ S15 => some ((), S15)) else (stA M 257 0 9 1 (nI r) 1 fun S11 => gf S11 298 0 fun x12 => stA S11 258 0 9 1 (nI r) (x12 + 2) fun S13 => L_X12_look_66 (nI r) fu 0 0 S13)
theorem lookN {s R n sd : Nat} {b : Nat → Nat} {C M : Mm} {r : Int32} (h : NB s R n sd b C M) (ht : ¬ takP b n) : F_X12_look r M = some ((), M) := by
  unfold F_X12_look
  by_cases hw : 14 ≤ n ∧ fcsP b n
  · exact e_cl ((wholM h).1 hw) (e_N (by decide) (e_cl ((toldM h hw.1).2 (fun z => ht ⟨hw.1, z, hw.2⟩)) (e_T rfl rfl)))
  · exact e_cl ((wholM h).2 hw) (e_T rfl rfl)
theorem lookE {s R n sd r : Nat} {b : Nat → Nat} {C M : Mm} (h : NB s R n sd b C M) (ht : takP b n) (hr : r < 9) : (adOk (fun j => b (4 + j)) ∧ b 9 = r → F_X12_look (nI r) M = lkB r M) ∧ (¬ (adOk (fun j => b (4 + j)) ∧ b 9 = r) → F_X12_look (nI r) M = some ((), M)) := by
  obtain ⟨t1, t2, t3⟩ := ht
  have e1 := (wholM h).1 ⟨t1, t3⟩
  have e2 := (toldM h t1).1 t2
  obtain ⟨h1, h2, h3, h4, h5, h6, h7, h8, h9, h10, h11, h12, h13, h14'⟩ := h
  have e3 := ndM (M := M) (p := 4) (b := fun j => b (4 + j)) (by decide) (fun j hj => h12 (4 + j) (by omega)) (fun j _ => h5 (4 + j))
  unfold F_X12_look lkB
  by_cases ha : adOk (fun j => b (4 + j))
  · have h9 : b 9 < 9 := ha.2.2.2.2.2
    by_cases hb : b 9 = r
    · refine ⟨fun _ => e_cl e1 (e_N (by decide) (e_cl e2 (e_N (by decide) (e_cl (e3.1 ha) (e_T ?_ rfl))))), fun z => absurd ⟨ha, hb⟩ z⟩
      show nI (b 9) = nI r
      rw [hb]
    · refine ⟨fun z => absurd z.2 hb, fun _ => e_cl e1 (e_N (by decide) (e_cl e2 (e_N (by decide) (e_cl (e3.1 ha) (e_N ?_ rfl)))))⟩
      show ¬ nI (b 9) = nI r
      rw [nI_eq (by omega) (by omega)]
      exact hb
  · refine ⟨fun z => absurd z.1 ha, fun _ => e_cl e1 (e_N (by decide) (e_cl e2 (e_N (by decide) (e_cl (e3.2 ha) (e_N ?_ rfl)))))⟩
    exact fun z => absurd z.symm (by rw [nI_m1 (by omega)]; exact id)
theorem ovL0 {s R n sd : Nat} {b : Nat → Nat} {C M : Mm} (h : NB s R n sd b C M) (hno : ¬ (takP b n ∧ adOk (fun j => b (4 + j)) ∧ ¬ b 9 = sd)) : L_X12_over_173 (nI sd) 1 fu 0 M = some ((), M) := by
  have h4 := h.2.2.2.1
  refine loop0 (fun m (q : Int32 × Mm) => L_X12_over_173 (nI sd) 1 m q.1 q.2) (fun j => (nI j, M)) 9 (by decide) (fun m r hr => ?_) (fun m => ?_)
  · dsimp only
    rw [L_X12_over_173]
    unfold L_X12_over_196
    rw [nI_1]
    refine e_N (by first | (simp (disch := first | omega | assumption) only [wrI_s, wrI_o, wrI_r, wrL_1, wrL_r, wrL_s, wrL_o, blk_in, blk_out, blk_r, lit, litL, b00, b11, nI_l, lN_add, lN_mul, lN_sub, nI_add, pk_mul, pk_sub, pk_div, remN, Nat.add_sub_cancel, Nat.add_sub_cancel_left, Nat.zero_add, Nat.add_zero, nI_eq, nI_leI, nI_ltI, nI_m1, m1_lt, neg_lt, neg_le, neg_ge, neg_gt, neg_eq, not_true, not_false_iff]; done) | (simp (disch := first | omega | assumption) only [wrI_s, wrI_o, wrI_r, wrL_1, wrL_r, wrL_s, wrL_o, blk_in, blk_out, blk_r, lit, litL, b00, b11, nI_l, lN_add, lN_mul, lN_sub, nI_add, pk_mul, pk_sub, pk_div, remN, Nat.add_sub_cancel, Nat.add_sub_cancel_left, Nat.zero_add, Nat.add_zero, nI_eq, nI_leI, nI_ltI, nI_m1, m1_lt, neg_lt, neg_le, neg_ge, neg_gt, neg_eq, not_true, not_false_iff]; omega)) (e_N (by decide) ?_)
    by_cases hs : r = sd
    · exact e_T (by rw [hs]) rfl
    · refine e_N (by rw [nI_eq (by omega) (by omega)]; exact hs) (e_cl (r := ()) ?_ rfl)
      by_cases ht : takP b n
      · exact (lookE h ht hr).2 (fun z => hno ⟨ht, z.1, by rw [z.2]; exact hs⟩)
      · exact lookN h ht
  · dsimp only
    rw [L_X12_over_173]
    exact e_T (by decide) rfl
theorem ovL1 {s R n sd a : Nat} {b : Nat → Nat} {C M C' M' : Mm} (h : NB s R n sd b C M) (h' : NB s R n sd b C' M') (ht : takP b n) (ha : adOk (fun j => b (4 + j))) (hba : b 9 = a) (hne : ¬ a = sd) (he : lkB a M = some ((), M')) : L_X12_over_173 (nI sd) 1 fu 0 M = some ((), M') := by
  have h4 := h.2.2.2.1
  have h9 : b 9 < 9 := ha.2.2.2.2.2
  refine loop0 (fun m (q : Int32 × Mm) => L_X12_over_173 (nI sd) 1 m q.1 q.2) (fun j => (nI j, if j ≤ a then M else M')) 9 (by decide) (fun m r hr => ?_) (fun m => ?_)
  · dsimp only
    rw [L_X12_over_173]
    unfold L_X12_over_196
    rw [nI_1]
    refine e_N (by first | (simp (disch := first | omega | assumption) only [wrI_s, wrI_o, wrI_r, wrL_1, wrL_r, wrL_s, wrL_o, blk_in, blk_out, blk_r, lit, litL, b00, b11, nI_l, lN_add, lN_mul, lN_sub, nI_add, pk_mul, pk_sub, pk_div, remN, Nat.add_sub_cancel, Nat.add_sub_cancel_left, Nat.zero_add, Nat.add_zero, nI_eq, nI_leI, nI_ltI, nI_m1, m1_lt, neg_lt, neg_le, neg_ge, neg_gt, neg_eq, not_true, not_false_iff]; done) | (simp (disch := first | omega | assumption) only [wrI_s, wrI_o, wrI_r, wrL_1, wrL_r, wrL_s, wrL_o, blk_in, blk_out, blk_r, lit, litL, b00, b11, nI_l, lN_add, lN_mul, lN_sub, nI_add, pk_mul, pk_sub, pk_div, remN, Nat.add_sub_cancel, Nat.add_sub_cancel_left, Nat.zero_add, Nat.add_zero, nI_eq, nI_leI, nI_ltI, nI_m1, m1_lt, neg_lt, neg_le, neg_ge, neg_gt, neg_eq, not_true, not_false_iff]; omega)) (e_N (by decide) ?_)
    by_cases hs : r = sd
    · refine e_T (by rw [hs]) ?_
      by_cases hra : r ≤ a
      · rw [if_pos hra, if_pos (by omega)]
      · rw [if_neg hra, if_neg (by omega)]
    · refine e_N (by rw [nI_eq (by omega) (by omega)]; exact hs) ?_
      by_cases hra : r = a
      · rw [if_pos (by omega), if_neg (by omega)]
        exact e_cl (((lookE h ht hr).1 ⟨ha, by omega⟩).trans (by rw [hra]; exact he)) rfl
      · by_cases hlt : r ≤ a
        · rw [if_pos hlt, if_pos (by omega)]
          exact e_cl ((lookE h ht hr).2 (fun z => by omega)) rfl
        · rw [if_neg hlt, if_neg (by omega)]
          exact e_cl ((lookE h' ht hr).2 (fun z => by omega)) rfl
  · dsimp only
    rw [L_X12_over_173, if_neg (show ¬ 9 ≤ a by omega)]
    exact e_T (by decide) rfl
/-! six bytes as a number -/
def nmF (b : Nat → Nat) : Nat → Nat
  | 0 => 0
  | n + 1 => 256 * nmF b n + b n
theorem nmF_lt {b : Nat → Nat} (hb : ∀ j, b j < 256) : ∀ n, nmF b n < 256 ^ n := by
  intro n
  induction n with
  | zero => exact Nat.one_pos
  | succ n ih =>
    show 256 * nmF b n + b n < 256 ^ (n + 1)
    rw [Nat.pow_succ]
    have := hb n
    omega
theorem shlor {x y : Nat} (hx : x < 2 ^ 50) (hy : y < 256) : (lN x <<< (Int32.toInt64 8 &&& 63)) ||| (nI y).toInt64 = lN (256 * x + y) := by
  have e1 : (nI y).toInt64 = lN y := nI_l (by omega)
  rw [e1]
  refine Int64.toBitVec_inj.mp (BitVec.eq_of_toNat_eq ?_)
  rw [Int64.toBitVec_or, Int64.toBitVec_shiftLeft, BitVec.toNat_or]
  have e2 : (Int32.toInt64 8 &&& 63).toBitVec.smod 64 = 8#64 := by decide
  rw [e2]
  have t : ∀ z, z < 2 ^ 63 → (lN z).toBitVec.toNat = z := fun z hz => by
    show (BitVec.ofNat 64 z).toNat = z
    rw [BitVec.toNat_ofNat]
    omega
  have e3 : ((lN x).toBitVec <<< 8#64).toNat = x <<< 8 := by
    rw [BitVec.shiftLeft_eq', BitVec.toNat_shiftLeft, t x (by omega)]
    show x <<< 8 % 2 ^ 64 = x <<< 8
    rw [Nat.shiftLeft_eq]
    omega
  rw [e3, t y (by omega), t (256 * x + y) (by omega), ← Nat.shiftLeft_add_eq_or_of_lt (show y < 2 ^ 8 from hy), Nat.shiftLeft_eq]
  omega
theorem nm6 {b : Nat → Nat} (hb : ∀ j, b j < 256) : ∀ j, j < 6 → btL (lN (nmF b 6)) (5 - j) = nI (b j) := by
  intro j hj
  have h0 := hb 0
  have h1 := hb 1
  have h2 := hb 2
  have h3 := hb 3
  have h4 := hb 4
  have h5 := hb 5
  have hlt := nmF_lt hb 6
  have t : (lN (nmF b 6)).toBitVec.toNat = nmF b 6 := by
    show (BitVec.ofNat 64 (nmF b 6)).toNat = _
    rw [BitVec.toNat_ofNat]
    omega
  unfold btL
  rw [t]
  have e : nmF b 6 = 256 * (256 * (256 * (256 * (256 * (256 * 0 + b 0) + b 1) + b 2) + b 3) + b 4) + b 5 := rfl
  rw [e]
  have hj' : j = 0 ∨ j = 1 ∨ j = 2 ∨ j = 3 ∨ j = 4 ∨ j = 5 := by omega
  rcases hj' with h | h | h | h | h | h
  · subst h; congr 1; show _ / 1099511627776 % 256 = _; omega
  · subst h; congr 1; show _ / 4294967296 % 256 = _; omega
  · subst h; congr 1; show _ / 16777216 % 256 = _; omega
  · subst h; congr 1; show _ / 65536 % 256 = _; omega
  · subst h; congr 1; show _ / 256 % 256 = _; omega
  · subst h; congr 1; show _ / 1 % 256 = _; omega
/-! an ACK is due -/
def dueC (C : Mm) (a s : Nat) (b : Nat → Nat) : Mm := blk (wrI (wrI C 94 a 0 (nI (s + 2))) 95 a 0 (nI 1)) 39 a 0 6 (fun k => nI (b (10 + k)))
def dueM (M : Mm) (a s : Nat) (b : Nat → Nat) : Mm := wrL (wrI (wrI M 257 0 a (nI 1)) 258 0 a (nI (s + 2))) 259 0 a (lN (nmF (fun j => b (10 + j)) 6))
abbrev duC : List Nat := [39, 94, 95]
abbrev duM : List Nat := [257, 258, 259]
theorem dueT {s w e t a : Nat} {b : Nat → Nat} {C M : Mm} (h : TT (s + 1) w e t C M) (ha : a < 9) (hb : ∀ j, b j < 256) : TT (s + 1) w e t (dueC C a s b) (dueM M a s b) ∧ fq duC C (dueC C a s b) ∧ fq duM M (dueM M a s b) := by
  have fC : fq duC C (dueC C a s b) := by unfold dueC; repeat (first | exact fq.rf | (refine fq.tr ?_ (fq.wr (by decide))) | (refine fq.tr ?_ (fq.bk (by decide))) | (refine fq.tr ?_ (fq.wl (by decide))) | (refine fq.tr ?_ (fq.wR (by decide))))
  have gM : fq duM M (dueM M a s b) := by unfold dueM; repeat (first | exact fq.rf | (refine fq.tr ?_ (fq.wr (by decide))) | (refine fq.tr ?_ (fq.bk (by decide))) | (refine fq.tr ?_ (fq.wl (by decide))) | (refine fq.tr ?_ (fq.wR (by decide))))
  obtain ⟨hIDraw, hIPar, hISub, hIKey, hIRef, hISta, hILnk, hIBeg, hIQue, hIHnd, hICon, hIDue, hIWai, hISnd, hILat, hIInb⟩ := h
  refine ⟨?_, fC, gM⟩
  have key : ∀ C' M', fq duC C C' → fq duM M M' → IDue (s + 1) C' M' → TT (s + 1) w e t C' M' := fun C' M' fC gM tIDue => ⟨hIDraw.fr fC gM (by decide) (by decide), hIPar.fr fC gM (by decide) (by decide), hISub.fr fC gM (by decide) (by decide), hIKey.fr fC gM (by decide) (by decide), hIRef.fr fC gM (by decide) (by decide), hISta.fr fC gM (by decide) (by decide), hILnk.fr fC gM (by decide) (by decide), hIBeg.fr fC gM (by decide) (by decide), hIQue.fr fC gM (by decide) (by decide), hIHnd.fr fC gM (by decide) (by decide), hICon.fr fC gM (by decide) (by decide), tIDue, hIWai.fr fC gM (by decide) (by decide), hISnd.z fC gM (by decide) (by decide), hILat.fr fC gM (by decide) (by decide), hIInb.fr fC gM (by decide) (by decide)⟩
  refine key _ _ fC gM ?_
  intro j hj
  obtain ⟨y1, y2⟩ := hIDue j hj
  rw [fC.1 103 (nc (by decide)), gM.1 254 (nc (by decide)), gM.1 255 (nc (by decide))]
  unfold dueC dueM
  by_cases hja : j = a
  · rw [hja]
    refine ⟨fun i hi => ?_, Or.inr ⟨s + 2, by omega, by omega, (by first | (simp (disch := first | omega | assumption) only [wrI_s, wrI_o, wrI_r, wrL_1, wrL_r, wrL_s, wrL_o, blk_in, blk_out, blk_r, lit, litL, b00, b11, nI_l, lN_add, lN_mul, lN_sub, nI_add, pk_mul, pk_sub, pk_div, remN, Nat.add_sub_cancel, Nat.add_sub_cancel_left, Nat.zero_add, Nat.add_zero]; done) | (simp (disch := first | omega | assumption) only [wrI_s, wrI_o, wrI_r, wrL_1, wrL_r, wrL_s, wrL_o, blk_in, blk_out, blk_r, lit, litL, b00, b11, nI_l, lN_add, lN_mul, lN_sub, nI_add, pk_mul, pk_sub, pk_div, remN, Nat.add_sub_cancel, Nat.add_sub_cancel_left, Nat.zero_add, Nat.add_zero]; rfl) | rfl), ?_, hISnd.n ha, Or.inl ⟨(by first | (simp (disch := first | omega | assumption) only [wrI_s, wrI_o, wrI_r, wrL_1, wrL_r, wrL_s, wrL_o, blk_in, blk_out, blk_r, lit, litL, b00, b11, nI_l, lN_add, lN_mul, lN_sub, nI_add, pk_mul, pk_sub, pk_div, remN, Nat.add_sub_cancel, Nat.add_sub_cancel_left, Nat.zero_add, Nat.add_zero]; done) | (simp (disch := first | omega | assumption) only [wrI_s, wrI_o, wrI_r, wrL_1, wrL_r, wrL_s, wrL_o, blk_in, blk_out, blk_r, lit, litL, b00, b11, nI_l, lN_add, lN_mul, lN_sub, nI_add, pk_mul, pk_sub, pk_div, remN, Nat.add_sub_cancel, Nat.add_sub_cancel_left, Nat.zero_add, Nat.add_zero]; rfl) | rfl), ?_⟩⟩⟩
    · rw [blk_in (by omega) (by omega), Nat.sub_zero]
      show _ = btL ((wrL (wrI (wrI M 257 0 a (nI 1)) 258 0 a (nI (s + 2))) 259 0 a (lN (nmF (fun j => b (10 + j)) 6))).2.1 259 0 a) (5 - i)
      have e : (wrL (wrI (wrI M 257 0 a (nI 1)) 258 0 a (nI (s + 2))) 259 0 a (lN (nmF (fun j => b (10 + j)) 6))).2.1 259 0 a = lN (nmF (fun j => b (10 + j)) 6) := if_pos ⟨rfl, rfl, rfl⟩
      rw [e, nm6 (b := fun j => b (10 + j)) (fun j => hb _) i hi]
    · show (wrI (wrI M 257 0 a (nI 1)) 258 0 a (nI (s + 2))).1 258 0 a = _
      exact wrI_s
    · show (wrI (wrI M 257 0 a (nI 1)) 258 0 a (nI (s + 2))).1 257 0 a = _
      rw [wrI_ne (by decide), wrI_s]
  · have e59 : (wrL (wrI (wrI M 257 0 a (nI 1)) 258 0 a (nI (s + 2))) 259 0 a (lN (nmF (fun j => b (10 + j)) 6))).2.1 259 0 j = M.2.1 259 0 j := if_neg (by omega)
    have e57 : (wrL (wrI (wrI M 257 0 a (nI 1)) 258 0 a (nI (s + 2))) 259 0 a (lN (nmF (fun j => b (10 + j)) 6))).1 257 0 j = M.1 257 0 j := by
      show (wrI (wrI M 257 0 a (nI 1)) 258 0 a (nI (s + 2))).1 257 0 j = _
      rw [wrI_ne (by decide), wrI_o (by omega)]
    have e58 : (wrL (wrI (wrI M 257 0 a (nI 1)) 258 0 a (nI (s + 2))) 259 0 a (lN (nmF (fun j => b (10 + j)) 6))).1 258 0 j = M.1 258 0 j := by
      show (wrI (wrI M 257 0 a (nI 1)) 258 0 a (nI (s + 2))).1 258 0 j = _
      rw [wrI_o (by omega), wrI_ne (by decide)]
    rw [e59, e57, e58]
    refine ⟨fun i hi => ?_, ?_⟩
    · rw [blk_out (by omega), wrI_ne (by decide), wrI_ne (by decide)]
      exact y1 i hi
    · rw [blk_ne (by decide), blk_ne (by decide)]
      simp (disch := omega) only [wrI_o]
      exact y2
theorem lk66 {s R n sd a : Nat} {b : Nat → Nat} {C M : Mm} (h : NB s R n sd b C M) (h28 : 28 ≤ n) (ha : a < 9) : ∃ m, L_X12_look_66 (nI a) fu 0 0 (wrI (wrI M 257 0 a (nI 1)) 258 0 a (nI (s + 2))) = L_X12_look_66 (nI a) (m + 1) (lN (nmF (fun j => b (10 + j)) 6)) (nI 6) (wrI (wrI M 257 0 a (nI 1)) 258 0 a (nI (s + 2))) := by
  obtain ⟨h1, h2, h3, h4, h5, h6, h7, h8, h9, h10, h11, h12, h13, h14'⟩ := h
  obtain ⟨m, hm⟩ := fu_n (N := 6) (by decide)
  refine ⟨m, ?_⟩
  have stp : ∀ i q, i < 6 → L_X12_look_66 (nI a) (q + 1) (lN (nmF (fun j => b (10 + j)) i)) (nI i) (wrI (wrI M 257 0 a (nI 1)) 258 0 a (nI (s + 2))) = L_X12_look_66 (nI a) q (lN (nmF (fun j => b (10 + j)) (i + 1))) (nI (i + 1)) (wrI (wrI M 257 0 a (nI 1)) 258 0 a (nI (s + 2))) := by
    intro i q hi
    rw [L_X12_look_66]
    have hlt := nmF_lt (b := fun j => b (10 + j)) (fun j => h5 _) i
    have hp : 256 ^ i ≤ 256 ^ 5 := Nat.pow_le_pow_right (by decide) (by omega)
    refine e_N (by first | (simp (disch := first | omega | assumption) only [wrI_s, wrI_o, wrI_r, wrL_1, wrL_r, wrL_s, wrL_o, blk_in, blk_out, blk_r, lit, litL, b00, b11, nI_l, lN_add, lN_mul, lN_sub, nI_add, pk_mul, pk_sub, pk_div, remN, Nat.add_sub_cancel, Nat.add_sub_cancel_left, Nat.zero_add, Nat.add_zero, nI_eq, nI_leI, nI_ltI, nI_m1, m1_lt, neg_lt, neg_le, neg_ge, neg_gt, neg_eq, not_true, not_false_iff]; done) | (simp (disch := first | omega | assumption) only [wrI_s, wrI_o, wrI_r, wrL_1, wrL_r, wrL_s, wrL_o, blk_in, blk_out, blk_r, lit, litL, b00, b11, nI_l, lN_add, lN_mul, lN_sub, nI_add, pk_mul, pk_sub, pk_div, remN, Nat.add_sub_cancel, Nat.add_sub_cancel_left, Nat.zero_add, Nat.add_zero, nI_eq, nI_leI, nI_ltI, nI_m1, m1_lt, neg_lt, neg_le, neg_ge, neg_gt, neg_eq, not_true, not_false_iff]; omega)) (e_ldA (j := 10 + i) (v := nI (b (10 + i))) (by first | (simp (disch := first | omega | assumption) only [wrI_s, wrI_o, wrI_r, wrL_1, wrL_r, wrL_s, wrL_o, blk_in, blk_out, blk_r, lit, litL, b00, b11, nI_l, lN_add, lN_mul, lN_sub, nI_add, pk_mul, pk_sub, pk_div, remN, Nat.add_sub_cancel, Nat.add_sub_cancel_left, Nat.zero_add, Nat.add_zero]; done) | (simp (disch := first | omega | assumption) only [wrI_s, wrI_o, wrI_r, wrL_1, wrL_r, wrL_s, wrL_o, blk_in, blk_out, blk_r, lit, litL, b00, b11, nI_l, lN_add, lN_mul, lN_sub, nI_add, pk_mul, pk_sub, pk_div, remN, Nat.add_sub_cancel, Nat.add_sub_cancel_left, Nat.zero_add, Nat.add_zero]; rfl) | rfl) (by omega) (by decide) (by decide) (by rw [wrI_ne (by decide), wrI_ne (by decide)]; exact h12 _ (by omega)) (e_tp (w := lN (nmF (fun j => b (10 + j)) (i + 1))) (shlor (by omega) (h5 _)) ?_))
    rw [nI_1]
  have e0 : L_X12_look_66 (nI a) fu 0 0 (wrI (wrI M 257 0 a (nI 1)) 258 0 a (nI (s + 2))) = L_X12_look_66 (nI a) (m + 1 + 1 + 1 + 1 + 1 + 1 + 1) (lN (nmF (fun j => b (10 + j)) 0)) (nI 0) (wrI (wrI M 257 0 a (nI 1)) 258 0 a (nI (s + 2))) := by
    rw [hm]
    rfl
  rw [e0, stp 0 _ (by decide), stp 1 _ (by decide), stp 2 _ (by decide), stp 3 _ (by decide), stp 4 _ (by decide), stp 5 _ (by decide)]
