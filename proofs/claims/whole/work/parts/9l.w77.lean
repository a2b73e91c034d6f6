/-! IN A QUIET SLOT the class counts it before its end: what it does afterwards has no eye for that number -/
def W7 (v : Int32) (S : Mm) : Mm := wrI S 77 0 0 v
def Fr7 {α : Type} (F : Mm → Option (α × Mm)) : Prop := ∀ S v, F (W7 v S) = (F S).map (fun q => (q.1, W7 v q.2))
theorem W7_1 {v : Int32} {S : Mm} {c i j : Nat} (h : ¬ c = 77) : (W7 v S).1 c i j = S.1 c i j := by
  unfold W7
  rw [wrI_ne h]
theorem W7_w {v w : Int32} {S : Mm} {c i j : Nat} (h : ¬ c = 77) : wrI (W7 v S) c i j w = W7 v (wrI S c i j w) := by
  unfold W7
  exact wrI_cm (by omega)
section
variable {α β : Type}
theorem Fr7.ret {r : α} : Fr7 (fun S => some (r, S)) := fun _ _ => rfl
theorem Fr7.agf {f i : Nat} {K : Int32 → Mm → Option (α × Mm)} (hf : ¬ f = 77) (h : ∀ x, Fr7 (K x)) : Fr7 (fun S => gf S f i fun x => K x S) := by
  intro S v
  unfold gf
  dsimp only
  rw [W7_1 hf]
  exact h _ S v
theorem Fr7.apf {f i : Nat} {w : Int32} {K : Mm → Option (α × Mm)} (hf : ¬ f = 77) (h : Fr7 K) : Fr7 (fun S => pf S f i w fun S' => K S') := by
  intro S v
  unfold pf
  dsimp only
  rw [W7_w hf]
  exact h _ v
theorem Fr7.atp {γ : Type} {w : γ} {K : γ → Mm → Option (α × Mm)} (h : ∀ x, Fr7 (K x)) : Fr7 (fun S => tp w fun x => K x S) := fun S v => h w S v
theorem Fr7.aite {c : Prop} [Decidable c] {A B : Mm → Option (α × Mm)} (h1 : Fr7 A) (h2 : Fr7 B) : Fr7 (fun S => if c then A S else B S) := by
  intro S v
  by_cases hc : c
  · dsimp only
    rw [if_pos hc, if_pos hc]
    exact h1 S v
  · dsimp only
    rw [if_neg hc, if_neg hc]
    exact h2 S v
theorem Fr7.agd {c : Prop} [Decidable c] {A : Mm → Option (α × Mm)} (h1 : Fr7 A) : Fr7 (fun S => gd c (A S)) := by
  intro S v
  unfold gd
  by_cases hc : c
  · dsimp only
    rw [if_pos hc, if_pos hc]
    exact h1 S v
  · dsimp only
    rw [if_neg hc, if_neg hc]
    rfl
theorem Fr7.acl {F : Mm → Option (β × Mm)} {K : β → Mm → Option (α × Mm)} (hF : Fr7 F) (h : ∀ r, Fr7 (K r)) : Fr7 (fun S => cl (F S) fun r S' => K r S') := by
  intro S v
  dsimp only
  rw [hF S v]
  cases F S with
  | none => rfl
  | some q => exact h q.1 q.2 v
theorem Fr7.aldA {c i n m : Nat} {ix : Int32} {K : Int32 → Mm → Option (α × Mm)} (hf : ¬ c = 77) (h : ∀ x, Fr7 (K x)) : Fr7 (fun S => ldA S c i n m ix fun x => K x S) := by
  intro S v
  unfold ldA
  dsimp only
  rw [W7_1 hf]
  split
  · exact h _ S v
  · rfl
theorem Fr7.aldP {b : Bool} {c i : Nat} {ix : Int32} {K : Int32 → Mm → Option (α × Mm)} (hf : ¬ c = 77) (h : ∀ x, Fr7 (K x)) : Fr7 (fun S => ldP b S c i ix fun x => K x S) := by
  intro S v
  have e : ∀ j, rdI (W7 v S) c i j = rdI S c i j := fun j => by
    unfold rdI
    rw [W7_1 hf]
  unfold ldP
  dsimp only
  rw [e]
  split
  · exact h _ S v
  · rfl
theorem Fr7.astA {c i n m : Nat} {ix w : Int32} {K : Mm → Option (α × Mm)} (hf : ¬ c = 77) (h : Fr7 K) : Fr7 (fun S => stA S c i n m ix w fun S' => K S') := by
  intro S v
  unfold stA
  dsimp only
  rw [W7_w hf]
  split
  · exact h _ v
  · rfl
theorem Fr7.astP {b : Bool} {c i : Nat} {ix w : Int32} {K : Mm → Option (α × Mm)} (hf : ¬ c = 77) (h : Fr7 K) : Fr7 (fun S => stP b S c i ix w fun S' => K S') := by
  intro S v
  unfold stP
  dsimp only
  rw [W7_w hf]
  split
  · exact h _ v
  · rfl
theorem Fr7.aldR {c i n m mt : Nat} {ix : Int32} {K : Nat → Mm → Option (α × Mm)} (h : ∀ x, Fr7 (K x)) : Fr7 (fun S => ldR S c i n m ix mt fun x => K x S) := by
  intro S v
  unfold ldR
  dsimp only
  show (if (Nat.blt i m && inb ix n) && Nat.blt (S.2.2 c i ix.toNatClampNeg) mt then K (S.2.2 c i ix.toNatClampNeg) (W7 v S) else none) = _
  split
  · exact h _ S v
  · rfl
theorem Fr7.ann {r : Option Nat} {mt : Nat} {K : Nat → Mm → Option (α × Mm)} (h : ∀ x, Fr7 (K x)) : Fr7 (fun S => nn r mt fun x => K x S) := by
  intro S v
  unfold nn
  cases r with
  | none => rfl
  | some q =>
    dsimp only
    split
    · exact h _ S v
    · rfl
end
theorem w_first {k : Nat} : Fr7 (fun S => F_X9_first k S) := by
  unfold F_X9_first
  repeat (first | assumption | (with_reducible exact Fr7.ret) | (with_reducible refine Fr7.agf (by first | decide | assumption) (fun _ => ?_)) | (with_reducible refine Fr7.apf (by first | decide | assumption) ?_) | (with_reducible refine Fr7.atp (fun _ => ?_)) | (with_reducible refine Fr7.aite ?_ ?_) | (with_reducible refine Fr7.agd ?_) | (with_reducible refine Fr7.acl ?_ (fun _ => ?_)) | (with_reducible refine Fr7.aldA (by first | decide | assumption) (fun _ => ?_)) | (with_reducible refine Fr7.aldP (by first | decide | assumption) (fun _ => ?_)) | (with_reducible refine Fr7.astA (by first | decide | assumption) ?_) | (with_reducible refine Fr7.astP (by first | decide | assumption) ?_) | (with_reducible refine Fr7.aldR (fun _ => ?_)) | (with_reducible refine Fr7.ann (fun _ => ?_)))
theorem w_remf {k : Nat} : Fr7 (fun S => F_X9_removeFirst k S) := by
  unfold F_X9_removeFirst
  repeat (first | assumption | (with_reducible exact Fr7.ret) | (with_reducible refine Fr7.agf (by first | decide | assumption) (fun _ => ?_)) | (with_reducible refine Fr7.apf (by first | decide | assumption) ?_) | (with_reducible refine Fr7.atp (fun _ => ?_)) | (with_reducible refine Fr7.aite ?_ ?_) | (with_reducible refine Fr7.agd ?_) | (with_reducible refine Fr7.acl ?_ (fun _ => ?_)) | (with_reducible refine Fr7.aldA (by first | decide | assumption) (fun _ => ?_)) | (with_reducible refine Fr7.aldP (by first | decide | assumption) (fun _ => ?_)) | (with_reducible refine Fr7.astA (by first | decide | assumption) ?_) | (with_reducible refine Fr7.astP (by first | decide | assumption) ?_) | (with_reducible refine Fr7.aldR (fun _ => ?_)) | (with_reducible refine Fr7.ann (fun _ => ?_)))
theorem w_takf : Fr7 (fun S => F_X1_takeFirst S) := by
  unfold F_X1_takeFirst
  repeat (first | assumption | (with_reducible exact Fr7.ret) | (with_reducible refine Fr7.agf (by first | decide | assumption) (fun _ => ?_)) | (with_reducible refine Fr7.apf (by first | decide | assumption) ?_) | (with_reducible refine Fr7.atp (fun _ => ?_)) | (with_reducible refine Fr7.aite ?_ ?_) | (with_reducible refine Fr7.agd ?_) | (with_reducible refine Fr7.acl ?_ (fun _ => ?_)) | (with_reducible refine Fr7.aldA (by first | decide | assumption) (fun _ => ?_)) | (with_reducible refine Fr7.aldP (by first | decide | assumption) (fun _ => ?_)) | (with_reducible refine Fr7.astA (by first | decide | assumption) ?_) | (with_reducible refine Fr7.astP (by first | decide | assumption) ?_) | (with_reducible refine Fr7.aldR (fun _ => ?_)) | (with_reducible refine Fr7.ann (fun _ => ?_)))
theorem w_fin26 {k : Nat} : Fr7 (fun S => L_X11_finishFirst_26 k S) := by
  unfold L_X11_finishFirst_26
  repeat (first | assumption | (with_reducible exact Fr7.ret) | (with_reducible refine Fr7.agf (by first | decide | assumption) (fun _ => ?_)) | (with_reducible refine Fr7.apf (by first | decide | assumption) ?_) | (with_reducible refine Fr7.atp (fun _ => ?_)) | (with_reducible refine Fr7.aite ?_ ?_) | (with_reducible refine Fr7.agd ?_) | (with_reducible refine Fr7.acl ?_ (fun _ => ?_)) | (with_reducible refine Fr7.aldA (by first | decide | assumption) (fun _ => ?_)) | (with_reducible refine Fr7.aldP (by first | decide | assumption) (fun _ => ?_)) | (with_reducible refine Fr7.astA (by first | decide | assumption) ?_) | (with_reducible refine Fr7.astP (by first | decide | assumption) ?_) | (with_reducible refine Fr7.aldR (fun _ => ?_)) | (with_reducible refine Fr7.ann (fun _ => ?_)) | (exact w_remf) | (exact w_takf))
theorem w_fin {k : Nat} {how : Int32} : Fr7 (fun S => F_X11_finishFirst k how S) := by
  unfold F_X11_finishFirst
  repeat (first | assumption | (with_reducible exact Fr7.ret) | (with_reducible refine Fr7.agf (by first | decide | assumption) (fun _ => ?_)) | (with_reducible refine Fr7.apf (by first | decide | assumption) ?_) | (with_reducible refine Fr7.atp (fun _ => ?_)) | (with_reducible refine Fr7.aite ?_ ?_) | (with_reducible refine Fr7.agd ?_) | (with_reducible refine Fr7.acl ?_ (fun _ => ?_)) | (with_reducible refine Fr7.aldA (by first | decide | assumption) (fun _ => ?_)) | (with_reducible refine Fr7.aldP (by first | decide | assumption) (fun _ => ?_)) | (with_reducible refine Fr7.astA (by first | decide | assumption) ?_) | (with_reducible refine Fr7.astP (by first | decide | assumption) ?_) | (with_reducible refine Fr7.aldR (fun _ => ?_)) | (with_reducible refine Fr7.ann (fun _ => ?_)) | (exact w_first) | (exact w_fin26))
theorem w_crc4 {c i : Nat} {v1 : Int32} (hc : ¬ c = 77) : ∀ n v2 v3, Fr7 (fun S => L_X2_crcOf_4 c i v1 n v2 v3 S) := by
  intro n
  induction n with
  | zero => exact fun _ _ _ _ => rfl
  | succ n ih =>
    intro v2 v3
    simp only [L_X2_crcOf_4]
    repeat (first | assumption | (with_reducible exact Fr7.ret) | (with_reducible refine Fr7.agf (by first | decide | assumption) (fun _ => ?_)) | (with_reducible refine Fr7.apf (by first | decide | assumption) ?_) | (with_reducible refine Fr7.atp (fun _ => ?_)) | (with_reducible refine Fr7.aite ?_ ?_) | (with_reducible refine Fr7.agd ?_) | (with_reducible refine Fr7.acl ?_ (fun _ => ?_)) | (with_reducible refine Fr7.aldA (by first | decide | assumption) (fun _ => ?_)) | (with_reducible refine Fr7.aldP (by first | decide | assumption) (fun _ => ?_)) | (with_reducible refine Fr7.astA (by first | decide | assumption) ?_) | (with_reducible refine Fr7.astP (by first | decide | assumption) ?_) | (with_reducible refine Fr7.aldR (fun _ => ?_)) | (with_reducible refine Fr7.ann (fun _ => ?_)) | (exact ih _ _))
theorem w_fcs8 {c i : Nat} {v1 v2 : Int32} (hc : ¬ c = 77) : ∀ n v3, Fr7 (fun S => L_X2_writeFcs_8 c i v1 v2 n v3 S) := by
  intro n
  induction n with
  | zero => exact fun _ _ _ => rfl
  | succ n ih =>
    intro v3
    simp only [L_X2_writeFcs_8]
    repeat (first | assumption | (with_reducible exact Fr7.ret) | (with_reducible refine Fr7.agf (by first | decide | assumption) (fun _ => ?_)) | (with_reducible refine Fr7.apf (by first | decide | assumption) ?_) | (with_reducible refine Fr7.atp (fun _ => ?_)) | (with_reducible refine Fr7.aite ?_ ?_) | (with_reducible refine Fr7.agd ?_) | (with_reducible refine Fr7.acl ?_ (fun _ => ?_)) | (with_reducible refine Fr7.aldA (by first | decide | assumption) (fun _ => ?_)) | (with_reducible refine Fr7.aldP (by first | decide | assumption) (fun _ => ?_)) | (with_reducible refine Fr7.astA (by first | decide | assumption) ?_) | (with_reducible refine Fr7.astP (by first | decide | assumption) ?_) | (with_reducible refine Fr7.aldR (fun _ => ?_)) | (with_reducible refine Fr7.ann (fun _ => ?_)) | (exact ih _))
theorem w_fcs {c i : Nat} {v1 : Int32} (hc : ¬ c = 77) : Fr7 (fun S => F_X2_writeFcs c i v1 S) := by
  unfold F_X2_writeFcs F_X2_crcOf
  repeat (first | assumption | (with_reducible exact Fr7.ret) | (with_reducible refine Fr7.agf (by first | decide | assumption) (fun _ => ?_)) | (with_reducible refine Fr7.apf (by first | decide | assumption) ?_) | (with_reducible refine Fr7.atp (fun _ => ?_)) | (with_reducible refine Fr7.aite ?_ ?_) | (with_reducible refine Fr7.agd ?_) | (with_reducible refine Fr7.acl ?_ (fun _ => ?_)) | (with_reducible refine Fr7.aldA (by first | decide | assumption) (fun _ => ?_)) | (with_reducible refine Fr7.aldP (by first | decide | assumption) (fun _ => ?_)) | (with_reducible refine Fr7.astA (by first | decide | assumption) ?_) | (with_reducible refine Fr7.astP (by first | decide | assumption) ?_) | (with_reducible refine Fr7.aldR (fun _ => ?_)) | (with_reducible refine Fr7.ann (fun _ => ?_)) | (exact w_crc4 hc _ _ _) | (exact w_fcs8 hc _ _))
theorem w_fail {k : Nat} : Fr7 (fun S => F_X11_fail k S) := by
  unfold F_X11_fail
  repeat (first | assumption | (with_reducible exact Fr7.ret) | (with_reducible refine Fr7.agf (by first | decide | assumption) (fun _ => ?_)) | (with_reducible refine Fr7.apf (by first | decide | assumption) ?_) | (with_reducible refine Fr7.atp (fun _ => ?_)) | (with_reducible refine Fr7.aite ?_ ?_) | (with_reducible refine Fr7.agd ?_) | (with_reducible refine Fr7.acl ?_ (fun _ => ?_)) | (with_reducible refine Fr7.aldA (by first | decide | assumption) (fun _ => ?_)) | (with_reducible refine Fr7.aldP (by first | decide | assumption) (fun _ => ?_)) | (with_reducible refine Fr7.astA (by first | decide | assumption) ?_) | (with_reducible refine Fr7.astP (by first | decide | assumption) ?_) | (with_reducible refine Fr7.aldR (fun _ => ?_)) | (with_reducible refine Fr7.ann (fun _ => ?_)) | (exact w_takf) | (exact w_fcs (by decide)) | (exact w_fin))
theorem w_fw2 : ∀ n v, Fr7 (fun S => L_X11_failWaiters_2 n v S) := by
  intro n
  induction n with
  | zero => exact fun _ _ _ => rfl
  | succ n ih =>
    intro v
    simp only [L_X11_failWaiters_2, L_X11_failWaiters_49]
    repeat (first | assumption | (with_reducible exact Fr7.ret) | (with_reducible refine Fr7.agf (by first | decide | assumption) (fun _ => ?_)) | (with_reducible refine Fr7.apf (by first | decide | assumption) ?_) | (with_reducible refine Fr7.atp (fun _ => ?_)) | (with_reducible refine Fr7.aite ?_ ?_) | (with_reducible refine Fr7.agd ?_) | (with_reducible refine Fr7.acl ?_ (fun _ => ?_)) | (with_reducible refine Fr7.aldA (by first | decide | assumption) (fun _ => ?_)) | (with_reducible refine Fr7.aldP (by first | decide | assumption) (fun _ => ?_)) | (with_reducible refine Fr7.astA (by first | decide | assumption) ?_) | (with_reducible refine Fr7.astP (by first | decide | assumption) ?_) | (with_reducible refine Fr7.aldR (fun _ => ?_)) | (with_reducible refine Fr7.ann (fun _ => ?_)) | (exact ih _) | (exact w_fail))
theorem w_fw : Fr7 (fun S => F_X11_failWaiters S) := by
  unfold F_X11_failWaiters
  exact w_fw2 _ _
theorem w_con {k : Nat} {v : Int32} : Fr7 (fun S => F_X7_contends k v S) := by
  unfold F_X7_contends L_X7_contends_38
  repeat (first | assumption | (with_reducible exact Fr7.ret) | (with_reducible refine Fr7.agf (by first | decide | assumption) (fun _ => ?_)) | (with_reducible refine Fr7.apf (by first | decide | assumption) ?_) | (with_reducible refine Fr7.atp (fun _ => ?_)) | (with_reducible refine Fr7.aite ?_ ?_) | (with_reducible refine Fr7.agd ?_) | (with_reducible refine Fr7.acl ?_ (fun _ => ?_)) | (with_reducible refine Fr7.aldA (by first | decide | assumption) (fun _ => ?_)) | (with_reducible refine Fr7.aldP (by first | decide | assumption) (fun _ => ?_)) | (with_reducible refine Fr7.astA (by first | decide | assumption) ?_) | (with_reducible refine Fr7.astP (by first | decide | assumption) ?_) | (with_reducible refine Fr7.aldR (fun _ => ?_)) | (with_reducible refine Fr7.ann (fun _ => ?_)))
theorem w_cd13 : ∀ n v, Fr7 (fun S => L_X11_countDown_13 n v S) := by
  intro n
  induction n with
  | zero => exact fun _ _ _ => rfl
  | succ n ih =>
    intro v
    simp only [L_X11_countDown_13, L_X11_countDown_65]
    repeat (first | assumption | (with_reducible exact Fr7.ret) | (with_reducible refine Fr7.agf (by first | decide | assumption) (fun _ => ?_)) | (with_reducible refine Fr7.apf (by first | decide | assumption) ?_) | (with_reducible refine Fr7.atp (fun _ => ?_)) | (with_reducible refine Fr7.aite ?_ ?_) | (with_reducible refine Fr7.agd ?_) | (with_reducible refine Fr7.acl ?_ (fun _ => ?_)) | (with_reducible refine Fr7.aldA (by first | decide | assumption) (fun _ => ?_)) | (with_reducible refine Fr7.aldP (by first | decide | assumption) (fun _ => ?_)) | (with_reducible refine Fr7.astA (by first | decide | assumption) ?_) | (with_reducible refine Fr7.astP (by first | decide | assumption) ?_) | (with_reducible refine Fr7.aldR (fun _ => ?_)) | (with_reducible refine Fr7.ann (fun _ => ?_)) | (exact ih _) | (exact w_con))
theorem w_qs : Fr7 (fun S => F_X5_isQuietSince S) := by
  unfold F_X5_isQuietSince
  repeat (first | assumption | (with_reducible exact Fr7.ret) | (with_reducible refine Fr7.agf (by first | decide | assumption) (fun _ => ?_)) | (with_reducible refine Fr7.apf (by first | decide | assumption) ?_) | (with_reducible refine Fr7.atp (fun _ => ?_)) | (with_reducible refine Fr7.aite ?_ ?_) | (with_reducible refine Fr7.agd ?_) | (with_reducible refine Fr7.acl ?_ (fun _ => ?_)) | (with_reducible refine Fr7.aldA (by first | decide | assumption) (fun _ => ?_)) | (with_reducible refine Fr7.aldP (by first | decide | assumption) (fun _ => ?_)) | (with_reducible refine Fr7.astA (by first | decide | assumption) ?_) | (with_reducible refine Fr7.astP (by first | decide | assumption) ?_) | (with_reducible refine Fr7.aldR (fun _ => ?_)) | (with_reducible refine Fr7.ann (fun _ => ?_)))
theorem w_cd : Fr7 (fun S => F_X11_countDown S) := by
  unfold F_X11_countDown
  repeat (first | assumption | (with_reducible exact Fr7.ret) | (with_reducible refine Fr7.agf (by first | decide | assumption) (fun _ => ?_)) | (with_reducible refine Fr7.apf (by first | decide | assumption) ?_) | (with_reducible refine Fr7.atp (fun _ => ?_)) | (with_reducible refine Fr7.aite ?_ ?_) | (with_reducible refine Fr7.agd ?_) | (with_reducible refine Fr7.acl ?_ (fun _ => ?_)) | (with_reducible refine Fr7.aldA (by first | decide | assumption) (fun _ => ?_)) | (with_reducible refine Fr7.aldP (by first | decide | assumption) (fun _ => ?_)) | (with_reducible refine Fr7.astA (by first | decide | assumption) ?_) | (with_reducible refine Fr7.astP (by first | decide | assumption) ?_) | (with_reducible refine Fr7.aldR (fun _ => ?_)) | (with_reducible refine Fr7.ann (fun _ => ?_)) | (exact w_qs) | (exact w_cd13 _ _))
theorem Fr7.use {α : Type} {F : Mm → Option (α × Mm)} {S S' : Mm} {r : α} {v : Int32} (h : Fr7 F) (e : F S = some (r, S')) : F (W7 v S) = some (r, W7 v S') := by
  rw [h S v, e]
  rfl
