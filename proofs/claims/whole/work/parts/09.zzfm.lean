/-! the start of a method of a class of which the machine runs some methods by entries of its own, but not this one -/
section ZFM
variable {l : Launch} {G : xG} {b : Bool} {sz : Nat} {S : Mm} {cc : ByteArray} {ret : Option FieldType}
theorem x_startF {y : MethodName} {ws ws' : List Cond} {rm : Room} {maxL : Nat} {av : List Value} {Qc : Array Value → State → Outcome → State → Prop} (hD : xD G b) (hy : plainFor y = true) (hw : ws = Cond.code y cc maxL ret :: ws') (hn : (lg_sl av).length ≤ maxL)
    (body : ∀ p e s m below meth c, xC G b sz p s m av.toArray c cc maxL ws y.cls meth ret → xW G b sz s s.heap [] S → ∀ ls, lv_has ls maxL (lv_args 0 av) → W p l e rm s m av.toArray below meth c s.heap [] 0 0 (MQ below Qc av.toArray s 0 0 (XA G b sz)) (F0 m 0 ls [])) : Met l y ws rm (xPre G b S sz av) Qc 0 0 (XA G b sz) := by
  refine MetFree.of_bodySF (code := cc) (maxLocals := maxL) (ret := ret) hy ?_ ?_
  · intro args s m h hq
    obtain ⟨meth, c, h1, h2, h3, h4, h5, h6, -, -⟩ := Cond.code_spec hq (atoms_spec (ws := ws) h _ (by rw [hw]; exact List.mem_cons_self))
    exact ⟨meth, c, h1, h2, h3, h4, h5, h6⟩
  · intro p e s m args below meth c s₁ B hml hv _
    obtain ⟨rfl, hsz, hP, hK, hR⟩ := hv
    have hh0 : s₁.heap = s.heap := by rw [B.state]; rfl
    have K := body p e s m below meth c ⟨B.exec, B.bytes, hml, findClass_of_methodNamed B.named, atoms_spec (ws := ws) B.pre, B.returns, B.notSynchronized, hsz, hK, hD, hR⟩ ⟨hP, va_S.rf⟩ _ (lv_entry av hn)
    have K2 : W p l e rm s m av.toArray below meth c s.heap [] 0 0 (MQ below Qc av.toArray s 0 0 (XA G b sz)) (entryFrame m av.toArray maxL) := by
      rw [lg_entry_eq]
      exact K
    obtain ⟨t, a1, o, b1, b2, b3⟩ := K2 s₁ hh0 (Stand.of_body B)
    exact ⟨t, o, a1, b1, b2, ⟨b3.1, b3.2⟩⟩
end ZFM
