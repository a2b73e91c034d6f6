/-! the law, case by case -/
section LCAS
variable {p : Program} {l : Launch} {e : Env} {s : State} {m : MethodId} {below : List Frame} {meth : Method} {c : Code} {H : Heap} {locs : List Loc} {cells slots : Nat} {Q : State → Prop}
variable {pc : Nat} {ls : Array Slot} {rest : List Value} {G : xG} {b L : Nat} {xs : Nat → Int32} {C M : Mm}
set_option maxRecDepth 100000 in
set_option maxHeartbeats 4000000 in
theorem lc_feed (K : lwK G p s m meth c b L xs) (hL : L ≤ 5120) {i k0 s0 g0 l0 : Nat} (hi : i + 10 ≤ L) (hk0 : k0 < 512) (hW : lwW G s H locs C M) (hI : II k0 s0 g0 l0 C M) (hl : lv_has ls 4 [(0, .ref b), (1, .ref (G.2.2 10 0)), (2, .ref (G.2.2 200 0)), (3, .int (nI i))]) (hf : cells + 0 ≤ room_1.cells ∧ slots + 0 ≤ room_1.slots)
    (kk : ∀ H1 locs1 C1 M1 s1 g1 l1, lwW G s H1 locs1 C1 M1 → II (k0 + 1) s1 g1 l1 C1 M1 → W p l e room_1 s m #[Value.ref b] below meth c H1 locs1 cells slots Q (F0 m 1330 ls [])) : W p l e room_1 s m #[Value.ref b] below meth c H locs cells slots Q (F0 m 144 ls []) := by
  obtain ⟨hx, hb, -, -, hown, hts, -, -, -, -⟩ := K.1
  have hts1 := K.ts
  obtain ⟨r, C1, M1, s1, g1, l1, e1, e2, hI1⟩ := a_feed hI hk0 (xs (i + 1)) (xs (i + 2)) (xs (i + 3)) (xs (i + 4)) (xs (i + 5))
  refine lv_aload_n hx hb dL_law_144 rfl (lv_at hl 1 rfl) ?_
  refine lw_ld (pc2 := 148) (k := 1) K hW hl (by omega) hL dL_law_145 dL_law_146 (fun _ h => lv_iconst (v := nI 1) hx hb dL_law_147 (by decide) h) dL_law_148 dL_law_149 ?_
  refine lw_ld (pc2 := 153) (k := 2) K hW hl (by omega) hL dL_law_150 dL_law_151 (fun _ h => lv_iconst (v := nI 2) hx hb dL_law_152 (by decide) h) dL_law_153 dL_law_154 ?_
  refine lw_ld (pc2 := 158) (k := 3) K hW hl (by omega) hL dL_law_155 dL_law_156 (fun _ h => lv_iconst (v := nI 3) hx hb dL_law_157 (by decide) h) dL_law_158 dL_law_159 ?_
  refine lw_ld (pc2 := 163) (k := 4) K hW hl (by omega) hL dL_law_160 dL_law_161 (fun _ h => lv_iconst (v := nI 4) hx hb dL_law_162 (by decide) h) dL_law_163 dL_law_164 ?_
  refine lw_ld (pc2 := 168) (k := 5) K hW hl (by omega) hL dL_law_165 dL_law_166 (fun _ h => lv_iconst (v := nI 5) hx hb dL_law_167 (by decide) h) dL_law_168 dL_law_169 ?_
  refine lw_cC (As := [.int (xs (i + 1)), .int (xs (i + 2)), .int (xs (i + 3)), .int (xs (i + 4)), .int (xs (i + 5))]) (rest := []) K hW (c_X11_feed l G K.2.2.2.1 _ C (xs (i + 1)) (xs (i + 2)) (xs (i + 3)) (xs (i + 4)) (xs (i + 5)) _ e1) (cwV 5 hts1 (gV gw256 gw257 gw258 gw2 gw259) rfl rfl rfl ⟨rfl, hd_X11_feed⟩ ⟨Nat.le_of_ble_eq_true rfl, Nat.le_of_ble_eq_true rfl⟩) rfl hl.1 rfl (Nat.le_of_ble_eq_true rfl) dL_law_170 hf (fun H locs hW => ?_)
  refine lv_aload_n hx hb dL_law_173 rfl (lv_at hl 2 rfl) ?_
  refine lw_ld (pc2 := 177) (k := 1) K hW hl (by omega) hL dL_law_174 dL_law_175 (fun _ h => lv_iconst (v := nI 1) hx hb dL_law_176 (by decide) h) dL_law_177 dL_law_178 ?_
  refine lw_ld (pc2 := 182) (k := 2) K hW hl (by omega) hL dL_law_179 dL_law_180 (fun _ h => lv_iconst (v := nI 2) hx hb dL_law_181 (by decide) h) dL_law_182 dL_law_183 ?_
  refine lw_ld (pc2 := 187) (k := 3) K hW hl (by omega) hL dL_law_184 dL_law_185 (fun _ h => lv_iconst (v := nI 3) hx hb dL_law_186 (by decide) h) dL_law_187 dL_law_188 ?_
  refine lw_ld (pc2 := 192) (k := 4) K hW hl (by omega) hL dL_law_189 dL_law_190 (fun _ h => lv_iconst (v := nI 4) hx hb dL_law_191 (by decide) h) dL_law_192 dL_law_193 ?_
  refine lw_ld (pc2 := 197) (k := 5) K hW hl (by omega) hL dL_law_194 dL_law_195 (fun _ h => lv_iconst (v := nI 5) hx hb dL_law_196 (by decide) h) dL_law_197 dL_law_198 ?_
  refine lw_cM (As := [.int (xs (i + 1)), .int (xs (i + 2)), .int (xs (i + 3)), .int (xs (i + 4)), .int (xs (i + 5))]) (rest := [.int r]) K hW (c_X12_feed l G K.2.2.2.2.1 _ M (xs (i + 1)) (xs (i + 2)) (xs (i + 3)) (xs (i + 4)) (xs (i + 5)) _ e2) (cwV 5 hts1 (gV gw269 gw270 gw271 gw5 gw272) rfl rfl rfl ⟨rfl, hd_X12_feed⟩ ⟨Nat.le_of_ble_eq_true rfl, Nat.le_of_ble_eq_true rfl⟩) rfl hl.1 rfl (Nat.le_of_ble_eq_true rfl) dL_law_199 hf (fun H locs hW => ?_)
  refine lv_icmp_eq (tgt := 1330) hx hb dL_law_202 (by decide) (fun _ => ?_) (fun h => absurd rfl h)
  exact kk _ _ _ _ _ _ _ hW hI1
set_option maxRecDepth 100000 in
set_option maxHeartbeats 4000000 in
theorem lc_end (K : lwK G p s m meth c b L xs) (hL : L ≤ 5120) {i k0 s0 g0 l0 : Nat} (hi : i + 10 ≤ L) (hk0 : k0 < 512) (hW : lwW G s H locs C M) (hI : II k0 s0 g0 l0 C M) (hl : lv_has ls 4 [(0, .ref b), (1, .ref (G.2.2 10 0)), (2, .ref (G.2.2 200 0)), (3, .int (nI i))]) (hf : cells + 0 ≤ room_1.cells ∧ slots + 0 ≤ room_1.slots)
    (kk : ∀ H1 locs1 C1 M1 s1 g1 l1, lwW G s H1 locs1 C1 M1 → II (k0 + 1) s1 g1 l1 C1 M1 → W p l e room_1 s m #[Value.ref b] below meth c H1 locs1 cells slots Q (F0 m 1330 ls [])) : W p l e room_1 s m #[Value.ref b] below meth c H locs cells slots Q (F0 m 207 ls []) := by
  obtain ⟨hx, hb, -, -, hown, hts, -, -, -, -⟩ := K.1
  have hts1 := K.ts
  obtain ⟨r, C1, M1, s1, g1, l1, e1, e2, hI1⟩ := a_end hI hk0 (xs (i + 1))
  refine lv_aload_n hx hb dL_law_207 rfl (lv_at hl 1 rfl) ?_
  refine lw_ld (pc2 := 211) (k := 1) K hW hl (by omega) hL dL_law_208 dL_law_209 (fun _ h => lv_iconst (v := nI 1) hx hb dL_law_210 (by decide) h) dL_law_211 dL_law_212 ?_
  refine lw_cC (As := [.int (xs (i + 1))]) (rest := []) K hW (c_X11_end l G K.2.2.2.1 _ C (xs (i + 1)) _ e1) (cwV 1 hts1 (gV gw279 gw280 gw281 gw2 gw282) rfl rfl rfl ⟨rfl, hd_X11_end⟩ ⟨Nat.le_of_ble_eq_true rfl, Nat.le_of_ble_eq_true rfl⟩) rfl hl.1 rfl (Nat.le_of_ble_eq_true rfl) dL_law_213 hf (fun H locs hW => ?_)
  refine lv_aload_n hx hb dL_law_216 rfl (lv_at hl 2 rfl) ?_
  refine lw_ld (pc2 := 220) (k := 1) K hW hl (by omega) hL dL_law_217 dL_law_218 (fun _ h => lv_iconst (v := nI 1) hx hb dL_law_219 (by decide) h) dL_law_220 dL_law_221 ?_
  refine lw_cM (As := [.int (xs (i + 1))]) (rest := [.int r]) K hW (c_X12_end l G K.2.2.2.2.1 _ M (xs (i + 1)) _ e2) (cwV 1 hts1 (gV gw283 gw284 gw285 gw5 gw286) rfl rfl rfl ⟨rfl, hd_X12_end⟩ ⟨Nat.le_of_ble_eq_true rfl, Nat.le_of_ble_eq_true rfl⟩) rfl hl.1 rfl (Nat.le_of_ble_eq_true rfl) dL_law_222 hf (fun H locs hW => ?_)
  refine lv_icmp_eq (tgt := 1330) hx hb dL_law_225 (by decide) (fun _ => ?_) (fun h => absurd rfl h)
  exact kk _ _ _ _ _ _ _ hW hI1
set_option maxRecDepth 100000 in
set_option maxHeartbeats 4000000 in
theorem lc_alter (K : lwK G p s m meth c b L xs) (hL : L ≤ 5120) {i k0 s0 g0 l0 : Nat} (hi : i + 10 ≤ L) (hk0 : k0 < 512) (hW : lwW G s H locs C M) (hI : II k0 s0 g0 l0 C M) (hl : lv_has ls 4 [(0, .ref b), (1, .ref (G.2.2 10 0)), (2, .ref (G.2.2 200 0)), (3, .int (nI i))]) (hf : cells + 0 ≤ room_1.cells ∧ slots + 0 ≤ room_1.slots)
    (kk : ∀ H1 locs1 C1 M1 s1 g1 l1, lwW G s H1 locs1 C1 M1 → II (k0 + 1) s1 g1 l1 C1 M1 → W p l e room_1 s m #[Value.ref b] below meth c H1 locs1 cells slots Q (F0 m 1330 ls [])) : W p l e room_1 s m #[Value.ref b] below meth c H locs cells slots Q (F0 m 230 ls []) := by
  obtain ⟨hx, hb, -, -, hown, hts, -, -, -, -⟩ := K.1
  have hts1 := K.ts
  obtain ⟨r, C1, M1, s1, g1, l1, e1, e2, hI1⟩ := a_alter hI hk0 (xs (i + 1)) (xs (i + 2))
  refine lv_aload_n hx hb dL_law_230 rfl (lv_at hl 1 rfl) ?_
  refine lw_ld (pc2 := 234) (k := 1) K hW hl (by omega) hL dL_law_231 dL_law_232 (fun _ h => lv_iconst (v := nI 1) hx hb dL_law_233 (by decide) h) dL_law_234 dL_law_235 ?_
  refine lw_ld (pc2 := 239) (k := 2) K hW hl (by omega) hL dL_law_236 dL_law_237 (fun _ h => lv_iconst (v := nI 2) hx hb dL_law_238 (by decide) h) dL_law_239 dL_law_240 ?_
  refine lw_cC (As := [.int (xs (i + 1)), .int (xs (i + 2))]) (rest := []) K hW (c_X11_alter l G K.2.2.2.1 _ C (xs (i + 1)) (xs (i + 2)) _ e1) (cwV 2 hts1 (gV gw287 gw288 gw289 gw2 gw290) rfl rfl rfl ⟨rfl, hd_X11_alter⟩ ⟨Nat.le_of_ble_eq_true rfl, Nat.le_of_ble_eq_true rfl⟩) rfl hl.1 rfl (Nat.le_of_ble_eq_true rfl) dL_law_241 hf (fun H locs hW => ?_)
  refine lv_aload_n hx hb dL_law_244 rfl (lv_at hl 2 rfl) ?_
  refine lw_ld (pc2 := 248) (k := 1) K hW hl (by omega) hL dL_law_245 dL_law_246 (fun _ h => lv_iconst (v := nI 1) hx hb dL_law_247 (by decide) h) dL_law_248 dL_law_249 ?_
  refine lw_ld (pc2 := 253) (k := 2) K hW hl (by omega) hL dL_law_250 dL_law_251 (fun _ h => lv_iconst (v := nI 2) hx hb dL_law_252 (by decide) h) dL_law_253 dL_law_254 ?_
  refine lw_cM (As := [.int (xs (i + 1)), .int (xs (i + 2))]) (rest := [.int r]) K hW (c_X12_alter l G K.2.2.2.2.1 _ M (xs (i + 1)) (xs (i + 2)) _ e2) (cwV 2 hts1 (gV gw291 gw292 gw293 gw5 gw294) rfl rfl rfl ⟨rfl, hd_X12_alter⟩ ⟨Nat.le_of_ble_eq_true rfl, Nat.le_of_ble_eq_true rfl⟩) rfl hl.1 rfl (Nat.le_of_ble_eq_true rfl) dL_law_255 hf (fun H locs hW => ?_)
  refine lv_icmp_eq (tgt := 1330) hx hb dL_law_258 (by decide) (fun _ => ?_) (fun h => absurd rfl h)
  exact kk _ _ _ _ _ _ _ hW hI1
set_option maxRecDepth 100000 in
set_option maxHeartbeats 4000000 in
theorem lc_check (K : lwK G p s m meth c b L xs) (hL : L ≤ 5120) {i k0 s0 g0 l0 : Nat} (hi : i + 10 ≤ L) (hk0 : k0 < 512) (hW : lwW G s H locs C M) (hI : II k0 s0 g0 l0 C M) (hl : lv_has ls 4 [(0, .ref b), (1, .ref (G.2.2 10 0)), (2, .ref (G.2.2 200 0)), (3, .int (nI i))]) (hf : cells + 0 ≤ room_1.cells ∧ slots + 0 ≤ room_1.slots)
    (kk : ∀ H1 locs1 C1 M1 s1 g1 l1, lwW G s H1 locs1 C1 M1 → II (k0 + 1) s1 g1 l1 C1 M1 → W p l e room_1 s m #[Value.ref b] below meth c H1 locs1 cells slots Q (F0 m 1330 ls [])) : W p l e room_1 s m #[Value.ref b] below meth c H locs cells slots Q (F0 m 263 ls []) := by
  obtain ⟨hx, hb, -, -, hown, hts, -, -, -, -⟩ := K.1
  have hts1 := K.ts
  obtain ⟨r, C1, M1, s1, g1, l1, e1, e2, hI1⟩ := a_check hI hk0 
  refine lv_aload_n hx hb dL_law_263 rfl (lv_at hl 1 rfl) ?_
  refine lw_cC (As := []) (rest := []) K hW (c_X11_check l G K.2.2.2.1 _ C  _ e1) (cwV 0 hts1 (gV gw299 gw300 gw301 gw2 gw302) rfl rfl rfl ⟨rfl, hd_X11_check⟩ ⟨Nat.le_of_ble_eq_true rfl, Nat.le_of_ble_eq_true rfl⟩) rfl hl.1 rfl (Nat.le_of_ble_eq_true rfl) dL_law_264 hf (fun H locs hW => ?_)
  refine lv_aload_n hx hb dL_law_267 rfl (lv_at hl 2 rfl) ?_
  refine lw_cM (As := []) (rest := [.int r]) K hW (c_X12_check l G K.2.2.2.2.1 _ M  _ e2) (cwV 0 hts1 (gV gw310 gw311 gw312 gw5 gw313) rfl rfl rfl ⟨rfl, hd_X12_check⟩ ⟨Nat.le_of_ble_eq_true rfl, Nat.le_of_ble_eq_true rfl⟩) rfl hl.1 rfl (Nat.le_of_ble_eq_true rfl) dL_law_268 hf (fun H locs hW => ?_)
  refine lv_icmp_eq (tgt := 1330) hx hb dL_law_271 (by decide) (fun _ => ?_) (fun h => absurd rfl h)
  exact kk _ _ _ _ _ _ _ hW hI1
set_option maxRecDepth 100000 in
set_option maxHeartbeats 4000000 in
theorem lc_copy (K : lwK G p s m meth c b L xs) (hL : L ≤ 5120) {i k0 s0 g0 l0 : Nat} (hi : i + 10 ≤ L) (hk0 : k0 < 512) (hW : lwW G s H locs C M) (hI : II k0 s0 g0 l0 C M) (hl : lv_has ls 4 [(0, .ref b), (1, .ref (G.2.2 10 0)), (2, .ref (G.2.2 200 0)), (3, .int (nI i))]) (hf : cells + 0 ≤ room_1.cells ∧ slots + 0 ≤ room_1.slots)
    (kk : ∀ H1 locs1 C1 M1 s1 g1 l1, lwW G s H1 locs1 C1 M1 → II (k0 + 1) s1 g1 l1 C1 M1 → W p l e room_1 s m #[Value.ref b] below meth c H1 locs1 cells slots Q (F0 m 1330 ls [])) : W p l e room_1 s m #[Value.ref b] below meth c H locs cells slots Q (F0 m 276 ls []) := by
  obtain ⟨hx, hb, -, -, hown, hts, -, -, -, -⟩ := K.1
  have hts1 := K.ts
  obtain ⟨r, C1, M1, s1, g1, l1, e1, e2, hI1⟩ := a_copy hI hk0 (xs (i + 1))
  refine lv_aload_n hx hb dL_law_276 rfl (lv_at hl 1 rfl) ?_
  refine lw_ld (pc2 := 280) (k := 1) K hW hl (by omega) hL dL_law_277 dL_law_278 (fun _ h => lv_iconst (v := nI 1) hx hb dL_law_279 (by decide) h) dL_law_280 dL_law_281 ?_
  refine lw_cC (As := [.int (xs (i + 1))]) (rest := []) K hW (c_X11_copy l G K.2.2.2.1 _ C (xs (i + 1)) _ e1) (cwV 1 hts1 (gV gw318 gw319 gw320 gw2 gw321) rfl rfl rfl ⟨rfl, hd_X11_copy⟩ ⟨Nat.le_of_ble_eq_true rfl, Nat.le_of_ble_eq_true rfl⟩) rfl hl.1 rfl (Nat.le_of_ble_eq_true rfl) dL_law_282 hf (fun H locs hW => ?_)
  refine lv_aload_n hx hb dL_law_285 rfl (lv_at hl 2 rfl) ?_
  refine lw_ld (pc2 := 289) (k := 1) K hW hl (by omega) hL dL_law_286 dL_law_287 (fun _ h => lv_iconst (v := nI 1) hx hb dL_law_288 (by decide) h) dL_law_289 dL_law_290 ?_
  refine lw_cM (As := [.int (xs (i + 1))]) (rest := [.int r]) K hW (c_X12_copy l G K.2.2.2.2.1 _ M (xs (i + 1)) _ e2) (cwV 1 hts1 (gV gw337 gw338 gw339 gw5 gw340) rfl rfl rfl ⟨rfl, hd_X12_copy⟩ ⟨Nat.le_of_ble_eq_true rfl, Nat.le_of_ble_eq_true rfl⟩) rfl hl.1 rfl (Nat.le_of_ble_eq_true rfl) dL_law_291 hf (fun H locs hW => ?_)
  refine lv_icmp_eq (tgt := 1330) hx hb dL_law_294 (by decide) (fun _ => ?_) (fun h => absurd rfl h)
  exact kk _ _ _ _ _ _ _ hW hI1
set_option maxRecDepth 100000 in
set_option maxHeartbeats 4000000 in
theorem lc_tape (K : lwK G p s m meth c b L xs) (hL : L ≤ 5120) {i k0 s0 g0 l0 : Nat} (hi : i + 10 ≤ L) (hk0 : k0 < 512) (hW : lwW G s H locs C M) (hI : II k0 s0 g0 l0 C M) (hl : lv_has ls 4 [(0, .ref b), (1, .ref (G.2.2 10 0)), (2, .ref (G.2.2 200 0)), (3, .int (nI i))]) (hf : cells + 0 ≤ room_1.cells ∧ slots + 0 ≤ room_1.slots)
    (kk : ∀ H1 locs1 C1 M1 s1 g1 l1, lwW G s H1 locs1 C1 M1 → II (k0 + 1) s1 g1 l1 C1 M1 → W p l e room_1 s m #[Value.ref b] below meth c H1 locs1 cells slots Q (F0 m 1330 ls [])) : W p l e room_1 s m #[Value.ref b] below meth c H locs cells slots Q (F0 m 299 ls []) := by
  obtain ⟨hx, hb, -, -, hown, hts, -, -, -, -⟩ := K.1
  have hts1 := K.ts
  obtain ⟨r, C1, M1, s1, g1, l1, e1, e2, hI1⟩ := a_tape hI hk0 (xs (i + 1))
  refine lv_aload_n hx hb dL_law_299 rfl (lv_at hl 1 rfl) ?_
  refine lw_ld (pc2 := 303) (k := 1) K hW hl (by omega) hL dL_law_300 dL_law_301 (fun _ h => lv_iconst (v := nI 1) hx hb dL_law_302 (by decide) h) dL_law_303 dL_law_304 ?_
  refine lw_cC (As := [.int (xs (i + 1))]) (rest := []) K hW (c_X11_tape l G K.2.2.2.1 _ C (xs (i + 1)) _ e1) (cwV 1 hts1 (gV gw346 gw347 gw348 gw2 gw349) rfl rfl rfl ⟨rfl, hd_X11_tape⟩ ⟨Nat.le_of_ble_eq_true rfl, Nat.le_of_ble_eq_true rfl⟩) rfl hl.1 rfl (Nat.le_of_ble_eq_true rfl) dL_law_305 hf (fun H locs hW => ?_)
  refine lv_aload_n hx hb dL_law_308 rfl (lv_at hl 2 rfl) ?_
  refine lw_ld (pc2 := 312) (k := 1) K hW hl (by omega) hL dL_law_309 dL_law_310 (fun _ h => lv_iconst (v := nI 1) hx hb dL_law_311 (by decide) h) dL_law_312 dL_law_313 ?_
  refine lw_cM (As := [.int (xs (i + 1))]) (rest := [.int r]) K hW (c_X12_tape l G K.2.2.2.2.1 _ M (xs (i + 1)) _ e2) (cwV 1 hts1 (gV gw350 gw351 gw352 gw5 gw353) rfl rfl rfl ⟨rfl, hd_X12_tape⟩ ⟨Nat.le_of_ble_eq_true rfl, Nat.le_of_ble_eq_true rfl⟩) rfl hl.1 rfl (Nat.le_of_ble_eq_true rfl) dL_law_314 hf (fun H locs hW => ?_)
  refine lv_icmp_eq (tgt := 1330) hx hb dL_law_317 (by decide) (fun _ => ?_) (fun h => absurd rfl h)
  exact kk _ _ _ _ _ _ _ hW hI1
set_option maxRecDepth 100000 in
set_option maxHeartbeats 4000000 in
theorem lc_size (K : lwK G p s m meth c b L xs) (hL : L ≤ 5120) {i k0 s0 g0 l0 : Nat} (hi : i + 10 ≤ L) (hk0 : k0 < 512) (hW : lwW G s H locs C M) (hI : II k0 s0 g0 l0 C M) (hl : lv_has ls 4 [(0, .ref b), (1, .ref (G.2.2 10 0)), (2, .ref (G.2.2 200 0)), (3, .int (nI i))]) (hf : cells + 0 ≤ room_1.cells ∧ slots + 0 ≤ room_1.slots)
    (kk : ∀ H1 locs1 C1 M1 s1 g1 l1, lwW G s H1 locs1 C1 M1 → II (k0 + 1) s1 g1 l1 C1 M1 → W p l e room_1 s m #[Value.ref b] below meth c H1 locs1 cells slots Q (F0 m 1330 ls [])) : W p l e room_1 s m #[Value.ref b] below meth c H locs cells slots Q (F0 m 895 ls []) := by
  obtain ⟨hx, hb, -, -, hown, hts, -, -, -, -⟩ := K.1
  have hts1 := K.ts
  obtain ⟨r, C1, M1, s1, g1, l1, e1, e2, hI1⟩ := a_size hI hk0 (xs (i + 1))
  refine lv_aload_n hx hb dL_law_895 rfl (lv_at hl 1 rfl) ?_
  refine lw_ld (pc2 := 899) (k := 1) K hW hl (by omega) hL dL_law_896 dL_law_897 (fun _ h => lv_iconst (v := nI 1) hx hb dL_law_898 (by decide) h) dL_law_899 dL_law_900 ?_
  refine lw_cC (As := [.int (xs (i + 1))]) (rest := []) K hW (c_X11_size l G K.2.2.2.1 _ C (xs (i + 1)) _ e1) (cwV 1 hts1 (gV gw399 gw400 gw401 gw2 gw402) rfl rfl rfl ⟨rfl, hd_X11_size⟩ ⟨Nat.le_of_ble_eq_true rfl, Nat.le_of_ble_eq_true rfl⟩) rfl hl.1 rfl (Nat.le_of_ble_eq_true rfl) dL_law_901 hf (fun H locs hW => ?_)
  refine lv_aload_n hx hb dL_law_904 rfl (lv_at hl 2 rfl) ?_
  refine lw_ld (pc2 := 908) (k := 1) K hW hl (by omega) hL dL_law_905 dL_law_906 (fun _ h => lv_iconst (v := nI 1) hx hb dL_law_907 (by decide) h) dL_law_908 dL_law_909 ?_
  refine lw_cM (As := [.int (xs (i + 1))]) (rest := [.int r]) K hW (c_X12_size l G K.2.2.2.2.1 _ M (xs (i + 1)) _ e2) (cwV 1 hts1 (gV gw403 gw404 gw405 gw5 gw406) rfl rfl rfl ⟨rfl, hd_X12_size⟩ ⟨Nat.le_of_ble_eq_true rfl, Nat.le_of_ble_eq_true rfl⟩) rfl hl.1 rfl (Nat.le_of_ble_eq_true rfl) dL_law_910 hf (fun H locs hW => ?_)
  refine lv_icmp_eq (tgt := 1330) hx hb dL_law_913 (by decide) (fun _ => ?_) (fun h => absurd rfl h)
  exact kk _ _ _ _ _ _ _ hW hI1
set_option maxRecDepth 100000 in
set_option maxHeartbeats 4000000 in
theorem lc_limit (K : lwK G p s m meth c b L xs) (hL : L ≤ 5120) {i k0 s0 g0 l0 : Nat} (hi : i + 10 ≤ L) (hk0 : k0 < 512) (hW : lwW G s H locs C M) (hI : II k0 s0 g0 l0 C M) (hl : lv_has ls 4 [(0, .ref b), (1, .ref (G.2.2 10 0)), (2, .ref (G.2.2 200 0)), (3, .int (nI i))]) (hf : cells + 0 ≤ room_1.cells ∧ slots + 0 ≤ room_1.slots)
    (kk : ∀ H1 locs1 C1 M1 s1 g1 l1, lwW G s H1 locs1 C1 M1 → II (k0 + 1) s1 g1 l1 C1 M1 → W p l e room_1 s m #[Value.ref b] below meth c H1 locs1 cells slots Q (F0 m 1330 ls [])) : W p l e room_1 s m #[Value.ref b] below meth c H locs cells slots Q (F0 m 918 ls []) := by
  obtain ⟨hx, hb, -, -, hown, hts, -, -, -, -⟩ := K.1
  have hts1 := K.ts
  obtain ⟨r, C1, M1, s1, g1, l1, e1, e2, hI1⟩ := a_limit hI hk0 (xs (i + 1))
  refine lv_aload_n hx hb dL_law_918 rfl (lv_at hl 1 rfl) ?_
  refine lw_ld (pc2 := 922) (k := 1) K hW hl (by omega) hL dL_law_919 dL_law_920 (fun _ h => lv_iconst (v := nI 1) hx hb dL_law_921 (by decide) h) dL_law_922 dL_law_923 ?_
  refine lw_cC (As := [.int (xs (i + 1))]) (rest := []) K hW (c_X11_limit l G K.2.2.2.1 _ C (xs (i + 1)) _ e1) (cwV 1 hts1 (gV gw408 gw409 gw410 gw2 gw411) rfl rfl rfl ⟨rfl, hd_X11_limit⟩ ⟨Nat.le_of_ble_eq_true rfl, Nat.le_of_ble_eq_true rfl⟩) rfl hl.1 rfl (Nat.le_of_ble_eq_true rfl) dL_law_924 hf (fun H locs hW => ?_)
  refine lv_aload_n hx hb dL_law_927 rfl (lv_at hl 2 rfl) ?_
  refine lw_ld (pc2 := 931) (k := 1) K hW hl (by omega) hL dL_law_928 dL_law_929 (fun _ h => lv_iconst (v := nI 1) hx hb dL_law_930 (by decide) h) dL_law_931 dL_law_932 ?_
  refine lw_cM (As := [.int (xs (i + 1))]) (rest := [.int r]) K hW (c_X12_limit l G K.2.2.2.2.1 _ M (xs (i + 1)) _ e2) (cwV 1 hts1 (gV gw412 gw413 gw414 gw5 gw415) rfl rfl rfl ⟨rfl, hd_X12_limit⟩ ⟨Nat.le_of_ble_eq_true rfl, Nat.le_of_ble_eq_true rfl⟩) rfl hl.1 rfl (Nat.le_of_ble_eq_true rfl) dL_law_933 hf (fun H locs hW => ?_)
  refine lv_icmp_eq (tgt := 1330) hx hb dL_law_936 (by decide) (fun _ => ?_) (fun h => absurd rfl h)
  exact kk _ _ _ _ _ _ _ hW hI1
set_option maxRecDepth 100000 in
set_option maxHeartbeats 4000000 in
theorem lc_draw (K : lwK G p s m meth c b L xs) (hL : L ≤ 5120) {i k0 s0 g0 l0 : Nat} (hi : i + 10 ≤ L) (hk0 : k0 < 512) (hW : lwW G s H locs C M) (hI : II k0 s0 g0 l0 C M) (hl : lv_has ls 4 [(0, .ref b), (1, .ref (G.2.2 10 0)), (2, .ref (G.2.2 200 0)), (3, .int (nI i))]) (hf : cells + 0 ≤ room_1.cells ∧ slots + 0 ≤ room_1.slots)
    (kk : ∀ H1 locs1 C1 M1 s1 g1 l1, lwW G s H1 locs1 C1 M1 → II (k0 + 1) s1 g1 l1 C1 M1 → W p l e room_1 s m #[Value.ref b] below meth c H1 locs1 cells slots Q (F0 m 1330 ls [])) : W p l e room_1 s m #[Value.ref b] below meth c H locs cells slots Q (F0 m 941 ls []) := by
  obtain ⟨hx, hb, -, -, hown, hts, -, -, -, -⟩ := K.1
  have hts1 := K.ts
  obtain ⟨r, C1, M1, s1, g1, l1, e1, e2, hI1⟩ := a_draw hI hk0 (xs (i + 1))
  refine lv_aload_n hx hb dL_law_941 rfl (lv_at hl 1 rfl) ?_
  refine lw_ld (pc2 := 945) (k := 1) K hW hl (by omega) hL dL_law_942 dL_law_943 (fun _ h => lv_iconst (v := nI 1) hx hb dL_law_944 (by decide) h) dL_law_945 dL_law_946 ?_
  refine lw_cC (As := [.int (xs (i + 1))]) (rest := []) K hW (c_X11_draw l G K.2.2.2.1 _ C (xs (i + 1)) _ e1) (cwV 1 hts1 (gV gw417 gw418 gw419 gw2 gw420) rfl rfl rfl ⟨rfl, hd_X11_draw⟩ ⟨Nat.le_of_ble_eq_true rfl, Nat.le_of_ble_eq_true rfl⟩) rfl hl.1 rfl (Nat.le_of_ble_eq_true rfl) dL_law_947 hf (fun H locs hW => ?_)
  refine lv_aload_n hx hb dL_law_950 rfl (lv_at hl 2 rfl) ?_
  refine lw_ld (pc2 := 954) (k := 1) K hW hl (by omega) hL dL_law_951 dL_law_952 (fun _ h => lv_iconst (v := nI 1) hx hb dL_law_953 (by decide) h) dL_law_954 dL_law_955 ?_
  refine lw_cM (As := [.int (xs (i + 1))]) (rest := [.int r]) K hW (c_X12_draw l G K.2.2.2.2.1 _ M (xs (i + 1)) _ e2) (cwV 1 hts1 (gV gw428 gw429 gw430 gw5 gw431) rfl rfl rfl ⟨rfl, hd_X12_draw⟩ ⟨Nat.le_of_ble_eq_true rfl, Nat.le_of_ble_eq_true rfl⟩) rfl hl.1 rfl (Nat.le_of_ble_eq_true rfl) dL_law_956 hf (fun H locs hW => ?_)
  refine lv_icmp_eq (tgt := 1330) hx hb dL_law_959 (by decide) (fun _ => ?_) (fun h => absurd rfl h)
  exact kk _ _ _ _ _ _ _ hW hI1
set_option maxRecDepth 100000 in
set_option maxHeartbeats 4000000 in
theorem lc_noise (K : lwK G p s m meth c b L xs) (hL : L ≤ 5120) {i k0 s0 g0 l0 : Nat} (hi : i + 10 ≤ L) (hk0 : k0 < 512) (hW : lwW G s H locs C M) (hI : II k0 s0 g0 l0 C M) (hl : lv_has ls 4 [(0, .ref b), (1, .ref (G.2.2 10 0)), (2, .ref (G.2.2 200 0)), (3, .int (nI i))]) (hf : cells + 0 ≤ room_1.cells ∧ slots + 0 ≤ room_1.slots)
    (kk : ∀ H1 locs1 C1 M1 s1 g1 l1, lwW G s H1 locs1 C1 M1 → II (k0 + 1) s1 g1 l1 C1 M1 → W p l e room_1 s m #[Value.ref b] below meth c H1 locs1 cells slots Q (F0 m 1330 ls [])) : W p l e room_1 s m #[Value.ref b] below meth c H locs cells slots Q (F0 m 964 ls []) := by
  obtain ⟨hx, hb, -, -, hown, hts, -, -, -, -⟩ := K.1
  have hts1 := K.ts
  obtain ⟨r, C1, M1, s1, g1, l1, e1, e2, hI1⟩ := a_noise hI hk0 (xs (i + 1)) (xs (i + 2))
  refine lv_aload_n hx hb dL_law_964 rfl (lv_at hl 1 rfl) ?_
  refine lw_ld (pc2 := 968) (k := 1) K hW hl (by omega) hL dL_law_965 dL_law_966 (fun _ h => lv_iconst (v := nI 1) hx hb dL_law_967 (by decide) h) dL_law_968 dL_law_969 ?_
  refine lw_ld (pc2 := 973) (k := 2) K hW hl (by omega) hL dL_law_970 dL_law_971 (fun _ h => lv_iconst (v := nI 2) hx hb dL_law_972 (by decide) h) dL_law_973 dL_law_974 ?_
  refine lw_cC (As := [.int (xs (i + 1)), .int (xs (i + 2))]) (rest := []) K hW (c_X11_noise l G K.2.2.2.1 _ C (xs (i + 1)) (xs (i + 2)) _ e1) (cwV 2 hts1 (gV gw435 gw436 gw437 gw2 gw438) rfl rfl rfl ⟨rfl, hd_X11_noise⟩ ⟨Nat.le_of_ble_eq_true rfl, Nat.le_of_ble_eq_true rfl⟩) rfl hl.1 rfl (Nat.le_of_ble_eq_true rfl) dL_law_975 hf (fun H locs hW => ?_)
  refine lv_aload_n hx hb dL_law_978 rfl (lv_at hl 2 rfl) ?_
  refine lw_ld (pc2 := 982) (k := 1) K hW hl (by omega) hL dL_law_979 dL_law_980 (fun _ h => lv_iconst (v := nI 1) hx hb dL_law_981 (by decide) h) dL_law_982 dL_law_983 ?_
  refine lw_ld (pc2 := 987) (k := 2) K hW hl (by omega) hL dL_law_984 dL_law_985 (fun _ h => lv_iconst (v := nI 2) hx hb dL_law_986 (by decide) h) dL_law_987 dL_law_988 ?_
  refine lw_cM (As := [.int (xs (i + 1)), .int (xs (i + 2))]) (rest := [.int r]) K hW (c_X12_noise l G K.2.2.2.2.1 _ M (xs (i + 1)) (xs (i + 2)) _ e2) (cwV 2 hts1 (gV gw446 gw447 gw448 gw5 gw449) rfl rfl rfl ⟨rfl, hd_X12_noise⟩ ⟨Nat.le_of_ble_eq_true rfl, Nat.le_of_ble_eq_true rfl⟩) rfl hl.1 rfl (Nat.le_of_ble_eq_true rfl) dL_law_989 hf (fun H locs hW => ?_)
  refine lv_icmp_eq (tgt := 1330) hx hb dL_law_992 (by decide) (fun _ => ?_) (fun h => absurd rfl h)
  exact kk _ _ _ _ _ _ _ hW hI1
set_option maxRecDepth 100000 in
set_option maxHeartbeats 4000000 in
theorem lc_put (K : lwK G p s m meth c b L xs) (hL : L ≤ 5120) {i k0 s0 g0 l0 : Nat} (hi : i + 10 ≤ L) (hk0 : k0 < 512) (hW : lwW G s H locs C M) (hI : II k0 s0 g0 l0 C M) (hl : lv_has ls 4 [(0, .ref b), (1, .ref (G.2.2 10 0)), (2, .ref (G.2.2 200 0)), (3, .int (nI i))]) (hf : cells + 0 ≤ room_1.cells ∧ slots + 0 ≤ room_1.slots)
    (kk : ∀ H1 locs1 C1 M1 s1 g1 l1, lwW G s H1 locs1 C1 M1 → II (k0 + 1) s1 g1 l1 C1 M1 → W p l e room_1 s m #[Value.ref b] below meth c H1 locs1 cells slots Q (F0 m 1330 ls [])) : W p l e room_1 s m #[Value.ref b] below meth c H locs cells slots Q (F0 m 997 ls []) := by
  obtain ⟨hx, hb, -, -, hown, hts, -, -, -, -⟩ := K.1
  have hts1 := K.ts
  obtain ⟨r, C1, M1, s1, g1, l1, e1, e2, hI1⟩ := a_put hI hk0 (xs (i + 1))
  refine lv_aload_n hx hb dL_law_997 rfl (lv_at hl 1 rfl) ?_
  refine lw_ld (pc2 := 1001) (k := 1) K hW hl (by omega) hL dL_law_998 dL_law_999 (fun _ h => lv_iconst (v := nI 1) hx hb dL_law_1000 (by decide) h) dL_law_1001 dL_law_1002 ?_
  refine lw_cC (As := [.int (xs (i + 1))]) (rest := []) K hW (c_X11_put l G K.2.2.2.1 _ C (xs (i + 1)) _ e1) (cwV 1 hts1 (gV gw453 gw454 gw455 gw2 gw456) rfl rfl rfl ⟨rfl, hd_X11_put⟩ ⟨Nat.le_of_ble_eq_true rfl, Nat.le_of_ble_eq_true rfl⟩) rfl hl.1 rfl (Nat.le_of_ble_eq_true rfl) dL_law_1003 hf (fun H locs hW => ?_)
  refine lv_aload_n hx hb dL_law_1006 rfl (lv_at hl 2 rfl) ?_
  refine lw_ld (pc2 := 1010) (k := 1) K hW hl (by omega) hL dL_law_1007 dL_law_1008 (fun _ h => lv_iconst (v := nI 1) hx hb dL_law_1009 (by decide) h) dL_law_1010 dL_law_1011 ?_
  refine lw_cM (As := [.int (xs (i + 1))]) (rest := [.int r]) K hW (c_X12_put l G K.2.2.2.2.1 _ M (xs (i + 1)) _ e2) (cwV 1 hts1 (gV gw464 gw465 gw466 gw5 gw467) rfl rfl rfl ⟨rfl, hd_X12_put⟩ ⟨Nat.le_of_ble_eq_true rfl, Nat.le_of_ble_eq_true rfl⟩) rfl hl.1 rfl (Nat.le_of_ble_eq_true rfl) dL_law_1012 hf (fun H locs hW => ?_)
  refine lv_icmp_eq (tgt := 1330) hx hb dL_law_1015 (by decide) (fun _ => ?_) (fun h => absurd rfl h)
  exact kk _ _ _ _ _ _ _ hW hI1
set_option maxRecDepth 100000 in
set_option maxHeartbeats 4000000 in
theorem lc_join (K : lwK G p s m meth c b L xs) (hL : L ≤ 5120) {i k0 s0 g0 l0 : Nat} (hi : i + 10 ≤ L) (hk0 : k0 < 512) (hW : lwW G s H locs C M) (hI : II k0 s0 g0 l0 C M) (hl : lv_has ls 4 [(0, .ref b), (1, .ref (G.2.2 10 0)), (2, .ref (G.2.2 200 0)), (3, .int (nI i))]) (hf : cells + 0 ≤ room_1.cells ∧ slots + 0 ≤ room_1.slots)
    (kk : ∀ H1 locs1 C1 M1 s1 g1 l1, lwW G s H1 locs1 C1 M1 → II (k0 + 1) s1 g1 l1 C1 M1 → W p l e room_1 s m #[Value.ref b] below meth c H1 locs1 cells slots Q (F0 m 1330 ls [])) : W p l e room_1 s m #[Value.ref b] below meth c H locs cells slots Q (F0 m 1020 ls []) := by
  obtain ⟨hx, hb, -, -, hown, hts, -, -, -, -⟩ := K.1
  have hts1 := K.ts
  obtain ⟨r, C1, M1, s1, g1, l1, e1, e2, hI1⟩ := a_join hI hk0 (hI.live hk0) (xs (i + 1))
  refine lv_aload_n hx hb dL_law_1020 rfl (lv_at hl 1 rfl) ?_
  refine lw_ld (pc2 := 1024) (k := 1) K hW hl (by omega) hL dL_law_1021 dL_law_1022 (fun _ h => lv_iconst (v := nI 1) hx hb dL_law_1023 (by decide) h) dL_law_1024 dL_law_1025 ?_
  refine lw_cC (As := [.int (xs (i + 1))]) (rest := []) K hW (c_X11_join l G K.2.2.2.1 _ C (xs (i + 1)) _ e1) (cwV 1 hts1 (gV gw469 gw470 gw471 gw2 gw472) rfl rfl rfl ⟨rfl, hd_X11_join⟩ ⟨Nat.le_of_ble_eq_true rfl, Nat.le_of_ble_eq_true rfl⟩) rfl hl.1 rfl (Nat.le_of_ble_eq_true rfl) dL_law_1026 hf (fun H locs hW => ?_)
  refine lv_aload_n hx hb dL_law_1029 rfl (lv_at hl 2 rfl) ?_
  refine lw_ld (pc2 := 1033) (k := 1) K hW hl (by omega) hL dL_law_1030 dL_law_1031 (fun _ h => lv_iconst (v := nI 1) hx hb dL_law_1032 (by decide) h) dL_law_1033 dL_law_1034 ?_
  refine lw_cM (As := [.int (xs (i + 1))]) (rest := [.int r]) K hW (c_X12_join l G K.2.2.2.2.1 _ M (xs (i + 1)) _ e2) (cwV 1 hts1 (gV gw521 gw522 gw523 gw5 gw524) rfl rfl rfl ⟨rfl, hd_X12_join⟩ ⟨Nat.le_of_ble_eq_true rfl, Nat.le_of_ble_eq_true rfl⟩) rfl hl.1 rfl (Nat.le_of_ble_eq_true rfl) dL_law_1035 hf (fun H locs hW => ?_)
  refine lv_icmp_eq (tgt := 1330) hx hb dL_law_1038 (by decide) (fun _ => ?_) (fun h => absurd rfl h)
  exact kk _ _ _ _ _ _ _ hW hI1
set_option maxRecDepth 100000 in
set_option maxHeartbeats 4000000 in
theorem lc_leave (K : lwK G p s m meth c b L xs) (hL : L ≤ 5120) {i k0 s0 g0 l0 : Nat} (hi : i + 10 ≤ L) (hk0 : k0 < 512) (hW : lwW G s H locs C M) (hI : II k0 s0 g0 l0 C M) (hl : lv_has ls 4 [(0, .ref b), (1, .ref (G.2.2 10 0)), (2, .ref (G.2.2 200 0)), (3, .int (nI i))]) (hf : cells + 0 ≤ room_1.cells ∧ slots + 0 ≤ room_1.slots)
    (kk : ∀ H1 locs1 C1 M1 s1 g1 l1, lwW G s H1 locs1 C1 M1 → II (k0 + 1) s1 g1 l1 C1 M1 → W p l e room_1 s m #[Value.ref b] below meth c H1 locs1 cells slots Q (F0 m 1330 ls [])) : W p l e room_1 s m #[Value.ref b] below meth c H locs cells slots Q (F0 m 1043 ls []) := by
  obtain ⟨hx, hb, -, -, hown, hts, -, -, -, -⟩ := K.1
  have hts1 := K.ts
  obtain ⟨r, C1, M1, s1, g1, l1, e1, e2, hI1⟩ := a_leave hI hk0 (hI.live hk0) (xs (i + 1)) (xs (i + 2))
  refine lv_aload_n hx hb dL_law_1043 rfl (lv_at hl 1 rfl) ?_
  refine lw_ld (pc2 := 1047) (k := 1) K hW hl (by omega) hL dL_law_1044 dL_law_1045 (fun _ h => lv_iconst (v := nI 1) hx hb dL_law_1046 (by decide) h) dL_law_1047 dL_law_1048 ?_
  refine lw_ld (pc2 := 1052) (k := 2) K hW hl (by omega) hL dL_law_1049 dL_law_1050 (fun _ h => lv_iconst (v := nI 2) hx hb dL_law_1051 (by decide) h) dL_law_1052 dL_law_1053 ?_
  refine lw_cC (As := [.int (xs (i + 1)), .int (xs (i + 2))]) (rest := []) K hW (c_X11_leave l G K.2.2.2.1 _ C (xs (i + 1)) (xs (i + 2)) _ e1) (cwV 2 hts1 (gV gw550 gw551 gw552 gw2 gw553) rfl rfl rfl ⟨rfl, hd_X11_leave⟩ ⟨Nat.le_of_ble_eq_true rfl, Nat.le_of_ble_eq_true rfl⟩) rfl hl.1 rfl (Nat.le_of_ble_eq_true rfl) dL_law_1054 hf (fun H locs hW => ?_)
  refine lv_aload_n hx hb dL_law_1057 rfl (lv_at hl 2 rfl) ?_
  refine lw_ld (pc2 := 1061) (k := 1) K hW hl (by omega) hL dL_law_1058 dL_law_1059 (fun _ h => lv_iconst (v := nI 1) hx hb dL_law_1060 (by decide) h) dL_law_1061 dL_law_1062 ?_
  refine lw_ld (pc2 := 1066) (k := 2) K hW hl (by omega) hL dL_law_1063 dL_law_1064 (fun _ h => lv_iconst (v := nI 2) hx hb dL_law_1065 (by decide) h) dL_law_1066 dL_law_1067 ?_
  refine lw_cM (As := [.int (xs (i + 1)), .int (xs (i + 2))]) (rest := [.int r]) K hW (c_X12_leave l G K.2.2.2.2.1 _ M (xs (i + 1)) (xs (i + 2)) _ e2) (cwV 2 hts1 (gV gw554 gw555 gw556 gw5 gw557) rfl rfl rfl ⟨rfl, hd_X12_leave⟩ ⟨Nat.le_of_ble_eq_true rfl, Nat.le_of_ble_eq_true rfl⟩) rfl hl.1 rfl (Nat.le_of_ble_eq_true rfl) dL_law_1068 hf (fun H locs hW => ?_)
  refine lv_icmp_eq (tgt := 1330) hx hb dL_law_1071 (by decide) (fun _ => ?_) (fun h => absurd rfl h)
  exact kk _ _ _ _ _ _ _ hW hI1
set_option maxRecDepth 100000 in
set_option maxHeartbeats 4000000 in
theorem lc_submit (K : lwK G p s m meth c b L xs) (hL : L ≤ 5120) {i k0 s0 g0 l0 : Nat} (hi : i + 10 ≤ L) (hk0 : k0 < 512) (hW : lwW G s H locs C M) (hI : II k0 s0 g0 l0 C M) (hl : lv_has ls 4 [(0, .ref b), (1, .ref (G.2.2 10 0)), (2, .ref (G.2.2 200 0)), (3, .int (nI i))]) (hf : cells + 0 ≤ room_1.cells ∧ slots + 0 ≤ room_1.slots)
    (kk : ∀ H1 locs1 C1 M1 s1 g1 l1, lwW G s H1 locs1 C1 M1 → II (k0 + 1) s1 g1 l1 C1 M1 → W p l e room_1 s m #[Value.ref b] below meth c H1 locs1 cells slots Q (F0 m 1330 ls [])) : W p l e room_1 s m #[Value.ref b] below meth c H locs cells slots Q (F0 m 1076 ls []) := by
  obtain ⟨hx, hb, -, -, hown, hts, -, -, -, -⟩ := K.1
  have hts1 := K.ts
  obtain ⟨r, C1, M1, s1, g1, l1, e1, e2, hI1⟩ := a_submit hI hk0 (hI.live hk0) (xs (i + 1)) (xs (i + 2))
  refine lv_aload_n hx hb dL_law_1076 rfl (lv_at hl 1 rfl) ?_
  refine lw_ld (pc2 := 1080) (k := 1) K hW hl (by omega) hL dL_law_1077 dL_law_1078 (fun _ h => lv_iconst (v := nI 1) hx hb dL_law_1079 (by decide) h) dL_law_1080 dL_law_1081 ?_
  refine lw_ld (pc2 := 1085) (k := 2) K hW hl (by omega) hL dL_law_1082 dL_law_1083 (fun _ h => lv_iconst (v := nI 2) hx hb dL_law_1084 (by decide) h) dL_law_1085 dL_law_1086 ?_
  refine lw_cC (As := [.int (xs (i + 1)), .int (xs (i + 2))]) (rest := []) K hW (c_X11_submit l G K.2.2.2.1 _ C (xs (i + 1)) (xs (i + 2)) _ e1) (cwV 2 hts1 (gV gw562 gw563 gw564 gw2 gw565) rfl rfl rfl ⟨rfl, hd_X11_submit⟩ ⟨Nat.le_of_ble_eq_true rfl, Nat.le_of_ble_eq_true rfl⟩) rfl hl.1 rfl (Nat.le_of_ble_eq_true rfl) dL_law_1087 hf (fun H locs hW => ?_)
  refine lv_aload_n hx hb dL_law_1090 rfl (lv_at hl 2 rfl) ?_
  refine lw_ld (pc2 := 1094) (k := 1) K hW hl (by omega) hL dL_law_1091 dL_law_1092 (fun _ h => lv_iconst (v := nI 1) hx hb dL_law_1093 (by decide) h) dL_law_1094 dL_law_1095 ?_
  refine lw_ld (pc2 := 1099) (k := 2) K hW hl (by omega) hL dL_law_1096 dL_law_1097 (fun _ h => lv_iconst (v := nI 2) hx hb dL_law_1098 (by decide) h) dL_law_1099 dL_law_1100 ?_
  refine lw_cM (As := [.int (xs (i + 1)), .int (xs (i + 2))]) (rest := [.int r]) K hW (c_X12_submit l G K.2.2.2.2.1 _ M (xs (i + 1)) (xs (i + 2)) _ e2) (cwV 2 hts1 (gV gw581 gw582 gw583 gw5 gw584) rfl rfl rfl ⟨rfl, hd_X12_submit⟩ ⟨Nat.le_of_ble_eq_true rfl, Nat.le_of_ble_eq_true rfl⟩) rfl hl.1 rfl (Nat.le_of_ble_eq_true rfl) dL_law_1101 hf (fun H locs hW => ?_)
  refine lv_icmp_eq (tgt := 1330) hx hb dL_law_1104 (by decide) (fun _ => ?_) (fun h => absurd rfl h)
  exact kk _ _ _ _ _ _ _ hW hI1
set_option maxRecDepth 100000 in
set_option maxHeartbeats 4000000 in
theorem lc_go (K : lwK G p s m meth c b L xs) (hL : L ≤ 5120) {i k0 s0 g0 l0 : Nat} (hi : i + 10 ≤ L) (hk0 : k0 < 512) (hW : lwW G s H locs C M) (hI : II k0 s0 g0 l0 C M) (hl : lv_has ls 4 [(0, .ref b), (1, .ref (G.2.2 10 0)), (2, .ref (G.2.2 200 0)), (3, .int (nI i))]) (hf : cells + 0 ≤ room_1.cells ∧ slots + 0 ≤ room_1.slots)
    (kk : ∀ H1 locs1 C1 M1 s1 g1 l1, lwW G s H1 locs1 C1 M1 → II (k0 + 1) s1 g1 l1 C1 M1 → W p l e room_1 s m #[Value.ref b] below meth c H1 locs1 cells slots Q (F0 m 1330 ls [])) : W p l e room_1 s m #[Value.ref b] below meth c H locs cells slots Q (F0 m 1109 ls []) := by
  obtain ⟨hx, hb, -, -, hown, hts, -, -, -, -⟩ := K.1
  have hts1 := K.ts
  obtain ⟨r, C1, M1, s1, g1, l1, e1, e2, hI1⟩ := a_go hI hk0 (xs (i + 1))
  refine lv_aload_n hx hb dL_law_1109 rfl (lv_at hl 1 rfl) ?_
  refine lw_ld (pc2 := 1113) (k := 1) K hW hl (by omega) hL dL_law_1110 dL_law_1111 (fun _ h => lv_iconst (v := nI 1) hx hb dL_law_1112 (by decide) h) dL_law_1113 dL_law_1114 ?_
  refine lw_cC (As := [.int (xs (i + 1))]) (rest := []) K hW (c_X11_go l G K.2.2.2.1 _ C (xs (i + 1)) _ e1) (cwV 1 hts1 (gV gw590 gw591 gw592 gw2 gw593) rfl rfl rfl ⟨rfl, hd_X11_go⟩ ⟨Nat.le_of_ble_eq_true rfl, Nat.le_of_ble_eq_true rfl⟩) rfl hl.1 rfl (Nat.le_of_ble_eq_true rfl) dL_law_1115 hf (fun H locs hW => ?_)
  refine lv_aload_n hx hb dL_law_1118 rfl (lv_at hl 2 rfl) ?_
  refine lw_ld (pc2 := 1122) (k := 1) K hW hl (by omega) hL dL_law_1119 dL_law_1120 (fun _ h => lv_iconst (v := nI 1) hx hb dL_law_1121 (by decide) h) dL_law_1122 dL_law_1123 ?_
  refine lw_cM (As := [.int (xs (i + 1))]) (rest := [.int r]) K hW (c_X12_go l G K.2.2.2.2.1 _ M (xs (i + 1)) _ e2) (cwV 1 hts1 (gV gw996 gw997 gw998 gw5 gw999) rfl rfl rfl ⟨rfl, hd_X12_go⟩ ⟨Nat.le_of_ble_eq_true rfl, Nat.le_of_ble_eq_true rfl⟩) rfl hl.1 rfl (Nat.le_of_ble_eq_true rfl) dL_law_1124 hf (fun H locs hW => ?_)
  refine lv_icmp_eq (tgt := 1330) hx hb dL_law_1127 (by decide) (fun _ => ?_) (fun h => absurd rfl h)
  exact kk _ _ _ _ _ _ _ hW hI1
set_option maxRecDepth 100000 in
set_option maxHeartbeats 4000000 in
theorem lc_ended (K : lwK G p s m meth c b L xs) (hL : L ≤ 5120) {i k0 s0 g0 l0 : Nat} (hi : i + 10 ≤ L) (hk0 : k0 < 512) (hW : lwW G s H locs C M) (hI : II k0 s0 g0 l0 C M) (hl : lv_has ls 4 [(0, .ref b), (1, .ref (G.2.2 10 0)), (2, .ref (G.2.2 200 0)), (3, .int (nI i))]) (hf : cells + 0 ≤ room_1.cells ∧ slots + 0 ≤ room_1.slots)
    (kk : ∀ H1 locs1 C1 M1 s1 g1 l1, lwW G s H1 locs1 C1 M1 → II (k0 + 1) s1 g1 l1 C1 M1 → W p l e room_1 s m #[Value.ref b] below meth c H1 locs1 cells slots Q (F0 m 1330 ls [])) : W p l e room_1 s m #[Value.ref b] below meth c H locs cells slots Q (F0 m 1132 ls []) := by
  obtain ⟨hx, hb, -, -, hown, hts, -, -, -, -⟩ := K.1
  have hts1 := K.ts
  obtain ⟨r, C1, M1, s1, g1, l1, e1, e2, hI1⟩ := a_ended hI hk0 (xs (i + 1))
  refine lv_aload_n hx hb dL_law_1132 rfl (lv_at hl 1 rfl) ?_
  refine lw_ld (pc2 := 1136) (k := 1) K hW hl (by omega) hL dL_law_1133 dL_law_1134 (fun _ h => lv_iconst (v := nI 1) hx hb dL_law_1135 (by decide) h) dL_law_1136 dL_law_1137 ?_
  refine lw_cC (As := [.int (xs (i + 1))]) (rest := []) K hW (c_X11_ended l G K.2.2.2.1 _ C (xs (i + 1)) _ e1) (cwV 1 hts1 (gV gw1242 gw1243 gw1244 gw2 gw1245) rfl rfl rfl ⟨rfl, hd_X11_ended⟩ ⟨Nat.le_of_ble_eq_true rfl, Nat.le_of_ble_eq_true rfl⟩) rfl hl.1 rfl (Nat.le_of_ble_eq_true rfl) dL_law_1138 hf (fun H locs hW => ?_)
  refine lv_aload_n hx hb dL_law_1141 rfl (lv_at hl 2 rfl) ?_
  refine lw_ld (pc2 := 1145) (k := 1) K hW hl (by omega) hL dL_law_1142 dL_law_1143 (fun _ h => lv_iconst (v := nI 1) hx hb dL_law_1144 (by decide) h) dL_law_1145 dL_law_1146 ?_
  refine lw_cM (As := [.int (xs (i + 1))]) (rest := [.int r]) K hW (c_X12_ended l G K.2.2.2.2.1 _ M (xs (i + 1)) _ e2) (cwV 1 hts1 (gV gw1246 gw1247 gw1248 gw5 gw1249) rfl rfl rfl ⟨rfl, hd_X12_ended⟩ ⟨Nat.le_of_ble_eq_true rfl, Nat.le_of_ble_eq_true rfl⟩) rfl hl.1 rfl (Nat.le_of_ble_eq_true rfl) dL_law_1147 hf (fun H locs hW => ?_)
  refine lv_icmp_eq (tgt := 1330) hx hb dL_law_1150 (by decide) (fun _ => ?_) (fun h => absurd rfl h)
  exact kk _ _ _ _ _ _ _ hW hI1
set_option maxRecDepth 100000 in
set_option maxHeartbeats 4000000 in
theorem lc_node (K : lwK G p s m meth c b L xs) (hL : L ≤ 5120) {i k0 s0 g0 l0 : Nat} (hi : i + 10 ≤ L) (hk0 : k0 < 512) (hW : lwW G s H locs C M) (hI : II k0 s0 g0 l0 C M) (hl : lv_has ls 4 [(0, .ref b), (1, .ref (G.2.2 10 0)), (2, .ref (G.2.2 200 0)), (3, .int (nI i))]) (hf : cells + 0 ≤ room_1.cells ∧ slots + 0 ≤ room_1.slots)
    (kk : ∀ H1 locs1 C1 M1 s1 g1 l1, lwW G s H1 locs1 C1 M1 → II (k0 + 1) s1 g1 l1 C1 M1 → W p l e room_1 s m #[Value.ref b] below meth c H1 locs1 cells slots Q (F0 m 1330 ls [])) : W p l e room_1 s m #[Value.ref b] below meth c H locs cells slots Q (F0 m 1155 ls []) := by
  obtain ⟨hx, hb, -, -, hown, hts, -, -, -, -⟩ := K.1
  have hts1 := K.ts
  obtain ⟨r, C1, M1, s1, g1, l1, e1, e2, hI1⟩ := a_node hI hk0 (xs (i + 1)) (xs (i + 2))
  refine lv_aload_n hx hb dL_law_1155 rfl (lv_at hl 1 rfl) ?_
  refine lw_ld (pc2 := 1159) (k := 1) K hW hl (by omega) hL dL_law_1156 dL_law_1157 (fun _ h => lv_iconst (v := nI 1) hx hb dL_law_1158 (by decide) h) dL_law_1159 dL_law_1160 ?_
  refine lw_ld (pc2 := 1164) (k := 2) K hW hl (by omega) hL dL_law_1161 dL_law_1162 (fun _ h => lv_iconst (v := nI 2) hx hb dL_law_1163 (by decide) h) dL_law_1164 dL_law_1165 ?_
  refine lw_cC (As := [.int (xs (i + 1)), .int (xs (i + 2))]) (rest := []) K hW (c_X11_node l G K.2.2.2.1 _ C (xs (i + 1)) (xs (i + 2)) _ e1) (cwV 2 hts1 (gV gw1250 gw1251 gw1252 gw2 gw1253) rfl rfl rfl ⟨rfl, hd_X11_node⟩ ⟨Nat.le_of_ble_eq_true rfl, Nat.le_of_ble_eq_true rfl⟩) rfl hl.1 rfl (Nat.le_of_ble_eq_true rfl) dL_law_1166 hf (fun H locs hW => ?_)
  refine lv_aload_n hx hb dL_law_1169 rfl (lv_at hl 2 rfl) ?_
  refine lw_ld (pc2 := 1173) (k := 1) K hW hl (by omega) hL dL_law_1170 dL_law_1171 (fun _ h => lv_iconst (v := nI 1) hx hb dL_law_1172 (by decide) h) dL_law_1173 dL_law_1174 ?_
  refine lw_ld (pc2 := 1178) (k := 2) K hW hl (by omega) hL dL_law_1175 dL_law_1176 (fun _ h => lv_iconst (v := nI 2) hx hb dL_law_1177 (by decide) h) dL_law_1178 dL_law_1179 ?_
  refine lw_cM (As := [.int (xs (i + 1)), .int (xs (i + 2))]) (rest := [.int r]) K hW (c_X12_node l G K.2.2.2.2.1 _ M (xs (i + 1)) (xs (i + 2)) _ e2) (cwV 2 hts1 (gV gw1261 gw1262 gw1263 gw5 gw1264) rfl rfl rfl ⟨rfl, hd_X12_node⟩ ⟨Nat.le_of_ble_eq_true rfl, Nat.le_of_ble_eq_true rfl⟩) rfl hl.1 rfl (Nat.le_of_ble_eq_true rfl) dL_law_1180 hf (fun H locs hW => ?_)
  refine lv_icmp_eq (tgt := 1330) hx hb dL_law_1183 (by decide) (fun _ => ?_) (fun h => absurd rfl h)
  exact kk _ _ _ _ _ _ _ hW hI1
set_option maxRecDepth 100000 in
set_option maxHeartbeats 4000000 in
theorem lc_key (K : lwK G p s m meth c b L xs) (hL : L ≤ 5120) {i k0 s0 g0 l0 : Nat} (hi : i + 10 ≤ L) (hk0 : k0 < 512) (hW : lwW G s H locs C M) (hI : II k0 s0 g0 l0 C M) (hl : lv_has ls 4 [(0, .ref b), (1, .ref (G.2.2 10 0)), (2, .ref (G.2.2 200 0)), (3, .int (nI i))]) (hf : cells + 0 ≤ room_1.cells ∧ slots + 0 ≤ room_1.slots)
    (kk : ∀ H1 locs1 C1 M1 s1 g1 l1, lwW G s H1 locs1 C1 M1 → II (k0 + 1) s1 g1 l1 C1 M1 → W p l e room_1 s m #[Value.ref b] below meth c H1 locs1 cells slots Q (F0 m 1330 ls [])) : W p l e room_1 s m #[Value.ref b] below meth c H locs cells slots Q (F0 m 1188 ls []) := by
  obtain ⟨hx, hb, -, -, hown, hts, -, -, -, -⟩ := K.1
  have hts1 := K.ts
  obtain ⟨r, C1, M1, s1, g1, l1, e1, e2, hI1⟩ := a_key hI hk0 (xs (i + 1)) (xs (i + 2)) (xs (i + 3))
  refine lv_aload_n hx hb dL_law_1188 rfl (lv_at hl 1 rfl) ?_
  refine lw_ld (pc2 := 1192) (k := 1) K hW hl (by omega) hL dL_law_1189 dL_law_1190 (fun _ h => lv_iconst (v := nI 1) hx hb dL_law_1191 (by decide) h) dL_law_1192 dL_law_1193 ?_
  refine lw_ld (pc2 := 1197) (k := 2) K hW hl (by omega) hL dL_law_1194 dL_law_1195 (fun _ h => lv_iconst (v := nI 2) hx hb dL_law_1196 (by decide) h) dL_law_1197 dL_law_1198 ?_
  refine lw_ld (pc2 := 1202) (k := 3) K hW hl (by omega) hL dL_law_1199 dL_law_1200 (fun _ h => lv_iconst (v := nI 3) hx hb dL_law_1201 (by decide) h) dL_law_1202 dL_law_1203 ?_
  refine lw_cC (As := [.int (xs (i + 1)), .int (xs (i + 2)), .int (xs (i + 3))]) (rest := []) K hW (c_X11_key l G K.2.2.2.1 _ C (xs (i + 1)) (xs (i + 2)) (xs (i + 3)) _ e1) (cwV 3 hts1 (gV gw1269 gw1270 gw1271 gw2 gw1272) rfl rfl rfl ⟨rfl, hd_X11_key⟩ ⟨Nat.le_of_ble_eq_true rfl, Nat.le_of_ble_eq_true rfl⟩) rfl hl.1 rfl (Nat.le_of_ble_eq_true rfl) dL_law_1204 hf (fun H locs hW => ?_)
  refine lv_aload_n hx hb dL_law_1207 rfl (lv_at hl 2 rfl) ?_
  refine lw_ld (pc2 := 1211) (k := 1) K hW hl (by omega) hL dL_law_1208 dL_law_1209 (fun _ h => lv_iconst (v := nI 1) hx hb dL_law_1210 (by decide) h) dL_law_1211 dL_law_1212 ?_
  refine lw_ld (pc2 := 1216) (k := 2) K hW hl (by omega) hL dL_law_1213 dL_law_1214 (fun _ h => lv_iconst (v := nI 2) hx hb dL_law_1215 (by decide) h) dL_law_1216 dL_law_1217 ?_
  refine lw_ld (pc2 := 1221) (k := 3) K hW hl (by omega) hL dL_law_1218 dL_law_1219 (fun _ h => lv_iconst (v := nI 3) hx hb dL_law_1220 (by decide) h) dL_law_1221 dL_law_1222 ?_
  refine lw_cM (As := [.int (xs (i + 1)), .int (xs (i + 2)), .int (xs (i + 3))]) (rest := [.int r]) K hW (c_X12_key l G K.2.2.2.2.1 _ M (xs (i + 1)) (xs (i + 2)) (xs (i + 3)) _ e2) (cwV 3 hts1 (gV gw1273 gw1274 gw1275 gw5 gw1276) rfl rfl rfl ⟨rfl, hd_X12_key⟩ ⟨Nat.le_of_ble_eq_true rfl, Nat.le_of_ble_eq_true rfl⟩) rfl hl.1 rfl (Nat.le_of_ble_eq_true rfl) dL_law_1223 hf (fun H locs hW => ?_)
  refine lv_icmp_eq (tgt := 1330) hx hb dL_law_1226 (by decide) (fun _ => ?_) (fun h => absurd rfl h)
  exact kk _ _ _ _ _ _ _ hW hI1
set_option maxRecDepth 100000 in
set_option maxHeartbeats 4000000 in
theorem lc_delivered (K : lwK G p s m meth c b L xs) (hL : L ≤ 5120) {i k0 s0 g0 l0 : Nat} (hi : i + 10 ≤ L) (hk0 : k0 < 512) (hW : lwW G s H locs C M) (hI : II k0 s0 g0 l0 C M) (hl : lv_has ls 4 [(0, .ref b), (1, .ref (G.2.2 10 0)), (2, .ref (G.2.2 200 0)), (3, .int (nI i))]) (hf : cells + 0 ≤ room_1.cells ∧ slots + 0 ≤ room_1.slots)
    (kk : ∀ H1 locs1 C1 M1 s1 g1 l1, lwW G s H1 locs1 C1 M1 → II (k0 + 1) s1 g1 l1 C1 M1 → W p l e room_1 s m #[Value.ref b] below meth c H1 locs1 cells slots Q (F0 m 1330 ls [])) : W p l e room_1 s m #[Value.ref b] below meth c H locs cells slots Q (F0 m 1231 ls []) := by
  obtain ⟨hx, hb, -, -, hown, hts, -, -, -, -⟩ := K.1
  have hts1 := K.ts
  obtain ⟨r, C1, M1, s1, g1, l1, e1, e2, hI1⟩ := a_delivered hI hk0 (xs (i + 1)) (xs (i + 2)) (xs (i + 3))
  refine lv_aload_n hx hb dL_law_1231 rfl (lv_at hl 1 rfl) ?_
  refine lw_ld (pc2 := 1235) (k := 1) K hW hl (by omega) hL dL_law_1232 dL_law_1233 (fun _ h => lv_iconst (v := nI 1) hx hb dL_law_1234 (by decide) h) dL_law_1235 dL_law_1236 ?_
  refine lw_ld (pc2 := 1240) (k := 2) K hW hl (by omega) hL dL_law_1237 dL_law_1238 (fun _ h => lv_iconst (v := nI 2) hx hb dL_law_1239 (by decide) h) dL_law_1240 dL_law_1241 ?_
  refine lw_ld (pc2 := 1245) (k := 3) K hW hl (by omega) hL dL_law_1242 dL_law_1243 (fun _ h => lv_iconst (v := nI 3) hx hb dL_law_1244 (by decide) h) dL_law_1245 dL_law_1246 ?_
  refine lw_cC (As := [.int (xs (i + 1)), .int (xs (i + 2)), .int (xs (i + 3))]) (rest := []) K hW (c_X11_delivered l G K.2.2.2.1 _ C (xs (i + 1)) (xs (i + 2)) (xs (i + 3)) _ e1) (cwV 3 hts1 (gV gw1277 gw1278 gw1279 gw2 gw1280) rfl rfl rfl ⟨rfl, hd_X11_delivered⟩ ⟨Nat.le_of_ble_eq_true rfl, Nat.le_of_ble_eq_true rfl⟩) rfl hl.1 rfl (Nat.le_of_ble_eq_true rfl) dL_law_1247 hf (fun H locs hW => ?_)
  refine lv_aload_n hx hb dL_law_1250 rfl (lv_at hl 2 rfl) ?_
  refine lw_ld (pc2 := 1254) (k := 1) K hW hl (by omega) hL dL_law_1251 dL_law_1252 (fun _ h => lv_iconst (v := nI 1) hx hb dL_law_1253 (by decide) h) dL_law_1254 dL_law_1255 ?_
  refine lw_ld (pc2 := 1259) (k := 2) K hW hl (by omega) hL dL_law_1256 dL_law_1257 (fun _ h => lv_iconst (v := nI 2) hx hb dL_law_1258 (by decide) h) dL_law_1259 dL_law_1260 ?_
  refine lw_ld (pc2 := 1264) (k := 3) K hW hl (by omega) hL dL_law_1261 dL_law_1262 (fun _ h => lv_iconst (v := nI 3) hx hb dL_law_1263 (by decide) h) dL_law_1264 dL_law_1265 ?_
  refine lw_cM (As := [.int (xs (i + 1)), .int (xs (i + 2)), .int (xs (i + 3))]) (rest := [.int r]) K hW (c_X12_delivered l G K.2.2.2.2.1 _ M (xs (i + 1)) (xs (i + 2)) (xs (i + 3)) _ e2) (cwV 3 hts1 (gV gw1285 gw1286 gw1287 gw5 gw1288) rfl rfl rfl ⟨rfl, hd_X12_delivered⟩ ⟨Nat.le_of_ble_eq_true rfl, Nat.le_of_ble_eq_true rfl⟩) rfl hl.1 rfl (Nat.le_of_ble_eq_true rfl) dL_law_1266 hf (fun H locs hW => ?_)
  refine lv_icmp_eq (tgt := 1330) hx hb dL_law_1269 (by decide) (fun _ => ?_) (fun h => absurd rfl h)
  exact kk _ _ _ _ _ _ _ hW hI1
set_option maxRecDepth 100000 in
set_option maxHeartbeats 4000000 in
theorem lc_air (K : lwK G p s m meth c b L xs) (hL : L ≤ 5120) {i k0 s0 g0 l0 : Nat} (hi : i + 10 ≤ L) (hk0 : k0 < 512) (hW : lwW G s H locs C M) (hI : II k0 s0 g0 l0 C M) (hl : lv_has ls 4 [(0, .ref b), (1, .ref (G.2.2 10 0)), (2, .ref (G.2.2 200 0)), (3, .int (nI i))]) (hf : cells + 0 ≤ room_1.cells ∧ slots + 0 ≤ room_1.slots)
    (kk : ∀ H1 locs1 C1 M1 s1 g1 l1, lwW G s H1 locs1 C1 M1 → II (k0 + 1) s1 g1 l1 C1 M1 → W p l e room_1 s m #[Value.ref b] below meth c H1 locs1 cells slots Q (F0 m 1330 ls [])) : W p l e room_1 s m #[Value.ref b] below meth c H locs cells slots Q (F0 m 1274 ls []) := by
  obtain ⟨hx, hb, -, -, hown, hts, -, -, -, -⟩ := K.1
  have hts1 := K.ts
  obtain ⟨r, C1, M1, s1, g1, l1, e1, e2, hI1⟩ := a_air hI hk0 (xs (i + 1)) (xs (i + 2))
  refine lv_aload_n hx hb dL_law_1274 rfl (lv_at hl 1 rfl) ?_
  refine lw_ld (pc2 := 1278) (k := 1) K hW hl (by omega) hL dL_law_1275 dL_law_1276 (fun _ h => lv_iconst (v := nI 1) hx hb dL_law_1277 (by decide) h) dL_law_1278 dL_law_1279 ?_
  refine lw_ld (pc2 := 1283) (k := 2) K hW hl (by omega) hL dL_law_1280 dL_law_1281 (fun _ h => lv_iconst (v := nI 2) hx hb dL_law_1282 (by decide) h) dL_law_1283 dL_law_1284 ?_
  refine lw_cC (As := [.int (xs (i + 1)), .int (xs (i + 2))]) (rest := []) K hW (c_X11_air l G K.2.2.2.1 _ C (xs (i + 1)) (xs (i + 2)) _ e1) (cwV 2 hts1 (gV gw1291 gw1292 gw1293 gw2 gw1294) rfl rfl rfl ⟨rfl, hd_X11_air⟩ ⟨Nat.le_of_ble_eq_true rfl, Nat.le_of_ble_eq_true rfl⟩) rfl hl.1 rfl (Nat.le_of_ble_eq_true rfl) dL_law_1285 hf (fun H locs hW => ?_)
  refine lv_aload_n hx hb dL_law_1288 rfl (lv_at hl 2 rfl) ?_
  refine lw_ld (pc2 := 1292) (k := 1) K hW hl (by omega) hL dL_law_1289 dL_law_1290 (fun _ h => lv_iconst (v := nI 1) hx hb dL_law_1291 (by decide) h) dL_law_1292 dL_law_1293 ?_
  refine lw_ld (pc2 := 1297) (k := 2) K hW hl (by omega) hL dL_law_1294 dL_law_1295 (fun _ h => lv_iconst (v := nI 2) hx hb dL_law_1296 (by decide) h) dL_law_1297 dL_law_1298 ?_
  refine lw_cM (As := [.int (xs (i + 1)), .int (xs (i + 2))]) (rest := [.int r]) K hW (c_X12_air l G K.2.2.2.2.1 _ M (xs (i + 1)) (xs (i + 2)) _ e2) (cwV 2 hts1 (gV gw1299 gw1300 gw1301 gw5 gw1302) rfl rfl rfl ⟨rfl, hd_X12_air⟩ ⟨Nat.le_of_ble_eq_true rfl, Nat.le_of_ble_eq_true rfl⟩) rfl hl.1 rfl (Nat.le_of_ble_eq_true rfl) dL_law_1299 hf (fun H locs hW => ?_)
  refine lv_icmp_eq (tgt := 1330) hx hb dL_law_1302 (by decide) (fun _ => ?_) (fun h => absurd rfl h)
  exact kk _ _ _ _ _ _ _ hW hI1
set_option maxRecDepth 100000 in
set_option maxHeartbeats 4000000 in
theorem lc_count (K : lwK G p s m meth c b L xs) (hL : L ≤ 5120) {i k0 s0 g0 l0 : Nat} (hi : i + 10 ≤ L) (hk0 : k0 < 512) (hW : lwW G s H locs C M) (hI : II k0 s0 g0 l0 C M) (hl : lv_has ls 4 [(0, .ref b), (1, .ref (G.2.2 10 0)), (2, .ref (G.2.2 200 0)), (3, .int (nI i))]) (hf : cells + 0 ≤ room_1.cells ∧ slots + 0 ≤ room_1.slots)
    (kk : ∀ H1 locs1 C1 M1 s1 g1 l1, lwW G s H1 locs1 C1 M1 → II (k0 + 1) s1 g1 l1 C1 M1 → W p l e room_1 s m #[Value.ref b] below meth c H1 locs1 cells slots Q (F0 m 1330 ls [])) : W p l e room_1 s m #[Value.ref b] below meth c H locs cells slots Q (F0 m 1307 ls []) := by
  obtain ⟨hx, hb, -, -, hown, hts, -, -, -, -⟩ := K.1
  have hts1 := K.ts
  obtain ⟨r, C1, M1, s1, g1, l1, e1, e2, hI1⟩ := a_count hI hk0 (xs (i + 1))
  refine lv_aload_n hx hb dL_law_1307 rfl (lv_at hl 1 rfl) ?_
  refine lw_ld (pc2 := 1311) (k := 1) K hW hl (by omega) hL dL_law_1308 dL_law_1309 (fun _ h => lv_iconst (v := nI 1) hx hb dL_law_1310 (by decide) h) dL_law_1311 dL_law_1312 ?_
  refine lw_cC (As := [.int (xs (i + 1))]) (rest := []) K hW (c_X11_count l G K.2.2.2.1 _ C (xs (i + 1)) _ e1) (cwV 1 hts1 (gV gw1303 gw1304 gw1305 gw2 gw1306) rfl rfl rfl ⟨rfl, hd_X11_count⟩ ⟨Nat.le_of_ble_eq_true rfl, Nat.le_of_ble_eq_true rfl⟩) rfl hl.1 rfl (Nat.le_of_ble_eq_true rfl) dL_law_1313 hf (fun H locs hW => ?_)
  refine lv_aload_n hx hb dL_law_1316 rfl (lv_at hl 2 rfl) ?_
  refine lw_ld (pc2 := 1320) (k := 1) K hW hl (by omega) hL dL_law_1317 dL_law_1318 (fun _ h => lv_iconst (v := nI 1) hx hb dL_law_1319 (by decide) h) dL_law_1320 dL_law_1321 ?_
  refine lw_cM (As := [.int (xs (i + 1))]) (rest := [.int r]) K hW (c_X12_count l G K.2.2.2.2.1 _ M (xs (i + 1)) _ e2) (cwV 1 hts1 (gV gw1309 gw1310 gw1311 gw5 gw1312) rfl rfl rfl ⟨rfl, hd_X12_count⟩ ⟨Nat.le_of_ble_eq_true rfl, Nat.le_of_ble_eq_true rfl⟩) rfl hl.1 rfl (Nat.le_of_ble_eq_true rfl) dL_law_1322 hf (fun H locs hW => ?_)
  refine lv_icmp_eq (tgt := 1330) hx hb dL_law_1325 (by decide) (fun _ => ?_) (fun h => absurd rfl h)
  exact kk _ _ _ _ _ _ _ hW hI1
end LCAS
