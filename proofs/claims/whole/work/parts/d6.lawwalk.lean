/-! ===== the law: its cases, its loop (by mklawwalk.py) ===== -/
abbrev mL_law : ZM := (⟨RL, "law", "([I)Z"⟩, cL_law, 4, some .boolean)
section ZLAW2
variable {L i : Nat} {xs : Nat → Int32} {d k0 n0 mc ms : Nat} {mt mt' : ZM} {pc idx ci r : Nat} {ls : List (Option Value)} {st fs : List Value} {a0 a1 a2 a3 : Value} {w : ZW} {Q : Option Value → ZW → Prop}
theorem zs_cV0 (hd : decode mt.2.1 pc = .ok (.invokevirtual idx, 3)) (hok : zOk mt' 0) (hv : zVirt mt') (hl : zLk mt.1.cls idx mt'.1) (hr : zat w r (.inr (ci, fs))) (hci : (vwCl[ci]?).map (fun q => q.1) = some mt'.1.cls) (hc : (st.map fun v => v.category).sum ≤ 8) (hll : ls.length = mt.2.2.1) (h1 : k0 ≤ mc) (h2 : n0 ≤ ms) (hM : Zm d mt' 0 0 [.ref r] w (fun v w' => Zs L xs (d + 1) mt (k0, n0, mc, ms) (pc + 3) ls (v.toList ++ st) w' Q)) : Zs L xs (d + 1) mt (k0, n0, mc, ms) pc ls (.ref r :: st) w Q := zs_callV (as := []) (mc' := 0) (ms' := 0) hd hok hv hl hr hci rfl hc hll h1 h2 hM
theorem zs_cV1 (hd : decode mt.2.1 pc = .ok (.invokevirtual idx, 3)) (hok : zOk mt' 1) (hv : zVirt mt') (hl : zLk mt.1.cls idx mt'.1) (hr : zat w r (.inr (ci, fs))) (hci : (vwCl[ci]?).map (fun q => q.1) = some mt'.1.cls) (hc : (st.map fun v => v.category).sum ≤ 8) (hll : ls.length = mt.2.2.1) (h1 : k0 ≤ mc) (h2 : n0 ≤ ms) (hM : Zm d mt' 0 0 [.ref r, a0] w (fun v w' => Zs L xs (d + 1) mt (k0, n0, mc, ms) (pc + 3) ls (v.toList ++ st) w' Q)) : Zs L xs (d + 1) mt (k0, n0, mc, ms) pc ls (a0 :: .ref r :: st) w Q := zs_callV (as := [a0]) (mc' := 0) (ms' := 0) hd hok hv hl hr hci rfl hc hll h1 h2 hM
theorem zs_cV2 (hd : decode mt.2.1 pc = .ok (.invokevirtual idx, 3)) (hok : zOk mt' 2) (hv : zVirt mt') (hl : zLk mt.1.cls idx mt'.1) (hr : zat w r (.inr (ci, fs))) (hci : (vwCl[ci]?).map (fun q => q.1) = some mt'.1.cls) (hc : (st.map fun v => v.category).sum ≤ 8) (hll : ls.length = mt.2.2.1) (h1 : k0 ≤ mc) (h2 : n0 ≤ ms) (hM : Zm d mt' 0 0 [.ref r, a0, a1] w (fun v w' => Zs L xs (d + 1) mt (k0, n0, mc, ms) (pc + 3) ls (v.toList ++ st) w' Q)) : Zs L xs (d + 1) mt (k0, n0, mc, ms) pc ls (a1 :: a0 :: .ref r :: st) w Q := zs_callV (as := [a0, a1]) (mc' := 0) (ms' := 0) hd hok hv hl hr hci rfl hc hll h1 h2 hM
theorem zs_cV3 (hd : decode mt.2.1 pc = .ok (.invokevirtual idx, 3)) (hok : zOk mt' 3) (hv : zVirt mt') (hl : zLk mt.1.cls idx mt'.1) (hr : zat w r (.inr (ci, fs))) (hci : (vwCl[ci]?).map (fun q => q.1) = some mt'.1.cls) (hc : (st.map fun v => v.category).sum ≤ 8) (hll : ls.length = mt.2.2.1) (h1 : k0 ≤ mc) (h2 : n0 ≤ ms) (hM : Zm d mt' 0 0 [.ref r, a0, a1, a2] w (fun v w' => Zs L xs (d + 1) mt (k0, n0, mc, ms) (pc + 3) ls (v.toList ++ st) w' Q)) : Zs L xs (d + 1) mt (k0, n0, mc, ms) pc ls (a2 :: a1 :: a0 :: .ref r :: st) w Q := zs_callV (as := [a0, a1, a2]) (mc' := 0) (ms' := 0) hd hok hv hl hr hci rfl hc hll h1 h2 hM
theorem zs_cV4 (hd : decode mt.2.1 pc = .ok (.invokevirtual idx, 3)) (hok : zOk mt' 4) (hv : zVirt mt') (hl : zLk mt.1.cls idx mt'.1) (hr : zat w r (.inr (ci, fs))) (hci : (vwCl[ci]?).map (fun q => q.1) = some mt'.1.cls) (hc : (st.map fun v => v.category).sum ≤ 8) (hll : ls.length = mt.2.2.1) (h1 : k0 ≤ mc) (h2 : n0 ≤ ms) (hM : Zm d mt' 0 0 [.ref r, a0, a1, a2, a3] w (fun v w' => Zs L xs (d + 1) mt (k0, n0, mc, ms) (pc + 3) ls (v.toList ++ st) w' Q)) : Zs L xs (d + 1) mt (k0, n0, mc, ms) pc ls (a3 :: a2 :: a1 :: a0 :: .ref r :: st) w Q := zs_callV (as := [a0, a1, a2, a3]) (mc' := 0) (ms' := 0) hd hok hv hl hr hci rfl hc hll h1 h2 hM
theorem LI.z0 (h : LI w) : ∃ fs, zat w 0 (.inr (8, fs)) := by
  obtain ⟨C, I0, I1, len, bt, fa, fb, m, bd, no, fu, A, I, hs, hm, hr⟩ := h
  exact ⟨_, hs.1⟩
theorem law_box (hL : L ≤ 320) (hi : i + 5 ≤ L) (h1 : k0 ≤ mc) (h2 : n0 ≤ ms) (h : LI w) (hK : ∀ w2, LI w2 → Zs L xs (d + 22) mL_law (k0, n0, mc, ms) 1149 [some (.ref 1000200), some (.ref 0), some (.ref 74), some (.int (nI i))] [] w2 Q) : Zs L xs (d + 22) mL_law (k0, n0, mc, ms) 196 [some (.ref 1000200), some (.ref 0), some (.ref 74), some (.int (nI i))] [] w Q := by
  obtain ⟨f0, hz0⟩ := h.z0
  refine zs_aload_n dL_law_196 rfl ?_
  refine zs_aload_n dL_law_197 rfl ?_
  refine zs_iload_n dL_law_198 rfl ?_
  refine zs_iconst dL_law_199 1 (by decide) ?_
  refine zs_iadd dL_law_200 ?_
  refine zs_top (y := nI (i + 1)) (nI_add i 1) ?_
  refine zs_sld dL_law_201 (vp_in_nI (n := i + 1) (by omega) (by omega)) ?_
  rw [nI_clamp (by omega)]
  refine zs_aload_n dL_law_202 rfl ?_
  refine zs_iload_n dL_law_203 rfl ?_
  refine zs_iconst dL_law_204 2 (by decide) ?_
  refine zs_iadd dL_law_205 ?_
  refine zs_top (y := nI (i + 2)) (nI_add i 2) ?_
  refine zs_sld dL_law_206 (vp_in_nI (n := i + 2) (by omega) (by omega)) ?_
  rw [nI_clamp (by omega)]
  refine zs_aload_n dL_law_207 rfl ?_
  refine zs_iload_n dL_law_208 rfl ?_
  refine zs_iconst dL_law_209 3 (by decide) ?_
  refine zs_iadd dL_law_210 ?_
  refine zs_top (y := nI (i + 3)) (nI_add i 3) ?_
  refine zs_sld dL_law_211 (vp_in_nI (n := i + 3) (by omega) (by omega)) ?_
  rw [nI_clamp (by omega)]
  refine zs_cV3 dL_law_212 oX8_box kX8_box lL_13 hz0 rfl (Nat.le_of_ble_eq_true rfl) rfl h1 h2 (p_box h (fun v w1 hm => ?_))
  obtain ⟨⟨f1, hz1⟩, hm⟩ := hm
  show Zs L xs (d + 22) mL_law (k0, n0, mc, ms) 215 [some (.ref 1000200), some (.ref 0), some (.ref 74), some (.int (nI i))] [.int v] w1 Q
  refine zs_aload_n dL_law_215 rfl ?_
  refine zs_aload_n dL_law_216 rfl ?_
  refine zs_iload_n dL_law_217 rfl ?_
  refine zs_iconst dL_law_218 1 (by decide) ?_
  refine zs_iadd dL_law_219 ?_
  refine zs_top (y := nI (i + 1)) (nI_add i 1) ?_
  refine zs_sld dL_law_220 (vp_in_nI (n := i + 1) (by omega) (by omega)) ?_
  rw [nI_clamp (by omega)]
  refine zs_aload_n dL_law_221 rfl ?_
  refine zs_iload_n dL_law_222 rfl ?_
  refine zs_iconst dL_law_223 2 (by decide) ?_
  refine zs_iadd dL_law_224 ?_
  refine zs_top (y := nI (i + 2)) (nI_add i 2) ?_
  refine zs_sld dL_law_225 (vp_in_nI (n := i + 2) (by omega) (by omega)) ?_
  rw [nI_clamp (by omega)]
  refine zs_aload_n dL_law_226 rfl ?_
  refine zs_iload_n dL_law_227 rfl ?_
  refine zs_iconst dL_law_228 3 (by decide) ?_
  refine zs_iadd dL_law_229 ?_
  refine zs_top (y := nI (i + 3)) (nI_add i 3) ?_
  refine zs_sld dL_law_230 (vp_in_nI (n := i + 3) (by omega) (by omega)) ?_
  rw [nI_clamp (by omega)]
  refine zs_cV3 dL_law_231 oX9_box kX9_box lL_17 hz1 rfl (Nat.le_of_ble_eq_true rfl) rfl h1 h2 (hm _ (fun w2 h2' => ?_))
  show Zs L xs (d + 22) mL_law (k0, n0, mc, ms) 234 [some (.ref 1000200), some (.ref 0), some (.ref 74), some (.int (nI i))] [.int v, .int v] w2 Q
  refine zs_icmp_eq 1149 dL_law_234 (by decide) (fun _ => ?_) (fun hz => absurd rfl hz)
  exact hK w2 h2'
theorem law_lid (hL : L ≤ 320) (hi : i + 5 ≤ L) (h1 : k0 ≤ mc) (h2 : n0 ≤ ms) (h : LI w) (hK : ∀ w2, LI w2 → Zs L xs (d + 22) mL_law (k0, n0, mc, ms) 1149 [some (.ref 1000200), some (.ref 0), some (.ref 74), some (.int (nI i))] [] w2 Q) : Zs L xs (d + 22) mL_law (k0, n0, mc, ms) 239 [some (.ref 1000200), some (.ref 0), some (.ref 74), some (.int (nI i))] [] w Q := by
  obtain ⟨f0, hz0⟩ := h.z0
  refine zs_aload_n dL_law_239 rfl ?_
  refine zs_aload_n dL_law_240 rfl ?_
  refine zs_iload_n dL_law_241 rfl ?_
  refine zs_iconst dL_law_242 1 (by decide) ?_
  refine zs_iadd dL_law_243 ?_
  refine zs_top (y := nI (i + 1)) (nI_add i 1) ?_
  refine zs_sld dL_law_244 (vp_in_nI (n := i + 1) (by omega) (by omega)) ?_
  rw [nI_clamp (by omega)]
  refine zs_aload_n dL_law_245 rfl ?_
  refine zs_iload_n dL_law_246 rfl ?_
  refine zs_iconst dL_law_247 2 (by decide) ?_
  refine zs_iadd dL_law_248 ?_
  refine zs_top (y := nI (i + 2)) (nI_add i 2) ?_
  refine zs_sld dL_law_249 (vp_in_nI (n := i + 2) (by omega) (by omega)) ?_
  rw [nI_clamp (by omega)]
  refine zs_aload_n dL_law_250 rfl ?_
  refine zs_iload_n dL_law_251 rfl ?_
  refine zs_iconst dL_law_252 3 (by decide) ?_
  refine zs_iadd dL_law_253 ?_
  refine zs_top (y := nI (i + 3)) (nI_add i 3) ?_
  refine zs_sld dL_law_254 (vp_in_nI (n := i + 3) (by omega) (by omega)) ?_
  rw [nI_clamp (by omega)]
  refine zs_cV3 dL_law_255 oX8_lid kX8_lid lL_18 hz0 rfl (Nat.le_of_ble_eq_true rfl) rfl h1 h2 (p_lid h (fun v w1 hm => ?_))
  obtain ⟨⟨f1, hz1⟩, hm⟩ := hm
  show Zs L xs (d + 22) mL_law (k0, n0, mc, ms) 258 [some (.ref 1000200), some (.ref 0), some (.ref 74), some (.int (nI i))] [.int v] w1 Q
  refine zs_aload_n dL_law_258 rfl ?_
  refine zs_aload_n dL_law_259 rfl ?_
  refine zs_iload_n dL_law_260 rfl ?_
  refine zs_iconst dL_law_261 1 (by decide) ?_
  refine zs_iadd dL_law_262 ?_
  refine zs_top (y := nI (i + 1)) (nI_add i 1) ?_
  refine zs_sld dL_law_263 (vp_in_nI (n := i + 1) (by omega) (by omega)) ?_
  rw [nI_clamp (by omega)]
  refine zs_aload_n dL_law_264 rfl ?_
  refine zs_iload_n dL_law_265 rfl ?_
  refine zs_iconst dL_law_266 2 (by decide) ?_
  refine zs_iadd dL_law_267 ?_
  refine zs_top (y := nI (i + 2)) (nI_add i 2) ?_
  refine zs_sld dL_law_268 (vp_in_nI (n := i + 2) (by omega) (by omega)) ?_
  rw [nI_clamp (by omega)]
  refine zs_aload_n dL_law_269 rfl ?_
  refine zs_iload_n dL_law_270 rfl ?_
  refine zs_iconst dL_law_271 3 (by decide) ?_
  refine zs_iadd dL_law_272 ?_
  refine zs_top (y := nI (i + 3)) (nI_add i 3) ?_
  refine zs_sld dL_law_273 (vp_in_nI (n := i + 3) (by omega) (by omega)) ?_
  rw [nI_clamp (by omega)]
  refine zs_cV3 dL_law_274 oX9_lid kX9_lid lL_21 hz1 rfl (Nat.le_of_ble_eq_true rfl) rfl h1 h2 (hm _ (fun w2 h2' => ?_))
  show Zs L xs (d + 22) mL_law (k0, n0, mc, ms) 277 [some (.ref 1000200), some (.ref 0), some (.ref 74), some (.int (nI i))] [.int v, .int v] w2 Q
  refine zs_icmp_eq 1149 dL_law_277 (by decide) (fun _ => ?_) (fun hz => absurd rfl hz)
  exact hK w2 h2'
theorem law_put (hL : L ≤ 320) (hi : i + 5 ≤ L) (h1 : k0 ≤ mc) (h2 : n0 ≤ ms) (h : LI w) (hK : ∀ w2, LI w2 → Zs L xs (d + 22) mL_law (k0, n0, mc, ms) 1149 [some (.ref 1000200), some (.ref 0), some (.ref 74), some (.int (nI i))] [] w2 Q) : Zs L xs (d + 22) mL_law (k0, n0, mc, ms) 282 [some (.ref 1000200), some (.ref 0), some (.ref 74), some (.int (nI i))] [] w Q := by
  obtain ⟨f0, hz0⟩ := h.z0
  refine zs_aload_n dL_law_282 rfl ?_
  refine zs_aload_n dL_law_283 rfl ?_
  refine zs_iload_n dL_law_284 rfl ?_
  refine zs_iconst dL_law_285 1 (by decide) ?_
  refine zs_iadd dL_law_286 ?_
  refine zs_top (y := nI (i + 1)) (nI_add i 1) ?_
  refine zs_sld dL_law_287 (vp_in_nI (n := i + 1) (by omega) (by omega)) ?_
  rw [nI_clamp (by omega)]
  refine zs_aload_n dL_law_288 rfl ?_
  refine zs_iload_n dL_law_289 rfl ?_
  refine zs_iconst dL_law_290 2 (by decide) ?_
  refine zs_iadd dL_law_291 ?_
  refine zs_top (y := nI (i + 2)) (nI_add i 2) ?_
  refine zs_sld dL_law_292 (vp_in_nI (n := i + 2) (by omega) (by omega)) ?_
  rw [nI_clamp (by omega)]
  refine zs_cV2 dL_law_293 oX8_put kX8_put lL_22 hz0 rfl (Nat.le_of_ble_eq_true rfl) rfl h1 h2 (p_put h (fun v w1 hm => ?_))
  obtain ⟨⟨f1, hz1⟩, hm⟩ := hm
  show Zs L xs (d + 22) mL_law (k0, n0, mc, ms) 296 [some (.ref 1000200), some (.ref 0), some (.ref 74), some (.int (nI i))] [.int v] w1 Q
  refine zs_aload_n dL_law_296 rfl ?_
  refine zs_aload_n dL_law_297 rfl ?_
  refine zs_iload_n dL_law_298 rfl ?_
  refine zs_iconst dL_law_299 1 (by decide) ?_
  refine zs_iadd dL_law_300 ?_
  refine zs_top (y := nI (i + 1)) (nI_add i 1) ?_
  refine zs_sld dL_law_301 (vp_in_nI (n := i + 1) (by omega) (by omega)) ?_
  rw [nI_clamp (by omega)]
  refine zs_aload_n dL_law_302 rfl ?_
  refine zs_iload_n dL_law_303 rfl ?_
  refine zs_iconst dL_law_304 2 (by decide) ?_
  refine zs_iadd dL_law_305 ?_
  refine zs_top (y := nI (i + 2)) (nI_add i 2) ?_
  refine zs_sld dL_law_306 (vp_in_nI (n := i + 2) (by omega) (by omega)) ?_
  rw [nI_clamp (by omega)]
  refine zs_cV2 dL_law_307 oX9_put kX9_put lL_26 hz1 rfl (Nat.le_of_ble_eq_true rfl) rfl h1 h2 (hm _ (fun w2 h2' => ?_))
  show Zs L xs (d + 22) mL_law (k0, n0, mc, ms) 310 [some (.ref 1000200), some (.ref 0), some (.ref 74), some (.int (nI i))] [.int v, .int v] w2 Q
  refine zs_icmp_eq 1149 dL_law_310 (by decide) (fun _ => ?_) (fun hz => absurd rfl hz)
  exact hK w2 h2'
theorem law_off (hL : L ≤ 320) (hi : i + 5 ≤ L) (h1 : k0 ≤ mc) (h2 : n0 ≤ ms) (h : LI w) (hK : ∀ w2, LI w2 → Zs L xs (d + 22) mL_law (k0, n0, mc, ms) 1149 [some (.ref 1000200), some (.ref 0), some (.ref 74), some (.int (nI i))] [] w2 Q) : Zs L xs (d + 22) mL_law (k0, n0, mc, ms) 315 [some (.ref 1000200), some (.ref 0), some (.ref 74), some (.int (nI i))] [] w Q := by
  obtain ⟨f0, hz0⟩ := h.z0
  refine zs_aload_n dL_law_315 rfl ?_
  refine zs_aload_n dL_law_316 rfl ?_
  refine zs_iload_n dL_law_317 rfl ?_
  refine zs_iconst dL_law_318 1 (by decide) ?_
  refine zs_iadd dL_law_319 ?_
  refine zs_top (y := nI (i + 1)) (nI_add i 1) ?_
  refine zs_sld dL_law_320 (vp_in_nI (n := i + 1) (by omega) (by omega)) ?_
  rw [nI_clamp (by omega)]
  refine zs_cV1 dL_law_321 oX8_off kX8_off lL_27 hz0 rfl (Nat.le_of_ble_eq_true rfl) rfl h1 h2 (p_off h (fun v w1 hm => ?_))
  obtain ⟨⟨f1, hz1⟩, hm⟩ := hm
  show Zs L xs (d + 22) mL_law (k0, n0, mc, ms) 324 [some (.ref 1000200), some (.ref 0), some (.ref 74), some (.int (nI i))] [.int v] w1 Q
  refine zs_aload_n dL_law_324 rfl ?_
  refine zs_aload_n dL_law_325 rfl ?_
  refine zs_iload_n dL_law_326 rfl ?_
  refine zs_iconst dL_law_327 1 (by decide) ?_
  refine zs_iadd dL_law_328 ?_
  refine zs_top (y := nI (i + 1)) (nI_add i 1) ?_
  refine zs_sld dL_law_329 (vp_in_nI (n := i + 1) (by omega) (by omega)) ?_
  rw [nI_clamp (by omega)]
  refine zs_cV1 dL_law_330 oX9_off kX9_off lL_31 hz1 rfl (Nat.le_of_ble_eq_true rfl) rfl h1 h2 (hm _ (fun w2 h2' => ?_))
  show Zs L xs (d + 22) mL_law (k0, n0, mc, ms) 333 [some (.ref 1000200), some (.ref 0), some (.ref 74), some (.int (nI i))] [.int v, .int v] w2 Q
  refine zs_icmp_eq 1149 dL_law_333 (by decide) (fun _ => ?_) (fun hz => absurd rfl hz)
  exact hK w2 h2'
theorem law_undo (hL : L ≤ 320) (hi : i + 5 ≤ L) (h1 : k0 ≤ mc) (h2 : n0 ≤ ms) (h : LI w) (hK : ∀ w2, LI w2 → Zs L xs (d + 22) mL_law (k0, n0, mc, ms) 1149 [some (.ref 1000200), some (.ref 0), some (.ref 74), some (.int (nI i))] [] w2 Q) : Zs L xs (d + 22) mL_law (k0, n0, mc, ms) 338 [some (.ref 1000200), some (.ref 0), some (.ref 74), some (.int (nI i))] [] w Q := by
  obtain ⟨f0, hz0⟩ := h.z0
  refine zs_aload_n dL_law_338 rfl ?_
  refine zs_cV0 dL_law_339 oX8_undo kX8_undo lL_32 hz0 rfl (Nat.le_of_ble_eq_true rfl) rfl h1 h2 (p_undo h (fun v w1 hm => ?_))
  obtain ⟨⟨f1, hz1⟩, hm⟩ := hm
  show Zs L xs (d + 22) mL_law (k0, n0, mc, ms) 342 [some (.ref 1000200), some (.ref 0), some (.ref 74), some (.int (nI i))] [.int v] w1 Q
  refine zs_aload_n dL_law_342 rfl ?_
  refine zs_cV0 dL_law_343 oX9_undo kX9_undo lL_36 hz1 rfl (Nat.le_of_ble_eq_true rfl) rfl h1 h2 (hm _ (fun w2 h2' => ?_))
  show Zs L xs (d + 22) mL_law (k0, n0, mc, ms) 346 [some (.ref 1000200), some (.ref 0), some (.ref 74), some (.int (nI i))] [.int v, .int v] w2 Q
  refine zs_icmp_eq 1149 dL_law_346 (by decide) (fun _ => ?_) (fun hz => absurd rfl hz)
  exact hK w2 h2'
theorem law_on (hL : L ≤ 320) (hi : i + 5 ≤ L) (h1 : k0 ≤ mc) (h2 : n0 ≤ ms) (h : LI w) (hK : ∀ w2, LI w2 → Zs L xs (d + 22) mL_law (k0, n0, mc, ms) 1149 [some (.ref 1000200), some (.ref 0), some (.ref 74), some (.int (nI i))] [] w2 Q) : Zs L xs (d + 22) mL_law (k0, n0, mc, ms) 351 [some (.ref 1000200), some (.ref 0), some (.ref 74), some (.int (nI i))] [] w Q := by
  obtain ⟨f0, hz0⟩ := h.z0
  refine zs_aload_n dL_law_351 rfl ?_
  refine zs_aload_n dL_law_352 rfl ?_
  refine zs_iload_n dL_law_353 rfl ?_
  refine zs_iconst dL_law_354 1 (by decide) ?_
  refine zs_iadd dL_law_355 ?_
  refine zs_top (y := nI (i + 1)) (nI_add i 1) ?_
  refine zs_sld dL_law_356 (vp_in_nI (n := i + 1) (by omega) (by omega)) ?_
  rw [nI_clamp (by omega)]
  refine zs_cV1 dL_law_357 oX8_on kX8_on lL_37 hz0 rfl (Nat.le_of_ble_eq_true rfl) rfl h1 h2 (p_on h (fun v w1 hm => ?_))
  obtain ⟨⟨f1, hz1⟩, hm⟩ := hm
  show Zs L xs (d + 22) mL_law (k0, n0, mc, ms) 360 [some (.ref 1000200), some (.ref 0), some (.ref 74), some (.int (nI i))] [.int v] w1 Q
  refine zs_aload_n dL_law_360 rfl ?_
  refine zs_aload_n dL_law_361 rfl ?_
  refine zs_iload_n dL_law_362 rfl ?_
  refine zs_iconst dL_law_363 1 (by decide) ?_
  refine zs_iadd dL_law_364 ?_
  refine zs_top (y := nI (i + 1)) (nI_add i 1) ?_
  refine zs_sld dL_law_365 (vp_in_nI (n := i + 1) (by omega) (by omega)) ?_
  rw [nI_clamp (by omega)]
  refine zs_cV1 dL_law_366 oX9_on kX9_on lL_40 hz1 rfl (Nat.le_of_ble_eq_true rfl) rfl h1 h2 (hm _ (fun w2 h2' => ?_))
  show Zs L xs (d + 22) mL_law (k0, n0, mc, ms) 369 [some (.ref 1000200), some (.ref 0), some (.ref 74), some (.int (nI i))] [.int v, .int v] w2 Q
  refine zs_icmp_eq 1149 dL_law_369 (by decide) (fun _ => ?_) (fun hz => absurd rfl hz)
  exact hK w2 h2'
theorem law_grasp (hL : L ≤ 320) (hi : i + 5 ≤ L) (h1 : k0 ≤ mc) (h2 : n0 ≤ ms) (h : LI w) (hK : ∀ w2, LI w2 → Zs L xs (d + 22) mL_law (k0, n0, mc, ms) 1149 [some (.ref 1000200), some (.ref 0), some (.ref 74), some (.int (nI i))] [] w2 Q) : Zs L xs (d + 22) mL_law (k0, n0, mc, ms) 374 [some (.ref 1000200), some (.ref 0), some (.ref 74), some (.int (nI i))] [] w Q := by
  obtain ⟨f0, hz0⟩ := h.z0
  refine zs_aload_n dL_law_374 rfl ?_
  refine zs_aload_n dL_law_375 rfl ?_
  refine zs_iload_n dL_law_376 rfl ?_
  refine zs_iconst dL_law_377 1 (by decide) ?_
  refine zs_iadd dL_law_378 ?_
  refine zs_top (y := nI (i + 1)) (nI_add i 1) ?_
  refine zs_sld dL_law_379 (vp_in_nI (n := i + 1) (by omega) (by omega)) ?_
  rw [nI_clamp (by omega)]
  refine zs_aload_n dL_law_380 rfl ?_
  refine zs_iload_n dL_law_381 rfl ?_
  refine zs_iconst dL_law_382 2 (by decide) ?_
  refine zs_iadd dL_law_383 ?_
  refine zs_top (y := nI (i + 2)) (nI_add i 2) ?_
  refine zs_sld dL_law_384 (vp_in_nI (n := i + 2) (by omega) (by omega)) ?_
  rw [nI_clamp (by omega)]
  refine zs_cV2 dL_law_385 oX8_grasp kX8_grasp lL_41 hz0 rfl (Nat.le_of_ble_eq_true rfl) rfl h1 h2 (p_grasp h (fun v w1 hm => ?_))
  obtain ⟨⟨f1, hz1⟩, hm⟩ := hm
  show Zs L xs (d + 22) mL_law (k0, n0, mc, ms) 388 [some (.ref 1000200), some (.ref 0), some (.ref 74), some (.int (nI i))] [.int v] w1 Q
  refine zs_aload_n dL_law_388 rfl ?_
  refine zs_aload_n dL_law_389 rfl ?_
  refine zs_iload_n dL_law_390 rfl ?_
  refine zs_iconst dL_law_391 1 (by decide) ?_
  refine zs_iadd dL_law_392 ?_
  refine zs_top (y := nI (i + 1)) (nI_add i 1) ?_
  refine zs_sld dL_law_393 (vp_in_nI (n := i + 1) (by omega) (by omega)) ?_
  rw [nI_clamp (by omega)]
  refine zs_aload_n dL_law_394 rfl ?_
  refine zs_iload_n dL_law_395 rfl ?_
  refine zs_iconst dL_law_396 2 (by decide) ?_
  refine zs_iadd dL_law_397 ?_
  refine zs_top (y := nI (i + 2)) (nI_add i 2) ?_
  refine zs_sld dL_law_398 (vp_in_nI (n := i + 2) (by omega) (by omega)) ?_
  rw [nI_clamp (by omega)]
  refine zs_cV2 dL_law_399 oX9_grasp kX9_grasp lL_44 hz1 rfl (Nat.le_of_ble_eq_true rfl) rfl h1 h2 (hm _ (fun w2 h2' => ?_))
  show Zs L xs (d + 22) mL_law (k0, n0, mc, ms) 402 [some (.ref 1000200), some (.ref 0), some (.ref 74), some (.int (nI i))] [.int v, .int v] w2 Q
  refine zs_icmp_eq 1149 dL_law_402 (by decide) (fun _ => ?_) (fun hz => absurd rfl hz)
  exact hK w2 h2'
theorem law_sort (hL : L ≤ 320) (hi : i + 5 ≤ L) (h1 : k0 ≤ mc) (h2 : n0 ≤ ms) (h : LI w) (hK : ∀ w2, LI w2 → Zs L xs (d + 22) mL_law (k0, n0, mc, ms) 1149 [some (.ref 1000200), some (.ref 0), some (.ref 74), some (.int (nI i))] [] w2 Q) : Zs L xs (d + 22) mL_law (k0, n0, mc, ms) 407 [some (.ref 1000200), some (.ref 0), some (.ref 74), some (.int (nI i))] [] w Q := by
  obtain ⟨f0, hz0⟩ := h.z0
  refine zs_aload_n dL_law_407 rfl ?_
  refine zs_aload_n dL_law_408 rfl ?_
  refine zs_iload_n dL_law_409 rfl ?_
  refine zs_iconst dL_law_410 1 (by decide) ?_
  refine zs_iadd dL_law_411 ?_
  refine zs_top (y := nI (i + 1)) (nI_add i 1) ?_
  refine zs_sld dL_law_412 (vp_in_nI (n := i + 1) (by omega) (by omega)) ?_
  rw [nI_clamp (by omega)]
  refine zs_aload_n dL_law_413 rfl ?_
  refine zs_iload_n dL_law_414 rfl ?_
  refine zs_iconst dL_law_415 2 (by decide) ?_
  refine zs_iadd dL_law_416 ?_
  refine zs_top (y := nI (i + 2)) (nI_add i 2) ?_
  refine zs_sld dL_law_417 (vp_in_nI (n := i + 2) (by omega) (by omega)) ?_
  rw [nI_clamp (by omega)]
  refine zs_aload_n dL_law_418 rfl ?_
  refine zs_iload_n dL_law_419 rfl ?_
  refine zs_iconst dL_law_420 3 (by decide) ?_
  refine zs_iadd dL_law_421 ?_
  refine zs_top (y := nI (i + 3)) (nI_add i 3) ?_
  refine zs_sld dL_law_422 (vp_in_nI (n := i + 3) (by omega) (by omega)) ?_
  rw [nI_clamp (by omega)]
  refine zs_aload_n dL_law_423 rfl ?_
  refine zs_iload_n dL_law_424 rfl ?_
  refine zs_iconst dL_law_425 4 (by decide) ?_
  refine zs_iadd dL_law_426 ?_
  refine zs_top (y := nI (i + 4)) (nI_add i 4) ?_
  refine zs_sld dL_law_427 (vp_in_nI (n := i + 4) (by omega) (by omega)) ?_
  rw [nI_clamp (by omega)]
  refine zs_cV4 dL_law_428 oX8_sort kX8_sort lL_45 hz0 rfl (Nat.le_of_ble_eq_true rfl) rfl h1 h2 (p_sort h (fun v w1 hm => ?_))
  obtain ⟨⟨f1, hz1⟩, hm⟩ := hm
  show Zs L xs (d + 22) mL_law (k0, n0, mc, ms) 431 [some (.ref 1000200), some (.ref 0), some (.ref 74), some (.int (nI i))] [.int v] w1 Q
  refine zs_aload_n dL_law_431 rfl ?_
  refine zs_aload_n dL_law_432 rfl ?_
  refine zs_iload_n dL_law_433 rfl ?_
  refine zs_iconst dL_law_434 1 (by decide) ?_
  refine zs_iadd dL_law_435 ?_
  refine zs_top (y := nI (i + 1)) (nI_add i 1) ?_
  refine zs_sld dL_law_436 (vp_in_nI (n := i + 1) (by omega) (by omega)) ?_
  rw [nI_clamp (by omega)]
  refine zs_aload_n dL_law_437 rfl ?_
  refine zs_iload_n dL_law_438 rfl ?_
  refine zs_iconst dL_law_439 2 (by decide) ?_
  refine zs_iadd dL_law_440 ?_
  refine zs_top (y := nI (i + 2)) (nI_add i 2) ?_
  refine zs_sld dL_law_441 (vp_in_nI (n := i + 2) (by omega) (by omega)) ?_
  rw [nI_clamp (by omega)]
  refine zs_aload_n dL_law_442 rfl ?_
  refine zs_iload_n dL_law_443 rfl ?_
  refine zs_iconst dL_law_444 3 (by decide) ?_
  refine zs_iadd dL_law_445 ?_
  refine zs_top (y := nI (i + 3)) (nI_add i 3) ?_
  refine zs_sld dL_law_446 (vp_in_nI (n := i + 3) (by omega) (by omega)) ?_
  rw [nI_clamp (by omega)]
  refine zs_aload_n dL_law_447 rfl ?_
  refine zs_iload_n dL_law_448 rfl ?_
  refine zs_iconst dL_law_449 4 (by decide) ?_
  refine zs_iadd dL_law_450 ?_
  refine zs_top (y := nI (i + 4)) (nI_add i 4) ?_
  refine zs_sld dL_law_451 (vp_in_nI (n := i + 4) (by omega) (by omega)) ?_
  rw [nI_clamp (by omega)]
  refine zs_cV4 dL_law_452 oX9_sort kX9_sort lL_49 hz1 rfl (Nat.le_of_ble_eq_true rfl) rfl h1 h2 (hm _ (fun w2 h2' => ?_))
  show Zs L xs (d + 22) mL_law (k0, n0, mc, ms) 455 [some (.ref 1000200), some (.ref 0), some (.ref 74), some (.int (nI i))] [.int v, .int v] w2 Q
  refine zs_icmp_eq 1149 dL_law_455 (by decide) (fun _ => ?_) (fun hz => absurd rfl hz)
  exact hK w2 h2'
theorem law_eye (hL : L ≤ 320) (hi : i + 5 ≤ L) (h1 : k0 ≤ mc) (h2 : n0 ≤ ms) (h : LI w) (hK : ∀ w2, LI w2 → Zs L xs (d + 22) mL_law (k0, n0, mc, ms) 1149 [some (.ref 1000200), some (.ref 0), some (.ref 74), some (.int (nI i))] [] w2 Q) : Zs L xs (d + 22) mL_law (k0, n0, mc, ms) 460 [some (.ref 1000200), some (.ref 0), some (.ref 74), some (.int (nI i))] [] w Q := by
  obtain ⟨f0, hz0⟩ := h.z0
  refine zs_aload_n dL_law_460 rfl ?_
  refine zs_aload_n dL_law_461 rfl ?_
  refine zs_iload_n dL_law_462 rfl ?_
  refine zs_iconst dL_law_463 1 (by decide) ?_
  refine zs_iadd dL_law_464 ?_
  refine zs_top (y := nI (i + 1)) (nI_add i 1) ?_
  refine zs_sld dL_law_465 (vp_in_nI (n := i + 1) (by omega) (by omega)) ?_
  rw [nI_clamp (by omega)]
  refine zs_aload_n dL_law_466 rfl ?_
  refine zs_iload_n dL_law_467 rfl ?_
  refine zs_iconst dL_law_468 2 (by decide) ?_
  refine zs_iadd dL_law_469 ?_
  refine zs_top (y := nI (i + 2)) (nI_add i 2) ?_
  refine zs_sld dL_law_470 (vp_in_nI (n := i + 2) (by omega) (by omega)) ?_
  rw [nI_clamp (by omega)]
  refine zs_cV2 dL_law_471 oX8_eye kX8_eye lL_50 hz0 rfl (Nat.le_of_ble_eq_true rfl) rfl h1 h2 (p_eye h (fun v w1 hm => ?_))
  obtain ⟨⟨f1, hz1⟩, hm⟩ := hm
  show Zs L xs (d + 22) mL_law (k0, n0, mc, ms) 474 [some (.ref 1000200), some (.ref 0), some (.ref 74), some (.int (nI i))] [.int v] w1 Q
  refine zs_aload_n dL_law_474 rfl ?_
  refine zs_aload_n dL_law_475 rfl ?_
  refine zs_iload_n dL_law_476 rfl ?_
  refine zs_iconst dL_law_477 1 (by decide) ?_
  refine zs_iadd dL_law_478 ?_
  refine zs_top (y := nI (i + 1)) (nI_add i 1) ?_
  refine zs_sld dL_law_479 (vp_in_nI (n := i + 1) (by omega) (by omega)) ?_
  rw [nI_clamp (by omega)]
  refine zs_aload_n dL_law_480 rfl ?_
  refine zs_iload_n dL_law_481 rfl ?_
  refine zs_iconst dL_law_482 2 (by decide) ?_
  refine zs_iadd dL_law_483 ?_
  refine zs_top (y := nI (i + 2)) (nI_add i 2) ?_
  refine zs_sld dL_law_484 (vp_in_nI (n := i + 2) (by omega) (by omega)) ?_
  rw [nI_clamp (by omega)]
  refine zs_cV2 dL_law_485 oX9_eye kX9_eye lL_53 hz1 rfl (Nat.le_of_ble_eq_true rfl) rfl h1 h2 (hm _ (fun w2 h2' => ?_))
  show Zs L xs (d + 22) mL_law (k0, n0, mc, ms) 488 [some (.ref 1000200), some (.ref 0), some (.ref 74), some (.int (nI i))] [.int v, .int v] w2 Q
  refine zs_icmp_eq 1149 dL_law_488 (by decide) (fun _ => ?_) (fun hz => absurd rfl hz)
  exact hK w2 h2'
theorem law_type (hL : L ≤ 320) (hi : i + 5 ≤ L) (h1 : k0 ≤ mc) (h2 : n0 ≤ ms) (h : LI w) (hK : ∀ w2, LI w2 → Zs L xs (d + 22) mL_law (k0, n0, mc, ms) 1149 [some (.ref 1000200), some (.ref 0), some (.ref 74), some (.int (nI i))] [] w2 Q) : Zs L xs (d + 22) mL_law (k0, n0, mc, ms) 493 [some (.ref 1000200), some (.ref 0), some (.ref 74), some (.int (nI i))] [] w Q := by
  obtain ⟨f0, hz0⟩ := h.z0
  refine zs_aload_n dL_law_493 rfl ?_
  refine zs_aload_n dL_law_494 rfl ?_
  refine zs_iload_n dL_law_495 rfl ?_
  refine zs_iconst dL_law_496 1 (by decide) ?_
  refine zs_iadd dL_law_497 ?_
  refine zs_top (y := nI (i + 1)) (nI_add i 1) ?_
  refine zs_sld dL_law_498 (vp_in_nI (n := i + 1) (by omega) (by omega)) ?_
  rw [nI_clamp (by omega)]
  refine zs_cV1 dL_law_499 oX8_type kX8_type lL_54 hz0 rfl (Nat.le_of_ble_eq_true rfl) rfl h1 h2 (p_type h (fun v w1 hm => ?_))
  obtain ⟨⟨f1, hz1⟩, hm⟩ := hm
  show Zs L xs (d + 22) mL_law (k0, n0, mc, ms) 502 [some (.ref 1000200), some (.ref 0), some (.ref 74), some (.int (nI i))] [.int v] w1 Q
  refine zs_aload_n dL_law_502 rfl ?_
  refine zs_aload_n dL_law_503 rfl ?_
  refine zs_iload_n dL_law_504 rfl ?_
  refine zs_iconst dL_law_505 1 (by decide) ?_
  refine zs_iadd dL_law_506 ?_
  refine zs_top (y := nI (i + 1)) (nI_add i 1) ?_
  refine zs_sld dL_law_507 (vp_in_nI (n := i + 1) (by omega) (by omega)) ?_
  rw [nI_clamp (by omega)]
  refine zs_cV1 dL_law_508 oX9_type kX9_type lL_57 hz1 rfl (Nat.le_of_ble_eq_true rfl) rfl h1 h2 (hm _ (fun w2 h2' => ?_))
  show Zs L xs (d + 22) mL_law (k0, n0, mc, ms) 511 [some (.ref 1000200), some (.ref 0), some (.ref 74), some (.int (nI i))] [.int v, .int v] w2 Q
  refine zs_icmp_eq 1149 dL_law_511 (by decide) (fun _ => ?_) (fun hz => absurd rfl hz)
  exact hK w2 h2'
theorem law_clear (hL : L ≤ 320) (hi : i + 5 ≤ L) (h1 : k0 ≤ mc) (h2 : n0 ≤ ms) (h : LI w) (hK : ∀ w2, LI w2 → Zs L xs (d + 22) mL_law (k0, n0, mc, ms) 1149 [some (.ref 1000200), some (.ref 0), some (.ref 74), some (.int (nI i))] [] w2 Q) : Zs L xs (d + 22) mL_law (k0, n0, mc, ms) 516 [some (.ref 1000200), some (.ref 0), some (.ref 74), some (.int (nI i))] [] w Q := by
  obtain ⟨f0, hz0⟩ := h.z0
  refine zs_aload_n dL_law_516 rfl ?_
  refine zs_cV0 dL_law_517 oX8_clear kX8_clear lL_58 hz0 rfl (Nat.le_of_ble_eq_true rfl) rfl h1 h2 (p_clear h (fun v w1 hm => ?_))
  obtain ⟨⟨f1, hz1⟩, hm⟩ := hm
  show Zs L xs (d + 22) mL_law (k0, n0, mc, ms) 520 [some (.ref 1000200), some (.ref 0), some (.ref 74), some (.int (nI i))] [.int v] w1 Q
  refine zs_aload_n dL_law_520 rfl ?_
  refine zs_cV0 dL_law_521 oX9_clear kX9_clear lL_61 hz1 rfl (Nat.le_of_ble_eq_true rfl) rfl h1 h2 (hm _ (fun w2 h2' => ?_))
  show Zs L xs (d + 22) mL_law (k0, n0, mc, ms) 524 [some (.ref 1000200), some (.ref 0), some (.ref 74), some (.int (nI i))] [.int v, .int v] w2 Q
  refine zs_icmp_eq 1149 dL_law_524 (by decide) (fun _ => ?_) (fun hz => absurd rfl hz)
  exact hK w2 h2'
theorem law_read (hL : L ≤ 320) (hi : i + 5 ≤ L) (h1 : k0 ≤ mc) (h2 : n0 ≤ ms) (h : LI w) (hK : ∀ w2, LI w2 → Zs L xs (d + 22) mL_law (k0, n0, mc, ms) 1149 [some (.ref 1000200), some (.ref 0), some (.ref 74), some (.int (nI i))] [] w2 Q) : Zs L xs (d + 22) mL_law (k0, n0, mc, ms) 529 [some (.ref 1000200), some (.ref 0), some (.ref 74), some (.int (nI i))] [] w Q := by
  obtain ⟨f0, hz0⟩ := h.z0
  refine zs_aload_n dL_law_529 rfl ?_
  refine zs_cV0 dL_law_530 oX8_read kX8_read lL_62 hz0 rfl (Nat.le_of_ble_eq_true rfl) rfl h1 h2 (p_read h (fun v w1 hm => ?_))
  obtain ⟨⟨f1, hz1⟩, hm⟩ := hm
  show Zs L xs (d + 22) mL_law (k0, n0, mc, ms) 533 [some (.ref 1000200), some (.ref 0), some (.ref 74), some (.int (nI i))] [.int v] w1 Q
  refine zs_aload_n dL_law_533 rfl ?_
  refine zs_cV0 dL_law_534 oX9_read kX9_read lL_65 hz1 rfl (Nat.le_of_ble_eq_true rfl) rfl h1 h2 (hm _ (fun w2 h2' => ?_))
  show Zs L xs (d + 22) mL_law (k0, n0, mc, ms) 537 [some (.ref 1000200), some (.ref 0), some (.ref 74), some (.int (nI i))] [.int v, .int v] w2 Q
  refine zs_icmp_eq 1149 dL_law_537 (by decide) (fun _ => ?_) (fun hz => absurd rfl hz)
  exact hK w2 h2'
theorem law_fits (hL : L ≤ 320) (hi : i + 5 ≤ L) (h1 : k0 ≤ mc) (h2 : n0 ≤ ms) (h : LI w) (hK : ∀ w2, LI w2 → Zs L xs (d + 22) mL_law (k0, n0, mc, ms) 1149 [some (.ref 1000200), some (.ref 0), some (.ref 74), some (.int (nI i))] [] w2 Q) : Zs L xs (d + 22) mL_law (k0, n0, mc, ms) 542 [some (.ref 1000200), some (.ref 0), some (.ref 74), some (.int (nI i))] [] w Q := by
  obtain ⟨f0, hz0⟩ := h.z0
  refine zs_aload_n dL_law_542 rfl ?_
  refine zs_aload_n dL_law_543 rfl ?_
  refine zs_iload_n dL_law_544 rfl ?_
  refine zs_iconst dL_law_545 1 (by decide) ?_
  refine zs_iadd dL_law_546 ?_
  refine zs_top (y := nI (i + 1)) (nI_add i 1) ?_
  refine zs_sld dL_law_547 (vp_in_nI (n := i + 1) (by omega) (by omega)) ?_
  rw [nI_clamp (by omega)]
  refine zs_cV1 dL_law_548 oX8_fits kX8_fits lL_66 hz0 rfl (Nat.le_of_ble_eq_true rfl) rfl h1 h2 (p_fits h (fun v w1 hm => ?_))
  obtain ⟨⟨f1, hz1⟩, hm⟩ := hm
  show Zs L xs (d + 22) mL_law (k0, n0, mc, ms) 551 [some (.ref 1000200), some (.ref 0), some (.ref 74), some (.int (nI i))] [.int v] w1 Q
  refine zs_aload_n dL_law_551 rfl ?_
  refine zs_aload_n dL_law_552 rfl ?_
  refine zs_iload_n dL_law_553 rfl ?_
  refine zs_iconst dL_law_554 1 (by decide) ?_
  refine zs_iadd dL_law_555 ?_
  refine zs_top (y := nI (i + 1)) (nI_add i 1) ?_
  refine zs_sld dL_law_556 (vp_in_nI (n := i + 1) (by omega) (by omega)) ?_
  rw [nI_clamp (by omega)]
  refine zs_cV1 dL_law_557 oX9_fits kX9_fits lL_69 hz1 rfl (Nat.le_of_ble_eq_true rfl) rfl h1 h2 (hm _ (fun w2 h2' => ?_))
  show Zs L xs (d + 22) mL_law (k0, n0, mc, ms) 560 [some (.ref 1000200), some (.ref 0), some (.ref 74), some (.int (nI i))] [.int v, .int v] w2 Q
  refine zs_icmp_eq 1149 dL_law_560 (by decide) (fun _ => ?_) (fun hz => absurd rfl hz)
  exact hK w2 h2'
theorem law_most (hL : L ≤ 320) (hi : i + 5 ≤ L) (h1 : k0 ≤ mc) (h2 : n0 ≤ ms) (h : LI w) (hK : ∀ w2, LI w2 → Zs L xs (d + 22) mL_law (k0, n0, mc, ms) 1149 [some (.ref 1000200), some (.ref 0), some (.ref 74), some (.int (nI i))] [] w2 Q) : Zs L xs (d + 22) mL_law (k0, n0, mc, ms) 565 [some (.ref 1000200), some (.ref 0), some (.ref 74), some (.int (nI i))] [] w Q := by
  obtain ⟨f0, hz0⟩ := h.z0
  refine zs_aload_n dL_law_565 rfl ?_
  refine zs_aload_n dL_law_566 rfl ?_
  refine zs_iload_n dL_law_567 rfl ?_
  refine zs_iconst dL_law_568 1 (by decide) ?_
  refine zs_iadd dL_law_569 ?_
  refine zs_top (y := nI (i + 1)) (nI_add i 1) ?_
  refine zs_sld dL_law_570 (vp_in_nI (n := i + 1) (by omega) (by omega)) ?_
  rw [nI_clamp (by omega)]
  refine zs_cV1 dL_law_571 oX8_most kX8_most lL_70 hz0 rfl (Nat.le_of_ble_eq_true rfl) rfl h1 h2 (p_most h (fun v w1 hm => ?_))
  obtain ⟨⟨f1, hz1⟩, hm⟩ := hm
  show Zs L xs (d + 22) mL_law (k0, n0, mc, ms) 574 [some (.ref 1000200), some (.ref 0), some (.ref 74), some (.int (nI i))] [.int v] w1 Q
  refine zs_aload_n dL_law_574 rfl ?_
  refine zs_aload_n dL_law_575 rfl ?_
  refine zs_iload_n dL_law_576 rfl ?_
  refine zs_iconst dL_law_577 1 (by decide) ?_
  refine zs_iadd dL_law_578 ?_
  refine zs_top (y := nI (i + 1)) (nI_add i 1) ?_
  refine zs_sld dL_law_579 (vp_in_nI (n := i + 1) (by omega) (by omega)) ?_
  rw [nI_clamp (by omega)]
  refine zs_cV1 dL_law_580 oX9_most kX9_most lL_73 hz1 rfl (Nat.le_of_ble_eq_true rfl) rfl h1 h2 (hm _ (fun w2 h2' => ?_))
  show Zs L xs (d + 22) mL_law (k0, n0, mc, ms) 583 [some (.ref 1000200), some (.ref 0), some (.ref 74), some (.int (nI i))] [.int v, .int v] w2 Q
  refine zs_icmp_eq 1149 dL_law_583 (by decide) (fun _ => ?_) (fun hz => absurd rfl hz)
  exact hK w2 h2'
theorem law_lacking (hL : L ≤ 320) (hi : i + 5 ≤ L) (h1 : k0 ≤ mc) (h2 : n0 ≤ ms) (h : LI w) (hK : ∀ w2, LI w2 → Zs L xs (d + 22) mL_law (k0, n0, mc, ms) 1149 [some (.ref 1000200), some (.ref 0), some (.ref 74), some (.int (nI i))] [] w2 Q) : Zs L xs (d + 22) mL_law (k0, n0, mc, ms) 588 [some (.ref 1000200), some (.ref 0), some (.ref 74), some (.int (nI i))] [] w Q := by
  obtain ⟨f0, hz0⟩ := h.z0
  refine zs_aload_n dL_law_588 rfl ?_
  refine zs_cV0 dL_law_589 oX8_lacking kX8_lacking lL_74 hz0 rfl (Nat.le_of_ble_eq_true rfl) rfl h1 h2 (p_lacking h (fun v w1 hm => ?_))
  obtain ⟨⟨f1, hz1⟩, hm⟩ := hm
  show Zs L xs (d + 22) mL_law (k0, n0, mc, ms) 592 [some (.ref 1000200), some (.ref 0), some (.ref 74), some (.int (nI i))] [.int v] w1 Q
  refine zs_aload_n dL_law_592 rfl ?_
  refine zs_cV0 dL_law_593 oX9_lacking kX9_lacking lL_77 hz1 rfl (Nat.le_of_ble_eq_true rfl) rfl h1 h2 (hm _ (fun w2 h2' => ?_))
  show Zs L xs (d + 22) mL_law (k0, n0, mc, ms) 596 [some (.ref 1000200), some (.ref 0), some (.ref 74), some (.int (nI i))] [.int v, .int v] w2 Q
  refine zs_icmp_eq 1149 dL_law_596 (by decide) (fun _ => ?_) (fun hz => absurd rfl hz)
  exact hK w2 h2'
theorem law_soup (hL : L ≤ 320) (hi : i + 5 ≤ L) (h1 : k0 ≤ mc) (h2 : n0 ≤ ms) (h : LI w) (hK : ∀ w2, LI w2 → Zs L xs (d + 22) mL_law (k0, n0, mc, ms) 1149 [some (.ref 1000200), some (.ref 0), some (.ref 74), some (.int (nI i))] [] w2 Q) : Zs L xs (d + 22) mL_law (k0, n0, mc, ms) 601 [some (.ref 1000200), some (.ref 0), some (.ref 74), some (.int (nI i))] [] w Q := by
  obtain ⟨f0, hz0⟩ := h.z0
  refine zs_aload_n dL_law_601 rfl ?_
  refine zs_aload_n dL_law_602 rfl ?_
  refine zs_iload_n dL_law_603 rfl ?_
  refine zs_iconst dL_law_604 1 (by decide) ?_
  refine zs_iadd dL_law_605 ?_
  refine zs_top (y := nI (i + 1)) (nI_add i 1) ?_
  refine zs_sld dL_law_606 (vp_in_nI (n := i + 1) (by omega) (by omega)) ?_
  rw [nI_clamp (by omega)]
  refine zs_aload_n dL_law_607 rfl ?_
  refine zs_iload_n dL_law_608 rfl ?_
  refine zs_iconst dL_law_609 2 (by decide) ?_
  refine zs_iadd dL_law_610 ?_
  refine zs_top (y := nI (i + 2)) (nI_add i 2) ?_
  refine zs_sld dL_law_611 (vp_in_nI (n := i + 2) (by omega) (by omega)) ?_
  rw [nI_clamp (by omega)]
  refine zs_cV2 dL_law_612 oX8_soup kX8_soup lL_78 hz0 rfl (Nat.le_of_ble_eq_true rfl) rfl h1 h2 (p_soup h (fun v w1 hm => ?_))
  obtain ⟨⟨f1, hz1⟩, hm⟩ := hm
  show Zs L xs (d + 22) mL_law (k0, n0, mc, ms) 615 [some (.ref 1000200), some (.ref 0), some (.ref 74), some (.int (nI i))] [.int v] w1 Q
  refine zs_aload_n dL_law_615 rfl ?_
  refine zs_aload_n dL_law_616 rfl ?_
  refine zs_iload_n dL_law_617 rfl ?_
  refine zs_iconst dL_law_618 1 (by decide) ?_
  refine zs_iadd dL_law_619 ?_
  refine zs_top (y := nI (i + 1)) (nI_add i 1) ?_
  refine zs_sld dL_law_620 (vp_in_nI (n := i + 1) (by omega) (by omega)) ?_
  rw [nI_clamp (by omega)]
  refine zs_aload_n dL_law_621 rfl ?_
  refine zs_iload_n dL_law_622 rfl ?_
  refine zs_iconst dL_law_623 2 (by decide) ?_
  refine zs_iadd dL_law_624 ?_
  refine zs_top (y := nI (i + 2)) (nI_add i 2) ?_
  refine zs_sld dL_law_625 (vp_in_nI (n := i + 2) (by omega) (by omega)) ?_
  rw [nI_clamp (by omega)]
  refine zs_cV2 dL_law_626 oX9_soup kX9_soup lL_81 hz1 rfl (Nat.le_of_ble_eq_true rfl) rfl h1 h2 (hm _ (fun w2 h2' => ?_))
  show Zs L xs (d + 22) mL_law (k0, n0, mc, ms) 629 [some (.ref 1000200), some (.ref 0), some (.ref 74), some (.int (nI i))] [.int v, .int v] w2 Q
  refine zs_icmp_eq 1149 dL_law_629 (by decide) (fun _ => ?_) (fun hz => absurd rfl hz)
  exact hK w2 h2'
theorem law_much (hL : L ≤ 320) (hi : i + 5 ≤ L) (h1 : k0 ≤ mc) (h2 : n0 ≤ ms) (h : LI w) (hK : ∀ w2, LI w2 → Zs L xs (d + 22) mL_law (k0, n0, mc, ms) 1149 [some (.ref 1000200), some (.ref 0), some (.ref 74), some (.int (nI i))] [] w2 Q) : Zs L xs (d + 22) mL_law (k0, n0, mc, ms) 634 [some (.ref 1000200), some (.ref 0), some (.ref 74), some (.int (nI i))] [] w Q := by
  obtain ⟨f0, hz0⟩ := h.z0
  refine zs_aload_n dL_law_634 rfl ?_
  refine zs_cV0 dL_law_635 oX8_much kX8_much lL_82 hz0 rfl (Nat.le_of_ble_eq_true rfl) rfl h1 h2 (p_much h (fun v w1 hm => ?_))
  obtain ⟨⟨f1, hz1⟩, hm⟩ := hm
  show Zs L xs (d + 22) mL_law (k0, n0, mc, ms) 638 [some (.ref 1000200), some (.ref 0), some (.ref 74), some (.int (nI i))] [.int v] w1 Q
  refine zs_aload_n dL_law_638 rfl ?_
  refine zs_cV0 dL_law_639 oX9_much kX9_much lL_85 hz1 rfl (Nat.le_of_ble_eq_true rfl) rfl h1 h2 (hm _ (fun w2 h2' => ?_))
  show Zs L xs (d + 22) mL_law (k0, n0, mc, ms) 642 [some (.ref 1000200), some (.ref 0), some (.ref 74), some (.int (nI i))] [.int v, .int v] w2 Q
  refine zs_icmp_eq 1149 dL_law_642 (by decide) (fun _ => ?_) (fun hz => absurd rfl hz)
  exact hK w2 h2'
theorem law_worth (hL : L ≤ 320) (hi : i + 5 ≤ L) (h1 : k0 ≤ mc) (h2 : n0 ≤ ms) (h : LI w) (hK : ∀ w2, LI w2 → Zs L xs (d + 22) mL_law (k0, n0, mc, ms) 1149 [some (.ref 1000200), some (.ref 0), some (.ref 74), some (.int (nI i))] [] w2 Q) : Zs L xs (d + 22) mL_law (k0, n0, mc, ms) 647 [some (.ref 1000200), some (.ref 0), some (.ref 74), some (.int (nI i))] [] w Q := by
  obtain ⟨f0, hz0⟩ := h.z0
  refine zs_aload_n dL_law_647 rfl ?_
  refine zs_aload_n dL_law_648 rfl ?_
  refine zs_iload_n dL_law_649 rfl ?_
  refine zs_iconst dL_law_650 1 (by decide) ?_
  refine zs_iadd dL_law_651 ?_
  refine zs_top (y := nI (i + 1)) (nI_add i 1) ?_
  refine zs_sld dL_law_652 (vp_in_nI (n := i + 1) (by omega) (by omega)) ?_
  rw [nI_clamp (by omega)]
  refine zs_cV1 dL_law_653 oX8_worth kX8_worth lL_86 hz0 rfl (Nat.le_of_ble_eq_true rfl) rfl h1 h2 (p_worth h (fun v w1 hm => ?_))
  obtain ⟨⟨f1, hz1⟩, hm⟩ := hm
  show Zs L xs (d + 22) mL_law (k0, n0, mc, ms) 656 [some (.ref 1000200), some (.ref 0), some (.ref 74), some (.int (nI i))] [.int v] w1 Q
  refine zs_aload_n dL_law_656 rfl ?_
  refine zs_aload_n dL_law_657 rfl ?_
  refine zs_iload_n dL_law_658 rfl ?_
  refine zs_iconst dL_law_659 1 (by decide) ?_
  refine zs_iadd dL_law_660 ?_
  refine zs_top (y := nI (i + 1)) (nI_add i 1) ?_
  refine zs_sld dL_law_661 (vp_in_nI (n := i + 1) (by omega) (by omega)) ?_
  rw [nI_clamp (by omega)]
  refine zs_cV1 dL_law_662 oX9_worth kX9_worth lL_89 hz1 rfl (Nat.le_of_ble_eq_true rfl) rfl h1 h2 (hm _ (fun w2 h2' => ?_))
  show Zs L xs (d + 22) mL_law (k0, n0, mc, ms) 665 [some (.ref 1000200), some (.ref 0), some (.ref 74), some (.int (nI i))] [.int v, .int v] w2 Q
  refine zs_icmp_eq 1149 dL_law_665 (by decide) (fun _ => ?_) (fun hz => absurd rfl hz)
  exact hK w2 h2'
theorem law_spare (hL : L ≤ 320) (hi : i + 5 ≤ L) (h1 : k0 ≤ mc) (h2 : n0 ≤ ms) (h : LI w) (hK : ∀ w2, LI w2 → Zs L xs (d + 22) mL_law (k0, n0, mc, ms) 1149 [some (.ref 1000200), some (.ref 0), some (.ref 74), some (.int (nI i))] [] w2 Q) : Zs L xs (d + 22) mL_law (k0, n0, mc, ms) 670 [some (.ref 1000200), some (.ref 0), some (.ref 74), some (.int (nI i))] [] w Q := by
  obtain ⟨f0, hz0⟩ := h.z0
  refine zs_aload_n dL_law_670 rfl ?_
  refine zs_cV0 dL_law_671 oX8_spare kX8_spare lL_90 hz0 rfl (Nat.le_of_ble_eq_true rfl) rfl h1 h2 (p_spare h (fun v w1 hm => ?_))
  obtain ⟨⟨f1, hz1⟩, hm⟩ := hm
  show Zs L xs (d + 22) mL_law (k0, n0, mc, ms) 674 [some (.ref 1000200), some (.ref 0), some (.ref 74), some (.int (nI i))] [.int v] w1 Q
  refine zs_aload_n dL_law_674 rfl ?_
  refine zs_cV0 dL_law_675 oX9_spare kX9_spare lL_93 hz1 rfl (Nat.le_of_ble_eq_true rfl) rfl h1 h2 (hm _ (fun w2 h2' => ?_))
  show Zs L xs (d + 22) mL_law (k0, n0, mc, ms) 678 [some (.ref 1000200), some (.ref 0), some (.ref 74), some (.int (nI i))] [.int v, .int v] w2 Q
  refine zs_icmp_eq 1149 dL_law_678 (by decide) (fun _ => ?_) (fun hz => absurd rfl hz)
  exact hK w2 h2'
theorem law_piles (hL : L ≤ 320) (hi : i + 5 ≤ L) (h1 : k0 ≤ mc) (h2 : n0 ≤ ms) (h : LI w) (hK : ∀ w2, LI w2 → Zs L xs (d + 22) mL_law (k0, n0, mc, ms) 1149 [some (.ref 1000200), some (.ref 0), some (.ref 74), some (.int (nI i))] [] w2 Q) : Zs L xs (d + 22) mL_law (k0, n0, mc, ms) 683 [some (.ref 1000200), some (.ref 0), some (.ref 74), some (.int (nI i))] [] w Q := by
  obtain ⟨f0, hz0⟩ := h.z0
  refine zs_aload_n dL_law_683 rfl ?_
  refine zs_aload_n dL_law_684 rfl ?_
  refine zs_iload_n dL_law_685 rfl ?_
  refine zs_iconst dL_law_686 1 (by decide) ?_
  refine zs_iadd dL_law_687 ?_
  refine zs_top (y := nI (i + 1)) (nI_add i 1) ?_
  refine zs_sld dL_law_688 (vp_in_nI (n := i + 1) (by omega) (by omega)) ?_
  rw [nI_clamp (by omega)]
  refine zs_cV1 dL_law_689 oX8_piles kX8_piles lL_94 hz0 rfl (Nat.le_of_ble_eq_true rfl) rfl h1 h2 (p_piles h (fun v w1 hm => ?_))
  obtain ⟨⟨f1, hz1⟩, hm⟩ := hm
  show Zs L xs (d + 22) mL_law (k0, n0, mc, ms) 692 [some (.ref 1000200), some (.ref 0), some (.ref 74), some (.int (nI i))] [.int v] w1 Q
  refine zs_aload_n dL_law_692 rfl ?_
  refine zs_aload_n dL_law_693 rfl ?_
  refine zs_iload_n dL_law_694 rfl ?_
  refine zs_iconst dL_law_695 1 (by decide) ?_
  refine zs_iadd dL_law_696 ?_
  refine zs_top (y := nI (i + 1)) (nI_add i 1) ?_
  refine zs_sld dL_law_697 (vp_in_nI (n := i + 1) (by omega) (by omega)) ?_
  rw [nI_clamp (by omega)]
  refine zs_cV1 dL_law_698 oX9_piles kX9_piles lL_97 hz1 rfl (Nat.le_of_ble_eq_true rfl) rfl h1 h2 (hm _ (fun w2 h2' => ?_))
  show Zs L xs (d + 22) mL_law (k0, n0, mc, ms) 701 [some (.ref 1000200), some (.ref 0), some (.ref 74), some (.int (nI i))] [.int v, .int v] w2 Q
  refine zs_icmp_eq 1149 dL_law_701 (by decide) (fun _ => ?_) (fun hz => absurd rfl hz)
  exact hK w2 h2'
theorem law_shelf (hL : L ≤ 320) (hi : i + 5 ≤ L) (h1 : k0 ≤ mc) (h2 : n0 ≤ ms) (h : LI w) (hK : ∀ w2, LI w2 → Zs L xs (d + 22) mL_law (k0, n0, mc, ms) 1149 [some (.ref 1000200), some (.ref 0), some (.ref 74), some (.int (nI i))] [] w2 Q) : Zs L xs (d + 22) mL_law (k0, n0, mc, ms) 706 [some (.ref 1000200), some (.ref 0), some (.ref 74), some (.int (nI i))] [] w Q := by
  obtain ⟨f0, hz0⟩ := h.z0
  refine zs_aload_n dL_law_706 rfl ?_
  refine zs_aload_n dL_law_707 rfl ?_
  refine zs_iload_n dL_law_708 rfl ?_
  refine zs_iconst dL_law_709 1 (by decide) ?_
  refine zs_iadd dL_law_710 ?_
  refine zs_top (y := nI (i + 1)) (nI_add i 1) ?_
  refine zs_sld dL_law_711 (vp_in_nI (n := i + 1) (by omega) (by omega)) ?_
  rw [nI_clamp (by omega)]
  refine zs_cV1 dL_law_712 oX8_shelf kX8_shelf lL_98 hz0 rfl (Nat.le_of_ble_eq_true rfl) rfl h1 h2 (p_shelf h (fun v w1 hm => ?_))
  obtain ⟨⟨f1, hz1⟩, hm⟩ := hm
  show Zs L xs (d + 22) mL_law (k0, n0, mc, ms) 715 [some (.ref 1000200), some (.ref 0), some (.ref 74), some (.int (nI i))] [.int v] w1 Q
  refine zs_aload_n dL_law_715 rfl ?_
  refine zs_aload_n dL_law_716 rfl ?_
  refine zs_iload_n dL_law_717 rfl ?_
  refine zs_iconst dL_law_718 1 (by decide) ?_
  refine zs_iadd dL_law_719 ?_
  refine zs_top (y := nI (i + 1)) (nI_add i 1) ?_
  refine zs_sld dL_law_720 (vp_in_nI (n := i + 1) (by omega) (by omega)) ?_
  rw [nI_clamp (by omega)]
  refine zs_cV1 dL_law_721 oX9_shelf kX9_shelf lL_101 hz1 rfl (Nat.le_of_ble_eq_true rfl) rfl h1 h2 (hm _ (fun w2 h2' => ?_))
  show Zs L xs (d + 22) mL_law (k0, n0, mc, ms) 724 [some (.ref 1000200), some (.ref 0), some (.ref 74), some (.int (nI i))] [.int v, .int v] w2 Q
  refine zs_icmp_eq 1149 dL_law_724 (by decide) (fun _ => ?_) (fun hz => absurd rfl hz)
  exact hK w2 h2'
theorem law_buy (hL : L ≤ 320) (hi : i + 5 ≤ L) (h1 : k0 ≤ mc) (h2 : n0 ≤ ms) (h : LI w) (hK : ∀ w2, LI w2 → Zs L xs (d + 22) mL_law (k0, n0, mc, ms) 1149 [some (.ref 1000200), some (.ref 0), some (.ref 74), some (.int (nI i))] [] w2 Q) : Zs L xs (d + 22) mL_law (k0, n0, mc, ms) 729 [some (.ref 1000200), some (.ref 0), some (.ref 74), some (.int (nI i))] [] w Q := by
  obtain ⟨f0, hz0⟩ := h.z0
  refine zs_aload_n dL_law_729 rfl ?_
  refine zs_aload_n dL_law_730 rfl ?_
  refine zs_iload_n dL_law_731 rfl ?_
  refine zs_iconst dL_law_732 1 (by decide) ?_
  refine zs_iadd dL_law_733 ?_
  refine zs_top (y := nI (i + 1)) (nI_add i 1) ?_
  refine zs_sld dL_law_734 (vp_in_nI (n := i + 1) (by omega) (by omega)) ?_
  rw [nI_clamp (by omega)]
  refine zs_cV1 dL_law_735 oX8_buy kX8_buy lL_102 hz0 rfl (Nat.le_of_ble_eq_true rfl) rfl h1 h2 (p_buy h (fun v w1 hm => ?_))
  obtain ⟨⟨f1, hz1⟩, hm⟩ := hm
  show Zs L xs (d + 22) mL_law (k0, n0, mc, ms) 738 [some (.ref 1000200), some (.ref 0), some (.ref 74), some (.int (nI i))] [.int v] w1 Q
  refine zs_aload_n dL_law_738 rfl ?_
  refine zs_aload_n dL_law_739 rfl ?_
  refine zs_iload_n dL_law_740 rfl ?_
  refine zs_iconst dL_law_741 1 (by decide) ?_
  refine zs_iadd dL_law_742 ?_
  refine zs_top (y := nI (i + 1)) (nI_add i 1) ?_
  refine zs_sld dL_law_743 (vp_in_nI (n := i + 1) (by omega) (by omega)) ?_
  rw [nI_clamp (by omega)]
  refine zs_cV1 dL_law_744 oX9_buy kX9_buy lL_105 hz1 rfl (Nat.le_of_ble_eq_true rfl) rfl h1 h2 (hm _ (fun w2 h2' => ?_))
  show Zs L xs (d + 22) mL_law (k0, n0, mc, ms) 747 [some (.ref 1000200), some (.ref 0), some (.ref 74), some (.int (nI i))] [.int v, .int v] w2 Q
  refine zs_icmp_eq 1149 dL_law_747 (by decide) (fun _ => ?_) (fun hz => absurd rfl hz)
  exact hK w2 h2'
theorem law_tries (hL : L ≤ 320) (hi : i + 5 ≤ L) (h1 : k0 ≤ mc) (h2 : n0 ≤ ms) (h : LI w) (hK : ∀ w2, LI w2 → Zs L xs (d + 22) mL_law (k0, n0, mc, ms) 1149 [some (.ref 1000200), some (.ref 0), some (.ref 74), some (.int (nI i))] [] w2 Q) : Zs L xs (d + 22) mL_law (k0, n0, mc, ms) 752 [some (.ref 1000200), some (.ref 0), some (.ref 74), some (.int (nI i))] [] w Q := by
  obtain ⟨f0, hz0⟩ := h.z0
  refine zs_aload_n dL_law_752 rfl ?_
  refine zs_aload_n dL_law_753 rfl ?_
  refine zs_iload_n dL_law_754 rfl ?_
  refine zs_iconst dL_law_755 1 (by decide) ?_
  refine zs_iadd dL_law_756 ?_
  refine zs_top (y := nI (i + 1)) (nI_add i 1) ?_
  refine zs_sld dL_law_757 (vp_in_nI (n := i + 1) (by omega) (by omega)) ?_
  rw [nI_clamp (by omega)]
  refine zs_cV1 dL_law_758 oX8_tries kX8_tries lL_106 hz0 rfl (Nat.le_of_ble_eq_true rfl) rfl h1 h2 (p_tries h (fun v w1 hm => ?_))
  obtain ⟨⟨f1, hz1⟩, hm⟩ := hm
  show Zs L xs (d + 22) mL_law (k0, n0, mc, ms) 761 [some (.ref 1000200), some (.ref 0), some (.ref 74), some (.int (nI i))] [.int v] w1 Q
  refine zs_aload_n dL_law_761 rfl ?_
  refine zs_aload_n dL_law_762 rfl ?_
  refine zs_iload_n dL_law_763 rfl ?_
  refine zs_iconst dL_law_764 1 (by decide) ?_
  refine zs_iadd dL_law_765 ?_
  refine zs_top (y := nI (i + 1)) (nI_add i 1) ?_
  refine zs_sld dL_law_766 (vp_in_nI (n := i + 1) (by omega) (by omega)) ?_
  rw [nI_clamp (by omega)]
  refine zs_cV1 dL_law_767 oX9_tries kX9_tries lL_109 hz1 rfl (Nat.le_of_ble_eq_true rfl) rfl h1 h2 (hm _ (fun w2 h2' => ?_))
  show Zs L xs (d + 22) mL_law (k0, n0, mc, ms) 770 [some (.ref 1000200), some (.ref 0), some (.ref 74), some (.int (nI i))] [.int v, .int v] w2 Q
  refine zs_icmp_eq 1149 dL_law_770 (by decide) (fun _ => ?_) (fun hz => absurd rfl hz)
  exact hK w2 h2'
theorem law_nuts (hL : L ≤ 320) (hi : i + 5 ≤ L) (h1 : k0 ≤ mc) (h2 : n0 ≤ ms) (h : LI w) (hK : ∀ w2, LI w2 → Zs L xs (d + 22) mL_law (k0, n0, mc, ms) 1149 [some (.ref 1000200), some (.ref 0), some (.ref 74), some (.int (nI i))] [] w2 Q) : Zs L xs (d + 22) mL_law (k0, n0, mc, ms) 775 [some (.ref 1000200), some (.ref 0), some (.ref 74), some (.int (nI i))] [] w Q := by
  obtain ⟨f0, hz0⟩ := h.z0
  refine zs_aload_n dL_law_775 rfl ?_
  refine zs_aload_n dL_law_776 rfl ?_
  refine zs_iload_n dL_law_777 rfl ?_
  refine zs_iconst dL_law_778 1 (by decide) ?_
  refine zs_iadd dL_law_779 ?_
  refine zs_top (y := nI (i + 1)) (nI_add i 1) ?_
  refine zs_sld dL_law_780 (vp_in_nI (n := i + 1) (by omega) (by omega)) ?_
  rw [nI_clamp (by omega)]
  refine zs_aload_n dL_law_781 rfl ?_
  refine zs_iload_n dL_law_782 rfl ?_
  refine zs_iconst dL_law_783 2 (by decide) ?_
  refine zs_iadd dL_law_784 ?_
  refine zs_top (y := nI (i + 2)) (nI_add i 2) ?_
  refine zs_sld dL_law_785 (vp_in_nI (n := i + 2) (by omega) (by omega)) ?_
  rw [nI_clamp (by omega)]
  refine zs_cV2 dL_law_786 oX8_nuts kX8_nuts lL_110 hz0 rfl (Nat.le_of_ble_eq_true rfl) rfl h1 h2 (p_nuts h (fun v w1 hm => ?_))
  obtain ⟨⟨f1, hz1⟩, hm⟩ := hm
  show Zs L xs (d + 22) mL_law (k0, n0, mc, ms) 789 [some (.ref 1000200), some (.ref 0), some (.ref 74), some (.int (nI i))] [.int v] w1 Q
  refine zs_aload_n dL_law_789 rfl ?_
  refine zs_aload_n dL_law_790 rfl ?_
  refine zs_iload_n dL_law_791 rfl ?_
  refine zs_iconst dL_law_792 1 (by decide) ?_
  refine zs_iadd dL_law_793 ?_
  refine zs_top (y := nI (i + 1)) (nI_add i 1) ?_
  refine zs_sld dL_law_794 (vp_in_nI (n := i + 1) (by omega) (by omega)) ?_
  rw [nI_clamp (by omega)]
  refine zs_aload_n dL_law_795 rfl ?_
  refine zs_iload_n dL_law_796 rfl ?_
  refine zs_iconst dL_law_797 2 (by decide) ?_
  refine zs_iadd dL_law_798 ?_
  refine zs_top (y := nI (i + 2)) (nI_add i 2) ?_
  refine zs_sld dL_law_799 (vp_in_nI (n := i + 2) (by omega) (by omega)) ?_
  rw [nI_clamp (by omega)]
  refine zs_cV2 dL_law_800 oX9_nuts kX9_nuts lL_113 hz1 rfl (Nat.le_of_ble_eq_true rfl) rfl h1 h2 (hm _ (fun w2 h2' => ?_))
  show Zs L xs (d + 22) mL_law (k0, n0, mc, ms) 803 [some (.ref 1000200), some (.ref 0), some (.ref 74), some (.int (nI i))] [.int v, .int v] w2 Q
  refine zs_icmp_eq 1149 dL_law_803 (by decide) (fun _ => ?_) (fun hz => absurd rfl hz)
  exact hK w2 h2'
theorem law_lend (hL : L ≤ 320) (hi : i + 5 ≤ L) (h1 : k0 ≤ mc) (h2 : n0 ≤ ms) (h : LI w) (hK : ∀ w2, LI w2 → Zs L xs (d + 22) mL_law (k0, n0, mc, ms) 1149 [some (.ref 1000200), some (.ref 0), some (.ref 74), some (.int (nI i))] [] w2 Q) : Zs L xs (d + 22) mL_law (k0, n0, mc, ms) 808 [some (.ref 1000200), some (.ref 0), some (.ref 74), some (.int (nI i))] [] w Q := by
  obtain ⟨f0, hz0⟩ := h.z0
  refine zs_aload_n dL_law_808 rfl ?_
  refine zs_aload_n dL_law_809 rfl ?_
  refine zs_iload_n dL_law_810 rfl ?_
  refine zs_iconst dL_law_811 1 (by decide) ?_
  refine zs_iadd dL_law_812 ?_
  refine zs_top (y := nI (i + 1)) (nI_add i 1) ?_
  refine zs_sld dL_law_813 (vp_in_nI (n := i + 1) (by omega) (by omega)) ?_
  rw [nI_clamp (by omega)]
  refine zs_aload_n dL_law_814 rfl ?_
  refine zs_iload_n dL_law_815 rfl ?_
  refine zs_iconst dL_law_816 2 (by decide) ?_
  refine zs_iadd dL_law_817 ?_
  refine zs_top (y := nI (i + 2)) (nI_add i 2) ?_
  refine zs_sld dL_law_818 (vp_in_nI (n := i + 2) (by omega) (by omega)) ?_
  rw [nI_clamp (by omega)]
  refine zs_aload_n dL_law_819 rfl ?_
  refine zs_iload_n dL_law_820 rfl ?_
  refine zs_iconst dL_law_821 3 (by decide) ?_
  refine zs_iadd dL_law_822 ?_
  refine zs_top (y := nI (i + 3)) (nI_add i 3) ?_
  refine zs_sld dL_law_823 (vp_in_nI (n := i + 3) (by omega) (by omega)) ?_
  rw [nI_clamp (by omega)]
  refine zs_cV3 dL_law_824 oX8_lend kX8_lend lL_114 hz0 rfl (Nat.le_of_ble_eq_true rfl) rfl h1 h2 (p_lend h (fun v w1 hm => ?_))
  obtain ⟨⟨f1, hz1⟩, hm⟩ := hm
  show Zs L xs (d + 22) mL_law (k0, n0, mc, ms) 827 [some (.ref 1000200), some (.ref 0), some (.ref 74), some (.int (nI i))] [.int v] w1 Q
  refine zs_aload_n dL_law_827 rfl ?_
  refine zs_aload_n dL_law_828 rfl ?_
  refine zs_iload_n dL_law_829 rfl ?_
  refine zs_iconst dL_law_830 1 (by decide) ?_
  refine zs_iadd dL_law_831 ?_
  refine zs_top (y := nI (i + 1)) (nI_add i 1) ?_
  refine zs_sld dL_law_832 (vp_in_nI (n := i + 1) (by omega) (by omega)) ?_
  rw [nI_clamp (by omega)]
  refine zs_aload_n dL_law_833 rfl ?_
  refine zs_iload_n dL_law_834 rfl ?_
  refine zs_iconst dL_law_835 2 (by decide) ?_
  refine zs_iadd dL_law_836 ?_
  refine zs_top (y := nI (i + 2)) (nI_add i 2) ?_
  refine zs_sld dL_law_837 (vp_in_nI (n := i + 2) (by omega) (by omega)) ?_
  rw [nI_clamp (by omega)]
  refine zs_aload_n dL_law_838 rfl ?_
  refine zs_iload_n dL_law_839 rfl ?_
  refine zs_iconst dL_law_840 3 (by decide) ?_
  refine zs_iadd dL_law_841 ?_
  refine zs_top (y := nI (i + 3)) (nI_add i 3) ?_
  refine zs_sld dL_law_842 (vp_in_nI (n := i + 3) (by omega) (by omega)) ?_
  rw [nI_clamp (by omega)]
  refine zs_cV3 dL_law_843 oX9_lend kX9_lend lL_117 hz1 rfl (Nat.le_of_ble_eq_true rfl) rfl h1 h2 (hm _ (fun w2 h2' => ?_))
  show Zs L xs (d + 22) mL_law (k0, n0, mc, ms) 846 [some (.ref 1000200), some (.ref 0), some (.ref 74), some (.int (nI i))] [.int v, .int v] w2 Q
  refine zs_icmp_eq 1149 dL_law_846 (by decide) (fun _ => ?_) (fun hz => absurd rfl hz)
  exact hK w2 h2'
theorem law_has (hL : L ≤ 320) (hi : i + 5 ≤ L) (h1 : k0 ≤ mc) (h2 : n0 ≤ ms) (h : LI w) (hK : ∀ w2, LI w2 → Zs L xs (d + 22) mL_law (k0, n0, mc, ms) 1149 [some (.ref 1000200), some (.ref 0), some (.ref 74), some (.int (nI i))] [] w2 Q) : Zs L xs (d + 22) mL_law (k0, n0, mc, ms) 851 [some (.ref 1000200), some (.ref 0), some (.ref 74), some (.int (nI i))] [] w Q := by
  obtain ⟨f0, hz0⟩ := h.z0
  refine zs_aload_n dL_law_851 rfl ?_
  refine zs_aload_n dL_law_852 rfl ?_
  refine zs_iload_n dL_law_853 rfl ?_
  refine zs_iconst dL_law_854 1 (by decide) ?_
  refine zs_iadd dL_law_855 ?_
  refine zs_top (y := nI (i + 1)) (nI_add i 1) ?_
  refine zs_sld dL_law_856 (vp_in_nI (n := i + 1) (by omega) (by omega)) ?_
  rw [nI_clamp (by omega)]
  refine zs_cV1 dL_law_857 oX8_has kX8_has lL_118 hz0 rfl (Nat.le_of_ble_eq_true rfl) rfl h1 h2 (p_has h (fun v w1 hm => ?_))
  obtain ⟨⟨f1, hz1⟩, hm⟩ := hm
  show Zs L xs (d + 22) mL_law (k0, n0, mc, ms) 860 [some (.ref 1000200), some (.ref 0), some (.ref 74), some (.int (nI i))] [.int v] w1 Q
  refine zs_aload_n dL_law_860 rfl ?_
  refine zs_aload_n dL_law_861 rfl ?_
  refine zs_iload_n dL_law_862 rfl ?_
  refine zs_iconst dL_law_863 1 (by decide) ?_
  refine zs_iadd dL_law_864 ?_
  refine zs_top (y := nI (i + 1)) (nI_add i 1) ?_
  refine zs_sld dL_law_865 (vp_in_nI (n := i + 1) (by omega) (by omega)) ?_
  rw [nI_clamp (by omega)]
  refine zs_cV1 dL_law_866 oX9_has kX9_has lL_121 hz1 rfl (Nat.le_of_ble_eq_true rfl) rfl h1 h2 (hm _ (fun w2 h2' => ?_))
  show Zs L xs (d + 22) mL_law (k0, n0, mc, ms) 869 [some (.ref 1000200), some (.ref 0), some (.ref 74), some (.int (nI i))] [.int v, .int v] w2 Q
  refine zs_icmp_eq 1149 dL_law_869 (by decide) (fun _ => ?_) (fun hz => absurd rfl hz)
  exact hK w2 h2'
theorem law_wrong (hL : L ≤ 320) (hi : i + 5 ≤ L) (h1 : k0 ≤ mc) (h2 : n0 ≤ ms) (h : LI w) (hK : ∀ w2, LI w2 → Zs L xs (d + 22) mL_law (k0, n0, mc, ms) 1149 [some (.ref 1000200), some (.ref 0), some (.ref 74), some (.int (nI i))] [] w2 Q) : Zs L xs (d + 22) mL_law (k0, n0, mc, ms) 874 [some (.ref 1000200), some (.ref 0), some (.ref 74), some (.int (nI i))] [] w Q := by
  obtain ⟨f0, hz0⟩ := h.z0
  refine zs_aload_n dL_law_874 rfl ?_
  refine zs_cV0 dL_law_875 oX8_wrong kX8_wrong lL_122 hz0 rfl (Nat.le_of_ble_eq_true rfl) rfl h1 h2 (p_wrong h (fun v w1 hm => ?_))
  obtain ⟨⟨f1, hz1⟩, hm⟩ := hm
  show Zs L xs (d + 22) mL_law (k0, n0, mc, ms) 878 [some (.ref 1000200), some (.ref 0), some (.ref 74), some (.int (nI i))] [.int v] w1 Q
  refine zs_aload_n dL_law_878 rfl ?_
  refine zs_cV0 dL_law_879 oX9_wrong kX9_wrong lL_125 hz1 rfl (Nat.le_of_ble_eq_true rfl) rfl h1 h2 (hm _ (fun w2 h2' => ?_))
  show Zs L xs (d + 22) mL_law (k0, n0, mc, ms) 882 [some (.ref 1000200), some (.ref 0), some (.ref 74), some (.int (nI i))] [.int v, .int v] w2 Q
  refine zs_icmp_eq 1149 dL_law_882 (by decide) (fun _ => ?_) (fun hz => absurd rfl hz)
  exact hK w2 h2'
theorem law_hint (hL : L ≤ 320) (hi : i + 5 ≤ L) (h1 : k0 ≤ mc) (h2 : n0 ≤ ms) (h : LI w) (hK : ∀ w2, LI w2 → Zs L xs (d + 22) mL_law (k0, n0, mc, ms) 1149 [some (.ref 1000200), some (.ref 0), some (.ref 74), some (.int (nI i))] [] w2 Q) : Zs L xs (d + 22) mL_law (k0, n0, mc, ms) 887 [some (.ref 1000200), some (.ref 0), some (.ref 74), some (.int (nI i))] [] w Q := by
  obtain ⟨f0, hz0⟩ := h.z0
  refine zs_aload_n dL_law_887 rfl ?_
  refine zs_aload_n dL_law_888 rfl ?_
  refine zs_iload_n dL_law_889 rfl ?_
  refine zs_iconst dL_law_890 1 (by decide) ?_
  refine zs_iadd dL_law_891 ?_
  refine zs_top (y := nI (i + 1)) (nI_add i 1) ?_
  refine zs_sld dL_law_892 (vp_in_nI (n := i + 1) (by omega) (by omega)) ?_
  rw [nI_clamp (by omega)]
  refine zs_aload_n dL_law_893 rfl ?_
  refine zs_iload_n dL_law_894 rfl ?_
  refine zs_iconst dL_law_895 2 (by decide) ?_
  refine zs_iadd dL_law_896 ?_
  refine zs_top (y := nI (i + 2)) (nI_add i 2) ?_
  refine zs_sld dL_law_897 (vp_in_nI (n := i + 2) (by omega) (by omega)) ?_
  rw [nI_clamp (by omega)]
  refine zs_aload_n dL_law_898 rfl ?_
  refine zs_iload_n dL_law_899 rfl ?_
  refine zs_iconst dL_law_900 3 (by decide) ?_
  refine zs_iadd dL_law_901 ?_
  refine zs_top (y := nI (i + 3)) (nI_add i 3) ?_
  refine zs_sld dL_law_902 (vp_in_nI (n := i + 3) (by omega) (by omega)) ?_
  rw [nI_clamp (by omega)]
  refine zs_cV3 dL_law_903 oX8_hint kX8_hint lL_126 hz0 rfl (Nat.le_of_ble_eq_true rfl) rfl h1 h2 (p_hint h (fun v w1 hm => ?_))
  obtain ⟨⟨f1, hz1⟩, hm⟩ := hm
  show Zs L xs (d + 22) mL_law (k0, n0, mc, ms) 906 [some (.ref 1000200), some (.ref 0), some (.ref 74), some (.int (nI i))] [.int v] w1 Q
  refine zs_aload_n dL_law_906 rfl ?_
  refine zs_aload_n dL_law_907 rfl ?_
  refine zs_iload_n dL_law_908 rfl ?_
  refine zs_iconst dL_law_909 1 (by decide) ?_
  refine zs_iadd dL_law_910 ?_
  refine zs_top (y := nI (i + 1)) (nI_add i 1) ?_
  refine zs_sld dL_law_911 (vp_in_nI (n := i + 1) (by omega) (by omega)) ?_
  rw [nI_clamp (by omega)]
  refine zs_aload_n dL_law_912 rfl ?_
  refine zs_iload_n dL_law_913 rfl ?_
  refine zs_iconst dL_law_914 2 (by decide) ?_
  refine zs_iadd dL_law_915 ?_
  refine zs_top (y := nI (i + 2)) (nI_add i 2) ?_
  refine zs_sld dL_law_916 (vp_in_nI (n := i + 2) (by omega) (by omega)) ?_
  rw [nI_clamp (by omega)]
  refine zs_aload_n dL_law_917 rfl ?_
  refine zs_iload_n dL_law_918 rfl ?_
  refine zs_iconst dL_law_919 3 (by decide) ?_
  refine zs_iadd dL_law_920 ?_
  refine zs_top (y := nI (i + 3)) (nI_add i 3) ?_
  refine zs_sld dL_law_921 (vp_in_nI (n := i + 3) (by omega) (by omega)) ?_
  rw [nI_clamp (by omega)]
  refine zs_cV3 dL_law_922 oX9_hint kX9_hint lL_129 hz1 rfl (Nat.le_of_ble_eq_true rfl) rfl h1 h2 (hm _ (fun w2 h2' => ?_))
  show Zs L xs (d + 22) mL_law (k0, n0, mc, ms) 925 [some (.ref 1000200), some (.ref 0), some (.ref 74), some (.int (nI i))] [.int v, .int v] w2 Q
  refine zs_icmp_eq 1149 dL_law_925 (by decide) (fun _ => ?_) (fun hz => absurd rfl hz)
  exact hK w2 h2'
theorem law_forget (hL : L ≤ 320) (hi : i + 5 ≤ L) (h1 : k0 ≤ mc) (h2 : n0 ≤ ms) (h : LI w) (hK : ∀ w2, LI w2 → Zs L xs (d + 22) mL_law (k0, n0, mc, ms) 1149 [some (.ref 1000200), some (.ref 0), some (.ref 74), some (.int (nI i))] [] w2 Q) : Zs L xs (d + 22) mL_law (k0, n0, mc, ms) 930 [some (.ref 1000200), some (.ref 0), some (.ref 74), some (.int (nI i))] [] w Q := by
  obtain ⟨f0, hz0⟩ := h.z0
  refine zs_aload_n dL_law_930 rfl ?_
  refine zs_aload_n dL_law_931 rfl ?_
  refine zs_iload_n dL_law_932 rfl ?_
  refine zs_iconst dL_law_933 1 (by decide) ?_
  refine zs_iadd dL_law_934 ?_
  refine zs_top (y := nI (i + 1)) (nI_add i 1) ?_
  refine zs_sld dL_law_935 (vp_in_nI (n := i + 1) (by omega) (by omega)) ?_
  rw [nI_clamp (by omega)]
  refine zs_cV1 dL_law_936 oX8_forget kX8_forget lL_130 hz0 rfl (Nat.le_of_ble_eq_true rfl) rfl h1 h2 (p_forget h (fun v w1 hm => ?_))
  obtain ⟨⟨f1, hz1⟩, hm⟩ := hm
  show Zs L xs (d + 22) mL_law (k0, n0, mc, ms) 939 [some (.ref 1000200), some (.ref 0), some (.ref 74), some (.int (nI i))] [.int v] w1 Q
  refine zs_aload_n dL_law_939 rfl ?_
  refine zs_aload_n dL_law_940 rfl ?_
  refine zs_iload_n dL_law_941 rfl ?_
  refine zs_iconst dL_law_942 1 (by decide) ?_
  refine zs_iadd dL_law_943 ?_
  refine zs_top (y := nI (i + 1)) (nI_add i 1) ?_
  refine zs_sld dL_law_944 (vp_in_nI (n := i + 1) (by omega) (by omega)) ?_
  rw [nI_clamp (by omega)]
  refine zs_cV1 dL_law_945 oX9_forget kX9_forget lL_133 hz1 rfl (Nat.le_of_ble_eq_true rfl) rfl h1 h2 (hm _ (fun w2 h2' => ?_))
  show Zs L xs (d + 22) mL_law (k0, n0, mc, ms) 948 [some (.ref 1000200), some (.ref 0), some (.ref 74), some (.int (nI i))] [.int v, .int v] w2 Q
  refine zs_icmp_eq 1149 dL_law_948 (by decide) (fun _ => ?_) (fun hz => absurd rfl hz)
  exact hK w2 h2'
theorem law_labels (hL : L ≤ 320) (hi : i + 5 ≤ L) (h1 : k0 ≤ mc) (h2 : n0 ≤ ms) (h : LI w) (hK : ∀ w2, LI w2 → Zs L xs (d + 22) mL_law (k0, n0, mc, ms) 1149 [some (.ref 1000200), some (.ref 0), some (.ref 74), some (.int (nI i))] [] w2 Q) : Zs L xs (d + 22) mL_law (k0, n0, mc, ms) 953 [some (.ref 1000200), some (.ref 0), some (.ref 74), some (.int (nI i))] [] w Q := by
  obtain ⟨f0, hz0⟩ := h.z0
  refine zs_aload_n dL_law_953 rfl ?_
  refine zs_aload_n dL_law_954 rfl ?_
  refine zs_iload_n dL_law_955 rfl ?_
  refine zs_iconst dL_law_956 1 (by decide) ?_
  refine zs_iadd dL_law_957 ?_
  refine zs_top (y := nI (i + 1)) (nI_add i 1) ?_
  refine zs_sld dL_law_958 (vp_in_nI (n := i + 1) (by omega) (by omega)) ?_
  rw [nI_clamp (by omega)]
  refine zs_aload_n dL_law_959 rfl ?_
  refine zs_iload_n dL_law_960 rfl ?_
  refine zs_iconst dL_law_961 2 (by decide) ?_
  refine zs_iadd dL_law_962 ?_
  refine zs_top (y := nI (i + 2)) (nI_add i 2) ?_
  refine zs_sld dL_law_963 (vp_in_nI (n := i + 2) (by omega) (by omega)) ?_
  rw [nI_clamp (by omega)]
  refine zs_cV2 dL_law_964 oX8_labels kX8_labels lL_134 hz0 rfl (Nat.le_of_ble_eq_true rfl) rfl h1 h2 (p_labels h (fun v w1 hm => ?_))
  obtain ⟨⟨f1, hz1⟩, hm⟩ := hm
  show Zs L xs (d + 22) mL_law (k0, n0, mc, ms) 967 [some (.ref 1000200), some (.ref 0), some (.ref 74), some (.int (nI i))] [.int v] w1 Q
  refine zs_aload_n dL_law_967 rfl ?_
  refine zs_aload_n dL_law_968 rfl ?_
  refine zs_iload_n dL_law_969 rfl ?_
  refine zs_iconst dL_law_970 1 (by decide) ?_
  refine zs_iadd dL_law_971 ?_
  refine zs_top (y := nI (i + 1)) (nI_add i 1) ?_
  refine zs_sld dL_law_972 (vp_in_nI (n := i + 1) (by omega) (by omega)) ?_
  rw [nI_clamp (by omega)]
  refine zs_aload_n dL_law_973 rfl ?_
  refine zs_iload_n dL_law_974 rfl ?_
  refine zs_iconst dL_law_975 2 (by decide) ?_
  refine zs_iadd dL_law_976 ?_
  refine zs_top (y := nI (i + 2)) (nI_add i 2) ?_
  refine zs_sld dL_law_977 (vp_in_nI (n := i + 2) (by omega) (by omega)) ?_
  rw [nI_clamp (by omega)]
  refine zs_cV2 dL_law_978 oX9_labels kX9_labels lL_137 hz1 rfl (Nat.le_of_ble_eq_true rfl) rfl h1 h2 (hm _ (fun w2 h2' => ?_))
  show Zs L xs (d + 22) mL_law (k0, n0, mc, ms) 981 [some (.ref 1000200), some (.ref 0), some (.ref 74), some (.int (nI i))] [.int v, .int v] w2 Q
  refine zs_icmp_eq 1149 dL_law_981 (by decide) (fun _ => ?_) (fun hz => absurd rfl hz)
  exact hK w2 h2'
theorem law_evening (hL : L ≤ 320) (hi : i + 5 ≤ L) (h1 : k0 ≤ mc) (h2 : n0 ≤ ms) (h : LI w) (hK : ∀ w2, LI w2 → Zs L xs (d + 22) mL_law (k0, n0, mc, ms) 1149 [some (.ref 1000200), some (.ref 0), some (.ref 74), some (.int (nI i))] [] w2 Q) : Zs L xs (d + 22) mL_law (k0, n0, mc, ms) 986 [some (.ref 1000200), some (.ref 0), some (.ref 74), some (.int (nI i))] [] w Q := by
  obtain ⟨f0, hz0⟩ := h.z0
  refine zs_aload_n dL_law_986 rfl ?_
  refine zs_aload_n dL_law_987 rfl ?_
  refine zs_iload_n dL_law_988 rfl ?_
  refine zs_iconst dL_law_989 1 (by decide) ?_
  refine zs_iadd dL_law_990 ?_
  refine zs_top (y := nI (i + 1)) (nI_add i 1) ?_
  refine zs_sld dL_law_991 (vp_in_nI (n := i + 1) (by omega) (by omega)) ?_
  rw [nI_clamp (by omega)]
  refine zs_aload_n dL_law_992 rfl ?_
  refine zs_iload_n dL_law_993 rfl ?_
  refine zs_iconst dL_law_994 2 (by decide) ?_
  refine zs_iadd dL_law_995 ?_
  refine zs_top (y := nI (i + 2)) (nI_add i 2) ?_
  refine zs_sld dL_law_996 (vp_in_nI (n := i + 2) (by omega) (by omega)) ?_
  rw [nI_clamp (by omega)]
  refine zs_cV2 dL_law_997 oX8_evening kX8_evening lL_138 hz0 rfl (Nat.le_of_ble_eq_true rfl) rfl h1 h2 (p_evening h (fun v w1 hm => ?_))
  obtain ⟨⟨f1, hz1⟩, hm⟩ := hm
  show Zs L xs (d + 22) mL_law (k0, n0, mc, ms) 1000 [some (.ref 1000200), some (.ref 0), some (.ref 74), some (.int (nI i))] [.int v] w1 Q
  refine zs_aload_n dL_law_1000 rfl ?_
  refine zs_aload_n dL_law_1001 rfl ?_
  refine zs_iload_n dL_law_1002 rfl ?_
  refine zs_iconst dL_law_1003 1 (by decide) ?_
  refine zs_iadd dL_law_1004 ?_
  refine zs_top (y := nI (i + 1)) (nI_add i 1) ?_
  refine zs_sld dL_law_1005 (vp_in_nI (n := i + 1) (by omega) (by omega)) ?_
  rw [nI_clamp (by omega)]
  refine zs_aload_n dL_law_1006 rfl ?_
  refine zs_iload_n dL_law_1007 rfl ?_
  refine zs_iconst dL_law_1008 2 (by decide) ?_
  refine zs_iadd dL_law_1009 ?_
  refine zs_top (y := nI (i + 2)) (nI_add i 2) ?_
  refine zs_sld dL_law_1010 (vp_in_nI (n := i + 2) (by omega) (by omega)) ?_
  rw [nI_clamp (by omega)]
  refine zs_cV2 dL_law_1011 oX9_evening kX9_evening lL_141 hz1 rfl (Nat.le_of_ble_eq_true rfl) rfl h1 h2 (hm _ (fun w2 h2' => ?_))
  show Zs L xs (d + 22) mL_law (k0, n0, mc, ms) 1014 [some (.ref 1000200), some (.ref 0), some (.ref 74), some (.int (nI i))] [.int v, .int v] w2 Q
  refine zs_icmp_eq 1149 dL_law_1014 (by decide) (fun _ => ?_) (fun hz => absurd rfl hz)
  exact hK w2 h2'
theorem law_part (hL : L ≤ 320) (hi : i + 5 ≤ L) (h1 : k0 ≤ mc) (h2 : n0 ≤ ms) (h : LI w) (hK : ∀ w2, LI w2 → Zs L xs (d + 22) mL_law (k0, n0, mc, ms) 1149 [some (.ref 1000200), some (.ref 0), some (.ref 74), some (.int (nI i))] [] w2 Q) : Zs L xs (d + 22) mL_law (k0, n0, mc, ms) 1019 [some (.ref 1000200), some (.ref 0), some (.ref 74), some (.int (nI i))] [] w Q := by
  obtain ⟨f0, hz0⟩ := h.z0
  refine zs_aload_n dL_law_1019 rfl ?_
  refine zs_aload_n dL_law_1020 rfl ?_
  refine zs_iload_n dL_law_1021 rfl ?_
  refine zs_iconst dL_law_1022 1 (by decide) ?_
  refine zs_iadd dL_law_1023 ?_
  refine zs_top (y := nI (i + 1)) (nI_add i 1) ?_
  refine zs_sld dL_law_1024 (vp_in_nI (n := i + 1) (by omega) (by omega)) ?_
  rw [nI_clamp (by omega)]
  refine zs_cV1 dL_law_1025 oX8_part kX8_part lL_142 hz0 rfl (Nat.le_of_ble_eq_true rfl) rfl h1 h2 (p_part h (fun v w1 hm => ?_))
  obtain ⟨⟨f1, hz1⟩, hm⟩ := hm
  show Zs L xs (d + 22) mL_law (k0, n0, mc, ms) 1028 [some (.ref 1000200), some (.ref 0), some (.ref 74), some (.int (nI i))] [.long v] w1 Q
  refine zs_aload_n dL_law_1028 rfl ?_
  refine zs_aload_n dL_law_1029 rfl ?_
  refine zs_iload_n dL_law_1030 rfl ?_
  refine zs_iconst dL_law_1031 1 (by decide) ?_
  refine zs_iadd dL_law_1032 ?_
  refine zs_top (y := nI (i + 1)) (nI_add i 1) ?_
  refine zs_sld dL_law_1033 (vp_in_nI (n := i + 1) (by omega) (by omega)) ?_
  rw [nI_clamp (by omega)]
  refine zs_cV1 dL_law_1034 oX9_part kX9_part lL_146 hz1 rfl (Nat.le_of_ble_eq_true rfl) rfl h1 h2 (hm _ (fun w2 h2' => ?_))
  show Zs L xs (d + 22) mL_law (k0, n0, mc, ms) 1037 [some (.ref 1000200), some (.ref 0), some (.ref 74), some (.int (nI i))] [.long v, .long v] w2 Q
  refine zs_lcmp dL_law_1037 ?_
  refine zs_if_eq 1149 dL_law_1038 (by decide) (fun _ => ?_) (fun hz => absurd (lcmp_eq.mpr rfl) hz)
  exact hK w2 h2'
theorem law_image (hL : L ≤ 320) (hi : i + 5 ≤ L) (h1 : k0 ≤ mc) (h2 : n0 ≤ ms) (h : LI w) (hK : ∀ w2, LI w2 → Zs L xs (d + 22) mL_law (k0, n0, mc, ms) 1149 [some (.ref 1000200), some (.ref 0), some (.ref 74), some (.int (nI i))] [] w2 Q) : Zs L xs (d + 22) mL_law (k0, n0, mc, ms) 1043 [some (.ref 1000200), some (.ref 0), some (.ref 74), some (.int (nI i))] [] w Q := by
  obtain ⟨f0, hz0⟩ := h.z0
  refine zs_aload_n dL_law_1043 rfl ?_
  refine zs_aload_n dL_law_1044 rfl ?_
  refine zs_iload_n dL_law_1045 rfl ?_
  refine zs_iconst dL_law_1046 1 (by decide) ?_
  refine zs_iadd dL_law_1047 ?_
  refine zs_top (y := nI (i + 1)) (nI_add i 1) ?_
  refine zs_sld dL_law_1048 (vp_in_nI (n := i + 1) (by omega) (by omega)) ?_
  rw [nI_clamp (by omega)]
  refine zs_cV1 dL_law_1049 oX8_image kX8_image lL_147 hz0 rfl (Nat.le_of_ble_eq_true rfl) rfl h1 h2 (p_image h (fun v w1 hm => ?_))
  obtain ⟨⟨f1, hz1⟩, hm⟩ := hm
  show Zs L xs (d + 22) mL_law (k0, n0, mc, ms) 1052 [some (.ref 1000200), some (.ref 0), some (.ref 74), some (.int (nI i))] [.int v] w1 Q
  refine zs_aload_n dL_law_1052 rfl ?_
  refine zs_aload_n dL_law_1053 rfl ?_
  refine zs_iload_n dL_law_1054 rfl ?_
  refine zs_iconst dL_law_1055 1 (by decide) ?_
  refine zs_iadd dL_law_1056 ?_
  refine zs_top (y := nI (i + 1)) (nI_add i 1) ?_
  refine zs_sld dL_law_1057 (vp_in_nI (n := i + 1) (by omega) (by omega)) ?_
  rw [nI_clamp (by omega)]
  refine zs_cV1 dL_law_1058 oX9_image kX9_image lL_150 hz1 rfl (Nat.le_of_ble_eq_true rfl) rfl h1 h2 (hm _ (fun w2 h2' => ?_))
  show Zs L xs (d + 22) mL_law (k0, n0, mc, ms) 1061 [some (.ref 1000200), some (.ref 0), some (.ref 74), some (.int (nI i))] [.int v, .int v] w2 Q
  refine zs_icmp_eq 1149 dL_law_1061 (by decide) (fun _ => ?_) (fun hz => absurd rfl hz)
  exact hK w2 h2'
theorem law_from (hL : L ≤ 320) (hi : i + 5 ≤ L) (h1 : k0 ≤ mc) (h2 : n0 ≤ ms) (h : LI w) (hK : ∀ w2, LI w2 → Zs L xs (d + 22) mL_law (k0, n0, mc, ms) 1149 [some (.ref 1000200), some (.ref 0), some (.ref 74), some (.int (nI i))] [] w2 Q) : Zs L xs (d + 22) mL_law (k0, n0, mc, ms) 1066 [some (.ref 1000200), some (.ref 0), some (.ref 74), some (.int (nI i))] [] w Q := by
  obtain ⟨f0, hz0⟩ := h.z0
  refine zs_aload_n dL_law_1066 rfl ?_
  refine zs_aload_n dL_law_1067 rfl ?_
  refine zs_iload_n dL_law_1068 rfl ?_
  refine zs_iconst dL_law_1069 1 (by decide) ?_
  refine zs_iadd dL_law_1070 ?_
  refine zs_top (y := nI (i + 1)) (nI_add i 1) ?_
  refine zs_sld dL_law_1071 (vp_in_nI (n := i + 1) (by omega) (by omega)) ?_
  rw [nI_clamp (by omega)]
  refine zs_cV1 dL_law_1072 oX8_from kX8_from lL_151 hz0 rfl (Nat.le_of_ble_eq_true rfl) rfl h1 h2 (p_from h (fun v w1 hm => ?_))
  obtain ⟨⟨f1, hz1⟩, hm⟩ := hm
  show Zs L xs (d + 22) mL_law (k0, n0, mc, ms) 1075 [some (.ref 1000200), some (.ref 0), some (.ref 74), some (.int (nI i))] [.int v] w1 Q
  refine zs_aload_n dL_law_1075 rfl ?_
  refine zs_aload_n dL_law_1076 rfl ?_
  refine zs_iload_n dL_law_1077 rfl ?_
  refine zs_iconst dL_law_1078 1 (by decide) ?_
  refine zs_iadd dL_law_1079 ?_
  refine zs_top (y := nI (i + 1)) (nI_add i 1) ?_
  refine zs_sld dL_law_1080 (vp_in_nI (n := i + 1) (by omega) (by omega)) ?_
  rw [nI_clamp (by omega)]
  refine zs_cV1 dL_law_1081 oX9_from kX9_from lL_154 hz1 rfl (Nat.le_of_ble_eq_true rfl) rfl h1 h2 (hm _ (fun w2 h2' => ?_))
  show Zs L xs (d + 22) mL_law (k0, n0, mc, ms) 1084 [some (.ref 1000200), some (.ref 0), some (.ref 74), some (.int (nI i))] [.int v, .int v] w2 Q
  refine zs_icmp_eq 1149 dL_law_1084 (by decide) (fun _ => ?_) (fun hz => absurd rfl hz)
  exact hK w2 h2'
theorem law_status (hL : L ≤ 320) (hi : i + 5 ≤ L) (h1 : k0 ≤ mc) (h2 : n0 ≤ ms) (h : LI w) (hK : ∀ w2, LI w2 → Zs L xs (d + 22) mL_law (k0, n0, mc, ms) 1149 [some (.ref 1000200), some (.ref 0), some (.ref 74), some (.int (nI i))] [] w2 Q) : Zs L xs (d + 22) mL_law (k0, n0, mc, ms) 1089 [some (.ref 1000200), some (.ref 0), some (.ref 74), some (.int (nI i))] [] w Q := by
  obtain ⟨f0, hz0⟩ := h.z0
  refine zs_aload_n dL_law_1089 rfl ?_
  refine zs_aload_n dL_law_1090 rfl ?_
  refine zs_iload_n dL_law_1091 rfl ?_
  refine zs_iconst dL_law_1092 1 (by decide) ?_
  refine zs_iadd dL_law_1093 ?_
  refine zs_top (y := nI (i + 1)) (nI_add i 1) ?_
  refine zs_sld dL_law_1094 (vp_in_nI (n := i + 1) (by omega) (by omega)) ?_
  rw [nI_clamp (by omega)]
  refine zs_cV1 dL_law_1095 oX8_status kX8_status lL_155 hz0 rfl (Nat.le_of_ble_eq_true rfl) rfl h1 h2 (p_status h (fun v w1 hm => ?_))
  obtain ⟨⟨f1, hz1⟩, hm⟩ := hm
  show Zs L xs (d + 22) mL_law (k0, n0, mc, ms) 1098 [some (.ref 1000200), some (.ref 0), some (.ref 74), some (.int (nI i))] [.int v] w1 Q
  refine zs_aload_n dL_law_1098 rfl ?_
  refine zs_aload_n dL_law_1099 rfl ?_
  refine zs_iload_n dL_law_1100 rfl ?_
  refine zs_iconst dL_law_1101 1 (by decide) ?_
  refine zs_iadd dL_law_1102 ?_
  refine zs_top (y := nI (i + 1)) (nI_add i 1) ?_
  refine zs_sld dL_law_1103 (vp_in_nI (n := i + 1) (by omega) (by omega)) ?_
  rw [nI_clamp (by omega)]
  refine zs_cV1 dL_law_1104 oX9_status kX9_status lL_158 hz1 rfl (Nat.le_of_ble_eq_true rfl) rfl h1 h2 (hm _ (fun w2 h2' => ?_))
  show Zs L xs (d + 22) mL_law (k0, n0, mc, ms) 1107 [some (.ref 1000200), some (.ref 0), some (.ref 74), some (.int (nI i))] [.int v, .int v] w2 Q
  refine zs_icmp_eq 1149 dL_law_1107 (by decide) (fun _ => ?_) (fun hz => absurd rfl hz)
  exact hK w2 h2'
theorem law_count (hL : L ≤ 320) (hi : i + 5 ≤ L) (h1 : k0 ≤ mc) (h2 : n0 ≤ ms) (h : LI w) (hK : ∀ w2, LI w2 → Zs L xs (d + 22) mL_law (k0, n0, mc, ms) 1149 [some (.ref 1000200), some (.ref 0), some (.ref 74), some (.int (nI i))] [] w2 Q) : Zs L xs (d + 22) mL_law (k0, n0, mc, ms) 1112 [some (.ref 1000200), some (.ref 0), some (.ref 74), some (.int (nI i))] [] w Q := by
  obtain ⟨f0, hz0⟩ := h.z0
  refine zs_aload_n dL_law_1112 rfl ?_
  refine zs_aload_n dL_law_1113 rfl ?_
  refine zs_iload_n dL_law_1114 rfl ?_
  refine zs_iconst dL_law_1115 1 (by decide) ?_
  refine zs_iadd dL_law_1116 ?_
  refine zs_top (y := nI (i + 1)) (nI_add i 1) ?_
  refine zs_sld dL_law_1117 (vp_in_nI (n := i + 1) (by omega) (by omega)) ?_
  rw [nI_clamp (by omega)]
  refine zs_cV1 dL_law_1118 oX8_count kX8_count lL_159 hz0 rfl (Nat.le_of_ble_eq_true rfl) rfl h1 h2 (p_count h (fun v w1 hm => ?_))
  obtain ⟨⟨f1, hz1⟩, hm⟩ := hm
  show Zs L xs (d + 22) mL_law (k0, n0, mc, ms) 1121 [some (.ref 1000200), some (.ref 0), some (.ref 74), some (.int (nI i))] [.int v] w1 Q
  refine zs_aload_n dL_law_1121 rfl ?_
  refine zs_aload_n dL_law_1122 rfl ?_
  refine zs_iload_n dL_law_1123 rfl ?_
  refine zs_iconst dL_law_1124 1 (by decide) ?_
  refine zs_iadd dL_law_1125 ?_
  refine zs_top (y := nI (i + 1)) (nI_add i 1) ?_
  refine zs_sld dL_law_1126 (vp_in_nI (n := i + 1) (by omega) (by omega)) ?_
  rw [nI_clamp (by omega)]
  refine zs_cV1 dL_law_1127 oX9_count kX9_count lL_162 hz1 rfl (Nat.le_of_ble_eq_true rfl) rfl h1 h2 (hm _ (fun w2 h2' => ?_))
  show Zs L xs (d + 22) mL_law (k0, n0, mc, ms) 1130 [some (.ref 1000200), some (.ref 0), some (.ref 74), some (.int (nI i))] [.int v, .int v] w2 Q
  refine zs_icmp_eq 1149 dL_law_1130 (by decide) (fun _ => ?_) (fun hz => absurd rfl hz)
  exact hK w2 h2'
theorem law_digest (hL : L ≤ 320) (hi : i + 5 ≤ L) (h1 : k0 ≤ mc) (h2 : n0 ≤ ms) (h : LI w) (hK : ∀ w2, LI w2 → Zs L xs (d + 22) mL_law (k0, n0, mc, ms) 1149 [some (.ref 1000200), some (.ref 0), some (.ref 74), some (.int (nI i))] [] w2 Q) : Zs L xs (d + 22) mL_law (k0, n0, mc, ms) 1135 [some (.ref 1000200), some (.ref 0), some (.ref 74), some (.int (nI i))] [] w Q := by
  obtain ⟨f0, hz0⟩ := h.z0
  refine zs_aload_n dL_law_1135 rfl ?_
  refine zs_cV0 dL_law_1136 oX8_digest kX8_digest lL_163 hz0 rfl (Nat.le_of_ble_eq_true rfl) rfl h1 h2 (p_digest h (fun v w1 hm => ?_))
  obtain ⟨⟨f1, hz1⟩, hm⟩ := hm
  show Zs L xs (d + 22) mL_law (k0, n0, mc, ms) 1139 [some (.ref 1000200), some (.ref 0), some (.ref 74), some (.int (nI i))] [.long v] w1 Q
  refine zs_aload_n dL_law_1139 rfl ?_
  refine zs_cV0 dL_law_1140 oX9_digest kX9_digest lL_167 hz1 rfl (Nat.le_of_ble_eq_true rfl) rfl h1 h2 (hm _ (fun w2 h2' => ?_))
  show Zs L xs (d + 22) mL_law (k0, n0, mc, ms) 1143 [some (.ref 1000200), some (.ref 0), some (.ref 74), some (.int (nI i))] [.long v, .long v] w2 Q
  refine zs_lcmp dL_law_1143 ?_
  refine zs_if_eq 1149 dL_law_1144 (by decide) (fun _ => ?_) (fun hz => absurd (lcmp_eq.mpr rfl) hz)
  exact hK w2 h2'
theorem law_gt {L i : Nat} (hL : L ≤ 320) (hi : i ≤ 400) : nI L - 5 < nI i ↔ L < i + 5 := by
  rw [show (5 : Int32) = nI 5 from rfl, Int32.lt_iff_toInt_lt, pk_sub_toInt (by omega) (by decide), nI_toInt (by omega)]
  omega
theorem law_loop (hL : L ≤ 320) (h1 : k0 = mc) (h2 : n0 = ms) (hQ : ∀ w, Q (some (.int 1)) w) : ∀ (k i : Nat) (w : ZW), L ≤ i + 5 * k + 4 → i ≤ 330 → LI w → Zs L xs (d + 22) mL_law (k0, n0, mc, ms) 18 [some (.ref 1000200), some (.ref 0), some (.ref 74), some (.int (nI i))] [] w Q := by
  intro k
  induction k with
  | zero =>
    intro i w hk hi h
    refine zs_iload_n dL_law_18 rfl ?_
    refine zs_aload_n dL_law_19 rfl ?_
    refine zs_slen dL_law_20 ?_
    refine zs_iconst dL_law_21 5 (by decide) ?_
    refine zs_isub dL_law_22 ?_
    refine zs_icmp_gt 1155 dL_law_23 (by decide) (fun _ => ?_) (fun hz => absurd ((law_gt hL (by omega)).mpr (by omega)) hz)
    refine zs_iconst dL_law_1155 1 (by decide) ?_
    refine zs_ireturn .boolean dL_law_1156 rfl rfl (Nat.le_of_eq h1) (Nat.le_of_eq h2) ?_
    exact hQ w
  | succ k ih =>
    intro i w hk hi h
    refine zs_iload_n dL_law_18 rfl ?_
    refine zs_aload_n dL_law_19 rfl ?_
    refine zs_slen dL_law_20 ?_
    refine zs_iconst dL_law_21 5 (by decide) ?_
    refine zs_isub dL_law_22 ?_
    by_cases hx : L < i + 5
    · refine zs_icmp_gt 1155 dL_law_23 (by decide) (fun _ => ?_) (fun hz => absurd ((law_gt hL (by omega)).mpr hx) hz)
      refine zs_iconst dL_law_1155 1 (by decide) ?_
      refine zs_ireturn .boolean dL_law_1156 rfl rfl (Nat.le_of_eq h1) (Nat.le_of_eq h2) ?_
      exact hQ w
    · refine zs_icmp_gt 1155 dL_law_23 (by decide) (fun hz => absurd ((law_gt hL (by omega)).mp hz) hx) (fun _ => ?_)
      have hi5 : i + 5 ≤ L := by omega
      have nx : ∀ w2, LI w2 → Zs L xs (d + 22) mL_law (k0, n0, mc, ms) 1149 [some (.ref 1000200), some (.ref 0), some (.ref 74), some (.int (nI i))] [] w2 Q := by
        intro w2 h2'
        refine zs_iinc (nI (i + 5)) [_, _, _, _] dL_law_1149 rfl (nI_add i 5) rfl ?_
        refine zs_goto 18 dL_law_1152 (by decide) ?_
        exact ih (i + 5) w2 (by omega) (by omega) h2'
      have l1 := Nat.le_of_eq h1
      have l2 := Nat.le_of_eq h2
      refine zs_aload_n dL_law_26 rfl ?_
      refine zs_iload_n dL_law_27 rfl ?_
      refine zs_sld dL_law_28 (vp_in_nI (n := i) (by omega) (by omega)) ?_
      rw [nI_clamp (by omega)]
      refine zs_bipush dL_law_29 63 (by decide) ?_
      refine zs_iand dL_law_31 ?_
      obtain ⟨j, hj, ej⟩ := pk_andE (xs i) (m := 63) 6 (by decide)
      refine zs_top ej ?_
      have hj37 : j = 0 ∨ j = 1 ∨ j = 2 ∨ j = 3 ∨ j = 4 ∨ j = 5 ∨ j = 6 ∨ j = 7 ∨ j = 8 ∨ j = 9 ∨ j = 10 ∨ j = 11 ∨ j = 12 ∨ j = 13 ∨ j = 14 ∨ j = 15 ∨ j = 16 ∨ j = 17 ∨ j = 18 ∨ j = 19 ∨ j = 20 ∨ j = 21 ∨ j = 22 ∨ j = 23 ∨ j = 24 ∨ j = 25 ∨ j = 26 ∨ j = 27 ∨ j = 28 ∨ j = 29 ∨ j = 30 ∨ j = 31 ∨ j = 32 ∨ j = 33 ∨ j = 34 ∨ j = 35 ∨ j = 36 ∨ 36 < j := by omega
      rcases hj37 with rfl | rfl | rfl | rfl | rfl | rfl | rfl | rfl | rfl | rfl | rfl | rfl | rfl | rfl | rfl | rfl | rfl | rfl | rfl | rfl | rfl | rfl | rfl | rfl | rfl | rfl | rfl | rfl | rfl | rfl | rfl | rfl | rfl | rfl | rfl | rfl | rfl | hj36
      · refine zs_tableIn 196 dL_law_32 (by decide) (by decide) (off := 164) (by decide) (by decide) ?_
        exact law_box hL hi5 l1 l2 h nx
      · refine zs_tableIn 239 dL_law_32 (by decide) (by decide) (off := 207) (by decide) (by decide) ?_
        exact law_lid hL hi5 l1 l2 h nx
      · refine zs_tableIn 282 dL_law_32 (by decide) (by decide) (off := 250) (by decide) (by decide) ?_
        exact law_put hL hi5 l1 l2 h nx
      · refine zs_tableIn 315 dL_law_32 (by decide) (by decide) (off := 283) (by decide) (by decide) ?_
        exact law_off hL hi5 l1 l2 h nx
      · refine zs_tableIn 338 dL_law_32 (by decide) (by decide) (off := 306) (by decide) (by decide) ?_
        exact law_undo hL hi5 l1 l2 h nx
      · refine zs_tableIn 351 dL_law_32 (by decide) (by decide) (off := 319) (by decide) (by decide) ?_
        exact law_on hL hi5 l1 l2 h nx
      · refine zs_tableIn 374 dL_law_32 (by decide) (by decide) (off := 342) (by decide) (by decide) ?_
        exact law_grasp hL hi5 l1 l2 h nx
      · refine zs_tableIn 407 dL_law_32 (by decide) (by decide) (off := 375) (by decide) (by decide) ?_
        exact law_sort hL hi5 l1 l2 h nx
      · refine zs_tableIn 460 dL_law_32 (by decide) (by decide) (off := 428) (by decide) (by decide) ?_
        exact law_eye hL hi5 l1 l2 h nx
      · refine zs_tableIn 493 dL_law_32 (by decide) (by decide) (off := 461) (by decide) (by decide) ?_
        exact law_type hL hi5 l1 l2 h nx
      · refine zs_tableIn 516 dL_law_32 (by decide) (by decide) (off := 484) (by decide) (by decide) ?_
        exact law_clear hL hi5 l1 l2 h nx
      · refine zs_tableIn 529 dL_law_32 (by decide) (by decide) (off := 497) (by decide) (by decide) ?_
        exact law_read hL hi5 l1 l2 h nx
      · refine zs_tableIn 542 dL_law_32 (by decide) (by decide) (off := 510) (by decide) (by decide) ?_
        exact law_fits hL hi5 l1 l2 h nx
      · refine zs_tableIn 565 dL_law_32 (by decide) (by decide) (off := 533) (by decide) (by decide) ?_
        exact law_most hL hi5 l1 l2 h nx
      · refine zs_tableIn 588 dL_law_32 (by decide) (by decide) (off := 556) (by decide) (by decide) ?_
        exact law_lacking hL hi5 l1 l2 h nx
      · refine zs_tableIn 601 dL_law_32 (by decide) (by decide) (off := 569) (by decide) (by decide) ?_
        exact law_soup hL hi5 l1 l2 h nx
      · refine zs_tableIn 634 dL_law_32 (by decide) (by decide) (off := 602) (by decide) (by decide) ?_
        exact law_much hL hi5 l1 l2 h nx
      · refine zs_tableIn 647 dL_law_32 (by decide) (by decide) (off := 615) (by decide) (by decide) ?_
        exact law_worth hL hi5 l1 l2 h nx
      · refine zs_tableIn 670 dL_law_32 (by decide) (by decide) (off := 638) (by decide) (by decide) ?_
        exact law_spare hL hi5 l1 l2 h nx
      · refine zs_tableIn 683 dL_law_32 (by decide) (by decide) (off := 651) (by decide) (by decide) ?_
        exact law_piles hL hi5 l1 l2 h nx
      · refine zs_tableIn 706 dL_law_32 (by decide) (by decide) (off := 674) (by decide) (by decide) ?_
        exact law_shelf hL hi5 l1 l2 h nx
      · refine zs_tableIn 729 dL_law_32 (by decide) (by decide) (off := 697) (by decide) (by decide) ?_
        exact law_buy hL hi5 l1 l2 h nx
      · refine zs_tableIn 752 dL_law_32 (by decide) (by decide) (off := 720) (by decide) (by decide) ?_
        exact law_tries hL hi5 l1 l2 h nx
      · refine zs_tableIn 775 dL_law_32 (by decide) (by decide) (off := 743) (by decide) (by decide) ?_
        exact law_nuts hL hi5 l1 l2 h nx
      · refine zs_tableIn 808 dL_law_32 (by decide) (by decide) (off := 776) (by decide) (by decide) ?_
        exact law_lend hL hi5 l1 l2 h nx
      · refine zs_tableIn 851 dL_law_32 (by decide) (by decide) (off := 819) (by decide) (by decide) ?_
        exact law_has hL hi5 l1 l2 h nx
      · refine zs_tableIn 874 dL_law_32 (by decide) (by decide) (off := 842) (by decide) (by decide) ?_
        exact law_wrong hL hi5 l1 l2 h nx
      · refine zs_tableIn 887 dL_law_32 (by decide) (by decide) (off := 855) (by decide) (by decide) ?_
        exact law_hint hL hi5 l1 l2 h nx
      · refine zs_tableIn 930 dL_law_32 (by decide) (by decide) (off := 898) (by decide) (by decide) ?_
        exact law_forget hL hi5 l1 l2 h nx
      · refine zs_tableIn 953 dL_law_32 (by decide) (by decide) (off := 921) (by decide) (by decide) ?_
        exact law_labels hL hi5 l1 l2 h nx
      · refine zs_tableIn 986 dL_law_32 (by decide) (by decide) (off := 954) (by decide) (by decide) ?_
        exact law_evening hL hi5 l1 l2 h nx
      · refine zs_tableIn 1019 dL_law_32 (by decide) (by decide) (off := 987) (by decide) (by decide) ?_
        exact law_part hL hi5 l1 l2 h nx
      · refine zs_tableIn 1043 dL_law_32 (by decide) (by decide) (off := 1011) (by decide) (by decide) ?_
        exact law_image hL hi5 l1 l2 h nx
      · refine zs_tableIn 1066 dL_law_32 (by decide) (by decide) (off := 1034) (by decide) (by decide) ?_
        exact law_from hL hi5 l1 l2 h nx
      · refine zs_tableIn 1089 dL_law_32 (by decide) (by decide) (off := 1057) (by decide) (by decide) ?_
        exact law_status hL hi5 l1 l2 h nx
      · refine zs_tableIn 1112 dL_law_32 (by decide) (by decide) (off := 1080) (by decide) (by decide) ?_
        exact law_count hL hi5 l1 l2 h nx
      · refine zs_tableIn 1135 dL_law_32 (by decide) (by decide) (off := 1103) (by decide) (by decide) ?_
        exact law_digest hL hi5 l1 l2 h nx
      · refine zs_tableOut 1149 dL_law_32 (Or.inr (by rw [nI_toInt (by omega)]; omega)) (by decide) ?_
        exact nx w h
end ZLAW2
