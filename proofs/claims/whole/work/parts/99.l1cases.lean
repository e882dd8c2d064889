/-! the law: calls 0 to 8 -/
def lwA (xs : Nat → Int32) (L w h : Nat) (a im : Nat → Int32) (tx : Nat → Nat) (n : Nat) (cl : Nat → List pC) (f1 f2 : Int32) (I : pvI) (J : pvJ) (P : pvP) : Prop := (pvOkP P ∧ P 0 0 = some L ∧ ∀ j, I 0 j = xs j) ∧ lwC w h a im tx n cl f1 f2 I J ∧ lwM w h a im tx n cl f1 f2 I ∧ lwK w h a im
/-- from a loop's end the law goes on -/
def lwN (nm : String) (Z : pvZT) (xs : Nat → Int32) (L i w h : Nat) : Prop := ∀ a im tx n cl f1 f2 I J P, lwA xs L w h a im tx n cl f1 f2 I J P → pvG (mLw nm) room_1 Z 1489 [.ref 0, .ref 1, .ref 202, .int (nI i)] [] 224 90037 224 I J P
def lwB (nm : String) (Z : pvZT) (i pc : Nat) (I : pvI) (J : pvJ) (P : pvP) : Prop := pvG (mLw nm) room_1 Z pc [.ref 0, .ref 1, .ref 202, .int (nI i)] [] 224 90037 224 I J P
section LC0
variable {nm : String} {Z : pvZT} {xs : Nat → Int32} {L i w h n : Nat} {a im : Nat → Int32} {tx : Nat → Nat} {cl : Nat → List pC} {f1 f2 : Int32} {I : pvI} {J : pvJ} {P : pvP}
theorem lw_0 (hL : L ≤ 3074) (hi : i + 6 ≤ L) (hA : lwA xs L w h a im tx n cl f1 f2 I J P) (K : lwN nm Z xs L i w h) : lwB nm Z i 216 I J P := by
  unfold lwB
  obtain ⟨⟨hP, s0, e0⟩, hc, hm, hK⟩ := hA
  have hwh := hc.1.1.wh.2
  have k1 := k_cell (v1 := xs (i + 1)) (v2 := xs (i + 2)) (v3 := xs (i + 3)) hP hc
  refine g_aload_n dL_law_216 rfl ?_
  refine g_aload_n dL_law_217 rfl ?_
  refine g_iload_n dL_law_218 rfl ?_
  refine g_iconst (v := nI 1) dL_law_219 (by decide) ?_
  refine n_iadd dL_law_220 (by first | (with_reducible exact nI_add _ _) | rfl) ?_
  refine g_sld dL_law_221 (by first | exact s1 | exact s0) (by omega) (rfl) (by omega) (by first | exact e1 _ | exact e0 _) ?_
  refine g_aload_n dL_law_222 rfl ?_
  refine g_iload_n dL_law_223 rfl ?_
  refine g_iconst (v := nI 2) dL_law_224 (by decide) ?_
  refine n_iadd dL_law_225 (by first | (with_reducible exact nI_add _ _) | rfl) ?_
  refine g_sld dL_law_226 (by first | exact s1 | exact s0) (by omega) (rfl) (by omega) (by first | exact e1 _ | exact e0 _) ?_
  refine g_aload_n dL_law_227 rfl ?_
  refine g_iload_n dL_law_228 rfl ?_
  refine g_iconst (v := nI 3) dL_law_229 (by decide) ?_
  refine n_iadd dL_law_230 (by first | (with_reducible exact nI_add _ _) | rfl) ?_
  refine g_sld dL_law_231 (by first | exact s1 | exact s0) (by omega) (rfl) (by omega) (by first | exact e1 _ | exact e0 _) ?_
  refine g_callV (k1) okX11_cell lkL_21 rfl (by first | rfl | exact pv_shx) rfl (by omega) (by omega) dL_law_232 rfl (Nat.le_of_ble_eq_true rfl) (⟨by decide, by decide, by decide, by decide⟩) ?_
  rintro v nx' I1 J1 P1 ⟨rfl, rfl, hP1, p1, hc1, x1⟩
  have s1 : P1 0 0 = some L := by rw [p1]; exact s0
  have e1 : ∀ j, I1 0 j = xs j := fun j => by rw [x1 0 (Or.inl rfl)]; exact e0 j
  have hm1 := hm.mv x1
  have k2 := q_cell (J := J1) (v1 := xs (i + 1)) (v2 := xs (i + 2)) (v3 := xs (i + 3)) hP1 hK.1 hm1
  refine g_aload_n dL_law_235 rfl ?_
  refine g_aload_n dL_law_236 rfl ?_
  refine g_iload_n dL_law_237 rfl ?_
  refine g_iconst (v := nI 1) dL_law_238 (by decide) ?_
  refine n_iadd dL_law_239 (by first | (with_reducible exact nI_add _ _) | rfl) ?_
  refine g_sld dL_law_240 (by first | exact s1 | exact s0) (by omega) (rfl) (by omega) (by first | exact e1 _ | exact e0 _) ?_
  refine g_aload_n dL_law_241 rfl ?_
  refine g_iload_n dL_law_242 rfl ?_
  refine g_iconst (v := nI 2) dL_law_243 (by decide) ?_
  refine n_iadd dL_law_244 (by first | (with_reducible exact nI_add _ _) | rfl) ?_
  refine g_sld dL_law_245 (by first | exact s1 | exact s0) (by omega) (rfl) (by omega) (by first | exact e1 _ | exact e0 _) ?_
  refine g_aload_n dL_law_246 rfl ?_
  refine g_iload_n dL_law_247 rfl ?_
  refine g_iconst (v := nI 3) dL_law_248 (by decide) ?_
  refine n_iadd dL_law_249 (by first | (with_reducible exact nI_add _ _) | rfl) ?_
  refine g_sld dL_law_250 (by first | exact s1 | exact s0) (by omega) (rfl) (by omega) (by first | exact e1 _ | exact e0 _) ?_
  refine g_callV (k2) okX12_cell lkL_24 rfl (by first | rfl | exact pv_shx) rfl (by omega) (by omega) dL_law_251 rfl (Nat.le_of_ble_eq_true rfl) (⟨by decide, by decide, by decide, by decide⟩) ?_
  rintro v nx' I2 J2 P2 ⟨rfl, rfl, rfl, hm2, x2⟩
  refine n_icmp_eq 1489 dL_law_254 (by decide) (by first | ((with_reducible apply cN_eq) <;> omega) | ((with_reducible apply cI_eqn) <;> omega) | exact Iff.rfl) (fun c254 => ?_) (fun c254 => by exfalso; first | omega | exact absurd trivial c254 | exact c254 | (simp at c254))
  exact K _ _ _ _ _ _ _ _ _ _ ⟨⟨hP1, s1, fun j => by rw [(x2 0 (by decide)).1]; exact e1 j⟩, hc1.mv x2, hm2, hK.mt hc1.1.2.2.2.2 h8_cell⟩
theorem lw_1 (hL : L ≤ 3074) (hi : i + 6 ≤ L) (hA : lwA xs L w h a im tx n cl f1 f2 I J P) (K : lwN nm Z xs L i w h) : lwB nm Z i 259 I J P := by
  unfold lwB
  obtain ⟨⟨hP, s0, e0⟩, hc, hm, hK⟩ := hA
  have hwh := hc.1.1.wh.2
  have k1 := k_rules (v1 := xs (i + 1)) (v2 := xs (i + 2)) (v3 := xs (i + 3)) hP hc
  refine g_aload_n dL_law_259 rfl ?_
  refine g_aload_n dL_law_260 rfl ?_
  refine g_iload_n dL_law_261 rfl ?_
  refine g_iconst (v := nI 1) dL_law_262 (by decide) ?_
  refine n_iadd dL_law_263 (by first | (with_reducible exact nI_add _ _) | rfl) ?_
  refine g_sld dL_law_264 (by first | exact s1 | exact s0) (by omega) (rfl) (by omega) (by first | exact e1 _ | exact e0 _) ?_
  refine g_aload_n dL_law_265 rfl ?_
  refine g_iload_n dL_law_266 rfl ?_
  refine g_iconst (v := nI 2) dL_law_267 (by decide) ?_
  refine n_iadd dL_law_268 (by first | (with_reducible exact nI_add _ _) | rfl) ?_
  refine g_sld dL_law_269 (by first | exact s1 | exact s0) (by omega) (rfl) (by omega) (by first | exact e1 _ | exact e0 _) ?_
  refine g_aload_n dL_law_270 rfl ?_
  refine g_iload_n dL_law_271 rfl ?_
  refine g_iconst (v := nI 3) dL_law_272 (by decide) ?_
  refine n_iadd dL_law_273 (by first | (with_reducible exact nI_add _ _) | rfl) ?_
  refine g_sld dL_law_274 (by first | exact s1 | exact s0) (by omega) (rfl) (by omega) (by first | exact e1 _ | exact e0 _) ?_
  refine g_callV (k1) okX11_rules lkL_25 rfl (by first | rfl | exact pv_shx) rfl (by omega) (by omega) dL_law_275 rfl (Nat.le_of_ble_eq_true rfl) (⟨by decide, by decide, by decide, by decide⟩) ?_
  rintro v nx' I1 J1 P1 ⟨rfl, rfl, hP1, p1, hc1, x1⟩
  have s1 : P1 0 0 = some L := by rw [p1]; exact s0
  have e1 : ∀ j, I1 0 j = xs j := fun j => by rw [x1 0 (Or.inl rfl)]; exact e0 j
  have hm1 := hm.mv x1
  have k2 := q_rules (J := J1) (v1 := xs (i + 1)) (v2 := xs (i + 2)) (v3 := xs (i + 3)) hP1 hK.1 hm1
  refine g_aload_n dL_law_278 rfl ?_
  refine g_aload_n dL_law_279 rfl ?_
  refine g_iload_n dL_law_280 rfl ?_
  refine g_iconst (v := nI 1) dL_law_281 (by decide) ?_
  refine n_iadd dL_law_282 (by first | (with_reducible exact nI_add _ _) | rfl) ?_
  refine g_sld dL_law_283 (by first | exact s1 | exact s0) (by omega) (rfl) (by omega) (by first | exact e1 _ | exact e0 _) ?_
  refine g_aload_n dL_law_284 rfl ?_
  refine g_iload_n dL_law_285 rfl ?_
  refine g_iconst (v := nI 2) dL_law_286 (by decide) ?_
  refine n_iadd dL_law_287 (by first | (with_reducible exact nI_add _ _) | rfl) ?_
  refine g_sld dL_law_288 (by first | exact s1 | exact s0) (by omega) (rfl) (by omega) (by first | exact e1 _ | exact e0 _) ?_
  refine g_aload_n dL_law_289 rfl ?_
  refine g_iload_n dL_law_290 rfl ?_
  refine g_iconst (v := nI 3) dL_law_291 (by decide) ?_
  refine n_iadd dL_law_292 (by first | (with_reducible exact nI_add _ _) | rfl) ?_
  refine g_sld dL_law_293 (by first | exact s1 | exact s0) (by omega) (rfl) (by omega) (by first | exact e1 _ | exact e0 _) ?_
  refine g_callV (k2) okX12_rules lkL_28 rfl (by first | rfl | exact pv_shx) rfl (by omega) (by omega) dL_law_294 rfl (Nat.le_of_ble_eq_true rfl) (⟨by decide, by decide, by decide, by decide⟩) ?_
  rintro v nx' I2 J2 P2 ⟨rfl, rfl, rfl, hm2, x2⟩
  refine n_icmp_eq 1489 dL_law_297 (by decide) (by first | ((with_reducible apply cN_eq) <;> omega) | ((with_reducible apply cI_eqn) <;> omega) | exact Iff.rfl) (fun c297 => ?_) (fun c297 => by exfalso; first | omega | exact absurd trivial c297 | exact c297 | (simp at c297))
  exact K _ _ _ _ _ _ _ _ _ _ ⟨⟨hP1, s1, fun j => by rw [(x2 0 (by decide)).1]; exact e1 j⟩, hc1.mv x2, hm2, hK.mt hc1.1.2.2.2.2 h8_rules⟩
theorem lw_2 (hL : L ≤ 3074) (hi : i + 6 ≤ L) (hA : lwA xs L w h a im tx n cl f1 f2 I J P) (K : lwN nm Z xs L i w h) : lwB nm Z i 302 I J P := by
  unfold lwB
  obtain ⟨⟨hP, s0, e0⟩, hc, hm, hK⟩ := hA
  have hwh := hc.1.1.wh.2
  have k1 := k_hole (v1 := xs (i + 1)) hP hc
  refine g_aload_n dL_law_302 rfl ?_
  refine g_aload_n dL_law_303 rfl ?_
  refine g_iload_n dL_law_304 rfl ?_
  refine g_iconst (v := nI 1) dL_law_305 (by decide) ?_
  refine n_iadd dL_law_306 (by first | (with_reducible exact nI_add _ _) | rfl) ?_
  refine g_sld dL_law_307 (by first | exact s1 | exact s0) (by omega) (rfl) (by omega) (by first | exact e1 _ | exact e0 _) ?_
  refine g_callV (k1) okX11_hole lkL_29 rfl (by first | rfl | exact pv_shx) rfl (by omega) (by omega) dL_law_308 rfl (Nat.le_of_ble_eq_true rfl) (⟨by decide, by decide, by decide, by decide⟩) ?_
  rintro v nx' I1 J1 P1 ⟨rfl, rfl, hP1, p1, hc1, x1⟩
  have s1 : P1 0 0 = some L := by rw [p1]; exact s0
  have e1 : ∀ j, I1 0 j = xs j := fun j => by rw [x1 0 (Or.inl rfl)]; exact e0 j
  have hm1 := hm.mv x1
  have k2 := q_hole (J := J1) (v1 := xs (i + 1)) hP1 hK.1 hm1
  refine g_aload_n dL_law_311 rfl ?_
  refine g_aload_n dL_law_312 rfl ?_
  refine g_iload_n dL_law_313 rfl ?_
  refine g_iconst (v := nI 1) dL_law_314 (by decide) ?_
  refine n_iadd dL_law_315 (by first | (with_reducible exact nI_add _ _) | rfl) ?_
  refine g_sld dL_law_316 (by first | exact s1 | exact s0) (by omega) (rfl) (by omega) (by first | exact e1 _ | exact e0 _) ?_
  refine g_callV (k2) okX12_hole lkL_33 rfl (by first | rfl | exact pv_shx) rfl (by omega) (by omega) dL_law_317 rfl (Nat.le_of_ble_eq_true rfl) (⟨by decide, by decide, by decide, by decide⟩) ?_
  rintro v nx' I2 J2 P2 ⟨rfl, rfl, rfl, hm2, x2⟩
  refine n_icmp_eq 1489 dL_law_320 (by decide) (by first | ((with_reducible apply cN_eq) <;> omega) | ((with_reducible apply cI_eqn) <;> omega) | exact Iff.rfl) (fun c320 => ?_) (fun c320 => by exfalso; first | omega | exact absurd trivial c320 | exact c320 | (simp at c320))
  exact K _ _ _ _ _ _ _ _ _ _ ⟨⟨hP1, s1, fun j => by rw [(x2 0 (by decide)).1]; exact e1 j⟩, hc1.mv x2, hm2, hK.mt hc1.1.2.2.2.2 h8_hole⟩
theorem lw_3 (hL : L ≤ 3074) (hi : i + 6 ≤ L) (hA : lwA xs L w h a im tx n cl f1 f2 I J P) (K : lwN nm Z xs L i w h) : lwB nm Z i 325 I J P := by
  unfold lwB
  obtain ⟨⟨hP, s0, e0⟩, hc, hm, hK⟩ := hA
  have hwh := hc.1.1.wh.2
  have k1 := k_plug (v1 := xs (i + 1)) hP hc
  refine g_aload_n dL_law_325 rfl ?_
  refine g_aload_n dL_law_326 rfl ?_
  refine g_iload_n dL_law_327 rfl ?_
  refine g_iconst (v := nI 1) dL_law_328 (by decide) ?_
  refine n_iadd dL_law_329 (by first | (with_reducible exact nI_add _ _) | rfl) ?_
  refine g_sld dL_law_330 (by first | exact s1 | exact s0) (by omega) (rfl) (by omega) (by first | exact e1 _ | exact e0 _) ?_
  refine g_callV (k1) okX11_plug lkL_34 rfl (by first | rfl | exact pv_shx) rfl (by omega) (by omega) dL_law_331 rfl (Nat.le_of_ble_eq_true rfl) (⟨by decide, by decide, by decide, by decide⟩) ?_
  rintro v nx' I1 J1 P1 ⟨rfl, rfl, hP1, p1, hc1, x1⟩
  have s1 : P1 0 0 = some L := by rw [p1]; exact s0
  have e1 : ∀ j, I1 0 j = xs j := fun j => by rw [x1 0 (Or.inl rfl)]; exact e0 j
  have hm1 := hm.mv x1
  have k2 := q_plug (J := J1) (v1 := xs (i + 1)) hP1 hK.1 hm1
  refine g_aload_n dL_law_334 rfl ?_
  refine g_aload_n dL_law_335 rfl ?_
  refine g_iload_n dL_law_336 rfl ?_
  refine g_iconst (v := nI 1) dL_law_337 (by decide) ?_
  refine n_iadd dL_law_338 (by first | (with_reducible exact nI_add _ _) | rfl) ?_
  refine g_sld dL_law_339 (by first | exact s1 | exact s0) (by omega) (rfl) (by omega) (by first | exact e1 _ | exact e0 _) ?_
  refine g_callV (k2) okX12_plug lkL_38 rfl (by first | rfl | exact pv_shx) rfl (by omega) (by omega) dL_law_340 rfl (Nat.le_of_ble_eq_true rfl) (⟨by decide, by decide, by decide, by decide⟩) ?_
  rintro v nx' I2 J2 P2 ⟨rfl, rfl, rfl, hm2, x2⟩
  refine n_icmp_eq 1489 dL_law_343 (by decide) (by first | ((with_reducible apply cN_eq) <;> omega) | ((with_reducible apply cI_eqn) <;> omega) | exact Iff.rfl) (fun c343 => ?_) (fun c343 => by exfalso; first | omega | exact absurd trivial c343 | exact c343 | (simp at c343))
  exact K _ _ _ _ _ _ _ _ _ _ ⟨⟨hP1, s1, fun j => by rw [(x2 0 (by decide)).1]; exact e1 j⟩, hc1.mv x2, hm2, hK.mt hc1.1.2.2.2.2 h8_plug⟩
theorem lw_4 (hL : L ≤ 3074) (hi : i + 6 ≤ L) (hA : lwA xs L w h a im tx n cl f1 f2 I J P) (K : lwN nm Z xs L i w h) : lwB nm Z i 348 I J P := by
  unfold lwB
  obtain ⟨⟨hP, s0, e0⟩, hc, hm, hK⟩ := hA
  have hwh := hc.1.1.wh.2
  have k1 := k_pour (v1 := xs (i + 1)) (v2 := xs (i + 2)) hP hc
  refine g_aload_n dL_law_348 rfl ?_
  refine g_aload_n dL_law_349 rfl ?_
  refine g_iload_n dL_law_350 rfl ?_
  refine g_iconst (v := nI 1) dL_law_351 (by decide) ?_
  refine n_iadd dL_law_352 (by first | (with_reducible exact nI_add _ _) | rfl) ?_
  refine g_sld dL_law_353 (by first | exact s1 | exact s0) (by omega) (rfl) (by omega) (by first | exact e1 _ | exact e0 _) ?_
  refine g_aload_n dL_law_354 rfl ?_
  refine g_iload_n dL_law_355 rfl ?_
  refine g_iconst (v := nI 2) dL_law_356 (by decide) ?_
  refine n_iadd dL_law_357 (by first | (with_reducible exact nI_add _ _) | rfl) ?_
  refine g_sld dL_law_358 (by first | exact s1 | exact s0) (by omega) (rfl) (by omega) (by first | exact e1 _ | exact e0 _) ?_
  refine g_callV (k1) okX11_pour lkL_39 rfl (by first | rfl | exact pv_shx) rfl (by omega) (by omega) dL_law_359 rfl (Nat.le_of_ble_eq_true rfl) (⟨by decide, by decide, by decide, by decide⟩) ?_
  rintro v nx' I1 J1 P1 ⟨rfl, rfl, hP1, p1, hc1, x1⟩
  have s1 : P1 0 0 = some L := by rw [p1]; exact s0
  have e1 : ∀ j, I1 0 j = xs j := fun j => by rw [x1 0 (Or.inl rfl)]; exact e0 j
  have hm1 := hm.mv x1
  have k2 := q_pour (J := J1) (v1 := xs (i + 1)) (v2 := xs (i + 2)) hP1 hK.1 hm1
  refine g_aload_n dL_law_362 rfl ?_
  refine g_aload_n dL_law_363 rfl ?_
  refine g_iload_n dL_law_364 rfl ?_
  refine g_iconst (v := nI 1) dL_law_365 (by decide) ?_
  refine n_iadd dL_law_366 (by first | (with_reducible exact nI_add _ _) | rfl) ?_
  refine g_sld dL_law_367 (by first | exact s1 | exact s0) (by omega) (rfl) (by omega) (by first | exact e1 _ | exact e0 _) ?_
  refine g_aload_n dL_law_368 rfl ?_
  refine g_iload_n dL_law_369 rfl ?_
  refine g_iconst (v := nI 2) dL_law_370 (by decide) ?_
  refine n_iadd dL_law_371 (by first | (with_reducible exact nI_add _ _) | rfl) ?_
  refine g_sld dL_law_372 (by first | exact s1 | exact s0) (by omega) (rfl) (by omega) (by first | exact e1 _ | exact e0 _) ?_
  refine g_callV (k2) okX12_pour lkL_43 rfl (by first | rfl | exact pv_shx) rfl (by omega) (by omega) dL_law_373 rfl (Nat.le_of_ble_eq_true rfl) (⟨by decide, by decide, by decide, by decide⟩) ?_
  rintro v nx' I2 J2 P2 ⟨rfl, rfl, rfl, hm2, x2⟩
  refine n_icmp_eq 1489 dL_law_376 (by decide) (by first | ((with_reducible apply cN_eq) <;> omega) | ((with_reducible apply cI_eqn) <;> omega) | exact Iff.rfl) (fun c376 => ?_) (fun c376 => by exfalso; first | omega | exact absurd trivial c376 | exact c376 | (simp at c376))
  exact K _ _ _ _ _ _ _ _ _ _ ⟨⟨hP1, s1, fun j => by rw [(x2 0 (by decide)).1]; exact e1 j⟩, hc1.mv x2, hm2, hK.mt hc1.1.2.2.2.2 h8_pour⟩
theorem lw_5 (hL : L ≤ 3074) (hi : i + 6 ≤ L) (hA : lwA xs L w h a im tx n cl f1 f2 I J P) (K : lwN nm Z xs L i w h) : lwB nm Z i 381 I J P := by
  unfold lwB
  obtain ⟨⟨hP, s0, e0⟩, hc, hm, hK⟩ := hA
  have hwh := hc.1.1.wh.2
  have k1 := k_fill (c := xs (i + 1)) hP hc
  refine g_aload_n dL_law_381 rfl ?_
  refine g_aload_n dL_law_382 rfl ?_
  refine g_iload_n dL_law_383 rfl ?_
  refine g_iconst (v := nI 1) dL_law_384 (by decide) ?_
  refine n_iadd dL_law_385 (by first | (with_reducible exact nI_add _ _) | rfl) ?_
  refine g_sld dL_law_386 (by first | exact s1 | exact s0) (by omega) (rfl) (by omega) (by first | exact e1 _ | exact e0 _) ?_
  refine g_callV (k1) okX11_fill lkL_44 rfl (by first | rfl | exact pv_shx) rfl (by omega) (by omega) dL_law_387 rfl (Nat.le_of_ble_eq_true rfl) (⟨by decide, by decide, by decide, by decide⟩) ?_
  rintro v nx' I1 J1 P1 ⟨rfl, rfl, hP1, p1, hc1, x1⟩
  have s1 : P1 0 0 = some L := by rw [p1]; exact s0
  have e1 : ∀ j, I1 0 j = xs j := fun j => by rw [x1 0 (Or.inl rfl)]; exact e0 j
  have hm1 := hm.mv x1
  have k2 := q_fill (J := J1) (c := xs (i + 1)) hP1 hK.1 hm1
  refine g_aload_n dL_law_390 rfl ?_
  refine g_aload_n dL_law_391 rfl ?_
  refine g_iload_n dL_law_392 rfl ?_
  refine g_iconst (v := nI 1) dL_law_393 (by decide) ?_
  refine n_iadd dL_law_394 (by first | (with_reducible exact nI_add _ _) | rfl) ?_
  refine g_sld dL_law_395 (by first | exact s1 | exact s0) (by omega) (rfl) (by omega) (by first | exact e1 _ | exact e0 _) ?_
  refine g_callV (k2) okX12_fill lkL_47 rfl (by first | rfl | exact pv_shx) rfl (by omega) (by omega) dL_law_396 rfl (Nat.le_of_ble_eq_true rfl) (⟨by decide, by decide, by decide, by decide⟩) ?_
  rintro v nx' I2 J2 P2 ⟨rfl, rfl, rfl, hm2, x2⟩
  refine n_icmp_eq 1489 dL_law_399 (by decide) (by first | ((with_reducible apply cN_eq) <;> omega) | ((with_reducible apply cI_eqn) <;> omega) | exact Iff.rfl) (fun c399 => ?_) (fun c399 => by exfalso; first | omega | exact absurd trivial c399 | exact c399 | (simp at c399))
  exact K _ _ _ _ _ _ _ _ _ _ ⟨⟨hP1, s1, fun j => by rw [(x2 0 (by decide)).1]; exact e1 j⟩, hc1.mv x2, hm2, hK⟩
theorem lw_6 (hL : L ≤ 3074) (hi : i + 6 ≤ L) (hA : lwA xs L w h a im tx n cl f1 f2 I J P) (K : lwN nm Z xs L i w h) : lwB nm Z i 404 I J P := by
  unfold lwB
  obtain ⟨⟨hP, s0, e0⟩, hc, hm, hK⟩ := hA
  have hwh := hc.1.1.wh.2
  have k1 := k_trench (v1 := xs (i + 1)) (v2 := xs (i + 2)) (v3 := xs (i + 3)) (v4 := xs (i + 4)) hP hc
  refine g_aload_n dL_law_404 rfl ?_
  refine g_aload_n dL_law_405 rfl ?_
  refine g_iload_n dL_law_406 rfl ?_
  refine g_iconst (v := nI 1) dL_law_407 (by decide) ?_
  refine n_iadd dL_law_408 (by first | (with_reducible exact nI_add _ _) | rfl) ?_
  refine g_sld dL_law_409 (by first | exact s1 | exact s0) (by omega) (rfl) (by omega) (by first | exact e1 _ | exact e0 _) ?_
  refine g_aload_n dL_law_410 rfl ?_
  refine g_iload_n dL_law_411 rfl ?_
  refine g_iconst (v := nI 2) dL_law_412 (by decide) ?_
  refine n_iadd dL_law_413 (by first | (with_reducible exact nI_add _ _) | rfl) ?_
  refine g_sld dL_law_414 (by first | exact s1 | exact s0) (by omega) (rfl) (by omega) (by first | exact e1 _ | exact e0 _) ?_
  refine g_aload_n dL_law_415 rfl ?_
  refine g_iload_n dL_law_416 rfl ?_
  refine g_iconst (v := nI 3) dL_law_417 (by decide) ?_
  refine n_iadd dL_law_418 (by first | (with_reducible exact nI_add _ _) | rfl) ?_
  refine g_sld dL_law_419 (by first | exact s1 | exact s0) (by omega) (rfl) (by omega) (by first | exact e1 _ | exact e0 _) ?_
  refine g_aload_n dL_law_420 rfl ?_
  refine g_iload_n dL_law_421 rfl ?_
  refine g_iconst (v := nI 4) dL_law_422 (by decide) ?_
  refine n_iadd dL_law_423 (by first | (with_reducible exact nI_add _ _) | rfl) ?_
  refine g_sld dL_law_424 (by first | exact s1 | exact s0) (by omega) (rfl) (by omega) (by first | exact e1 _ | exact e0 _) ?_
  refine g_callV (k1) okX11_trench lkL_48 rfl (by first | rfl | exact pv_shx) rfl (by omega) (by omega) dL_law_425 rfl (Nat.le_of_ble_eq_true rfl) (⟨by decide, by decide, by decide, by decide⟩) ?_
  rintro v nx' I1 J1 P1 ⟨rfl, rfl, hP1, p1, hc1, x1⟩
  have s1 : P1 0 0 = some L := by rw [p1]; exact s0
  have e1 : ∀ j, I1 0 j = xs j := fun j => by rw [x1 0 (Or.inl rfl)]; exact e0 j
  have hm1 := hm.mv x1
  have k2 := q_trench (J := J1) (v1 := xs (i + 1)) (v2 := xs (i + 2)) (v3 := xs (i + 3)) (v4 := xs (i + 4)) hP1 hK.1 hm1
  refine g_aload_n dL_law_428 rfl ?_
  refine g_aload_n dL_law_429 rfl ?_
  refine g_iload_n dL_law_430 rfl ?_
  refine g_iconst (v := nI 1) dL_law_431 (by decide) ?_
  refine n_iadd dL_law_432 (by first | (with_reducible exact nI_add _ _) | rfl) ?_
  refine g_sld dL_law_433 (by first | exact s1 | exact s0) (by omega) (rfl) (by omega) (by first | exact e1 _ | exact e0 _) ?_
  refine g_aload_n dL_law_434 rfl ?_
  refine g_iload_n dL_law_435 rfl ?_
  refine g_iconst (v := nI 2) dL_law_436 (by decide) ?_
  refine n_iadd dL_law_437 (by first | (with_reducible exact nI_add _ _) | rfl) ?_
  refine g_sld dL_law_438 (by first | exact s1 | exact s0) (by omega) (rfl) (by omega) (by first | exact e1 _ | exact e0 _) ?_
  refine g_aload_n dL_law_439 rfl ?_
  refine g_iload_n dL_law_440 rfl ?_
  refine g_iconst (v := nI 3) dL_law_441 (by decide) ?_
  refine n_iadd dL_law_442 (by first | (with_reducible exact nI_add _ _) | rfl) ?_
  refine g_sld dL_law_443 (by first | exact s1 | exact s0) (by omega) (rfl) (by omega) (by first | exact e1 _ | exact e0 _) ?_
  refine g_aload_n dL_law_444 rfl ?_
  refine g_iload_n dL_law_445 rfl ?_
  refine g_iconst (v := nI 4) dL_law_446 (by decide) ?_
  refine n_iadd dL_law_447 (by first | (with_reducible exact nI_add _ _) | rfl) ?_
  refine g_sld dL_law_448 (by first | exact s1 | exact s0) (by omega) (rfl) (by omega) (by first | exact e1 _ | exact e0 _) ?_
  refine g_callV (k2) okX12_trench lkL_52 rfl (by first | rfl | exact pv_shx) rfl (by omega) (by omega) dL_law_449 rfl (Nat.le_of_ble_eq_true rfl) (⟨by decide, by decide, by decide, by decide⟩) ?_
  rintro v nx' I2 J2 P2 ⟨rfl, rfl, rfl, hm2, x2⟩
  refine n_icmp_eq 1489 dL_law_452 (by decide) (by first | ((with_reducible apply cN_eq) <;> omega) | ((with_reducible apply cI_eqn) <;> omega) | exact Iff.rfl) (fun c452 => ?_) (fun c452 => by exfalso; first | omega | exact absurd trivial c452 | exact c452 | (simp at c452))
  exact K _ _ _ _ _ _ _ _ _ _ ⟨⟨hP1, s1, fun j => by rw [(x2 0 (by decide)).1]; exact e1 j⟩, hc1.mv x2, hm2, hK.mt hc1.1.2.2.2.2 h8_trench⟩
theorem lw_7 (hL : L ≤ 3074) (hi : i + 6 ≤ L) (hA : lwA xs L w h a im tx n cl f1 f2 I J P) (K : lwN nm Z xs L i w h) : lwB nm Z i 457 I J P := by
  unfold lwB
  obtain ⟨⟨hP, s0, e0⟩, hc, hm, hK⟩ := hA
  have hwh := hc.1.1.wh.2
  have k1 := k_state (v1 := xs (i + 1)) (v2 := xs (i + 2)) hP hc
  refine g_aload_n dL_law_457 rfl ?_
  refine g_aload_n dL_law_458 rfl ?_
  refine g_iload_n dL_law_459 rfl ?_
  refine g_iconst (v := nI 1) dL_law_460 (by decide) ?_
  refine n_iadd dL_law_461 (by first | (with_reducible exact nI_add _ _) | rfl) ?_
  refine g_sld dL_law_462 (by first | exact s1 | exact s0) (by omega) (rfl) (by omega) (by first | exact e1 _ | exact e0 _) ?_
  refine g_aload_n dL_law_463 rfl ?_
  refine g_iload_n dL_law_464 rfl ?_
  refine g_iconst (v := nI 2) dL_law_465 (by decide) ?_
  refine n_iadd dL_law_466 (by first | (with_reducible exact nI_add _ _) | rfl) ?_
  refine g_sld dL_law_467 (by first | exact s1 | exact s0) (by omega) (rfl) (by omega) (by first | exact e1 _ | exact e0 _) ?_
  refine g_callV (k1) okX11_state lkL_53 rfl (by first | rfl | exact pv_shx) rfl (by omega) (by omega) dL_law_468 rfl (Nat.le_of_ble_eq_true rfl) (⟨by decide, by decide, by decide, by decide⟩) ?_
  rintro v nx' I1 J1 P1 ⟨rfl, rfl, hP1, p1, hc1, x1⟩
  have s1 : P1 0 0 = some L := by rw [p1]; exact s0
  have e1 : ∀ j, I1 0 j = xs j := fun j => by rw [x1 0 (Or.inl rfl)]; exact e0 j
  have hm1 := hm.mv x1
  have k2 := q_state (J := J1) (v1 := xs (i + 1)) (v2 := xs (i + 2)) hP1 hK.1 hm1
  refine g_aload_n dL_law_471 rfl ?_
  refine g_aload_n dL_law_472 rfl ?_
  refine g_iload_n dL_law_473 rfl ?_
  refine g_iconst (v := nI 1) dL_law_474 (by decide) ?_
  refine n_iadd dL_law_475 (by first | (with_reducible exact nI_add _ _) | rfl) ?_
  refine g_sld dL_law_476 (by first | exact s1 | exact s0) (by omega) (rfl) (by omega) (by first | exact e1 _ | exact e0 _) ?_
  refine g_aload_n dL_law_477 rfl ?_
  refine g_iload_n dL_law_478 rfl ?_
  refine g_iconst (v := nI 2) dL_law_479 (by decide) ?_
  refine n_iadd dL_law_480 (by first | (with_reducible exact nI_add _ _) | rfl) ?_
  refine g_sld dL_law_481 (by first | exact s1 | exact s0) (by omega) (rfl) (by omega) (by first | exact e1 _ | exact e0 _) ?_
  refine g_callV (k2) okX12_state lkL_56 rfl (by first | rfl | exact pv_shx) rfl (by omega) (by omega) dL_law_482 rfl (Nat.le_of_ble_eq_true rfl) (⟨by decide, by decide, by decide, by decide⟩) ?_
  rintro v nx' I2 J2 P2 ⟨rfl, rfl, rfl, hm2, x2⟩
  refine n_icmp_eq 1489 dL_law_485 (by decide) (by first | ((with_reducible apply cN_eq) <;> omega) | ((with_reducible apply cI_eqn) <;> omega) | exact Iff.rfl) (fun c485 => ?_) (fun c485 => by exfalso; first | omega | exact absurd trivial c485 | exact c485 | (simp at c485))
  exact K _ _ _ _ _ _ _ _ _ _ ⟨⟨hP1, s1, fun j => by rw [(x2 0 (by decide)).1]; exact e1 j⟩, hc1.mv x2, hm2, hK.mt hc1.1.2.2.2.2 h8_state⟩
theorem lw_8 (hL : L ≤ 3074) (hi : i + 6 ≤ L) (hA : lwA xs L w h a im tx n cl f1 f2 I J P) (K : lwN nm Z xs L i w h) : lwB nm Z i 490 I J P := by
  unfold lwB
  obtain ⟨⟨hP, s0, e0⟩, hc, hm, hK⟩ := hA
  have hwh := hc.1.1.wh.2
  have k1 := k_burns (v1 := xs (i + 1)) (v2 := xs (i + 2)) (v3 := xs (i + 3)) (v4 := xs (i + 4)) hP hc
  refine g_aload_n dL_law_490 rfl ?_
  refine g_aload_n dL_law_491 rfl ?_
  refine g_iload_n dL_law_492 rfl ?_
  refine g_iconst (v := nI 1) dL_law_493 (by decide) ?_
  refine n_iadd dL_law_494 (by first | (with_reducible exact nI_add _ _) | rfl) ?_
  refine g_sld dL_law_495 (by first | exact s1 | exact s0) (by omega) (rfl) (by omega) (by first | exact e1 _ | exact e0 _) ?_
  refine g_aload_n dL_law_496 rfl ?_
  refine g_iload_n dL_law_497 rfl ?_
  refine g_iconst (v := nI 2) dL_law_498 (by decide) ?_
  refine n_iadd dL_law_499 (by first | (with_reducible exact nI_add _ _) | rfl) ?_
  refine g_sld dL_law_500 (by first | exact s1 | exact s0) (by omega) (rfl) (by omega) (by first | exact e1 _ | exact e0 _) ?_
  refine g_aload_n dL_law_501 rfl ?_
  refine g_iload_n dL_law_502 rfl ?_
  refine g_iconst (v := nI 3) dL_law_503 (by decide) ?_
  refine n_iadd dL_law_504 (by first | (with_reducible exact nI_add _ _) | rfl) ?_
  refine g_sld dL_law_505 (by first | exact s1 | exact s0) (by omega) (rfl) (by omega) (by first | exact e1 _ | exact e0 _) ?_
  refine g_aload_n dL_law_506 rfl ?_
  refine g_iload_n dL_law_507 rfl ?_
  refine g_iconst (v := nI 4) dL_law_508 (by decide) ?_
  refine n_iadd dL_law_509 (by first | (with_reducible exact nI_add _ _) | rfl) ?_
  refine g_sld dL_law_510 (by first | exact s1 | exact s0) (by omega) (rfl) (by omega) (by first | exact e1 _ | exact e0 _) ?_
  refine g_callV (k1) okX11_burns lkL_57 rfl (by first | rfl | exact pv_shx) rfl (by omega) (by omega) dL_law_511 rfl (Nat.le_of_ble_eq_true rfl) (⟨by decide, by decide, by decide, by decide⟩) ?_
  rintro v nx' I1 J1 P1 ⟨rfl, rfl, hP1, p1, hc1, x1⟩
  have s1 : P1 0 0 = some L := by rw [p1]; exact s0
  have e1 : ∀ j, I1 0 j = xs j := fun j => by rw [x1 0 (Or.inl rfl)]; exact e0 j
  have hm1 := hm.mv x1
  have k2 := q_burns (J := J1) (v1 := xs (i + 1)) (v2 := xs (i + 2)) (v3 := xs (i + 3)) (v4 := xs (i + 4)) hP1 hK.1 hm1
  refine g_aload_n dL_law_514 rfl ?_
  refine g_aload_n dL_law_515 rfl ?_
  refine g_iload_n dL_law_516 rfl ?_
  refine g_iconst (v := nI 1) dL_law_517 (by decide) ?_
  refine n_iadd dL_law_518 (by first | (with_reducible exact nI_add _ _) | rfl) ?_
  refine g_sld dL_law_519 (by first | exact s1 | exact s0) (by omega) (rfl) (by omega) (by first | exact e1 _ | exact e0 _) ?_
  refine g_aload_n dL_law_520 rfl ?_
  refine g_iload_n dL_law_521 rfl ?_
  refine g_iconst (v := nI 2) dL_law_522 (by decide) ?_
  refine n_iadd dL_law_523 (by first | (with_reducible exact nI_add _ _) | rfl) ?_
  refine g_sld dL_law_524 (by first | exact s1 | exact s0) (by omega) (rfl) (by omega) (by first | exact e1 _ | exact e0 _) ?_
  refine g_aload_n dL_law_525 rfl ?_
  refine g_iload_n dL_law_526 rfl ?_
  refine g_iconst (v := nI 3) dL_law_527 (by decide) ?_
  refine n_iadd dL_law_528 (by first | (with_reducible exact nI_add _ _) | rfl) ?_
  refine g_sld dL_law_529 (by first | exact s1 | exact s0) (by omega) (rfl) (by omega) (by first | exact e1 _ | exact e0 _) ?_
  refine g_aload_n dL_law_530 rfl ?_
  refine g_iload_n dL_law_531 rfl ?_
  refine g_iconst (v := nI 4) dL_law_532 (by decide) ?_
  refine n_iadd dL_law_533 (by first | (with_reducible exact nI_add _ _) | rfl) ?_
  refine g_sld dL_law_534 (by first | exact s1 | exact s0) (by omega) (rfl) (by omega) (by first | exact e1 _ | exact e0 _) ?_
  refine g_callV (k2) okX12_burns lkL_60 rfl (by first | rfl | exact pv_shx) rfl (by omega) (by omega) dL_law_535 rfl (Nat.le_of_ble_eq_true rfl) (⟨by decide, by decide, by decide, by decide⟩) ?_
  rintro v nx' I2 J2 P2 ⟨rfl, rfl, rfl, hm2, x2⟩
  refine n_icmp_eq 1489 dL_law_538 (by decide) (by first | ((with_reducible apply cN_eq) <;> omega) | ((with_reducible apply cI_eqn) <;> omega) | exact Iff.rfl) (fun c538 => ?_) (fun c538 => by exfalso; first | omega | exact absurd trivial c538 | exact c538 | (simp at c538))
  exact K _ _ _ _ _ _ _ _ _ _ ⟨⟨hP1, s1, fun j => by rw [(x2 0 (by decide)).1]; exact e1 j⟩, hc1.mv x2, hm2, hK⟩
end LC0
