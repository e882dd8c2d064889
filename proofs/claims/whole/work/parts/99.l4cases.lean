/-! the law: calls 29 to 36 -/
section LC3
variable {nm : String} {Z : pvZT} {xs : Nat → Int32} {L i w h n : Nat} {a im : Nat → Int32} {tx : Nat → Nat} {cl : Nat → List pC} {f1 f2 : Int32} {I : pvI} {J : pvJ} {P : pvP}
theorem lw_29 (hL : L ≤ 3074) (hi : i + 6 ≤ L) (hA : lwA xs L w h a im tx n cl f1 f2 I J P) (K : lwN nm Z xs L i w h) : lwB nm Z i 1265 I J P := by
  unfold lwB
  obtain ⟨⟨hP, s0, e0⟩, hc, hm, hK⟩ := hA
  have hwh := hc.1.1.wh.2
  have k1 := k_by (v1 := xs (i + 1)) (v2 := xs (i + 2)) (v3 := xs (i + 3)) hP hc
  refine g_aload_n dL_law_1265 rfl ?_
  refine g_aload_n dL_law_1266 rfl ?_
  refine g_iload_n dL_law_1267 rfl ?_
  refine g_iconst (v := nI 1) dL_law_1268 (by decide) ?_
  refine n_iadd dL_law_1269 (by first | (with_reducible exact nI_add _ _) | rfl) ?_
  refine g_sld dL_law_1270 (by first | exact s1 | exact s0) (by omega) (rfl) (by omega) (by first | exact e1 _ | exact e0 _) ?_
  refine g_aload_n dL_law_1271 rfl ?_
  refine g_iload_n dL_law_1272 rfl ?_
  refine g_iconst (v := nI 2) dL_law_1273 (by decide) ?_
  refine n_iadd dL_law_1274 (by first | (with_reducible exact nI_add _ _) | rfl) ?_
  refine g_sld dL_law_1275 (by first | exact s1 | exact s0) (by omega) (rfl) (by omega) (by first | exact e1 _ | exact e0 _) ?_
  refine g_aload_n dL_law_1276 rfl ?_
  refine g_iload_n dL_law_1277 rfl ?_
  refine g_iconst (v := nI 3) dL_law_1278 (by decide) ?_
  refine n_iadd dL_law_1279 (by first | (with_reducible exact nI_add _ _) | rfl) ?_
  refine g_sld dL_law_1280 (by first | exact s1 | exact s0) (by omega) (rfl) (by omega) (by first | exact e1 _ | exact e0 _) ?_
  refine g_callV (k1) okX11_by lkL_146 rfl (by first | rfl | exact pv_shx) rfl (by omega) (by omega) dL_law_1281 rfl (Nat.le_of_ble_eq_true rfl) (⟨by decide, by decide, by decide, by decide⟩) ?_
  rintro v nx' I1 J1 P1 ⟨rfl, rfl, hP1, p1, hc1, x1⟩
  have s1 : P1 0 0 = some L := by rw [p1]; exact s0
  have e1 : ∀ j, I1 0 j = xs j := fun j => by rw [x1 0 (Or.inl rfl)]; exact e0 j
  have hm1 := hm.mv x1
  have k2 := q_by (J := J1) (v1 := xs (i + 1)) (v2 := xs (i + 2)) (v3 := xs (i + 3)) hP1 hK.1 hm1
  refine g_aload_n dL_law_1284 rfl ?_
  refine g_aload_n dL_law_1285 rfl ?_
  refine g_iload_n dL_law_1286 rfl ?_
  refine g_iconst (v := nI 1) dL_law_1287 (by decide) ?_
  refine n_iadd dL_law_1288 (by first | (with_reducible exact nI_add _ _) | rfl) ?_
  refine g_sld dL_law_1289 (by first | exact s1 | exact s0) (by omega) (rfl) (by omega) (by first | exact e1 _ | exact e0 _) ?_
  refine g_aload_n dL_law_1290 rfl ?_
  refine g_iload_n dL_law_1291 rfl ?_
  refine g_iconst (v := nI 2) dL_law_1292 (by decide) ?_
  refine n_iadd dL_law_1293 (by first | (with_reducible exact nI_add _ _) | rfl) ?_
  refine g_sld dL_law_1294 (by first | exact s1 | exact s0) (by omega) (rfl) (by omega) (by first | exact e1 _ | exact e0 _) ?_
  refine g_aload_n dL_law_1295 rfl ?_
  refine g_iload_n dL_law_1296 rfl ?_
  refine g_iconst (v := nI 3) dL_law_1297 (by decide) ?_
  refine n_iadd dL_law_1298 (by first | (with_reducible exact nI_add _ _) | rfl) ?_
  refine g_sld dL_law_1299 (by first | exact s1 | exact s0) (by omega) (rfl) (by omega) (by first | exact e1 _ | exact e0 _) ?_
  refine g_callV (k2) okX12_by lkL_149 rfl (by first | rfl | exact pv_shx) rfl (by omega) (by omega) dL_law_1300 rfl (Nat.le_of_ble_eq_true rfl) (⟨by decide, by decide, by decide, by decide⟩) ?_
  rintro v nx' I2 J2 P2 ⟨rfl, rfl, rfl, hm2, x2⟩
  refine n_icmp_eq 1489 dL_law_1303 (by decide) (by first | ((with_reducible apply cN_eq) <;> omega) | ((with_reducible apply cI_eqn) <;> omega) | exact Iff.rfl) (fun c1303 => ?_) (fun c1303 => by exfalso; first | omega | exact absurd trivial c1303 | exact c1303 | (simp at c1303))
  exact K _ _ _ _ _ _ _ _ _ _ ⟨⟨hP1, s1, fun j => by rw [(x2 0 (by decide)).1]; exact e1 j⟩, hc1.mv x2, hm2, hK⟩
theorem lw_30 (hL : L ≤ 3074) (hi : i + 6 ≤ L) (hA : lwA xs L w h a im tx n cl f1 f2 I J P) (K : lwN nm Z xs L i w h) : lwB nm Z i 1308 I J P := by
  unfold lwB
  obtain ⟨⟨hP, s0, e0⟩, hc, hm, hK⟩ := hA
  have hwh := hc.1.1.wh.2
  have k1 := k_whose (v1 := xs (i + 1)) hP hc
  refine g_aload_n dL_law_1308 rfl ?_
  refine g_aload_n dL_law_1309 rfl ?_
  refine g_iload_n dL_law_1310 rfl ?_
  refine g_iconst (v := nI 1) dL_law_1311 (by decide) ?_
  refine n_iadd dL_law_1312 (by first | (with_reducible exact nI_add _ _) | rfl) ?_
  refine g_sld dL_law_1313 (by first | exact s1 | exact s0) (by omega) (rfl) (by omega) (by first | exact e1 _ | exact e0 _) ?_
  refine g_callV (k1) okX11_whose lkL_150 rfl (by first | rfl | exact pv_shx) rfl (by omega) (by omega) dL_law_1314 rfl (Nat.le_of_ble_eq_true rfl) (⟨by decide, by decide, by decide, by decide⟩) ?_
  rintro v nx' I1 J1 P1 ⟨rfl, rfl, hP1, p1, hc1, x1⟩
  have s1 : P1 0 0 = some L := by rw [p1]; exact s0
  have e1 : ∀ j, I1 0 j = xs j := fun j => by rw [x1 0 (Or.inl rfl)]; exact e0 j
  have hm1 := hm.mv x1
  have k2 := q_whose (J := J1) (v1 := xs (i + 1)) hP1 hK.1 hm1
  refine g_aload_n dL_law_1317 rfl ?_
  refine g_aload_n dL_law_1318 rfl ?_
  refine g_iload_n dL_law_1319 rfl ?_
  refine g_iconst (v := nI 1) dL_law_1320 (by decide) ?_
  refine n_iadd dL_law_1321 (by first | (with_reducible exact nI_add _ _) | rfl) ?_
  refine g_sld dL_law_1322 (by first | exact s1 | exact s0) (by omega) (rfl) (by omega) (by first | exact e1 _ | exact e0 _) ?_
  refine g_callV (k2) okX12_whose lkL_153 rfl (by first | rfl | exact pv_shx) rfl (by omega) (by omega) dL_law_1323 rfl (Nat.le_of_ble_eq_true rfl) (⟨by decide, by decide, by decide, by decide⟩) ?_
  rintro v nx' I2 J2 P2 ⟨rfl, rfl, rfl, hm2, x2⟩
  refine n_icmp_eq 1489 dL_law_1326 (by decide) (by first | ((with_reducible apply cN_eq) <;> omega) | ((with_reducible apply cI_eqn) <;> omega) | exact Iff.rfl) (fun c1326 => ?_) (fun c1326 => by exfalso; first | omega | exact absurd trivial c1326 | exact c1326 | (simp at c1326))
  exact K _ _ _ _ _ _ _ _ _ _ ⟨⟨hP1, s1, fun j => by rw [(x2 0 (by decide)).1]; exact e1 j⟩, hc1.mv x2, hm2, hK⟩
theorem lw_31 (hL : L ≤ 3074) (hi : i + 6 ≤ L) (hA : lwA xs L w h a im tx n cl f1 f2 I J P) (K : lwN nm Z xs L i w h) : lwB nm Z i 1331 I J P := by
  unfold lwB
  obtain ⟨⟨hP, s0, e0⟩, hc, hm, hK⟩ := hA
  have hwh := hc.1.1.wh.2
  have k1 := k_vote (v1 := xs (i + 1)) (v2 := xs (i + 2)) hP hc
  refine g_aload_n dL_law_1331 rfl ?_
  refine g_aload_n dL_law_1332 rfl ?_
  refine g_iload_n dL_law_1333 rfl ?_
  refine g_iconst (v := nI 1) dL_law_1334 (by decide) ?_
  refine n_iadd dL_law_1335 (by first | (with_reducible exact nI_add _ _) | rfl) ?_
  refine g_sld dL_law_1336 (by first | exact s1 | exact s0) (by omega) (rfl) (by omega) (by first | exact e1 _ | exact e0 _) ?_
  refine g_aload_n dL_law_1337 rfl ?_
  refine g_iload_n dL_law_1338 rfl ?_
  refine g_iconst (v := nI 2) dL_law_1339 (by decide) ?_
  refine n_iadd dL_law_1340 (by first | (with_reducible exact nI_add _ _) | rfl) ?_
  refine g_sld dL_law_1341 (by first | exact s1 | exact s0) (by omega) (rfl) (by omega) (by first | exact e1 _ | exact e0 _) ?_
  refine g_callV (k1) okX11_vote lkL_154 rfl (by first | rfl | exact pv_shx) rfl (by omega) (by omega) dL_law_1342 rfl (Nat.le_of_ble_eq_true rfl) (⟨by decide, by decide, by decide, by decide⟩) ?_
  rintro v nx' I1 J1 P1 ⟨rfl, rfl, hP1, p1, hc1, x1⟩
  have s1 : P1 0 0 = some L := by rw [p1]; exact s0
  have e1 : ∀ j, I1 0 j = xs j := fun j => by rw [x1 0 (Or.inl rfl)]; exact e0 j
  have hm1 := hm.mv x1
  have k2 := q_vote (J := J1) (v1 := xs (i + 1)) (v2 := xs (i + 2)) hP1 hK.1 hm1
  refine g_aload_n dL_law_1345 rfl ?_
  refine g_aload_n dL_law_1346 rfl ?_
  refine g_iload_n dL_law_1347 rfl ?_
  refine g_iconst (v := nI 1) dL_law_1348 (by decide) ?_
  refine n_iadd dL_law_1349 (by first | (with_reducible exact nI_add _ _) | rfl) ?_
  refine g_sld dL_law_1350 (by first | exact s1 | exact s0) (by omega) (rfl) (by omega) (by first | exact e1 _ | exact e0 _) ?_
  refine g_aload_n dL_law_1351 rfl ?_
  refine g_iload_n dL_law_1352 rfl ?_
  refine g_iconst (v := nI 2) dL_law_1353 (by decide) ?_
  refine n_iadd dL_law_1354 (by first | (with_reducible exact nI_add _ _) | rfl) ?_
  refine g_sld dL_law_1355 (by first | exact s1 | exact s0) (by omega) (rfl) (by omega) (by first | exact e1 _ | exact e0 _) ?_
  refine g_callV (k2) okX12_vote lkL_157 rfl (by first | rfl | exact pv_shx) rfl (by omega) (by omega) dL_law_1356 rfl (Nat.le_of_ble_eq_true rfl) (⟨by decide, by decide, by decide, by decide⟩) ?_
  rintro v nx' I2 J2 P2 ⟨rfl, rfl, rfl, hm2, x2⟩
  refine n_icmp_eq 1489 dL_law_1359 (by decide) (by first | ((with_reducible apply cN_eq) <;> omega) | ((with_reducible apply cI_eqn) <;> omega) | exact Iff.rfl) (fun c1359 => ?_) (fun c1359 => by exfalso; first | omega | exact absurd trivial c1359 | exact c1359 | (simp at c1359))
  exact K _ _ _ _ _ _ _ _ _ _ ⟨⟨hP1, s1, fun j => by rw [(x2 0 (by decide)).1]; exact e1 j⟩, hc1.mv x2, hm2, hK⟩
theorem lw_32 (hL : L ≤ 3074) (hi : i + 6 ≤ L) (hA : lwA xs L w h a im tx n cl f1 f2 I J P) (K : lwN nm Z xs L i w h) : lwB nm Z i 1364 I J P := by
  unfold lwB
  obtain ⟨⟨hP, s0, e0⟩, hc, hm, hK⟩ := hA
  have hwh := hc.1.1.wh.2
  have k1 := k_place (v1 := xs (i + 1)) (v2 := xs (i + 2)) hP hc
  refine g_aload_n dL_law_1364 rfl ?_
  refine g_aload_n dL_law_1365 rfl ?_
  refine g_iload_n dL_law_1366 rfl ?_
  refine g_iconst (v := nI 1) dL_law_1367 (by decide) ?_
  refine n_iadd dL_law_1368 (by first | (with_reducible exact nI_add _ _) | rfl) ?_
  refine g_sld dL_law_1369 (by first | exact s1 | exact s0) (by omega) (rfl) (by omega) (by first | exact e1 _ | exact e0 _) ?_
  refine g_aload_n dL_law_1370 rfl ?_
  refine g_iload_n dL_law_1371 rfl ?_
  refine g_iconst (v := nI 2) dL_law_1372 (by decide) ?_
  refine n_iadd dL_law_1373 (by first | (with_reducible exact nI_add _ _) | rfl) ?_
  refine g_sld dL_law_1374 (by first | exact s1 | exact s0) (by omega) (rfl) (by omega) (by first | exact e1 _ | exact e0 _) ?_
  refine g_callV (k1) okX11_place lkL_158 rfl (by first | rfl | exact pv_shx) rfl (by omega) (by omega) dL_law_1375 rfl (Nat.le_of_ble_eq_true rfl) (⟨by decide, by decide, by decide, by decide⟩) ?_
  rintro v nx' I1 J1 P1 ⟨rfl, rfl, hP1, p1, hc1, x1⟩
  have s1 : P1 0 0 = some L := by rw [p1]; exact s0
  have e1 : ∀ j, I1 0 j = xs j := fun j => by rw [x1 0 (Or.inl rfl)]; exact e0 j
  have hm1 := hm.mv x1
  have k2 := q_place (J := J1) (v1 := xs (i + 1)) (v2 := xs (i + 2)) hP1 hK.1 hm1
  refine g_aload_n dL_law_1378 rfl ?_
  refine g_aload_n dL_law_1379 rfl ?_
  refine g_iload_n dL_law_1380 rfl ?_
  refine g_iconst (v := nI 1) dL_law_1381 (by decide) ?_
  refine n_iadd dL_law_1382 (by first | (with_reducible exact nI_add _ _) | rfl) ?_
  refine g_sld dL_law_1383 (by first | exact s1 | exact s0) (by omega) (rfl) (by omega) (by first | exact e1 _ | exact e0 _) ?_
  refine g_aload_n dL_law_1384 rfl ?_
  refine g_iload_n dL_law_1385 rfl ?_
  refine g_iconst (v := nI 2) dL_law_1386 (by decide) ?_
  refine n_iadd dL_law_1387 (by first | (with_reducible exact nI_add _ _) | rfl) ?_
  refine g_sld dL_law_1388 (by first | exact s1 | exact s0) (by omega) (rfl) (by omega) (by first | exact e1 _ | exact e0 _) ?_
  refine g_callV (k2) okX12_place lkL_161 rfl (by first | rfl | exact pv_shx) rfl (by omega) (by omega) dL_law_1389 rfl (Nat.le_of_ble_eq_true rfl) (⟨by decide, by decide, by decide, by decide⟩) ?_
  rintro v nx' I2 J2 P2 ⟨rfl, rfl, rfl, hm2, x2⟩
  refine n_icmp_eq 1489 dL_law_1392 (by decide) (by first | ((with_reducible apply cN_eq) <;> omega) | ((with_reducible apply cI_eqn) <;> omega) | exact Iff.rfl) (fun c1392 => ?_) (fun c1392 => by exfalso; first | omega | exact absurd trivial c1392 | exact c1392 | (simp at c1392))
  exact K _ _ _ _ _ _ _ _ _ _ ⟨⟨hP1, s1, fun j => by rw [(x2 0 (by decide)).1]; exact e1 j⟩, hc1.mv x2, hm2, hK.mt hc1.1.2.2.2.2 h8_place⟩
theorem lw_33 (hL : L ≤ 3074) (hi : i + 6 ≤ L) (hA : lwA xs L w h a im tx n cl f1 f2 I J P) (K : lwN nm Z xs L i w h) : lwB nm Z i 1397 I J P := by
  unfold lwB
  obtain ⟨⟨hP, s0, e0⟩, hc, hm, hK⟩ := hA
  have hwh := hc.1.1.wh.2
  have k1 := k_best (v1 := xs (i + 1)) (v2 := xs (i + 2)) (v3 := xs (i + 3)) hP hc
  refine g_aload_n dL_law_1397 rfl ?_
  refine g_aload_n dL_law_1398 rfl ?_
  refine g_iload_n dL_law_1399 rfl ?_
  refine g_iconst (v := nI 1) dL_law_1400 (by decide) ?_
  refine n_iadd dL_law_1401 (by first | (with_reducible exact nI_add _ _) | rfl) ?_
  refine g_sld dL_law_1402 (by first | exact s1 | exact s0) (by omega) (rfl) (by omega) (by first | exact e1 _ | exact e0 _) ?_
  refine g_aload_n dL_law_1403 rfl ?_
  refine g_iload_n dL_law_1404 rfl ?_
  refine g_iconst (v := nI 2) dL_law_1405 (by decide) ?_
  refine n_iadd dL_law_1406 (by first | (with_reducible exact nI_add _ _) | rfl) ?_
  refine g_sld dL_law_1407 (by first | exact s1 | exact s0) (by omega) (rfl) (by omega) (by first | exact e1 _ | exact e0 _) ?_
  refine g_aload_n dL_law_1408 rfl ?_
  refine g_iload_n dL_law_1409 rfl ?_
  refine g_iconst (v := nI 3) dL_law_1410 (by decide) ?_
  refine n_iadd dL_law_1411 (by first | (with_reducible exact nI_add _ _) | rfl) ?_
  refine g_sld dL_law_1412 (by first | exact s1 | exact s0) (by omega) (rfl) (by omega) (by first | exact e1 _ | exact e0 _) ?_
  refine g_callV (k1) okX11_best lkL_162 rfl (by first | rfl | exact pv_shx) rfl (by omega) (by omega) dL_law_1413 rfl (Nat.le_of_ble_eq_true rfl) (⟨by decide, by decide, by decide, by decide⟩) ?_
  rintro v nx' I1 J1 P1 ⟨rfl, rfl, hP1, p1, hc1, x1⟩
  have s1 : P1 0 0 = some L := by rw [p1]; exact s0
  have e1 : ∀ j, I1 0 j = xs j := fun j => by rw [x1 0 (Or.inl rfl)]; exact e0 j
  have hm1 := hm.mv x1
  have k2 := q_best (J := J1) (v1 := xs (i + 1)) (v2 := xs (i + 2)) (v3 := xs (i + 3)) hP1 hK.1 hm1
  refine g_aload_n dL_law_1416 rfl ?_
  refine g_aload_n dL_law_1417 rfl ?_
  refine g_iload_n dL_law_1418 rfl ?_
  refine g_iconst (v := nI 1) dL_law_1419 (by decide) ?_
  refine n_iadd dL_law_1420 (by first | (with_reducible exact nI_add _ _) | rfl) ?_
  refine g_sld dL_law_1421 (by first | exact s1 | exact s0) (by omega) (rfl) (by omega) (by first | exact e1 _ | exact e0 _) ?_
  refine g_aload_n dL_law_1422 rfl ?_
  refine g_iload_n dL_law_1423 rfl ?_
  refine g_iconst (v := nI 2) dL_law_1424 (by decide) ?_
  refine n_iadd dL_law_1425 (by first | (with_reducible exact nI_add _ _) | rfl) ?_
  refine g_sld dL_law_1426 (by first | exact s1 | exact s0) (by omega) (rfl) (by omega) (by first | exact e1 _ | exact e0 _) ?_
  refine g_aload_n dL_law_1427 rfl ?_
  refine g_iload_n dL_law_1428 rfl ?_
  refine g_iconst (v := nI 3) dL_law_1429 (by decide) ?_
  refine n_iadd dL_law_1430 (by first | (with_reducible exact nI_add _ _) | rfl) ?_
  refine g_sld dL_law_1431 (by first | exact s1 | exact s0) (by omega) (rfl) (by omega) (by first | exact e1 _ | exact e0 _) ?_
  refine g_callV (k2) okX12_best lkL_165 rfl (by first | rfl | exact pv_shx) rfl (by omega) (by omega) dL_law_1432 rfl (Nat.le_of_ble_eq_true rfl) (⟨by decide, by decide, by decide, by decide⟩) ?_
  rintro v nx' I2 J2 P2 ⟨rfl, rfl, rfl, hm2, x2⟩
  refine n_icmp_eq 1489 dL_law_1435 (by decide) (by first | ((with_reducible apply cN_eq) <;> omega) | ((with_reducible apply cI_eqn) <;> omega) | exact Iff.rfl) (fun c1435 => ?_) (fun c1435 => by exfalso; first | omega | exact absurd trivial c1435 | exact c1435 | (simp at c1435))
  exact K _ _ _ _ _ _ _ _ _ _ ⟨⟨hP1, s1, fun j => by rw [(x2 0 (by decide)).1]; exact e1 j⟩, hc1.mv x2, hm2, hK⟩
theorem lw_34 (hL : L ≤ 3074) (hi : i + 6 ≤ L) (hA : lwA xs L w h a im tx n cl f1 f2 I J P) (K : lwN nm Z xs L i w h) : lwB nm Z i 1440 I J P := by
  unfold lwB
  obtain ⟨⟨hP, s0, e0⟩, hc, hm, hK⟩ := hA
  have hwh := hc.1.1.wh.2
  have k1 := k_image hP hc
  refine g_aload_n dL_law_1440 rfl ?_
  refine g_callV (k1) okX11_image lkL_166 rfl (by first | rfl | exact pv_shx) rfl (by omega) (by omega) dL_law_1441 rfl (Nat.le_of_ble_eq_true rfl) (⟨by decide, by decide, by decide, by decide⟩) ?_
  rintro v nx' I1 J1 P1 ⟨rfl, rfl, hP1, p1, hc1, x1⟩
  have s1 : P1 0 0 = some L := by rw [p1]; exact s0
  have e1 : ∀ j, I1 0 j = xs j := fun j => by rw [x1 0 (Or.inl rfl)]; exact e0 j
  have hm1 := hm.mv x1
  have k2 := q_image (J := J1) hP1 hm1
  refine g_aload_n dL_law_1444 rfl ?_
  refine g_callV (k2) okX12_image lkL_169 rfl (by first | rfl | exact pv_shx) rfl (by omega) (by omega) dL_law_1445 rfl (Nat.le_of_ble_eq_true rfl) (⟨by decide, by decide, by decide, by decide⟩) ?_
  rintro v nx' I2 J2 P2 ⟨rfl, rfl, rfl, hm2, x2⟩
  refine n_icmp_eq 1489 dL_law_1448 (by decide) (by first | ((with_reducible apply cN_eq) <;> omega) | ((with_reducible apply cI_eqn) <;> omega) | exact Iff.rfl) (fun c1448 => ?_) (fun c1448 => by exfalso; first | omega | exact absurd trivial c1448 | exact c1448 | (simp at c1448))
  exact K _ _ _ _ _ _ _ _ _ _ ⟨⟨hP1, s1, fun j => by rw [(x2 0 (by decide)).1]; exact e1 j⟩, hc1.mv x2, hm2, hK.image hwh⟩
theorem lw_35 (hL : L ≤ 3074) (hi : i + 6 ≤ L) (hA : lwA xs L w h a im tx n cl f1 f2 I J P) (K : lwN nm Z xs L i w h) : lwB nm Z i 1453 I J P := by
  unfold lwB
  obtain ⟨⟨hP, s0, e0⟩, hc, hm, hK⟩ := hA
  have hwh := hc.1.1.wh.2
  have k1 := k_back hP hK hc
  refine g_aload_n dL_law_1453 rfl ?_
  refine g_callV (k1) okX11_back lkL_170 rfl (by first | rfl | exact pv_shx) rfl (by omega) (by omega) dL_law_1454 rfl (Nat.le_of_ble_eq_true rfl) (⟨by decide, by decide, by decide, by decide⟩) ?_
  rintro v nx' I1 J1 P1 ⟨rfl, rfl, hP1, p1, hc1, x1⟩
  have s1 : P1 0 0 = some L := by rw [p1]; exact s0
  have e1 : ∀ j, I1 0 j = xs j := fun j => by rw [x1 0 (Or.inl rfl)]; exact e0 j
  have hm1 := hm.mv x1
  have k2 := q_back (J := J1) hP1 hK hm1
  refine g_aload_n dL_law_1457 rfl ?_
  refine g_callV (k2) okX12_back lkL_173 rfl (by first | rfl | exact pv_shx) rfl (by omega) (by omega) dL_law_1458 rfl (Nat.le_of_ble_eq_true rfl) (⟨by decide, by decide, by decide, by decide⟩) ?_
  rintro v nx' I2 J2 P2 ⟨rfl, rfl, rfl, hm2, x2⟩
  refine n_icmp_eq 1489 dL_law_1461 (by decide) (by first | ((with_reducible apply cN_eq) <;> omega) | ((with_reducible apply cI_eqn) <;> omega) | exact Iff.rfl) (fun c1461 => ?_) (fun c1461 => by exfalso; first | omega | exact absurd trivial c1461 | exact c1461 | (simp at c1461))
  exact K _ _ _ _ _ _ _ _ _ _ ⟨⟨hP1, s1, fun j => by rw [(x2 0 (by decide)).1]; exact e1 j⟩, hc1.mv x2, hm2, hK.back hwh⟩
theorem lw_36 (hL : L ≤ 3074) (hi : i + 6 ≤ L) (hA : lwA xs L w h a im tx n cl f1 f2 I J P) (K : lwN nm Z xs L i w h) : lwB nm Z i 1466 I J P := by
  unfold lwB
  obtain ⟨⟨hP, s0, e0⟩, hc, hm, hK⟩ := hA
  have hwh := hc.1.1.wh.2
  have k1 := k_about (c := xs (i + 1)) hP hc
  refine g_aload_n dL_law_1466 rfl ?_
  refine g_aload_n dL_law_1467 rfl ?_
  refine g_iload_n dL_law_1468 rfl ?_
  refine g_iconst (v := nI 1) dL_law_1469 (by decide) ?_
  refine n_iadd dL_law_1470 (by first | (with_reducible exact nI_add _ _) | rfl) ?_
  refine g_sld dL_law_1471 (by first | exact s1 | exact s0) (by omega) (rfl) (by omega) (by first | exact e1 _ | exact e0 _) ?_
  refine g_callV (k1) okX11_about lkL_174 rfl (by first | rfl | exact pv_shx) rfl (by omega) (by omega) dL_law_1472 rfl (Nat.le_of_ble_eq_true rfl) (⟨by decide, by decide, by decide, by decide⟩) ?_
  rintro v nx' I1 J1 P1 ⟨rfl, rfl, hP1, p1, hc1, x1⟩
  have s1 : P1 0 0 = some L := by rw [p1]; exact s0
  have e1 : ∀ j, I1 0 j = xs j := fun j => by rw [x1 0 (Or.inl rfl)]; exact e0 j
  have hm1 := hm.mv x1
  have k2 := q_about (J := J1) (c := xs (i + 1)) hP1 hm1
  refine g_aload_n dL_law_1475 rfl ?_
  refine g_aload_n dL_law_1476 rfl ?_
  refine g_iload_n dL_law_1477 rfl ?_
  refine g_iconst (v := nI 1) dL_law_1478 (by decide) ?_
  refine n_iadd dL_law_1479 (by first | (with_reducible exact nI_add _ _) | rfl) ?_
  refine g_sld dL_law_1480 (by first | exact s1 | exact s0) (by omega) (rfl) (by omega) (by first | exact e1 _ | exact e0 _) ?_
  refine g_callV (k2) okX12_about lkL_177 rfl (by first | rfl | exact pv_shx) rfl (by omega) (by omega) dL_law_1481 rfl (Nat.le_of_ble_eq_true rfl) (⟨by decide, by decide, by decide, by decide⟩) ?_
  rintro v nx' I2 J2 P2 ⟨rfl, rfl, rfl, hm2, x2⟩
  refine n_icmp_eq 1489 dL_law_1484 (by decide) (by first | ((with_reducible apply cN_eq) <;> omega) | ((with_reducible apply cI_eqn) <;> omega) | exact Iff.rfl) (fun c1484 => ?_) (fun c1484 => by exfalso; first | omega | exact absurd trivial c1484 | exact c1484 | (simp at c1484))
  exact K _ _ _ _ _ _ _ _ _ _ ⟨⟨hP1, s1, fun j => by rw [(x2 0 (by decide)).1]; exact e1 j⟩, hc1.mv x2, hm2, hK⟩
end LC3
