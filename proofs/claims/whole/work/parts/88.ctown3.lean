/-! class: house, person -/
section TW3
variable {w h : Nat} {a : Nat → Int32} {I : pvI} {J : pvJ} {P : pvP}
theorem c_addHouse {n : Nat} {c x y : Int32} (hP : pvOkP P) (hn : I 27 0 = nI n) (hn2 : n < 20) : pvMet mX7_addHouse 0 0 0 [.ref 27, .int c, .int x, .int y] 224 I J P (pvq P (fun v I' J' => v = some (.int (nI n)) ∧ J' = J ∧ I' 28 = upd (I 28) n c ∧ I' 29 = upd (I 29) n x ∧ I' 30 = upd (I 30) n y ∧ I' 31 = upd (I 31) n (nI 0) ∧ I' 32 = upd (I 32) n (-1) ∧ I' 27 = upd (I 27) 0 (nI (n + 1)) ∧ ∀ z, z < 27 ∨ 32 < z → I' z = I z)) := by
  refine pvMet.of _ (by decide) rfl (Nat.le_of_ble_eq_true rfl) ?_
  refine g_aload_n dX7_addHouse_0 rfl ?_
  refine n_getI dX7_addHouse_1 fdX7_45 rfl (by first | rfl | exact pv_shx) (by omega) (by omega) (by decide) rfl (by repeat (first | exact hn | (apply rd_s; done) | apply rd_n (by omega) | apply rp_s | apply rp_n (by omega) | (apply rdL_s; done) | apply rdL_n (by omega) | apply rpJ_s | apply rpJ_n (by omega) | rfl)) ?_
  refine g_istore dX7_addHouse_4 (by decide) rfl ?_
  refine g_aload_n dX7_addHouse_6 rfl ?_
  refine g_getP dX7_addHouse_7 fdX7_11 rfl (by first | rfl | exact pv_shx) (by omega) (by omega) (by decide) rfl (hP _ _ _ rfl) ?_
  refine g_iload dX7_addHouse_10 rfl ?_
  refine g_iload_n dX7_addHouse_12 rfl ?_
  refine n_iast dX7_addHouse_13 (by first | rfl | exact pv_shx) (by omega) (by omega) (by omega) (by decide) (rfl) (by omega) (by repeat (first | exact pvu_s | exact pvuJ_s | apply pvu_in (by omega) | apply pvuJ_in (by omega) | exact pvu_pvs | exact pvuJ_pvs)) ?_
  refine g_aload_n dX7_addHouse_14 rfl ?_
  refine g_getP dX7_addHouse_15 fdX7_15 rfl (by first | rfl | exact pv_shx) (by omega) (by omega) (by decide) rfl (hP _ _ _ rfl) ?_
  refine g_iload dX7_addHouse_18 rfl ?_
  refine g_iload_n dX7_addHouse_20 rfl ?_
  refine n_iast dX7_addHouse_21 (by first | rfl | exact pv_shx) (by omega) (by omega) (by omega) (by decide) (rfl) (by omega) (by repeat (first | exact pvu_s | exact pvuJ_s | apply pvu_in (by omega) | apply pvuJ_in (by omega) | exact pvu_pvs | exact pvuJ_pvs)) ?_
  refine g_aload_n dX7_addHouse_22 rfl ?_
  refine g_getP dX7_addHouse_23 fdX7_18 rfl (by first | rfl | exact pv_shx) (by omega) (by omega) (by decide) rfl (hP _ _ _ rfl) ?_
  refine g_iload dX7_addHouse_26 rfl ?_
  refine g_iload_n dX7_addHouse_28 rfl ?_
  refine n_iast dX7_addHouse_29 (by first | rfl | exact pv_shx) (by omega) (by omega) (by omega) (by decide) (rfl) (by omega) (by repeat (first | exact pvu_s | exact pvuJ_s | apply pvu_in (by omega) | apply pvuJ_in (by omega) | exact pvu_pvs | exact pvuJ_pvs)) ?_
  refine g_aload_n dX7_addHouse_30 rfl ?_
  refine g_getP dX7_addHouse_31 fdX7_21 rfl (by first | rfl | exact pv_shx) (by omega) (by omega) (by decide) rfl (hP _ _ _ rfl) ?_
  refine g_iload dX7_addHouse_34 rfl ?_
  refine g_iconst (v := nI 0) dX7_addHouse_36 (by decide) ?_
  refine n_iast dX7_addHouse_37 (by first | rfl | exact pv_shx) (by omega) (by omega) (by omega) (by decide) (rfl) (by omega) (by repeat (first | exact pvu_s | exact pvuJ_s | apply pvu_in (by omega) | apply pvuJ_in (by omega) | exact pvu_pvs | exact pvuJ_pvs)) ?_
  refine g_aload_n dX7_addHouse_38 rfl ?_
  refine g_getP dX7_addHouse_39 fdX7_24 rfl (by first | rfl | exact pv_shx) (by omega) (by omega) (by decide) rfl (hP _ _ _ rfl) ?_
  refine g_iload dX7_addHouse_42 rfl ?_
  refine g_iconst (v := (-1)) dX7_addHouse_44 (by decide) ?_
  refine n_iast dX7_addHouse_45 (by first | rfl | exact pv_shx) (by omega) (by omega) (by omega) (by decide) (rfl) (by omega) (by repeat (first | exact pvu_s | exact pvuJ_s | apply pvu_in (by omega) | apply pvuJ_in (by omega) | exact pvu_pvs | exact pvuJ_pvs)) ?_
  refine g_aload_n dX7_addHouse_46 rfl ?_
  refine g_dup dX7_addHouse_47 rfl ?_
  refine n_getI dX7_addHouse_48 fdX7_45 rfl (by first | rfl | exact pv_shx) (by omega) (by omega) (by decide) rfl (by repeat (first | exact hn | (apply rd_s; done) | apply rd_n (by omega) | apply rp_s | apply rp_n (by omega) | (apply rdL_s; done) | apply rdL_n (by omega) | apply rpJ_s | apply rpJ_n (by omega) | rfl)) ?_
  refine g_iconst (v := nI 1) dX7_addHouse_51 (by decide) ?_
  refine n_iadd dX7_addHouse_52 (by first | (with_reducible exact nI_add _ _) | rfl) ?_
  refine n_putI dX7_addHouse_53 fdX7_45 rfl (fun h => absurd h (by decide)) (by first | rfl | exact pv_shx) (by omega) (by omega) (by decide) rfl (by repeat (first | exact pvu_s | exact pvuJ_s | apply pvu_in (by omega) | apply pvuJ_in (by omega) | exact pvu_pvs | exact pvuJ_pvs)) ?_
  refine g_iload dX7_addHouse_56 rfl ?_
  exact g_iret dX7_addHouse_58 rfl (⟨rfl, rfl, rfl, rfl, by simp [pvs], by simp [pvs], by simp [pvs], by simp [pvs], by simp [pvs], by simp [pvs], fun z hz => by repeat (rw [pvs_ne (by omega)])⟩)
theorem c_addPerson {n : Nat} {c x y : Int32} (hP : pvOkP P) (hn : I 27 6 = nI n) (hn2 : n < 60) : pvMet mX7_addPerson 0 0 0 [.ref 27, .int c, .int x, .int y] 224 I J P (pvq P (fun v I' J' => v = some (.int (nI n)) ∧ J' = J ∧ I' 33 = upd (I 33) n c ∧ I' 34 = upd (I 34) n x ∧ I' 35 = upd (I 35) n y ∧ I' 36 = upd (I 36) n (nI 0) ∧ I' 37 = upd (I 37) n (-1) ∧ I' 27 = upd (I 27) 6 (nI (n + 1)) ∧ ∀ z, z < 27 ∨ (27 < z ∧ z < 33) ∨ 37 < z → I' z = I z)) := by
  refine pvMet.of _ (by decide) rfl (Nat.le_of_ble_eq_true rfl) ?_
  refine g_aload_n dX7_addPerson_0 rfl ?_
  refine n_getI dX7_addPerson_1 fdX7_55 rfl (by first | rfl | exact pv_shx) (by omega) (by omega) (by decide) rfl (by repeat (first | exact hn | (apply rd_s; done) | apply rd_n (by omega) | apply rp_s | apply rp_n (by omega) | (apply rdL_s; done) | apply rdL_n (by omega) | apply rpJ_s | apply rpJ_n (by omega) | rfl)) ?_
  refine g_istore dX7_addPerson_4 (by decide) rfl ?_
  refine g_aload_n dX7_addPerson_6 rfl ?_
  refine g_getP dX7_addPerson_7 fdX7_27 rfl (by first | rfl | exact pv_shx) (by omega) (by omega) (by decide) rfl (hP _ _ _ rfl) ?_
  refine g_iload dX7_addPerson_10 rfl ?_
  refine g_iload_n dX7_addPerson_12 rfl ?_
  refine n_iast dX7_addPerson_13 (by first | rfl | exact pv_shx) (by omega) (by omega) (by omega) (by decide) (rfl) (by omega) (by repeat (first | exact pvu_s | exact pvuJ_s | apply pvu_in (by omega) | apply pvuJ_in (by omega) | exact pvu_pvs | exact pvuJ_pvs)) ?_
  refine g_aload_n dX7_addPerson_14 rfl ?_
  refine g_getP dX7_addPerson_15 fdX7_30 rfl (by first | rfl | exact pv_shx) (by omega) (by omega) (by decide) rfl (hP _ _ _ rfl) ?_
  refine g_iload dX7_addPerson_18 rfl ?_
  refine g_iload_n dX7_addPerson_20 rfl ?_
  refine n_iast dX7_addPerson_21 (by first | rfl | exact pv_shx) (by omega) (by omega) (by omega) (by decide) (rfl) (by omega) (by repeat (first | exact pvu_s | exact pvuJ_s | apply pvu_in (by omega) | apply pvuJ_in (by omega) | exact pvu_pvs | exact pvuJ_pvs)) ?_
  refine g_aload_n dX7_addPerson_22 rfl ?_
  refine g_getP dX7_addPerson_23 fdX7_33 rfl (by first | rfl | exact pv_shx) (by omega) (by omega) (by decide) rfl (hP _ _ _ rfl) ?_
  refine g_iload dX7_addPerson_26 rfl ?_
  refine g_iload_n dX7_addPerson_28 rfl ?_
  refine n_iast dX7_addPerson_29 (by first | rfl | exact pv_shx) (by omega) (by omega) (by omega) (by decide) (rfl) (by omega) (by repeat (first | exact pvu_s | exact pvuJ_s | apply pvu_in (by omega) | apply pvuJ_in (by omega) | exact pvu_pvs | exact pvuJ_pvs)) ?_
  refine g_aload_n dX7_addPerson_30 rfl ?_
  refine g_getP dX7_addPerson_31 fdX7_36 rfl (by first | rfl | exact pv_shx) (by omega) (by omega) (by decide) rfl (hP _ _ _ rfl) ?_
  refine g_iload dX7_addPerson_34 rfl ?_
  refine g_iconst (v := nI 0) dX7_addPerson_36 (by decide) ?_
  refine n_iast dX7_addPerson_37 (by first | rfl | exact pv_shx) (by omega) (by omega) (by omega) (by decide) (rfl) (by omega) (by repeat (first | exact pvu_s | exact pvuJ_s | apply pvu_in (by omega) | apply pvuJ_in (by omega) | exact pvu_pvs | exact pvuJ_pvs)) ?_
  refine g_aload_n dX7_addPerson_38 rfl ?_
  refine g_getP dX7_addPerson_39 fdX7_39 rfl (by first | rfl | exact pv_shx) (by omega) (by omega) (by decide) rfl (hP _ _ _ rfl) ?_
  refine g_iload dX7_addPerson_42 rfl ?_
  refine g_iconst (v := (-1)) dX7_addPerson_44 (by decide) ?_
  refine n_iast dX7_addPerson_45 (by first | rfl | exact pv_shx) (by omega) (by omega) (by omega) (by decide) (rfl) (by omega) (by repeat (first | exact pvu_s | exact pvuJ_s | apply pvu_in (by omega) | apply pvuJ_in (by omega) | exact pvu_pvs | exact pvuJ_pvs)) ?_
  refine g_aload_n dX7_addPerson_46 rfl ?_
  refine g_dup dX7_addPerson_47 rfl ?_
  refine n_getI dX7_addPerson_48 fdX7_55 rfl (by first | rfl | exact pv_shx) (by omega) (by omega) (by decide) rfl (by repeat (first | exact hn | (apply rd_s; done) | apply rd_n (by omega) | apply rp_s | apply rp_n (by omega) | (apply rdL_s; done) | apply rdL_n (by omega) | apply rpJ_s | apply rpJ_n (by omega) | rfl)) ?_
  refine g_iconst (v := nI 1) dX7_addPerson_51 (by decide) ?_
  refine n_iadd dX7_addPerson_52 (by first | (with_reducible exact nI_add _ _) | rfl) ?_
  refine n_putI dX7_addPerson_53 fdX7_55 rfl (fun h => absurd h (by decide)) (by first | rfl | exact pv_shx) (by omega) (by omega) (by decide) rfl (by repeat (first | exact pvu_s | exact pvuJ_s | apply pvu_in (by omega) | apply pvuJ_in (by omega) | exact pvu_pvs | exact pvuJ_pvs)) ?_
  refine g_iload dX7_addPerson_56 rfl ?_
  exact g_iret dX7_addPerson_58 rfl (⟨rfl, rfl, rfl, rfl, by simp [pvs], by simp [pvs], by simp [pvs], by simp [pvs], by simp [pvs], by simp [pvs], fun z hz => by repeat (rw [pvs_ne (by omega)])⟩)
theorem c_house {c x y : Int32} (hP : pvOkP P) (hb : kB w h a I J) : pvMet mX11_house 1 0 0 [.ref 1, .int c, .int x, .int y] 224 I J P (mtQ w h a I J P (sp_house w h a c x y)) := by
  obtain ⟨n5, r5⟩ := hb.n5
  have hwh := hb.1.wh
  have ip := c_has (v := c) (P := P) hb.1
  have ix := c_within (nx := 224) (v := x) (lo := nI 0) (hi := nI 9) (L := 0) (H := 9) (I := I) (J := J) (P := P) (by decide) (by decide)
  have iy := c_within (nx := 224) (v := y) (lo := nI 1) (hi := nI 9) (L := 1) (H := 9) (I := I) (J := J) (P := P) (by decide) (by decide)
  by_cases v1 : 0 ≤ c.toInt ∧ c.toInt < w * h
  · rw [if_pos v1] at ip
    by_cases v2 : 0 ≤ x.toInt ∧ x.toInt ≤ 9
    · rw [if_pos v2] at ix
      by_cases v3 : 1 ≤ y.toInt ∧ y.toInt ≤ 9
      · rw [if_pos v3] at iy
        by_cases v4 : cnt a 5 = 20
        · have ans : sp_house w h a c x y = (-1, a) := by rw [sp_house, if_neg (fun z => z.2.2.2 v4)]
          rw [ans]
          refine pvMet.of _ (by decide) rfl (Nat.le_of_ble_eq_true rfl) ?_
          refine g_aload_n dX11_house_0 rfl ?_
          refine g_getP dX11_house_1 fdX11_21 rfl (by first | rfl | exact pv_shx) (by omega) (by omega) (by decide) rfl (hP _ _ _ rfl) ?_
          refine g_iload_n dX11_house_4 rfl ?_
          refine p_callV (ip) okX2_has lkX11_81 rfl (by first | rfl | exact pv_shx) rfl (by omega) (by omega) dX11_house_5 rfl (Nat.le_of_ble_eq_true rfl) (⟨by decide, by decide, by decide, by decide⟩) ?_
          refine n_if_eq 46 dX11_house_8 (by decide) (by first | (with_reducible exact cB _) | ((with_reducible apply cN_eq0) <;> omega) | exact Iff.rfl) (fun c8 => by exfalso; first | omega | exact absurd trivial c8 | exact c8 | (simp at c8)) (fun c8 => ?_)
          refine g_iload_n dX11_house_11 rfl ?_
          refine g_iconst (v := nI 0) dX11_house_12 (by decide) ?_
          refine g_bipush (v := nI 9) dX11_house_13 (by decide) ?_
          refine p_callS (ix) okX11_within lkX11_85 rfl dX11_house_15 rfl (Nat.le_of_ble_eq_true rfl) (⟨by decide, by decide, by decide, by decide⟩) ?_
          refine n_if_eq 46 dX11_house_18 (by decide) (by first | (with_reducible exact cB _) | ((with_reducible apply cN_eq0) <;> omega) | exact Iff.rfl) (fun c18 => by exfalso; first | omega | exact absurd trivial c18 | exact c18 | (simp at c18)) (fun c18 => ?_)
          refine g_iload_n dX11_house_21 rfl ?_
          refine g_iconst (v := nI 1) dX11_house_22 (by decide) ?_
          refine g_bipush (v := nI 9) dX11_house_23 (by decide) ?_
          refine p_callS (iy) okX11_within lkX11_85 rfl dX11_house_25 rfl (Nat.le_of_ble_eq_true rfl) (⟨by decide, by decide, by decide, by decide⟩) ?_
          refine n_if_eq 46 dX11_house_28 (by decide) (by first | (with_reducible exact cB _) | ((with_reducible apply cN_eq0) <;> omega) | exact Iff.rfl) (fun c28 => by exfalso; first | omega | exact absurd trivial c28 | exact c28 | (simp at c28)) (fun c28 => ?_)
          refine g_aload_n dX11_house_31 rfl ?_
          refine g_getP dX11_house_32 fdX11_32 rfl (by first | rfl | exact pv_shx) (by omega) (by omega) (by decide) rfl (hP _ _ _ rfl) ?_
          refine g_getP dX11_house_35 fdX11_277 rfl (by first | rfl | exact pv_shx) (by omega) (by omega) (by decide) rfl (hP _ _ _ rfl) ?_
          refine n_getI dX11_house_38 fdX11_281 rfl (by first | rfl | exact pv_shx) (by omega) (by omega) (by decide) rfl (by repeat (first | exact r5 | (apply rd_s; done) | apply rd_n (by omega) | apply rp_s | apply rp_n (by omega) | (apply rdL_s; done) | apply rdL_n (by omega) | apply rpJ_s | apply rpJ_n (by omega) | rfl)) ?_
          refine g_bipush (v := nI 20) dX11_house_41 (by decide) ?_
          refine n_icmp_lt 48 dX11_house_43 (by decide) (by first | ((with_reducible apply cN_lt) <;> omega) | ((with_reducible apply cI_ltn) <;> omega) | ((with_reducible apply cI_nlt) <;> omega) | (with_reducible exact cI_lt)) (fun c43 => by exfalso; first | omega | exact absurd trivial c43 | exact c43 | (simp at c43)) (fun c43 => ?_)
          refine g_iconst (v := (-1)) dX11_house_46 (by decide) ?_
          exact g_iret dX11_house_47 rfl (⟨rfl, rfl, rfl, hb, mF2.rf, Or.inr ⟨rfl, sAl.rf⟩⟩)
        · obtain ⟨cn, hcn, rfl⟩ := cI_of (x := c) (n := w * h) (by omega) (by omega) (by omega)
          obtain ⟨xn, hxn, rfl⟩ := cI_of (x := x) (n := 10) (by omega) (by omega) (by omega)
          obtain ⟨yn, hyn, rfl⟩ := cI_of (x := y) (n := 10) (by omega) (by omega) (by omega)
          have ha5 := (mG_eq hb.2.2.2.2.1.1 (i := 5) (by decide)).1
          have ans : sp_house w h a (nI cn) (nI xn) (nI yn) = (nI (cnt a 5), upd (upd (upd (upd (upd (upd a (1080 + 5 * cnt a 5) (nI cn)) (1080 + 5 * cnt a 5 + 1) (nI xn)) (1080 + 5 * cnt a 5 + 2) (nI yn)) (1080 + 5 * cnt a 5 + 3) (nI 0)) (1080 + 5 * cnt a 5 + 4) (-1)) 5 (nI (cnt a 5 + 1))) := by rw [sp_house, if_pos ⟨v1, v2, v3, v4⟩, ← ha5]
          rw [ans]
          have hi := hb.2.2.2.2
          have n6 := hb.n6.1
          have ad := c_addHouse (J := J) (c := nI cn) (x := nI xn) (y := nI yn) hP r5 (by omega)
          obtain ⟨x1, x2, x3, x4, x5, x6⟩ := hb.2.1.2.2.2.2.1
          generalize hN : cnt a 5 = N at *
          generalize hA : upd (upd (upd (upd (upd (upd a (1080 + 5 * N) (nI cn)) (1080 + 5 * N + 1) (nI xn)) (1080 + 5 * N + 2) (nI yn)) (1080 + 5 * N + 3) (nI 0)) (1080 + 5 * N + 4) (-1)) 5 (nI (N + 1)) = A
          have u : ∀ {i}, i ≠ 5 → (i < 1080 + 5 * N ∨ 1080 + 5 * N + 4 < i) → A i = a i := fun e1 e2 => by rw [← hA, updI e1, updI (by omega), updI (by omega), updI (by omega), updI (by omega), updI (by omega)]
          have uc : ∀ {i}, i ≠ 5 → (i < 1080 + 5 * N ∨ 1080 + 5 * N + 4 < i) → cnt A i = cnt a i := fun e1 e2 => by unfold cnt; rw [u e1 e2]
          have u5 : A 5 = nI (N + 1) := by rw [← hA, updS]
          have c5 : cnt A 5 = N + 1 := cnt_of u5 (by omega)
          have w0 : A (1080 + 5 * N) = nI cn := by rw [← hA, updI (by omega), updI (by omega), updI (by omega), updI (by omega), updI (by omega), updS]
          have w1 : A (1080 + 5 * N + 1) = nI xn := by rw [← hA, updI (by omega), updI (by omega), updI (by omega), updI (by omega), updS]
          have w2 : A (1080 + 5 * N + 2) = nI yn := by rw [← hA, updI (by omega), updI (by omega), updI (by omega), updS]
          have w3 : A (1080 + 5 * N + 3) = nI 0 := by rw [← hA, updI (by omega), updI (by omega), updS]
          have w4 : A (1080 + 5 * N + 4) = -1 := by rw [← hA, updI (by omega), updS]
          have ga : ∀ lo hi', (hi' ≤ 5 ∨ (6 ≤ lo ∧ hi' ≤ 1080) ∨ 1180 ≤ lo) → ag lo hi' a A := fun lo hi' hz i z1 z2 => u (by omega) (by omega)
          have hg' : mG A := hi.1.1.one (i := 5) (v := N + 1) (by decide) (show N + 1 ≤ 20 by omega) u5 (fun j z1 z2 => u z2 (by omega))
          have hl : mLv (w * h) A := by
            obtain ⟨l1, l2, l3, l4⟩ := hi.2.2.1
            refine ⟨fun q hq => ?_, fun q hq => ?_, l3.fr l4 (ga _ _ (by omega)) (ga _ _ (by omega)), hg'⟩
            · rw [uc (by omega) (by omega)] at hq
              rw [u (i := 1200 + 5 * q) (by omega) (by omega), u (i := 1200 + 5 * q + 1) (by omega) (by omega), u (i := 1200 + 5 * q + 2) (by omega) (by omega), u (i := 1200 + 5 * q + 3) (by omega) (by omega), u (i := 1200 + 5 * q + 4) (by omega) (by omega), c5]
              obtain ⟨⟨hm, y1, y1'⟩, y2⟩ := l1 q hq
              rw [hN] at y1
              exact ⟨⟨hm, by omega, y1'⟩, y2⟩
            · rw [c5] at hq
              by_cases e : q = N
              · subst e
                rw [w0, w1, w2, w3, w4]
                exact ⟨⟨cn, hcn, rfl⟩, ⟨xn, by omega, rfl⟩, ⟨yn, by omega, rfl⟩, ⟨0, by omega, rfl⟩, Or.inl rfl⟩
              · rw [u (i := 1080 + 5 * q) (by omega) (by omega), u (i := 1080 + 5 * q + 1) (by omega) (by omega), u (i := 1080 + 5 * q + 2) (by omega) (by omega), u (i := 1080 + 5 * q + 3) (by omega) (by omega), u (i := 1080 + 5 * q + 4) (by omega) (by omega)]
                exact l2 q (by omega)
          refine pvMet.of _ (by decide) rfl (Nat.le_of_ble_eq_true rfl) ?_
          refine g_aload_n dX11_house_0 rfl ?_
          refine g_getP dX11_house_1 fdX11_21 rfl (by first | rfl | exact pv_shx) (by omega) (by omega) (by decide) rfl (hP _ _ _ rfl) ?_
          refine g_iload_n dX11_house_4 rfl ?_
          refine p_callV (ip) okX2_has lkX11_81 rfl (by first | rfl | exact pv_shx) rfl (by omega) (by omega) dX11_house_5 rfl (Nat.le_of_ble_eq_true rfl) (⟨by decide, by decide, by decide, by decide⟩) ?_
          refine n_if_eq 46 dX11_house_8 (by decide) (by first | (with_reducible exact cB _) | ((with_reducible apply cN_eq0) <;> omega) | exact Iff.rfl) (fun c8 => by exfalso; first | omega | exact absurd trivial c8 | exact c8 | (simp at c8)) (fun c8 => ?_)
          refine g_iload_n dX11_house_11 rfl ?_
          refine g_iconst (v := nI 0) dX11_house_12 (by decide) ?_
          refine g_bipush (v := nI 9) dX11_house_13 (by decide) ?_
          refine p_callS (ix) okX11_within lkX11_85 rfl dX11_house_15 rfl (Nat.le_of_ble_eq_true rfl) (⟨by decide, by decide, by decide, by decide⟩) ?_
          refine n_if_eq 46 dX11_house_18 (by decide) (by first | (with_reducible exact cB _) | ((with_reducible apply cN_eq0) <;> omega) | exact Iff.rfl) (fun c18 => by exfalso; first | omega | exact absurd trivial c18 | exact c18 | (simp at c18)) (fun c18 => ?_)
          refine g_iload_n dX11_house_21 rfl ?_
          refine g_iconst (v := nI 1) dX11_house_22 (by decide) ?_
          refine g_bipush (v := nI 9) dX11_house_23 (by decide) ?_
          refine p_callS (iy) okX11_within lkX11_85 rfl dX11_house_25 rfl (Nat.le_of_ble_eq_true rfl) (⟨by decide, by decide, by decide, by decide⟩) ?_
          refine n_if_eq 46 dX11_house_28 (by decide) (by first | (with_reducible exact cB _) | ((with_reducible apply cN_eq0) <;> omega) | exact Iff.rfl) (fun c28 => by exfalso; first | omega | exact absurd trivial c28 | exact c28 | (simp at c28)) (fun c28 => ?_)
          refine g_aload_n dX11_house_31 rfl ?_
          refine g_getP dX11_house_32 fdX11_32 rfl (by first | rfl | exact pv_shx) (by omega) (by omega) (by decide) rfl (hP _ _ _ rfl) ?_
          refine g_getP dX11_house_35 fdX11_277 rfl (by first | rfl | exact pv_shx) (by omega) (by omega) (by decide) rfl (hP _ _ _ rfl) ?_
          refine n_getI dX11_house_38 fdX11_281 rfl (by first | rfl | exact pv_shx) (by omega) (by omega) (by decide) rfl (by repeat (first | exact r5 | (apply rd_s; done) | apply rd_n (by omega) | apply rp_s | apply rp_n (by omega) | (apply rdL_s; done) | apply rdL_n (by omega) | apply rpJ_s | apply rpJ_n (by omega) | rfl)) ?_
          refine g_bipush (v := nI 20) dX11_house_41 (by decide) ?_
          refine n_icmp_lt 48 dX11_house_43 (by decide) (by first | ((with_reducible apply cN_lt) <;> omega) | ((with_reducible apply cI_ltn) <;> omega) | ((with_reducible apply cI_nlt) <;> omega) | (with_reducible exact cI_lt)) (fun c43 => ?_) (fun c43 => by exfalso; first | omega | exact absurd trivial c43 | exact c43 | (simp at c43))
          refine g_aload_n dX11_house_48 rfl ?_
          refine g_getP dX11_house_49 fdX11_32 rfl (by first | rfl | exact pv_shx) (by omega) (by omega) (by decide) rfl (hP _ _ _ rfl) ?_
          refine g_getP dX11_house_52 fdX11_277 rfl (by first | rfl | exact pv_shx) (by omega) (by omega) (by decide) rfl (hP _ _ _ rfl) ?_
          refine g_iload_n dX11_house_55 rfl ?_
          refine g_iload_n dX11_house_56 rfl ?_
          refine g_iload_n dX11_house_57 rfl ?_
          refine g_callV (ad) okX7_addHouse lkX11_284 rfl (by first | rfl | exact pv_shx) rfl (by omega) (by omega) dX11_house_58 rfl (Nat.le_of_ble_eq_true rfl) (⟨by decide, by decide, by decide, by decide⟩) ?_
          rintro v nx' I' J' P' ⟨rfl, rfl, rfl, rfl, e28, e29, e30, e31, e32, e27, he⟩
          have ht : rTwn 3 A I' := by
            refine ⟨?_, ?_, ?_, ?_, ?_, ?_⟩
            · show I' 27 0 = _
              rw [e27, updS, u5]
            · intro q hq
              rw [c5] at hq
              show I' 28 q = _ ∧ I' 29 q = _ ∧ I' 30 q = _ ∧ I' 31 q = _ ∧ I' 32 q = _
              rw [e28, e29, e30, e31, e32]
              by_cases e : q = N
              · subst e
                rw [updS, updS, updS, updS, updS, w0, w1, w2, w3, w4]
                exact ⟨rfl, rfl, rfl, rfl, rfl⟩
              · rw [updI e, updI e, updI e, updI e, updI e, u (i := 1080 + 5 * q) (by omega) (by omega), u (i := 1080 + 5 * q + 1) (by omega) (by omega), u (i := 1080 + 5 * q + 2) (by omega) (by omega), u (i := 1080 + 5 * q + 3) (by omega) (by omega), u (i := 1080 + 5 * q + 4) (by omega) (by omega)]
                exact x2 q (by omega)
            · show I' 27 6 = _
              rw [e27, updI (by decide), u (by omega) (by omega)]; exact x3
            · intro q hq
              rw [uc (by omega) (by omega)] at hq
              rw [he (3 + 30) (by omega), he (3 + 31) (by omega), he (3 + 32) (by omega), he (3 + 33) (by omega), he (3 + 34) (by omega), u (i := 1200 + 5 * q) (by omega) (by omega), u (i := 1200 + 5 * q + 1) (by omega) (by omega), u (i := 1200 + 5 * q + 2) (by omega) (by omega), u (i := 1200 + 5 * q + 3) (by omega) (by omega), u (i := 1200 + 5 * q + 4) (by omega) (by omega)]
              exact x4 q hq
            · intro q hq
              rw [he (3 + 35) (by omega), uc (by omega) (by omega)]
              have e : sp_ct (sp_kgP A (nI q)) (cnt a 6) = sp_ct (sp_kgP a (nI q)) (cnt a 6) := sp_ct_cong (fun p _ => by
                show (A (1200 + 5 * p + 1) = nI q ∧ ¬ (A (1200 + 5 * p + 4)).toInt < 0) ↔ _
                rw [u (by omega) (by omega), u (by omega) (by omega)])
              rw [e]
              exact x5 q hq
            · show I' 27 13 = _
              rw [e27, updI (by decide), u (by omega) (by omega)]; exact x6
          have fin := hb.twn (I' := I') (fun z hz => he z (by omega)) (ga _ _ (by omega)) (ga _ _ (by omega)) (ga _ _ (by omega)) (ga _ _ (by omega)) (ga _ _ (by omega)) ht hl
          exact g_iret dX11_house_61 rfl (⟨rfl, rfl, rfl, fin, kB.mf (fun z hz => he z (by omega)), Or.inr ⟨he 43 (by omega), ga _ _ (by omega), ga _ _ (by omega), ga _ _ (by omega), ga _ _ (by omega)⟩⟩)
      · rw [if_neg v3] at iy
        have ans : sp_house w h a c x y = (-1, a) := by rw [sp_house, if_neg (fun z => v3 z.2.2.1)]
        rw [ans]
        refine pvMet.of _ (by decide) rfl (Nat.le_of_ble_eq_true rfl) ?_
        refine g_aload_n dX11_house_0 rfl ?_
        refine g_getP dX11_house_1 fdX11_21 rfl (by first | rfl | exact pv_shx) (by omega) (by omega) (by decide) rfl (hP _ _ _ rfl) ?_
        refine g_iload_n dX11_house_4 rfl ?_
        refine p_callV (ip) okX2_has lkX11_81 rfl (by first | rfl | exact pv_shx) rfl (by omega) (by omega) dX11_house_5 rfl (Nat.le_of_ble_eq_true rfl) (⟨by decide, by decide, by decide, by decide⟩) ?_
        refine n_if_eq 46 dX11_house_8 (by decide) (by first | (with_reducible exact cB _) | ((with_reducible apply cN_eq0) <;> omega) | exact Iff.rfl) (fun c8 => by exfalso; first | omega | exact absurd trivial c8 | exact c8 | (simp at c8)) (fun c8 => ?_)
        refine g_iload_n dX11_house_11 rfl ?_
        refine g_iconst (v := nI 0) dX11_house_12 (by decide) ?_
        refine g_bipush (v := nI 9) dX11_house_13 (by decide) ?_
        refine p_callS (ix) okX11_within lkX11_85 rfl dX11_house_15 rfl (Nat.le_of_ble_eq_true rfl) (⟨by decide, by decide, by decide, by decide⟩) ?_
        refine n_if_eq 46 dX11_house_18 (by decide) (by first | (with_reducible exact cB _) | ((with_reducible apply cN_eq0) <;> omega) | exact Iff.rfl) (fun c18 => by exfalso; first | omega | exact absurd trivial c18 | exact c18 | (simp at c18)) (fun c18 => ?_)
        refine g_iload_n dX11_house_21 rfl ?_
        refine g_iconst (v := nI 1) dX11_house_22 (by decide) ?_
        refine g_bipush (v := nI 9) dX11_house_23 (by decide) ?_
        refine p_callS (iy) okX11_within lkX11_85 rfl dX11_house_25 rfl (Nat.le_of_ble_eq_true rfl) (⟨by decide, by decide, by decide, by decide⟩) ?_
        refine n_if_eq 46 dX11_house_28 (by decide) (by first | (with_reducible exact cB _) | ((with_reducible apply cN_eq0) <;> omega) | exact Iff.rfl) (fun c28 => ?_) (fun c28 => by exfalso; first | omega | exact absurd trivial c28 | exact c28 | (simp at c28))
        refine g_iconst (v := (-1)) dX11_house_46 (by decide) ?_
        exact g_iret dX11_house_47 rfl (⟨rfl, rfl, rfl, hb, mF2.rf, Or.inr ⟨rfl, sAl.rf⟩⟩)
    · rw [if_neg v2] at ix
      have ans : sp_house w h a c x y = (-1, a) := by rw [sp_house, if_neg (fun z => v2 z.2.1)]
      rw [ans]
      refine pvMet.of _ (by decide) rfl (Nat.le_of_ble_eq_true rfl) ?_
      refine g_aload_n dX11_house_0 rfl ?_
      refine g_getP dX11_house_1 fdX11_21 rfl (by first | rfl | exact pv_shx) (by omega) (by omega) (by decide) rfl (hP _ _ _ rfl) ?_
      refine g_iload_n dX11_house_4 rfl ?_
      refine p_callV (ip) okX2_has lkX11_81 rfl (by first | rfl | exact pv_shx) rfl (by omega) (by omega) dX11_house_5 rfl (Nat.le_of_ble_eq_true rfl) (⟨by decide, by decide, by decide, by decide⟩) ?_
      refine n_if_eq 46 dX11_house_8 (by decide) (by first | (with_reducible exact cB _) | ((with_reducible apply cN_eq0) <;> omega) | exact Iff.rfl) (fun c8 => by exfalso; first | omega | exact absurd trivial c8 | exact c8 | (simp at c8)) (fun c8 => ?_)
      refine g_iload_n dX11_house_11 rfl ?_
      refine g_iconst (v := nI 0) dX11_house_12 (by decide) ?_
      refine g_bipush (v := nI 9) dX11_house_13 (by decide) ?_
      refine p_callS (ix) okX11_within lkX11_85 rfl dX11_house_15 rfl (Nat.le_of_ble_eq_true rfl) (⟨by decide, by decide, by decide, by decide⟩) ?_
      refine n_if_eq 46 dX11_house_18 (by decide) (by first | (with_reducible exact cB _) | ((with_reducible apply cN_eq0) <;> omega) | exact Iff.rfl) (fun c18 => ?_) (fun c18 => by exfalso; first | omega | exact absurd trivial c18 | exact c18 | (simp at c18))
      refine g_iconst (v := (-1)) dX11_house_46 (by decide) ?_
      exact g_iret dX11_house_47 rfl (⟨rfl, rfl, rfl, hb, mF2.rf, Or.inr ⟨rfl, sAl.rf⟩⟩)
  · rw [if_neg v1] at ip
    have ans : sp_house w h a c x y = (-1, a) := by rw [sp_house, if_neg (fun z => v1 z.1)]
    rw [ans]
    refine pvMet.of _ (by decide) rfl (Nat.le_of_ble_eq_true rfl) ?_
    refine g_aload_n dX11_house_0 rfl ?_
    refine g_getP dX11_house_1 fdX11_21 rfl (by first | rfl | exact pv_shx) (by omega) (by omega) (by decide) rfl (hP _ _ _ rfl) ?_
    refine g_iload_n dX11_house_4 rfl ?_
    refine p_callV (ip) okX2_has lkX11_81 rfl (by first | rfl | exact pv_shx) rfl (by omega) (by omega) dX11_house_5 rfl (Nat.le_of_ble_eq_true rfl) (⟨by decide, by decide, by decide, by decide⟩) ?_
    refine n_if_eq 46 dX11_house_8 (by decide) (by first | (with_reducible exact cB _) | ((with_reducible apply cN_eq0) <;> omega) | exact Iff.rfl) (fun c8 => ?_) (fun c8 => by exfalso; first | omega | exact absurd trivial c8 | exact c8 | (simp at c8))
    refine g_iconst (v := (-1)) dX11_house_46 (by decide) ?_
    exact g_iret dX11_house_47 rfl (⟨rfl, rfl, rfl, hb, mF2.rf, Or.inr ⟨rfl, sAl.rf⟩⟩)
end TW3
