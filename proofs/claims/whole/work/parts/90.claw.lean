/-! class: force, place -/
section LAW
variable {w h : Nat} {a a' : Nat → Int32} {I I' : pvI} {J : pvJ} {P : pvP}
theorem kB.law (hb : kB w h a I J) (hI : ∀ x, x < 39 ∨ 42 < x → I' x = I x) (h0 : ag 0 8 a a') (h10 : ag 10 16 a a') (h2 : ag 20 1500 a a') (h3 : ag 1600 8020 a a') (ht : rLaw 3 a' I') (hg' : mG a') (hl : mForce a') : kB w h a' I' J := by
  obtain ⟨hg, ⟨r0, r1, r2, r3, r4, r5, r6⟩, hf, htr, ⟨⟨i1, i2, i3, i4, i5, i6⟩, i7, i8, i9, i10, ⟨i11, i12⟩, i13⟩⟩ := id hb
  have hwh := hg.wh
  have hw := hg.2.2.2.2.2.2.1
  have s11 : ag 11 14 a a' := h10.sub (by omega) (by omega)
  have s1 : ag 1 4 a a' := h0.sub (by omega) (by omega)
  have sp : ag 1620 8020 a a' := h3.sub (by omega) (by omega)
  have sg : ag 20 276 a a' := h2.sub (by omega) (by omega)
  refine ⟨hg.mv (hI 2 (by omega)) rfl, ⟨?_, ?_, ?_, ?_, ?_, ht, ?_⟩, ?_, htr.mv (hI 138 (by omega)) rfl, ⟨⟨hg', i2.fr (h2.sub (by omega) (by omega)) sp, i3.fr i1 (h0.sub (by omega) (by omega)) (h2.sub (by omega) (by omega)), i4.fr i1 (h0.sub (by omega) (by omega)) (h2.sub (by omega) (by omega)), i5.fr i1 (h0.sub (by omega) (by omega)) (h2.sub (by omega) (by omega)), i6.fr i1 (h10.sub (by omega) (by omega)) (h3.sub (by omega) (by omega))⟩, i7.fr i1 (h0.sub (by omega) (by omega)) (h2.sub (by omega) (by omega)), i8.fr hg' (h0.sub (by omega) (by omega)) (h2.sub (by omega) (by omega)), i9.fr sp, hl, ⟨i11.fr (h10.sub (by omega) (by omega)) (h2.sub (by omega) (by omega)), i12.fr (h2.sub (by omega) (by omega))⟩, mAh.fr (a := a) i13 i1 (h0.sub (by omega) (by omega)) (h0.sub (by omega) (by omega)) (h2.sub (by omega) (by omega)) sp⟩⟩
  · rw [hI 3 (by omega), h0 0 (by omega) (by omega)]; exact r0
  · exact (r1.fr s11 (h10.sub (by omega) (by omega)) (h2.sub (by omega) (by omega)) sp hwh.2).mv (fun x z1 z2 => hI x (by omega)) (fun _ _ _ => rfl)
  · exact (r2.fr i1 (h0.sub (by omega) (by omega)) (h2.sub (by omega) (by omega))).mv (fun x z1 z2 => hI x (by omega)) (fun _ _ _ => rfl)
  · exact (r3.fr i1 (h0.sub (by omega) (by omega)) (h2.sub (by omega) (by omega))).mv (fun x z1 z2 => hI x (by omega))
  · exact (r4.fr i1 (h0.sub (by omega) (by omega)) (h10.sub (by omega) (by omega)) (h2.sub (by omega) (by omega))).mv (fun x z1 z2 => hI x (by omega))
  · exact (r6.fr i1 (h10.sub (by omega) (by omega)) (h3.sub (by omega) (by omega))).mv (fun x z1 z2 => hI x (by omega)) (by rw [hI (3 + 40) (by omega)])
  · exact (hf.fr (by omega) hwh.2 i1 s1 s11 sg sp).mv (fun x z1 z2 => hI x (by omega)) (fun _ _ _ => rfl)
theorem kB.wal (hb : kB w h a I J) (hI : ∀ x, x < 43 ∨ 45 < x → I' x = I x) (h0 : ag 0 10 a a') (h11 : ag 11 16 a a') (h2 : ag 20 1600 a a') (h3 : ag 1620 8020 a a') (ht : rWal 3 a' I') (hg' : mG a') (hl : mPlaces (w * h) a') : kB w h a' I' J := by
  obtain ⟨hg, ⟨r0, r1, r2, r3, r4, r5, r6⟩, hf, htr, ⟨⟨i1, i2, i3, i4, i5, i6⟩, i7, i8, i9, i10, ⟨i11, i12⟩, i13⟩⟩ := id hb
  have hwh := hg.wh
  have hw := hg.2.2.2.2.2.2.1
  have s11 : ag 11 14 a a' := h11.sub (by omega) (by omega)
  have s1 : ag 1 4 a a' := h0.sub (by omega) (by omega)
  have sg : ag 20 276 a a' := h2.sub (by omega) (by omega)
  refine ⟨hg.mv (hI 2 (by omega)) rfl, ⟨?_, ?_, ?_, ?_, ?_, ?_, ht⟩, ?_, htr.mv (hI 138 (by omega)) rfl, ⟨⟨hg', i2.fr (h2.sub (by omega) (by omega)) h3, i3.fr i1 (h0.sub (by omega) (by omega)) (h2.sub (by omega) (by omega)), i4.fr i1 (h0.sub (by omega) (by omega)) (h2.sub (by omega) (by omega)), i5.fr i1 (h0.sub (by omega) (by omega)) (h2.sub (by omega) (by omega)), hl⟩, i7.fr i1 (h0.sub (by omega) (by omega)) (h2.sub (by omega) (by omega)), i8.fr hg' (h0.sub (by omega) (by omega)) (h2.sub (by omega) (by omega)), i9.fr h3, i10.fr i1 (h0.sub (by omega) (by omega)) (h2.sub (by omega) (by omega)), ⟨i11.fr (h11.sub (by omega) (by omega)) (h2.sub (by omega) (by omega)), i12.fr (h2.sub (by omega) (by omega))⟩, mAh.fr (a := a) i13 i1 (h0.sub (by omega) (by omega)) (h0.sub (by omega) (by omega)) (h2.sub (by omega) (by omega)) h3⟩⟩
  · rw [hI 3 (by omega), h0 0 (by omega) (by omega)]; exact r0
  · exact (r1.fr s11 (h11.sub (by omega) (by omega)) (h2.sub (by omega) (by omega)) h3 hwh.2).mv (fun x z1 z2 => hI x (by omega)) (fun _ _ _ => rfl)
  · exact (r2.fr i1 (h0.sub (by omega) (by omega)) (h2.sub (by omega) (by omega))).mv (fun x z1 z2 => hI x (by omega)) (fun _ _ _ => rfl)
  · exact (r3.fr i1 (h0.sub (by omega) (by omega)) (h2.sub (by omega) (by omega))).mv (fun x z1 z2 => hI x (by omega))
  · exact (r4.fr i1 (h0.sub (by omega) (by omega)) (h11.sub (by omega) (by omega)) (h2.sub (by omega) (by omega))).mv (fun x z1 z2 => hI x (by omega))
  · exact (r5.fr i1 (h0.sub (by omega) (by omega)) (h2.sub (by omega) (by omega))).mv (fun x z1 z2 => hI x (by omega))
  · exact (hf.fr (by omega) hwh.2 i1 s1 s11 sg h3).mv (fun x z1 z2 => hI x (by omega)) (fun _ _ _ => rfl)
theorem c_addForce {n : Nat} {c x y : Int32} (hP : pvOkP P) (hn : I 39 1 = nI n) (hn2 : n < 30) : pvMet mX5_addForce 0 0 0 [.ref 39, .int c, .int x, .int y] 224 I J P (pvq P (fun v I' J' => v = some (.int (nI n)) ∧ J' = J ∧ I' 40 = upd (I 40) n c ∧ I' 41 = upd (I 41) n x ∧ I' 42 = upd (I 42) n y ∧ I' 39 = upd (I 39) 1 (nI (n + 1)) ∧ ∀ z, z < 39 ∨ 42 < z → I' z = I z)) := by
  refine pvMet.of _ (by decide) rfl (Nat.le_of_ble_eq_true rfl) ?_
  refine g_aload_n dX5_addForce_0 rfl ?_
  refine n_getI dX5_addForce_1 fdX5_23 rfl (by first | rfl | exact pv_shx) (by omega) (by omega) (by decide) rfl (by repeat (first | exact hn | (apply rd_s; done) | apply rd_n (by omega) | apply rp_s | apply rp_n (by omega) | (apply rdL_s; done) | apply rdL_n (by omega) | apply rpJ_s | apply rpJ_n (by omega) | rfl)) ?_
  refine g_istore dX5_addForce_4 (by decide) rfl ?_
  refine g_aload_n dX5_addForce_6 rfl ?_
  refine g_getP dX5_addForce_7 fdX5_9 rfl (by first | rfl | exact pv_shx) (by omega) (by omega) (by decide) rfl (hP _ _ _ rfl) ?_
  refine g_iload dX5_addForce_10 rfl ?_
  refine g_iload_n dX5_addForce_12 rfl ?_
  refine n_iast dX5_addForce_13 (by first | rfl | exact pv_shx) (by omega) (by omega) (by omega) (by decide) (rfl) (by omega) (by repeat (first | exact pvu_s | exact pvuJ_s | apply pvu_in (by omega) | apply pvuJ_in (by omega) | exact pvu_pvs | exact pvuJ_pvs)) ?_
  refine g_aload_n dX5_addForce_14 rfl ?_
  refine g_getP dX5_addForce_15 fdX5_13 rfl (by first | rfl | exact pv_shx) (by omega) (by omega) (by decide) rfl (hP _ _ _ rfl) ?_
  refine g_iload dX5_addForce_18 rfl ?_
  refine g_iload_n dX5_addForce_20 rfl ?_
  refine n_iast dX5_addForce_21 (by first | rfl | exact pv_shx) (by omega) (by omega) (by omega) (by decide) (rfl) (by omega) (by repeat (first | exact pvu_s | exact pvuJ_s | apply pvu_in (by omega) | apply pvuJ_in (by omega) | exact pvu_pvs | exact pvuJ_pvs)) ?_
  refine g_aload_n dX5_addForce_22 rfl ?_
  refine g_getP dX5_addForce_23 fdX5_16 rfl (by first | rfl | exact pv_shx) (by omega) (by omega) (by decide) rfl (hP _ _ _ rfl) ?_
  refine g_iload dX5_addForce_26 rfl ?_
  refine g_iload_n dX5_addForce_28 rfl ?_
  refine n_iast dX5_addForce_29 (by first | rfl | exact pv_shx) (by omega) (by omega) (by omega) (by decide) (rfl) (by omega) (by repeat (first | exact pvu_s | exact pvuJ_s | apply pvu_in (by omega) | apply pvuJ_in (by omega) | exact pvu_pvs | exact pvuJ_pvs)) ?_
  refine g_aload_n dX5_addForce_30 rfl ?_
  refine g_dup dX5_addForce_31 rfl ?_
  refine n_getI dX5_addForce_32 fdX5_23 rfl (by first | rfl | exact pv_shx) (by omega) (by omega) (by decide) rfl (by repeat (first | exact hn | (apply rd_s; done) | apply rd_n (by omega) | apply rp_s | apply rp_n (by omega) | (apply rdL_s; done) | apply rdL_n (by omega) | apply rpJ_s | apply rpJ_n (by omega) | rfl)) ?_
  refine g_iconst (v := nI 1) dX5_addForce_35 (by decide) ?_
  refine n_iadd dX5_addForce_36 (by first | (with_reducible exact nI_add _ _) | rfl) ?_
  refine n_putI dX5_addForce_37 fdX5_23 rfl (fun h => absurd h (by decide)) (by first | rfl | exact pv_shx) (by omega) (by omega) (by decide) rfl (by repeat (first | exact pvu_s | exact pvuJ_s | apply pvu_in (by omega) | apply pvuJ_in (by omega) | exact pvu_pvs | exact pvuJ_pvs)) ?_
  refine g_iload dX5_addForce_40 rfl ?_
  exact g_iret dX5_addForce_42 rfl (⟨rfl, rfl, rfl, rfl, by simp [pvs], by simp [pvs], by simp [pvs], by simp [pvs], fun z hz => by repeat (rw [pvs_ne (by omega)])⟩)
theorem kB.n89 (hb : kB w h a I J) : cnt a 8 ≤ 10 ∧ I 39 0 = nI (cnt a 8) ∧ cnt a 9 ≤ 30 ∧ I 39 1 = nI (cnt a 9) := by
  obtain ⟨k3, k3b, -⟩ := mG_eq hb.2.2.2.2.1.1 (i := 8) (by decide)
  obtain ⟨k4, k4b, -⟩ := mG_eq hb.2.2.2.2.1.1 (i := 9) (by decide)
  exact ⟨k3b, by rw [hb.2.1.2.2.2.2.2.1.1]; exact k3, k4b, by rw [hb.2.1.2.2.2.2.2.1.2.1]; exact k4⟩
theorem c_force {c x y : Int32} (hP : pvOkP P) (hb : kB w h a I J) : pvMet mX11_force 2 0 0 [.ref 1, .int c, .int x, .int y] 224 I J P (mtQ w h a I J P (sp_force a c x y)) := by
  obtain ⟨n8, r8, n9, r9⟩ := hb.n89
  obtain ⟨n0, r0⟩ := hb.n0
  have ip := c_within (nx := 224) (v := c) (lo := nI 0) (hi := nI (cnt a 8) - nI 1) (L := 0) (H := (cnt a 8 : Int) - 1) (I := I) (J := J) (P := P) (by decide) (by rw [pk_sub_toInt (by omega) (by omega)]; rfl)
  have ix := c_isWeekToCome (v := x) (J := J) hP r0 n0
  have iy := c_isWeek (nx := 224) (v := y) (I := I) (J := J) (P := P)
  by_cases v1 : 0 ≤ c.toInt ∧ c.toInt ≤ (cnt a 8 : Int) - 1
  · rw [if_pos v1] at ip
    by_cases v2 : (cnt a 0 : Int) ≤ x.toInt ∧ x.toInt ≤ 99
    · rw [if_pos v2] at ix
      by_cases v3 : 0 ≤ y.toInt ∧ y.toInt ≤ 99
      · rw [if_pos v3] at iy
        by_cases v5 : y.toInt < x.toInt
        · have ans : sp_force a c x y = (-1, a) := by rw [sp_force, if_neg (fun z => by have := z.2.2.2.1; omega)]
          rw [ans]
          refine pvMet.of _ (by decide) rfl (Nat.le_of_ble_eq_true rfl) ?_
          refine g_iload_n dX11_force_0 rfl ?_
          refine g_iconst (v := nI 0) dX11_force_1 (by decide) ?_
          refine g_aload_n dX11_force_2 rfl ?_
          refine g_getP dX11_force_3 fdX11_32 rfl (by first | rfl | exact pv_shx) (by omega) (by omega) (by decide) rfl (hP _ _ _ rfl) ?_
          refine g_getP dX11_force_6 fdX11_333 rfl (by first | rfl | exact pv_shx) (by omega) (by omega) (by decide) rfl (hP _ _ _ rfl) ?_
          refine n_getI dX11_force_9 fdX11_337 rfl (by first | rfl | exact pv_shx) (by omega) (by omega) (by decide) rfl (by repeat (first | exact r8 | exact r9 | (apply rd_s; done) | apply rd_n (by omega) | apply rp_s | apply rp_n (by omega) | (apply rdL_s; done) | apply rdL_n (by omega) | apply rpJ_s | apply rpJ_n (by omega) | rfl)) ?_
          refine g_iconst (v := nI 1) dX11_force_12 (by decide) ?_
          refine n_isub dX11_force_13 (rfl) ?_
          refine p_callS (ip) okX11_within lkX11_85 rfl dX11_force_14 rfl (Nat.le_of_ble_eq_true rfl) (⟨by decide, by decide, by decide, by decide⟩) ?_
          refine n_if_eq 55 dX11_force_17 (by decide) (by first | (with_reducible exact cB _) | ((with_reducible apply cN_eq0) <;> omega) | exact Iff.rfl) (fun c17 => by exfalso; first | omega | exact absurd trivial c17 | exact c17 | (simp at c17)) (fun c17 => ?_)
          refine g_aload_n dX11_force_20 rfl ?_
          refine g_iload_n dX11_force_21 rfl ?_
          refine p_callV (ix) okX11_isWeekToCome lkX11_306 rfl (by first | rfl | exact pv_shx) rfl (by omega) (by omega) dX11_force_22 rfl (Nat.le_of_ble_eq_true rfl) (⟨by decide, by decide, by decide, by decide⟩) ?_
          refine n_if_eq 55 dX11_force_25 (by decide) (by first | (with_reducible exact cB _) | ((with_reducible apply cN_eq0) <;> omega) | exact Iff.rfl) (fun c25 => by exfalso; first | omega | exact absurd trivial c25 | exact c25 | (simp at c25)) (fun c25 => ?_)
          refine g_iload_n dX11_force_28 rfl ?_
          refine p_callS (iy) okX11_isWeek lkX11_160 rfl dX11_force_29 rfl (Nat.le_of_ble_eq_true rfl) (⟨by decide, by decide, by decide, by decide⟩) ?_
          refine n_if_eq 55 dX11_force_32 (by decide) (by first | (with_reducible exact cB _) | ((with_reducible apply cN_eq0) <;> omega) | exact Iff.rfl) (fun c32 => by exfalso; first | omega | exact absurd trivial c32 | exact c32 | (simp at c32)) (fun c32 => ?_)
          refine g_iload_n dX11_force_35 rfl ?_
          refine g_iload_n dX11_force_36 rfl ?_
          refine n_icmp_lt 55 dX11_force_37 (by decide) (by first | ((with_reducible apply cN_lt) <;> omega) | ((with_reducible apply cI_ltn) <;> omega) | ((with_reducible apply cI_nlt) <;> omega) | (with_reducible exact cI_lt)) (fun c37 => ?_) (fun c37 => by exfalso; first | omega | exact absurd trivial c37 | exact c37 | (simp at c37))
          refine g_iconst (v := (-1)) dX11_force_55 (by decide) ?_
          exact g_iret dX11_force_56 rfl (⟨rfl, rfl, rfl, hb, mF2.rf, Or.inr ⟨rfl, sAl.rf⟩⟩)
        · by_cases v4 : cnt a 9 = 30
          · have ans : sp_force a c x y = (-1, a) := by rw [sp_force, if_neg (fun z => z.2.2.2.2.2 v4)]
            rw [ans]
            refine pvMet.of _ (by decide) rfl (Nat.le_of_ble_eq_true rfl) ?_
            refine g_iload_n dX11_force_0 rfl ?_
            refine g_iconst (v := nI 0) dX11_force_1 (by decide) ?_
            refine g_aload_n dX11_force_2 rfl ?_
            refine g_getP dX11_force_3 fdX11_32 rfl (by first | rfl | exact pv_shx) (by omega) (by omega) (by decide) rfl (hP _ _ _ rfl) ?_
            refine g_getP dX11_force_6 fdX11_333 rfl (by first | rfl | exact pv_shx) (by omega) (by omega) (by decide) rfl (hP _ _ _ rfl) ?_
            refine n_getI dX11_force_9 fdX11_337 rfl (by first | rfl | exact pv_shx) (by omega) (by omega) (by decide) rfl (by repeat (first | exact r8 | exact r9 | (apply rd_s; done) | apply rd_n (by omega) | apply rp_s | apply rp_n (by omega) | (apply rdL_s; done) | apply rdL_n (by omega) | apply rpJ_s | apply rpJ_n (by omega) | rfl)) ?_
            refine g_iconst (v := nI 1) dX11_force_12 (by decide) ?_
            refine n_isub dX11_force_13 (rfl) ?_
            refine p_callS (ip) okX11_within lkX11_85 rfl dX11_force_14 rfl (Nat.le_of_ble_eq_true rfl) (⟨by decide, by decide, by decide, by decide⟩) ?_
            refine n_if_eq 55 dX11_force_17 (by decide) (by first | (with_reducible exact cB _) | ((with_reducible apply cN_eq0) <;> omega) | exact Iff.rfl) (fun c17 => by exfalso; first | omega | exact absurd trivial c17 | exact c17 | (simp at c17)) (fun c17 => ?_)
            refine g_aload_n dX11_force_20 rfl ?_
            refine g_iload_n dX11_force_21 rfl ?_
            refine p_callV (ix) okX11_isWeekToCome lkX11_306 rfl (by first | rfl | exact pv_shx) rfl (by omega) (by omega) dX11_force_22 rfl (Nat.le_of_ble_eq_true rfl) (⟨by decide, by decide, by decide, by decide⟩) ?_
            refine n_if_eq 55 dX11_force_25 (by decide) (by first | (with_reducible exact cB _) | ((with_reducible apply cN_eq0) <;> omega) | exact Iff.rfl) (fun c25 => by exfalso; first | omega | exact absurd trivial c25 | exact c25 | (simp at c25)) (fun c25 => ?_)
            refine g_iload_n dX11_force_28 rfl ?_
            refine p_callS (iy) okX11_isWeek lkX11_160 rfl dX11_force_29 rfl (Nat.le_of_ble_eq_true rfl) (⟨by decide, by decide, by decide, by decide⟩) ?_
            refine n_if_eq 55 dX11_force_32 (by decide) (by first | (with_reducible exact cB _) | ((with_reducible apply cN_eq0) <;> omega) | exact Iff.rfl) (fun c32 => by exfalso; first | omega | exact absurd trivial c32 | exact c32 | (simp at c32)) (fun c32 => ?_)
            refine g_iload_n dX11_force_35 rfl ?_
            refine g_iload_n dX11_force_36 rfl ?_
            refine n_icmp_lt 55 dX11_force_37 (by decide) (by first | ((with_reducible apply cN_lt) <;> omega) | ((with_reducible apply cI_ltn) <;> omega) | ((with_reducible apply cI_nlt) <;> omega) | (with_reducible exact cI_lt)) (fun c37 => by exfalso; first | omega | exact absurd trivial c37 | exact c37 | (simp at c37)) (fun c37 => ?_)
            refine g_aload_n dX11_force_40 rfl ?_
            refine g_getP dX11_force_41 fdX11_32 rfl (by first | rfl | exact pv_shx) (by omega) (by omega) (by decide) rfl (hP _ _ _ rfl) ?_
            refine g_getP dX11_force_44 fdX11_333 rfl (by first | rfl | exact pv_shx) (by omega) (by omega) (by decide) rfl (hP _ _ _ rfl) ?_
            refine n_getI dX11_force_47 fdX11_352 rfl (by first | rfl | exact pv_shx) (by omega) (by omega) (by decide) rfl (by repeat (first | exact r8 | exact r9 | (apply rd_s; done) | apply rd_n (by omega) | apply rp_s | apply rp_n (by omega) | (apply rdL_s; done) | apply rdL_n (by omega) | apply rpJ_s | apply rpJ_n (by omega) | rfl)) ?_
            refine g_bipush (v := nI 30) dX11_force_50 (by decide) ?_
            refine n_icmp_lt 57 dX11_force_52 (by decide) (by first | ((with_reducible apply cN_lt) <;> omega) | ((with_reducible apply cI_ltn) <;> omega) | ((with_reducible apply cI_nlt) <;> omega) | (with_reducible exact cI_lt)) (fun c52 => by exfalso; first | omega | exact absurd trivial c52 | exact c52 | (simp at c52)) (fun c52 => ?_)
            refine g_iconst (v := (-1)) dX11_force_55 (by decide) ?_
            exact g_iret dX11_force_56 rfl (⟨rfl, rfl, rfl, hb, mF2.rf, Or.inr ⟨rfl, sAl.rf⟩⟩)
          · obtain ⟨cn, hcn, rfl⟩ := cI_of (x := c) (n := cnt a 8) (by omega) (by omega) (by omega)
            obtain ⟨xn, hxn, rfl⟩ := cI_of (x := x) (n := 100) (by omega) (by omega) (by omega)
            obtain ⟨yn, hyn, rfl⟩ := cI_of (x := y) (n := 100) (by omega) (by omega) (by omega)
            have ex : (nI xn).toInt = xn := nI_toInt (by omega)
            have ey : (nI yn).toInt = yn := nI_toInt (by omega)
            have ha9 := (mG_eq hb.2.2.2.2.1.1 (i := 9) (by decide)).1
            have ans : sp_force a (nI cn) (nI xn) (nI yn) = (nI (cnt a 9), upd (upd (upd (upd a (1500 + 3 * cnt a 9) (nI cn)) (1500 + 3 * cnt a 9 + 1) (nI xn)) (1500 + 3 * cnt a 9 + 2) (nI yn)) 9 (nI (cnt a 9 + 1))) := by rw [sp_force, if_pos ⟨by omega, by omega, v3, by omega, v2.1, v4⟩, ← ha9]
            rw [ans]
            have hi := hb.2.2.2.2
            have ad := c_addForce (J := J) (c := nI cn) (x := nI xn) (y := nI yn) hP r9 (by omega)
            obtain ⟨x1, x2, x3⟩ := hb.2.1.2.2.2.2.2.1
            generalize hN : cnt a 9 = N at *
            generalize hA : upd (upd (upd (upd a (1500 + 3 * N) (nI cn)) (1500 + 3 * N + 1) (nI xn)) (1500 + 3 * N + 2) (nI yn)) 9 (nI (N + 1)) = A
            have u : ∀ {i}, i ≠ 9 → (i < 1500 + 3 * N ∨ 1500 + 3 * N + 2 < i) → A i = a i := fun e1 e2 => by rw [← hA, updI e1, updI (by omega), updI (by omega), updI (by omega)]
            have uc : ∀ {i}, i ≠ 9 → (i < 1500 + 3 * N ∨ 1500 + 3 * N + 2 < i) → cnt A i = cnt a i := fun e1 e2 => by unfold cnt; rw [u e1 e2]
            have u9 : A 9 = nI (N + 1) := by rw [← hA, updS]
            have c9 : cnt A 9 = N + 1 := cnt_of u9 (by omega)
            have w0 : A (1500 + 3 * N) = nI cn := by rw [← hA, updI (by omega), updI (by omega), updI (by omega), updS]
            have w1 : A (1500 + 3 * N + 1) = nI xn := by rw [← hA, updI (by omega), updI (by omega), updS]
            have w2 : A (1500 + 3 * N + 2) = nI yn := by rw [← hA, updI (by omega), updS]
            have ga : ∀ lo hi', (hi' ≤ 9 ∨ (10 ≤ lo ∧ hi' ≤ 1500) ∨ 1600 ≤ lo) → ag lo hi' a A := fun lo hi' hz i z1 z2 => u (by omega) (by omega)
            have hg' : mG A := hi.1.1.one (i := 9) (v := N + 1) (by decide) (show N + 1 ≤ 30 by omega) u9 (fun j z1 z2 => u z2 (by omega))
            have hl : mForce A := fun q hq => by
              rw [c9] at hq
              rw [uc (i := 8) (by omega) (by omega)]
              by_cases e : q = N
              · subst e
                rw [w0, w1, w2]
                exact ⟨⟨cn, hcn, rfl⟩, ⟨xn, by omega, rfl⟩, ⟨yn, by omega, rfl⟩⟩
              · rw [u (i := 1500 + 3 * q) (by omega) (by omega), u (i := 1500 + 3 * q + 1) (by omega) (by omega), u (i := 1500 + 3 * q + 2) (by omega) (by omega)]
                exact hi.2.2.2.2.1 q (by omega)
            refine pvMet.of _ (by decide) rfl (Nat.le_of_ble_eq_true rfl) ?_
            refine g_iload_n dX11_force_0 rfl ?_
            refine g_iconst (v := nI 0) dX11_force_1 (by decide) ?_
            refine g_aload_n dX11_force_2 rfl ?_
            refine g_getP dX11_force_3 fdX11_32 rfl (by first | rfl | exact pv_shx) (by omega) (by omega) (by decide) rfl (hP _ _ _ rfl) ?_
            refine g_getP dX11_force_6 fdX11_333 rfl (by first | rfl | exact pv_shx) (by omega) (by omega) (by decide) rfl (hP _ _ _ rfl) ?_
            refine n_getI dX11_force_9 fdX11_337 rfl (by first | rfl | exact pv_shx) (by omega) (by omega) (by decide) rfl (by repeat (first | exact r8 | exact r9 | (apply rd_s; done) | apply rd_n (by omega) | apply rp_s | apply rp_n (by omega) | (apply rdL_s; done) | apply rdL_n (by omega) | apply rpJ_s | apply rpJ_n (by omega) | rfl)) ?_
            refine g_iconst (v := nI 1) dX11_force_12 (by decide) ?_
            refine n_isub dX11_force_13 (rfl) ?_
            refine p_callS (ip) okX11_within lkX11_85 rfl dX11_force_14 rfl (Nat.le_of_ble_eq_true rfl) (⟨by decide, by decide, by decide, by decide⟩) ?_
            refine n_if_eq 55 dX11_force_17 (by decide) (by first | (with_reducible exact cB _) | ((with_reducible apply cN_eq0) <;> omega) | exact Iff.rfl) (fun c17 => by exfalso; first | omega | exact absurd trivial c17 | exact c17 | (simp at c17)) (fun c17 => ?_)
            refine g_aload_n dX11_force_20 rfl ?_
            refine g_iload_n dX11_force_21 rfl ?_
            refine p_callV (ix) okX11_isWeekToCome lkX11_306 rfl (by first | rfl | exact pv_shx) rfl (by omega) (by omega) dX11_force_22 rfl (Nat.le_of_ble_eq_true rfl) (⟨by decide, by decide, by decide, by decide⟩) ?_
            refine n_if_eq 55 dX11_force_25 (by decide) (by first | (with_reducible exact cB _) | ((with_reducible apply cN_eq0) <;> omega) | exact Iff.rfl) (fun c25 => by exfalso; first | omega | exact absurd trivial c25 | exact c25 | (simp at c25)) (fun c25 => ?_)
            refine g_iload_n dX11_force_28 rfl ?_
            refine p_callS (iy) okX11_isWeek lkX11_160 rfl dX11_force_29 rfl (Nat.le_of_ble_eq_true rfl) (⟨by decide, by decide, by decide, by decide⟩) ?_
            refine n_if_eq 55 dX11_force_32 (by decide) (by first | (with_reducible exact cB _) | ((with_reducible apply cN_eq0) <;> omega) | exact Iff.rfl) (fun c32 => by exfalso; first | omega | exact absurd trivial c32 | exact c32 | (simp at c32)) (fun c32 => ?_)
            refine g_iload_n dX11_force_35 rfl ?_
            refine g_iload_n dX11_force_36 rfl ?_
            refine n_icmp_lt 55 dX11_force_37 (by decide) (by first | ((with_reducible apply cN_lt) <;> omega) | ((with_reducible apply cI_ltn) <;> omega) | ((with_reducible apply cI_nlt) <;> omega) | (with_reducible exact cI_lt)) (fun c37 => by exfalso; first | omega | exact absurd trivial c37 | exact c37 | (simp at c37)) (fun c37 => ?_)
            refine g_aload_n dX11_force_40 rfl ?_
            refine g_getP dX11_force_41 fdX11_32 rfl (by first | rfl | exact pv_shx) (by omega) (by omega) (by decide) rfl (hP _ _ _ rfl) ?_
            refine g_getP dX11_force_44 fdX11_333 rfl (by first | rfl | exact pv_shx) (by omega) (by omega) (by decide) rfl (hP _ _ _ rfl) ?_
            refine n_getI dX11_force_47 fdX11_352 rfl (by first | rfl | exact pv_shx) (by omega) (by omega) (by decide) rfl (by repeat (first | exact r8 | exact r9 | (apply rd_s; done) | apply rd_n (by omega) | apply rp_s | apply rp_n (by omega) | (apply rdL_s; done) | apply rdL_n (by omega) | apply rpJ_s | apply rpJ_n (by omega) | rfl)) ?_
            refine g_bipush (v := nI 30) dX11_force_50 (by decide) ?_
            refine n_icmp_lt 57 dX11_force_52 (by decide) (by first | ((with_reducible apply cN_lt) <;> omega) | ((with_reducible apply cI_ltn) <;> omega) | ((with_reducible apply cI_nlt) <;> omega) | (with_reducible exact cI_lt)) (fun c52 => ?_) (fun c52 => by exfalso; first | omega | exact absurd trivial c52 | exact c52 | (simp at c52))
            refine g_aload_n dX11_force_57 rfl ?_
            refine g_getP dX11_force_58 fdX11_32 rfl (by first | rfl | exact pv_shx) (by omega) (by omega) (by decide) rfl (hP _ _ _ rfl) ?_
            refine g_getP dX11_force_61 fdX11_333 rfl (by first | rfl | exact pv_shx) (by omega) (by omega) (by decide) rfl (hP _ _ _ rfl) ?_
            refine g_iload_n dX11_force_64 rfl ?_
            refine g_iload_n dX11_force_65 rfl ?_
            refine g_iload_n dX11_force_66 rfl ?_
            refine g_callV (ad) okX5_addForce lkX11_355 rfl (by first | rfl | exact pv_shx) rfl (by omega) (by omega) dX11_force_67 rfl (Nat.le_of_ble_eq_true rfl) (⟨by decide, by decide, by decide, by decide⟩) ?_
            rintro v nx' I' J' P' ⟨rfl, rfl, rfl, rfl, e40, e41, e42, e39, he⟩
            have ht : rLaw 3 A I' := by
              refine ⟨?_, ?_, ?_⟩
              · show I' 39 0 = _
                rw [e39, updI (by decide), u (by omega) (by omega)]; exact x1
              · show I' 39 1 = _
                rw [e39, updS, u9]
              · intro q hq
                rw [c9] at hq
                show I' 40 q = _ ∧ I' 41 q = _ ∧ I' 42 q = _
                rw [e40, e41, e42]
                by_cases e : q = N
                · subst e
                  rw [updS, updS, updS, w0, w1, w2]
                  exact ⟨rfl, rfl, rfl⟩
                · rw [updI e, updI e, updI e, u (i := 1500 + 3 * q) (by omega) (by omega), u (i := 1500 + 3 * q + 1) (by omega) (by omega), u (i := 1500 + 3 * q + 2) (by omega) (by omega)]
                  exact x3 q (by omega)
            have fin := hb.law (I' := I') he (ga _ _ (by omega)) (ga _ _ (by omega)) (ga _ _ (by omega)) (ga _ _ (by omega)) ht hg' hl
            exact g_iret dX11_force_70 rfl (⟨rfl, rfl, rfl, fin, fun z hz => ⟨he z (by omega), rfl⟩, Or.inr ⟨he 43 (by omega), ga _ _ (by omega), ga _ _ (by omega), ga _ _ (by omega), ga _ _ (by omega)⟩⟩)
      · rw [if_neg v3] at iy
        have ans : sp_force a c x y = (-1, a) := by rw [sp_force, if_neg (fun z => v3 z.2.2.1)]
        rw [ans]
        refine pvMet.of _ (by decide) rfl (Nat.le_of_ble_eq_true rfl) ?_
        refine g_iload_n dX11_force_0 rfl ?_
        refine g_iconst (v := nI 0) dX11_force_1 (by decide) ?_
        refine g_aload_n dX11_force_2 rfl ?_
        refine g_getP dX11_force_3 fdX11_32 rfl (by first | rfl | exact pv_shx) (by omega) (by omega) (by decide) rfl (hP _ _ _ rfl) ?_
        refine g_getP dX11_force_6 fdX11_333 rfl (by first | rfl | exact pv_shx) (by omega) (by omega) (by decide) rfl (hP _ _ _ rfl) ?_
        refine n_getI dX11_force_9 fdX11_337 rfl (by first | rfl | exact pv_shx) (by omega) (by omega) (by decide) rfl (by repeat (first | exact r8 | (apply rd_s; done) | apply rd_n (by omega) | apply rp_s | apply rp_n (by omega) | (apply rdL_s; done) | apply rdL_n (by omega) | apply rpJ_s | apply rpJ_n (by omega) | rfl)) ?_
        refine g_iconst (v := nI 1) dX11_force_12 (by decide) ?_
        refine n_isub dX11_force_13 (rfl) ?_
        refine p_callS (ip) okX11_within lkX11_85 rfl dX11_force_14 rfl (Nat.le_of_ble_eq_true rfl) (⟨by decide, by decide, by decide, by decide⟩) ?_
        refine n_if_eq 55 dX11_force_17 (by decide) (by first | (with_reducible exact cB _) | ((with_reducible apply cN_eq0) <;> omega) | exact Iff.rfl) (fun c17 => by exfalso; first | omega | exact absurd trivial c17 | exact c17 | (simp at c17)) (fun c17 => ?_)
        refine g_aload_n dX11_force_20 rfl ?_
        refine g_iload_n dX11_force_21 rfl ?_
        refine p_callV (ix) okX11_isWeekToCome lkX11_306 rfl (by first | rfl | exact pv_shx) rfl (by omega) (by omega) dX11_force_22 rfl (Nat.le_of_ble_eq_true rfl) (⟨by decide, by decide, by decide, by decide⟩) ?_
        refine n_if_eq 55 dX11_force_25 (by decide) (by first | (with_reducible exact cB _) | ((with_reducible apply cN_eq0) <;> omega) | exact Iff.rfl) (fun c25 => by exfalso; first | omega | exact absurd trivial c25 | exact c25 | (simp at c25)) (fun c25 => ?_)
        refine g_iload_n dX11_force_28 rfl ?_
        refine p_callS (iy) okX11_isWeek lkX11_160 rfl dX11_force_29 rfl (Nat.le_of_ble_eq_true rfl) (⟨by decide, by decide, by decide, by decide⟩) ?_
        refine n_if_eq 55 dX11_force_32 (by decide) (by first | (with_reducible exact cB _) | ((with_reducible apply cN_eq0) <;> omega) | exact Iff.rfl) (fun c32 => ?_) (fun c32 => by exfalso; first | omega | exact absurd trivial c32 | exact c32 | (simp at c32))
        refine g_iconst (v := (-1)) dX11_force_55 (by decide) ?_
        exact g_iret dX11_force_56 rfl (⟨rfl, rfl, rfl, hb, mF2.rf, Or.inr ⟨rfl, sAl.rf⟩⟩)
    · rw [if_neg v2] at ix
      have ans : sp_force a c x y = (-1, a) := by rw [sp_force, if_neg (fun z => v2 ⟨z.2.2.2.2.1, z.2.1.2⟩)]
      rw [ans]
      refine pvMet.of _ (by decide) rfl (Nat.le_of_ble_eq_true rfl) ?_
      refine g_iload_n dX11_force_0 rfl ?_
      refine g_iconst (v := nI 0) dX11_force_1 (by decide) ?_
      refine g_aload_n dX11_force_2 rfl ?_
      refine g_getP dX11_force_3 fdX11_32 rfl (by first | rfl | exact pv_shx) (by omega) (by omega) (by decide) rfl (hP _ _ _ rfl) ?_
      refine g_getP dX11_force_6 fdX11_333 rfl (by first | rfl | exact pv_shx) (by omega) (by omega) (by decide) rfl (hP _ _ _ rfl) ?_
      refine n_getI dX11_force_9 fdX11_337 rfl (by first | rfl | exact pv_shx) (by omega) (by omega) (by decide) rfl (by repeat (first | exact r8 | (apply rd_s; done) | apply rd_n (by omega) | apply rp_s | apply rp_n (by omega) | (apply rdL_s; done) | apply rdL_n (by omega) | apply rpJ_s | apply rpJ_n (by omega) | rfl)) ?_
      refine g_iconst (v := nI 1) dX11_force_12 (by decide) ?_
      refine n_isub dX11_force_13 (rfl) ?_
      refine p_callS (ip) okX11_within lkX11_85 rfl dX11_force_14 rfl (Nat.le_of_ble_eq_true rfl) (⟨by decide, by decide, by decide, by decide⟩) ?_
      refine n_if_eq 55 dX11_force_17 (by decide) (by first | (with_reducible exact cB _) | ((with_reducible apply cN_eq0) <;> omega) | exact Iff.rfl) (fun c17 => by exfalso; first | omega | exact absurd trivial c17 | exact c17 | (simp at c17)) (fun c17 => ?_)
      refine g_aload_n dX11_force_20 rfl ?_
      refine g_iload_n dX11_force_21 rfl ?_
      refine p_callV (ix) okX11_isWeekToCome lkX11_306 rfl (by first | rfl | exact pv_shx) rfl (by omega) (by omega) dX11_force_22 rfl (Nat.le_of_ble_eq_true rfl) (⟨by decide, by decide, by decide, by decide⟩) ?_
      refine n_if_eq 55 dX11_force_25 (by decide) (by first | (with_reducible exact cB _) | ((with_reducible apply cN_eq0) <;> omega) | exact Iff.rfl) (fun c25 => ?_) (fun c25 => by exfalso; first | omega | exact absurd trivial c25 | exact c25 | (simp at c25))
      refine g_iconst (v := (-1)) dX11_force_55 (by decide) ?_
      exact g_iret dX11_force_56 rfl (⟨rfl, rfl, rfl, hb, mF2.rf, Or.inr ⟨rfl, sAl.rf⟩⟩)
  · rw [if_neg v1] at ip
    have ans : sp_force a c x y = (-1, a) := by rw [sp_force, if_neg (fun z => v1 ⟨z.1.1, by have := z.1.2; omega⟩)]
    rw [ans]
    refine pvMet.of _ (by decide) rfl (Nat.le_of_ble_eq_true rfl) ?_
    refine g_iload_n dX11_force_0 rfl ?_
    refine g_iconst (v := nI 0) dX11_force_1 (by decide) ?_
    refine g_aload_n dX11_force_2 rfl ?_
    refine g_getP dX11_force_3 fdX11_32 rfl (by first | rfl | exact pv_shx) (by omega) (by omega) (by decide) rfl (hP _ _ _ rfl) ?_
    refine g_getP dX11_force_6 fdX11_333 rfl (by first | rfl | exact pv_shx) (by omega) (by omega) (by decide) rfl (hP _ _ _ rfl) ?_
    refine n_getI dX11_force_9 fdX11_337 rfl (by first | rfl | exact pv_shx) (by omega) (by omega) (by decide) rfl (by repeat (first | exact r8 | (apply rd_s; done) | apply rd_n (by omega) | apply rp_s | apply rp_n (by omega) | (apply rdL_s; done) | apply rdL_n (by omega) | apply rpJ_s | apply rpJ_n (by omega) | rfl)) ?_
    refine g_iconst (v := nI 1) dX11_force_12 (by decide) ?_
    refine n_isub dX11_force_13 (rfl) ?_
    refine p_callS (ip) okX11_within lkX11_85 rfl dX11_force_14 rfl (Nat.le_of_ble_eq_true rfl) (⟨by decide, by decide, by decide, by decide⟩) ?_
    refine n_if_eq 55 dX11_force_17 (by decide) (by first | (with_reducible exact cB _) | ((with_reducible apply cN_eq0) <;> omega) | exact Iff.rfl) (fun c17 => ?_) (fun c17 => by exfalso; first | omega | exact absurd trivial c17 | exact c17 | (simp at c17))
    refine g_iconst (v := (-1)) dX11_force_55 (by decide) ?_
    exact g_iret dX11_force_56 rfl (⟨rfl, rfl, rfl, hb, mF2.rf, Or.inr ⟨rfl, sAl.rf⟩⟩)
theorem c_wadd {n : Nat} {c x : Int32} (hP : pvOkP P) (hn : I 43 0 = nI n) (hn2 : n < 6) : pvMet mX8_add 1 0 0 [.ref 43, .int c, .int x] 224 I J P (pvq P (fun v I' J' => v = some (.int (nI n)) ∧ J' = J ∧ I' 44 = upd (I 44) n c ∧ I' 45 = upd (I 45) n x ∧ I' 43 0 = nI (n + 1) ∧ I' 43 3 = -1 ∧ ∀ z, z < 43 ∨ 45 < z → I' z = I z)) := by
  have wf := fun I1 => c_wforget (I := I1) (J := J) hP
  refine pvMet.of _ (by decide) rfl (Nat.le_of_ble_eq_true rfl) ?_
  refine g_aload_n dX8_add_0 rfl ?_
  refine n_getI dX8_add_1 fdX8_25 rfl (by first | rfl | exact pv_shx) (by omega) (by omega) (by decide) rfl (by repeat (first | exact hn | (apply rd_s; done) | apply rd_n (by omega) | apply rp_s | apply rp_n (by omega) | (apply rdL_s; done) | apply rdL_n (by omega) | apply rpJ_s | apply rpJ_n (by omega) | rfl)) ?_
  refine g_istore_n dX8_add_4 (by decide) rfl ?_
  refine g_aload_n dX8_add_5 rfl ?_
  refine g_getP dX8_add_6 fdX8_11 rfl (by first | rfl | exact pv_shx) (by omega) (by omega) (by decide) rfl (hP _ _ _ rfl) ?_
  refine g_iload_n dX8_add_9 rfl ?_
  refine g_iload_n dX8_add_10 rfl ?_
  refine n_iast dX8_add_11 (by first | rfl | exact pv_shx) (by omega) (by omega) (by omega) (by decide) (rfl) (by omega) (by repeat (first | exact pvu_s | exact pvuJ_s | apply pvu_in (by omega) | apply pvuJ_in (by omega) | exact pvu_pvs | exact pvuJ_pvs)) ?_
  refine g_aload_n dX8_add_12 rfl ?_
  refine g_getP dX8_add_13 fdX8_15 rfl (by first | rfl | exact pv_shx) (by omega) (by omega) (by decide) rfl (hP _ _ _ rfl) ?_
  refine g_iload_n dX8_add_16 rfl ?_
  refine g_iload_n dX8_add_17 rfl ?_
  refine n_iast dX8_add_18 (by first | rfl | exact pv_shx) (by omega) (by omega) (by omega) (by decide) (rfl) (by omega) (by repeat (first | exact pvu_s | exact pvuJ_s | apply pvu_in (by omega) | apply pvuJ_in (by omega) | exact pvu_pvs | exact pvuJ_pvs)) ?_
  refine g_aload_n dX8_add_19 rfl ?_
  refine g_dup dX8_add_20 rfl ?_
  refine n_getI dX8_add_21 fdX8_25 rfl (by first | rfl | exact pv_shx) (by omega) (by omega) (by decide) rfl (by repeat (first | exact hn | (apply rd_s; done) | apply rd_n (by omega) | apply rp_s | apply rp_n (by omega) | (apply rdL_s; done) | apply rdL_n (by omega) | apply rpJ_s | apply rpJ_n (by omega) | rfl)) ?_
  refine g_iconst (v := nI 1) dX8_add_24 (by decide) ?_
  refine n_iadd dX8_add_25 (by first | (with_reducible exact nI_add _ _) | rfl) ?_
  refine n_putI dX8_add_26 fdX8_25 rfl (fun h => absurd h (by decide)) (by first | rfl | exact pv_shx) (by omega) (by omega) (by decide) rfl (by repeat (first | exact pvu_s | exact pvuJ_s | apply pvu_in (by omega) | apply pvuJ_in (by omega) | exact pvu_pvs | exact pvuJ_pvs)) ?_
  refine g_aload_n dX8_add_29 rfl ?_
  refine g_callV ((wf _)) okX8_forget lkX8_34 rfl (by first | rfl | exact pv_shx) rfl (by omega) (by omega) dX8_add_30 rfl (Nat.le_of_ble_eq_true rfl) (⟨by decide, by decide, by decide, by decide⟩) ?_
  rintro v nx' I2 J2 P' ⟨rfl, rfl, rfl, rfl, rfl⟩
  refine g_iload_n dX8_add_33 rfl ?_
  exact g_iret dX8_add_34 rfl (⟨rfl, rfl, rfl, rfl, by simp [pvs], by simp [pvs], by simp [pvs, upd], by simp [pvs, upd], fun z hz => by repeat (rw [pvs_ne (by omega)])⟩)
theorem kB.n10 (hb : kB w h a I J) : cnt a 10 ≤ 6 ∧ I 43 0 = nI (cnt a 10) := by
  obtain ⟨k3, k3b, -⟩ := mG_eq hb.2.2.2.2.1.1 (i := 10) (by decide)
  exact ⟨k3b, by rw [hb.2.1.2.2.2.2.2.2.1]; exact k3⟩
theorem c_place {c x : Int32} (hP : pvOkP P) (hb : kB w h a I J) : pvMet mX11_place 2 0 0 [.ref 1, .int c, .int x] 224 I J P (mtQ w h a I J P (sp_place w h a c x)) := by
  obtain ⟨n10, r10⟩ := hb.n10
  have hwh := hb.1.wh
  have ip := c_isRoom (v := c) (a := a) hP hb.1 hb.2.1.2.1.1
  have ix := c_within (nx := 224) (v := x) (lo := nI 0) (hi := nI 9999) (L := 0) (H := 9999) (I := I) (J := J) (P := P) (by decide) (by decide)
  by_cases v1 : (0 ≤ c.toInt ∧ c.toInt < w * h) ∧ (a (20 + c.toNatClampNeg)).toInt = 3
  · rw [if_pos v1] at ip
    by_cases v2 : 0 ≤ x.toInt ∧ x.toInt ≤ 9999
    · rw [if_pos v2] at ix
      by_cases v4 : cnt a 10 = 6
      · have ans : sp_place w h a c x = (-1, a) := by rw [sp_place, if_neg (fun z => z.2.2.2 v4)]
        rw [ans]
        refine pvMet.of _ (by decide) rfl (Nat.le_of_ble_eq_true rfl) ?_
        refine g_aload_n dX11_place_0 rfl ?_
        refine g_iload_n dX11_place_1 rfl ?_
        refine p_callV (ip) okX11_isRoom lkX11_133 rfl (by first | rfl | exact pv_shx) rfl (by omega) (by omega) dX11_place_2 rfl (Nat.le_of_ble_eq_true rfl) (⟨by decide, by decide, by decide, by decide⟩) ?_
        refine n_if_eq 34 dX11_place_5 (by decide) (by first | (with_reducible exact cB _) | ((with_reducible apply cN_eq0) <;> omega) | exact Iff.rfl) (fun c5 => by exfalso; first | omega | exact absurd trivial c5 | exact c5 | (simp at c5)) (fun c5 => ?_)
        refine g_iload_n dX11_place_8 rfl ?_
        refine g_iconst (v := nI 0) dX11_place_9 (by decide) ?_
        refine g_sipush (v := nI 9999) dX11_place_10 (by decide) ?_
        refine p_callS (ix) okX11_within lkX11_85 rfl dX11_place_13 rfl (Nat.le_of_ble_eq_true rfl) (⟨by decide, by decide, by decide, by decide⟩) ?_
        refine n_if_eq 34 dX11_place_16 (by decide) (by first | (with_reducible exact cB _) | ((with_reducible apply cN_eq0) <;> omega) | exact Iff.rfl) (fun c16 => by exfalso; first | omega | exact absurd trivial c16 | exact c16 | (simp at c16)) (fun c16 => ?_)
        refine g_aload_n dX11_place_19 rfl ?_
        refine g_getP dX11_place_20 fdX11_32 rfl (by first | rfl | exact pv_shx) (by omega) (by omega) (by decide) rfl (hP _ _ _ rfl) ?_
        refine g_getP dX11_place_23 fdX11_180 rfl (by first | rfl | exact pv_shx) (by omega) (by omega) (by decide) rfl (hP _ _ _ rfl) ?_
        refine n_getI dX11_place_26 fdX11_391 rfl (by first | rfl | exact pv_shx) (by omega) (by omega) (by decide) rfl (by repeat (first | exact r10 | (apply rd_s; done) | apply rd_n (by omega) | apply rp_s | apply rp_n (by omega) | (apply rdL_s; done) | apply rdL_n (by omega) | apply rpJ_s | apply rpJ_n (by omega) | rfl)) ?_
        refine g_bipush (v := nI 6) dX11_place_29 (by decide) ?_
        refine n_icmp_lt 36 dX11_place_31 (by decide) (by first | ((with_reducible apply cN_lt) <;> omega) | ((with_reducible apply cI_ltn) <;> omega) | ((with_reducible apply cI_nlt) <;> omega) | (with_reducible exact cI_lt)) (fun c31 => by exfalso; first | omega | exact absurd trivial c31 | exact c31 | (simp at c31)) (fun c31 => ?_)
        refine g_iconst (v := (-1)) dX11_place_34 (by decide) ?_
        exact g_iret dX11_place_35 rfl (⟨rfl, rfl, rfl, hb, mF2.rf, Or.inr ⟨rfl, sAl.rf⟩⟩)
      · obtain ⟨cn, hcn, rfl⟩ := cI_of (x := c) (n := w * h) (by omega) (by omega) (by omega)
        obtain ⟨xn, hxn, rfl⟩ := cI_of (x := x) (n := 10000) (by omega) (by omega) (by omega)
        have ha := (mG_eq hb.2.2.2.2.1.1 (i := 10) (by decide)).1
        have ans : sp_place w h a (nI cn) (nI xn) = (nI (cnt a 10), upd (upd (upd a (1600 + 2 * cnt a 10) (nI cn)) (1600 + 2 * cnt a 10 + 1) (nI xn)) 10 (nI (cnt a 10 + 1))) := by rw [sp_place, if_pos ⟨v1.1, v1.2, v2, v4⟩, ← ha]
        rw [ans]
        have hi := hb.2.2.2.2
        have ad := c_wadd (J := J) (c := nI cn) (x := nI xn) hP r10 (by omega)
        obtain ⟨x1, x3⟩ := hb.2.1.2.2.2.2.2.2
        generalize hN : cnt a 10 = N at *
        generalize hA : upd (upd (upd a (1600 + 2 * N) (nI cn)) (1600 + 2 * N + 1) (nI xn)) 10 (nI (N + 1)) = A
        have u : ∀ {i}, i ≠ 10 → (i < 1600 + 2 * N ∨ 1600 + 2 * N + 1 < i) → A i = a i := fun e1 e2 => by rw [← hA, updI e1, updI (by omega), updI (by omega)]
        have u9 : A 10 = nI (N + 1) := by rw [← hA, updS]
        have c9 : cnt A 10 = N + 1 := cnt_of u9 (by omega)
        have w0 : A (1600 + 2 * N) = nI cn := by rw [← hA, updI (by omega), updI (by omega), updS]
        have w1 : A (1600 + 2 * N + 1) = nI xn := by rw [← hA, updI (by omega), updS]
        have ga : ∀ lo hi', (hi' ≤ 10 ∨ (11 ≤ lo ∧ hi' ≤ 1600) ∨ 1620 ≤ lo) → ag lo hi' a A := fun lo hi' hz i z1 z2 => u (by omega) (by omega)
        have hg' : mG A := hi.1.1.one (i := 10) (v := N + 1) (by decide) (show N + 1 ≤ 6 by omega) u9 (fun j z1 z2 => u z2 (by omega))
        have hl : mPlaces (w * h) A := fun q hq => by
          rw [c9] at hq
          by_cases e : q = N
          · subst e
            rw [w0, w1]
            exact ⟨⟨cn, hcn, rfl⟩, ⟨xn, by omega, rfl⟩⟩
          · rw [u (i := 1600 + 2 * q) (by omega) (by omega), u (i := 1600 + 2 * q + 1) (by omega) (by omega)]
            exact hi.1.2.2.2.2.2 q (by omega)
        refine pvMet.of _ (by decide) rfl (Nat.le_of_ble_eq_true rfl) ?_
        refine g_aload_n dX11_place_0 rfl ?_
        refine g_iload_n dX11_place_1 rfl ?_
        refine p_callV (ip) okX11_isRoom lkX11_133 rfl (by first | rfl | exact pv_shx) rfl (by omega) (by omega) dX11_place_2 rfl (Nat.le_of_ble_eq_true rfl) (⟨by decide, by decide, by decide, by decide⟩) ?_
        refine n_if_eq 34 dX11_place_5 (by decide) (by first | (with_reducible exact cB _) | ((with_reducible apply cN_eq0) <;> omega) | exact Iff.rfl) (fun c5 => by exfalso; first | omega | exact absurd trivial c5 | exact c5 | (simp at c5)) (fun c5 => ?_)
        refine g_iload_n dX11_place_8 rfl ?_
        refine g_iconst (v := nI 0) dX11_place_9 (by decide) ?_
        refine g_sipush (v := nI 9999) dX11_place_10 (by decide) ?_
        refine p_callS (ix) okX11_within lkX11_85 rfl dX11_place_13 rfl (Nat.le_of_ble_eq_true rfl) (⟨by decide, by decide, by decide, by decide⟩) ?_
        refine n_if_eq 34 dX11_place_16 (by decide) (by first | (with_reducible exact cB _) | ((with_reducible apply cN_eq0) <;> omega) | exact Iff.rfl) (fun c16 => by exfalso; first | omega | exact absurd trivial c16 | exact c16 | (simp at c16)) (fun c16 => ?_)
        refine g_aload_n dX11_place_19 rfl ?_
        refine g_getP dX11_place_20 fdX11_32 rfl (by first | rfl | exact pv_shx) (by omega) (by omega) (by decide) rfl (hP _ _ _ rfl) ?_
        refine g_getP dX11_place_23 fdX11_180 rfl (by first | rfl | exact pv_shx) (by omega) (by omega) (by decide) rfl (hP _ _ _ rfl) ?_
        refine n_getI dX11_place_26 fdX11_391 rfl (by first | rfl | exact pv_shx) (by omega) (by omega) (by decide) rfl (by repeat (first | exact r10 | (apply rd_s; done) | apply rd_n (by omega) | apply rp_s | apply rp_n (by omega) | (apply rdL_s; done) | apply rdL_n (by omega) | apply rpJ_s | apply rpJ_n (by omega) | rfl)) ?_
        refine g_bipush (v := nI 6) dX11_place_29 (by decide) ?_
        refine n_icmp_lt 36 dX11_place_31 (by decide) (by first | ((with_reducible apply cN_lt) <;> omega) | ((with_reducible apply cI_ltn) <;> omega) | ((with_reducible apply cI_nlt) <;> omega) | (with_reducible exact cI_lt)) (fun c31 => ?_) (fun c31 => by exfalso; first | omega | exact absurd trivial c31 | exact c31 | (simp at c31))
        refine g_aload_n dX11_place_36 rfl ?_
        refine g_getP dX11_place_37 fdX11_32 rfl (by first | rfl | exact pv_shx) (by omega) (by omega) (by decide) rfl (hP _ _ _ rfl) ?_
        refine g_getP dX11_place_40 fdX11_180 rfl (by first | rfl | exact pv_shx) (by omega) (by omega) (by decide) rfl (hP _ _ _ rfl) ?_
        refine g_iload_n dX11_place_43 rfl ?_
        refine g_iload_n dX11_place_44 rfl ?_
        refine g_callV (ad) okX8_add lkX11_394 rfl (by first | rfl | exact pv_shx) rfl (by omega) (by omega) dX11_place_45 rfl (Nat.le_of_ble_eq_true rfl) (⟨by decide, by decide, by decide, by decide⟩) ?_
        rintro v nx' I' J' P' ⟨rfl, rfl, rfl, rfl, e44, e45, e43, e43b, he⟩
        have ht : rWal 3 A I' := by
          refine ⟨?_, ?_⟩
          · show I' 43 0 = _
            rw [e43, u9]
          · intro q hq
            rw [c9] at hq
            show I' 44 q = _ ∧ I' 45 q = _
            rw [e44, e45]
            by_cases e : q = N
            · subst e
              rw [updS, updS, w0, w1]
              exact ⟨rfl, rfl⟩
            · rw [updI e, updI e, u (i := 1600 + 2 * q) (by omega) (by omega), u (i := 1600 + 2 * q + 1) (by omega) (by omega)]
              exact x3 q (by omega)
        have fin := hb.wal (I' := I') he (ga _ _ (by omega)) (ga _ _ (by omega)) (ga _ _ (by omega)) (ga _ _ (by omega)) ht hg' hl
        exact g_iret dX11_place_48 rfl (⟨rfl, rfl, rfl, fin, fun z hz => ⟨he z (by omega), rfl⟩, Or.inl e43b⟩)
    · rw [if_neg v2] at ix
      have ans : sp_place w h a c x = (-1, a) := by rw [sp_place, if_neg (fun z => v2 z.2.2.1)]
      rw [ans]
      refine pvMet.of _ (by decide) rfl (Nat.le_of_ble_eq_true rfl) ?_
      refine g_aload_n dX11_place_0 rfl ?_
      refine g_iload_n dX11_place_1 rfl ?_
      refine p_callV (ip) okX11_isRoom lkX11_133 rfl (by first | rfl | exact pv_shx) rfl (by omega) (by omega) dX11_place_2 rfl (Nat.le_of_ble_eq_true rfl) (⟨by decide, by decide, by decide, by decide⟩) ?_
      refine n_if_eq 34 dX11_place_5 (by decide) (by first | (with_reducible exact cB _) | ((with_reducible apply cN_eq0) <;> omega) | exact Iff.rfl) (fun c5 => by exfalso; first | omega | exact absurd trivial c5 | exact c5 | (simp at c5)) (fun c5 => ?_)
      refine g_iload_n dX11_place_8 rfl ?_
      refine g_iconst (v := nI 0) dX11_place_9 (by decide) ?_
      refine g_sipush (v := nI 9999) dX11_place_10 (by decide) ?_
      refine p_callS (ix) okX11_within lkX11_85 rfl dX11_place_13 rfl (Nat.le_of_ble_eq_true rfl) (⟨by decide, by decide, by decide, by decide⟩) ?_
      refine n_if_eq 34 dX11_place_16 (by decide) (by first | (with_reducible exact cB _) | ((with_reducible apply cN_eq0) <;> omega) | exact Iff.rfl) (fun c16 => ?_) (fun c16 => by exfalso; first | omega | exact absurd trivial c16 | exact c16 | (simp at c16))
      refine g_iconst (v := (-1)) dX11_place_34 (by decide) ?_
      exact g_iret dX11_place_35 rfl (⟨rfl, rfl, rfl, hb, mF2.rf, Or.inr ⟨rfl, sAl.rf⟩⟩)
  · rw [if_neg v1] at ip
    have ans : sp_place w h a c x = (-1, a) := by rw [sp_place, if_neg (fun z => v1 ⟨z.1, z.2.1⟩)]
    rw [ans]
    refine pvMet.of _ (by decide) rfl (Nat.le_of_ble_eq_true rfl) ?_
    refine g_aload_n dX11_place_0 rfl ?_
    refine g_iload_n dX11_place_1 rfl ?_
    refine p_callV (ip) okX11_isRoom lkX11_133 rfl (by first | rfl | exact pv_shx) rfl (by omega) (by omega) dX11_place_2 rfl (Nat.le_of_ble_eq_true rfl) (⟨by decide, by decide, by decide, by decide⟩) ?_
    refine n_if_eq 34 dX11_place_5 (by decide) (by first | (with_reducible exact cB _) | ((with_reducible apply cN_eq0) <;> omega) | exact Iff.rfl) (fun c5 => ?_) (fun c5 => by exfalso; first | omega | exact absurd trivial c5 | exact c5 | (simp at c5))
    refine g_iconst (v := (-1)) dX11_place_34 (by decide) ?_
    exact g_iret dX11_place_35 rfl (⟨rfl, rfl, rfl, hb, mF2.rf, Or.inr ⟨rfl, sAl.rf⟩⟩)
end LAW
