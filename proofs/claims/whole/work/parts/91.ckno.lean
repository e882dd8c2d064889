/-! class: read, state -/
section KNO
variable {w h : Nat} {a a' : Nat → Int32} {I I' : pvI} {J : pvJ} {P : pvP}
theorem kB.kno (hb : kB w h a I J) (hI : ∀ x, (x < 20 ∨ 26 < x) → x ≠ 43 → (x < 90 ∨ 138 ≤ x) → I' x = I x) (h43 : I' 43 0 = I 43 0) (h0 : ag 0 3 a a') (h5 : ag 5 16 a a') (h2 : ag 20 260 a a') (h3 : ag 1080 8020 a a') (ht : rKno 3 a' I') (hg' : mG a') (hs : mStates (w * h) a') (hl : mRead (w * h) a') (hah : mAh a') (hf' : rFir w h a' I' J) : kB w h a' I' J := by
  obtain ⟨hg, ⟨r0, r1, r2, r3, r4, r5, r6⟩, hf, htr, ⟨⟨i1, i2, i3, i4, i5, i6⟩, i7, i8, i9, i10, ⟨i11, i12⟩, i13⟩⟩ := id hb
  have hwh := hg.wh
  have s11 : ag 11 14 a a' := h5.sub (by omega) (by omega)
  have sp : ag 1620 8020 a a' := h3.sub (by omega) (by omega)
  refine ⟨hg.mv (hI 2 (by omega) (by omega) (by omega)) rfl, ⟨?_, ?_, ?_, ht, ?_, ?_, ?_⟩, hf', htr.mv (hI 138 (by omega) (by omega) (by omega)) rfl, ⟨⟨hg', i2.fr (h2.sub (by omega) (by omega)) sp, hs, i4.fr i1 (h0.sub (by omega) (by omega)) (h2.sub (by omega) (by omega)), i5.fr i1 (h0.sub (by omega) (by omega)) (h2.sub (by omega) (by omega)), i6.fr i1 (h5.sub (by omega) (by omega)) (h3.sub (by omega) (by omega))⟩, hl, i8.fr hg' (h5.sub (by omega) (by omega)) (h3.sub (by omega) (by omega)), i9.fr sp, i10.fr i1 (h5.sub (by omega) (by omega)) (h3.sub (by omega) (by omega)), ⟨i11.fr (h5.sub (by omega) (by omega)) (h2.sub (by omega) (by omega)), i12.fr (h2.sub (by omega) (by omega))⟩, hah⟩⟩
  · rw [hI 3 (by omega) (by omega) (by omega), h0 0 (by omega) (by omega)]; exact r0
  · exact (r1.fr s11 (h5.sub (by omega) (by omega)) (h2.sub (by omega) (by omega)) sp hwh.2).mv (fun x z1 z2 => hI x (by omega) (by omega) (by omega)) (fun _ _ _ => rfl)
  · exact (r2.fr i1 (h0.sub (by omega) (by omega)) (h2.sub (by omega) (by omega))).mv (fun x z1 z2 => hI x (by omega) (by omega) (by omega)) (fun _ _ _ => rfl)
  · exact (r4.fr i1 (h5.sub (by omega) (by omega)) (h5.sub (by omega) (by omega)) (h3.sub (by omega) (by omega))).mv (fun x z1 z2 => hI x (by omega) (by omega) (by omega))
  · exact (r5.fr i1 (h5.sub (by omega) (by omega)) (h3.sub (by omega) (by omega))).mv (fun x z1 z2 => hI x (by omega) (by omega) (by omega))
  · exact (r6.fr i1 (h5.sub (by omega) (by omega)) (h3.sub (by omega) (by omega))).mv (fun x z1 z2 => hI x (by omega) (by omega) (by omega)) h43
theorem kB.n4 (hb : kB w h a I J) : cnt a 4 ≤ 200 ∧ I 20 3 = nI (cnt a 4) := by
  obtain ⟨k3, k3b, -⟩ := mG_eq hb.2.2.2.2.1.1 (i := 4) (by decide)
  exact ⟨k3b, by rw [hb.2.1.2.2.2.1.2.2.1]; exact k3⟩
theorem c_addReading {n : Nat} {c m b t : Int32} (hP : pvOkP P) (hn : I 20 3 = nI n) (hn2 : n < 200) : pvMet mX4_addReading 0 0 0 [.ref 20, .int c, .int m, .int b, .int t] 224 I J P (pvq P (fun v I' J' => v = none ∧ J' = J ∧ I' 23 = upd (I 23) n c ∧ I' 24 = upd (I 24) n m ∧ I' 25 = upd (I 25) n (if b = 0 then nI 0 else nI 1) ∧ I' 26 = upd (I 26) n t ∧ I' 20 = upd (I 20) 3 (nI (n + 1)) ∧ ∀ z, z < 20 ∨ (20 < z ∧ z < 23) ∨ 26 < z → I' z = I z)) := by
  by_cases hb : b = 0
  · rw [if_pos hb]
    refine pvMet.of _ (by decide) rfl (Nat.le_of_ble_eq_true rfl) ?_
    refine g_aload_n dX4_addReading_0 rfl ?_
    refine g_getP dX4_addReading_1 fdX4_18 rfl (by first | rfl | exact pv_shx) (by omega) (by omega) (by decide) rfl (hP _ _ _ rfl) ?_
    refine g_aload_n dX4_addReading_4 rfl ?_
    refine n_getI dX4_addReading_5 fdX4_40 rfl (by first | rfl | exact pv_shx) (by omega) (by omega) (by decide) rfl (by repeat (first | exact hn | (apply rd_s; done) | apply rd_n (by omega) | apply rp_s | apply rp_n (by omega) | (apply rdL_s; done) | apply rdL_n (by omega) | apply rpJ_s | apply rpJ_n (by omega) | rfl)) ?_
    refine g_iload_n dX4_addReading_8 rfl ?_
    refine n_iast dX4_addReading_9 (by first | rfl | exact pv_shx) (by omega) (by omega) (by omega) (by decide) (rfl) (by omega) (by repeat (first | exact pvu_s | exact pvuJ_s | apply pvu_in (by omega) | apply pvuJ_in (by omega) | exact pvu_pvs | exact pvuJ_pvs)) ?_
    refine g_aload_n dX4_addReading_10 rfl ?_
    refine g_getP dX4_addReading_11 fdX4_21 rfl (by first | rfl | exact pv_shx) (by omega) (by omega) (by decide) rfl (hP _ _ _ rfl) ?_
    refine g_aload_n dX4_addReading_14 rfl ?_
    refine n_getI dX4_addReading_15 fdX4_40 rfl (by first | rfl | exact pv_shx) (by omega) (by omega) (by decide) rfl (by repeat (first | exact hn | (apply rd_s; done) | apply rd_n (by omega) | apply rp_s | apply rp_n (by omega) | (apply rdL_s; done) | apply rdL_n (by omega) | apply rpJ_s | apply rpJ_n (by omega) | rfl)) ?_
    refine g_iload_n dX4_addReading_18 rfl ?_
    refine n_iast dX4_addReading_19 (by first | rfl | exact pv_shx) (by omega) (by omega) (by omega) (by decide) (rfl) (by omega) (by repeat (first | exact pvu_s | exact pvuJ_s | apply pvu_in (by omega) | apply pvuJ_in (by omega) | exact pvu_pvs | exact pvuJ_pvs)) ?_
    refine g_aload_n dX4_addReading_20 rfl ?_
    refine g_getP dX4_addReading_21 fdX4_24 rfl (by first | rfl | exact pv_shx) (by omega) (by omega) (by decide) rfl (hP _ _ _ rfl) ?_
    refine g_aload_n dX4_addReading_24 rfl ?_
    refine n_getI dX4_addReading_25 fdX4_40 rfl (by first | rfl | exact pv_shx) (by omega) (by omega) (by decide) rfl (by repeat (first | exact hn | (apply rd_s; done) | apply rd_n (by omega) | apply rp_s | apply rp_n (by omega) | (apply rdL_s; done) | apply rdL_n (by omega) | apply rpJ_s | apply rpJ_n (by omega) | rfl)) ?_
    refine g_iload_n dX4_addReading_28 rfl ?_
    refine n_if_eq 36 dX4_addReading_29 (by decide) (Iff.rfl) (fun c29 => ?_) (fun c29 => by exfalso; exact c29 hb)
    refine g_iconst (v := nI 0) dX4_addReading_36 (by decide) ?_
    refine n_iast dX4_addReading_37 (by first | rfl | exact pv_shx) (by omega) (by omega) (by omega) (by decide) (rfl) (by omega) (by repeat (first | exact pvu_s | exact pvuJ_s | apply pvu_in (by omega) | apply pvuJ_in (by omega) | exact pvu_pvs | exact pvuJ_pvs)) ?_
    refine g_aload_n dX4_addReading_38 rfl ?_
    refine g_getP dX4_addReading_39 fdX4_27 rfl (by first | rfl | exact pv_shx) (by omega) (by omega) (by decide) rfl (hP _ _ _ rfl) ?_
    refine g_aload_n dX4_addReading_42 rfl ?_
    refine n_getI dX4_addReading_43 fdX4_40 rfl (by first | rfl | exact pv_shx) (by omega) (by omega) (by decide) rfl (by repeat (first | exact hn | (apply rd_s; done) | apply rd_n (by omega) | apply rp_s | apply rp_n (by omega) | (apply rdL_s; done) | apply rdL_n (by omega) | apply rpJ_s | apply rpJ_n (by omega) | rfl)) ?_
    refine g_iload dX4_addReading_46 rfl ?_
    refine n_iast dX4_addReading_48 (by first | rfl | exact pv_shx) (by omega) (by omega) (by omega) (by decide) (rfl) (by omega) (by repeat (first | exact pvu_s | exact pvuJ_s | apply pvu_in (by omega) | apply pvuJ_in (by omega) | exact pvu_pvs | exact pvuJ_pvs)) ?_
    refine g_aload_n dX4_addReading_49 rfl ?_
    refine g_dup dX4_addReading_50 rfl ?_
    refine n_getI dX4_addReading_51 fdX4_40 rfl (by first | rfl | exact pv_shx) (by omega) (by omega) (by decide) rfl (by repeat (first | exact hn | (apply rd_s; done) | apply rd_n (by omega) | apply rp_s | apply rp_n (by omega) | (apply rdL_s; done) | apply rdL_n (by omega) | apply rpJ_s | apply rpJ_n (by omega) | rfl)) ?_
    refine g_iconst (v := nI 1) dX4_addReading_54 (by decide) ?_
    refine n_iadd dX4_addReading_55 (by first | (with_reducible exact nI_add _ _) | rfl) ?_
    refine n_putI dX4_addReading_56 fdX4_40 rfl (fun h => absurd h (by decide)) (by first | rfl | exact pv_shx) (by omega) (by omega) (by decide) rfl (by repeat (first | exact pvu_s | exact pvuJ_s | apply pvu_in (by omega) | apply pvuJ_in (by omega) | exact pvu_pvs | exact pvuJ_pvs)) ?_
    exact g_vret dX4_addReading_59 rfl (⟨rfl, rfl, rfl, rfl, by simp [pvs], by simp [pvs], by simp [pvs], by simp [pvs], by simp [pvs], fun z hz => by repeat (rw [pvs_ne (by omega)])⟩)
  · rw [if_neg hb]
    refine pvMet.of _ (by decide) rfl (Nat.le_of_ble_eq_true rfl) ?_
    refine g_aload_n dX4_addReading_0 rfl ?_
    refine g_getP dX4_addReading_1 fdX4_18 rfl (by first | rfl | exact pv_shx) (by omega) (by omega) (by decide) rfl (hP _ _ _ rfl) ?_
    refine g_aload_n dX4_addReading_4 rfl ?_
    refine n_getI dX4_addReading_5 fdX4_40 rfl (by first | rfl | exact pv_shx) (by omega) (by omega) (by decide) rfl (by repeat (first | exact hn | (apply rd_s; done) | apply rd_n (by omega) | apply rp_s | apply rp_n (by omega) | (apply rdL_s; done) | apply rdL_n (by omega) | apply rpJ_s | apply rpJ_n (by omega) | rfl)) ?_
    refine g_iload_n dX4_addReading_8 rfl ?_
    refine n_iast dX4_addReading_9 (by first | rfl | exact pv_shx) (by omega) (by omega) (by omega) (by decide) (rfl) (by omega) (by repeat (first | exact pvu_s | exact pvuJ_s | apply pvu_in (by omega) | apply pvuJ_in (by omega) | exact pvu_pvs | exact pvuJ_pvs)) ?_
    refine g_aload_n dX4_addReading_10 rfl ?_
    refine g_getP dX4_addReading_11 fdX4_21 rfl (by first | rfl | exact pv_shx) (by omega) (by omega) (by decide) rfl (hP _ _ _ rfl) ?_
    refine g_aload_n dX4_addReading_14 rfl ?_
    refine n_getI dX4_addReading_15 fdX4_40 rfl (by first | rfl | exact pv_shx) (by omega) (by omega) (by decide) rfl (by repeat (first | exact hn | (apply rd_s; done) | apply rd_n (by omega) | apply rp_s | apply rp_n (by omega) | (apply rdL_s; done) | apply rdL_n (by omega) | apply rpJ_s | apply rpJ_n (by omega) | rfl)) ?_
    refine g_iload_n dX4_addReading_18 rfl ?_
    refine n_iast dX4_addReading_19 (by first | rfl | exact pv_shx) (by omega) (by omega) (by omega) (by decide) (rfl) (by omega) (by repeat (first | exact pvu_s | exact pvuJ_s | apply pvu_in (by omega) | apply pvuJ_in (by omega) | exact pvu_pvs | exact pvuJ_pvs)) ?_
    refine g_aload_n dX4_addReading_20 rfl ?_
    refine g_getP dX4_addReading_21 fdX4_24 rfl (by first | rfl | exact pv_shx) (by omega) (by omega) (by decide) rfl (hP _ _ _ rfl) ?_
    refine g_aload_n dX4_addReading_24 rfl ?_
    refine n_getI dX4_addReading_25 fdX4_40 rfl (by first | rfl | exact pv_shx) (by omega) (by omega) (by decide) rfl (by repeat (first | exact hn | (apply rd_s; done) | apply rd_n (by omega) | apply rp_s | apply rp_n (by omega) | (apply rdL_s; done) | apply rdL_n (by omega) | apply rpJ_s | apply rpJ_n (by omega) | rfl)) ?_
    refine g_iload_n dX4_addReading_28 rfl ?_
    refine n_if_eq 36 dX4_addReading_29 (by decide) (Iff.rfl) (fun c29 => by exfalso; exact hb c29) (fun c29 => ?_)
    refine g_iconst (v := nI 1) dX4_addReading_32 (by decide) ?_
    refine g_goto 37 dX4_addReading_33 (by decide) ?_
    refine n_iast dX4_addReading_37 (by first | rfl | exact pv_shx) (by omega) (by omega) (by omega) (by decide) (rfl) (by omega) (by repeat (first | exact pvu_s | exact pvuJ_s | apply pvu_in (by omega) | apply pvuJ_in (by omega) | exact pvu_pvs | exact pvuJ_pvs)) ?_
    refine g_aload_n dX4_addReading_38 rfl ?_
    refine g_getP dX4_addReading_39 fdX4_27 rfl (by first | rfl | exact pv_shx) (by omega) (by omega) (by decide) rfl (hP _ _ _ rfl) ?_
    refine g_aload_n dX4_addReading_42 rfl ?_
    refine n_getI dX4_addReading_43 fdX4_40 rfl (by first | rfl | exact pv_shx) (by omega) (by omega) (by decide) rfl (by repeat (first | exact hn | (apply rd_s; done) | apply rd_n (by omega) | apply rp_s | apply rp_n (by omega) | (apply rdL_s; done) | apply rdL_n (by omega) | apply rpJ_s | apply rpJ_n (by omega) | rfl)) ?_
    refine g_iload dX4_addReading_46 rfl ?_
    refine n_iast dX4_addReading_48 (by first | rfl | exact pv_shx) (by omega) (by omega) (by omega) (by decide) (rfl) (by omega) (by repeat (first | exact pvu_s | exact pvuJ_s | apply pvu_in (by omega) | apply pvuJ_in (by omega) | exact pvu_pvs | exact pvuJ_pvs)) ?_
    refine g_aload_n dX4_addReading_49 rfl ?_
    refine g_dup dX4_addReading_50 rfl ?_
    refine n_getI dX4_addReading_51 fdX4_40 rfl (by first | rfl | exact pv_shx) (by omega) (by omega) (by decide) rfl (by repeat (first | exact hn | (apply rd_s; done) | apply rd_n (by omega) | apply rp_s | apply rp_n (by omega) | (apply rdL_s; done) | apply rdL_n (by omega) | apply rpJ_s | apply rpJ_n (by omega) | rfl)) ?_
    refine g_iconst (v := nI 1) dX4_addReading_54 (by decide) ?_
    refine n_iadd dX4_addReading_55 (by first | (with_reducible exact nI_add _ _) | rfl) ?_
    refine n_putI dX4_addReading_56 fdX4_40 rfl (fun h => absurd h (by decide)) (by first | rfl | exact pv_shx) (by omega) (by omega) (by decide) rfl (by repeat (first | exact pvu_s | exact pvuJ_s | apply pvu_in (by omega) | apply pvuJ_in (by omega) | exact pvu_pvs | exact pvuJ_pvs)) ?_
    exact g_vret dX4_addReading_59 rfl (⟨rfl, rfl, rfl, rfl, by simp [pvs], by simp [pvs], by simp [pvs], by simp [pvs], by simp [pvs], fun z hz => by repeat (rw [pvs_ne (by omega)])⟩)
theorem c_read {c m b : Int32} (hP : pvOkP P) (hb : kB w h a I J) : pvMet mX11_read 2 0 0 [.ref 1, .int c, .int m, .int b] 224 I J P (mtQ w h a I J P (sp_read w h a c m b)) := by
  obtain ⟨n4, r4⟩ := hb.n4
  obtain ⟨n0, r0⟩ := hb.n0
  have n3 := hb.n3.1
  have hwh := hb.1.wh
  have ip := c_has (v := c) (P := P) hb.1
  have iw := c_isWeek (nx := 224) (v := m) (I := I) (J := J) (P := P)
  by_cases v1 : 0 ≤ c.toInt ∧ c.toInt < w * h
  · rw [if_pos v1] at ip
    by_cases v2 : 0 ≤ m.toInt ∧ m.toInt ≤ 99
    · rw [if_pos v2] at iw
      obtain ⟨cn, hcn, rfl⟩ := cI_of (x := c) (n := w * h) (by omega) (by omega) (by omega)
      obtain ⟨mn, hmn, rfl⟩ := cI_of (x := m) (n := 100) (by omega) (by omega) (by omega)
      have em : (nI mn).toInt = mn := nI_toInt (by omega)
      by_cases v3 : mn ≤ cnt a 0
      · by_cases v4 : cnt a 4 = 200
        · have ans : sp_read w h a (nI cn) (nI mn) b = (-1, a) := by rw [sp_read, if_neg (fun z => z.2.2.2 v4)]
          rw [ans]
          refine pvMet.of _ (by decide) rfl (Nat.le_of_ble_eq_true rfl) ?_
          refine g_aload_n dX11_read_0 rfl ?_
          refine g_getP dX11_read_1 fdX11_21 rfl (by first | rfl | exact pv_shx) (by omega) (by omega) (by decide) rfl (hP _ _ _ rfl) ?_
          refine g_iload_n dX11_read_4 rfl ?_
          refine p_callV (ip) okX2_has lkX11_81 rfl (by first | rfl | exact pv_shx) rfl (by omega) (by omega) dX11_read_5 rfl (Nat.le_of_ble_eq_true rfl) (⟨by decide, by decide, by decide, by decide⟩) ?_
          refine n_if_eq 45 dX11_read_8 (by decide) (by first | (with_reducible exact cB _) | ((with_reducible apply cN_eq0) <;> omega) | exact Iff.rfl) (fun c8 => by exfalso; first | omega | exact absurd trivial c8 | exact c8 | (simp at c8)) (fun c8 => ?_)
          refine g_iload_n dX11_read_11 rfl ?_
          refine p_callS (iw) okX11_isWeek lkX11_160 rfl dX11_read_12 rfl (Nat.le_of_ble_eq_true rfl) (⟨by decide, by decide, by decide, by decide⟩) ?_
          refine n_if_eq 45 dX11_read_15 (by decide) (by first | (with_reducible exact cB _) | ((with_reducible apply cN_eq0) <;> omega) | exact Iff.rfl) (fun c15 => by exfalso; first | omega | exact absurd trivial c15 | exact c15 | (simp at c15)) (fun c15 => ?_)
          refine g_iload_n dX11_read_18 rfl ?_
          refine g_aload_n dX11_read_19 rfl ?_
          refine g_getP dX11_read_20 fdX11_32 rfl (by first | rfl | exact pv_shx) (by omega) (by omega) (by decide) rfl (hP _ _ _ rfl) ?_
          refine n_getI dX11_read_23 fdX11_77 rfl (by first | rfl | exact pv_shx) (by omega) (by omega) (by decide) rfl (by repeat (first | exact r0 | exact r4 | (apply rd_s; done) | apply rd_n (by omega) | apply rp_s | apply rp_n (by omega) | (apply rdL_s; done) | apply rdL_n (by omega) | apply rpJ_s | apply rpJ_n (by omega) | rfl)) ?_
          refine n_icmp_gt 45 dX11_read_26 (by decide) (by first | ((with_reducible apply cN_lt) <;> omega) | ((with_reducible apply cI_ltn) <;> omega) | ((with_reducible apply cI_nlt) <;> omega) | (with_reducible exact cI_lt)) (fun c26 => by exfalso; first | omega | exact absurd trivial c26 | exact c26 | (simp at c26)) (fun c26 => ?_)
          refine g_aload_n dX11_read_29 rfl ?_
          refine g_getP dX11_read_30 fdX11_32 rfl (by first | rfl | exact pv_shx) (by omega) (by omega) (by decide) rfl (hP _ _ _ rfl) ?_
          refine g_getP dX11_read_33 fdX11_163 rfl (by first | rfl | exact pv_shx) (by omega) (by omega) (by decide) rfl (hP _ _ _ rfl) ?_
          refine n_getI dX11_read_36 fdX11_255 rfl (by first | rfl | exact pv_shx) (by omega) (by omega) (by decide) rfl (by repeat (first | exact r0 | exact r4 | (apply rd_s; done) | apply rd_n (by omega) | apply rp_s | apply rp_n (by omega) | (apply rdL_s; done) | apply rdL_n (by omega) | apply rpJ_s | apply rpJ_n (by omega) | rfl)) ?_
          refine g_sipush (v := nI 200) dX11_read_39 (by decide) ?_
          refine n_icmp_lt 47 dX11_read_42 (by decide) (by first | ((with_reducible apply cN_lt) <;> omega) | ((with_reducible apply cI_ltn) <;> omega) | ((with_reducible apply cI_nlt) <;> omega) | (with_reducible exact cI_lt)) (fun c42 => by exfalso; first | omega | exact absurd trivial c42 | exact c42 | (simp at c42)) (fun c42 => ?_)
          refine g_iconst (v := (-1)) dX11_read_45 (by decide) ?_
          exact g_iret dX11_read_46 rfl (⟨rfl, rfl, rfl, hb, mF2.rf, Or.inr ⟨rfl, sAl.rf⟩⟩)
        · have ha0 := (mG_eq hb.2.2.2.2.1.1 (i := 0) (by decide)).1
          have ans : sp_read w h a (nI cn) (nI mn) b = (nI (cnt a 4 + 1), upd (upd (upd (upd (upd a (280 + 4 * cnt a 4) (nI cn)) (280 + 4 * cnt a 4 + 1) (nI mn)) (280 + 4 * cnt a 4 + 2) (if b = 0 then nI 0 else nI 1)) (280 + 4 * cnt a 4 + 3) (a 0)) 4 (nI (cnt a 4 + 1))) := by rw [sp_read, if_pos ⟨v1, v2, by omega, v4⟩]
          rw [ans]
          have hi := hb.2.2.2.2
          have ad := c_addReading (J := J) (c := nI cn) (m := nI mn) (b := b) (t := nI (cnt a 0)) hP r4 (by omega)
          obtain ⟨x1, x2, x3, x4⟩ := hb.2.1.2.2.2.1
          have hrd := hi.2.1
          have hah0 : mAh a := hi.2.2.2.2.2.2
          generalize hN : cnt a 4 = N at *
          generalize hA : upd (upd (upd (upd (upd a (280 + 4 * N) (nI cn)) (280 + 4 * N + 1) (nI mn)) (280 + 4 * N + 2) (if b = 0 then nI 0 else nI 1)) (280 + 4 * N + 3) (a 0)) 4 (nI (N + 1)) = A
          have u : ∀ {i}, i ≠ 4 → (i < 280 + 4 * N ∨ 280 + 4 * N + 3 < i) → A i = a i := fun e1 e2 => by rw [← hA, updI e1, updI (by omega), updI (by omega), updI (by omega), updI (by omega)]
          have uc : ∀ {i}, i ≠ 4 → (i < 280 + 4 * N ∨ 280 + 4 * N + 3 < i) → cnt A i = cnt a i := fun e1 e2 => by unfold cnt; rw [u e1 e2]
          have u4 : A 4 = nI (N + 1) := by rw [← hA, updS]
          have c4 : cnt A 4 = N + 1 := cnt_of u4 (by omega)
          have w0 : A (280 + 4 * N) = nI cn := by rw [← hA, updI (by omega), updI (by omega), updI (by omega), updI (by omega), updS]
          have w1 : A (280 + 4 * N + 1) = nI mn := by rw [← hA, updI (by omega), updI (by omega), updI (by omega), updS]
          have w2 : A (280 + 4 * N + 2) = (if b = 0 then nI 0 else nI 1) := by rw [← hA, updI (by omega), updI (by omega), updS]
          have w3 : A (280 + 4 * N + 3) = a 0 := by rw [← hA, updI (by omega), updS]
          have ga : ∀ lo hi', (hi' ≤ 4 ∨ (5 ≤ lo ∧ hi' ≤ 280) ∨ 1080 ≤ lo) → ag lo hi' a A := fun lo hi' hz i z1 z2 => u (by omega) (by omega)
          have hg' : mG A := hi.1.1.one (i := 4) (v := N + 1) (by decide) (show N + 1 ≤ 200 by omega) u4 (fun j z1 z2 => u z2 (by omega))
          have hl : mRead (w * h) A := fun q hq => by
            rw [c4] at hq
            by_cases e : q = N
            · subst e
              rw [w0, w1, w2, w3]
              refine ⟨⟨cn, hcn, rfl⟩, ⟨mn, by omega, rfl⟩, ?_, ⟨cnt a 0, n0, ha0⟩⟩
              split
              · exact ⟨0, by omega, rfl⟩
              · exact ⟨1, by omega, rfl⟩
            · rw [u (i := 280 + 4 * q) (by omega) (by omega), u (i := 280 + 4 * q + 1) (by omega) (by omega), u (i := 280 + 4 * q + 2) (by omega) (by omega), u (i := 280 + 4 * q + 3) (by omega) (by omega)]
              exact hrd q (by omega)
          have hah : mAh A := by
            refine ⟨fun m' c' z1 z2 z3 => ?_, fun q hq => ?_⟩
            · rw [uc (by omega) (by omega)] at z1
              rw [uc (by omega) (by omega)]
              exact hah0.1 m' c' z1 z2 z3
            · rw [c4] at hq
              rw [uc (i := 0) (by omega) (by omega)]
              by_cases e : q = N
              · subst e
                rw [cnt_of w1 (by omega)]; exact v3
              · rw [uc (by omega) (by omega)]
                exact hah0.2 q (by omega)
          refine pvMet.of _ (by decide) rfl (Nat.le_of_ble_eq_true rfl) ?_
          refine g_aload_n dX11_read_0 rfl ?_
          refine g_getP dX11_read_1 fdX11_21 rfl (by first | rfl | exact pv_shx) (by omega) (by omega) (by decide) rfl (hP _ _ _ rfl) ?_
          refine g_iload_n dX11_read_4 rfl ?_
          refine p_callV (ip) okX2_has lkX11_81 rfl (by first | rfl | exact pv_shx) rfl (by omega) (by omega) dX11_read_5 rfl (Nat.le_of_ble_eq_true rfl) (⟨by decide, by decide, by decide, by decide⟩) ?_
          refine n_if_eq 45 dX11_read_8 (by decide) (by first | (with_reducible exact cB _) | ((with_reducible apply cN_eq0) <;> omega) | exact Iff.rfl) (fun c8 => by exfalso; first | omega | exact absurd trivial c8 | exact c8 | (simp at c8)) (fun c8 => ?_)
          refine g_iload_n dX11_read_11 rfl ?_
          refine p_callS (iw) okX11_isWeek lkX11_160 rfl dX11_read_12 rfl (Nat.le_of_ble_eq_true rfl) (⟨by decide, by decide, by decide, by decide⟩) ?_
          refine n_if_eq 45 dX11_read_15 (by decide) (by first | (with_reducible exact cB _) | ((with_reducible apply cN_eq0) <;> omega) | exact Iff.rfl) (fun c15 => by exfalso; first | omega | exact absurd trivial c15 | exact c15 | (simp at c15)) (fun c15 => ?_)
          refine g_iload_n dX11_read_18 rfl ?_
          refine g_aload_n dX11_read_19 rfl ?_
          refine g_getP dX11_read_20 fdX11_32 rfl (by first | rfl | exact pv_shx) (by omega) (by omega) (by decide) rfl (hP _ _ _ rfl) ?_
          refine n_getI dX11_read_23 fdX11_77 rfl (by first | rfl | exact pv_shx) (by omega) (by omega) (by decide) rfl (by repeat (first | exact r0 | exact r4 | (apply rd_s; done) | apply rd_n (by omega) | apply rp_s | apply rp_n (by omega) | (apply rdL_s; done) | apply rdL_n (by omega) | apply rpJ_s | apply rpJ_n (by omega) | rfl)) ?_
          refine n_icmp_gt 45 dX11_read_26 (by decide) (by first | ((with_reducible apply cN_lt) <;> omega) | ((with_reducible apply cI_ltn) <;> omega) | ((with_reducible apply cI_nlt) <;> omega) | (with_reducible exact cI_lt)) (fun c26 => by exfalso; first | omega | exact absurd trivial c26 | exact c26 | (simp at c26)) (fun c26 => ?_)
          refine g_aload_n dX11_read_29 rfl ?_
          refine g_getP dX11_read_30 fdX11_32 rfl (by first | rfl | exact pv_shx) (by omega) (by omega) (by decide) rfl (hP _ _ _ rfl) ?_
          refine g_getP dX11_read_33 fdX11_163 rfl (by first | rfl | exact pv_shx) (by omega) (by omega) (by decide) rfl (hP _ _ _ rfl) ?_
          refine n_getI dX11_read_36 fdX11_255 rfl (by first | rfl | exact pv_shx) (by omega) (by omega) (by decide) rfl (by repeat (first | exact r0 | exact r4 | (apply rd_s; done) | apply rd_n (by omega) | apply rp_s | apply rp_n (by omega) | (apply rdL_s; done) | apply rdL_n (by omega) | apply rpJ_s | apply rpJ_n (by omega) | rfl)) ?_
          refine g_sipush (v := nI 200) dX11_read_39 (by decide) ?_
          refine n_icmp_lt 47 dX11_read_42 (by decide) (by first | ((with_reducible apply cN_lt) <;> omega) | ((with_reducible apply cI_ltn) <;> omega) | ((with_reducible apply cI_nlt) <;> omega) | (with_reducible exact cI_lt)) (fun c42 => ?_) (fun c42 => by exfalso; first | omega | exact absurd trivial c42 | exact c42 | (simp at c42))
          refine g_aload_n dX11_read_47 rfl ?_
          refine g_getP dX11_read_48 fdX11_32 rfl (by first | rfl | exact pv_shx) (by omega) (by omega) (by decide) rfl (hP _ _ _ rfl) ?_
          refine g_getP dX11_read_51 fdX11_163 rfl (by first | rfl | exact pv_shx) (by omega) (by omega) (by decide) rfl (hP _ _ _ rfl) ?_
          refine g_iload_n dX11_read_54 rfl ?_
          refine g_iload_n dX11_read_55 rfl ?_
          refine g_iload_n dX11_read_56 rfl ?_
          refine g_aload_n dX11_read_57 rfl ?_
          refine g_getP dX11_read_58 fdX11_32 rfl (by first | rfl | exact pv_shx) (by omega) (by omega) (by decide) rfl (hP _ _ _ rfl) ?_
          refine n_getI dX11_read_61 fdX11_77 rfl (by first | rfl | exact pv_shx) (by omega) (by omega) (by decide) rfl (by repeat (first | exact r0 | exact r4 | (apply rd_s; done) | apply rd_n (by omega) | apply rp_s | apply rp_n (by omega) | (apply rdL_s; done) | apply rdL_n (by omega) | apply rpJ_s | apply rpJ_n (by omega) | rfl)) ?_
          refine g_callV (ad) okX4_addReading lkX11_258 rfl (by first | rfl | exact pv_shx) rfl (by omega) (by omega) dX11_read_64 rfl (Nat.le_of_ble_eq_true rfl) (⟨by decide, by decide, by decide, by decide⟩) ?_
          rintro v nx' I1 J1 P' ⟨rfl, rfl, rfl, rfl, e23, e24, e25, e26, e20, he⟩
          have e203 : I1 20 3 = nI (N + 1) := by rw [e20, updS]
          have wf := c_wforget (I := I1) (J := J1) hP
          refine g_aload_n dX11_read_67 rfl ?_
          refine g_getP dX11_read_68 fdX11_32 rfl (by first | rfl | exact pv_shx) (by omega) (by omega) (by decide) rfl (hP _ _ _ rfl) ?_
          refine g_getP dX11_read_71 fdX11_180 rfl (by first | rfl | exact pv_shx) (by omega) (by omega) (by decide) rfl (hP _ _ _ rfl) ?_
          refine g_callV (wf) okX8_forget lkX11_184 rfl (by first | rfl | exact pv_shx) rfl (by omega) (by omega) dX11_read_74 rfl (Nat.le_of_ble_eq_true rfl) (⟨by decide, by decide, by decide, by decide⟩) ?_
          rintro v nx' I2 J2 P' ⟨rfl, rfl, rfl, rfl, rfl⟩
          have o : ∀ x, x ≠ 43 → pvs I1 43 (upd (upd (I1 43) 3 (-1)) 4 (-1)) x = I1 x := fun x hx => pvs_ne hx
          have ht : rKno 3 A (pvs I1 43 (upd (upd (I1 43) 3 (-1)) 4 (-1))) := by
            refine rKno.mv (I := I1) ⟨?_, ?_, ?_, ?_⟩ (fun x _ z => o x (by omega))
            · show I1 20 0 = _
              rw [e20, updI (by decide), u (by omega) (by omega)]; exact x1
            · intro q hq
              rw [uc (by omega) (by omega)] at hq
              rw [he (3 + 18) (by omega), he (3 + 19) (by omega), u (i := 260 + 2 * q) (by omega) (by omega), u (i := 260 + 2 * q + 1) (by omega) (by omega)]
              exact x2 q hq
            · show I1 20 3 = _
              rw [e203, u4]
            · intro q hq
              rw [c4] at hq
              show I1 23 q = _ ∧ I1 24 q = _ ∧ I1 25 q = _ ∧ I1 26 q = _
              rw [e23, e24, e25, e26]
              by_cases e : q = N
              · subst e
                rw [updS, updS, updS, updS, w0, w1, w2, w3]
                exact ⟨rfl, rfl, rfl, ha0.symm⟩
              · rw [updI e, updI e, updI e, updI e, u (i := 280 + 4 * q) (by omega) (by omega), u (i := 280 + 4 * q + 1) (by omega) (by omega), u (i := 280 + 4 * q + 2) (by omega) (by omega), u (i := 280 + 4 * q + 3) (by omega) (by omega)]
                exact x4 q (by omega)
          have hw := hb.1.2.2.2.2.2.2.1
          have hf' : rFir w h A (pvs I1 43 (upd (upd (I1 43) 3 (-1)) 4 (-1))) _ := (hb.2.2.1.fr (by omega) hwh.2 hi.1.1 (ga _ _ (by omega)) (ga _ _ (by omega)) (ga _ _ (by omega)) (ga _ _ (by omega))).mv (fun x z1 z2 => by rw [o x (by omega)]; exact he x (by omega)) (fun _ _ _ => rfl)
          have fin := hb.kno (I' := pvs I1 43 (upd (upd (I1 43) 3 (-1)) 4 (-1))) (fun x z1 z2 z3 => by rw [o x z2]; exact he x (by omega)) (by rw [pvs_eq, updI (by decide), updI (by decide), he 43 (by omega)]) (ga _ _ (by omega)) (ga _ _ (by omega)) (ga _ _ (by omega)) (ga _ _ (by omega)) ht hg' (hi.1.2.2.1.fr hi.1.1 (ga _ _ (by omega)) (ga _ _ (by omega))) hl hah hf'
          refine g_aload_n dX11_read_77 rfl ?_
          refine g_getP dX11_read_78 fdX11_32 rfl (by first | rfl | exact pv_shx) (by omega) (by omega) (by decide) rfl (hP _ _ _ rfl) ?_
          refine g_getP dX11_read_81 fdX11_163 rfl (by first | rfl | exact pv_shx) (by omega) (by omega) (by decide) rfl (hP _ _ _ rfl) ?_
          refine n_getI dX11_read_84 fdX11_255 rfl (by first | rfl | exact pv_shx) (by omega) (by omega) (by decide) rfl (by repeat (first | exact e203 | (apply rd_s; done) | apply rd_n (by omega) | apply rp_s | apply rp_n (by omega) | (apply rdL_s; done) | apply rdL_n (by omega) | apply rpJ_s | apply rpJ_n (by omega) | rfl)) ?_
          exact g_iret dX11_read_87 rfl (⟨rfl, rfl, rfl, fin, fun z hz => ⟨by rw [o z (by omega)]; exact he z (by omega), rfl⟩, Or.inl (by rw [pvs_eq]; simp [upd])⟩)
      · have ans : sp_read w h a (nI cn) (nI mn) b = (-1, a) := by rw [sp_read, if_neg (fun z => by have := z.2.2.1; omega)]
        rw [ans]
        refine pvMet.of _ (by decide) rfl (Nat.le_of_ble_eq_true rfl) ?_
        refine g_aload_n dX11_read_0 rfl ?_
        refine g_getP dX11_read_1 fdX11_21 rfl (by first | rfl | exact pv_shx) (by omega) (by omega) (by decide) rfl (hP _ _ _ rfl) ?_
        refine g_iload_n dX11_read_4 rfl ?_
        refine p_callV (ip) okX2_has lkX11_81 rfl (by first | rfl | exact pv_shx) rfl (by omega) (by omega) dX11_read_5 rfl (Nat.le_of_ble_eq_true rfl) (⟨by decide, by decide, by decide, by decide⟩) ?_
        refine n_if_eq 45 dX11_read_8 (by decide) (by first | (with_reducible exact cB _) | ((with_reducible apply cN_eq0) <;> omega) | exact Iff.rfl) (fun c8 => by exfalso; first | omega | exact absurd trivial c8 | exact c8 | (simp at c8)) (fun c8 => ?_)
        refine g_iload_n dX11_read_11 rfl ?_
        refine p_callS (iw) okX11_isWeek lkX11_160 rfl dX11_read_12 rfl (Nat.le_of_ble_eq_true rfl) (⟨by decide, by decide, by decide, by decide⟩) ?_
        refine n_if_eq 45 dX11_read_15 (by decide) (by first | (with_reducible exact cB _) | ((with_reducible apply cN_eq0) <;> omega) | exact Iff.rfl) (fun c15 => by exfalso; first | omega | exact absurd trivial c15 | exact c15 | (simp at c15)) (fun c15 => ?_)
        refine g_iload_n dX11_read_18 rfl ?_
        refine g_aload_n dX11_read_19 rfl ?_
        refine g_getP dX11_read_20 fdX11_32 rfl (by first | rfl | exact pv_shx) (by omega) (by omega) (by decide) rfl (hP _ _ _ rfl) ?_
        refine n_getI dX11_read_23 fdX11_77 rfl (by first | rfl | exact pv_shx) (by omega) (by omega) (by decide) rfl (by repeat (first | exact r0 | (apply rd_s; done) | apply rd_n (by omega) | apply rp_s | apply rp_n (by omega) | (apply rdL_s; done) | apply rdL_n (by omega) | apply rpJ_s | apply rpJ_n (by omega) | rfl)) ?_
        refine n_icmp_gt 45 dX11_read_26 (by decide) (by first | ((with_reducible apply cN_lt) <;> omega) | ((with_reducible apply cI_ltn) <;> omega) | ((with_reducible apply cI_nlt) <;> omega) | (with_reducible exact cI_lt)) (fun c26 => ?_) (fun c26 => by exfalso; first | omega | exact absurd trivial c26 | exact c26 | (simp at c26))
        refine g_iconst (v := (-1)) dX11_read_45 (by decide) ?_
        exact g_iret dX11_read_46 rfl (⟨rfl, rfl, rfl, hb, mF2.rf, Or.inr ⟨rfl, sAl.rf⟩⟩)
    · rw [if_neg v2] at iw
      have ans : sp_read w h a c m b = (-1, a) := by rw [sp_read, if_neg (fun z => v2 z.2.1)]
      rw [ans]
      refine pvMet.of _ (by decide) rfl (Nat.le_of_ble_eq_true rfl) ?_
      refine g_aload_n dX11_read_0 rfl ?_
      refine g_getP dX11_read_1 fdX11_21 rfl (by first | rfl | exact pv_shx) (by omega) (by omega) (by decide) rfl (hP _ _ _ rfl) ?_
      refine g_iload_n dX11_read_4 rfl ?_
      refine p_callV (ip) okX2_has lkX11_81 rfl (by first | rfl | exact pv_shx) rfl (by omega) (by omega) dX11_read_5 rfl (Nat.le_of_ble_eq_true rfl) (⟨by decide, by decide, by decide, by decide⟩) ?_
      refine n_if_eq 45 dX11_read_8 (by decide) (by first | (with_reducible exact cB _) | ((with_reducible apply cN_eq0) <;> omega) | exact Iff.rfl) (fun c8 => by exfalso; first | omega | exact absurd trivial c8 | exact c8 | (simp at c8)) (fun c8 => ?_)
      refine g_iload_n dX11_read_11 rfl ?_
      refine p_callS (iw) okX11_isWeek lkX11_160 rfl dX11_read_12 rfl (Nat.le_of_ble_eq_true rfl) (⟨by decide, by decide, by decide, by decide⟩) ?_
      refine n_if_eq 45 dX11_read_15 (by decide) (by first | (with_reducible exact cB _) | ((with_reducible apply cN_eq0) <;> omega) | exact Iff.rfl) (fun c15 => ?_) (fun c15 => by exfalso; first | omega | exact absurd trivial c15 | exact c15 | (simp at c15))
      refine g_iconst (v := (-1)) dX11_read_45 (by decide) ?_
      exact g_iret dX11_read_46 rfl (⟨rfl, rfl, rfl, hb, mF2.rf, Or.inr ⟨rfl, sAl.rf⟩⟩)
  · rw [if_neg v1] at ip
    have ans : sp_read w h a c m b = (-1, a) := by rw [sp_read, if_neg (fun z => v1 z.1)]
    rw [ans]
    refine pvMet.of _ (by decide) rfl (Nat.le_of_ble_eq_true rfl) ?_
    refine g_aload_n dX11_read_0 rfl ?_
    refine g_getP dX11_read_1 fdX11_21 rfl (by first | rfl | exact pv_shx) (by omega) (by omega) (by decide) rfl (hP _ _ _ rfl) ?_
    refine g_iload_n dX11_read_4 rfl ?_
    refine p_callV (ip) okX2_has lkX11_81 rfl (by first | rfl | exact pv_shx) rfl (by omega) (by omega) dX11_read_5 rfl (Nat.le_of_ble_eq_true rfl) (⟨by decide, by decide, by decide, by decide⟩) ?_
    refine n_if_eq 45 dX11_read_8 (by decide) (by first | (with_reducible exact cB _) | ((with_reducible apply cN_eq0) <;> omega) | exact Iff.rfl) (fun c8 => ?_) (fun c8 => by exfalso; first | omega | exact absurd trivial c8 | exact c8 | (simp at c8))
    refine g_iconst (v := (-1)) dX11_read_45 (by decide) ?_
    exact g_iret dX11_read_46 rfl (⟨rfl, rfl, rfl, hb, mF2.rf, Or.inr ⟨rfl, sAl.rf⟩⟩)
end KNO
