/-! class: by, whose -/
section BY4
variable {w h : Nat} {a : Nat → Int32} {cl : Nat → List pC} {I : pvI} {J : pvJ} {P : pvP}
theorem c_by {k m x : Int32} (hP : pvOkP P) (hb : kB w h a I J) (hA : cActs (cnt a 8) cl I) : pvMet mX11_by 7 0 0 [.ref 1, .int k, .int m, .int x] 224 I J P (byC w h a I J P (sp_by w h a cl k m x)) := by
  obtain ⟨n5, r5⟩ := hb.n5
  have n0 := hb.n0.1
  have n8 := hb.n9.2.2.1
  have ih := c_hasHouse (v := k) (J := J) (P := P) r5 (by omega)
  have iw := c_isWeek (nx := 224) (v := m) (I := I) (J := J) (P := P)
  have ix := c_within (nx := 224) (v := x) (lo := nI 0) (hi := nI 2) (L := 0) (H := 2) (I := I) (J := J) (P := P) (by decide) (by decide)
  by_cases hk : 0 ≤ k.toInt ∧ k.toInt < cnt a 5
  · rw [if_pos hk] at ih
    by_cases hm : 0 ≤ m.toInt ∧ m.toInt ≤ 99
    · rw [if_pos hm] at iw
      by_cases hx : 0 ≤ x.toInt ∧ x.toInt ≤ 2
      · rw [if_pos hx] at ix
        obtain ⟨kn, hkn, rfl⟩ := cI_of (x := k) (n := cnt a 5) (by omega) (by omega) (by omega)
        obtain ⟨mn, hmn, rfl⟩ := cI_of (x := m) (n := 100) (by omega) (by omega) (by omega)
        obtain ⟨xn, hxn, rfl⟩ := cI_of (x := x) (n := 3) (by omega) (by omega) (by omega)
        have ex : (nI xn).toInt = xn := nI_toInt (by omega)
        have se := c_see (m := mn) hP hb (by omega)
        have hans : sp_by w h a cl (nI kn) (nI mn) (nI xn) = if xn = 0 then nI (shutN w h a cl kn mn) else nI (worthN a cl kn mn (if decide (xn = 1) = true then gasN w h a kn mn true else 0)) := by
          rw [sp_by, if_pos ⟨hk, hm, hx⟩, nI_clamp (by omega : kn < 2 ^ 31), nI_clamp (by omega : mn < 2 ^ 31), ex]
          rcases (show xn = 0 ∨ xn = 1 ∨ xn = 2 by omega) with rfl | rfl | rfl
          · rfl
          · rfl
          · rfl
        rw [hans]
        have mov : ∀ I1 J1, qF I J I1 J1 → cActs (cnt a 8) cl I1 := fun I1 J1 q => hA.mv n8 (fun y z1 z2 => (q y (by omega)).1)
        rcases (show xn = 0 ∨ xn = 1 ∨ xn = 2 by omega) with rfl | rfl | rfl
        · rw [if_pos rfl]
          refine pvMet.of _ (by decide) rfl (Nat.le_of_ble_eq_true rfl) ?_
          refine g_aload_n dX11_by_0 rfl ?_
          refine g_getP dX11_by_1 fdX11_32 rfl (by first | rfl | exact pv_shx) (by omega) (by omega) (by decide) rfl (hP _ _ _ rfl) ?_
          refine g_getP dX11_by_4 fdX11_277 rfl (by first | rfl | exact pv_shx) (by omega) (by omega) (by decide) rfl (hP _ _ _ rfl) ?_
          refine g_iload_n dX11_by_7 rfl ?_
          refine p_callV (ih) okX7_hasHouse lkX11_287 rfl (by first | rfl | exact pv_shx) rfl (by omega) (by omega) dX11_by_8 rfl (Nat.le_of_ble_eq_true rfl) (⟨by decide, by decide, by decide, by decide⟩) ?_
          refine n_if_eq 30 dX11_by_11 (by decide) (by first | (with_reducible exact cB _) | ((with_reducible apply cN_eq0) <;> omega) | exact Iff.rfl) (fun c11 => by exfalso; first | omega | exact absurd trivial c11 | exact c11 | (simp at c11)) (fun c11 => ?_)
          refine g_iload_n dX11_by_14 rfl ?_
          refine p_callS (iw) okX11_isWeek lkX11_160 rfl dX11_by_15 rfl (Nat.le_of_ble_eq_true rfl) (⟨by decide, by decide, by decide, by decide⟩) ?_
          refine n_if_eq 30 dX11_by_18 (by decide) (by first | (with_reducible exact cB _) | ((with_reducible apply cN_eq0) <;> omega) | exact Iff.rfl) (fun c18 => by exfalso; first | omega | exact absurd trivial c18 | exact c18 | (simp at c18)) (fun c18 => ?_)
          refine g_iload_n dX11_by_21 rfl ?_
          refine g_iconst (v := nI 0) dX11_by_22 (by decide) ?_
          refine g_iconst (v := nI 2) dX11_by_23 (by decide) ?_
          refine p_callS (ix) okX11_within lkX11_85 rfl dX11_by_24 rfl (Nat.le_of_ble_eq_true rfl) (⟨by decide, by decide, by decide, by decide⟩) ?_
          refine n_if_ne 32 dX11_by_27 (by decide) (by first | (with_reducible exact cB _) | ((with_reducible apply cN_eq0) <;> omega) | exact Iff.rfl) (fun c27 => ?_) (fun c27 => by exfalso; first | omega | exact absurd trivial c27 | exact c27 | (simp at c27))
          refine g_aload_n dX11_by_32 rfl ?_
          refine g_iload_n dX11_by_33 rfl ?_
          refine g_callV (se) okX11_see lkX11_236 rfl (by first | rfl | exact pv_shx) rfl (by omega) (by omega) dX11_by_34 rfl (Nat.le_of_ble_eq_true rfl) (⟨by decide, by decide, by decide, by decide⟩) ?_
          rintro v nx' I1 J1 P' ⟨rfl, rfl, rfl, q1, q2, q3, q4⟩
          have so := c_shutOf (m := mn) hP q1 (mov _ _ q2) q3 (by omega) (by omega) (by omega) hkn
          refine g_iload_n dX11_by_37 rfl ?_
          refine n_if_ne 50 dX11_by_38 (by decide) (by first | (with_reducible exact cB _) | ((with_reducible apply cN_eq0) <;> omega) | exact Iff.rfl) (fun c38 => by exfalso; first | omega | exact absurd trivial c38 | exact c38 | (simp at c38)) (fun c38 => ?_)
          refine g_aload_n dX11_by_41 rfl ?_
          refine g_iload_n dX11_by_42 rfl ?_
          refine g_iload_n dX11_by_43 rfl ?_
          refine g_callV (so) okX11_shutOf lkX11_358 rfl (by first | rfl | exact pv_shx) rfl (by omega) (by omega) dX11_by_44 rfl (Nat.le_of_ble_eq_true rfl) (⟨by decide, by decide, by decide, by decide⟩) ?_
          rintro v nx' I2 J2 P2 ⟨rfl, rfl, rfl, q5, q6⟩
          refine g_goto 66 dX11_by_47 (by decide) ?_
          exact g_iret dX11_by_66 rfl (⟨rfl, rfl, rfl, q5, q2.by.tr q6⟩)
        · rw [if_neg (by decide)]
          refine pvMet.of _ (by decide) rfl (Nat.le_of_ble_eq_true rfl) ?_
          refine g_aload_n dX11_by_0 rfl ?_
          refine g_getP dX11_by_1 fdX11_32 rfl (by first | rfl | exact pv_shx) (by omega) (by omega) (by decide) rfl (hP _ _ _ rfl) ?_
          refine g_getP dX11_by_4 fdX11_277 rfl (by first | rfl | exact pv_shx) (by omega) (by omega) (by decide) rfl (hP _ _ _ rfl) ?_
          refine g_iload_n dX11_by_7 rfl ?_
          refine p_callV (ih) okX7_hasHouse lkX11_287 rfl (by first | rfl | exact pv_shx) rfl (by omega) (by omega) dX11_by_8 rfl (Nat.le_of_ble_eq_true rfl) (⟨by decide, by decide, by decide, by decide⟩) ?_
          refine n_if_eq 30 dX11_by_11 (by decide) (by first | (with_reducible exact cB _) | ((with_reducible apply cN_eq0) <;> omega) | exact Iff.rfl) (fun c11 => by exfalso; first | omega | exact absurd trivial c11 | exact c11 | (simp at c11)) (fun c11 => ?_)
          refine g_iload_n dX11_by_14 rfl ?_
          refine p_callS (iw) okX11_isWeek lkX11_160 rfl dX11_by_15 rfl (Nat.le_of_ble_eq_true rfl) (⟨by decide, by decide, by decide, by decide⟩) ?_
          refine n_if_eq 30 dX11_by_18 (by decide) (by first | (with_reducible exact cB _) | ((with_reducible apply cN_eq0) <;> omega) | exact Iff.rfl) (fun c18 => by exfalso; first | omega | exact absurd trivial c18 | exact c18 | (simp at c18)) (fun c18 => ?_)
          refine g_iload_n dX11_by_21 rfl ?_
          refine g_iconst (v := nI 0) dX11_by_22 (by decide) ?_
          refine g_iconst (v := nI 2) dX11_by_23 (by decide) ?_
          refine p_callS (ix) okX11_within lkX11_85 rfl dX11_by_24 rfl (Nat.le_of_ble_eq_true rfl) (⟨by decide, by decide, by decide, by decide⟩) ?_
          refine n_if_ne 32 dX11_by_27 (by decide) (by first | (with_reducible exact cB _) | ((with_reducible apply cN_eq0) <;> omega) | exact Iff.rfl) (fun c27 => ?_) (fun c27 => by exfalso; first | omega | exact absurd trivial c27 | exact c27 | (simp at c27))
          refine g_aload_n dX11_by_32 rfl ?_
          refine g_iload_n dX11_by_33 rfl ?_
          refine g_callV (se) okX11_see lkX11_236 rfl (by first | rfl | exact pv_shx) rfl (by omega) (by omega) dX11_by_34 rfl (Nat.le_of_ble_eq_true rfl) (⟨by decide, by decide, by decide, by decide⟩) ?_
          rintro v nx' I1 J1 P' ⟨rfl, rfl, rfl, q1, q2, q3, q4⟩
          have so := c_worthOf (m := mn) (wg := true) hP q1 (mov _ _ q2) q3 (by omega) (by omega) (by omega) hkn
          refine g_iload_n dX11_by_37 rfl ?_
          refine n_if_ne 50 dX11_by_38 (by decide) (by first | (with_reducible exact cB _) | ((with_reducible apply cN_eq0) <;> omega) | exact Iff.rfl) (fun c38 => ?_) (fun c38 => by exfalso; first | omega | exact absurd trivial c38 | exact c38 | (simp at c38))
          refine g_aload_n dX11_by_50 rfl ?_
          refine g_iload_n dX11_by_51 rfl ?_
          refine g_iload_n dX11_by_52 rfl ?_
          refine g_iload_n dX11_by_53 rfl ?_
          refine g_iconst (v := nI 1) dX11_by_54 (by decide) ?_
          refine n_icmp_ne 62 dX11_by_55 (by decide) (by first | ((with_reducible apply cN_eq) <;> omega) | ((with_reducible apply cI_eqn) <;> omega) | exact Iff.rfl) (fun c55 => by exfalso; first | omega | exact absurd trivial c55 | exact c55 | (simp at c55)) (fun c55 => ?_)
          refine g_iconst (v := nI 1) dX11_by_58 (by decide) ?_
          refine g_goto 63 dX11_by_59 (by decide) ?_
          refine g_callV (so) okX11_worthOf lkX11_361 rfl (by first | rfl | exact pv_shx) rfl (by omega) (by omega) dX11_by_63 rfl (Nat.le_of_ble_eq_true rfl) (⟨by decide, by decide, by decide, by decide⟩) ?_
          rintro v nx' I2 J2 P2 ⟨rfl, rfl, rfl, q5, q6⟩
          exact g_iret dX11_by_66 rfl (⟨rfl, rfl, rfl, q5, q2.by.tr q6⟩)
        · rw [if_neg (by decide)]
          refine pvMet.of _ (by decide) rfl (Nat.le_of_ble_eq_true rfl) ?_
          refine g_aload_n dX11_by_0 rfl ?_
          refine g_getP dX11_by_1 fdX11_32 rfl (by first | rfl | exact pv_shx) (by omega) (by omega) (by decide) rfl (hP _ _ _ rfl) ?_
          refine g_getP dX11_by_4 fdX11_277 rfl (by first | rfl | exact pv_shx) (by omega) (by omega) (by decide) rfl (hP _ _ _ rfl) ?_
          refine g_iload_n dX11_by_7 rfl ?_
          refine p_callV (ih) okX7_hasHouse lkX11_287 rfl (by first | rfl | exact pv_shx) rfl (by omega) (by omega) dX11_by_8 rfl (Nat.le_of_ble_eq_true rfl) (⟨by decide, by decide, by decide, by decide⟩) ?_
          refine n_if_eq 30 dX11_by_11 (by decide) (by first | (with_reducible exact cB _) | ((with_reducible apply cN_eq0) <;> omega) | exact Iff.rfl) (fun c11 => by exfalso; first | omega | exact absurd trivial c11 | exact c11 | (simp at c11)) (fun c11 => ?_)
          refine g_iload_n dX11_by_14 rfl ?_
          refine p_callS (iw) okX11_isWeek lkX11_160 rfl dX11_by_15 rfl (Nat.le_of_ble_eq_true rfl) (⟨by decide, by decide, by decide, by decide⟩) ?_
          refine n_if_eq 30 dX11_by_18 (by decide) (by first | (with_reducible exact cB _) | ((with_reducible apply cN_eq0) <;> omega) | exact Iff.rfl) (fun c18 => by exfalso; first | omega | exact absurd trivial c18 | exact c18 | (simp at c18)) (fun c18 => ?_)
          refine g_iload_n dX11_by_21 rfl ?_
          refine g_iconst (v := nI 0) dX11_by_22 (by decide) ?_
          refine g_iconst (v := nI 2) dX11_by_23 (by decide) ?_
          refine p_callS (ix) okX11_within lkX11_85 rfl dX11_by_24 rfl (Nat.le_of_ble_eq_true rfl) (⟨by decide, by decide, by decide, by decide⟩) ?_
          refine n_if_ne 32 dX11_by_27 (by decide) (by first | (with_reducible exact cB _) | ((with_reducible apply cN_eq0) <;> omega) | exact Iff.rfl) (fun c27 => ?_) (fun c27 => by exfalso; first | omega | exact absurd trivial c27 | exact c27 | (simp at c27))
          refine g_aload_n dX11_by_32 rfl ?_
          refine g_iload_n dX11_by_33 rfl ?_
          refine g_callV (se) okX11_see lkX11_236 rfl (by first | rfl | exact pv_shx) rfl (by omega) (by omega) dX11_by_34 rfl (Nat.le_of_ble_eq_true rfl) (⟨by decide, by decide, by decide, by decide⟩) ?_
          rintro v nx' I1 J1 P' ⟨rfl, rfl, rfl, q1, q2, q3, q4⟩
          have so := c_worthOf (m := mn) (wg := false) hP q1 (mov _ _ q2) q3 (by omega) (by omega) (by omega) hkn
          refine g_iload_n dX11_by_37 rfl ?_
          refine n_if_ne 50 dX11_by_38 (by decide) (by first | (with_reducible exact cB _) | ((with_reducible apply cN_eq0) <;> omega) | exact Iff.rfl) (fun c38 => ?_) (fun c38 => by exfalso; first | omega | exact absurd trivial c38 | exact c38 | (simp at c38))
          refine g_aload_n dX11_by_50 rfl ?_
          refine g_iload_n dX11_by_51 rfl ?_
          refine g_iload_n dX11_by_52 rfl ?_
          refine g_iload_n dX11_by_53 rfl ?_
          refine g_iconst (v := nI 1) dX11_by_54 (by decide) ?_
          refine n_icmp_ne 62 dX11_by_55 (by decide) (by first | ((with_reducible apply cN_eq) <;> omega) | ((with_reducible apply cI_eqn) <;> omega) | exact Iff.rfl) (fun c55 => ?_) (fun c55 => by exfalso; first | omega | exact absurd trivial c55 | exact c55 | (simp at c55))
          refine g_iconst (v := nI 0) dX11_by_62 (by decide) ?_
          refine g_callV (so) okX11_worthOf lkX11_361 rfl (by first | rfl | exact pv_shx) rfl (by omega) (by omega) dX11_by_63 rfl (Nat.le_of_ble_eq_true rfl) (⟨by decide, by decide, by decide, by decide⟩) ?_
          rintro v nx' I2 J2 P2 ⟨rfl, rfl, rfl, q5, q6⟩
          exact g_iret dX11_by_66 rfl (⟨rfl, rfl, rfl, q5, q2.by.tr q6⟩)
      · rw [if_neg hx] at ix
        refine pvMet.of _ (by decide) rfl (Nat.le_of_ble_eq_true rfl) ?_
        refine g_aload_n dX11_by_0 rfl ?_
        refine g_getP dX11_by_1 fdX11_32 rfl (by first | rfl | exact pv_shx) (by omega) (by omega) (by decide) rfl (hP _ _ _ rfl) ?_
        refine g_getP dX11_by_4 fdX11_277 rfl (by first | rfl | exact pv_shx) (by omega) (by omega) (by decide) rfl (hP _ _ _ rfl) ?_
        refine g_iload_n dX11_by_7 rfl ?_
        refine p_callV (ih) okX7_hasHouse lkX11_287 rfl (by first | rfl | exact pv_shx) rfl (by omega) (by omega) dX11_by_8 rfl (Nat.le_of_ble_eq_true rfl) (⟨by decide, by decide, by decide, by decide⟩) ?_
        refine n_if_eq 30 dX11_by_11 (by decide) (by first | (with_reducible exact cB _) | ((with_reducible apply cN_eq0) <;> omega) | exact Iff.rfl) (fun c11 => by exfalso; first | omega | exact absurd trivial c11 | exact c11 | (simp at c11)) (fun c11 => ?_)
        refine g_iload_n dX11_by_14 rfl ?_
        refine p_callS (iw) okX11_isWeek lkX11_160 rfl dX11_by_15 rfl (Nat.le_of_ble_eq_true rfl) (⟨by decide, by decide, by decide, by decide⟩) ?_
        refine n_if_eq 30 dX11_by_18 (by decide) (by first | (with_reducible exact cB _) | ((with_reducible apply cN_eq0) <;> omega) | exact Iff.rfl) (fun c18 => by exfalso; first | omega | exact absurd trivial c18 | exact c18 | (simp at c18)) (fun c18 => ?_)
        refine g_iload_n dX11_by_21 rfl ?_
        refine g_iconst (v := nI 0) dX11_by_22 (by decide) ?_
        refine g_iconst (v := nI 2) dX11_by_23 (by decide) ?_
        refine p_callS (ix) okX11_within lkX11_85 rfl dX11_by_24 rfl (Nat.le_of_ble_eq_true rfl) (⟨by decide, by decide, by decide, by decide⟩) ?_
        refine n_if_ne 32 dX11_by_27 (by decide) (by first | (with_reducible exact cB _) | ((with_reducible apply cN_eq0) <;> omega) | exact Iff.rfl) (fun c27 => by exfalso; first | omega | exact absurd trivial c27 | exact c27 | (simp at c27)) (fun c27 => ?_)
        refine g_iconst (v := (-1)) dX11_by_30 (by decide) ?_
        exact g_iret dX11_by_31 rfl (⟨rfl, rfl, by rw [sp_by, if_neg (fun z => hx z.2.2)], hb, byF.rf⟩)
    · rw [if_neg hm] at iw
      refine pvMet.of _ (by decide) rfl (Nat.le_of_ble_eq_true rfl) ?_
      refine g_aload_n dX11_by_0 rfl ?_
      refine g_getP dX11_by_1 fdX11_32 rfl (by first | rfl | exact pv_shx) (by omega) (by omega) (by decide) rfl (hP _ _ _ rfl) ?_
      refine g_getP dX11_by_4 fdX11_277 rfl (by first | rfl | exact pv_shx) (by omega) (by omega) (by decide) rfl (hP _ _ _ rfl) ?_
      refine g_iload_n dX11_by_7 rfl ?_
      refine p_callV (ih) okX7_hasHouse lkX11_287 rfl (by first | rfl | exact pv_shx) rfl (by omega) (by omega) dX11_by_8 rfl (Nat.le_of_ble_eq_true rfl) (⟨by decide, by decide, by decide, by decide⟩) ?_
      refine n_if_eq 30 dX11_by_11 (by decide) (by first | (with_reducible exact cB _) | ((with_reducible apply cN_eq0) <;> omega) | exact Iff.rfl) (fun c11 => by exfalso; first | omega | exact absurd trivial c11 | exact c11 | (simp at c11)) (fun c11 => ?_)
      refine g_iload_n dX11_by_14 rfl ?_
      refine p_callS (iw) okX11_isWeek lkX11_160 rfl dX11_by_15 rfl (Nat.le_of_ble_eq_true rfl) (⟨by decide, by decide, by decide, by decide⟩) ?_
      refine n_if_eq 30 dX11_by_18 (by decide) (by first | (with_reducible exact cB _) | ((with_reducible apply cN_eq0) <;> omega) | exact Iff.rfl) (fun c18 => ?_) (fun c18 => by exfalso; first | omega | exact absurd trivial c18 | exact c18 | (simp at c18))
      refine g_iconst (v := (-1)) dX11_by_30 (by decide) ?_
      exact g_iret dX11_by_31 rfl (⟨rfl, rfl, by rw [sp_by, if_neg (fun z => hm z.2.1)], hb, byF.rf⟩)
  · rw [if_neg hk] at ih
    refine pvMet.of _ (by decide) rfl (Nat.le_of_ble_eq_true rfl) ?_
    refine g_aload_n dX11_by_0 rfl ?_
    refine g_getP dX11_by_1 fdX11_32 rfl (by first | rfl | exact pv_shx) (by omega) (by omega) (by decide) rfl (hP _ _ _ rfl) ?_
    refine g_getP dX11_by_4 fdX11_277 rfl (by first | rfl | exact pv_shx) (by omega) (by omega) (by decide) rfl (hP _ _ _ rfl) ?_
    refine g_iload_n dX11_by_7 rfl ?_
    refine p_callV (ih) okX7_hasHouse lkX11_287 rfl (by first | rfl | exact pv_shx) rfl (by omega) (by omega) dX11_by_8 rfl (Nat.le_of_ble_eq_true rfl) (⟨by decide, by decide, by decide, by decide⟩) ?_
    refine n_if_eq 30 dX11_by_11 (by decide) (by first | (with_reducible exact cB _) | ((with_reducible apply cN_eq0) <;> omega) | exact Iff.rfl) (fun c11 => ?_) (fun c11 => by exfalso; first | omega | exact absurd trivial c11 | exact c11 | (simp at c11))
    refine g_iconst (v := (-1)) dX11_by_30 (by decide) ?_
    exact g_iret dX11_by_31 rfl (⟨rfl, rfl, by rw [sp_by, if_neg (fun z => hk z.1)], hb, byF.rf⟩)
theorem people_there (hb : kB w h a I J) : sp_ct (poP a (-1)) (cnt a 6) ≤ cnt a 6 ∧ I 27 6 = nI (cnt a 6) ∧ nI (cnt a 6) - a 7 = nI (sp_ct (poP a (-1)) (cnt a 6)) := by
  obtain ⟨n6, r6⟩ := hb.n6
  have l := hb.2.2.2.2.2.2.1.2.2.1
  have key : ∀ n, sp_ct (poP a (-1)) n + sp_ct (fun p => ¬ sp_here a p) n = n := by
    intro n
    induction n with
    | zero => rfl
    | succ n ih =>
      have e1 : sp_ct (poP a (-1)) (n + 1) = sp_ct (poP a (-1)) n + (if poP a (-1) n then 1 else 0) := rfl
      have e2 : sp_ct (fun p => ¬ sp_here a p) (n + 1) = sp_ct (fun p => ¬ sp_here a p) n + (if ¬ sp_here a n then 1 else 0) := rfl
      rw [e1, e2]
      by_cases c : sp_here a n
      · rw [if_pos (show poP a (-1) n from ⟨Or.inl rfl, c⟩), if_neg (fun z => z c)]; omega
      · rw [if_neg (fun z => c z.2), if_pos c]; omega
  have hk := key (cnt a 6)
  refine ⟨by omega, r6, ?_⟩
  unfold mWent at l
  rw [l]
  have e : cnt a 6 = sp_ct (fun p => ¬ sp_here a p) (cnt a 6) + sp_ct (poP a (-1)) (cnt a 6) := by omega
  have e2 := sub_l2 (a := sp_ct (fun p => ¬ sp_here a p) (cnt a 6)) (b := sp_ct (poP a (-1)) (cnt a 6)) (by omega)
  rw [← e] at e2
  exact e2
end BY4
