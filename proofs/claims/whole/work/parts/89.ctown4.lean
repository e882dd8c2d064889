/-! class: person, force, place -/
section TW4
variable {w h : Nat} {a : Nat → Int32} {I : pvI} {J : pvJ} {P : pvP}
theorem c_person {c x y : Int32} (hP : pvOkP P) (hb : kB w h a I J) : pvMet mX11_person 1 0 0 [.ref 1, .int c, .int x, .int y] 224 I J P (mtQ w h a I J P (sp_person a c x y)) := by
  obtain ⟨n5, r5⟩ := hb.n5
  obtain ⟨n6, r6⟩ := hb.n6
  have ip := c_hasHouse (v := c) (J := J) (P := P) r5 (by omega)
  have ix := c_within (nx := 224) (v := x) (lo := nI 0) (hi := nI 9) (L := 0) (H := 9) (I := I) (J := J) (P := P) (by decide) (by decide)
  have iy := c_within (nx := 224) (v := y) (lo := nI 0) (hi := nI 9999) (L := 0) (H := 9999) (I := I) (J := J) (P := P) (by decide) (by decide)
  by_cases v1 : 0 ≤ c.toInt ∧ c.toInt < cnt a 5
  · rw [if_pos v1] at ip
    by_cases v2 : 0 ≤ x.toInt ∧ x.toInt ≤ 9
    · rw [if_pos v2] at ix
      by_cases v3 : 0 ≤ y.toInt ∧ y.toInt ≤ 9999
      · rw [if_pos v3] at iy
        by_cases v4 : cnt a 6 = 60
        · have ans : sp_person a c x y = (-1, a) := by rw [sp_person, if_neg (fun z => z.2.2.2 v4)]
          rw [ans]
          refine pvMet.of _ (by decide) rfl (Nat.le_of_ble_eq_true rfl) ?_
          refine g_aload_n dX11_person_0 rfl ?_
          refine g_getP dX11_person_1 fdX11_32 rfl (by first | rfl | exact pv_shx) (by omega) (by omega) (by decide) rfl (hP _ _ _ rfl) ?_
          refine g_getP dX11_person_4 fdX11_277 rfl (by first | rfl | exact pv_shx) (by omega) (by omega) (by decide) rfl (hP _ _ _ rfl) ?_
          refine g_iload_n dX11_person_7 rfl ?_
          refine p_callV (ip) okX7_hasHouse lkX11_287 rfl (by first | rfl | exact pv_shx) rfl (by omega) (by omega) dX11_person_8 rfl (Nat.le_of_ble_eq_true rfl) (⟨by decide, by decide, by decide, by decide⟩) ?_
          refine n_if_eq 50 dX11_person_11 (by decide) (by first | (with_reducible exact cB _) | ((with_reducible apply cN_eq0) <;> omega) | exact Iff.rfl) (fun c11 => by exfalso; first | omega | exact absurd trivial c11 | exact c11 | (simp at c11)) (fun c11 => ?_)
          refine g_iload_n dX11_person_14 rfl ?_
          refine g_iconst (v := nI 0) dX11_person_15 (by decide) ?_
          refine g_bipush (v := nI 9) dX11_person_16 (by decide) ?_
          refine p_callS (ix) okX11_within lkX11_85 rfl dX11_person_18 rfl (Nat.le_of_ble_eq_true rfl) (⟨by decide, by decide, by decide, by decide⟩) ?_
          refine n_if_eq 50 dX11_person_21 (by decide) (by first | (with_reducible exact cB _) | ((with_reducible apply cN_eq0) <;> omega) | exact Iff.rfl) (fun c21 => by exfalso; first | omega | exact absurd trivial c21 | exact c21 | (simp at c21)) (fun c21 => ?_)
          refine g_iload_n dX11_person_24 rfl ?_
          refine g_iconst (v := nI 0) dX11_person_25 (by decide) ?_
          refine g_sipush (v := nI 9999) dX11_person_26 (by decide) ?_
          refine p_callS (iy) okX11_within lkX11_85 rfl dX11_person_29 rfl (Nat.le_of_ble_eq_true rfl) (⟨by decide, by decide, by decide, by decide⟩) ?_
          refine n_if_eq 50 dX11_person_32 (by decide) (by first | (with_reducible exact cB _) | ((with_reducible apply cN_eq0) <;> omega) | exact Iff.rfl) (fun c32 => by exfalso; first | omega | exact absurd trivial c32 | exact c32 | (simp at c32)) (fun c32 => ?_)
          refine g_aload_n dX11_person_35 rfl ?_
          refine g_getP dX11_person_36 fdX11_32 rfl (by first | rfl | exact pv_shx) (by omega) (by omega) (by decide) rfl (hP _ _ _ rfl) ?_
          refine g_getP dX11_person_39 fdX11_277 rfl (by first | rfl | exact pv_shx) (by omega) (by omega) (by decide) rfl (hP _ _ _ rfl) ?_
          refine n_getI dX11_person_42 fdX11_294 rfl (by first | rfl | exact pv_shx) (by omega) (by omega) (by decide) rfl (by repeat (first | exact r6 | (apply rd_s; done) | apply rd_n (by omega) | apply rp_s | apply rp_n (by omega) | (apply rdL_s; done) | apply rdL_n (by omega) | apply rpJ_s | apply rpJ_n (by omega) | rfl)) ?_
          refine g_bipush (v := nI 60) dX11_person_45 (by decide) ?_
          refine n_icmp_lt 52 dX11_person_47 (by decide) (by first | ((with_reducible apply cN_lt) <;> omega) | ((with_reducible apply cI_ltn) <;> omega) | ((with_reducible apply cI_nlt) <;> omega) | (with_reducible exact cI_lt)) (fun c47 => by exfalso; first | omega | exact absurd trivial c47 | exact c47 | (simp at c47)) (fun c47 => ?_)
          refine g_iconst (v := (-1)) dX11_person_50 (by decide) ?_
          exact g_iret dX11_person_51 rfl (⟨rfl, rfl, rfl, hb, mF2.rf, Or.inr ⟨rfl, sAl.rf⟩⟩)
        · obtain ⟨cn, hcn, rfl⟩ := cI_of (x := c) (n := cnt a 5) (by omega) (by omega) (by omega)
          obtain ⟨xn, hxn, rfl⟩ := cI_of (x := x) (n := 10) (by omega) (by omega) (by omega)
          obtain ⟨yn, hyn, rfl⟩ := cI_of (x := y) (n := 10000) (by omega) (by omega) (by omega)
          have ha6 := (mG_eq hb.2.2.2.2.1.1 (i := 6) (by decide)).1
          have ans : sp_person a (nI cn) (nI xn) (nI yn) = (nI (cnt a 6), upd (upd (upd (upd (upd (upd a (1200 + 5 * cnt a 6) (nI cn)) (1200 + 5 * cnt a 6 + 1) (nI xn)) (1200 + 5 * cnt a 6 + 2) (nI yn)) (1200 + 5 * cnt a 6 + 3) (nI 0)) (1200 + 5 * cnt a 6 + 4) (-1)) 6 (nI (cnt a 6 + 1))) := by rw [sp_person, if_pos ⟨v1, v2, v3, v4⟩, ← ha6]
          rw [ans]
          have hi := hb.2.2.2.2
          have ad := c_addPerson (J := J) (c := nI cn) (x := nI xn) (y := nI yn) hP r6 (by omega)
          obtain ⟨x1, x2, x3, x4, x5, x6⟩ := hb.2.1.2.2.2.2.1
          generalize hN : cnt a 6 = N at *
          generalize hA : upd (upd (upd (upd (upd (upd a (1200 + 5 * N) (nI cn)) (1200 + 5 * N + 1) (nI xn)) (1200 + 5 * N + 2) (nI yn)) (1200 + 5 * N + 3) (nI 0)) (1200 + 5 * N + 4) (-1)) 6 (nI (N + 1)) = A
          have u : ∀ {i}, i ≠ 6 → (i < 1200 + 5 * N ∨ 1200 + 5 * N + 4 < i) → A i = a i := fun e1 e2 => by rw [← hA, updI e1, updI (by omega), updI (by omega), updI (by omega), updI (by omega), updI (by omega)]
          have uc : ∀ {i}, i ≠ 6 → (i < 1200 + 5 * N ∨ 1200 + 5 * N + 4 < i) → cnt A i = cnt a i := fun e1 e2 => by unfold cnt; rw [u e1 e2]
          have u6 : A 6 = nI (N + 1) := by rw [← hA, updS]
          have c6 : cnt A 6 = N + 1 := cnt_of u6 (by omega)
          have w0 : A (1200 + 5 * N) = nI cn := by rw [← hA, updI (by omega), updI (by omega), updI (by omega), updI (by omega), updI (by omega), updS]
          have w1 : A (1200 + 5 * N + 1) = nI xn := by rw [← hA, updI (by omega), updI (by omega), updI (by omega), updI (by omega), updS]
          have w2 : A (1200 + 5 * N + 2) = nI yn := by rw [← hA, updI (by omega), updI (by omega), updI (by omega), updS]
          have w3 : A (1200 + 5 * N + 3) = nI 0 := by rw [← hA, updI (by omega), updI (by omega), updS]
          have w4 : A (1200 + 5 * N + 4) = -1 := by rw [← hA, updI (by omega), updS]
          have ga : ∀ lo hi', (hi' ≤ 6 ∨ (7 ≤ lo ∧ hi' ≤ 1200) ∨ 1500 ≤ lo) → ag lo hi' a A := fun lo hi' hz i z1 z2 => u (by omega) (by omega)
          have hg' : mG A := hi.1.1.one (i := 6) (v := N + 1) (by decide) (show N + 1 ≤ 60 by omega) u6 (fun j z1 z2 => u z2 (by omega))
          have m1 : ((-1 : Int32)).toInt < 0 := by decide
          have hl : mLv (w * h) A := by
            obtain ⟨l1, l2, l3, l4⟩ := hi.2.2.1
            refine ⟨fun q hq => ?_, l2.fr l4 (ga _ _ (by omega)) (ga _ _ (by omega)), ?_, hg'⟩
            · rw [c6] at hq
              rw [uc (i := 5) (by omega) (by omega)]
              by_cases e : q = N
              · subst e
                rw [w0, w1, w2, w3, w4]
                exact ⟨⟨cn, hcn, rfl⟩, ⟨xn, by omega, rfl⟩, ⟨yn, by omega, rfl⟩, ⟨0, by omega, rfl⟩, Or.inl rfl⟩
              · rw [u (i := 1200 + 5 * q) (by omega) (by omega), u (i := 1200 + 5 * q + 1) (by omega) (by omega), u (i := 1200 + 5 * q + 2) (by omega) (by omega), u (i := 1200 + 5 * q + 3) (by omega) (by omega), u (i := 1200 + 5 * q + 4) (by omega) (by omega)]
                exact l1 q (by omega)
            · unfold mWent at l3 ⊢
              rw [u (by omega) (by omega), c6, l3, hN]
              congr 1
              show _ = sp_ct (fun p => ¬ sp_here A p) N + (if ¬ sp_here A N then 1 else 0)
              rw [if_neg (fun z => z (show (A (1200 + 5 * N + 4)).toInt < 0 by rw [w4]; exact m1)), Nat.add_zero]
              apply sp_ct_cong
              intro q hq
              show ¬ (a (1200 + 5 * q + 4)).toInt < 0 ↔ ¬ (A (1200 + 5 * q + 4)).toInt < 0
              rw [u (by omega) (by omega)]
          refine pvMet.of _ (by decide) rfl (Nat.le_of_ble_eq_true rfl) ?_
          refine g_aload_n dX11_person_0 rfl ?_
          refine g_getP dX11_person_1 fdX11_32 rfl (by first | rfl | exact pv_shx) (by omega) (by omega) (by decide) rfl (hP _ _ _ rfl) ?_
          refine g_getP dX11_person_4 fdX11_277 rfl (by first | rfl | exact pv_shx) (by omega) (by omega) (by decide) rfl (hP _ _ _ rfl) ?_
          refine g_iload_n dX11_person_7 rfl ?_
          refine p_callV (ip) okX7_hasHouse lkX11_287 rfl (by first | rfl | exact pv_shx) rfl (by omega) (by omega) dX11_person_8 rfl (Nat.le_of_ble_eq_true rfl) (⟨by decide, by decide, by decide, by decide⟩) ?_
          refine n_if_eq 50 dX11_person_11 (by decide) (by first | (with_reducible exact cB _) | ((with_reducible apply cN_eq0) <;> omega) | exact Iff.rfl) (fun c11 => by exfalso; first | omega | exact absurd trivial c11 | exact c11 | (simp at c11)) (fun c11 => ?_)
          refine g_iload_n dX11_person_14 rfl ?_
          refine g_iconst (v := nI 0) dX11_person_15 (by decide) ?_
          refine g_bipush (v := nI 9) dX11_person_16 (by decide) ?_
          refine p_callS (ix) okX11_within lkX11_85 rfl dX11_person_18 rfl (Nat.le_of_ble_eq_true rfl) (⟨by decide, by decide, by decide, by decide⟩) ?_
          refine n_if_eq 50 dX11_person_21 (by decide) (by first | (with_reducible exact cB _) | ((with_reducible apply cN_eq0) <;> omega) | exact Iff.rfl) (fun c21 => by exfalso; first | omega | exact absurd trivial c21 | exact c21 | (simp at c21)) (fun c21 => ?_)
          refine g_iload_n dX11_person_24 rfl ?_
          refine g_iconst (v := nI 0) dX11_person_25 (by decide) ?_
          refine g_sipush (v := nI 9999) dX11_person_26 (by decide) ?_
          refine p_callS (iy) okX11_within lkX11_85 rfl dX11_person_29 rfl (Nat.le_of_ble_eq_true rfl) (⟨by decide, by decide, by decide, by decide⟩) ?_
          refine n_if_eq 50 dX11_person_32 (by decide) (by first | (with_reducible exact cB _) | ((with_reducible apply cN_eq0) <;> omega) | exact Iff.rfl) (fun c32 => by exfalso; first | omega | exact absurd trivial c32 | exact c32 | (simp at c32)) (fun c32 => ?_)
          refine g_aload_n dX11_person_35 rfl ?_
          refine g_getP dX11_person_36 fdX11_32 rfl (by first | rfl | exact pv_shx) (by omega) (by omega) (by decide) rfl (hP _ _ _ rfl) ?_
          refine g_getP dX11_person_39 fdX11_277 rfl (by first | rfl | exact pv_shx) (by omega) (by omega) (by decide) rfl (hP _ _ _ rfl) ?_
          refine n_getI dX11_person_42 fdX11_294 rfl (by first | rfl | exact pv_shx) (by omega) (by omega) (by decide) rfl (by repeat (first | exact r6 | (apply rd_s; done) | apply rd_n (by omega) | apply rp_s | apply rp_n (by omega) | (apply rdL_s; done) | apply rdL_n (by omega) | apply rpJ_s | apply rpJ_n (by omega) | rfl)) ?_
          refine g_bipush (v := nI 60) dX11_person_45 (by decide) ?_
          refine n_icmp_lt 52 dX11_person_47 (by decide) (by first | ((with_reducible apply cN_lt) <;> omega) | ((with_reducible apply cI_ltn) <;> omega) | ((with_reducible apply cI_nlt) <;> omega) | (with_reducible exact cI_lt)) (fun c47 => ?_) (fun c47 => by exfalso; first | omega | exact absurd trivial c47 | exact c47 | (simp at c47))
          refine g_aload_n dX11_person_52 rfl ?_
          refine g_getP dX11_person_53 fdX11_32 rfl (by first | rfl | exact pv_shx) (by omega) (by omega) (by decide) rfl (hP _ _ _ rfl) ?_
          refine g_getP dX11_person_56 fdX11_277 rfl (by first | rfl | exact pv_shx) (by omega) (by omega) (by decide) rfl (hP _ _ _ rfl) ?_
          refine g_iload_n dX11_person_59 rfl ?_
          refine g_iload_n dX11_person_60 rfl ?_
          refine g_iload_n dX11_person_61 rfl ?_
          refine g_callV (ad) okX7_addPerson lkX11_297 rfl (by first | rfl | exact pv_shx) rfl (by omega) (by omega) dX11_person_62 rfl (Nat.le_of_ble_eq_true rfl) (⟨by decide, by decide, by decide, by decide⟩) ?_
          rintro v nx' I' J' P' ⟨rfl, rfl, rfl, rfl, e33, e34, e35, e36, e37, e27, he⟩
          have ht : rTwn 3 A I' := by
            refine ⟨?_, ?_, ?_, ?_, ?_, ?_⟩
            · show I' 27 0 = _
              rw [e27, updI (by decide), u (by omega) (by omega)]; exact x1
            · intro q hq
              rw [uc (by omega) (by omega)] at hq
              rw [he (3 + 25) (by omega), he (3 + 26) (by omega), he (3 + 27) (by omega), he (3 + 28) (by omega), he (3 + 29) (by omega), u (i := 1080 + 5 * q) (by omega) (by omega), u (i := 1080 + 5 * q + 1) (by omega) (by omega), u (i := 1080 + 5 * q + 2) (by omega) (by omega), u (i := 1080 + 5 * q + 3) (by omega) (by omega), u (i := 1080 + 5 * q + 4) (by omega) (by omega)]
              exact x2 q hq
            · show I' 27 6 = _
              rw [e27, updS, u6]
            · intro q hq
              rw [c6] at hq
              show I' 33 q = _ ∧ I' 34 q = _ ∧ I' 35 q = _ ∧ I' 36 q = _ ∧ I' 37 q = _
              rw [e33, e34, e35, e36, e37]
              by_cases e : q = N
              · subst e
                rw [updS, updS, updS, updS, updS, w0, w1, w2, w3, w4]
                exact ⟨rfl, rfl, rfl, rfl, rfl⟩
              · rw [updI e, updI e, updI e, updI e, updI e, u (i := 1200 + 5 * q) (by omega) (by omega), u (i := 1200 + 5 * q + 1) (by omega) (by omega), u (i := 1200 + 5 * q + 2) (by omega) (by omega), u (i := 1200 + 5 * q + 3) (by omega) (by omega), u (i := 1200 + 5 * q + 4) (by omega) (by omega)]
                exact x4 q (by omega)
            · intro q hq
              rw [he (3 + 35) (by omega), c6]
              have e : sp_ct (sp_kgP A (nI q)) (N + 1) = sp_ct (sp_kgP a (nI q)) N := by
                show sp_ct (sp_kgP A (nI q)) N + (if sp_kgP A (nI q) N then 1 else 0) = _
                rw [if_neg (fun z => z.2 (by rw [w4]; exact m1)), Nat.add_zero]
                apply sp_ct_cong
                intro p hp
                show (A (1200 + 5 * p + 1) = nI q ∧ ¬ (A (1200 + 5 * p + 4)).toInt < 0) ↔ _
                rw [u (by omega) (by omega), u (by omega) (by omega)]
              rw [e]
              exact x5 q hq
            · show I' 27 13 = _
              rw [e27, updI (by decide), u (by omega) (by omega)]; exact x6
          have fin := hb.twn (I' := I') (fun z hz => he z (by omega)) (ga _ _ (by omega)) (ga _ _ (by omega)) (ga _ _ (by omega)) (ga _ _ (by omega)) (ga _ _ (by omega)) ht hl
          exact g_iret dX11_person_65 rfl (⟨rfl, rfl, rfl, fin, kB.mf (fun z hz => he z (by omega)), Or.inr ⟨he 43 (by omega), ga _ _ (by omega), ga _ _ (by omega), ga _ _ (by omega), ga _ _ (by omega)⟩⟩)
      · rw [if_neg v3] at iy
        have ans : sp_person a c x y = (-1, a) := by rw [sp_person, if_neg (fun z => v3 z.2.2.1)]
        rw [ans]
        refine pvMet.of _ (by decide) rfl (Nat.le_of_ble_eq_true rfl) ?_
        refine g_aload_n dX11_person_0 rfl ?_
        refine g_getP dX11_person_1 fdX11_32 rfl (by first | rfl | exact pv_shx) (by omega) (by omega) (by decide) rfl (hP _ _ _ rfl) ?_
        refine g_getP dX11_person_4 fdX11_277 rfl (by first | rfl | exact pv_shx) (by omega) (by omega) (by decide) rfl (hP _ _ _ rfl) ?_
        refine g_iload_n dX11_person_7 rfl ?_
        refine p_callV (ip) okX7_hasHouse lkX11_287 rfl (by first | rfl | exact pv_shx) rfl (by omega) (by omega) dX11_person_8 rfl (Nat.le_of_ble_eq_true rfl) (⟨by decide, by decide, by decide, by decide⟩) ?_
        refine n_if_eq 50 dX11_person_11 (by decide) (by first | (with_reducible exact cB _) | ((with_reducible apply cN_eq0) <;> omega) | exact Iff.rfl) (fun c11 => by exfalso; first | omega | exact absurd trivial c11 | exact c11 | (simp at c11)) (fun c11 => ?_)
        refine g_iload_n dX11_person_14 rfl ?_
        refine g_iconst (v := nI 0) dX11_person_15 (by decide) ?_
        refine g_bipush (v := nI 9) dX11_person_16 (by decide) ?_
        refine p_callS (ix) okX11_within lkX11_85 rfl dX11_person_18 rfl (Nat.le_of_ble_eq_true rfl) (⟨by decide, by decide, by decide, by decide⟩) ?_
        refine n_if_eq 50 dX11_person_21 (by decide) (by first | (with_reducible exact cB _) | ((with_reducible apply cN_eq0) <;> omega) | exact Iff.rfl) (fun c21 => by exfalso; first | omega | exact absurd trivial c21 | exact c21 | (simp at c21)) (fun c21 => ?_)
        refine g_iload_n dX11_person_24 rfl ?_
        refine g_iconst (v := nI 0) dX11_person_25 (by decide) ?_
        refine g_sipush (v := nI 9999) dX11_person_26 (by decide) ?_
        refine p_callS (iy) okX11_within lkX11_85 rfl dX11_person_29 rfl (Nat.le_of_ble_eq_true rfl) (⟨by decide, by decide, by decide, by decide⟩) ?_
        refine n_if_eq 50 dX11_person_32 (by decide) (by first | (with_reducible exact cB _) | ((with_reducible apply cN_eq0) <;> omega) | exact Iff.rfl) (fun c32 => ?_) (fun c32 => by exfalso; first | omega | exact absurd trivial c32 | exact c32 | (simp at c32))
        refine g_iconst (v := (-1)) dX11_person_50 (by decide) ?_
        exact g_iret dX11_person_51 rfl (⟨rfl, rfl, rfl, hb, mF2.rf, Or.inr ⟨rfl, sAl.rf⟩⟩)
    · rw [if_neg v2] at ix
      have ans : sp_person a c x y = (-1, a) := by rw [sp_person, if_neg (fun z => v2 z.2.1)]
      rw [ans]
      refine pvMet.of _ (by decide) rfl (Nat.le_of_ble_eq_true rfl) ?_
      refine g_aload_n dX11_person_0 rfl ?_
      refine g_getP dX11_person_1 fdX11_32 rfl (by first | rfl | exact pv_shx) (by omega) (by omega) (by decide) rfl (hP _ _ _ rfl) ?_
      refine g_getP dX11_person_4 fdX11_277 rfl (by first | rfl | exact pv_shx) (by omega) (by omega) (by decide) rfl (hP _ _ _ rfl) ?_
      refine g_iload_n dX11_person_7 rfl ?_
      refine p_callV (ip) okX7_hasHouse lkX11_287 rfl (by first | rfl | exact pv_shx) rfl (by omega) (by omega) dX11_person_8 rfl (Nat.le_of_ble_eq_true rfl) (⟨by decide, by decide, by decide, by decide⟩) ?_
      refine n_if_eq 50 dX11_person_11 (by decide) (by first | (with_reducible exact cB _) | ((with_reducible apply cN_eq0) <;> omega) | exact Iff.rfl) (fun c11 => by exfalso; first | omega | exact absurd trivial c11 | exact c11 | (simp at c11)) (fun c11 => ?_)
      refine g_iload_n dX11_person_14 rfl ?_
      refine g_iconst (v := nI 0) dX11_person_15 (by decide) ?_
      refine g_bipush (v := nI 9) dX11_person_16 (by decide) ?_
      refine p_callS (ix) okX11_within lkX11_85 rfl dX11_person_18 rfl (Nat.le_of_ble_eq_true rfl) (⟨by decide, by decide, by decide, by decide⟩) ?_
      refine n_if_eq 50 dX11_person_21 (by decide) (by first | (with_reducible exact cB _) | ((with_reducible apply cN_eq0) <;> omega) | exact Iff.rfl) (fun c21 => ?_) (fun c21 => by exfalso; first | omega | exact absurd trivial c21 | exact c21 | (simp at c21))
      refine g_iconst (v := (-1)) dX11_person_50 (by decide) ?_
      exact g_iret dX11_person_51 rfl (⟨rfl, rfl, rfl, hb, mF2.rf, Or.inr ⟨rfl, sAl.rf⟩⟩)
  · rw [if_neg v1] at ip
    have ans : sp_person a c x y = (-1, a) := by rw [sp_person, if_neg (fun z => v1 z.1)]
    rw [ans]
    refine pvMet.of _ (by decide) rfl (Nat.le_of_ble_eq_true rfl) ?_
    refine g_aload_n dX11_person_0 rfl ?_
    refine g_getP dX11_person_1 fdX11_32 rfl (by first | rfl | exact pv_shx) (by omega) (by omega) (by decide) rfl (hP _ _ _ rfl) ?_
    refine g_getP dX11_person_4 fdX11_277 rfl (by first | rfl | exact pv_shx) (by omega) (by omega) (by decide) rfl (hP _ _ _ rfl) ?_
    refine g_iload_n dX11_person_7 rfl ?_
    refine p_callV (ip) okX7_hasHouse lkX11_287 rfl (by first | rfl | exact pv_shx) rfl (by omega) (by omega) dX11_person_8 rfl (Nat.le_of_ble_eq_true rfl) (⟨by decide, by decide, by decide, by decide⟩) ?_
    refine n_if_eq 50 dX11_person_11 (by decide) (by first | (with_reducible exact cB _) | ((with_reducible apply cN_eq0) <;> omega) | exact Iff.rfl) (fun c11 => ?_) (fun c11 => by exfalso; first | omega | exact absurd trivial c11 | exact c11 | (simp at c11))
    refine g_iconst (v := (-1)) dX11_person_50 (by decide) ?_
    exact g_iret dX11_person_51 rfl (⟨rfl, rfl, rfl, hb, mF2.rf, Or.inr ⟨rfl, sAl.rf⟩⟩)
end TW4
