/-! class: rules -/
section GRO
variable {w h : Nat} {a a' : Nat → Int32} {I I' : pvI} {J J' : pvJ} {P : pvP}
theorem kB.gro (hb : kB w h a I J) (hI : ∀ x, (x < 4 ∨ 8 < x) → x ≠ 43 → (x < 90 ∨ 138 ≤ x) → I' x = I x) (hJ : ∀ x, (x < 4 ∨ 8 < x) → J' x = J x) (h43 : I' 43 0 = I 43 0) (h0 : ag 0 11 a a') (h14 : ag 14 15 a a') (h2 : ag 148 1620 a a') (ht : rGro w h 3 a' I' J') (hg' : mG a') (hc : mCells a') (hfl : mFill a') (hH : fH w h a') (hHk : fHk w h a') (hah : mAh a') (hf' : rFir w h a' I' J') : kB w h a' I' J' := by
  obtain ⟨hg, ⟨r0, r1, r2, r3, r4, r5, r6⟩, hf, htr, ⟨⟨i1, i2, i3, i4, i5, i6⟩, i7, i8, i9, i10, ⟨i11, i12⟩, i13⟩⟩ := id hb
  refine ⟨hg.mv (hI 2 (by omega) (by omega) (by omega)) (hJ 2 (by omega)), ⟨?_, ht, ?_, ?_, ?_, ?_, ?_⟩, hf', htr.mv (hI 138 (by omega) (by omega) (by omega)) (hJ 138 (by omega)), ⟨⟨hg', hc, i3.fr i1 (h0.sub (by omega) (by omega)) (h2.sub (by omega) (by omega)), i4.fr i1 (h0.sub (by omega) (by omega)) (h2.sub (by omega) (by omega)), i5.fr i1 (h0.sub (by omega) (by omega)) (h2.sub (by omega) (by omega)), i6.fr i1 (h0.sub (by omega) (by omega)) (h2.sub (by omega) (by omega))⟩, i7.fr i1 (h0.sub (by omega) (by omega)) (h2.sub (by omega) (by omega)), i8.fr hg' (h0.sub (by omega) (by omega)) (h2.sub (by omega) (by omega)), hfl, i10.fr i1 (h0.sub (by omega) (by omega)) (h2.sub (by omega) (by omega)), ⟨hH, hHk⟩, hah⟩⟩
  · rw [hI 3 (by omega) (by omega) (by omega), h0 0 (by omega) (by omega)]; exact r0
  · exact (r2.fr i1 (h0.sub (by omega) (by omega)) (h2.sub (by omega) (by omega))).mv (fun x z1 z2 => hI x (by omega) (by omega) (by omega)) (fun x z1 z2 => hJ x (by omega))
  · exact (r3.fr i1 (h0.sub (by omega) (by omega)) (h2.sub (by omega) (by omega))).mv (fun x z1 z2 => hI x (by omega) (by omega) (by omega))
  · exact (r4.fr i1 (h0.sub (by omega) (by omega)) h14 (h2.sub (by omega) (by omega))).mv (fun x z1 z2 => hI x (by omega) (by omega) (by omega))
  · exact (r5.fr i1 (h0.sub (by omega) (by omega)) (h2.sub (by omega) (by omega))).mv (fun x z1 z2 => hI x (by omega) (by omega) (by omega))
  · exact (r6.fr i1 (h0.sub (by omega) (by omega)) (h2.sub (by omega) (by omega))).mv (fun x z1 z2 => hI x (by omega) (by omega) (by omega)) h43
theorem kB.wrk (hb : kB w h a I J) (hI : ∀ x, (x < 9 ∨ 19 < x) → x ≠ 43 → (x < 90 ∨ 138 ≤ x) → I' x = I x) (hJ : ∀ x, (x < 9 ∨ 19 < x) → J' x = J x) (h43 : I' 43 0 = I 43 0) (h0 : ag 0 1 a a') (h3 : ag 3 16 a a') (h2 : ag 20 150 a a') (h4 : ag 260 8020 a a') (ht : rWrk w h 3 a' I' J') (hg' : mG a') (hc : mTrench w h a') (hho : mHoles (w * h) a') (hf' : rFir w h a' I' J') : kB w h a' I' J' := by
  obtain ⟨hg, ⟨r0, r1, r2, r3, r4, r5, r6⟩, hf, htr, ⟨⟨i1, i2, i3, i4, i5, i6⟩, i7, i8, i9, i10, ⟨i11, i12⟩, i13⟩⟩ := id hb
  have hwh := hg.wh
  have sp : ag 1620 8020 a a' := h4.sub (by omega) (by omega)
  refine ⟨hg.mv (hI 2 (by omega) (by omega) (by omega)) (hJ 2 (by omega)), ⟨?_, ?_, ht, ?_, ?_, ?_, ?_⟩, hf', htr.mv (hI 138 (by omega) (by omega) (by omega)) (hJ 138 (by omega)), ⟨⟨hg', i2.fr (h2.sub (by omega) (by omega)) sp, i3.fr i1 (h3.sub (by omega) (by omega)) (h4.sub (by omega) (by omega)), hc, hho, i6.fr i1 (h3.sub (by omega) (by omega)) (h4.sub (by omega) (by omega))⟩, i7.fr i1 (h3.sub (by omega) (by omega)) (h4.sub (by omega) (by omega)), i8.fr hg' (h3.sub (by omega) (by omega)) (h4.sub (by omega) (by omega)), i9.fr sp, i10.fr i1 (h3.sub (by omega) (by omega)) (h4.sub (by omega) (by omega)), ⟨i11.fr (h3.sub (by omega) (by omega)) (h2.sub (by omega) (by omega)), i12.fr (h2.sub (by omega) (by omega))⟩, mAh.fr (a := a) i13 i1 h0 (h3.sub (by omega) (by omega)) (h4.sub (by omega) (by omega)) sp⟩⟩
  · rw [hI 3 (by omega) (by omega) (by omega), h0 0 (by omega) (by omega)]; exact r0
  · exact (r1.fr (h3.sub (by omega) (by omega)) (h3.sub (by omega) (by omega)) (h2.sub (by omega) (by omega)) sp hwh.2).mv (fun x z1 z2 => hI x (by omega) (by omega) (by omega)) (fun x z1 z2 => hJ x (by omega))
  · exact (r3.fr i1 (h3.sub (by omega) (by omega)) (h4.sub (by omega) (by omega))).mv (fun x z1 z2 => hI x (by omega) (by omega) (by omega))
  · exact (r4.fr i1 (h3.sub (by omega) (by omega)) (h3.sub (by omega) (by omega)) (h4.sub (by omega) (by omega))).mv (fun x z1 z2 => hI x (by omega) (by omega) (by omega))
  · exact (r5.fr i1 (h3.sub (by omega) (by omega)) (h4.sub (by omega) (by omega))).mv (fun x z1 z2 => hI x (by omega) (by omega) (by omega))
  · exact (r6.fr i1 (h3.sub (by omega) (by omega)) (h4.sub (by omega) (by omega))).mv (fun x z1 z2 => hI x (by omega) (by omega) (by omega)) h43
theorem chg.o {k : Nat} (hc : chg k I I') {x : Nat} (h1 : x ≠ 43) (h2 : x < 90 ∨ 138 ≤ x) : I' x = I x := hc.1 x h1 (fun s hs => by unfold fad; omega)
theorem chg.wk {k : Nat} (hc : chg k I I') : I' 43 0 = I 43 0 ∧ I' 43 3 = -1 := by rw [hc.2.1]; simp [upd]
theorem c_rules {x y z : Int32} (hP : pvOkP P) (hb : kB w h a I J) : pvMet mX11_rules 3 0 0 [.ref 1, .int x, .int y, .int z] 224 I J P (mtQ w h a I J P (sp_rules a x y z)) := by
  have ix := c_within (nx := 224) (v := x) (lo := nI 1) (hi := nI 20) (L := 1) (H := 20) (I := I) (J := J) (P := P) (by decide) (by decide)
  have iy := c_within (nx := 224) (v := y) (lo := nI 1) (hi := nI 99) (L := 1) (H := 99) (I := I) (J := J) (P := P) (by decide) (by decide)
  have iz := c_within (nx := 224) (v := z) (lo := nI 0) (hi := nI 30) (L := 0) (H := 30) (I := I) (J := J) (P := P) (by decide) (by decide)
  by_cases v1 : 1 ≤ x.toInt ∧ x.toInt ≤ 20
  · rw [if_pos v1] at ix
    by_cases v2 : 1 ≤ y.toInt ∧ y.toInt ≤ 99
    · rw [if_pos v2] at iy
      by_cases v3 : 0 ≤ z.toInt ∧ z.toInt ≤ 30
      · rw [if_pos v3] at iz
        obtain ⟨xn, hxn, rfl⟩ := cI_of (x := x) (n := 21) (by omega) (by omega) (by omega)
        obtain ⟨yn, hyn, rfl⟩ := cI_of (x := y) (n := 100) (by omega) (by omega) (by omega)
        obtain ⟨zn, hzn, rfl⟩ := cI_of (x := z) (n := 31) (by omega) (by omega) (by omega)
        have ex : (nI xn).toInt = xn := nI_toInt (by omega)
        have ey : (nI yn).toInt = yn := nI_toInt (by omega)
        have ez : (nI zn).toInt = zn := nI_toInt (by omega)
        have ans : sp_rules a (nI xn) (nI yn) (nI zn) = (1, upd (upd (upd a 11 (nI xn)) 12 (nI yn)) 13 (nI zn)) := by rw [sp_rules, if_pos ⟨v1, v2, v3⟩]
        rw [ans]
        have hi := hb.2.2.2.2
        have n3 := hb.n3.1
        have hf1 : rFir w h a (pvs I 4 (upd (upd (upd (I 4) 8 (nI xn)) 9 (nI yn)) 10 (nI zn))) J := hb.2.2.1.mv (fun x _ _ => pvs_ne (by omega)) (fun _ _ _ => rfl)
        have cf := c_changedFrom (k := 0) hP hf1 (by omega)
        generalize hA : upd (upd (upd a 11 (nI xn)) 12 (nI yn)) 13 (nI zn) = A
        have u : ∀ {i}, i ≠ 11 → i ≠ 12 → i ≠ 13 → A i = a i := fun e1 e2 e3 => by rw [← hA, updI e3, updI e2, updI e1]
        have uc : ∀ {i}, i ≠ 11 → i ≠ 12 → i ≠ 13 → cnt A i = cnt a i := fun e1 e2 e3 => by unfold cnt; rw [u e1 e2 e3]
        have w0 : A 11 = nI xn := by rw [← hA, updI (by omega), updI (by omega), updS]
        have w1 : A 12 = nI yn := by rw [← hA, updI (by omega), updS]
        have w2 : A 13 = nI zn := by rw [← hA, updS]
        have ga : ∀ lo hi', (hi' ≤ 11 ∨ 14 ≤ lo) → ag lo hi' a A := fun lo hi' hz i z1 z2 => u (by omega) (by omega) (by omega)
        have hg' : mG A := fun j hj => by
          by_cases e1 : j = 11
          · subst e1; exact ⟨xn, show xn ≤ 20 by omega, w0⟩
          · by_cases e2 : j = 12
            · subst e2; exact ⟨yn, show yn ≤ 99 by omega, w1⟩
            · by_cases e3 : j = 13
              · subst e3; exact ⟨zn, show zn ≤ 30 by omega, w2⟩
              · rw [u e1 e2 e3]; exact hi.1.1 j hj
        refine pvMet.of _ (by decide) rfl (Nat.le_of_ble_eq_true rfl) ?_
        refine g_iload_n dX11_rules_0 rfl ?_
        refine g_iconst (v := nI 1) dX11_rules_1 (by decide) ?_
        refine g_bipush (v := nI 20) dX11_rules_2 (by decide) ?_
        refine p_callS (ix) okX11_within lkX11_85 rfl dX11_rules_4 rfl (Nat.le_of_ble_eq_true rfl) (⟨by decide, by decide, by decide, by decide⟩) ?_
        refine n_if_eq 30 dX11_rules_7 (by decide) (by first | (with_reducible exact cB _) | ((with_reducible apply cN_eq0) <;> omega) | exact Iff.rfl) (fun c7 => by exfalso; first | omega | exact absurd trivial c7 | exact c7 | (simp at c7)) (fun c7 => ?_)
        refine g_iload_n dX11_rules_10 rfl ?_
        refine g_iconst (v := nI 1) dX11_rules_11 (by decide) ?_
        refine g_bipush (v := nI 99) dX11_rules_12 (by decide) ?_
        refine p_callS (iy) okX11_within lkX11_85 rfl dX11_rules_14 rfl (Nat.le_of_ble_eq_true rfl) (⟨by decide, by decide, by decide, by decide⟩) ?_
        refine n_if_eq 30 dX11_rules_17 (by decide) (by first | (with_reducible exact cB _) | ((with_reducible apply cN_eq0) <;> omega) | exact Iff.rfl) (fun c17 => by exfalso; first | omega | exact absurd trivial c17 | exact c17 | (simp at c17)) (fun c17 => ?_)
        refine g_iload_n dX11_rules_20 rfl ?_
        refine g_iconst (v := nI 0) dX11_rules_21 (by decide) ?_
        refine g_bipush (v := nI 30) dX11_rules_22 (by decide) ?_
        refine p_callS (iz) okX11_within lkX11_85 rfl dX11_rules_24 rfl (Nat.le_of_ble_eq_true rfl) (⟨by decide, by decide, by decide, by decide⟩) ?_
        refine n_if_ne 32 dX11_rules_27 (by decide) (by first | (with_reducible exact cB _) | ((with_reducible apply cN_eq0) <;> omega) | exact Iff.rfl) (fun c27 => ?_) (fun c27 => by exfalso; first | omega | exact absurd trivial c27 | exact c27 | (simp at c27))
        refine g_aload_n dX11_rules_32 rfl ?_
        refine g_getP dX11_rules_33 fdX11_32 rfl (by first | rfl | exact pv_shx) (by omega) (by omega) (by decide) rfl (hP _ _ _ rfl) ?_
        refine g_getP dX11_rules_36 fdX11_89 rfl (by first | rfl | exact pv_shx) (by omega) (by omega) (by decide) rfl (hP _ _ _ rfl) ?_
        refine g_iload_n dX11_rules_39 rfl ?_
        refine n_putI dX11_rules_40 fdX11_103 rfl (fun h => absurd h (by decide)) (by first | rfl | exact pv_shx) (by omega) (by omega) (by decide) rfl (by repeat (first | exact pvu_s | exact pvuJ_s | apply pvu_in (by omega) | apply pvuJ_in (by omega) | exact pvu_pvs | exact pvuJ_pvs)) ?_
        refine g_aload_n dX11_rules_43 rfl ?_
        refine g_getP dX11_rules_44 fdX11_32 rfl (by first | rfl | exact pv_shx) (by omega) (by omega) (by decide) rfl (hP _ _ _ rfl) ?_
        refine g_getP dX11_rules_47 fdX11_89 rfl (by first | rfl | exact pv_shx) (by omega) (by omega) (by decide) rfl (hP _ _ _ rfl) ?_
        refine g_iload_n dX11_rules_50 rfl ?_
        refine n_putI dX11_rules_51 fdX11_106 rfl (fun h => absurd h (by decide)) (by first | rfl | exact pv_shx) (by omega) (by omega) (by decide) rfl (by repeat (first | exact pvu_s | exact pvuJ_s | apply pvu_in (by omega) | apply pvuJ_in (by omega) | exact pvu_pvs | exact pvuJ_pvs)) ?_
        refine g_aload_n dX11_rules_54 rfl ?_
        refine g_getP dX11_rules_55 fdX11_32 rfl (by first | rfl | exact pv_shx) (by omega) (by omega) (by decide) rfl (hP _ _ _ rfl) ?_
        refine g_getP dX11_rules_58 fdX11_89 rfl (by first | rfl | exact pv_shx) (by omega) (by omega) (by decide) rfl (hP _ _ _ rfl) ?_
        refine g_iload_n dX11_rules_61 rfl ?_
        refine n_putI dX11_rules_62 fdX11_109 rfl (fun h => absurd h (by decide)) (by first | rfl | exact pv_shx) (by omega) (by omega) (by decide) rfl (by repeat (first | exact pvu_s | exact pvuJ_s | apply pvu_in (by omega) | apply pvuJ_in (by omega) | exact pvu_pvs | exact pvuJ_pvs)) ?_
        refine g_aload_n dX11_rules_65 rfl ?_
        refine g_iconst (v := nI 0) dX11_rules_66 (by decide) ?_
        refine g_callV (cf) okX11_changedFrom lkX11_99 rfl (by first | rfl | exact pv_shx) rfl (by omega) (by omega) dX11_rules_67 rfl (Nat.le_of_ble_eq_true rfl) (⟨by decide, by decide, by decide, by decide⟩) ?_
        rintro v nx' I1 J1 P' ⟨rfl, rfl, rfl, rfl, q1⟩
        have o : ∀ z, z ≠ 4 → z ≠ 43 → (z < 90 ∨ 138 ≤ z) → I1 z = I z := fun z z1 z2 z3 => (q1.o z2 z3).trans (pvs_ne z1)
        have e4 : I1 4 = upd (upd (upd (I 4) 8 (nI xn)) 9 (nI yn)) 10 (nI zn) := (q1.o (by decide) (by omega)).trans pvs_eq
        obtain ⟨x1, x2, x3, x4, x5, x6, x7, x8, x9, x10⟩ := hb.2.1.2.1
        have ht : rGro w h 3 A I1 J1 := by
          refine ⟨?_, ?_, ?_, ?_, ?_, ?_, ?_, ?_, ?_, ?_⟩
          · intro c hc
            rw [o (3 + 2) (by omega) (by omega) (by omega), u (by omega) (by omega) (by omega)]; exact x1 c hc
          · intro c hc
            rw [o (3 + 3) (by omega) (by omega) (by omega), u (by omega) (by omega) (by omega)]; exact x2 c hc
          · intro c hc
            rw [o (3 + 4) (by omega) (by omega) (by omega), fN.fr (ga _ _ (by omega)) hc]; exact x3 c hc
          · intro m hm
            refine (x4 m hm).trans (mk_cong (fun c hc => ?_))
            unfold fullB fsum
            rw [sumN_cong m (fun k hk => (ga 1620 8020 (by omega)).c (a := a) (a' := A) (i := 1620 + 64 * k + c) (by omega) (by omega))]
          · exact x5.trans (mk_cong (fun c hc => by rw [uc (by omega) (by omega) (by omega)]))
          · exact x6.trans (mk_cong (fun c hc => by rw [uc (by omega) (by omega) (by omega)]))
          · show I1 4 7 = _
            rw [e4, updI (by decide), updI (by decide), updI (by decide), u (by omega) (by omega) (by omega)]; exact x7
          · show I1 4 8 = _
            rw [e4, updI (by decide), updI (by decide), updS, w0]
          · show I1 4 9 = _
            rw [e4, updI (by decide), updS, w1]
          · show I1 4 10 = _
            rw [e4, updS, w2]
        have hf' : rFir w h A I1 J1 := hf1.chg q1 (by omega) (uc (by omega) (by omega) (by omega)) (fun s hs => ⟨u (by omega) (by omega) (by omega), u (by omega) (by omega) (by omega)⟩) (fun s j _ _ hj => absurd hj (Nat.not_lt_zero j))
        have fin := hb.gro (I' := I1) (J' := J1) (fun z z1 z2 z3 => o z (by omega) z2 z3) (fun _ _ => rfl) (by rw [q1.wk.1, pvs_ne (by decide)]) (ga _ _ (by omega)) (ga _ _ (by omega)) (ga _ _ (by omega)) ht hg' (hi.1.2.1.fr (ga _ _ (by omega)) (ga _ _ (by omega))) (hi.2.2.2.1.fr (ga _ _ (by omega))) ⟨(fun c z1 z2 => by rw [uc (by omega) (by omega) (by omega)]; exact hi.2.2.2.2.2.1.1.1 c z1 z2), by rw [cnt_of w0 (by omega)]; omega⟩ (hi.2.2.2.2.2.1.2.fr (ga _ _ (by omega))) (mAh.fr (a := a) hi.2.2.2.2.2.2 hi.1.1 (ga _ _ (by omega)) (ga _ _ (by omega)) (ga _ _ (by omega)) (ga _ _ (by omega))) hf'
        refine g_iconst (v := nI 1) dX11_rules_70 (by decide) ?_
        exact g_zret (by first | exact Or.inl rfl | exact Or.inr rfl | exact cB01 _) dX11_rules_71 rfl (⟨rfl, rfl, rfl, fin, fun z hz => ⟨o z (by omega) (by omega) (by omega), rfl⟩, Or.inl q1.wk.2⟩)
      · rw [if_neg v3] at iz
        have ans : sp_rules a x y z = (0, a) := by rw [sp_rules, if_neg (fun q => v3 q.2.2)]
        rw [ans]
        refine pvMet.of _ (by decide) rfl (Nat.le_of_ble_eq_true rfl) ?_
        refine g_iload_n dX11_rules_0 rfl ?_
        refine g_iconst (v := nI 1) dX11_rules_1 (by decide) ?_
        refine g_bipush (v := nI 20) dX11_rules_2 (by decide) ?_
        refine p_callS (ix) okX11_within lkX11_85 rfl dX11_rules_4 rfl (Nat.le_of_ble_eq_true rfl) (⟨by decide, by decide, by decide, by decide⟩) ?_
        refine n_if_eq 30 dX11_rules_7 (by decide) (by first | (with_reducible exact cB _) | ((with_reducible apply cN_eq0) <;> omega) | exact Iff.rfl) (fun c7 => by exfalso; first | omega | exact absurd trivial c7 | exact c7 | (simp at c7)) (fun c7 => ?_)
        refine g_iload_n dX11_rules_10 rfl ?_
        refine g_iconst (v := nI 1) dX11_rules_11 (by decide) ?_
        refine g_bipush (v := nI 99) dX11_rules_12 (by decide) ?_
        refine p_callS (iy) okX11_within lkX11_85 rfl dX11_rules_14 rfl (Nat.le_of_ble_eq_true rfl) (⟨by decide, by decide, by decide, by decide⟩) ?_
        refine n_if_eq 30 dX11_rules_17 (by decide) (by first | (with_reducible exact cB _) | ((with_reducible apply cN_eq0) <;> omega) | exact Iff.rfl) (fun c17 => by exfalso; first | omega | exact absurd trivial c17 | exact c17 | (simp at c17)) (fun c17 => ?_)
        refine g_iload_n dX11_rules_20 rfl ?_
        refine g_iconst (v := nI 0) dX11_rules_21 (by decide) ?_
        refine g_bipush (v := nI 30) dX11_rules_22 (by decide) ?_
        refine p_callS (iz) okX11_within lkX11_85 rfl dX11_rules_24 rfl (Nat.le_of_ble_eq_true rfl) (⟨by decide, by decide, by decide, by decide⟩) ?_
        refine n_if_ne 32 dX11_rules_27 (by decide) (by first | (with_reducible exact cB _) | ((with_reducible apply cN_eq0) <;> omega) | exact Iff.rfl) (fun c27 => by exfalso; first | omega | exact absurd trivial c27 | exact c27 | (simp at c27)) (fun c27 => ?_)
        refine g_iconst (v := nI 0) dX11_rules_30 (by decide) ?_
        exact g_zret (by first | exact Or.inl rfl | exact Or.inr rfl | exact cB01 _) dX11_rules_31 rfl (⟨rfl, rfl, rfl, hb, mF2.rf, Or.inr ⟨rfl, sAl.rf⟩⟩)
    · rw [if_neg v2] at iy
      have ans : sp_rules a x y z = (0, a) := by rw [sp_rules, if_neg (fun q => v2 q.2.1)]
      rw [ans]
      refine pvMet.of _ (by decide) rfl (Nat.le_of_ble_eq_true rfl) ?_
      refine g_iload_n dX11_rules_0 rfl ?_
      refine g_iconst (v := nI 1) dX11_rules_1 (by decide) ?_
      refine g_bipush (v := nI 20) dX11_rules_2 (by decide) ?_
      refine p_callS (ix) okX11_within lkX11_85 rfl dX11_rules_4 rfl (Nat.le_of_ble_eq_true rfl) (⟨by decide, by decide, by decide, by decide⟩) ?_
      refine n_if_eq 30 dX11_rules_7 (by decide) (by first | (with_reducible exact cB _) | ((with_reducible apply cN_eq0) <;> omega) | exact Iff.rfl) (fun c7 => by exfalso; first | omega | exact absurd trivial c7 | exact c7 | (simp at c7)) (fun c7 => ?_)
      refine g_iload_n dX11_rules_10 rfl ?_
      refine g_iconst (v := nI 1) dX11_rules_11 (by decide) ?_
      refine g_bipush (v := nI 99) dX11_rules_12 (by decide) ?_
      refine p_callS (iy) okX11_within lkX11_85 rfl dX11_rules_14 rfl (Nat.le_of_ble_eq_true rfl) (⟨by decide, by decide, by decide, by decide⟩) ?_
      refine n_if_eq 30 dX11_rules_17 (by decide) (by first | (with_reducible exact cB _) | ((with_reducible apply cN_eq0) <;> omega) | exact Iff.rfl) (fun c17 => ?_) (fun c17 => by exfalso; first | omega | exact absurd trivial c17 | exact c17 | (simp at c17))
      refine g_iconst (v := nI 0) dX11_rules_30 (by decide) ?_
      exact g_zret (by first | exact Or.inl rfl | exact Or.inr rfl | exact cB01 _) dX11_rules_31 rfl (⟨rfl, rfl, rfl, hb, mF2.rf, Or.inr ⟨rfl, sAl.rf⟩⟩)
  · rw [if_neg v1] at ix
    have ans : sp_rules a x y z = (0, a) := by rw [sp_rules, if_neg (fun q => v1 q.1)]
    rw [ans]
    refine pvMet.of _ (by decide) rfl (Nat.le_of_ble_eq_true rfl) ?_
    refine g_iload_n dX11_rules_0 rfl ?_
    refine g_iconst (v := nI 1) dX11_rules_1 (by decide) ?_
    refine g_bipush (v := nI 20) dX11_rules_2 (by decide) ?_
    refine p_callS (ix) okX11_within lkX11_85 rfl dX11_rules_4 rfl (Nat.le_of_ble_eq_true rfl) (⟨by decide, by decide, by decide, by decide⟩) ?_
    refine n_if_eq 30 dX11_rules_7 (by decide) (by first | (with_reducible exact cB _) | ((with_reducible apply cN_eq0) <;> omega) | exact Iff.rfl) (fun c7 => ?_) (fun c7 => by exfalso; first | omega | exact absurd trivial c7 | exact c7 | (simp at c7))
    refine g_iconst (v := nI 0) dX11_rules_30 (by decide) ?_
    exact g_zret (by first | exact Or.inl rfl | exact Or.inr rfl | exact cB01 _) dX11_rules_31 rfl (⟨rfl, rfl, rfl, hb, mF2.rf, Or.inr ⟨rfl, sAl.rf⟩⟩)
end GRO
