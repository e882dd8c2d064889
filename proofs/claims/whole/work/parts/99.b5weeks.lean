/-! class: weeks -/
section WKS
variable {w h : Nat} {a a' : Nat → Int32} {I I' : pvI} {J : pvJ} {P : pvP}
theorem kB.tick (hb : kB w h a I J) (hI : ∀ x, x ≠ 3 → I' x = I x) (h3 : I' 3 0 = a' 0) (h0 : a' 0 = nI (cnt a 0 + 1)) (hc : cnt a 0 < 100) (h1 : ag 1 8020 a a') : kB w h a' I' J := by
  obtain ⟨hg, ⟨r0, r1, r2, r3, r4, r5, r6⟩, hf, htr, ⟨⟨i1, i2, i3, i4, i5, i6⟩, i7, i8, i9, i10, ⟨i11, i12⟩, i13⟩⟩ := id hb
  have hwh := hg.wh
  have hw := hg.2.2.2.2.2.2.1
  have hg' : mG a' := i1.one (i := 0) (v := cnt a 0 + 1) (by decide) (show cnt a 0 + 1 ≤ 100 by omega) h0 (fun j z1 z2 => h1 j (by omega) (by omega))
  have c0 : cnt a' 0 = cnt a 0 + 1 := cnt_of h0 (by omega)
  have n4 : cnt a 4 ≤ 200 := i1.le (by decide)
  have s : ∀ lo hi, 1 ≤ lo → hi ≤ 8020 → ag lo hi a a' := fun lo hi z1 z2 => h1.sub z1 z2
  refine ⟨hg.mv (hI 2 (by omega)) rfl, ⟨h3, ?_, ?_, ?_, ?_, ?_, ?_⟩, ?_, htr.mv (hI 138 (by omega)) rfl, ⟨⟨hg', i2.fr (s _ _ (by omega) (by omega)) (s _ _ (by omega) (by omega)), i3.fr i1 (s _ _ (by omega) (by omega)) (s _ _ (by omega) (by omega)), i4.fr i1 (s _ _ (by omega) (by omega)) (s _ _ (by omega) (by omega)), i5.fr i1 (s _ _ (by omega) (by omega)) (s _ _ (by omega) (by omega)), i6.fr i1 (s _ _ (by omega) (by omega)) (s _ _ (by omega) (by omega))⟩, i7.fr i1 (s _ _ (by omega) (by omega)) (s _ _ (by omega) (by omega)), i8.fr hg' (s _ _ (by omega) (by omega)) (s _ _ (by omega) (by omega)), i9.fr (s _ _ (by omega) (by omega)), i10.fr i1 (s _ _ (by omega) (by omega)) (s _ _ (by omega) (by omega)), ⟨i11.fr (s _ _ (by omega) (by omega)) (s _ _ (by omega) (by omega)), i12.fr (s _ _ (by omega) (by omega))⟩, ?_, ?_⟩⟩
  · exact (r1.fr (s _ _ (by omega) (by omega)) (s _ _ (by omega) (by omega)) (s _ _ (by omega) (by omega)) (s _ _ (by omega) (by omega)) hwh.2).mv (fun x z1 z2 => hI x (by omega)) (fun _ _ _ => rfl)
  · exact (r2.fr i1 (s _ _ (by omega) (by omega)) (s _ _ (by omega) (by omega))).mv (fun x z1 z2 => hI x (by omega)) (fun _ _ _ => rfl)
  · exact (r3.fr i1 (s _ _ (by omega) (by omega)) (s _ _ (by omega) (by omega))).mv (fun x z1 z2 => hI x (by omega))
  · exact (r4.fr i1 (s _ _ (by omega) (by omega)) (s _ _ (by omega) (by omega)) (s _ _ (by omega) (by omega))).mv (fun x z1 z2 => hI x (by omega))
  · exact (r5.fr i1 (s _ _ (by omega) (by omega)) (s _ _ (by omega) (by omega))).mv (fun x z1 z2 => hI x (by omega))
  · exact (r6.fr i1 (s _ _ (by omega) (by omega)) (s _ _ (by omega) (by omega))).mv (fun x z1 z2 => hI x (by omega)) (by rw [hI (3 + 40) (by omega)])
  · exact (hf.fr (by omega) hwh.2 i1 (s _ _ (by omega) (by omega)) (s _ _ (by omega) (by omega)) (s _ _ (by omega) (by omega)) (s _ _ (by omega) (by omega))).mv (fun x z1 z2 => hI x (by omega)) (fun _ _ _ => rfl)
  · intro m c z1 z2 z3
    rw [(s 1620 8020 (by omega) (by omega)).c (by omega) (by omega)]
    exact i13.1 m c (by omega) z2 z3
  · intro r z
    rw [(s 4 5 (by omega) (by omega)).c (by omega) (by omega)] at z
    have := i13.2 r z
    rw [(s 280 1080 (by omega) (by omega)).c (by omega) (by omega)]
    omega
theorem kB.f43 (hb : kB w h a I J) : kB w h a (pvs I 43 (upd (upd (I 43) 3 (-1)) 4 (-1))) J := by
  obtain ⟨hg, ⟨r0, r1, r2, r3, r4, r5, r6⟩, hf, htr, hi⟩ := id hb
  have o : ∀ x, x ≠ 43 → pvs I 43 (upd (upd (I 43) 3 (-1)) 4 (-1)) x = I x := fun x hx => pvs_ne hx
  exact ⟨hg.mv (o 2 (by decide)) rfl, ⟨by rw [o 3 (by decide)]; exact r0, r1.mv (fun x z1 z2 => o x (by omega)) (fun _ _ _ => rfl), r2.mv (fun x z1 z2 => o x (by omega)) (fun _ _ _ => rfl), r3.mv (fun x z1 z2 => o x (by omega)), r4.mv (fun x z1 z2 => o x (by omega)), r5.mv (fun x z1 z2 => o x (by omega)), r6.mv (fun x z1 z2 => o x (by omega)) (by rw [show (3 + 40 : Nat) = 43 from rfl, pvs_eq]; simp [upd])⟩, hf.mv (fun x z1 z2 => o x (by omega)) (fun _ _ _ => rfl), htr.mv (o 138 (by decide)) rfl, hi⟩
theorem c_weeks {m : Int32} (hP : pvOkP P) (hb : kB w h a I J) : pvMet mX11_weeks 2 0 0 [.ref 1, .int m] 224 I J P (mtQ w h a I J P (sp_weeks a m)) := by
  obtain ⟨n0, r0⟩ := hb.n0
  have im := c_within (nx := 224) (v := m) (lo := nI 1) (hi := nI 20) (L := 1) (H := 20) (I := I) (J := J) (P := P) (by decide) (by decide)
  by_cases v1 : 1 ≤ m.toInt ∧ m.toInt ≤ 20
  · rw [if_pos v1] at im
    obtain ⟨mn, hmn, rfl⟩ := cI_of (x := m) (n := 21) (by omega) (by omega) (by omega)
    have em : (nI mn).toInt = mn := nI_toInt (by omega)
    by_cases v2 : cnt a 0 + mn ≤ 100
    · have ans : sp_weeks a (nI mn) = (nI (cnt a 0 + mn), sp_wks a mn) := by rw [sp_weeks, if_pos ⟨v1, by omega⟩, nI_clamp (by omega)]
      rw [ans]
      have hl := hb.2.2.2.2.2.2.1
      have lp : ∀ q i I1, i + q = mn → kB w h (sp_wks a i) I1 J → (∀ x, (x < 3 ∨ 38 < x) → I1 x = I x) → pvG mX11_weeks (pvR 2 0 0) (pvZ (mtQ w h a I J P (nI (cnt a 0 + mn), sp_wks a mn)) 0 0) 28 [.ref 1, .int (nI mn), .int (nI i)] [] 0 0 224 I1 J P := by
        intro q
        induction q with
        | zero =>
          intro i I1 hi h1 h2
          obtain rfl : i = mn := by omega
          have e0 := (sp_wks_ok hl (k := i) (by omega)).2
          have f3 : I1 3 0 = nI (cnt a 0 + i) := h1.2.1.1.trans e0
          have wf := c_wforget (I := I1) (J := J) hP
          have f3' : pvs I1 43 (upd (upd (I1 43) 3 (-1)) 4 (-1)) 3 0 = nI (cnt a 0 + i) := by rw [pvs_ne (by decide)]; exact f3
          refine g_iload_n dX11_weeks_28 rfl ?_
          refine g_iload_n dX11_weeks_29 rfl ?_
          refine n_icmp_ge 69 dX11_weeks_30 (by decide) (by first | ((with_reducible apply cN_le) <;> omega) | ((with_reducible apply cI_len) <;> omega) | ((with_reducible apply cI_nle) <;> omega) | (with_reducible exact cI_le)) (fun c30 => ?_) (fun c30 => by exfalso; first | omega | exact absurd trivial c30 | exact c30 | (simp at c30))
          refine g_aload_n dX11_weeks_69 rfl ?_
          refine g_getP dX11_weeks_70 fdX11_32 rfl (by first | rfl | exact pv_shx) (by omega) (by omega) (by decide) rfl (hP _ _ _ rfl) ?_
          refine g_getP dX11_weeks_73 fdX11_180 rfl (by first | rfl | exact pv_shx) (by omega) (by omega) (by decide) rfl (hP _ _ _ rfl) ?_
          refine g_callV (wf) okX8_forget lkX11_184 rfl (by first | rfl | exact pv_shx) rfl (by omega) (by omega) dX11_weeks_76 rfl (Nat.le_of_ble_eq_true rfl) (⟨by decide, by decide, by decide, by decide⟩) ?_
          rintro v nx' I2 J2 P' ⟨rfl, rfl, rfl, rfl, rfl⟩
          refine g_aload_n dX11_weeks_79 rfl ?_
          refine g_getP dX11_weeks_80 fdX11_32 rfl (by first | rfl | exact pv_shx) (by omega) (by omega) (by decide) rfl (hP _ _ _ rfl) ?_
          refine n_getI dX11_weeks_83 fdX11_77 rfl (by first | rfl | exact pv_shx) (by omega) (by omega) (by decide) rfl (by repeat (first | exact f3' | (apply rd_s; done) | apply rd_n (by omega) | apply rp_s | apply rp_n (by omega) | (apply rdL_s; done) | apply rdL_n (by omega) | apply rpJ_s | apply rpJ_n (by omega) | rfl)) ?_
          exact g_iret dX11_weeks_86 rfl (⟨rfl, rfl, rfl, h1.f43, fun z hz => ⟨by rw [pvs_ne (by omega)]; exact h2 z (by omega), rfl⟩, Or.inl (by rw [pvs_eq]; simp [upd])⟩)
        | succ q ih =>
          intro i I1 hi h1 h2
          obtain ⟨l1, e0⟩ := sp_wks_ok hl (k := i) (by omega)
          have c0 : cnt (sp_wks a i) 0 = cnt a 0 + i := cnt_of e0 (by omega)
          have f3 : I1 3 0 = nI (cnt a 0 + i) := h1.2.1.1.trans e0
          have to := c_takeOffers (J := J) hP l1 c0 h1.2.1.2.2.2.2.1
          obtain ⟨g3, g4⟩ := sp_lv_keep (k := 61) l1
          have gk : ∀ lo hi', (hi' ≤ 7 ∨ (8 ≤ lo ∧ hi' ≤ 1200) ∨ 1500 ≤ lo) → ag lo hi' (sp_wks a i) (sp_lv 61 (sp_wks a i)) := fun lo hi' hz j z1 z2 => g4 j (by omega) (by omega)
          have c0' : cnt (sp_lv 61 (sp_wks a i)) 0 = cnt a 0 + i := by rw [(gk 0 1 (by omega)).c (by omega) (by omega)]; exact c0
          have ds : sp_wks a (i + 1) = sp_tick (sp_lv 61 (sp_wks a i)) := rfl
          refine g_iload_n dX11_weeks_28 rfl ?_
          refine g_iload_n dX11_weeks_29 rfl ?_
          refine n_icmp_ge 69 dX11_weeks_30 (by decide) (by first | ((with_reducible apply cN_le) <;> omega) | ((with_reducible apply cI_len) <;> omega) | ((with_reducible apply cI_nle) <;> omega) | (with_reducible exact cI_le)) (fun c30 => by exfalso; first | omega | exact absurd trivial c30 | exact c30 | (simp at c30)) (fun c30 => ?_)
          refine g_aload_n dX11_weeks_33 rfl ?_
          refine g_getP dX11_weeks_34 fdX11_32 rfl (by first | rfl | exact pv_shx) (by omega) (by omega) (by decide) rfl (hP _ _ _ rfl) ?_
          refine g_getP dX11_weeks_37 fdX11_277 rfl (by first | rfl | exact pv_shx) (by omega) (by omega) (by decide) rfl (hP _ _ _ rfl) ?_
          refine g_aload_n dX11_weeks_40 rfl ?_
          refine g_getP dX11_weeks_41 fdX11_32 rfl (by first | rfl | exact pv_shx) (by omega) (by omega) (by decide) rfl (hP _ _ _ rfl) ?_
          refine n_getI dX11_weeks_44 fdX11_77 rfl (by first | rfl | exact pv_shx) (by omega) (by omega) (by decide) rfl (by repeat (first | exact f3 | (apply rd_s; done) | apply rd_n (by omega) | apply rp_s | apply rp_n (by omega) | (apply rdL_s; done) | apply rdL_n (by omega) | apply rpJ_s | apply rpJ_n (by omega) | rfl)) ?_
          refine g_callV (to) okX7_takeOffers lkX11_321 rfl (by first | rfl | exact pv_shx) rfl (by omega) (by omega) dX11_weeks_47 rfl (Nat.le_of_ble_eq_true rfl) (⟨by decide, by decide, by decide, by decide⟩) ?_
          rintro v nx' I2 J2 P' ⟨rfl, rfl, rfl, rfl, o1, o2⟩
          have k2 := h1.twn (I' := I2) (fun x hx => o2 x (by omega) (by omega)) (gk _ _ (by omega)) (gk _ _ (by omega)) (gk _ _ (by omega)) (gk _ _ (by omega)) (gk _ _ (by omega)) o1 g3
          have f3b : I2 3 0 = nI (cnt a 0 + i) := by rw [o2 3 (by decide) (by decide)]; exact f3
          have k3 : kB w h (sp_wks a (i + 1)) (pvs I2 3 (upd (I2 3) 0 (nI (cnt a 0 + i + 1)))) J2 := by
            rw [ds]
            refine k2.tick (fun x hx => pvs_ne hx) ?_ ?_ (by omega) (fun j z1 z2 => by unfold sp_tick; exact updI (by omega))
            · rw [pvs_eq, updS]; unfold sp_tick; rw [updS, c0']
            · unfold sp_tick; rw [updS]
          have nx := ih (i + 1) _ (by omega) k3 (fun x hx => by rw [pvs_ne (by omega), o2 x (by omega) (by omega)]; exact h2 x hx)
          refine g_aload_n dX11_weeks_50 rfl ?_
          refine g_getP dX11_weeks_51 fdX11_32 rfl (by first | rfl | exact pv_shx) (by omega) (by omega) (by decide) rfl (hP _ _ _ rfl) ?_
          refine g_dup dX11_weeks_54 rfl ?_
          refine n_getI dX11_weeks_55 fdX11_77 rfl (by first | rfl | exact pv_shx) (by omega) (by omega) (by decide) rfl (by repeat (first | exact f3b | (apply rd_s; done) | apply rd_n (by omega) | apply rp_s | apply rp_n (by omega) | (apply rdL_s; done) | apply rdL_n (by omega) | apply rpJ_s | apply rpJ_n (by omega) | rfl)) ?_
          refine g_iconst (v := nI 1) dX11_weeks_58 (by decide) ?_
          refine n_iadd dX11_weeks_59 (by first | (with_reducible exact nI_add _ _) | rfl) ?_
          refine n_putI dX11_weeks_60 fdX11_77 rfl (fun h => absurd h (by decide)) (by first | rfl | exact pv_shx) (by omega) (by omega) (by decide) rfl (by repeat (first | exact pvu_s | exact pvuJ_s | apply pvu_in (by omega) | apply pvuJ_in (by omega) | exact pvu_pvs | exact pvuJ_pvs)) ?_
          refine g_iinc dX11_weeks_63 rfl (by first | (with_reducible exact nI_1 _) | exact nI_1 _ | exact pk_m1 _ | rfl) (by decide) rfl ?_
          refine g_goto 28 dX11_weeks_66 (by decide) ?_
          exact nx
      refine pvMet.of _ (by decide) rfl (Nat.le_of_ble_eq_true rfl) ?_
      refine g_iload_n dX11_weeks_0 rfl ?_
      refine g_iconst (v := nI 1) dX11_weeks_1 (by decide) ?_
      refine g_bipush (v := nI 20) dX11_weeks_2 (by decide) ?_
      refine p_callS (im) okX11_within lkX11_85 rfl dX11_weeks_4 rfl (Nat.le_of_ble_eq_true rfl) (⟨by decide, by decide, by decide, by decide⟩) ?_
      refine n_if_eq 24 dX11_weeks_7 (by decide) (by first | (with_reducible exact cB _) | ((with_reducible apply cN_eq0) <;> omega) | exact Iff.rfl) (fun c7 => by exfalso; first | omega | exact absurd trivial c7 | exact c7 | (simp at c7)) (fun c7 => ?_)
      refine g_aload_n dX11_weeks_10 rfl ?_
      refine g_getP dX11_weeks_11 fdX11_32 rfl (by first | rfl | exact pv_shx) (by omega) (by omega) (by decide) rfl (hP _ _ _ rfl) ?_
      refine n_getI dX11_weeks_14 fdX11_77 rfl (by first | rfl | exact pv_shx) (by omega) (by omega) (by decide) rfl (by repeat (first | exact r0 | (apply rd_s; done) | apply rd_n (by omega) | apply rp_s | apply rp_n (by omega) | (apply rdL_s; done) | apply rdL_n (by omega) | apply rpJ_s | apply rpJ_n (by omega) | rfl)) ?_
      refine g_iload_n dX11_weeks_17 rfl ?_
      refine n_iadd dX11_weeks_18 (by first | (with_reducible exact nI_add _ _) | rfl) ?_
      refine g_bipush (v := nI 100) dX11_weeks_19 (by decide) ?_
      refine n_icmp_le 26 dX11_weeks_21 (by decide) (by first | ((with_reducible apply cN_le) <;> omega) | ((with_reducible apply cI_len) <;> omega) | ((with_reducible apply cI_nle) <;> omega) | (with_reducible exact cI_le)) (fun c21 => ?_) (fun c21 => by exfalso; first | omega | exact absurd trivial c21 | exact c21 | (simp at c21))
      refine g_iconst (v := nI 0) dX11_weeks_26 (by decide) ?_
      refine g_istore_n dX11_weeks_27 (by decide) rfl ?_
      exact lp mn 0 I (by omega) hb (fun _ _ => rfl)
    · have ans : sp_weeks a (nI mn) = (-1, a) := by rw [sp_weeks, if_neg (fun z => by have := z.2; omega)]
      rw [ans]
      refine pvMet.of _ (by decide) rfl (Nat.le_of_ble_eq_true rfl) ?_
      refine g_iload_n dX11_weeks_0 rfl ?_
      refine g_iconst (v := nI 1) dX11_weeks_1 (by decide) ?_
      refine g_bipush (v := nI 20) dX11_weeks_2 (by decide) ?_
      refine p_callS (im) okX11_within lkX11_85 rfl dX11_weeks_4 rfl (Nat.le_of_ble_eq_true rfl) (⟨by decide, by decide, by decide, by decide⟩) ?_
      refine n_if_eq 24 dX11_weeks_7 (by decide) (by first | (with_reducible exact cB _) | ((with_reducible apply cN_eq0) <;> omega) | exact Iff.rfl) (fun c7 => by exfalso; first | omega | exact absurd trivial c7 | exact c7 | (simp at c7)) (fun c7 => ?_)
      refine g_aload_n dX11_weeks_10 rfl ?_
      refine g_getP dX11_weeks_11 fdX11_32 rfl (by first | rfl | exact pv_shx) (by omega) (by omega) (by decide) rfl (hP _ _ _ rfl) ?_
      refine n_getI dX11_weeks_14 fdX11_77 rfl (by first | rfl | exact pv_shx) (by omega) (by omega) (by decide) rfl (by repeat (first | exact r0 | (apply rd_s; done) | apply rd_n (by omega) | apply rp_s | apply rp_n (by omega) | (apply rdL_s; done) | apply rdL_n (by omega) | apply rpJ_s | apply rpJ_n (by omega) | rfl)) ?_
      refine g_iload_n dX11_weeks_17 rfl ?_
      refine n_iadd dX11_weeks_18 (by first | (with_reducible exact nI_add _ _) | rfl) ?_
      refine g_bipush (v := nI 100) dX11_weeks_19 (by decide) ?_
      refine n_icmp_le 26 dX11_weeks_21 (by decide) (by first | ((with_reducible apply cN_le) <;> omega) | ((with_reducible apply cI_len) <;> omega) | ((with_reducible apply cI_nle) <;> omega) | (with_reducible exact cI_le)) (fun c21 => by exfalso; first | omega | exact absurd trivial c21 | exact c21 | (simp at c21)) (fun c21 => ?_)
      refine g_iconst (v := (-1)) dX11_weeks_24 (by decide) ?_
      exact g_iret dX11_weeks_25 rfl (⟨rfl, rfl, rfl, hb, mF2.rf, Or.inr ⟨rfl, sAl.rf⟩⟩)
  · rw [if_neg v1] at im
    have ans : sp_weeks a m = (-1, a) := by rw [sp_weeks, if_neg (fun z => v1 z.1)]
    rw [ans]
    refine pvMet.of _ (by decide) rfl (Nat.le_of_ble_eq_true rfl) ?_
    refine g_iload_n dX11_weeks_0 rfl ?_
    refine g_iconst (v := nI 1) dX11_weeks_1 (by decide) ?_
    refine g_bipush (v := nI 20) dX11_weeks_2 (by decide) ?_
    refine p_callS (im) okX11_within lkX11_85 rfl dX11_weeks_4 rfl (Nat.le_of_ble_eq_true rfl) (⟨by decide, by decide, by decide, by decide⟩) ?_
    refine n_if_eq 24 dX11_weeks_7 (by decide) (by first | (with_reducible exact cB _) | ((with_reducible apply cN_eq0) <;> omega) | exact Iff.rfl) (fun c7 => ?_) (fun c7 => by exfalso; first | omega | exact absurd trivial c7 | exact c7 | (simp at c7))
    refine g_iconst (v := (-1)) dX11_weeks_24 (by decide) ?_
    exact g_iret dX11_weeks_25 rfl (⟨rfl, rfl, rfl, hb, mF2.rf, Or.inr ⟨rfl, sAl.rf⟩⟩)
end WKS
