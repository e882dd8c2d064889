/-! class: hears, offer, house, person -/
section TW2
variable {w h : Nat} {a a' : Nat → Int32} {I I' : pvI} {J : pvJ} {P : pvP}
theorem kB.n6 (hb : kB w h a I J) : cnt a 6 ≤ 60 ∧ I 27 6 = nI (cnt a 6) := by
  obtain ⟨k3, k3b, -⟩ := mG_eq hb.2.2.2.2.1.1 (i := 6) (by decide)
  exact ⟨k3b, by rw [hb.2.1.2.2.2.2.1.2.2.1]; exact k3⟩
theorem c_hears {p x : Int32} (hP : pvOkP P) (hb : kB w h a I J) : pvMet mX11_hears 1 0 0 [.ref 1, .int p, .int x] 224 I J P (mtQ w h a I J P (sp_hears a p x)) := by
  obtain ⟨n6, r6⟩ := hb.n6
  have ip := c_hasPerson (v := p) (J := J) (P := P) r6 (by omega)
  have ix := c_within (nx := 224) (v := x) (lo := nI 0) (hi := nI 9) (L := 0) (H := 9) (I := I) (J := J) (P := P) (by decide) (by decide)
  by_cases v1 : 0 ≤ p.toInt ∧ p.toInt < cnt a 6
  · rw [if_pos v1] at ip
    by_cases v2 : 0 ≤ x.toInt ∧ x.toInt ≤ 9
    · rw [if_pos v2] at ix
      obtain ⟨pn, hpn, rfl⟩ := cI_of (x := p) (n := cnt a 6) (by omega) (by omega) (by omega)
      obtain ⟨xn, hxn, rfl⟩ := cI_of (x := x) (n := 10) (by omega) (by omega) (by omega)
      have ans : sp_hears a (nI pn) (nI xn) = (1, upd a (1200 + 5 * pn + 3) (nI xn)) := by rw [sp_hears, if_pos ⟨v1, v2⟩, nI_clamp (by omega)]
      rw [ans]
      have hI : ∀ y, y < 27 ∨ 38 < y → pvs I 36 (upd (I 36) pn (nI xn)) y = I y := fun y hy => pvs_ne (by omega)
      obtain ⟨x1, x2, x3, x4, x5, x6⟩ := hb.2.1.2.2.2.2.1
      have hi := hb.2.2.2.2
      have u : ∀ {i}, i ≠ 1200 + 5 * pn + 3 → upd a (1200 + 5 * pn + 3) (nI xn) i = a i := fun e => updI e
      have uc : ∀ {i}, i ≠ 1200 + 5 * pn + 3 → cnt (upd a (1200 + 5 * pn + 3) (nI xn)) i = cnt a i := fun e => by unfold cnt; rw [u e]
      have hg' : mG (upd a (1200 + 5 * pn + 3) (nI xn)) := hi.1.1.fr (fun i h1 h2 => by simp only [upd]; repeat (rw [if_neg (by omega)]))
      have n5 := hb.n5.1
      have ht : rTwn 3 (upd a (1200 + 5 * pn + 3) (nI xn)) (pvs I 36 (upd (I 36) pn (nI xn))) := by
        refine ⟨?_, ?_, ?_, ?_, ?_, ?_⟩
        · rw [pvs_ne (by decide), u (by omega)]; exact x1
        · intro k hk
          rw [uc (by omega)] at hk
          rw [pvs_ne (by decide), pvs_ne (by decide), pvs_ne (by decide), pvs_ne (by decide), pvs_ne (by decide), u (by omega), u (by omega), u (by omega), u (by omega), u (by omega)]
          exact x2 k hk
        · rw [pvs_ne (by decide), u (by omega)]; exact x3
        · intro k hk
          rw [uc (by omega)] at hk
          obtain ⟨y1, y2, y3, y4, y5⟩ := x4 k hk
          rw [pvs_ne (a := 3 + 30) (by decide), pvs_ne (a := 3 + 31) (by decide), pvs_ne (a := 3 + 32) (by decide), pvs_ne (a := 3 + 34) (by decide), u (i := 1200 + 5 * k) (by omega), u (i := 1200 + 5 * k + 1) (by omega), u (i := 1200 + 5 * k + 2) (by omega), u (i := 1200 + 5 * k + 4) (by omega)]
          refine ⟨y1, y2, y3, ?_, y5⟩
          show pvs I 36 (upd (I 36) pn (nI xn)) 36 k = _
          rw [pvs_eq]
          by_cases e : k = pn
          · subst e; rw [updS, updS]
          · rw [updI e, u (by omega)]; exact y4
        · intro k hk
          rw [pvs_ne (by decide), uc (by omega)]
          have e : sp_ct (sp_kgP (upd a (1200 + 5 * pn + 3) (nI xn)) (nI k)) (cnt a 6) = sp_ct (sp_kgP a (nI k)) (cnt a 6) := sp_ct_cong (fun p _ => by
            show (upd a (1200 + 5 * pn + 3) (nI xn) (1200 + 5 * p + 1) = nI k ∧ ¬ (upd a (1200 + 5 * pn + 3) (nI xn) (1200 + 5 * p + 4)).toInt < 0) ↔ _
            rw [u (by omega), u (by omega)])
          rw [e]
          exact x5 k hk
        · rw [pvs_ne (by decide), u (by omega)]; exact x6
      have hl : mLv (w * h) (upd a (1200 + 5 * pn + 3) (nI xn)) := by
        obtain ⟨l1, l2, l3, l4⟩ := hi.2.2.1
        refine ⟨fun q hq => ?_, l2.fr l4 (fun i h1 h2 => by simp only [upd]; repeat (rw [if_neg (by omega)])) (fun i h1 h2 => by simp only [upd]; repeat (rw [if_neg (by omega)])), ?_, hg'⟩
        · rw [uc (by omega)] at hq
          obtain ⟨y1, y2, y3, y4, y5⟩ := l1 q hq
          rw [u (by omega), u (by omega), u (by omega), uc (by omega), u (i := 1200 + 5 * q + 4) (by omega)]
          refine ⟨y1, y2, y3, ?_, y5⟩
          by_cases e : q = pn
          · subst e; rw [updS]; exact ⟨xn, by omega, rfl⟩
          · rw [u (by omega)]; exact y4
        · unfold mWent
          rw [u (by omega), uc (by omega)]
          unfold mWent at l3
          rw [l3]
          congr 1
          apply sp_ct_cong
          intro q hq
          show ¬ (a (1200 + 5 * q + 4)).toInt < 0 ↔ ¬ (upd a (1200 + 5 * pn + 3) (nI xn) (1200 + 5 * q + 4)).toInt < 0
          rw [u (by omega)]
      have fin := hb.twn hI (fun i h1 h2 => by simp only [upd]; repeat (rw [if_neg (by omega)])) (fun i h1 h2 => by simp only [upd]; repeat (rw [if_neg (by omega)])) (fun i h1 h2 => by simp only [upd]; repeat (rw [if_neg (by omega)])) (fun i h1 h2 => by simp only [upd]; repeat (rw [if_neg (by omega)])) (fun i h1 h2 => by simp only [upd]; repeat (rw [if_neg (by omega)])) ht hl
      refine pvMet.of _ (by decide) rfl (Nat.le_of_ble_eq_true rfl) ?_
      refine g_aload_n dX11_hears_0 rfl ?_
      refine g_getP dX11_hears_1 fdX11_32 rfl (by first | rfl | exact pv_shx) (by omega) (by omega) (by decide) rfl (hP _ _ _ rfl) ?_
      refine g_getP dX11_hears_4 fdX11_277 rfl (by first | rfl | exact pv_shx) (by omega) (by omega) (by decide) rfl (hP _ _ _ rfl) ?_
      refine g_iload_n dX11_hears_7 rfl ?_
      refine p_callV (ip) okX7_hasPerson lkX11_300 rfl (by first | rfl | exact pv_shx) rfl (by omega) (by omega) dX11_hears_8 rfl (Nat.le_of_ble_eq_true rfl) (⟨by decide, by decide, by decide, by decide⟩) ?_
      refine n_if_eq 24 dX11_hears_11 (by decide) (by first | (with_reducible exact cB _) | ((with_reducible apply cN_eq0) <;> omega) | exact Iff.rfl) (fun c11 => by exfalso; first | omega | exact absurd trivial c11 | exact c11 | (simp at c11)) (fun c11 => ?_)
      refine g_iload_n dX11_hears_14 rfl ?_
      refine g_iconst (v := nI 0) dX11_hears_15 (by decide) ?_
      refine g_bipush (v := nI 9) dX11_hears_16 (by decide) ?_
      refine p_callS (ix) okX11_within lkX11_85 rfl dX11_hears_18 rfl (Nat.le_of_ble_eq_true rfl) (⟨by decide, by decide, by decide, by decide⟩) ?_
      refine n_if_ne 26 dX11_hears_21 (by decide) (by first | (with_reducible exact cB _) | ((with_reducible apply cN_eq0) <;> omega) | exact Iff.rfl) (fun c21 => ?_) (fun c21 => by exfalso; first | omega | exact absurd trivial c21 | exact c21 | (simp at c21))
      refine g_aload_n dX11_hears_26 rfl ?_
      refine g_getP dX11_hears_27 fdX11_32 rfl (by first | rfl | exact pv_shx) (by omega) (by omega) (by decide) rfl (hP _ _ _ rfl) ?_
      refine g_getP dX11_hears_30 fdX11_277 rfl (by first | rfl | exact pv_shx) (by omega) (by omega) (by decide) rfl (hP _ _ _ rfl) ?_
      refine g_getP dX11_hears_33 fdX11_303 rfl (by first | rfl | exact pv_shx) (by omega) (by omega) (by decide) rfl (hP _ _ _ rfl) ?_
      refine g_iload_n dX11_hears_36 rfl ?_
      refine g_iload_n dX11_hears_37 rfl ?_
      refine n_iast dX11_hears_38 (by first | rfl | exact pv_shx) (by omega) (by omega) (by omega) (by decide) (rfl) (by omega) (by repeat (first | exact pvu_s | exact pvuJ_s | apply pvu_in (by omega) | apply pvuJ_in (by omega) | exact pvu_pvs | exact pvuJ_pvs)) ?_
      refine g_iconst (v := nI 1) dX11_hears_39 (by decide) ?_
      exact g_zret (by first | exact Or.inl rfl | exact Or.inr rfl | exact cB01 _) dX11_hears_40 rfl (⟨rfl, rfl, rfl, fin, kB.mf hI, Or.inr ⟨by rw [pvs_ne (by decide)], (fun i h1 h2 => by simp only [upd]; repeat (rw [if_neg (by omega)])), (fun i h1 h2 => by simp only [upd]; repeat (rw [if_neg (by omega)])), (fun i h1 h2 => by simp only [upd]; repeat (rw [if_neg (by omega)])), (fun i h1 h2 => by simp only [upd]; repeat (rw [if_neg (by omega)]))⟩⟩)
    · rw [if_neg v2] at ix
      have ans : sp_hears a p x = (0, a) := by rw [sp_hears, if_neg (fun z => v2 z.2)]
      rw [ans]
      refine pvMet.of _ (by decide) rfl (Nat.le_of_ble_eq_true rfl) ?_
      refine g_aload_n dX11_hears_0 rfl ?_
      refine g_getP dX11_hears_1 fdX11_32 rfl (by first | rfl | exact pv_shx) (by omega) (by omega) (by decide) rfl (hP _ _ _ rfl) ?_
      refine g_getP dX11_hears_4 fdX11_277 rfl (by first | rfl | exact pv_shx) (by omega) (by omega) (by decide) rfl (hP _ _ _ rfl) ?_
      refine g_iload_n dX11_hears_7 rfl ?_
      refine p_callV (ip) okX7_hasPerson lkX11_300 rfl (by first | rfl | exact pv_shx) rfl (by omega) (by omega) dX11_hears_8 rfl (Nat.le_of_ble_eq_true rfl) (⟨by decide, by decide, by decide, by decide⟩) ?_
      refine n_if_eq 24 dX11_hears_11 (by decide) (by first | (with_reducible exact cB _) | ((with_reducible apply cN_eq0) <;> omega) | exact Iff.rfl) (fun c11 => by exfalso; first | omega | exact absurd trivial c11 | exact c11 | (simp at c11)) (fun c11 => ?_)
      refine g_iload_n dX11_hears_14 rfl ?_
      refine g_iconst (v := nI 0) dX11_hears_15 (by decide) ?_
      refine g_bipush (v := nI 9) dX11_hears_16 (by decide) ?_
      refine p_callS (ix) okX11_within lkX11_85 rfl dX11_hears_18 rfl (Nat.le_of_ble_eq_true rfl) (⟨by decide, by decide, by decide, by decide⟩) ?_
      refine n_if_ne 26 dX11_hears_21 (by decide) (by first | (with_reducible exact cB _) | ((with_reducible apply cN_eq0) <;> omega) | exact Iff.rfl) (fun c21 => by exfalso; first | omega | exact absurd trivial c21 | exact c21 | (simp at c21)) (fun c21 => ?_)
      refine g_iconst (v := nI 0) dX11_hears_24 (by decide) ?_
      exact g_zret (by first | exact Or.inl rfl | exact Or.inr rfl | exact cB01 _) dX11_hears_25 rfl (⟨rfl, rfl, rfl, hb, mF2.rf, Or.inr ⟨rfl, sAl.rf⟩⟩)
  · rw [if_neg v1] at ip
    have ans : sp_hears a p x = (0, a) := by rw [sp_hears, if_neg (fun z => v1 z.1)]
    rw [ans]
    refine pvMet.of _ (by decide) rfl (Nat.le_of_ble_eq_true rfl) ?_
    refine g_aload_n dX11_hears_0 rfl ?_
    refine g_getP dX11_hears_1 fdX11_32 rfl (by first | rfl | exact pv_shx) (by omega) (by omega) (by decide) rfl (hP _ _ _ rfl) ?_
    refine g_getP dX11_hears_4 fdX11_277 rfl (by first | rfl | exact pv_shx) (by omega) (by omega) (by decide) rfl (hP _ _ _ rfl) ?_
    refine g_iload_n dX11_hears_7 rfl ?_
    refine p_callV (ip) okX7_hasPerson lkX11_300 rfl (by first | rfl | exact pv_shx) rfl (by omega) (by omega) dX11_hears_8 rfl (Nat.le_of_ble_eq_true rfl) (⟨by decide, by decide, by decide, by decide⟩) ?_
    refine n_if_eq 24 dX11_hears_11 (by decide) (by first | (with_reducible exact cB _) | ((with_reducible apply cN_eq0) <;> omega) | exact Iff.rfl) (fun c11 => ?_) (fun c11 => by exfalso; first | omega | exact absurd trivial c11 | exact c11 | (simp at c11))
    refine g_iconst (v := nI 0) dX11_hears_24 (by decide) ?_
    exact g_zret (by first | exact Or.inl rfl | exact Or.inr rfl | exact cB01 _) dX11_hears_25 rfl (⟨rfl, rfl, rfl, hb, mF2.rf, Or.inr ⟨rfl, sAl.rf⟩⟩)
theorem c_offer {k x y : Int32} (hP : pvOkP P) (hb : kB w h a I J) : pvMet mX11_offer 2 0 0 [.ref 1, .int k, .int x, .int y] 224 I J P (mtQ w h a I J P (sp_offer a k x y)) := by
  obtain ⟨n5, r5⟩ := hb.n5
  obtain ⟨n0, r0⟩ := hb.n0
  have ip := c_hasHouse (v := k) (J := J) (P := P) r5 (by omega)
  have ix := c_within (nx := 224) (v := x) (lo := nI 0) (hi := nI 9999) (L := 0) (H := 9999) (I := I) (J := J) (P := P) (by decide) (by decide)
  have iy := c_isWeekToCome (v := y) (J := J) hP r0 n0
  by_cases v1 : 0 ≤ k.toInt ∧ k.toInt < cnt a 5
  · rw [if_pos v1] at ip
    by_cases v2 : 0 ≤ x.toInt ∧ x.toInt ≤ 9999
    · rw [if_pos v2] at ix
      by_cases v3 : (cnt a 0 : Int) ≤ y.toInt ∧ y.toInt ≤ 99
      · rw [if_pos v3] at iy
        obtain ⟨kn, hkn, rfl⟩ := cI_of (x := k) (n := cnt a 5) (by omega) (by omega) (by omega)
        obtain ⟨xn, hxn, rfl⟩ := cI_of (x := x) (n := 10000) (by omega) (by omega) (by omega)
        obtain ⟨yn, hyn, rfl⟩ := cI_of (x := y) (n := 100) (by omega) (by omega) (by omega)
        have ans : sp_offer a (nI kn) (nI xn) (nI yn) = (1, upd (upd a (1080 + 5 * kn + 3) (nI xn)) (1080 + 5 * kn + 4) (nI yn)) := by rw [sp_offer, if_pos ⟨v1, v2, by omega, v3.1⟩, nI_clamp (by omega)]
        rw [ans]
        generalize hA : upd (upd a (1080 + 5 * kn + 3) (nI xn)) (1080 + 5 * kn + 4) (nI yn) = A
        obtain ⟨x1, x2, x3, x4, x5, x6⟩ := hb.2.1.2.2.2.2.1
        have hi := hb.2.2.2.2
        have u : ∀ {i}, i ≠ 1080 + 5 * kn + 3 → i ≠ 1080 + 5 * kn + 4 → A i = a i := fun e1 e2 => by rw [← hA, updI e2, updI e1]
        have uc : ∀ {i}, i ≠ 1080 + 5 * kn + 3 → i ≠ 1080 + 5 * kn + 4 → cnt A i = cnt a i := fun e1 e2 => by unfold cnt; rw [u e1 e2]
        have u3 : A (1080 + 5 * kn + 3) = nI xn := by rw [← hA, updI (by omega), updS]
        have u4 : A (1080 + 5 * kn + 4) = nI yn := by rw [← hA, updS]
        have ga : ∀ lo hi', (hi' ≤ 1080 ∨ 1180 ≤ lo) → ag lo hi' a A := fun lo hi' hz i z1 z2 => u (by omega) (by omega)
        have hg' : mG A := hi.1.1.fr (ga _ _ (by omega))
        have n6 := hb.n6.1
        have key : ∀ I', I' 31 = upd (I 31) kn (nI xn) → I' 32 = upd (I 32) kn (nI yn) → (∀ z, z ≠ 31 → z ≠ 32 → I' z = I z) → kB w h A I' J := by
          intro I' e31 e32 he
          have ht : rTwn 3 A I' := by
            refine ⟨?_, ?_, ?_, ?_, ?_, ?_⟩
            · rw [he _ (by decide) (by decide), u (by omega) (by omega)]; exact x1
            · intro q hq
              rw [uc (by omega) (by omega)] at hq
              obtain ⟨y1, y2, y3, y4, y5⟩ := x2 q hq
              refine ⟨?_, ?_, ?_, ?_, ?_⟩
              · rw [he _ (by decide) (by decide), u (by omega) (by omega)]; exact y1
              · rw [he _ (by decide) (by decide), u (by omega) (by omega)]; exact y2
              · rw [he _ (by decide) (by decide), u (by omega) (by omega)]; exact y3
              · show I' 31 q = _
                rw [e31]
                by_cases e : q = kn
                · subst e; rw [updS, u3]
                · rw [updI e, u (by omega) (by omega)]; exact y4
              · show I' 32 q = _
                rw [e32]
                by_cases e : q = kn
                · subst e; rw [updS, u4]
                · rw [updI e, u (by omega) (by omega)]; exact y5
            · rw [he _ (by decide) (by decide), u (by omega) (by omega)]; exact x3
            · intro q hq
              rw [uc (by omega) (by omega)] at hq
              rw [he _ (by decide) (by decide), he _ (by decide) (by decide), he _ (by decide) (by decide), he _ (by decide) (by decide), he _ (by decide) (by decide), u (by omega) (by omega), u (by omega) (by omega), u (by omega) (by omega), u (by omega) (by omega), u (by omega) (by omega)]
              exact x4 q hq
            · intro q hq
              rw [he _ (by decide) (by decide), uc (by omega) (by omega)]
              have e : sp_ct (sp_kgP A (nI q)) (cnt a 6) = sp_ct (sp_kgP a (nI q)) (cnt a 6) := sp_ct_cong (fun p _ => by
                show (A (1200 + 5 * p + 1) = nI q ∧ ¬ (A (1200 + 5 * p + 4)).toInt < 0) ↔ _
                rw [u (by omega) (by omega), u (by omega) (by omega)])
              rw [e]
              exact x5 q hq
            · rw [he _ (by decide) (by decide), u (by omega) (by omega)]; exact x6
          have hl : mLv (w * h) A := by
            obtain ⟨l1, l2, l3, l4⟩ := hi.2.2.1
            refine ⟨l1.fr l4 (ga _ _ (by omega)) (ga _ _ (by omega)), fun q hq => ?_, l3.fr l4 (ga _ _ (by omega)) (ga _ _ (by omega)), hg'⟩
            rw [uc (by omega) (by omega)] at hq
            obtain ⟨y1, y2, y3, y4, y5⟩ := l2 q hq
            rw [u (by omega) (by omega), u (by omega) (by omega), u (by omega) (by omega)]
            refine ⟨y1, y2, y3, ?_, ?_⟩
            · by_cases e : q = kn
              · subst e; rw [u3]; exact ⟨xn, by omega, rfl⟩
              · rw [u (by omega) (by omega)]; exact y4
            · by_cases e : q = kn
              · subst e; rw [u4]; exact Or.inr ⟨yn, by omega, rfl⟩
              · rw [u (by omega) (by omega)]; exact y5
          exact hb.twn (fun z hz => he z (by omega) (by omega)) (ga _ _ (by omega)) (ga _ _ (by omega)) (ga _ _ (by omega)) (ga _ _ (by omega)) (ga _ _ (by omega)) ht hl
        refine pvMet.of _ (by decide) rfl (Nat.le_of_ble_eq_true rfl) ?_
        refine g_aload_n dX11_offer_0 rfl ?_
        refine g_getP dX11_offer_1 fdX11_32 rfl (by first | rfl | exact pv_shx) (by omega) (by omega) (by decide) rfl (hP _ _ _ rfl) ?_
        refine g_getP dX11_offer_4 fdX11_277 rfl (by first | rfl | exact pv_shx) (by omega) (by omega) (by decide) rfl (hP _ _ _ rfl) ?_
        refine g_iload_n dX11_offer_7 rfl ?_
        refine p_callV (ip) okX7_hasHouse lkX11_287 rfl (by first | rfl | exact pv_shx) rfl (by omega) (by omega) dX11_offer_8 rfl (Nat.le_of_ble_eq_true rfl) (⟨by decide, by decide, by decide, by decide⟩) ?_
        refine n_if_eq 33 dX11_offer_11 (by decide) (by first | (with_reducible exact cB _) | ((with_reducible apply cN_eq0) <;> omega) | exact Iff.rfl) (fun c11 => by exfalso; first | omega | exact absurd trivial c11 | exact c11 | (simp at c11)) (fun c11 => ?_)
        refine g_iload_n dX11_offer_14 rfl ?_
        refine g_iconst (v := nI 0) dX11_offer_15 (by decide) ?_
        refine g_sipush (v := nI 9999) dX11_offer_16 (by decide) ?_
        refine p_callS (ix) okX11_within lkX11_85 rfl dX11_offer_19 rfl (Nat.le_of_ble_eq_true rfl) (⟨by decide, by decide, by decide, by decide⟩) ?_
        refine n_if_eq 33 dX11_offer_22 (by decide) (by first | (with_reducible exact cB _) | ((with_reducible apply cN_eq0) <;> omega) | exact Iff.rfl) (fun c22 => by exfalso; first | omega | exact absurd trivial c22 | exact c22 | (simp at c22)) (fun c22 => ?_)
        refine g_aload_n dX11_offer_25 rfl ?_
        refine g_iload_n dX11_offer_26 rfl ?_
        refine p_callV (iy) okX11_isWeekToCome lkX11_306 rfl (by first | rfl | exact pv_shx) rfl (by omega) (by omega) dX11_offer_27 rfl (Nat.le_of_ble_eq_true rfl) (⟨by decide, by decide, by decide, by decide⟩) ?_
        refine n_if_ne 35 dX11_offer_30 (by decide) (by first | (with_reducible exact cB _) | ((with_reducible apply cN_eq0) <;> omega) | exact Iff.rfl) (fun c30 => ?_) (fun c30 => by exfalso; first | omega | exact absurd trivial c30 | exact c30 | (simp at c30))
        refine g_aload_n dX11_offer_35 rfl ?_
        refine g_getP dX11_offer_36 fdX11_32 rfl (by first | rfl | exact pv_shx) (by omega) (by omega) (by decide) rfl (hP _ _ _ rfl) ?_
        refine g_getP dX11_offer_39 fdX11_277 rfl (by first | rfl | exact pv_shx) (by omega) (by omega) (by decide) rfl (hP _ _ _ rfl) ?_
        refine g_getP dX11_offer_42 fdX11_309 rfl (by first | rfl | exact pv_shx) (by omega) (by omega) (by decide) rfl (hP _ _ _ rfl) ?_
        refine g_iload_n dX11_offer_45 rfl ?_
        refine g_iload_n dX11_offer_46 rfl ?_
        refine n_iast dX11_offer_47 (by first | rfl | exact pv_shx) (by omega) (by omega) (by omega) (by decide) (rfl) (by omega) (by repeat (first | exact pvu_s | exact pvuJ_s | apply pvu_in (by omega) | apply pvuJ_in (by omega) | exact pvu_pvs | exact pvuJ_pvs)) ?_
        refine g_aload_n dX11_offer_48 rfl ?_
        refine g_getP dX11_offer_49 fdX11_32 rfl (by first | rfl | exact pv_shx) (by omega) (by omega) (by decide) rfl (hP _ _ _ rfl) ?_
        refine g_getP dX11_offer_52 fdX11_277 rfl (by first | rfl | exact pv_shx) (by omega) (by omega) (by decide) rfl (hP _ _ _ rfl) ?_
        refine g_getP dX11_offer_55 fdX11_312 rfl (by first | rfl | exact pv_shx) (by omega) (by omega) (by decide) rfl (hP _ _ _ rfl) ?_
        refine g_iload_n dX11_offer_58 rfl ?_
        refine g_iload_n dX11_offer_59 rfl ?_
        refine n_iast dX11_offer_60 (by first | rfl | exact pv_shx) (by omega) (by omega) (by omega) (by decide) (rfl) (by omega) (by repeat (first | exact pvu_s | exact pvuJ_s | apply pvu_in (by omega) | apply pvuJ_in (by omega) | exact pvu_pvs | exact pvuJ_pvs)) ?_
        refine g_iconst (v := nI 1) dX11_offer_61 (by decide) ?_
        exact g_zret (by first | exact Or.inl rfl | exact Or.inr rfl | exact cB01 _) dX11_offer_62 rfl (⟨rfl, rfl, rfl, key _ (by simp [pvs]) (by simp [pvs]) (fun z z1 z2 => by simp [pvs, z1, z2]), fun z hz => ⟨by rw [pvs_ne (by omega), pvs_ne (by omega)], rfl⟩, Or.inr ⟨by simp [pvs], ga _ _ (by omega), ga _ _ (by omega), ga _ _ (by omega), ga _ _ (by omega)⟩⟩)
      · rw [if_neg v3] at iy
        have ans : sp_offer a k x y = (0, a) := by rw [sp_offer, if_neg (fun z => v3 ⟨z.2.2.2, z.2.2.1.2⟩)]
        rw [ans]
        refine pvMet.of _ (by decide) rfl (Nat.le_of_ble_eq_true rfl) ?_
        refine g_aload_n dX11_offer_0 rfl ?_
        refine g_getP dX11_offer_1 fdX11_32 rfl (by first | rfl | exact pv_shx) (by omega) (by omega) (by decide) rfl (hP _ _ _ rfl) ?_
        refine g_getP dX11_offer_4 fdX11_277 rfl (by first | rfl | exact pv_shx) (by omega) (by omega) (by decide) rfl (hP _ _ _ rfl) ?_
        refine g_iload_n dX11_offer_7 rfl ?_
        refine p_callV (ip) okX7_hasHouse lkX11_287 rfl (by first | rfl | exact pv_shx) rfl (by omega) (by omega) dX11_offer_8 rfl (Nat.le_of_ble_eq_true rfl) (⟨by decide, by decide, by decide, by decide⟩) ?_
        refine n_if_eq 33 dX11_offer_11 (by decide) (by first | (with_reducible exact cB _) | ((with_reducible apply cN_eq0) <;> omega) | exact Iff.rfl) (fun c11 => by exfalso; first | omega | exact absurd trivial c11 | exact c11 | (simp at c11)) (fun c11 => ?_)
        refine g_iload_n dX11_offer_14 rfl ?_
        refine g_iconst (v := nI 0) dX11_offer_15 (by decide) ?_
        refine g_sipush (v := nI 9999) dX11_offer_16 (by decide) ?_
        refine p_callS (ix) okX11_within lkX11_85 rfl dX11_offer_19 rfl (Nat.le_of_ble_eq_true rfl) (⟨by decide, by decide, by decide, by decide⟩) ?_
        refine n_if_eq 33 dX11_offer_22 (by decide) (by first | (with_reducible exact cB _) | ((with_reducible apply cN_eq0) <;> omega) | exact Iff.rfl) (fun c22 => by exfalso; first | omega | exact absurd trivial c22 | exact c22 | (simp at c22)) (fun c22 => ?_)
        refine g_aload_n dX11_offer_25 rfl ?_
        refine g_iload_n dX11_offer_26 rfl ?_
        refine p_callV (iy) okX11_isWeekToCome lkX11_306 rfl (by first | rfl | exact pv_shx) rfl (by omega) (by omega) dX11_offer_27 rfl (Nat.le_of_ble_eq_true rfl) (⟨by decide, by decide, by decide, by decide⟩) ?_
        refine n_if_ne 35 dX11_offer_30 (by decide) (by first | (with_reducible exact cB _) | ((with_reducible apply cN_eq0) <;> omega) | exact Iff.rfl) (fun c30 => by exfalso; first | omega | exact absurd trivial c30 | exact c30 | (simp at c30)) (fun c30 => ?_)
        refine g_iconst (v := nI 0) dX11_offer_33 (by decide) ?_
        exact g_zret (by first | exact Or.inl rfl | exact Or.inr rfl | exact cB01 _) dX11_offer_34 rfl (⟨rfl, rfl, rfl, hb, mF2.rf, Or.inr ⟨rfl, sAl.rf⟩⟩)
    · rw [if_neg v2] at ix
      have ans : sp_offer a k x y = (0, a) := by rw [sp_offer, if_neg (fun z => v2 z.2.1)]
      rw [ans]
      refine pvMet.of _ (by decide) rfl (Nat.le_of_ble_eq_true rfl) ?_
      refine g_aload_n dX11_offer_0 rfl ?_
      refine g_getP dX11_offer_1 fdX11_32 rfl (by first | rfl | exact pv_shx) (by omega) (by omega) (by decide) rfl (hP _ _ _ rfl) ?_
      refine g_getP dX11_offer_4 fdX11_277 rfl (by first | rfl | exact pv_shx) (by omega) (by omega) (by decide) rfl (hP _ _ _ rfl) ?_
      refine g_iload_n dX11_offer_7 rfl ?_
      refine p_callV (ip) okX7_hasHouse lkX11_287 rfl (by first | rfl | exact pv_shx) rfl (by omega) (by omega) dX11_offer_8 rfl (Nat.le_of_ble_eq_true rfl) (⟨by decide, by decide, by decide, by decide⟩) ?_
      refine n_if_eq 33 dX11_offer_11 (by decide) (by first | (with_reducible exact cB _) | ((with_reducible apply cN_eq0) <;> omega) | exact Iff.rfl) (fun c11 => by exfalso; first | omega | exact absurd trivial c11 | exact c11 | (simp at c11)) (fun c11 => ?_)
      refine g_iload_n dX11_offer_14 rfl ?_
      refine g_iconst (v := nI 0) dX11_offer_15 (by decide) ?_
      refine g_sipush (v := nI 9999) dX11_offer_16 (by decide) ?_
      refine p_callS (ix) okX11_within lkX11_85 rfl dX11_offer_19 rfl (Nat.le_of_ble_eq_true rfl) (⟨by decide, by decide, by decide, by decide⟩) ?_
      refine n_if_eq 33 dX11_offer_22 (by decide) (by first | (with_reducible exact cB _) | ((with_reducible apply cN_eq0) <;> omega) | exact Iff.rfl) (fun c22 => ?_) (fun c22 => by exfalso; first | omega | exact absurd trivial c22 | exact c22 | (simp at c22))
      refine g_iconst (v := nI 0) dX11_offer_33 (by decide) ?_
      exact g_zret (by first | exact Or.inl rfl | exact Or.inr rfl | exact cB01 _) dX11_offer_34 rfl (⟨rfl, rfl, rfl, hb, mF2.rf, Or.inr ⟨rfl, sAl.rf⟩⟩)
  · rw [if_neg v1] at ip
    have ans : sp_offer a k x y = (0, a) := by rw [sp_offer, if_neg (fun z => v1 z.1)]
    rw [ans]
    refine pvMet.of _ (by decide) rfl (Nat.le_of_ble_eq_true rfl) ?_
    refine g_aload_n dX11_offer_0 rfl ?_
    refine g_getP dX11_offer_1 fdX11_32 rfl (by first | rfl | exact pv_shx) (by omega) (by omega) (by decide) rfl (hP _ _ _ rfl) ?_
    refine g_getP dX11_offer_4 fdX11_277 rfl (by first | rfl | exact pv_shx) (by omega) (by omega) (by decide) rfl (hP _ _ _ rfl) ?_
    refine g_iload_n dX11_offer_7 rfl ?_
    refine p_callV (ip) okX7_hasHouse lkX11_287 rfl (by first | rfl | exact pv_shx) rfl (by omega) (by omega) dX11_offer_8 rfl (Nat.le_of_ble_eq_true rfl) (⟨by decide, by decide, by decide, by decide⟩) ?_
    refine n_if_eq 33 dX11_offer_11 (by decide) (by first | (with_reducible exact cB _) | ((with_reducible apply cN_eq0) <;> omega) | exact Iff.rfl) (fun c11 => ?_) (fun c11 => by exfalso; first | omega | exact absurd trivial c11 | exact c11 | (simp at c11))
    refine g_iconst (v := nI 0) dX11_offer_33 (by decide) ?_
    exact g_zret (by first | exact Or.inl rfl | exact Or.inr rfl | exact cB01 _) dX11_offer_34 rfl (⟨rfl, rfl, rfl, hb, mF2.rf, Or.inr ⟨rfl, sAl.rf⟩⟩)
end TW2
