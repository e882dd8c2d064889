/-! class: plug -/
section PLG
variable {w h : Nat} {a : Nat → Int32} {I : pvI} {J : pvJ} {P : pvP}
theorem c_plug {k : Int32} (hP : pvOkP P) (hb : kB w h a I J) : pvMet mX11_plug 4 0 0 [.ref 1, .int k] 224 I J P (mtQ w h a I J P (sp_plug a k)) := by
  obtain ⟨n0, r0⟩ := hb.n0
  obtain ⟨n1, r1⟩ := hb.n1
  have n2 := hb.n2.1
  have n3 := hb.n3.1
  have hwh := hb.1.wh
  have hi := hb.2.2.2.2
  have ih := c_hasHole (v := k) (J := J) (P := P) r1 (by omega)
  by_cases v1 : 0 ≤ k.toInt ∧ k.toInt < cnt a 1
  · rw [if_pos v1] at ih
    obtain ⟨kn, hkn, rfl⟩ := cI_of (x := k) (n := cnt a 1) (by omega) (by omega) (by omega)
    have ek : (nI kn).toNatClampNeg = kn := nI_clamp (by omega)
    obtain ⟨x1, x2, x3, x4, x5, x6⟩ := hb.2.1.2.2.1
    have r12 := (x2 kn hkn).2.2
    rcases (hi.1.2.2.2.2.1 kn hkn).2.2 with z | ⟨p, p1, p2⟩
    · have r12' : I 12 kn = -1 := r12.trans z
      have ha0 := (mG_eq hi.1.1 (i := 0) (by decide)).1
      have ans : sp_plug a (nI kn) = (1, upd a (150 + 3 * kn + 2) (nI (cnt a 0))) := by rw [sp_plug, ek, if_pos ⟨v1, by rw [z]; decide⟩, ← ha0]
      rw [ans]
      have hhol := hi.1.2.2.2.2.1
      generalize hK : cnt a 0 = clk at *
      generalize hA : upd a (150 + 3 * kn + 2) (nI clk) = A
      have u : ∀ {i}, i ≠ 150 + 3 * kn + 2 → A i = a i := fun z1 => by rw [← hA, updI z1]
      have uc : ∀ {i}, i ≠ 150 + 3 * kn + 2 → cnt A i = cnt a i := fun z1 => by unfold cnt; rw [u z1]
      have w2 : A (150 + 3 * kn + 2) = nI clk := by rw [← hA, updS]
      have ga : ∀ lo hi', (hi' ≤ 150 ∨ 210 ≤ lo) → ag lo hi' a A := fun lo hi' hz i z1 z2 => u (by omega)
      have hg' : mG A := hi.1.1.fr (ga _ _ (by omega))
      have hl : mHoles (w * h) A := fun q hq => by
        rw [uc (by omega)] at hq
        obtain ⟨y1, y2, y3⟩ := hhol q hq
        rw [u (i := 150 + 3 * q) (by omega), u (i := 150 + 3 * q + 1) (by omega)]
        refine ⟨y1, y2, ?_⟩
        by_cases e : q = kn
        · subst e; rw [w2]; exact Or.inr ⟨clk, n0, rfl⟩
        · rw [u (by omega)]; exact y3
      have hho : ∀ m, m < clk → hoB A m none = hoB a m none := fun m hm => by
        funext c'
        unfold hoB
        rw [uc (i := 1) (by omega)]
        apply anyB_cong
        intro q hq
        unfold hoK hoPd
        rw [uc (i := 150 + 3 * q + 1) (by omega), uc (i := 150 + 3 * q) (by omega)]
        by_cases e : q = kn
        · subst e
          have m1 : ((-1 : Int32)).toInt < 0 := by decide
          have e1 : ((A (150 + 3 * q + 2)).toInt < 0 ∨ (m : Int) < (A (150 + 3 * q + 2)).toInt) ↔ True := ⟨fun _ => trivial, fun _ => Or.inr (by rw [w2, nI_toInt (by omega)]; omega)⟩
          have e2 : ((a (150 + 3 * q + 2)).toInt < 0 ∨ (m : Int) < (a (150 + 3 * q + 2)).toInt) ↔ True := ⟨fun _ => trivial, fun _ => Or.inl (by rw [z]; exact m1)⟩
          simp only [e1, e2]
        · rw [u (i := 150 + 3 * q + 2) (by omega)]
      have cl := c_close (w := w) (h := h) (I := I) (J := J) (n := kn) (k := clk) (A := A) hP (by omega) n0 hg' hl hwh.2 (by rw [uc (by omega)]; exact r1) w2 (fun q hq => by
        rw [uc (by omega)] at hq
        obtain ⟨y1, y2, y3⟩ := x2 q hq
        refine ⟨by rw [u (by omega)]; exact y1, by rw [u (by omega)]; exact y2, fun e => by rw [u (by omega)]; exact y3⟩)
      refine pvMet.of _ (by decide) rfl (Nat.le_of_ble_eq_true rfl) ?_
      refine g_aload_n dX11_plug_0 rfl ?_
      refine g_getP dX11_plug_1 fdX11_32 rfl (by first | rfl | exact pv_shx) (by omega) (by omega) (by decide) rfl (hP _ _ _ rfl) ?_
      refine g_getP dX11_plug_4 fdX11_112 rfl (by first | rfl | exact pv_shx) (by omega) (by omega) (by decide) rfl (hP _ _ _ rfl) ?_
      refine g_iload_n dX11_plug_7 rfl ?_
      refine p_callV (ih) okX9_hasHole lkX11_124 rfl (by first | rfl | exact pv_shx) rfl (by omega) (by omega) dX11_plug_8 rfl (Nat.le_of_ble_eq_true rfl) (⟨by decide, by decide, by decide, by decide⟩) ?_
      refine n_if_eq 30 dX11_plug_11 (by decide) (by first | (with_reducible exact cB _) | ((with_reducible apply cN_eq0) <;> omega) | exact Iff.rfl) (fun c11 => by exfalso; first | omega | exact absurd trivial c11 | exact c11 | (simp at c11)) (fun c11 => ?_)
      refine g_aload_n dX11_plug_14 rfl ?_
      refine g_getP dX11_plug_15 fdX11_32 rfl (by first | rfl | exact pv_shx) (by omega) (by omega) (by decide) rfl (hP _ _ _ rfl) ?_
      refine g_getP dX11_plug_18 fdX11_112 rfl (by first | rfl | exact pv_shx) (by omega) (by omega) (by decide) rfl (hP _ _ _ rfl) ?_
      refine g_getP dX11_plug_21 fdX11_127 rfl (by first | rfl | exact pv_shx) (by omega) (by omega) (by decide) rfl (hP _ _ _ rfl) ?_
      refine g_iload_n dX11_plug_24 rfl ?_
      refine n_iald dX11_plug_25 (by first | rfl | exact pv_shx) (by omega) (by omega) (by decide) (rfl) (by omega) (by repeat (first | exact r0 | exact r12' | (apply rd_s; done) | apply rd_n (by omega) | apply rp_s | apply rp_n (by omega) | (apply rdL_s; done) | apply rdL_n (by omega) | apply rpJ_s | apply rpJ_n (by omega) | rfl)) ?_
      refine g_iconst (v := (-1)) dX11_plug_26 (by decide) ?_
      refine n_icmp_eq 32 dX11_plug_27 (by decide) (Iff.rfl) (fun c27 => ?_) (fun c27 => by exfalso; exact c27 rfl)
      refine g_aload_n dX11_plug_32 rfl ?_
      refine g_getP dX11_plug_33 fdX11_32 rfl (by first | rfl | exact pv_shx) (by omega) (by omega) (by decide) rfl (hP _ _ _ rfl) ?_
      refine g_getP dX11_plug_36 fdX11_112 rfl (by first | rfl | exact pv_shx) (by omega) (by omega) (by decide) rfl (hP _ _ _ rfl) ?_
      refine g_iload_n dX11_plug_39 rfl ?_
      refine g_aload_n dX11_plug_40 rfl ?_
      refine g_getP dX11_plug_41 fdX11_32 rfl (by first | rfl | exact pv_shx) (by omega) (by omega) (by decide) rfl (hP _ _ _ rfl) ?_
      refine n_getI dX11_plug_44 fdX11_77 rfl (by first | rfl | exact pv_shx) (by omega) (by omega) (by decide) rfl (by repeat (first | exact r0 | exact r12' | (apply rd_s; done) | apply rd_n (by omega) | apply rp_s | apply rp_n (by omega) | (apply rdL_s; done) | apply rdL_n (by omega) | apply rpJ_s | apply rpJ_n (by omega) | rfl)) ?_
      refine g_callV (cl) okX9_close lkX11_130 rfl (by first | rfl | exact pv_shx) rfl (by omega) (by omega) dX11_plug_47 rfl (Nat.le_of_ble_eq_true rfl) (⟨by decide, by decide, by decide, by decide⟩) ?_
      rintro v nx' I1 J1 P' ⟨rfl, rfl, rfl, rfl, e6, e7, e8⟩
      have f3 : pvs I 12 (upd (I 12) kn (nI clk)) 3 0 = nI clk := by rw [pvs_ne (by decide)]; exact r0
      have hf1 : rFir w h a (pvs I 12 (upd (I 12) kn (nI clk))) J1 := hb.2.2.1.mv (fun x _ _ => pvs_ne (by omega)) (fun x _ _ => e8 x (by omega))
      have cf := c_changedFrom (k := clk + 1) hP hf1 (by omega)
      refine g_aload_n dX11_plug_50 rfl ?_
      refine g_aload_n dX11_plug_51 rfl ?_
      refine g_getP dX11_plug_52 fdX11_32 rfl (by first | rfl | exact pv_shx) (by omega) (by omega) (by decide) rfl (hP _ _ _ rfl) ?_
      refine n_getI dX11_plug_55 fdX11_77 rfl (by first | rfl | exact pv_shx) (by omega) (by omega) (by decide) rfl (by repeat (first | exact f3 | (apply rd_s; done) | apply rd_n (by omega) | apply rp_s | apply rp_n (by omega) | (apply rdL_s; done) | apply rdL_n (by omega) | apply rpJ_s | apply rpJ_n (by omega) | rfl)) ?_
      refine g_iconst (v := nI 1) dX11_plug_58 (by decide) ?_
      refine n_iadd dX11_plug_59 (by first | (with_reducible exact nI_add _ _) | rfl) ?_
      refine g_callV (cf) okX11_changedFrom lkX11_99 rfl (by first | rfl | exact pv_shx) rfl (by omega) (by omega) dX11_plug_60 rfl (Nat.le_of_ble_eq_true rfl) (⟨by decide, by decide, by decide, by decide⟩) ?_
      rintro v nx' I2 J2 P'' ⟨rfl, rfl, rfl, rfl, q1⟩
      have hw := hb.1.2.2.2.2.2.2.1
      have o : ∀ z, z ≠ 12 → z ≠ 43 → (z < 90 ∨ 138 ≤ z) → I2 z = I z := fun z z1 z2 z3 => (q1.o z2 z3).trans (pvs_ne z1)
      have f12 : I2 12 = upd (I 12) kn (nI clk) := (q1.o (by decide) (by omega)).trans pvs_eq
      have ht : rWrk w h 3 A I2 J2 := by
        refine ⟨?_, ?_, ?_, ?_, ?_, ?_⟩
        · rw [o (3 + 6) (by omega) (by omega) (by omega), u (by omega)]; exact x1
        · intro q hq
          rw [uc (by omega)] at hq
          obtain ⟨y1, y2, y3⟩ := x2 q hq
          rw [o (3 + 7) (by omega) (by omega) (by omega), o (3 + 8) (by omega) (by omega) (by omega), u (i := 150 + 3 * q) (by omega), u (i := 150 + 3 * q + 1) (by omega)]
          refine ⟨y1, y2, ?_⟩
          show I2 12 q = _
          rw [f12]
          by_cases e : q = kn
          · subst e; rw [updS, w2]
          · rw [updI e, u (by omega)]; exact y3
        · intro m hm
          show J2 13 m = _
          by_cases z : clk ≤ m
          · exact e6 m z hm
          · rw [e7 m (by omega), hho m (by omega)]; exact x3 m hm
        · rw [o (3 + 6) (by omega) (by omega) (by omega), u (by omega)]; exact x4
        · intro t ht
          rw [uc (by omega)] at ht
          rw [o (3 + 11) (by omega) (by omega) (by omega), o (3 + 12) (by omega) (by omega) (by omega), o (3 + 13) (by omega) (by omega) (by omega), o (3 + 14) (by omega) (by omega) (by omega), o (3 + 15) (by omega) (by omega) (by omega), u (i := 210 + 5 * t) (by omega), uc (i := 210 + 5 * t + 1) (by omega), u (i := 210 + 5 * t + 2) (by omega), u (i := 210 + 5 * t + 3) (by omega), u (i := 210 + 5 * t + 4) (by omega)]
          exact x5 t ht
        · intro m hm
          rw [e8 (3 + 16) (by omega), cutb_cong (fun j _ => cutw.fr hi.1.1 (ga _ _ (by omega)) (ga _ _ (by omega)) j)]; exact x6 m hm
      have hf' : rFir w h A I2 J2 := hf1.chg q1 (by omega) (uc (by omega)) (fun s hs => ⟨u (by omega), u (by omega)⟩) (fun s j _ h8 hj hj2 => fwk.ho (k := clk) (by omega) hwh.2 hi.1.1 h8 (by omega) hj2 (fun i z => hho i z) (ga _ _ (by omega)) (ga _ _ (by omega)) (ga _ _ (by omega)) (ga _ _ (by omega)) (ga _ _ (by omega)))
      have fin := hb.wrk (I' := I2) (J' := J2) (fun z z1 z2 z3 => o z (by omega) z2 z3) (fun z hz => e8 z (by omega)) (by rw [q1.wk.1, pvs_ne (by decide)]) (ga _ _ (by omega)) (ga _ _ (by omega)) (ga _ _ (by omega)) (ga _ _ (by omega)) ht hg' (hi.1.2.2.2.1.fr hi.1.1 (ga _ _ (by omega)) (ga _ _ (by omega))) hl hf'
      refine g_iconst (v := nI 1) dX11_plug_63 (by decide) ?_
      exact g_zret (by first | exact Or.inl rfl | exact Or.inr rfl | exact cB01 _) dX11_plug_64 rfl (⟨rfl, rfl, rfl, fin, fun z hz => ⟨o z (by omega) (by omega) (by omega), e8 z (by omega)⟩, Or.inl q1.wk.2⟩)
    · have r12' : I 12 kn = nI p := r12.trans p2
      have hne : (nI p = -1) ↔ False := by
        rw [cI_m1, nI_toInt (by omega)]
        exact ⟨fun z => by omega, False.elim⟩
      have ans : sp_plug a (nI kn) = (0, a) := by rw [sp_plug, ek, if_neg (fun z => by have := z.2; rw [p2, nI_toInt (by omega)] at this; omega)]
      rw [ans]
      refine pvMet.of _ (by decide) rfl (Nat.le_of_ble_eq_true rfl) ?_
      refine g_aload_n dX11_plug_0 rfl ?_
      refine g_getP dX11_plug_1 fdX11_32 rfl (by first | rfl | exact pv_shx) (by omega) (by omega) (by decide) rfl (hP _ _ _ rfl) ?_
      refine g_getP dX11_plug_4 fdX11_112 rfl (by first | rfl | exact pv_shx) (by omega) (by omega) (by decide) rfl (hP _ _ _ rfl) ?_
      refine g_iload_n dX11_plug_7 rfl ?_
      refine p_callV (ih) okX9_hasHole lkX11_124 rfl (by first | rfl | exact pv_shx) rfl (by omega) (by omega) dX11_plug_8 rfl (Nat.le_of_ble_eq_true rfl) (⟨by decide, by decide, by decide, by decide⟩) ?_
      refine n_if_eq 30 dX11_plug_11 (by decide) (by first | (with_reducible exact cB _) | ((with_reducible apply cN_eq0) <;> omega) | exact Iff.rfl) (fun c11 => by exfalso; first | omega | exact absurd trivial c11 | exact c11 | (simp at c11)) (fun c11 => ?_)
      refine g_aload_n dX11_plug_14 rfl ?_
      refine g_getP dX11_plug_15 fdX11_32 rfl (by first | rfl | exact pv_shx) (by omega) (by omega) (by decide) rfl (hP _ _ _ rfl) ?_
      refine g_getP dX11_plug_18 fdX11_112 rfl (by first | rfl | exact pv_shx) (by omega) (by omega) (by decide) rfl (hP _ _ _ rfl) ?_
      refine g_getP dX11_plug_21 fdX11_127 rfl (by first | rfl | exact pv_shx) (by omega) (by omega) (by decide) rfl (hP _ _ _ rfl) ?_
      refine g_iload_n dX11_plug_24 rfl ?_
      refine n_iald dX11_plug_25 (by first | rfl | exact pv_shx) (by omega) (by omega) (by decide) (rfl) (by omega) (by repeat (first | exact r12' | (apply rd_s; done) | apply rd_n (by omega) | apply rp_s | apply rp_n (by omega) | (apply rdL_s; done) | apply rdL_n (by omega) | apply rpJ_s | apply rpJ_n (by omega) | rfl)) ?_
      refine g_iconst (v := (-1)) dX11_plug_26 (by decide) ?_
      refine n_icmp_eq 32 dX11_plug_27 (by decide) (hne) (fun c27 => by exfalso; first | omega | exact absurd trivial c27 | exact c27 | (simp at c27)) (fun c27 => ?_)
      refine g_iconst (v := nI 0) dX11_plug_30 (by decide) ?_
      exact g_zret (by first | exact Or.inl rfl | exact Or.inr rfl | exact cB01 _) dX11_plug_31 rfl (⟨rfl, rfl, rfl, hb, mF2.rf, Or.inr ⟨rfl, sAl.rf⟩⟩)
  · rw [if_neg v1] at ih
    have ans : sp_plug a k = (0, a) := by rw [sp_plug, if_neg (fun z => v1 z.1)]
    rw [ans]
    refine pvMet.of _ (by decide) rfl (Nat.le_of_ble_eq_true rfl) ?_
    refine g_aload_n dX11_plug_0 rfl ?_
    refine g_getP dX11_plug_1 fdX11_32 rfl (by first | rfl | exact pv_shx) (by omega) (by omega) (by decide) rfl (hP _ _ _ rfl) ?_
    refine g_getP dX11_plug_4 fdX11_112 rfl (by first | rfl | exact pv_shx) (by omega) (by omega) (by decide) rfl (hP _ _ _ rfl) ?_
    refine g_iload_n dX11_plug_7 rfl ?_
    refine p_callV (ih) okX9_hasHole lkX11_124 rfl (by first | rfl | exact pv_shx) rfl (by omega) (by omega) dX11_plug_8 rfl (Nat.le_of_ble_eq_true rfl) (⟨by decide, by decide, by decide, by decide⟩) ?_
    refine n_if_eq 30 dX11_plug_11 (by decide) (by first | (with_reducible exact cB _) | ((with_reducible apply cN_eq0) <;> omega) | exact Iff.rfl) (fun c11 => ?_) (fun c11 => by exfalso; first | omega | exact absurd trivial c11 | exact c11 | (simp at c11))
    refine g_iconst (v := nI 0) dX11_plug_30 (by decide) ?_
    exact g_zret (by first | exact Or.inl rfl | exact Or.inr rfl | exact cB01 _) dX11_plug_31 rfl (⟨rfl, rfl, rfl, hb, mF2.rf, Or.inr ⟨rfl, sAl.rf⟩⟩)
end PLG
