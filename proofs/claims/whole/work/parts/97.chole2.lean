/-! class: hole, plug, the calls -/
section HO2
variable {w h : Nat} {a : Nat → Int32} {I : pvI} {J : pvJ} {P : pvP}
theorem c_hole {c : Int32} (hP : pvOkP P) (hb : kB w h a I J) : pvMet mX11_hole 4 0 0 [.ref 1, .int c] 224 I J P (mtQ w h a I J P (sp_hole w h a c)) := by
  obtain ⟨n0, r0⟩ := hb.n0
  obtain ⟨n1, r1⟩ := hb.n1
  have n2 := hb.n2.1
  have n3 := hb.n3.1
  have hwh := hb.1.wh
  have hi := hb.2.2.2.2
  have ip := c_has (v := c) (P := P) hb.1
  by_cases v1 : 0 ≤ c.toInt ∧ c.toInt < w * h
  · rw [if_pos v1] at ip
    by_cases v2 : cnt a 0 = 100
    · have ans : sp_hole w h a c = (-1, a) := by rw [sp_hole, if_neg (fun z => z.2.1 v2)]
      rw [ans]
      refine pvMet.of _ (by decide) rfl (Nat.le_of_ble_eq_true rfl) ?_
      refine g_aload_n dX11_hole_0 rfl ?_
      refine g_getP dX11_hole_1 fdX11_21 rfl (by first | rfl | exact pv_shx) (by omega) (by omega) (by decide) rfl (hP _ _ _ rfl) ?_
      refine g_iload_n dX11_hole_4 rfl ?_
      refine p_callV (ip) okX2_has lkX11_81 rfl (by first | rfl | exact pv_shx) rfl (by omega) (by omega) dX11_hole_5 rfl (Nat.le_of_ble_eq_true rfl) (⟨by decide, by decide, by decide, by decide⟩) ?_
      refine n_if_eq 38 dX11_hole_8 (by decide) (by first | (with_reducible exact cB _) | ((with_reducible apply cN_eq0) <;> omega) | exact Iff.rfl) (fun c8 => by exfalso; first | omega | exact absurd trivial c8 | exact c8 | (simp at c8)) (fun c8 => ?_)
      refine g_aload_n dX11_hole_11 rfl ?_
      refine g_getP dX11_hole_12 fdX11_32 rfl (by first | rfl | exact pv_shx) (by omega) (by omega) (by decide) rfl (hP _ _ _ rfl) ?_
      refine n_getI dX11_hole_15 fdX11_77 rfl (by first | rfl | exact pv_shx) (by omega) (by omega) (by decide) rfl (by repeat (first | exact r0 | (apply rd_s; done) | apply rd_n (by omega) | apply rp_s | apply rp_n (by omega) | (apply rdL_s; done) | apply rdL_n (by omega) | apply rpJ_s | apply rpJ_n (by omega) | rfl)) ?_
      refine g_bipush (v := nI 100) dX11_hole_18 (by decide) ?_
      refine n_icmp_ge 38 dX11_hole_20 (by decide) (by first | ((with_reducible apply cN_le) <;> omega) | ((with_reducible apply cI_len) <;> omega) | ((with_reducible apply cI_nle) <;> omega) | (with_reducible exact cI_le)) (fun c20 => ?_) (fun c20 => by exfalso; first | omega | exact absurd trivial c20 | exact c20 | (simp at c20))
      refine g_iconst (v := (-1)) dX11_hole_38 (by decide) ?_
      exact g_iret dX11_hole_39 rfl (⟨rfl, rfl, rfl, hb, mF2.rf, Or.inr ⟨rfl, sAl.rf⟩⟩)
    · by_cases v3 : cnt a 1 = 20
      · have ans : sp_hole w h a c = (-1, a) := by rw [sp_hole, if_neg (fun z => z.2.2 v3)]
        rw [ans]
        refine pvMet.of _ (by decide) rfl (Nat.le_of_ble_eq_true rfl) ?_
        refine g_aload_n dX11_hole_0 rfl ?_
        refine g_getP dX11_hole_1 fdX11_21 rfl (by first | rfl | exact pv_shx) (by omega) (by omega) (by decide) rfl (hP _ _ _ rfl) ?_
        refine g_iload_n dX11_hole_4 rfl ?_
        refine p_callV (ip) okX2_has lkX11_81 rfl (by first | rfl | exact pv_shx) rfl (by omega) (by omega) dX11_hole_5 rfl (Nat.le_of_ble_eq_true rfl) (⟨by decide, by decide, by decide, by decide⟩) ?_
        refine n_if_eq 38 dX11_hole_8 (by decide) (by first | (with_reducible exact cB _) | ((with_reducible apply cN_eq0) <;> omega) | exact Iff.rfl) (fun c8 => by exfalso; first | omega | exact absurd trivial c8 | exact c8 | (simp at c8)) (fun c8 => ?_)
        refine g_aload_n dX11_hole_11 rfl ?_
        refine g_getP dX11_hole_12 fdX11_32 rfl (by first | rfl | exact pv_shx) (by omega) (by omega) (by decide) rfl (hP _ _ _ rfl) ?_
        refine n_getI dX11_hole_15 fdX11_77 rfl (by first | rfl | exact pv_shx) (by omega) (by omega) (by decide) rfl (by repeat (first | exact r0 | exact r1 | (apply rd_s; done) | apply rd_n (by omega) | apply rp_s | apply rp_n (by omega) | (apply rdL_s; done) | apply rdL_n (by omega) | apply rpJ_s | apply rpJ_n (by omega) | rfl)) ?_
        refine g_bipush (v := nI 100) dX11_hole_18 (by decide) ?_
        refine n_icmp_ge 38 dX11_hole_20 (by decide) (by first | ((with_reducible apply cN_le) <;> omega) | ((with_reducible apply cI_len) <;> omega) | ((with_reducible apply cI_nle) <;> omega) | (with_reducible exact cI_le)) (fun c20 => by exfalso; first | omega | exact absurd trivial c20 | exact c20 | (simp at c20)) (fun c20 => ?_)
        refine g_aload_n dX11_hole_23 rfl ?_
        refine g_getP dX11_hole_24 fdX11_32 rfl (by first | rfl | exact pv_shx) (by omega) (by omega) (by decide) rfl (hP _ _ _ rfl) ?_
        refine g_getP dX11_hole_27 fdX11_112 rfl (by first | rfl | exact pv_shx) (by omega) (by omega) (by decide) rfl (hP _ _ _ rfl) ?_
        refine n_getI dX11_hole_30 fdX11_116 rfl (by first | rfl | exact pv_shx) (by omega) (by omega) (by decide) rfl (by repeat (first | exact r0 | exact r1 | (apply rd_s; done) | apply rd_n (by omega) | apply rp_s | apply rp_n (by omega) | (apply rdL_s; done) | apply rdL_n (by omega) | apply rpJ_s | apply rpJ_n (by omega) | rfl)) ?_
        refine g_bipush (v := nI 20) dX11_hole_33 (by decide) ?_
        refine n_icmp_lt 40 dX11_hole_35 (by decide) (by first | ((with_reducible apply cN_lt) <;> omega) | ((with_reducible apply cI_ltn) <;> omega) | ((with_reducible apply cI_nlt) <;> omega) | (with_reducible exact cI_lt)) (fun c35 => by exfalso; first | omega | exact absurd trivial c35 | exact c35 | (simp at c35)) (fun c35 => ?_)
        refine g_iconst (v := (-1)) dX11_hole_38 (by decide) ?_
        exact g_iret dX11_hole_39 rfl (⟨rfl, rfl, rfl, hb, mF2.rf, Or.inr ⟨rfl, sAl.rf⟩⟩)
      · obtain ⟨cn, hcn, rfl⟩ := cI_of (x := c) (n := w * h) (by omega) (by omega) (by omega)
        have ha1 := (mG_eq hi.1.1 (i := 1) (by decide)).1
        have ha0 := (mG_eq hi.1.1 (i := 0) (by decide)).1
        have ans : sp_hole w h a (nI cn) = (nI (cnt a 1), upd (upd (upd (upd a (150 + 3 * cnt a 1) (nI cn)) (150 + 3 * cnt a 1 + 1) (nI (cnt a 0))) (150 + 3 * cnt a 1 + 2) (-1)) 1 (nI (cnt a 1 + 1))) := by rw [sp_hole, if_pos ⟨v1, v2, v3⟩, ← ha1, ← ha0]
        rw [ans]
        obtain ⟨x1, x2, x3, x4, x5, x6⟩ := hb.2.1.2.2.1
        have cf := c_changedFrom (k := cnt a 0 + 1) hP hb.2.2.1 (by omega)
        have hhol := hi.1.2.2.2.2.1
        generalize hN : cnt a 1 = N at *
        generalize hK : cnt a 0 = clk at *
        generalize hA : upd (upd (upd (upd a (150 + 3 * N) (nI cn)) (150 + 3 * N + 1) (nI clk)) (150 + 3 * N + 2) (-1)) 1 (nI (N + 1)) = A
        have u : ∀ {i}, i ≠ 1 → (i < 150 + 3 * N ∨ 150 + 3 * N + 2 < i) → A i = a i := fun z1 z2 => by rw [← hA, updI z1, updI (by omega), updI (by omega), updI (by omega)]
        have uc : ∀ {i}, i ≠ 1 → (i < 150 + 3 * N ∨ 150 + 3 * N + 2 < i) → cnt A i = cnt a i := fun z1 z2 => by unfold cnt; rw [u z1 z2]
        have u1 : A 1 = nI (N + 1) := by rw [← hA, updS]
        have c1 : cnt A 1 = N + 1 := cnt_of u1 (by omega)
        have w0 : A (150 + 3 * N) = nI cn := by rw [← hA, updI (by omega), updI (by omega), updI (by omega), updS]
        have w1 : A (150 + 3 * N + 1) = nI clk := by rw [← hA, updI (by omega), updI (by omega), updS]
        have w2 : A (150 + 3 * N + 2) = -1 := by rw [← hA, updI (by omega), updS]
        have ga : ∀ lo hi', (hi' ≤ 1 ∨ (2 ≤ lo ∧ hi' ≤ 150) ∨ 210 ≤ lo) → ag lo hi' a A := fun lo hi' hz i z1 z2 => u (by omega) (by omega)
        have hg' : mG A := hi.1.1.one (i := 1) (v := N + 1) (by decide) (show N + 1 ≤ 20 by omega) u1 (fun j z1 z2 => u z2 (by omega))
        have hl : mHoles (w * h) A := fun q hq => by
          rw [c1] at hq
          by_cases e : q = N
          · subst e
            rw [w0, w1, w2]
            exact ⟨⟨cn, hcn, rfl⟩, ⟨clk, by omega, rfl⟩, Or.inl rfl⟩
          · rw [u (i := 150 + 3 * q) (by omega) (by omega), u (i := 150 + 3 * q + 1) (by omega) (by omega), u (i := 150 + 3 * q + 2) (by omega) (by omega)]
            exact hhol q (by omega)
        have hho : ∀ m, m < clk → hoB A m none = hoB a m none := fun m hm => by
          funext c'
          unfold hoB
          rw [c1, hN]
          show (anyB (hoK A m none c') N || hoK A m none c' N) = _
          have e : hoK A m none c' N = false := by
            unfold hoK
            have : ¬ hoPd A m none N := fun z => by
              have := z.2.1
              rw [cnt_of w1 (by omega)] at this
              omega
            rw [decide_eq_false this, Bool.false_and]
          rw [e, Bool.or_false]
          apply anyB_cong
          intro q hq
          unfold hoK hoPd
          rw [uc (i := 150 + 3 * q + 1) (by omega) (by omega), u (i := 150 + 3 * q + 2) (by omega) (by omega), uc (i := 150 + 3 * q) (by omega) (by omega)]
        refine pvMet.of _ (by decide) rfl (Nat.le_of_ble_eq_true rfl) ?_
        refine g_aload_n dX11_hole_0 rfl ?_
        refine g_getP dX11_hole_1 fdX11_21 rfl (by first | rfl | exact pv_shx) (by omega) (by omega) (by decide) rfl (hP _ _ _ rfl) ?_
        refine g_iload_n dX11_hole_4 rfl ?_
        refine p_callV (ip) okX2_has lkX11_81 rfl (by first | rfl | exact pv_shx) rfl (by omega) (by omega) dX11_hole_5 rfl (Nat.le_of_ble_eq_true rfl) (⟨by decide, by decide, by decide, by decide⟩) ?_
        refine n_if_eq 38 dX11_hole_8 (by decide) (by first | (with_reducible exact cB _) | ((with_reducible apply cN_eq0) <;> omega) | exact Iff.rfl) (fun c8 => by exfalso; first | omega | exact absurd trivial c8 | exact c8 | (simp at c8)) (fun c8 => ?_)
        refine g_aload_n dX11_hole_11 rfl ?_
        refine g_getP dX11_hole_12 fdX11_32 rfl (by first | rfl | exact pv_shx) (by omega) (by omega) (by decide) rfl (hP _ _ _ rfl) ?_
        refine n_getI dX11_hole_15 fdX11_77 rfl (by first | rfl | exact pv_shx) (by omega) (by omega) (by decide) rfl (by repeat (first | exact r0 | exact r1 | (apply rd_s; done) | apply rd_n (by omega) | apply rp_s | apply rp_n (by omega) | (apply rdL_s; done) | apply rdL_n (by omega) | apply rpJ_s | apply rpJ_n (by omega) | rfl)) ?_
        refine g_bipush (v := nI 100) dX11_hole_18 (by decide) ?_
        refine n_icmp_ge 38 dX11_hole_20 (by decide) (by first | ((with_reducible apply cN_le) <;> omega) | ((with_reducible apply cI_len) <;> omega) | ((with_reducible apply cI_nle) <;> omega) | (with_reducible exact cI_le)) (fun c20 => by exfalso; first | omega | exact absurd trivial c20 | exact c20 | (simp at c20)) (fun c20 => ?_)
        refine g_aload_n dX11_hole_23 rfl ?_
        refine g_getP dX11_hole_24 fdX11_32 rfl (by first | rfl | exact pv_shx) (by omega) (by omega) (by decide) rfl (hP _ _ _ rfl) ?_
        refine g_getP dX11_hole_27 fdX11_112 rfl (by first | rfl | exact pv_shx) (by omega) (by omega) (by decide) rfl (hP _ _ _ rfl) ?_
        refine n_getI dX11_hole_30 fdX11_116 rfl (by first | rfl | exact pv_shx) (by omega) (by omega) (by decide) rfl (by repeat (first | exact r0 | exact r1 | (apply rd_s; done) | apply rd_n (by omega) | apply rp_s | apply rp_n (by omega) | (apply rdL_s; done) | apply rdL_n (by omega) | apply rpJ_s | apply rpJ_n (by omega) | rfl)) ?_
        refine g_bipush (v := nI 20) dX11_hole_33 (by decide) ?_
        refine n_icmp_lt 40 dX11_hole_35 (by decide) (by first | ((with_reducible apply cN_lt) <;> omega) | ((with_reducible apply cI_ltn) <;> omega) | ((with_reducible apply cI_nlt) <;> omega) | (with_reducible exact cI_lt)) (fun c35 => ?_) (fun c35 => by exfalso; first | omega | exact absurd trivial c35 | exact c35 | (simp at c35))
        refine g_aload_n dX11_hole_40 rfl ?_
        refine g_aload_n dX11_hole_41 rfl ?_
        refine g_getP dX11_hole_42 fdX11_32 rfl (by first | rfl | exact pv_shx) (by omega) (by omega) (by decide) rfl (hP _ _ _ rfl) ?_
        refine n_getI dX11_hole_45 fdX11_77 rfl (by first | rfl | exact pv_shx) (by omega) (by omega) (by decide) rfl (by repeat (first | exact r0 | exact r1 | (apply rd_s; done) | apply rd_n (by omega) | apply rp_s | apply rp_n (by omega) | (apply rdL_s; done) | apply rdL_n (by omega) | apply rpJ_s | apply rpJ_n (by omega) | rfl)) ?_
        refine g_iconst (v := nI 1) dX11_hole_48 (by decide) ?_
        refine n_iadd dX11_hole_49 (by first | (with_reducible exact nI_add _ _) | rfl) ?_
        refine g_callV (cf) okX11_changedFrom lkX11_99 rfl (by first | rfl | exact pv_shx) rfl (by omega) (by omega) dX11_hole_50 rfl (Nat.le_of_ble_eq_true rfl) (⟨by decide, by decide, by decide, by decide⟩) ?_
        rintro v nx' I1 J1 P' ⟨rfl, rfl, rfl, rfl, q1⟩
        have f9 : I1 9 0 = nI N := by rw [q1.o (x := 9) (by omega) (by omega)]; exact r1
        have f3 : I1 3 0 = nI clk := by rw [q1.o (x := 3) (by omega) (by omega)]; exact r0
        have bo := c_bore (w := w) (h := h) (I := I1) (J := J1) (n := N) (k := clk) (c := nI cn) (A := A) hP f9 (by omega) (by omega) hg' hl hwh.2 c1 w0 w1 w2 (fun q hq => by
          rw [q1.o (x := 10) (by omega) (by omega), q1.o (x := 11) (by omega) (by omega), q1.o (x := 12) (by omega) (by omega), u (i := 150 + 3 * q) (by omega) (by omega), u (i := 150 + 3 * q + 1) (by omega) (by omega), u (i := 150 + 3 * q + 2) (by omega) (by omega)]
          exact x2 q (by omega))
        refine g_aload_n dX11_hole_53 rfl ?_
        refine g_getP dX11_hole_54 fdX11_32 rfl (by first | rfl | exact pv_shx) (by omega) (by omega) (by decide) rfl (hP _ _ _ rfl) ?_
        refine g_getP dX11_hole_57 fdX11_112 rfl (by first | rfl | exact pv_shx) (by omega) (by omega) (by decide) rfl (hP _ _ _ rfl) ?_
        refine g_iload_n dX11_hole_60 rfl ?_
        refine g_aload_n dX11_hole_61 rfl ?_
        refine g_getP dX11_hole_62 fdX11_32 rfl (by first | rfl | exact pv_shx) (by omega) (by omega) (by decide) rfl (hP _ _ _ rfl) ?_
        refine n_getI dX11_hole_65 fdX11_77 rfl (by first | rfl | exact pv_shx) (by omega) (by omega) (by decide) rfl (by repeat (first | exact f3 | (apply rd_s; done) | apply rd_n (by omega) | apply rp_s | apply rp_n (by omega) | (apply rdL_s; done) | apply rdL_n (by omega) | apply rpJ_s | apply rpJ_n (by omega) | rfl)) ?_
        refine g_callV (bo) okX9_bore lkX11_121 rfl (by first | rfl | exact pv_shx) rfl (by omega) (by omega) dX11_hole_68 rfl (Nat.le_of_ble_eq_true rfl) (⟨by decide, by decide, by decide, by decide⟩) ?_
        rintro v nx' I2 J2 P'' ⟨rfl, rfl, rfl, e1, e2, e3, e4, e5, e6, e7, e8⟩
        have hw := hb.1.2.2.2.2.2.2.1
        have o : ∀ z, (z < 9 ∨ 12 < z) → z ≠ 43 → (z < 90 ∨ 138 ≤ z) → I2 z = I z := fun z z1 z2 z3 => (e5 z z1).trans (q1.o z2 z3)
        have ht : rWrk w h 3 A I2 J2 := by
          refine ⟨?_, ?_, ?_, ?_, ?_, ?_⟩
          · show I2 9 0 = _
            rw [e4, updS, u1]
          · intro q hq
            rw [c1] at hq
            show I2 10 q = _ ∧ I2 11 q = _ ∧ I2 12 q = _
            rw [e1, e2, e3, q1.o (x := 10) (by omega) (by omega), q1.o (x := 11) (by omega) (by omega), q1.o (x := 12) (by omega) (by omega)]
            by_cases e : q = N
            · subst e; rw [updS, updS, updS, w0, w1, w2]; exact ⟨rfl, rfl, rfl⟩
            · rw [updI e, updI e, updI e, u (i := 150 + 3 * q) (by omega) (by omega), u (i := 150 + 3 * q + 1) (by omega) (by omega), u (i := 150 + 3 * q + 2) (by omega) (by omega)]
              exact x2 q (by omega)
          · intro m hm
            show J2 13 m = _
            by_cases z : clk ≤ m
            · exact e6 m z hm
            · rw [e7 m (by omega), hho m (by omega)]; exact x3 m hm
          · show I2 9 5 = _
            rw [e4, updI (by decide), q1.o (x := 9) (by omega) (by omega), u (by omega) (by omega)]; exact x4
          · intro t ht
            rw [uc (by omega) (by omega)] at ht
            rw [o (3 + 11) (by omega) (by omega) (by omega), o (3 + 12) (by omega) (by omega) (by omega), o (3 + 13) (by omega) (by omega) (by omega), o (3 + 14) (by omega) (by omega) (by omega), o (3 + 15) (by omega) (by omega) (by omega), u (i := 210 + 5 * t) (by omega) (by omega), uc (i := 210 + 5 * t + 1) (by omega) (by omega), u (i := 210 + 5 * t + 2) (by omega) (by omega), u (i := 210 + 5 * t + 3) (by omega) (by omega), u (i := 210 + 5 * t + 4) (by omega) (by omega)]
            exact x5 t ht
          · intro m hm
            rw [e8 (3 + 16) (by omega), cutb_cong (fun j _ => cutw.fr hi.1.1 (ga _ _ (by omega)) (ga _ _ (by omega)) j)]; exact x6 m hm
        have hf' : rFir w h A I2 J2 := (hb.2.2.1.chg q1 (by omega) (uc (by omega) (by omega)) (fun s hs => ⟨u (by omega) (by omega), u (by omega) (by omega)⟩) (fun s j _ h8 hj hj2 => fwk.ho (k := clk) (by omega) hwh.2 hi.1.1 h8 (by omega) hj2 (fun i z => hho i z) (ga _ _ (by omega)) (ga _ _ (by omega)) (ga _ _ (by omega)) (ga _ _ (by omega)) (ga _ _ (by omega)))).mv (fun x z1 z2 => e5 x (by omega)) (fun x z1 z2 => e8 x (by omega))
        have fin := hb.wrk (I' := I2) (J' := J2) (fun z z1 z2 z3 => o z (by omega) z2 z3) (fun z hz => e8 z (by omega)) (by rw [e5 43 (by omega)]; exact q1.wk.1) (ga _ _ (by omega)) (ga _ _ (by omega)) (ga _ _ (by omega)) (ga _ _ (by omega)) ht hg' (hi.1.2.2.2.1.fr hi.1.1 (ga _ _ (by omega)) (ga _ _ (by omega))) hl hf'
        exact g_iret dX11_hole_71 rfl (⟨rfl, rfl, rfl, fin, fun z hz => ⟨o z (by omega) (by omega) (by omega), e8 z (by omega)⟩, Or.inl (by rw [e5 43 (by omega)]; exact q1.wk.2)⟩)
  · rw [if_neg v1] at ip
    have ans : sp_hole w h a c = (-1, a) := by rw [sp_hole, if_neg (fun z => v1 z.1)]
    rw [ans]
    refine pvMet.of _ (by decide) rfl (Nat.le_of_ble_eq_true rfl) ?_
    refine g_aload_n dX11_hole_0 rfl ?_
    refine g_getP dX11_hole_1 fdX11_21 rfl (by first | rfl | exact pv_shx) (by omega) (by omega) (by decide) rfl (hP _ _ _ rfl) ?_
    refine g_iload_n dX11_hole_4 rfl ?_
    refine p_callV (ip) okX2_has lkX11_81 rfl (by first | rfl | exact pv_shx) rfl (by omega) (by omega) dX11_hole_5 rfl (Nat.le_of_ble_eq_true rfl) (⟨by decide, by decide, by decide, by decide⟩) ?_
    refine n_if_eq 38 dX11_hole_8 (by decide) (by first | (with_reducible exact cB _) | ((with_reducible apply cN_eq0) <;> omega) | exact Iff.rfl) (fun c8 => ?_) (fun c8 => by exfalso; first | omega | exact absurd trivial c8 | exact c8 | (simp at c8))
    refine g_iconst (v := (-1)) dX11_hole_38 (by decide) ?_
    exact g_iret dX11_hole_39 rfl (⟨rfl, rfl, rfl, hb, mF2.rf, Or.inr ⟨rfl, sAl.rf⟩⟩)
end HO2
