/-! class: state -/
section STA
variable {w h : Nat} {a a' : Nat → Int32} {I I' : pvI} {J : pvJ} {P : pvP}
theorem fwk.fr2 {wl s m : Nat} {wo : Option Nat} (hw : 0 < w) (hwh : w * h ≤ 64) (hg : mG a) (hs : cnt a' (260 + 2 * s) = cnt a (260 + 2 * s) ∧ cnt a' (260 + 2 * s + 1) = cnt a (260 + 2 * s + 1)) (hm : m ≤ 99) (h0 : wl = 0 ∨ (ag 0 1 a a' ∧ ag 10 11 a a' ∧ ag 1600 1620 a a' ∧ cnt a 10 ≤ 6)) (h1 : ag 1 3 a a') (h11 : ag 11 14 a a') (h2 : ag 20 260 a a') (h3 : ag 1620 8020 a a') : fwk w h a' wl wo s m = fwk w h a wl wo s m ∧ metB w h a' wl wo s m = metB w h a wl wo s m :=
  fwk_cong hw hwh ⟨fun c hc => h2.c (by omega) (by omega), fun c hc => h2.c (by omega) (by omega), h11.c (by omega) (by omega), h11.c (by omega) (by omega), h11.c (by omega) (by omega)⟩ hs (fun j _ => cutw.fr hg (h1.sub (by omega) (by omega)) (h2.sub (by omega) (by omega)) j) (fun j hj c hc => flw.fr h0 h3 (j + 1) (by omega) c hc) (fun j _ => hoB.fr hg (h1.sub (by omega) (by omega)) (h2.sub (by omega) (by omega)))
theorem c_addState {n : Nat} {c m : Int32} (hP : pvOkP P) (hn : I 20 0 = nI n) (hn2 : n < 8) : pvMet mX4_addState 0 0 0 [.ref 20, .int c, .int m] 224 I J P (pvq P (fun v I' J' => v = some (.int (nI n)) ∧ J' = J ∧ I' 21 = upd (I 21) n c ∧ I' 22 = upd (I 22) n m ∧ I' 20 = upd (I 20) 0 (nI (n + 1)) ∧ ∀ z, z < 20 ∨ 22 < z → I' z = I z)) := by
  refine pvMet.of _ (by decide) rfl (Nat.le_of_ble_eq_true rfl) ?_
  refine g_aload_n dX4_addState_0 rfl ?_
  refine n_getI dX4_addState_1 fdX4_30 rfl (by first | rfl | exact pv_shx) (by omega) (by omega) (by decide) rfl (by repeat (first | exact hn | (apply rd_s; done) | apply rd_n (by omega) | apply rp_s | apply rp_n (by omega) | (apply rdL_s; done) | apply rdL_n (by omega) | apply rpJ_s | apply rpJ_n (by omega) | rfl)) ?_
  refine g_istore_n dX4_addState_4 (by decide) rfl ?_
  refine g_aload_n dX4_addState_5 rfl ?_
  refine g_getP dX4_addState_6 fdX4_9 rfl (by first | rfl | exact pv_shx) (by omega) (by omega) (by decide) rfl (hP _ _ _ rfl) ?_
  refine g_iload_n dX4_addState_9 rfl ?_
  refine g_iload_n dX4_addState_10 rfl ?_
  refine n_iast dX4_addState_11 (by first | rfl | exact pv_shx) (by omega) (by omega) (by omega) (by decide) (rfl) (by omega) (by repeat (first | exact pvu_s | exact pvuJ_s | apply pvu_in (by omega) | apply pvuJ_in (by omega) | exact pvu_pvs | exact pvuJ_pvs)) ?_
  refine g_aload_n dX4_addState_12 rfl ?_
  refine g_getP dX4_addState_13 fdX4_15 rfl (by first | rfl | exact pv_shx) (by omega) (by omega) (by decide) rfl (hP _ _ _ rfl) ?_
  refine g_iload_n dX4_addState_16 rfl ?_
  refine g_iload_n dX4_addState_17 rfl ?_
  refine n_iast dX4_addState_18 (by first | rfl | exact pv_shx) (by omega) (by omega) (by omega) (by decide) (rfl) (by omega) (by repeat (first | exact pvu_s | exact pvuJ_s | apply pvu_in (by omega) | apply pvuJ_in (by omega) | exact pvu_pvs | exact pvuJ_pvs)) ?_
  refine g_aload_n dX4_addState_19 rfl ?_
  refine g_dup dX4_addState_20 rfl ?_
  refine n_getI dX4_addState_21 fdX4_30 rfl (by first | rfl | exact pv_shx) (by omega) (by omega) (by decide) rfl (by repeat (first | exact hn | (apply rd_s; done) | apply rd_n (by omega) | apply rp_s | apply rp_n (by omega) | (apply rdL_s; done) | apply rdL_n (by omega) | apply rpJ_s | apply rpJ_n (by omega) | rfl)) ?_
  refine g_iconst (v := nI 1) dX4_addState_24 (by decide) ?_
  refine n_iadd dX4_addState_25 (by first | (with_reducible exact nI_add _ _) | rfl) ?_
  refine n_putI dX4_addState_26 fdX4_30 rfl (fun h => absurd h (by decide)) (by first | rfl | exact pv_shx) (by omega) (by omega) (by decide) rfl (by repeat (first | exact pvu_s | exact pvuJ_s | apply pvu_in (by omega) | apply pvuJ_in (by omega) | exact pvu_pvs | exact pvuJ_pvs)) ?_
  refine g_iload_n dX4_addState_29 rfl ?_
  exact g_iret dX4_addState_30 rfl (⟨rfl, rfl, rfl, rfl, by simp [pvs], by simp [pvs], by simp [pvs], fun z hz => by repeat (rw [pvs_ne (by omega)])⟩)
theorem c_state {c m : Int32} (hP : pvOkP P) (hb : kB w h a I J) : pvMet mX11_state 3 0 0 [.ref 1, .int c, .int m] 224 I J P (mtQ w h a I J P (sp_state w h a c m)) := by
  obtain ⟨n3, r3⟩ := hb.n3
  obtain ⟨n0, r0⟩ := hb.n0
  obtain ⟨n4, -⟩ := hb.n4
  have hwh := hb.1.wh
  have ip := c_has (v := c) (P := P) hb.1
  have iw := c_isWeek (nx := 224) (v := m) (I := I) (J := J) (P := P)
  by_cases v1 : 0 ≤ c.toInt ∧ c.toInt < w * h
  · rw [if_pos v1] at ip
    by_cases v2 : 0 ≤ m.toInt ∧ m.toInt ≤ 99
    · rw [if_pos v2] at iw
      by_cases v4 : cnt a 3 = 8
      · have ans : sp_state w h a c m = (-1, a) := by rw [sp_state, if_neg (fun z => z.2.2.2 v4)]
        rw [ans]
        refine pvMet.of _ (by decide) rfl (Nat.le_of_ble_eq_true rfl) ?_
        refine g_aload_n dX11_state_0 rfl ?_
        refine g_getP dX11_state_1 fdX11_21 rfl (by first | rfl | exact pv_shx) (by omega) (by omega) (by decide) rfl (hP _ _ _ rfl) ?_
        refine g_iload_n dX11_state_4 rfl ?_
        refine p_callV (ip) okX2_has lkX11_81 rfl (by first | rfl | exact pv_shx) rfl (by omega) (by omega) dX11_state_5 rfl (Nat.le_of_ble_eq_true rfl) (⟨by decide, by decide, by decide, by decide⟩) ?_
        refine n_if_eq 33 dX11_state_8 (by decide) (by first | (with_reducible exact cB _) | ((with_reducible apply cN_eq0) <;> omega) | exact Iff.rfl) (fun c8 => by exfalso; first | omega | exact absurd trivial c8 | exact c8 | (simp at c8)) (fun c8 => ?_)
        refine g_iload_n dX11_state_11 rfl ?_
        refine p_callS (iw) okX11_isWeek lkX11_160 rfl dX11_state_12 rfl (Nat.le_of_ble_eq_true rfl) (⟨by decide, by decide, by decide, by decide⟩) ?_
        refine n_if_eq 33 dX11_state_15 (by decide) (by first | (with_reducible exact cB _) | ((with_reducible apply cN_eq0) <;> omega) | exact Iff.rfl) (fun c15 => by exfalso; first | omega | exact absurd trivial c15 | exact c15 | (simp at c15)) (fun c15 => ?_)
        refine g_aload_n dX11_state_18 rfl ?_
        refine g_getP dX11_state_19 fdX11_32 rfl (by first | rfl | exact pv_shx) (by omega) (by omega) (by decide) rfl (hP _ _ _ rfl) ?_
        refine g_getP dX11_state_22 fdX11_163 rfl (by first | rfl | exact pv_shx) (by omega) (by omega) (by decide) rfl (hP _ _ _ rfl) ?_
        refine n_getI dX11_state_25 fdX11_167 rfl (by first | rfl | exact pv_shx) (by omega) (by omega) (by decide) rfl (by repeat (first | exact r3 | (apply rd_s; done) | apply rd_n (by omega) | apply rp_s | apply rp_n (by omega) | (apply rdL_s; done) | apply rdL_n (by omega) | apply rpJ_s | apply rpJ_n (by omega) | rfl)) ?_
        refine g_bipush (v := nI 8) dX11_state_28 (by decide) ?_
        refine n_icmp_lt 35 dX11_state_30 (by decide) (by first | ((with_reducible apply cN_lt) <;> omega) | ((with_reducible apply cI_ltn) <;> omega) | ((with_reducible apply cI_nlt) <;> omega) | (with_reducible exact cI_lt)) (fun c30 => by exfalso; first | omega | exact absurd trivial c30 | exact c30 | (simp at c30)) (fun c30 => ?_)
        refine g_iconst (v := (-1)) dX11_state_33 (by decide) ?_
        exact g_iret dX11_state_34 rfl (⟨rfl, rfl, rfl, hb, mF2.rf, Or.inr ⟨rfl, sAl.rf⟩⟩)
      · obtain ⟨cn, hcn, rfl⟩ := cI_of (x := c) (n := w * h) (by omega) (by omega) (by omega)
        obtain ⟨mn, hmn, rfl⟩ := cI_of (x := m) (n := 100) (by omega) (by omega) (by omega)
        have ec : (nI cn).toNatClampNeg = cn := nI_clamp (by omega)
        obtain ⟨kd, kd1, kd2⟩ := hb.2.2.2.2.1.2.1.1 cn (by omega)
        have rk : I 5 cn = nI kd := by rw [hb.2.1.2.1.1 cn (by omega)]; exact kd2
        have ek : (a (20 + cn)).toInt = kd := by rw [kd2, nI_toInt (by omega)]
        by_cases v3 : kd = 1 ∨ kd = 2
        · have ha3 := (mG_eq hb.2.2.2.2.1.1 (i := 3) (by decide)).1
          have ans : sp_state w h a (nI cn) (nI mn) = (nI (cnt a 3), upd (upd (upd a (260 + 2 * cnt a 3) (nI cn)) (260 + 2 * cnt a 3 + 1) (nI mn)) 3 (nI (cnt a 3 + 1))) := by rw [sp_state, if_pos ⟨v1, by rw [ec]; omega, v2, v4⟩, ← ha3]
          rw [ans]
          have hi := hb.2.2.2.2
          have ad := c_addState (J := J) (c := nI cn) (m := nI mn) hP r3 (by omega)
          obtain ⟨x1, x2, x3, x4⟩ := hb.2.1.2.2.2.1
          have hst := hi.1.2.2.1
          have hah0 : mAh a := hi.2.2.2.2.2.2
          generalize hN : cnt a 3 = N at *
          generalize hA : upd (upd (upd a (260 + 2 * N) (nI cn)) (260 + 2 * N + 1) (nI mn)) 3 (nI (N + 1)) = A
          have u : ∀ {i}, i ≠ 3 → (i < 260 + 2 * N ∨ 260 + 2 * N + 1 < i) → A i = a i := fun e1 e2 => by rw [← hA, updI e1, updI (by omega), updI (by omega)]
          have uc : ∀ {i}, i ≠ 3 → (i < 260 + 2 * N ∨ 260 + 2 * N + 1 < i) → cnt A i = cnt a i := fun e1 e2 => by unfold cnt; rw [u e1 e2]
          have u3 : A 3 = nI (N + 1) := by rw [← hA, updS]
          have c3 : cnt A 3 = N + 1 := cnt_of u3 (by omega)
          have w0 : A (260 + 2 * N) = nI cn := by rw [← hA, updI (by omega), updI (by omega), updS]
          have w1 : A (260 + 2 * N + 1) = nI mn := by rw [← hA, updI (by omega), updS]
          have ga : ∀ lo hi', (hi' ≤ 3 ∨ (4 ≤ lo ∧ hi' ≤ 260) ∨ 276 ≤ lo) → ag lo hi' a A := fun lo hi' hz i z1 z2 => u (by omega) (by omega)
          have hg' : mG A := hi.1.1.one (i := 3) (v := N + 1) (by decide) (show N + 1 ≤ 8 by omega) u3 (fun j z1 z2 => u z2 (by omega))
          have hl : mStates (w * h) A := fun q hq => by
            rw [c3] at hq
            by_cases e : q = N
            · subst e
              rw [w0, w1]
              exact ⟨⟨cn, hcn, rfl⟩, ⟨mn, by omega, rfl⟩⟩
            · rw [u (i := 260 + 2 * q) (by omega) (by omega), u (i := 260 + 2 * q + 1) (by omega) (by omega)]
              exact hst q (by omega)
          have hah : mAh A := hah0.fr hi.1.1 (ga _ _ (by omega)) (ga _ _ (by omega)) (ga _ _ (by omega)) (ga _ _ (by omega))
          have cont : ∀ v3' : Int32, pvG mX11_state (pvR 3 0 0) (pvZ (mtQ w h a I J P (nI N, A)) 0 0) 60 [.ref 1, .int (nI cn), .int (nI mn), .int v3', .retAddr 0] [] 0 0 224 I J P := by
            intro v3'
            refine g_aload_n dX11_state_60 rfl ?_
            refine g_getP dX11_state_61 fdX11_32 rfl (by first | rfl | exact pv_shx) (by omega) (by omega) (by decide) rfl (hP _ _ _ rfl) ?_
            refine g_getP dX11_state_64 fdX11_163 rfl (by first | rfl | exact pv_shx) (by omega) (by omega) (by decide) rfl (hP _ _ _ rfl) ?_
            refine g_iload_n dX11_state_67 rfl ?_
            refine g_iload_n dX11_state_68 rfl ?_
            refine g_callV (ad) okX4_addState lkX11_175 rfl (by first | rfl | exact pv_shx) rfl (by omega) (by omega) dX11_state_69 rfl (Nat.le_of_ble_eq_true rfl) (⟨by decide, by decide, by decide, by decide⟩) ?_
            rintro v nx' I1 J1 P' ⟨rfl, rfl, rfl, rfl, e21, e22, e20, he⟩
            refine g_istore dX11_state_72 (by decide) rfl ?_
            have bs := fad_lt (show N < 8 by omega)
            obtain ⟨⟨f1, f2⟩, ⟨sn, sn1, sn2, sn3⟩, -⟩ := hb.2.2.1 N (by omega)
            have s0 := (fad_ok (show N < 9 by omega)).sh.1.1
            have e0 : I1 (fad N) = I (fad N) := he _ (by omega)
            have te := f_tell (F := fad N) (I := I1) (J := J1) (P := P') (c := nI cn) (m := nI mn) (fad_ok (by omega)) sn1 (by rw [e0]; exact sn2) (by rw [e0]; exact sn3)
            refine g_aload_n dX11_state_74 rfl ?_
            refine g_getP dX11_state_75 fdX11_41 rfl (by first | rfl | exact pv_shx) (by omega) (by omega) (by decide) rfl (hP _ _ _ rfl) ?_
            refine g_iload dX11_state_78 rfl ?_
            refine g_aald _ dX11_state_80 (by first | exact Or.inl rfl | exact Or.inr rfl) (by omega) (by omega) (by decide) (rfl) (by omega) (fires_P hP (by omega)) ?_
            refine g_iload_n dX11_state_81 rfl ?_
            refine g_iload_n dX11_state_82 rfl ?_
            refine g_callV (te) okX1_tell lkX11_178 rfl (s0) rfl (by omega) (by omega) dX11_state_83 rfl (Nat.le_of_ble_eq_true rfl) (⟨by decide, by decide, by decide, by decide⟩) ?_
            rintro v nx' I2 J2 P'' ⟨rfl, rfl, rfl, rfl, t1, t2, t3, t4, t5, t6⟩
            have wf := c_wforget (I := I2) (J := J2) hP
            refine g_aload_n dX11_state_86 rfl ?_
            refine g_getP dX11_state_87 fdX11_32 rfl (by first | rfl | exact pv_shx) (by omega) (by omega) (by decide) rfl (hP _ _ _ rfl) ?_
            refine g_getP dX11_state_90 fdX11_180 rfl (by first | rfl | exact pv_shx) (by omega) (by omega) (by decide) rfl (hP _ _ _ rfl) ?_
            refine g_callV (wf) okX8_forget lkX11_184 rfl (by first | rfl | exact pv_shx) rfl (by omega) (by omega) dX11_state_93 rfl (Nat.le_of_ble_eq_true rfl) (⟨by decide, by decide, by decide, by decide⟩) ?_
            rintro v nx' I3 J3 P3 ⟨rfl, rfl, rfl, rfl, rfl⟩
            have o : ∀ x, x ≠ 43 → pvs I2 43 (upd (upd (I2 43) 3 (-1)) 4 (-1)) x = I2 x := fun x hx => pvs_ne hx
            have o2 : ∀ x, x ≠ 43 → x ≠ fad N → pvs I2 43 (upd (upd (I2 43) 3 (-1)) 4 (-1)) x = I1 x := fun x hx hy => by rw [o x hx]; exact t1 x (by simpa using hy)
            have ht : rKno 3 A (pvs I2 43 (upd (upd (I2 43) 3 (-1)) 4 (-1))) := by
              refine rKno.mv (I := I1) ⟨?_, ?_, ?_, ?_⟩ (fun x _ z => o2 x (by omega) (by omega))
              · show I1 20 0 = _
                rw [e20, updS, u3]
              · intro q hq
                rw [c3] at hq
                show I1 21 q = _ ∧ I1 22 q = _
                rw [e21, e22]
                by_cases e : q = N
                · subst e
                  rw [updS, updS, w0, w1]
                  exact ⟨rfl, rfl⟩
                · rw [updI e, updI e, u (i := 260 + 2 * q) (by omega) (by omega), u (i := 260 + 2 * q + 1) (by omega) (by omega)]
                  exact x2 q (by omega)
              · show I1 20 3 = _
                rw [e20, updI (by decide), u (by omega) (by omega)]; exact x3
              · intro q hq
                rw [uc (by omega) (by omega)] at hq
                rw [he (3 + 20) (by omega), he (3 + 21) (by omega), he (3 + 22) (by omega), he (3 + 23) (by omega), u (i := 280 + 4 * q) (by omega) (by omega), u (i := 280 + 4 * q + 1) (by omega) (by omega), u (i := 280 + 4 * q + 2) (by omega) (by omega), u (i := 280 + 4 * q + 3) (by omega) (by omega)]
                exact x4 q hq
            have hw := hb.1.2.2.2.2.2.2.1
            have hf' : rFir w h A (pvs I2 43 (upd (upd (I2 43) 3 (-1)) 4 (-1))) J3 := by
              refine rFir.mv (I := I2) (w := w) (h := h) (a := A) ?_ (fun x _ _ => o x (by omega)) (fun _ _ _ => rfl)
              intro s hs
              by_cases e : s = N
              · subst e
                refine ⟨⟨by rw [t4, e0]; exact f1, f2⟩, ⟨0, by omega, t6, Or.inl t5⟩, fun _ => ⟨by rw [t2, w0], by rw [t3, w1], 0, by omega, t6, fun j hj => absurd hj (Nat.not_lt_zero j), Or.inl t5⟩⟩
              · have bs2 := fad_lt hs
                have far : ∀ x, fad s ≤ x → x ≤ fad s + 5 → I2 x = I x := fun x z1 z2 => by
                  unfold fad at *
                  rw [t1 x (by simp; omega)]
                  exact he x (by omega)
                obtain ⟨y1, y2, y3⟩ := hb.2.2.1 s hs
                rw [far (fad s) (by omega) (by omega)]
                refine ⟨y1, y2, fun z => ?_⟩
                rw [c3] at z
                obtain ⟨q1, q2, sm, q3⟩ := y3 (by omega)
                refine ⟨by rw [u (by omega) (by omega)]; exact q1, by rw [u (by omega) (by omega)]; exact q2, sm, ?_⟩
                refine fVn.mv (I := I) ?_ far (fun _ _ _ => rfl)
                obtain ⟨k1, k2, k3, k4⟩ := q3
                have k : ∀ m, m ≤ 99 → fwk w h A 0 none s m = fwk w h a 0 none s m ∧ metB w h A 0 none s m = metB w h a 0 none s m := fun m hm => fwk.fr2 (by omega) hwh.2 hi.1.1 ⟨uc (by omega) (by omega), uc (by omega) (by omega)⟩ hm (Or.inl rfl) (ga _ _ (by omega)) (ga _ _ (by omega)) (ga _ _ (by omega)) (ga _ _ (by omega))
                refine ⟨k1, k2, fun j hj => ?_, ?_⟩
                · rw [(k j (by omega)).1, (k j (by omega)).2]; exact k3 j hj
                · rcases k4 with z | ⟨j, j1, j2, j3⟩
                  · exact Or.inl z
                  · exact Or.inr ⟨j, j1, j2, by rw [(k j (by omega)).1]; exact j3⟩
            have fin := hb.kno (I' := pvs I2 43 (upd (upd (I2 43) 3 (-1)) 4 (-1))) (fun x z1 z2 z3 => by rw [o2 x z2 (by omega)]; exact he x (by omega)) (by rw [pvs_eq, updI (by decide), updI (by decide), t1 43 (by simp; omega), he 43 (by omega)]) (ga _ _ (by omega)) (ga _ _ (by omega)) (ga _ _ (by omega)) (ga _ _ (by omega)) ht hg' hl (hi.2.1.fr hi.1.1 (ga _ _ (by omega)) (ga _ _ (by omega))) hah hf'
            refine g_iload dX11_state_96 rfl ?_
            exact g_iret dX11_state_98 rfl (⟨rfl, rfl, rfl, fin, fun z hz => ⟨by rw [o2 z (by omega) (by omega)]; exact he z (by omega), rfl⟩, Or.inl (by rw [pvs_eq]; simp [upd])⟩)
          rcases v3 with rfl | rfl
          · skip
            refine pvMet.of _ (by decide) rfl (Nat.le_of_ble_eq_true rfl) ?_
            refine g_aload_n dX11_state_0 rfl ?_
            refine g_getP dX11_state_1 fdX11_21 rfl (by first | rfl | exact pv_shx) (by omega) (by omega) (by decide) rfl (hP _ _ _ rfl) ?_
            refine g_iload_n dX11_state_4 rfl ?_
            refine p_callV (ip) okX2_has lkX11_81 rfl (by first | rfl | exact pv_shx) rfl (by omega) (by omega) dX11_state_5 rfl (Nat.le_of_ble_eq_true rfl) (⟨by decide, by decide, by decide, by decide⟩) ?_
            refine n_if_eq 33 dX11_state_8 (by decide) (by first | (with_reducible exact cB _) | ((with_reducible apply cN_eq0) <;> omega) | exact Iff.rfl) (fun c8 => by exfalso; first | omega | exact absurd trivial c8 | exact c8 | (simp at c8)) (fun c8 => ?_)
            refine g_iload_n dX11_state_11 rfl ?_
            refine p_callS (iw) okX11_isWeek lkX11_160 rfl dX11_state_12 rfl (Nat.le_of_ble_eq_true rfl) (⟨by decide, by decide, by decide, by decide⟩) ?_
            refine n_if_eq 33 dX11_state_15 (by decide) (by first | (with_reducible exact cB _) | ((with_reducible apply cN_eq0) <;> omega) | exact Iff.rfl) (fun c15 => by exfalso; first | omega | exact absurd trivial c15 | exact c15 | (simp at c15)) (fun c15 => ?_)
            refine g_aload_n dX11_state_18 rfl ?_
            refine g_getP dX11_state_19 fdX11_32 rfl (by first | rfl | exact pv_shx) (by omega) (by omega) (by decide) rfl (hP _ _ _ rfl) ?_
            refine g_getP dX11_state_22 fdX11_163 rfl (by first | rfl | exact pv_shx) (by omega) (by omega) (by decide) rfl (hP _ _ _ rfl) ?_
            refine n_getI dX11_state_25 fdX11_167 rfl (by first | rfl | exact pv_shx) (by omega) (by omega) (by decide) rfl (by repeat (first | exact r3 | exact rk | (apply rd_s; done) | apply rd_n (by omega) | apply rp_s | apply rp_n (by omega) | (apply rdL_s; done) | apply rdL_n (by omega) | apply rpJ_s | apply rpJ_n (by omega) | rfl)) ?_
            refine g_bipush (v := nI 8) dX11_state_28 (by decide) ?_
            refine n_icmp_lt 35 dX11_state_30 (by decide) (by first | ((with_reducible apply cN_lt) <;> omega) | ((with_reducible apply cI_ltn) <;> omega) | ((with_reducible apply cI_nlt) <;> omega) | (with_reducible exact cI_lt)) (fun c30 => ?_) (fun c30 => by exfalso; first | omega | exact absurd trivial c30 | exact c30 | (simp at c30))
            refine g_aload_n dX11_state_35 rfl ?_
            refine g_getP dX11_state_36 fdX11_32 rfl (by first | rfl | exact pv_shx) (by omega) (by omega) (by decide) rfl (hP _ _ _ rfl) ?_
            refine g_getP dX11_state_39 fdX11_89 rfl (by first | rfl | exact pv_shx) (by omega) (by omega) (by decide) rfl (hP _ _ _ rfl) ?_
            refine g_getP dX11_state_42 fdX11_172 rfl (by first | rfl | exact pv_shx) (by omega) (by omega) (by decide) rfl (hP _ _ _ rfl) ?_
            refine g_iload_n dX11_state_45 rfl ?_
            refine n_iald dX11_state_46 (by first | rfl | exact pv_shx) (by omega) (by omega) (by decide) (rfl) (by omega) (by repeat (first | exact r3 | exact rk | (apply rd_s; done) | apply rd_n (by omega) | apply rp_s | apply rp_n (by omega) | (apply rdL_s; done) | apply rdL_n (by omega) | apply rpJ_s | apply rpJ_n (by omega) | rfl)) ?_
            refine g_istore_n dX11_state_47 (by decide) rfl ?_
            refine g_iload_n dX11_state_48 rfl ?_
            refine g_iconst (v := nI 1) dX11_state_49 (by decide) ?_
            refine n_icmp_eq 60 dX11_state_50 (by decide) (by first | ((with_reducible apply cN_eq) <;> omega) | ((with_reducible apply cI_eqn) <;> omega) | exact Iff.rfl) (fun c50 => ?_) (fun c50 => by exfalso; first | omega | exact absurd trivial c50 | exact c50 | (simp at c50))
            exact cont _
          · skip
            refine pvMet.of _ (by decide) rfl (Nat.le_of_ble_eq_true rfl) ?_
            refine g_aload_n dX11_state_0 rfl ?_
            refine g_getP dX11_state_1 fdX11_21 rfl (by first | rfl | exact pv_shx) (by omega) (by omega) (by decide) rfl (hP _ _ _ rfl) ?_
            refine g_iload_n dX11_state_4 rfl ?_
            refine p_callV (ip) okX2_has lkX11_81 rfl (by first | rfl | exact pv_shx) rfl (by omega) (by omega) dX11_state_5 rfl (Nat.le_of_ble_eq_true rfl) (⟨by decide, by decide, by decide, by decide⟩) ?_
            refine n_if_eq 33 dX11_state_8 (by decide) (by first | (with_reducible exact cB _) | ((with_reducible apply cN_eq0) <;> omega) | exact Iff.rfl) (fun c8 => by exfalso; first | omega | exact absurd trivial c8 | exact c8 | (simp at c8)) (fun c8 => ?_)
            refine g_iload_n dX11_state_11 rfl ?_
            refine p_callS (iw) okX11_isWeek lkX11_160 rfl dX11_state_12 rfl (Nat.le_of_ble_eq_true rfl) (⟨by decide, by decide, by decide, by decide⟩) ?_
            refine n_if_eq 33 dX11_state_15 (by decide) (by first | (with_reducible exact cB _) | ((with_reducible apply cN_eq0) <;> omega) | exact Iff.rfl) (fun c15 => by exfalso; first | omega | exact absurd trivial c15 | exact c15 | (simp at c15)) (fun c15 => ?_)
            refine g_aload_n dX11_state_18 rfl ?_
            refine g_getP dX11_state_19 fdX11_32 rfl (by first | rfl | exact pv_shx) (by omega) (by omega) (by decide) rfl (hP _ _ _ rfl) ?_
            refine g_getP dX11_state_22 fdX11_163 rfl (by first | rfl | exact pv_shx) (by omega) (by omega) (by decide) rfl (hP _ _ _ rfl) ?_
            refine n_getI dX11_state_25 fdX11_167 rfl (by first | rfl | exact pv_shx) (by omega) (by omega) (by decide) rfl (by repeat (first | exact r3 | exact rk | (apply rd_s; done) | apply rd_n (by omega) | apply rp_s | apply rp_n (by omega) | (apply rdL_s; done) | apply rdL_n (by omega) | apply rpJ_s | apply rpJ_n (by omega) | rfl)) ?_
            refine g_bipush (v := nI 8) dX11_state_28 (by decide) ?_
            refine n_icmp_lt 35 dX11_state_30 (by decide) (by first | ((with_reducible apply cN_lt) <;> omega) | ((with_reducible apply cI_ltn) <;> omega) | ((with_reducible apply cI_nlt) <;> omega) | (with_reducible exact cI_lt)) (fun c30 => ?_) (fun c30 => by exfalso; first | omega | exact absurd trivial c30 | exact c30 | (simp at c30))
            refine g_aload_n dX11_state_35 rfl ?_
            refine g_getP dX11_state_36 fdX11_32 rfl (by first | rfl | exact pv_shx) (by omega) (by omega) (by decide) rfl (hP _ _ _ rfl) ?_
            refine g_getP dX11_state_39 fdX11_89 rfl (by first | rfl | exact pv_shx) (by omega) (by omega) (by decide) rfl (hP _ _ _ rfl) ?_
            refine g_getP dX11_state_42 fdX11_172 rfl (by first | rfl | exact pv_shx) (by omega) (by omega) (by decide) rfl (hP _ _ _ rfl) ?_
            refine g_iload_n dX11_state_45 rfl ?_
            refine n_iald dX11_state_46 (by first | rfl | exact pv_shx) (by omega) (by omega) (by decide) (rfl) (by omega) (by repeat (first | exact r3 | exact rk | (apply rd_s; done) | apply rd_n (by omega) | apply rp_s | apply rp_n (by omega) | (apply rdL_s; done) | apply rdL_n (by omega) | apply rpJ_s | apply rpJ_n (by omega) | rfl)) ?_
            refine g_istore_n dX11_state_47 (by decide) rfl ?_
            refine g_iload_n dX11_state_48 rfl ?_
            refine g_iconst (v := nI 1) dX11_state_49 (by decide) ?_
            refine n_icmp_eq 60 dX11_state_50 (by decide) (by first | ((with_reducible apply cN_eq) <;> omega) | ((with_reducible apply cI_eqn) <;> omega) | exact Iff.rfl) (fun c50 => by exfalso; first | omega | exact absurd trivial c50 | exact c50 | (simp at c50)) (fun c50 => ?_)
            refine g_iload_n dX11_state_53 rfl ?_
            refine g_iconst (v := nI 2) dX11_state_54 (by decide) ?_
            refine n_icmp_eq 60 dX11_state_55 (by decide) (by first | ((with_reducible apply cN_eq) <;> omega) | ((with_reducible apply cI_eqn) <;> omega) | exact Iff.rfl) (fun c55 => ?_) (fun c55 => by exfalso; first | omega | exact absurd trivial c55 | exact c55 | (simp at c55))
            exact cont _
        · have ans : sp_state w h a (nI cn) (nI mn) = (-1, a) := by rw [sp_state, if_neg (fun z => by have := z.2.1; rw [ec] at this; omega)]
          rw [ans]
          refine pvMet.of _ (by decide) rfl (Nat.le_of_ble_eq_true rfl) ?_
          refine g_aload_n dX11_state_0 rfl ?_
          refine g_getP dX11_state_1 fdX11_21 rfl (by first | rfl | exact pv_shx) (by omega) (by omega) (by decide) rfl (hP _ _ _ rfl) ?_
          refine g_iload_n dX11_state_4 rfl ?_
          refine p_callV (ip) okX2_has lkX11_81 rfl (by first | rfl | exact pv_shx) rfl (by omega) (by omega) dX11_state_5 rfl (Nat.le_of_ble_eq_true rfl) (⟨by decide, by decide, by decide, by decide⟩) ?_
          refine n_if_eq 33 dX11_state_8 (by decide) (by first | (with_reducible exact cB _) | ((with_reducible apply cN_eq0) <;> omega) | exact Iff.rfl) (fun c8 => by exfalso; first | omega | exact absurd trivial c8 | exact c8 | (simp at c8)) (fun c8 => ?_)
          refine g_iload_n dX11_state_11 rfl ?_
          refine p_callS (iw) okX11_isWeek lkX11_160 rfl dX11_state_12 rfl (Nat.le_of_ble_eq_true rfl) (⟨by decide, by decide, by decide, by decide⟩) ?_
          refine n_if_eq 33 dX11_state_15 (by decide) (by first | (with_reducible exact cB _) | ((with_reducible apply cN_eq0) <;> omega) | exact Iff.rfl) (fun c15 => by exfalso; first | omega | exact absurd trivial c15 | exact c15 | (simp at c15)) (fun c15 => ?_)
          refine g_aload_n dX11_state_18 rfl ?_
          refine g_getP dX11_state_19 fdX11_32 rfl (by first | rfl | exact pv_shx) (by omega) (by omega) (by decide) rfl (hP _ _ _ rfl) ?_
          refine g_getP dX11_state_22 fdX11_163 rfl (by first | rfl | exact pv_shx) (by omega) (by omega) (by decide) rfl (hP _ _ _ rfl) ?_
          refine n_getI dX11_state_25 fdX11_167 rfl (by first | rfl | exact pv_shx) (by omega) (by omega) (by decide) rfl (by repeat (first | exact r3 | exact rk | (apply rd_s; done) | apply rd_n (by omega) | apply rp_s | apply rp_n (by omega) | (apply rdL_s; done) | apply rdL_n (by omega) | apply rpJ_s | apply rpJ_n (by omega) | rfl)) ?_
          refine g_bipush (v := nI 8) dX11_state_28 (by decide) ?_
          refine n_icmp_lt 35 dX11_state_30 (by decide) (by first | ((with_reducible apply cN_lt) <;> omega) | ((with_reducible apply cI_ltn) <;> omega) | ((with_reducible apply cI_nlt) <;> omega) | (with_reducible exact cI_lt)) (fun c30 => ?_) (fun c30 => by exfalso; first | omega | exact absurd trivial c30 | exact c30 | (simp at c30))
          refine g_aload_n dX11_state_35 rfl ?_
          refine g_getP dX11_state_36 fdX11_32 rfl (by first | rfl | exact pv_shx) (by omega) (by omega) (by decide) rfl (hP _ _ _ rfl) ?_
          refine g_getP dX11_state_39 fdX11_89 rfl (by first | rfl | exact pv_shx) (by omega) (by omega) (by decide) rfl (hP _ _ _ rfl) ?_
          refine g_getP dX11_state_42 fdX11_172 rfl (by first | rfl | exact pv_shx) (by omega) (by omega) (by decide) rfl (hP _ _ _ rfl) ?_
          refine g_iload_n dX11_state_45 rfl ?_
          refine n_iald dX11_state_46 (by first | rfl | exact pv_shx) (by omega) (by omega) (by decide) (rfl) (by omega) (by repeat (first | exact r3 | exact rk | (apply rd_s; done) | apply rd_n (by omega) | apply rp_s | apply rp_n (by omega) | (apply rdL_s; done) | apply rdL_n (by omega) | apply rpJ_s | apply rpJ_n (by omega) | rfl)) ?_
          refine g_istore_n dX11_state_47 (by decide) rfl ?_
          refine g_iload_n dX11_state_48 rfl ?_
          refine g_iconst (v := nI 1) dX11_state_49 (by decide) ?_
          refine n_icmp_eq 60 dX11_state_50 (by decide) (by first | ((with_reducible apply cN_eq) <;> omega) | ((with_reducible apply cI_eqn) <;> omega) | exact Iff.rfl) (fun c50 => by exfalso; first | omega | exact absurd trivial c50 | exact c50 | (simp at c50)) (fun c50 => ?_)
          refine g_iload_n dX11_state_53 rfl ?_
          refine g_iconst (v := nI 2) dX11_state_54 (by decide) ?_
          refine n_icmp_eq 60 dX11_state_55 (by decide) (by first | ((with_reducible apply cN_eq) <;> omega) | ((with_reducible apply cI_eqn) <;> omega) | exact Iff.rfl) (fun c55 => by exfalso; first | omega | exact absurd trivial c55 | exact c55 | (simp at c55)) (fun c55 => ?_)
          refine g_iconst (v := (-1)) dX11_state_58 (by decide) ?_
          exact g_iret dX11_state_59 rfl (⟨rfl, rfl, rfl, hb, mF2.rf, Or.inr ⟨rfl, sAl.rf⟩⟩)
    · rw [if_neg v2] at iw
      have ans : sp_state w h a c m = (-1, a) := by rw [sp_state, if_neg (fun z => v2 z.2.2.1)]
      rw [ans]
      refine pvMet.of _ (by decide) rfl (Nat.le_of_ble_eq_true rfl) ?_
      refine g_aload_n dX11_state_0 rfl ?_
      refine g_getP dX11_state_1 fdX11_21 rfl (by first | rfl | exact pv_shx) (by omega) (by omega) (by decide) rfl (hP _ _ _ rfl) ?_
      refine g_iload_n dX11_state_4 rfl ?_
      refine p_callV (ip) okX2_has lkX11_81 rfl (by first | rfl | exact pv_shx) rfl (by omega) (by omega) dX11_state_5 rfl (Nat.le_of_ble_eq_true rfl) (⟨by decide, by decide, by decide, by decide⟩) ?_
      refine n_if_eq 33 dX11_state_8 (by decide) (by first | (with_reducible exact cB _) | ((with_reducible apply cN_eq0) <;> omega) | exact Iff.rfl) (fun c8 => by exfalso; first | omega | exact absurd trivial c8 | exact c8 | (simp at c8)) (fun c8 => ?_)
      refine g_iload_n dX11_state_11 rfl ?_
      refine p_callS (iw) okX11_isWeek lkX11_160 rfl dX11_state_12 rfl (Nat.le_of_ble_eq_true rfl) (⟨by decide, by decide, by decide, by decide⟩) ?_
      refine n_if_eq 33 dX11_state_15 (by decide) (by first | (with_reducible exact cB _) | ((with_reducible apply cN_eq0) <;> omega) | exact Iff.rfl) (fun c15 => ?_) (fun c15 => by exfalso; first | omega | exact absurd trivial c15 | exact c15 | (simp at c15))
      refine g_iconst (v := (-1)) dX11_state_33 (by decide) ?_
      exact g_iret dX11_state_34 rfl (⟨rfl, rfl, rfl, hb, mF2.rf, Or.inr ⟨rfl, sAl.rf⟩⟩)
  · rw [if_neg v1] at ip
    have ans : sp_state w h a c m = (-1, a) := by rw [sp_state, if_neg (fun z => v1 z.1)]
    rw [ans]
    refine pvMet.of _ (by decide) rfl (Nat.le_of_ble_eq_true rfl) ?_
    refine g_aload_n dX11_state_0 rfl ?_
    refine g_getP dX11_state_1 fdX11_21 rfl (by first | rfl | exact pv_shx) (by omega) (by omega) (by decide) rfl (hP _ _ _ rfl) ?_
    refine g_iload_n dX11_state_4 rfl ?_
    refine p_callV (ip) okX2_has lkX11_81 rfl (by first | rfl | exact pv_shx) rfl (by omega) (by omega) dX11_state_5 rfl (Nat.le_of_ble_eq_true rfl) (⟨by decide, by decide, by decide, by decide⟩) ?_
    refine n_if_eq 33 dX11_state_8 (by decide) (by first | (with_reducible exact cB _) | ((with_reducible apply cN_eq0) <;> omega) | exact Iff.rfl) (fun c8 => ?_) (fun c8 => by exfalso; first | omega | exact absurd trivial c8 | exact c8 | (simp at c8))
    refine g_iconst (v := (-1)) dX11_state_33 (by decide) ?_
    exact g_iret dX11_state_34 rfl (⟨rfl, rfl, rfl, hb, mF2.rf, Or.inr ⟨rfl, sAl.rf⟩⟩)
end STA
