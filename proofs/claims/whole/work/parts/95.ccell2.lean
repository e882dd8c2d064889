/-! class: cell, the call -/
section CE2
variable {w h : Nat} {a : Nat → Int32} {I : pvI} {J : pvJ} {P : pvP}
theorem c_cell {c k t : Int32} (hP : pvOkP P) (hb : kB w h a I J) : pvMet mX11_cell 3 0 0 [.ref 1, .int c, .int k, .int t] 224 I J P (mtQ w h a I J P (sp_cell w h a c k t)) := by
  obtain ⟨n0, r0⟩ := hb.n0
  have hwh := hb.1.wh
  have hi := hb.2.2.2.2
  have e0 : (a 0).toInt = cnt a 0 := by rw [(mG_eq hi.1.1 (i := 0) (by decide)).1, nI_toInt (by omega)]
  have ip := c_has (v := c) (P := P) hb.1
  have ik := c_within (nx := 224) (v := k) (lo := nI 0) (hi := nI 4) (L := 0) (H := 4) (I := I) (J := J) (P := P) (by decide) (by decide)
  have it := c_within (nx := 224) (v := t) (lo := nI 1) (hi := nI 999) (L := 1) (H := 999) (I := I) (J := J) (P := P) (by decide) (by decide)
  by_cases v0 : cnt a 0 = 0
  · by_cases v1 : 0 ≤ c.toInt ∧ c.toInt < w * h
    · rw [if_pos v1] at ip
      by_cases v2 : 0 ≤ k.toInt ∧ k.toInt ≤ 4
      · rw [if_pos v2] at ik
        obtain ⟨cn, hcn, rfl⟩ := cI_of (x := c) (n := w * h) (by omega) (by omega) (by omega)
        obtain ⟨kn, hkn, rfl⟩ := cI_of (x := k) (n := 5) (by omega) (by omega) (by omega)
        have ec : (nI cn).toNatClampNeg = cn := nI_clamp (by omega)
        have ek : (nI kn).toInt = kn := nI_toInt (by omega)
        have cont : ∀ tn v4, t = nI tn → tn ≤ 999 → ((kn = 1 ∨ kn = 2) → 1 ≤ tn) → (¬ (kn = 1 ∨ kn = 2) → tn = 0) → pvG mX11_cell (pvR 3 0 0) (pvZ (mtQ w h a I J P (sp_cell w h a (nI cn) (nI kn) t)) 0 0) 74 [.ref 1, .int (nI cn), .int (nI kn), .int t, .int v4] [] 0 0 224 I J P := by
          intro tn v4 et t1 t2 t3
          subst et
          have et : (nI tn).toInt = tn := nI_toInt (by omega)
          have ans : sp_cell w h a (nI cn) (nI kn) (nI tn) = (1, upd (upd a (20 + cn) (nI kn)) (84 + cn) (nI tn)) := by rw [sp_cell, if_pos ⟨v1, v2, by omega, by omega, by omega⟩, ec]
          rw [ans]
          obtain ⟨x1, x2, x3, x4, x5, x6, x7, x8, x9, x10⟩ := hb.2.1.2.1
          have n3 := hb.n3.1
          have te := c_tell (c := cn) (k := kn) (t := tn) (I := I) hP (by omega) (by omega) t1 x5 x6
          generalize hA : upd (upd a (20 + cn) (nI kn)) (84 + cn) (nI tn) = A
          have u : ∀ {i}, i ≠ 20 + cn → i ≠ 84 + cn → A i = a i := fun z1 z2 => by rw [← hA, updI z2, updI z1]
          have uc : ∀ {i}, i ≠ 20 + cn → i ≠ 84 + cn → cnt A i = cnt a i := fun z1 z2 => by unfold cnt; rw [u z1 z2]
          have w0 : A (20 + cn) = nI kn := by rw [← hA, updI (by omega), updS]
          have w1 : A (84 + cn) = nI tn := by rw [← hA, updS]
          have ga : ∀ lo hi', (hi' ≤ 20 ∨ 148 ≤ lo) → ag lo hi' a A := fun lo hi' hz i z1 z2 => u (by omega) (by omega)
          have hcl : mCells A := by
            refine ⟨fun q hq => ?_, fun q hq => ?_, fun m q hm hq => by rw [u (by omega) (by omega)]; exact hi.1.2.1.2.2 m q hm hq⟩
            · by_cases e : q = cn
              · subst e; exact ⟨kn, by omega, w0⟩
              · rw [u (by omega) (by omega)]; exact hi.1.2.1.1 q hq
            · by_cases e : q = cn
              · subst e; exact ⟨tn, t1, w1⟩
              · rw [u (by omega) (by omega)]; exact hi.1.2.1.2.1 q hq
          refine g_aload_n dX11_cell_74 rfl ?_
          refine g_getP dX11_cell_75 fdX11_32 rfl (by first | rfl | exact pv_shx) (by omega) (by omega) (by decide) rfl (hP _ _ _ rfl) ?_
          refine g_getP dX11_cell_78 fdX11_89 rfl (by first | rfl | exact pv_shx) (by omega) (by omega) (by decide) rfl (hP _ _ _ rfl) ?_
          refine g_iload_n dX11_cell_81 rfl ?_
          refine g_iload_n dX11_cell_82 rfl ?_
          refine g_iload_n dX11_cell_83 rfl ?_
          refine g_callV (te) okX3_tell lkX11_93 rfl (by first | rfl | exact pv_shx) rfl (by omega) (by omega) dX11_cell_84 rfl (Nat.le_of_ble_eq_true rfl) (⟨by decide, by decide, by decide, by decide⟩) ?_
          rintro v nx' I1 J1 P' ⟨rfl, rfl, rfl, e1, e2, e3, e4, e5, e6⟩
          have hf1 : rFir w h a I1 J1 := hb.2.2.1.mv (fun x _ _ => e3 x (by omega) (by omega)) (fun x _ _ => e6 x (by omega))
          have cf := c_changedFrom (k := 0) hP hf1 (by omega)
          refine g_aload_n dX11_cell_87 rfl ?_
          refine g_iconst (v := nI 0) dX11_cell_88 (by decide) ?_
          refine g_callV (cf) okX11_changedFrom lkX11_99 rfl (by first | rfl | exact pv_shx) rfl (by omega) (by omega) dX11_cell_89 rfl (Nat.le_of_ble_eq_true rfl) (⟨by decide, by decide, by decide, by decide⟩) ?_
          rintro v nx' I2 J2 P'' ⟨rfl, rfl, rfl, rfl, q1⟩
          have o : ∀ z, z ≠ 5 → z ≠ 6 → z ≠ 43 → (z < 90 ∨ 138 ≤ z) → I2 z = I z := fun z z1 z2 z3 z4 => (q1.o z3 z4).trans (e3 z z1 z2)
          have f5 : I2 5 = upd (I 5) cn (nI kn) := (q1.o (by decide) (by omega)).trans e1
          have f6 : I2 6 = upd (I 6) cn (nI tn) := (q1.o (by decide) (by omega)).trans e2
          have ht : rGro w h 3 A I2 J2 := by
            refine ⟨?_, ?_, ?_, ?_, ?_, ?_, ?_, ?_, ?_, ?_⟩
            · intro c hc
              show I2 5 c = _
              rw [f5]
              by_cases e : c = cn
              · subst e; rw [updS, w0]
              · rw [updI e, u (by omega) (by omega)]; exact x1 c hc
            · intro c hc
              show I2 6 c = _
              rw [f6]
              by_cases e : c = cn
              · subst e; rw [updS, w1]
              · rw [updI e, u (by omega) (by omega)]; exact x2 c hc
            · intro c hc
              rw [o (3 + 4) (by omega) (by omega) (by omega) (by omega), fN.fr (ga _ _ (by omega)) hc]; exact x3 c hc
            · intro m hm
              rw [e6 (3 + 5) (by omega)]
              refine (x4 m hm).trans (mk_cong (fun c hc => ?_))
              unfold fullB fsum
              rw [sumN_cong m (fun k hk => (ga 1620 8020 (by omega)).c (a := a) (a' := A) (i := 1620 + 64 * k + c) (by omega) (by omega))]
            · refine e4.trans (mk_cong (fun c hc => ?_))
              unfold setB
              by_cases e : c = cn
              · subst e; rw [if_pos rfl, cnt_of w0 (by omega)]
              · rw [if_neg e, uc (by omega) (by omega)]
            · refine e5.trans (mk_cong (fun c hc => ?_))
              unfold setB
              by_cases e : c = cn
              · subst e; rw [if_pos rfl, cnt_of w1 (by omega)]
              · rw [if_neg e, uc (by omega) (by omega)]
            · rw [o (3 + 1) (by omega) (by omega) (by omega) (by omega), u (by omega) (by omega)]; exact x7
            · rw [o (3 + 1) (by omega) (by omega) (by omega) (by omega), u (by omega) (by omega)]; exact x8
            · rw [o (3 + 1) (by omega) (by omega) (by omega) (by omega), u (by omega) (by omega)]; exact x9
            · rw [o (3 + 1) (by omega) (by omega) (by omega) (by omega), u (by omega) (by omega)]; exact x10
          have hf' : rFir w h A I2 J2 := hf1.chg q1 (by omega) (uc (by omega) (by omega)) (fun s hs => ⟨u (by omega) (by omega), u (by omega) (by omega)⟩) (fun s j _ _ hj => absurd hj (Nat.not_lt_zero j))
          have fin := hb.gro (I' := I2) (J' := J2) (fun z z1 z2 z3 => o z (by omega) (by omega) z2 z3) (fun z hz => e6 z (by omega)) (by rw [q1.wk.1, e3 43 (by decide) (by decide)]) (ga _ _ (by omega)) (ga _ _ (by omega)) (ga _ _ (by omega)) ht (hi.1.1.fr (ga _ _ (by omega))) hcl (hi.2.2.2.1.fr (ga _ _ (by omega))) ⟨(fun c z1 z2 => by rw [uc (by omega) (by omega)]; exact hi.2.2.2.2.2.1.1.1 c z1 z2), by rw [uc (by omega) (by omega)]; exact hi.2.2.2.2.2.1.1.2⟩ (fun c z1 z2 => by rw [uc (by omega) (by omega)]; exact hi.2.2.2.2.2.1.2 c z1 z2) (mAh.fr (a := a) hi.2.2.2.2.2.2 hi.1.1 (ga _ _ (by omega)) (ga _ _ (by omega)) (ga _ _ (by omega)) (ga _ _ (by omega))) hf'
          refine g_iconst (v := nI 1) dX11_cell_92 (by decide) ?_
          exact g_zret (by first | exact Or.inl rfl | exact Or.inr rfl | exact cB01 _) dX11_cell_93 rfl (⟨rfl, rfl, rfl, fin, fun z hz => ⟨o z (by omega) (by omega) (by omega) (by omega), e6 z (by omega)⟩, Or.inl q1.wk.2⟩)
        have no : ∀ v4, ¬ (((kn = 1 ∨ kn = 2) → 1 ≤ t.toInt ∧ t.toInt ≤ 999) ∧ (¬ (kn = 1 ∨ kn = 2) → t.toInt = 0)) → pvG mX11_cell (pvR 3 0 0) (pvZ (mtQ w h a I J P (sp_cell w h a (nI cn) (nI kn) t)) 0 0) 72 [.ref 1, .int (nI cn), .int (nI kn), .int t, .int v4] [] 0 0 224 I J P := by
          intro v4 hn
          have ans : sp_cell w h a (nI cn) (nI kn) t = (0, a) := by rw [sp_cell, if_neg (fun z => hn ⟨fun y => z.2.2.2.1 (by omega), fun y => z.2.2.2.2 (by omega)⟩)]
          rw [ans]
          refine g_iconst (v := nI 0) dX11_cell_72 (by decide) ?_
          exact g_zret (by first | exact Or.inl rfl | exact Or.inr rfl | exact cB01 _) dX11_cell_73 rfl (⟨rfl, rfl, rfl, hb, mF2.rf, Or.inr ⟨rfl, sAl.rf⟩⟩)
        by_cases vk : kn = 1 ∨ kn = 2
        · have mid : pvG mX11_cell (pvR 3 0 0) (pvZ (mtQ w h a I J P (sp_cell w h a (nI cn) (nI kn) t)) 0 0) 47 [.ref 1, .int (nI cn), .int (nI kn), .int t, .retAddr 0] [.int (nI 1)] 0 0 224 I J P := by
            by_cases vt : 1 ≤ t.toInt ∧ t.toInt ≤ 999
            · rw [if_pos vt] at it
              obtain ⟨tn, htn, rfl⟩ := cI_of (x := t) (n := 1000) (by omega) (by omega) (by omega)
              have et : (nI tn).toInt = tn := nI_toInt (by omega)
              refine g_istore dX11_cell_47 (by decide) rfl ?_
              refine g_iload dX11_cell_49 rfl ?_
              refine n_if_eq 68 dX11_cell_51 (by decide) (by first | (with_reducible exact cB _) | ((with_reducible apply cN_eq0) <;> omega) | exact Iff.rfl) (fun c51 => by exfalso; first | omega | exact absurd trivial c51 | exact c51 | (simp at c51)) (fun c51 => ?_)
              refine g_iload_n dX11_cell_54 rfl ?_
              refine g_iconst (v := nI 1) dX11_cell_55 (by decide) ?_
              refine g_sipush (v := nI 999) dX11_cell_56 (by decide) ?_
              refine p_callS (it) okX11_within lkX11_85 rfl dX11_cell_59 rfl (Nat.le_of_ble_eq_true rfl) (⟨by decide, by decide, by decide, by decide⟩) ?_
              refine n_if_ne 74 dX11_cell_62 (by decide) (by first | (with_reducible exact cB _) | ((with_reducible apply cN_eq0) <;> omega) | exact Iff.rfl) (fun c62 => ?_) (fun c62 => by exfalso; first | omega | exact absurd trivial c62 | exact c62 | (simp at c62))
              exact cont tn _ rfl (by omega) (fun _ => by omega) (fun z => absurd vk z)
            · rw [if_neg vt] at it
              refine g_istore dX11_cell_47 (by decide) rfl ?_
              refine g_iload dX11_cell_49 rfl ?_
              refine n_if_eq 68 dX11_cell_51 (by decide) (by first | (with_reducible exact cB _) | ((with_reducible apply cN_eq0) <;> omega) | exact Iff.rfl) (fun c51 => by exfalso; first | omega | exact absurd trivial c51 | exact c51 | (simp at c51)) (fun c51 => ?_)
              refine g_iload_n dX11_cell_54 rfl ?_
              refine g_iconst (v := nI 1) dX11_cell_55 (by decide) ?_
              refine g_sipush (v := nI 999) dX11_cell_56 (by decide) ?_
              refine p_callS (it) okX11_within lkX11_85 rfl dX11_cell_59 rfl (Nat.le_of_ble_eq_true rfl) (⟨by decide, by decide, by decide, by decide⟩) ?_
              refine n_if_ne 74 dX11_cell_62 (by decide) (by first | (with_reducible exact cB _) | ((with_reducible apply cN_eq0) <;> omega) | exact Iff.rfl) (fun c62 => by exfalso; first | omega | exact absurd trivial c62 | exact c62 | (simp at c62)) (fun c62 => ?_)
              refine g_goto 72 dX11_cell_65 (by decide) ?_
              exact no _ (fun z => vt (z.1 vk))
          rcases vk with rfl | rfl
          · skip
            refine pvMet.of _ (by decide) rfl (Nat.le_of_ble_eq_true rfl) ?_
            refine g_aload_n dX11_cell_0 rfl ?_
            refine g_getP dX11_cell_1 fdX11_32 rfl (by first | rfl | exact pv_shx) (by omega) (by omega) (by decide) rfl (hP _ _ _ rfl) ?_
            refine n_getI dX11_cell_4 fdX11_77 rfl (by first | rfl | exact pv_shx) (by omega) (by omega) (by decide) rfl (by repeat (first | exact r0 | (apply rd_s; done) | apply rd_n (by omega) | apply rp_s | apply rp_n (by omega) | (apply rdL_s; done) | apply rdL_n (by omega) | apply rpJ_s | apply rpJ_n (by omega) | rfl)) ?_
            refine n_if_ne 30 dX11_cell_7 (by decide) (by first | (with_reducible exact cB _) | ((with_reducible apply cN_eq0) <;> omega) | exact Iff.rfl) (fun c7 => by exfalso; first | omega | exact absurd trivial c7 | exact c7 | (simp at c7)) (fun c7 => ?_)
            refine g_aload_n dX11_cell_10 rfl ?_
            refine g_getP dX11_cell_11 fdX11_21 rfl (by first | rfl | exact pv_shx) (by omega) (by omega) (by decide) rfl (hP _ _ _ rfl) ?_
            refine g_iload_n dX11_cell_14 rfl ?_
            refine p_callV (ip) okX2_has lkX11_81 rfl (by first | rfl | exact pv_shx) rfl (by omega) (by omega) dX11_cell_15 rfl (Nat.le_of_ble_eq_true rfl) (⟨by decide, by decide, by decide, by decide⟩) ?_
            refine n_if_eq 30 dX11_cell_18 (by decide) (by first | (with_reducible exact cB _) | ((with_reducible apply cN_eq0) <;> omega) | exact Iff.rfl) (fun c18 => by exfalso; first | omega | exact absurd trivial c18 | exact c18 | (simp at c18)) (fun c18 => ?_)
            refine g_iload_n dX11_cell_21 rfl ?_
            refine g_iconst (v := nI 0) dX11_cell_22 (by decide) ?_
            refine g_iconst (v := nI 4) dX11_cell_23 (by decide) ?_
            refine p_callS (ik) okX11_within lkX11_85 rfl dX11_cell_24 rfl (Nat.le_of_ble_eq_true rfl) (⟨by decide, by decide, by decide, by decide⟩) ?_
            refine n_if_ne 32 dX11_cell_27 (by decide) (by first | (with_reducible exact cB _) | ((with_reducible apply cN_eq0) <;> omega) | exact Iff.rfl) (fun c27 => ?_) (fun c27 => by exfalso; first | omega | exact absurd trivial c27 | exact c27 | (simp at c27))
            refine g_iload_n dX11_cell_32 rfl ?_
            refine g_iconst (v := nI 1) dX11_cell_33 (by decide) ?_
            refine n_icmp_eq 42 dX11_cell_34 (by decide) (by first | ((with_reducible apply cN_eq) <;> omega) | ((with_reducible apply cI_eqn) <;> omega) | exact Iff.rfl) (fun c34 => ?_) (fun c34 => by exfalso; first | omega | exact absurd trivial c34 | exact c34 | (simp at c34))
            refine g_iconst (v := nI 1) dX11_cell_42 (by decide) ?_
            refine g_goto 47 dX11_cell_43 (by decide) ?_
            exact mid
          · skip
            refine pvMet.of _ (by decide) rfl (Nat.le_of_ble_eq_true rfl) ?_
            refine g_aload_n dX11_cell_0 rfl ?_
            refine g_getP dX11_cell_1 fdX11_32 rfl (by first | rfl | exact pv_shx) (by omega) (by omega) (by decide) rfl (hP _ _ _ rfl) ?_
            refine n_getI dX11_cell_4 fdX11_77 rfl (by first | rfl | exact pv_shx) (by omega) (by omega) (by decide) rfl (by repeat (first | exact r0 | (apply rd_s; done) | apply rd_n (by omega) | apply rp_s | apply rp_n (by omega) | (apply rdL_s; done) | apply rdL_n (by omega) | apply rpJ_s | apply rpJ_n (by omega) | rfl)) ?_
            refine n_if_ne 30 dX11_cell_7 (by decide) (by first | (with_reducible exact cB _) | ((with_reducible apply cN_eq0) <;> omega) | exact Iff.rfl) (fun c7 => by exfalso; first | omega | exact absurd trivial c7 | exact c7 | (simp at c7)) (fun c7 => ?_)
            refine g_aload_n dX11_cell_10 rfl ?_
            refine g_getP dX11_cell_11 fdX11_21 rfl (by first | rfl | exact pv_shx) (by omega) (by omega) (by decide) rfl (hP _ _ _ rfl) ?_
            refine g_iload_n dX11_cell_14 rfl ?_
            refine p_callV (ip) okX2_has lkX11_81 rfl (by first | rfl | exact pv_shx) rfl (by omega) (by omega) dX11_cell_15 rfl (Nat.le_of_ble_eq_true rfl) (⟨by decide, by decide, by decide, by decide⟩) ?_
            refine n_if_eq 30 dX11_cell_18 (by decide) (by first | (with_reducible exact cB _) | ((with_reducible apply cN_eq0) <;> omega) | exact Iff.rfl) (fun c18 => by exfalso; first | omega | exact absurd trivial c18 | exact c18 | (simp at c18)) (fun c18 => ?_)
            refine g_iload_n dX11_cell_21 rfl ?_
            refine g_iconst (v := nI 0) dX11_cell_22 (by decide) ?_
            refine g_iconst (v := nI 4) dX11_cell_23 (by decide) ?_
            refine p_callS (ik) okX11_within lkX11_85 rfl dX11_cell_24 rfl (Nat.le_of_ble_eq_true rfl) (⟨by decide, by decide, by decide, by decide⟩) ?_
            refine n_if_ne 32 dX11_cell_27 (by decide) (by first | (with_reducible exact cB _) | ((with_reducible apply cN_eq0) <;> omega) | exact Iff.rfl) (fun c27 => ?_) (fun c27 => by exfalso; first | omega | exact absurd trivial c27 | exact c27 | (simp at c27))
            refine g_iload_n dX11_cell_32 rfl ?_
            refine g_iconst (v := nI 1) dX11_cell_33 (by decide) ?_
            refine n_icmp_eq 42 dX11_cell_34 (by decide) (by first | ((with_reducible apply cN_eq) <;> omega) | ((with_reducible apply cI_eqn) <;> omega) | exact Iff.rfl) (fun c34 => by exfalso; first | omega | exact absurd trivial c34 | exact c34 | (simp at c34)) (fun c34 => ?_)
            refine g_iload_n dX11_cell_37 rfl ?_
            refine g_iconst (v := nI 2) dX11_cell_38 (by decide) ?_
            refine n_icmp_ne 46 dX11_cell_39 (by decide) (by first | ((with_reducible apply cN_eq) <;> omega) | ((with_reducible apply cI_eqn) <;> omega) | exact Iff.rfl) (fun c39 => by exfalso; first | omega | exact absurd trivial c39 | exact c39 | (simp at c39)) (fun c39 => ?_)
            refine g_iconst (v := nI 1) dX11_cell_42 (by decide) ?_
            refine g_goto 47 dX11_cell_43 (by decide) ?_
            exact mid
        · by_cases vt : t = 0
          · subst vt
            refine pvMet.of _ (by decide) rfl (Nat.le_of_ble_eq_true rfl) ?_
            refine g_aload_n dX11_cell_0 rfl ?_
            refine g_getP dX11_cell_1 fdX11_32 rfl (by first | rfl | exact pv_shx) (by omega) (by omega) (by decide) rfl (hP _ _ _ rfl) ?_
            refine n_getI dX11_cell_4 fdX11_77 rfl (by first | rfl | exact pv_shx) (by omega) (by omega) (by decide) rfl (by repeat (first | exact r0 | (apply rd_s; done) | apply rd_n (by omega) | apply rp_s | apply rp_n (by omega) | (apply rdL_s; done) | apply rdL_n (by omega) | apply rpJ_s | apply rpJ_n (by omega) | rfl)) ?_
            refine n_if_ne 30 dX11_cell_7 (by decide) (by first | (with_reducible exact cB _) | ((with_reducible apply cN_eq0) <;> omega) | exact Iff.rfl) (fun c7 => by exfalso; first | omega | exact absurd trivial c7 | exact c7 | (simp at c7)) (fun c7 => ?_)
            refine g_aload_n dX11_cell_10 rfl ?_
            refine g_getP dX11_cell_11 fdX11_21 rfl (by first | rfl | exact pv_shx) (by omega) (by omega) (by decide) rfl (hP _ _ _ rfl) ?_
            refine g_iload_n dX11_cell_14 rfl ?_
            refine p_callV (ip) okX2_has lkX11_81 rfl (by first | rfl | exact pv_shx) rfl (by omega) (by omega) dX11_cell_15 rfl (Nat.le_of_ble_eq_true rfl) (⟨by decide, by decide, by decide, by decide⟩) ?_
            refine n_if_eq 30 dX11_cell_18 (by decide) (by first | (with_reducible exact cB _) | ((with_reducible apply cN_eq0) <;> omega) | exact Iff.rfl) (fun c18 => by exfalso; first | omega | exact absurd trivial c18 | exact c18 | (simp at c18)) (fun c18 => ?_)
            refine g_iload_n dX11_cell_21 rfl ?_
            refine g_iconst (v := nI 0) dX11_cell_22 (by decide) ?_
            refine g_iconst (v := nI 4) dX11_cell_23 (by decide) ?_
            refine p_callS (ik) okX11_within lkX11_85 rfl dX11_cell_24 rfl (Nat.le_of_ble_eq_true rfl) (⟨by decide, by decide, by decide, by decide⟩) ?_
            refine n_if_ne 32 dX11_cell_27 (by decide) (by first | (with_reducible exact cB _) | ((with_reducible apply cN_eq0) <;> omega) | exact Iff.rfl) (fun c27 => ?_) (fun c27 => by exfalso; first | omega | exact absurd trivial c27 | exact c27 | (simp at c27))
            refine g_iload_n dX11_cell_32 rfl ?_
            refine g_iconst (v := nI 1) dX11_cell_33 (by decide) ?_
            refine n_icmp_eq 42 dX11_cell_34 (by decide) (by first | ((with_reducible apply cN_eq) <;> omega) | ((with_reducible apply cI_eqn) <;> omega) | exact Iff.rfl) (fun c34 => by exfalso; first | omega | exact absurd trivial c34 | exact c34 | (simp at c34)) (fun c34 => ?_)
            refine g_iload_n dX11_cell_37 rfl ?_
            refine g_iconst (v := nI 2) dX11_cell_38 (by decide) ?_
            refine n_icmp_ne 46 dX11_cell_39 (by decide) (by first | ((with_reducible apply cN_eq) <;> omega) | ((with_reducible apply cI_eqn) <;> omega) | exact Iff.rfl) (fun c39 => ?_) (fun c39 => by exfalso; first | omega | exact absurd trivial c39 | exact c39 | (simp at c39))
            refine g_iconst (v := nI 0) dX11_cell_46 (by decide) ?_
            refine g_istore dX11_cell_47 (by decide) rfl ?_
            refine g_iload dX11_cell_49 rfl ?_
            refine n_if_eq 68 dX11_cell_51 (by decide) (by first | (with_reducible exact cB _) | ((with_reducible apply cN_eq0) <;> omega) | exact Iff.rfl) (fun c51 => ?_) (fun c51 => by exfalso; first | omega | exact absurd trivial c51 | exact c51 | (simp at c51))
            refine g_iload_n dX11_cell_68 rfl ?_
            refine n_if_eq 74 dX11_cell_69 (by decide) (Iff.rfl) (fun c69 => ?_) (fun c69 => by exfalso; exact c69 rfl)
            exact cont 0 _ rfl (by omega) (fun z => absurd z vk) (fun _ => rfl)
          · skip
            refine pvMet.of _ (by decide) rfl (Nat.le_of_ble_eq_true rfl) ?_
            refine g_aload_n dX11_cell_0 rfl ?_
            refine g_getP dX11_cell_1 fdX11_32 rfl (by first | rfl | exact pv_shx) (by omega) (by omega) (by decide) rfl (hP _ _ _ rfl) ?_
            refine n_getI dX11_cell_4 fdX11_77 rfl (by first | rfl | exact pv_shx) (by omega) (by omega) (by decide) rfl (by repeat (first | exact r0 | (apply rd_s; done) | apply rd_n (by omega) | apply rp_s | apply rp_n (by omega) | (apply rdL_s; done) | apply rdL_n (by omega) | apply rpJ_s | apply rpJ_n (by omega) | rfl)) ?_
            refine n_if_ne 30 dX11_cell_7 (by decide) (by first | (with_reducible exact cB _) | ((with_reducible apply cN_eq0) <;> omega) | exact Iff.rfl) (fun c7 => by exfalso; first | omega | exact absurd trivial c7 | exact c7 | (simp at c7)) (fun c7 => ?_)
            refine g_aload_n dX11_cell_10 rfl ?_
            refine g_getP dX11_cell_11 fdX11_21 rfl (by first | rfl | exact pv_shx) (by omega) (by omega) (by decide) rfl (hP _ _ _ rfl) ?_
            refine g_iload_n dX11_cell_14 rfl ?_
            refine p_callV (ip) okX2_has lkX11_81 rfl (by first | rfl | exact pv_shx) rfl (by omega) (by omega) dX11_cell_15 rfl (Nat.le_of_ble_eq_true rfl) (⟨by decide, by decide, by decide, by decide⟩) ?_
            refine n_if_eq 30 dX11_cell_18 (by decide) (by first | (with_reducible exact cB _) | ((with_reducible apply cN_eq0) <;> omega) | exact Iff.rfl) (fun c18 => by exfalso; first | omega | exact absurd trivial c18 | exact c18 | (simp at c18)) (fun c18 => ?_)
            refine g_iload_n dX11_cell_21 rfl ?_
            refine g_iconst (v := nI 0) dX11_cell_22 (by decide) ?_
            refine g_iconst (v := nI 4) dX11_cell_23 (by decide) ?_
            refine p_callS (ik) okX11_within lkX11_85 rfl dX11_cell_24 rfl (Nat.le_of_ble_eq_true rfl) (⟨by decide, by decide, by decide, by decide⟩) ?_
            refine n_if_ne 32 dX11_cell_27 (by decide) (by first | (with_reducible exact cB _) | ((with_reducible apply cN_eq0) <;> omega) | exact Iff.rfl) (fun c27 => ?_) (fun c27 => by exfalso; first | omega | exact absurd trivial c27 | exact c27 | (simp at c27))
            refine g_iload_n dX11_cell_32 rfl ?_
            refine g_iconst (v := nI 1) dX11_cell_33 (by decide) ?_
            refine n_icmp_eq 42 dX11_cell_34 (by decide) (by first | ((with_reducible apply cN_eq) <;> omega) | ((with_reducible apply cI_eqn) <;> omega) | exact Iff.rfl) (fun c34 => by exfalso; first | omega | exact absurd trivial c34 | exact c34 | (simp at c34)) (fun c34 => ?_)
            refine g_iload_n dX11_cell_37 rfl ?_
            refine g_iconst (v := nI 2) dX11_cell_38 (by decide) ?_
            refine n_icmp_ne 46 dX11_cell_39 (by decide) (by first | ((with_reducible apply cN_eq) <;> omega) | ((with_reducible apply cI_eqn) <;> omega) | exact Iff.rfl) (fun c39 => ?_) (fun c39 => by exfalso; first | omega | exact absurd trivial c39 | exact c39 | (simp at c39))
            refine g_iconst (v := nI 0) dX11_cell_46 (by decide) ?_
            refine g_istore dX11_cell_47 (by decide) rfl ?_
            refine g_iload dX11_cell_49 rfl ?_
            refine n_if_eq 68 dX11_cell_51 (by decide) (by first | (with_reducible exact cB _) | ((with_reducible apply cN_eq0) <;> omega) | exact Iff.rfl) (fun c51 => ?_) (fun c51 => by exfalso; first | omega | exact absurd trivial c51 | exact c51 | (simp at c51))
            refine g_iload_n dX11_cell_68 rfl ?_
            refine n_if_eq 74 dX11_cell_69 (by decide) (Iff.rfl) (fun c69 => by exfalso; exact vt c69) (fun c69 => ?_)
            exact no _ (fun z => vt (cI_eq.mpr (z.2 vk)))
      · rw [if_neg v2] at ik
        have ans : sp_cell w h a c k t = (0, a) := by rw [sp_cell, if_neg (fun z => v2 z.2.1)]
        rw [ans]
        refine pvMet.of _ (by decide) rfl (Nat.le_of_ble_eq_true rfl) ?_
        refine g_aload_n dX11_cell_0 rfl ?_
        refine g_getP dX11_cell_1 fdX11_32 rfl (by first | rfl | exact pv_shx) (by omega) (by omega) (by decide) rfl (hP _ _ _ rfl) ?_
        refine n_getI dX11_cell_4 fdX11_77 rfl (by first | rfl | exact pv_shx) (by omega) (by omega) (by decide) rfl (by repeat (first | exact r0 | (apply rd_s; done) | apply rd_n (by omega) | apply rp_s | apply rp_n (by omega) | (apply rdL_s; done) | apply rdL_n (by omega) | apply rpJ_s | apply rpJ_n (by omega) | rfl)) ?_
        refine n_if_ne 30 dX11_cell_7 (by decide) (by first | (with_reducible exact cB _) | ((with_reducible apply cN_eq0) <;> omega) | exact Iff.rfl) (fun c7 => by exfalso; first | omega | exact absurd trivial c7 | exact c7 | (simp at c7)) (fun c7 => ?_)
        refine g_aload_n dX11_cell_10 rfl ?_
        refine g_getP dX11_cell_11 fdX11_21 rfl (by first | rfl | exact pv_shx) (by omega) (by omega) (by decide) rfl (hP _ _ _ rfl) ?_
        refine g_iload_n dX11_cell_14 rfl ?_
        refine p_callV (ip) okX2_has lkX11_81 rfl (by first | rfl | exact pv_shx) rfl (by omega) (by omega) dX11_cell_15 rfl (Nat.le_of_ble_eq_true rfl) (⟨by decide, by decide, by decide, by decide⟩) ?_
        refine n_if_eq 30 dX11_cell_18 (by decide) (by first | (with_reducible exact cB _) | ((with_reducible apply cN_eq0) <;> omega) | exact Iff.rfl) (fun c18 => by exfalso; first | omega | exact absurd trivial c18 | exact c18 | (simp at c18)) (fun c18 => ?_)
        refine g_iload_n dX11_cell_21 rfl ?_
        refine g_iconst (v := nI 0) dX11_cell_22 (by decide) ?_
        refine g_iconst (v := nI 4) dX11_cell_23 (by decide) ?_
        refine p_callS (ik) okX11_within lkX11_85 rfl dX11_cell_24 rfl (Nat.le_of_ble_eq_true rfl) (⟨by decide, by decide, by decide, by decide⟩) ?_
        refine n_if_ne 32 dX11_cell_27 (by decide) (by first | (with_reducible exact cB _) | ((with_reducible apply cN_eq0) <;> omega) | exact Iff.rfl) (fun c27 => by exfalso; first | omega | exact absurd trivial c27 | exact c27 | (simp at c27)) (fun c27 => ?_)
        refine g_iconst (v := nI 0) dX11_cell_30 (by decide) ?_
        exact g_zret (by first | exact Or.inl rfl | exact Or.inr rfl | exact cB01 _) dX11_cell_31 rfl (⟨rfl, rfl, rfl, hb, mF2.rf, Or.inr ⟨rfl, sAl.rf⟩⟩)
    · rw [if_neg v1] at ip
      have ans : sp_cell w h a c k t = (0, a) := by rw [sp_cell, if_neg (fun z => v1 z.1)]
      rw [ans]
      refine pvMet.of _ (by decide) rfl (Nat.le_of_ble_eq_true rfl) ?_
      refine g_aload_n dX11_cell_0 rfl ?_
      refine g_getP dX11_cell_1 fdX11_32 rfl (by first | rfl | exact pv_shx) (by omega) (by omega) (by decide) rfl (hP _ _ _ rfl) ?_
      refine n_getI dX11_cell_4 fdX11_77 rfl (by first | rfl | exact pv_shx) (by omega) (by omega) (by decide) rfl (by repeat (first | exact r0 | (apply rd_s; done) | apply rd_n (by omega) | apply rp_s | apply rp_n (by omega) | (apply rdL_s; done) | apply rdL_n (by omega) | apply rpJ_s | apply rpJ_n (by omega) | rfl)) ?_
      refine n_if_ne 30 dX11_cell_7 (by decide) (by first | (with_reducible exact cB _) | ((with_reducible apply cN_eq0) <;> omega) | exact Iff.rfl) (fun c7 => by exfalso; first | omega | exact absurd trivial c7 | exact c7 | (simp at c7)) (fun c7 => ?_)
      refine g_aload_n dX11_cell_10 rfl ?_
      refine g_getP dX11_cell_11 fdX11_21 rfl (by first | rfl | exact pv_shx) (by omega) (by omega) (by decide) rfl (hP _ _ _ rfl) ?_
      refine g_iload_n dX11_cell_14 rfl ?_
      refine p_callV (ip) okX2_has lkX11_81 rfl (by first | rfl | exact pv_shx) rfl (by omega) (by omega) dX11_cell_15 rfl (Nat.le_of_ble_eq_true rfl) (⟨by decide, by decide, by decide, by decide⟩) ?_
      refine n_if_eq 30 dX11_cell_18 (by decide) (by first | (with_reducible exact cB _) | ((with_reducible apply cN_eq0) <;> omega) | exact Iff.rfl) (fun c18 => ?_) (fun c18 => by exfalso; first | omega | exact absurd trivial c18 | exact c18 | (simp at c18))
      refine g_iconst (v := nI 0) dX11_cell_30 (by decide) ?_
      exact g_zret (by first | exact Or.inl rfl | exact Or.inr rfl | exact cB01 _) dX11_cell_31 rfl (⟨rfl, rfl, rfl, hb, mF2.rf, Or.inr ⟨rfl, sAl.rf⟩⟩)
  · have ans : sp_cell w h a c k t = (0, a) := by rw [sp_cell, if_neg (fun z => by have := z.2.2.1; omega)]
    rw [ans]
    refine pvMet.of _ (by decide) rfl (Nat.le_of_ble_eq_true rfl) ?_
    refine g_aload_n dX11_cell_0 rfl ?_
    refine g_getP dX11_cell_1 fdX11_32 rfl (by first | rfl | exact pv_shx) (by omega) (by omega) (by decide) rfl (hP _ _ _ rfl) ?_
    refine n_getI dX11_cell_4 fdX11_77 rfl (by first | rfl | exact pv_shx) (by omega) (by omega) (by decide) rfl (by repeat (first | exact r0 | (apply rd_s; done) | apply rd_n (by omega) | apply rp_s | apply rp_n (by omega) | (apply rdL_s; done) | apply rdL_n (by omega) | apply rpJ_s | apply rpJ_n (by omega) | rfl)) ?_
    refine n_if_ne 30 dX11_cell_7 (by decide) (by first | (with_reducible exact cB _) | ((with_reducible apply cN_eq0) <;> omega) | exact Iff.rfl) (fun c7 => ?_) (fun c7 => by exfalso; first | omega | exact absurd trivial c7 | exact c7 | (simp at c7))
    refine g_iconst (v := nI 0) dX11_cell_30 (by decide) ?_
    exact g_zret (by first | exact Or.inl rfl | exact Or.inr rfl | exact cB01 _) dX11_cell_31 rfl (⟨rfl, rfl, rfl, hb, mF2.rf, Or.inr ⟨rfl, sAl.rf⟩⟩)
end CE2
