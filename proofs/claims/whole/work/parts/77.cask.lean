/-! class: the calls that ask -/
def kQ (w h : Nat) (a : Nat → Int32) (I : pvI) (J : pvJ) (P : pvP) (r : Int32) : pvQT := pvq P (fun v I' J' => v = some (.int r) ∧ kB w h a I' J' ∧ qF I J I' J')
section ASK
variable {w h : Nat} {a : Nat → Int32} {I : pvI} {J : pvJ} {P : pvP}
theorem c_let {s k : Int32} (hP : pvOkP P) (hb : kB w h a I J) : pvMet mX11_let 7 0 0 [.ref 1, .int s, .int k] 224 I J P (kQ w h a I J P (sp_let w h a s k)) := by
  obtain ⟨n3, r3⟩ := hb.n3
  obtain ⟨n0, r0⟩ := hb.n0
  have ik := c_isKnown (nx := 224) (v := k) (I := I) (J := J) (P := P)
  have se := c_see (m := cnt a 0) hP hb n0
  by_cases hk : 0 ≤ k.toInt ∧ k.toInt ≤ 100
  · obtain ⟨kn, hkn, rfl⟩ := cI_of (x := k) (n := 101) (by omega) (by omega) (by omega)
    have ek : (nI kn).toNatClampNeg = kn := nI_clamp (by omega)
    rw [if_pos hk] at ik
    refine pvMet.of _ (by decide) rfl (Nat.le_of_ble_eq_true rfl) ?_
    refine g_iload_n dX11_let_0 rfl ?_
    refine p_callS (ik) okX11_isKnown lkX11_262 rfl dX11_let_1 rfl (Nat.le_of_ble_eq_true rfl) (⟨by decide, by decide, by decide, by decide⟩) ?_
    refine n_if_ne 9 dX11_let_4 (by decide) (by first | (with_reducible exact cB _) | ((with_reducible apply cN_eq0) <;> omega) | exact Iff.rfl) (fun c4 => ?_) (fun c4 => by exfalso; first | omega | exact absurd trivial c4 | exact c4 | (simp at c4))
    refine g_aload_n dX11_let_9 rfl ?_
    refine g_aload_n dX11_let_10 rfl ?_
    refine g_getP dX11_let_11 fdX11_32 rfl (by first | rfl | exact pv_shx) (by omega) (by omega) (by decide) rfl (hP _ _ _ rfl) ?_
    refine n_getI dX11_let_14 fdX11_77 rfl (by first | rfl | exact pv_shx) (by omega) (by omega) (by decide) rfl (by repeat (first | exact r0 | (apply rd_s; done) | apply rd_n (by omega) | apply rp_s | apply rp_n (by omega) | (apply rdL_s; done) | apply rdL_n (by omega) | apply rpJ_s | apply rpJ_n (by omega) | rfl)) ?_
    refine g_callV (se) okX11_see lkX11_236 rfl (by first | rfl | exact pv_shx) rfl (by omega) (by omega) dX11_let_17 rfl (Nat.le_of_ble_eq_true rfl) (⟨by decide, by decide, by decide, by decide⟩) ?_
    rintro v nx' I1 J1 P' ⟨rfl, rfl, rfl, q1, q2, q3, q4⟩
    have r1 := q1.n3.2
    have hs := c_hasState (v := s) (I := I1) (J := J1) (P := P') hP r1 (by omega)
    have la := c_letAsKnown (kn := kn) hP q1 q3 (by omega) (by omega)
    have bc := t_bitCount8 (nx := 224) (I := I1) (J := J1) (P := P') (ltN_lt (w := w) (h := h) (a := a) (kn := kn) n3)
    rw [ltN_ct n3] at bc
    by_cases c1 : 0 ≤ s.toInt ∧ s.toInt < cnt a 3
    · obtain ⟨sn, hsn, rfl⟩ := cI_of (x := s) (n := cnt a 3) (by omega) (by omega) (by omega)
      have es : (nI sn).toNatClampNeg = sn := nI_clamp (by omega)
      have il := c_isLet (s := sn) (kn := kn) hP q1 q3 (by omega) (by omega) (by omega)
      have ans : sp_let w h a (nI sn) (nI kn) = if letB w h a sn kn = true then 1 else 0 := by
        rw [sp_let, if_pos (by omega), if_neg (by omega), es, ek]
      rw [ans]
      rw [if_pos c1] at hs
      by_cases c2 : letB w h a sn kn = true
      · rw [if_pos c2] at il ⊢
        refine g_aload_n dX11_let_20 rfl ?_
        refine g_iload_n dX11_let_21 rfl ?_
        refine p_callV (hs) okX11_hasState lkX11_189 rfl (by first | rfl | exact pv_shx) rfl (by omega) (by omega) dX11_let_22 rfl (Nat.le_of_ble_eq_true rfl) (⟨by decide, by decide, by decide, by decide⟩) ?_
        refine n_if_eq 43 dX11_let_25 (by decide) (by first | (with_reducible exact cB _) | ((with_reducible apply cN_eq0) <;> omega) | exact Iff.rfl) (fun c25 => by exfalso; first | omega | exact absurd trivial c25 | exact c25 | (simp at c25)) (fun c25 => ?_)
        refine g_aload_n dX11_let_28 rfl ?_
        refine g_iload_n dX11_let_29 rfl ?_
        refine g_iload_n dX11_let_30 rfl ?_
        refine p_callV (il) okX11_isLet lkX11_265 rfl (by first | rfl | exact pv_shx) rfl (by omega) (by omega) dX11_let_31 rfl (Nat.le_of_ble_eq_true rfl) (⟨by decide, by decide, by decide, by decide⟩) ?_
        refine n_if_eq 41 dX11_let_34 (by decide) (by first | (with_reducible exact cB _) | ((with_reducible apply cN_eq0) <;> omega) | exact Iff.rfl) (fun c34 => by exfalso; first | omega | exact absurd trivial c34 | exact c34 | (simp at c34)) (fun c34 => ?_)
        refine g_iconst (v := nI 1) dX11_let_37 (by decide) ?_
        refine g_goto 42 dX11_let_38 (by decide) ?_
        exact g_iret dX11_let_42 rfl (⟨rfl, rfl, rfl, q1, q2⟩)
      · rw [if_neg c2] at il ⊢
        refine g_aload_n dX11_let_20 rfl ?_
        refine g_iload_n dX11_let_21 rfl ?_
        refine p_callV (hs) okX11_hasState lkX11_189 rfl (by first | rfl | exact pv_shx) rfl (by omega) (by omega) dX11_let_22 rfl (Nat.le_of_ble_eq_true rfl) (⟨by decide, by decide, by decide, by decide⟩) ?_
        refine n_if_eq 43 dX11_let_25 (by decide) (by first | (with_reducible exact cB _) | ((with_reducible apply cN_eq0) <;> omega) | exact Iff.rfl) (fun c25 => by exfalso; first | omega | exact absurd trivial c25 | exact c25 | (simp at c25)) (fun c25 => ?_)
        refine g_aload_n dX11_let_28 rfl ?_
        refine g_iload_n dX11_let_29 rfl ?_
        refine g_iload_n dX11_let_30 rfl ?_
        refine p_callV (il) okX11_isLet lkX11_265 rfl (by first | rfl | exact pv_shx) rfl (by omega) (by omega) dX11_let_31 rfl (Nat.le_of_ble_eq_true rfl) (⟨by decide, by decide, by decide, by decide⟩) ?_
        refine n_if_eq 41 dX11_let_34 (by decide) (by first | (with_reducible exact cB _) | ((with_reducible apply cN_eq0) <;> omega) | exact Iff.rfl) (fun c34 => ?_) (fun c34 => by exfalso; first | omega | exact absurd trivial c34 | exact c34 | (simp at c34))
        refine g_iconst (v := nI 0) dX11_let_41 (by decide) ?_
        exact g_iret dX11_let_42 rfl (⟨rfl, rfl, rfl, q1, q2⟩)
    · rw [if_neg c1] at hs
      by_cases c2 : s = -1
      · have ans : sp_let w h a s (nI kn) = nI (nLet w h a kn) := by
          have := cI_m1.mp c2
          rw [sp_let, if_pos (by omega), if_pos this, ek]
        rw [ans]
        subst c2
        refine g_aload_n dX11_let_20 rfl ?_
        refine g_iload_n dX11_let_21 rfl ?_
        refine p_callV (hs) okX11_hasState lkX11_189 rfl (by first | rfl | exact pv_shx) rfl (by omega) (by omega) dX11_let_22 rfl (Nat.le_of_ble_eq_true rfl) (⟨by decide, by decide, by decide, by decide⟩) ?_
        refine n_if_eq 43 dX11_let_25 (by decide) (by first | (with_reducible exact cB _) | ((with_reducible apply cN_eq0) <;> omega) | exact Iff.rfl) (fun c25 => ?_) (fun c25 => by exfalso; first | omega | exact absurd trivial c25 | exact c25 | (simp at c25))
        refine g_iload_n dX11_let_43 rfl ?_
        refine g_iconst (v := (-1)) dX11_let_44 (by decide) ?_
        refine n_icmp_ne 59 dX11_let_45 (by decide) (Iff.rfl) (fun c45 => by exfalso; exact c45 rfl) (fun c45 => ?_)
        refine g_aload_n dX11_let_48 rfl ?_
        refine g_iload_n dX11_let_49 rfl ?_
        refine p_callV (la) okX11_letAsKnown lkX11_268 rfl (by first | rfl | exact pv_shx) rfl (by omega) (by omega) dX11_let_50 rfl (Nat.le_of_ble_eq_true rfl) (⟨by decide, by decide, by decide, by decide⟩) ?_
        refine p_callS (bc) okJ6_bitCount_0f7a4 lkX11_247 rfl dX11_let_53 rfl (Nat.le_of_ble_eq_true rfl) (⟨by decide, by decide, by decide, by decide⟩) ?_
        refine g_goto 60 dX11_let_56 (by decide) ?_
        exact g_iret dX11_let_60 rfl (⟨rfl, rfl, rfl, q1, q2⟩)
      · have ans : sp_let w h a s (nI kn) = -1 := by
          rw [sp_let, if_neg (fun z => z.1.elim (fun y => c2 (cI_m1.mpr y)) c1)]
        rw [ans]
        refine g_aload_n dX11_let_20 rfl ?_
        refine g_iload_n dX11_let_21 rfl ?_
        refine p_callV (hs) okX11_hasState lkX11_189 rfl (by first | rfl | exact pv_shx) rfl (by omega) (by omega) dX11_let_22 rfl (Nat.le_of_ble_eq_true rfl) (⟨by decide, by decide, by decide, by decide⟩) ?_
        refine n_if_eq 43 dX11_let_25 (by decide) (by first | (with_reducible exact cB _) | ((with_reducible apply cN_eq0) <;> omega) | exact Iff.rfl) (fun c25 => ?_) (fun c25 => by exfalso; first | omega | exact absurd trivial c25 | exact c25 | (simp at c25))
        refine g_iload_n dX11_let_43 rfl ?_
        refine g_iconst (v := (-1)) dX11_let_44 (by decide) ?_
        refine n_icmp_ne 59 dX11_let_45 (by decide) (Iff.rfl) (fun c45 => ?_) (fun c45 => by exfalso; exact c2 c45)
        refine g_iconst (v := (-1)) dX11_let_59 (by decide) ?_
        exact g_iret dX11_let_60 rfl (⟨rfl, rfl, rfl, q1, q2⟩)
  · rw [if_neg hk] at ik
    refine pvMet.of _ (by decide) rfl (Nat.le_of_ble_eq_true rfl) ?_
    refine g_iload_n dX11_let_0 rfl ?_
    refine p_callS (ik) okX11_isKnown lkX11_262 rfl dX11_let_1 rfl (Nat.le_of_ble_eq_true rfl) (⟨by decide, by decide, by decide, by decide⟩) ?_
    refine n_if_ne 9 dX11_let_4 (by decide) (by first | (with_reducible exact cB _) | ((with_reducible apply cN_eq0) <;> omega) | exact Iff.rfl) (fun c4 => by exfalso; first | omega | exact absurd trivial c4 | exact c4 | (simp at c4)) (fun c4 => ?_)
    refine g_iconst (v := (-1)) dX11_let_7 (by decide) ?_
    exact g_iret dX11_let_8 rfl (⟨rfl, rfl, by rw [sp_let, if_neg (fun z => hk z.2)], hb, qF.rf⟩)
theorem c_span {c m k : Int32} (hP : pvOkP P) (hb : kB w h a I J) : pvMet mX11_span 7 0 0 [.ref 1, .int c, .int m, .int k] 224 I J P (kQ w h a I J P (sp_span w h a c m k)) := by
  obtain ⟨n3, r3⟩ := hb.n3
  obtain ⟨n0, r0⟩ := hb.n0
  have hwh := hb.1.wh
  have ih := c_has (v := c) (P := P) hb.1
  have iw := c_isWeek (nx := 224) (v := m) (I := I) (J := J) (P := P)
  have ik := c_isKnown (nx := 224) (v := k) (I := I) (J := J) (P := P)
  by_cases hc : 0 ≤ c.toInt ∧ c.toInt < w * h
  · rw [if_pos hc] at ih
    by_cases hm : 0 ≤ m.toInt ∧ m.toInt ≤ 99
    · rw [if_pos hm] at iw
      by_cases hk : 0 ≤ k.toInt ∧ k.toInt ≤ 100
      · obtain ⟨cn, hcn, rfl⟩ := cI_of (x := c) (n := w * h) (by omega) (by omega) (by omega)
        obtain ⟨mn, hmn, rfl⟩ := cI_of (x := m) (n := 100) (by omega) (by omega) (by omega)
        obtain ⟨kn, hkn, rfl⟩ := cI_of (x := k) (n := 101) (by omega) (by omega) (by omega)
        rw [if_pos hk] at ik
        have ans : sp_span w h a (nI cn) (nI mn) (nI kn) = allSome (nBurn w h a cn mn kn) (nLet w h a kn) := by
          rw [sp_span, if_pos ⟨hc, hm, hk⟩, nI_clamp (by omega), nI_clamp (by omega), nI_clamp (by omega)]
        rw [ans]
        have se := c_see (m := mn) hP hb (by omega)
        refine pvMet.of _ (by decide) rfl (Nat.le_of_ble_eq_true rfl) ?_
        refine g_aload_n dX11_span_0 rfl ?_
        refine g_getP dX11_span_1 fdX11_21 rfl (by first | rfl | exact pv_shx) (by omega) (by omega) (by decide) rfl (hP _ _ _ rfl) ?_
        refine g_iload_n dX11_span_4 rfl ?_
        refine p_callV (ih) okX2_has lkX11_81 rfl (by first | rfl | exact pv_shx) rfl (by omega) (by omega) dX11_span_5 rfl (Nat.le_of_ble_eq_true rfl) (⟨by decide, by decide, by decide, by decide⟩) ?_
        refine n_if_eq 25 dX11_span_8 (by decide) (by first | (with_reducible exact cB _) | ((with_reducible apply cN_eq0) <;> omega) | exact Iff.rfl) (fun c8 => by exfalso; first | omega | exact absurd trivial c8 | exact c8 | (simp at c8)) (fun c8 => ?_)
        refine g_iload_n dX11_span_11 rfl ?_
        refine p_callS (iw) okX11_isWeek lkX11_160 rfl dX11_span_12 rfl (Nat.le_of_ble_eq_true rfl) (⟨by decide, by decide, by decide, by decide⟩) ?_
        refine n_if_eq 25 dX11_span_15 (by decide) (by first | (with_reducible exact cB _) | ((with_reducible apply cN_eq0) <;> omega) | exact Iff.rfl) (fun c15 => by exfalso; first | omega | exact absurd trivial c15 | exact c15 | (simp at c15)) (fun c15 => ?_)
        refine g_iload_n dX11_span_18 rfl ?_
        refine p_callS (ik) okX11_isKnown lkX11_262 rfl dX11_span_19 rfl (Nat.le_of_ble_eq_true rfl) (⟨by decide, by decide, by decide, by decide⟩) ?_
        refine n_if_ne 27 dX11_span_22 (by decide) (by first | (with_reducible exact cB _) | ((with_reducible apply cN_eq0) <;> omega) | exact Iff.rfl) (fun c22 => ?_) (fun c22 => by exfalso; first | omega | exact absurd trivial c22 | exact c22 | (simp at c22))
        refine g_aload_n dX11_span_27 rfl ?_
        refine g_iload_n dX11_span_28 rfl ?_
        refine g_callV (se) okX11_see lkX11_236 rfl (by first | rfl | exact pv_shx) rfl (by omega) (by omega) dX11_span_29 rfl (Nat.le_of_ble_eq_true rfl) (⟨by decide, by decide, by decide, by decide⟩) ?_
        rintro v nx' I1 J1 P' ⟨rfl, rfl, rfl, q1, q2, q3, q4⟩
        have la := c_letAsKnown (kn := kn) hP q1 q3 (by omega) (by omega)
        have bc := t_bitCount8 (nx := 224) (I := I1) (J := J1) (P := P') (ltN_lt (w := w) (h := h) (a := a) (kn := kn) n3)
        rw [ltN_ct n3] at bc
        have hm := c_howManyBurn (kn := kn) (c := cn) (m := mn) hP q1 q3 (by omega) (by omega) (by omega)
        have hle : nBurn w h a cn mn kn ≤ nLet w h a kn := nBurn_le
        have hl3 : nLet w h a kn ≤ cnt a 3 := sp_ct_le _
        have ao := c_allOrSome (nx := 224) (b := nBurn w h a cn mn kn) (all := nLet w h a kn) (I := I1) (J := J1) (P := P') (by omega) (by omega)
        have hll := ltN_lt (w := w) (h := h) (a := a) (kn := kn) n3
        have hz := ltN_0 (w := w) (h := h) (a := a) (kn := kn)
        generalize ltN w h a kn = lt at *
        by_cases z : nLet w h a kn = 0
        · have : lt = 0 := hz.mpr z
          rw [allSome, if_pos z]
          refine g_aload_n dX11_span_32 rfl ?_
          refine g_iload_n dX11_span_33 rfl ?_
          refine p_callV (la) okX11_letAsKnown lkX11_268 rfl (by first | rfl | exact pv_shx) rfl (by omega) (by omega) dX11_span_34 rfl (Nat.le_of_ble_eq_true rfl) (⟨by decide, by decide, by decide, by decide⟩) ?_
          refine g_istore dX11_span_37 (by decide) rfl ?_
          refine g_iload dX11_span_39 rfl ?_
          refine n_if_ne 48 dX11_span_41 (by decide) (by first | (with_reducible exact cB _) | ((with_reducible apply cN_eq0) <;> omega) | exact Iff.rfl) (fun c41 => by exfalso; first | omega | exact absurd trivial c41 | exact c41 | (simp at c41)) (fun c41 => ?_)
          refine g_iconst (v := (-1)) dX11_span_44 (by decide) ?_
          refine g_goto 64 dX11_span_45 (by decide) ?_
          exact g_iret dX11_span_64 rfl (⟨rfl, rfl, rfl, q1, q2⟩)
        · have : lt ≠ 0 := fun y => z (hz.mp y)
          rw [allSome, if_neg z]
          refine g_aload_n dX11_span_32 rfl ?_
          refine g_iload_n dX11_span_33 rfl ?_
          refine p_callV (la) okX11_letAsKnown lkX11_268 rfl (by first | rfl | exact pv_shx) rfl (by omega) (by omega) dX11_span_34 rfl (Nat.le_of_ble_eq_true rfl) (⟨by decide, by decide, by decide, by decide⟩) ?_
          refine g_istore dX11_span_37 (by decide) rfl ?_
          refine g_iload dX11_span_39 rfl ?_
          refine n_if_ne 48 dX11_span_41 (by decide) (by first | (with_reducible exact cB _) | ((with_reducible apply cN_eq0) <;> omega) | exact Iff.rfl) (fun c41 => ?_) (fun c41 => by exfalso; first | omega | exact absurd trivial c41 | exact c41 | (simp at c41))
          refine g_aload_n dX11_span_48 rfl ?_
          refine g_iload dX11_span_49 rfl ?_
          refine g_iload_n dX11_span_51 rfl ?_
          refine g_iload_n dX11_span_52 rfl ?_
          refine p_callV (hm) okX11_howManyBurn lkX11_271 rfl (by first | rfl | exact pv_shx) rfl (by omega) (by omega) dX11_span_53 rfl (Nat.le_of_ble_eq_true rfl) (⟨by decide, by decide, by decide, by decide⟩) ?_
          refine g_iload dX11_span_56 rfl ?_
          refine p_callS (bc) okJ6_bitCount_0f7a4 lkX11_247 rfl dX11_span_58 rfl (Nat.le_of_ble_eq_true rfl) (⟨by decide, by decide, by decide, by decide⟩) ?_
          refine p_callS (ao) okX11_allOrSome lkX11_252 rfl dX11_span_61 rfl (Nat.le_of_ble_eq_true rfl) (⟨by decide, by decide, by decide, by decide⟩) ?_
          exact g_iret dX11_span_64 rfl (⟨rfl, rfl, rfl, q1, q2⟩)
      · rw [if_neg hk] at ik
        refine pvMet.of _ (by decide) rfl (Nat.le_of_ble_eq_true rfl) ?_
        refine g_aload_n dX11_span_0 rfl ?_
        refine g_getP dX11_span_1 fdX11_21 rfl (by first | rfl | exact pv_shx) (by omega) (by omega) (by decide) rfl (hP _ _ _ rfl) ?_
        refine g_iload_n dX11_span_4 rfl ?_
        refine p_callV (ih) okX2_has lkX11_81 rfl (by first | rfl | exact pv_shx) rfl (by omega) (by omega) dX11_span_5 rfl (Nat.le_of_ble_eq_true rfl) (⟨by decide, by decide, by decide, by decide⟩) ?_
        refine n_if_eq 25 dX11_span_8 (by decide) (by first | (with_reducible exact cB _) | ((with_reducible apply cN_eq0) <;> omega) | exact Iff.rfl) (fun c8 => by exfalso; first | omega | exact absurd trivial c8 | exact c8 | (simp at c8)) (fun c8 => ?_)
        refine g_iload_n dX11_span_11 rfl ?_
        refine p_callS (iw) okX11_isWeek lkX11_160 rfl dX11_span_12 rfl (Nat.le_of_ble_eq_true rfl) (⟨by decide, by decide, by decide, by decide⟩) ?_
        refine n_if_eq 25 dX11_span_15 (by decide) (by first | (with_reducible exact cB _) | ((with_reducible apply cN_eq0) <;> omega) | exact Iff.rfl) (fun c15 => by exfalso; first | omega | exact absurd trivial c15 | exact c15 | (simp at c15)) (fun c15 => ?_)
        refine g_iload_n dX11_span_18 rfl ?_
        refine p_callS (ik) okX11_isKnown lkX11_262 rfl dX11_span_19 rfl (Nat.le_of_ble_eq_true rfl) (⟨by decide, by decide, by decide, by decide⟩) ?_
        refine n_if_ne 27 dX11_span_22 (by decide) (by first | (with_reducible exact cB _) | ((with_reducible apply cN_eq0) <;> omega) | exact Iff.rfl) (fun c22 => by exfalso; first | omega | exact absurd trivial c22 | exact c22 | (simp at c22)) (fun c22 => ?_)
        refine g_iconst (v := (-1)) dX11_span_25 (by decide) ?_
        exact g_iret dX11_span_26 rfl (⟨rfl, rfl, by rw [sp_span, if_neg (fun z => hk z.2.2)], hb, qF.rf⟩)
    · rw [if_neg hm] at iw
      refine pvMet.of _ (by decide) rfl (Nat.le_of_ble_eq_true rfl) ?_
      refine g_aload_n dX11_span_0 rfl ?_
      refine g_getP dX11_span_1 fdX11_21 rfl (by first | rfl | exact pv_shx) (by omega) (by omega) (by decide) rfl (hP _ _ _ rfl) ?_
      refine g_iload_n dX11_span_4 rfl ?_
      refine p_callV (ih) okX2_has lkX11_81 rfl (by first | rfl | exact pv_shx) rfl (by omega) (by omega) dX11_span_5 rfl (Nat.le_of_ble_eq_true rfl) (⟨by decide, by decide, by decide, by decide⟩) ?_
      refine n_if_eq 25 dX11_span_8 (by decide) (by first | (with_reducible exact cB _) | ((with_reducible apply cN_eq0) <;> omega) | exact Iff.rfl) (fun c8 => by exfalso; first | omega | exact absurd trivial c8 | exact c8 | (simp at c8)) (fun c8 => ?_)
      refine g_iload_n dX11_span_11 rfl ?_
      refine p_callS (iw) okX11_isWeek lkX11_160 rfl dX11_span_12 rfl (Nat.le_of_ble_eq_true rfl) (⟨by decide, by decide, by decide, by decide⟩) ?_
      refine n_if_eq 25 dX11_span_15 (by decide) (by first | (with_reducible exact cB _) | ((with_reducible apply cN_eq0) <;> omega) | exact Iff.rfl) (fun c15 => ?_) (fun c15 => by exfalso; first | omega | exact absurd trivial c15 | exact c15 | (simp at c15))
      refine g_iconst (v := (-1)) dX11_span_25 (by decide) ?_
      exact g_iret dX11_span_26 rfl (⟨rfl, rfl, by rw [sp_span, if_neg (fun z => hm z.2.1)], hb, qF.rf⟩)
  · rw [if_neg hc] at ih
    refine pvMet.of _ (by decide) rfl (Nat.le_of_ble_eq_true rfl) ?_
    refine g_aload_n dX11_span_0 rfl ?_
    refine g_getP dX11_span_1 fdX11_21 rfl (by first | rfl | exact pv_shx) (by omega) (by omega) (by decide) rfl (hP _ _ _ rfl) ?_
    refine g_iload_n dX11_span_4 rfl ?_
    refine p_callV (ih) okX2_has lkX11_81 rfl (by first | rfl | exact pv_shx) rfl (by omega) (by omega) dX11_span_5 rfl (Nat.le_of_ble_eq_true rfl) (⟨by decide, by decide, by decide, by decide⟩) ?_
    refine n_if_eq 25 dX11_span_8 (by decide) (by first | (with_reducible exact cB _) | ((with_reducible apply cN_eq0) <;> omega) | exact Iff.rfl) (fun c8 => ?_) (fun c8 => by exfalso; first | omega | exact absurd trivial c8 | exact c8 | (simp at c8))
    refine g_iconst (v := (-1)) dX11_span_25 (by decide) ?_
    exact g_iret dX11_span_26 rfl (⟨rfl, rfl, by rw [sp_span, if_neg (fun z => hc z.1)], hb, qF.rf⟩)
end ASK
