/-! model: let, span, parts, inTime -/
def nLet (w h : Nat) (a : Nat → Int32) (kn : Nat) : Nat := sp_ct (fun s => letB w h a s kn = true) (cnt a 3)
def nBurn (w h : Nat) (a : Nat → Int32) (c m kn : Nat) : Nat := sp_ct (fun s => letB w h a s kn = true ∧ (fwk w h a 0 none s m).1 c = 1) (cnt a 3)
theorem sp_ct_sub {p q : Nat → Prop} [DecidablePred p] [DecidablePred q] (h : ∀ k, p k → q k) : ∀ n, sp_ct p n ≤ sp_ct q n
  | 0 => Nat.le_refl _
  | n + 1 => by
    have := sp_ct_sub h n
    show sp_ct p n + _ ≤ sp_ct q n + _
    by_cases hp : p n
    · rw [if_pos hp, if_pos (h n hp)]; omega
    · rw [if_neg hp]; split <;> omega
theorem nBurn_le {w h : Nat} {a : Nat → Int32} {c m kn : Nat} : nBurn w h a c m kn ≤ nLet w h a kn := sp_ct_sub (fun k hk => hk.1) _
theorem nLet_le {w h : Nat} {a : Nat → Int32} {kn : Nat} : nLet w h a kn ≤ cnt a 3 := sp_ct_le _
/-- behind runAll -/
theorem tb_move {w h : Nat} {I I1 : pvI} (h1 : mfix I I1 LR) : I1 203 = I 203 ∧ (mDim w h I → mDim w h I1) := ⟨h1 203 (by decide), fun hD => ⟨by rw [h1 202 (by decide)]; exact hD.1, by rw [h1 202 (by decide)]; exact hD.2.1, hD.2.2⟩⟩
def sp_let (w h : Nat) (a : Nat → Int32) (s k : Int32) : Int32 := if (s.toInt = -1 ∨ (0 ≤ s.toInt ∧ s.toInt < cnt a 3)) ∧ (0 ≤ k.toInt ∧ k.toInt ≤ 100) then (if s.toInt = -1 then nI (nLet w h a k.toNatClampNeg) else if letB w h a s.toNatClampNeg k.toNatClampNeg = true then 1 else 0) else -1
theorem cI_m1 {x : Int32} : x = -1 ↔ x.toInt = -1 := by rw [cI_eq]; rfl
theorem t_let {w h : Nat} {I : pvI} {J : pvJ} {P : pvP} (hP : pvOkP P) (hD : mDim w h I) (hF : mF w h (I 203)) (hrd : mRead (w * h) (I 203)) {s k : Int32} : pvMet mX12_let 5 0 0 [.ref 202, .int s, .int k] 224 I J P (mQ2 I J P (sp_let w h (I 203) s k)) := by
  have hg := hF.1
  have hwh : w * h ≤ 64 := Nat.mul_le_mul hD.2.2.1.2 hD.2.2.2.2
  obtain ⟨ns, ns_b, ns_h⟩ := hg 3 (by decide)
  replace ns_b : ns ≤ 8 := ns_b
  have ns_e : cnt (I 203) 3 = ns := cnt_of ns_h (by omega)
  have hra := t_runAll (J := J) hP hD hF
  refine pvMet.of _ (by decide) rfl (Nat.le_of_ble_eq_true rfl) ?_
  refine g_iload_n dX12_let_0 rfl ?_
  refine g_iconst (v := (-1)) dX12_let_1 (by decide) ?_
  refine n_icmp_eq 13 dX12_let_2 (by decide) (cI_m1) (fun c2 => ?_) (fun c2 => ?_)
  · skip
    refine g_iload_n dX12_let_13 rfl ?_
    refine g_iconst (v := nI 0) dX12_let_14 (by decide) ?_
    refine g_bipush (v := nI 100) dX12_let_15 (by decide) ?_
    refine p_callS (t_isIn (by first | exact nI_toInt (by omega) | exact pk_sub_toInt (by omega) (by omega)) (by first | exact nI_toInt (by omega) | exact pk_sub_toInt (by omega) (by omega))) okX12_isIn lkX12_96 rfl dX12_let_17 rfl (Nat.le_of_ble_eq_true rfl) (⟨by decide, by decide, by decide, by decide⟩) ?_
    refine n_if_ne 25 dX12_let_20 (by decide) (by first | (with_reducible exact cB _) | ((with_reducible apply cN_eq0) <;> omega) | exact Iff.rfl) (fun c20 => ?_) (fun c20 => ?_)
    · skip
      obtain ⟨kn, hkn, rfl⟩ := cI_of (x := k) (n := 101) (by omega) (by omega) (by omega)
      have ek : (nI kn).toNatClampNeg = kn := nI_clamp (by omega)
      refine g_aload_n dX12_let_25 rfl ?_
      refine g_callV (hra) okX12_runAll lkX12_149 rfl (by first | rfl | exact pv_shx) rfl (by omega) (by omega) dX12_let_26 rfl (Nat.le_of_ble_eq_true rfl) (⟨by decide, by decide, by decide, by decide⟩) ?_
      rintro v nx' I1 J' P' ⟨rfl, rfl, rfl, rfl, g1, g2⟩
      have a1 := (tb_move (w := w) (h := h) g1).1
      refine g_iload_n dX12_let_29 rfl ?_
      refine g_iconst (v := (-1)) dX12_let_30 (by decide) ?_
      refine n_icmp_ne 42 dX12_let_31 (by decide) (cI_m1) (fun c31 => ?_) (fun c31 => ?_)
      · skip
        obtain ⟨sn, hsn, rfl⟩ := cI_of (x := s) (n := ns) (by omega) (by omega) (by omega)
        have es : (nI sn).toNatClampNeg = sn := nI_clamp (by omega)
        refine g_aload_n dX12_let_42 rfl ?_
        refine g_iload_n dX12_let_43 rfl ?_
        refine g_iload_n dX12_let_44 rfl ?_
        refine p_callV (t_isLet (w := w) (h := h) hP a1 hg hF.2.1 hrd hwh (by omega) (by omega) g2) okX12_isLet lkX12_145 rfl (by first | rfl | exact pv_shx) rfl (by omega) (by omega) dX12_let_45 rfl (Nat.le_of_ble_eq_true rfl) (⟨by decide, by decide, by decide, by decide⟩) ?_
        refine n_if_eq 55 dX12_let_48 (by decide) (by first | (with_reducible exact cB _) | ((with_reducible apply cN_eq0) <;> omega) | exact Iff.rfl) (fun c48 => ?_) (fun c48 => ?_)
        · skip
          refine g_iconst (v := nI 0) dX12_let_55 (by decide) ?_
          exact g_iret dX12_let_56 rfl (⟨rfl, rfl, by rw [sp_let, if_pos (by omega)]; first | (rw [if_pos (by omega), ek]; rfl) | (rw [if_neg (by omega), ek, es]; first | (rw [if_pos (Classical.not_not.mp c48)]; rfl) | (rw [if_neg c48]; rfl)), g1, rfl⟩)
        · skip
          refine g_iconst (v := nI 1) dX12_let_51 (by decide) ?_
          refine g_goto 56 dX12_let_52 (by decide) ?_
          exact g_iret dX12_let_56 rfl (⟨rfl, rfl, by rw [sp_let, if_pos (by omega)]; first | (rw [if_pos (by omega), ek]; rfl) | (rw [if_neg (by omega), ek, es]; first | (rw [if_pos (Classical.not_not.mp c48)]; rfl) | (rw [if_neg c48]; rfl)), g1, rfl⟩)
      · skip
        refine g_aload_n dX12_let_34 rfl ?_
        refine g_iload_n dX12_let_35 rfl ?_
        refine p_callV (t_manyLet (w := w) (h := h) hP a1 hg hF.2.1 hrd hwh (by omega) g2) okX12_manyLet lkX12_152 rfl (by first | rfl | exact pv_shx) rfl (by omega) (by omega) dX12_let_36 rfl (Nat.le_of_ble_eq_true rfl) (⟨by decide, by decide, by decide, by decide⟩) ?_
        refine g_goto 56 dX12_let_39 (by decide) ?_
        exact g_iret dX12_let_56 rfl (⟨rfl, rfl, by rw [sp_let, if_pos (by omega)]; first | (rw [if_pos (by omega), ek]; rfl) | (rw [if_neg (by omega), ek, es]; first | (rw [if_pos (Classical.not_not.mp c48)]; rfl) | (rw [if_neg c48]; rfl)), g1, rfl⟩)
    · skip
      refine g_iconst (v := (-1)) dX12_let_23 (by decide) ?_
      exact g_iret dX12_let_24 rfl (⟨rfl, rfl, by rw [sp_let, if_neg (by omega)], mfix.rf, rfl⟩)
  · skip
    refine g_aload_n dX12_let_5 rfl ?_
    refine g_iload_n dX12_let_6 rfl ?_
    refine p_callV (t_isState hP (by omega) ns_h) okX12_isState lkX12_139 rfl (by first | rfl | exact pv_shx) rfl (by omega) (by omega) dX12_let_7 rfl (Nat.le_of_ble_eq_true rfl) (⟨by decide, by decide, by decide, by decide⟩) ?_
    refine n_if_eq 23 dX12_let_10 (by decide) (by first | (with_reducible exact cB _) | ((with_reducible apply cN_eq0) <;> omega) | exact Iff.rfl) (fun c10 => ?_) (fun c10 => ?_)
    · skip
      refine g_iconst (v := (-1)) dX12_let_23 (by decide) ?_
      exact g_iret dX12_let_24 rfl (⟨rfl, rfl, by rw [sp_let, if_neg (by omega)], mfix.rf, rfl⟩)
    · skip
      refine g_iload_n dX12_let_13 rfl ?_
      refine g_iconst (v := nI 0) dX12_let_14 (by decide) ?_
      refine g_bipush (v := nI 100) dX12_let_15 (by decide) ?_
      refine p_callS (t_isIn (by first | exact nI_toInt (by omega) | exact pk_sub_toInt (by omega) (by omega)) (by first | exact nI_toInt (by omega) | exact pk_sub_toInt (by omega) (by omega))) okX12_isIn lkX12_96 rfl dX12_let_17 rfl (Nat.le_of_ble_eq_true rfl) (⟨by decide, by decide, by decide, by decide⟩) ?_
      refine n_if_ne 25 dX12_let_20 (by decide) (by first | (with_reducible exact cB _) | ((with_reducible apply cN_eq0) <;> omega) | exact Iff.rfl) (fun c20 => ?_) (fun c20 => ?_)
      · skip
        obtain ⟨kn, hkn, rfl⟩ := cI_of (x := k) (n := 101) (by omega) (by omega) (by omega)
        have ek : (nI kn).toNatClampNeg = kn := nI_clamp (by omega)
        refine g_aload_n dX12_let_25 rfl ?_
        refine g_callV (hra) okX12_runAll lkX12_149 rfl (by first | rfl | exact pv_shx) rfl (by omega) (by omega) dX12_let_26 rfl (Nat.le_of_ble_eq_true rfl) (⟨by decide, by decide, by decide, by decide⟩) ?_
        rintro v nx' I1 J' P' ⟨rfl, rfl, rfl, rfl, g1, g2⟩
        have a1 := (tb_move (w := w) (h := h) g1).1
        refine g_iload_n dX12_let_29 rfl ?_
        refine g_iconst (v := (-1)) dX12_let_30 (by decide) ?_
        refine n_icmp_ne 42 dX12_let_31 (by decide) (cI_m1) (fun c31 => ?_) (fun c31 => ?_)
        · skip
          obtain ⟨sn, hsn, rfl⟩ := cI_of (x := s) (n := ns) (by omega) (by omega) (by omega)
          have es : (nI sn).toNatClampNeg = sn := nI_clamp (by omega)
          refine g_aload_n dX12_let_42 rfl ?_
          refine g_iload_n dX12_let_43 rfl ?_
          refine g_iload_n dX12_let_44 rfl ?_
          refine p_callV (t_isLet (w := w) (h := h) hP a1 hg hF.2.1 hrd hwh (by omega) (by omega) g2) okX12_isLet lkX12_145 rfl (by first | rfl | exact pv_shx) rfl (by omega) (by omega) dX12_let_45 rfl (Nat.le_of_ble_eq_true rfl) (⟨by decide, by decide, by decide, by decide⟩) ?_
          refine n_if_eq 55 dX12_let_48 (by decide) (by first | (with_reducible exact cB _) | ((with_reducible apply cN_eq0) <;> omega) | exact Iff.rfl) (fun c48 => ?_) (fun c48 => ?_)
          · skip
            refine g_iconst (v := nI 0) dX12_let_55 (by decide) ?_
            exact g_iret dX12_let_56 rfl (⟨rfl, rfl, by rw [sp_let, if_pos (by omega)]; first | (rw [if_pos (by omega), ek]; rfl) | (rw [if_neg (by omega), ek, es]; first | (rw [if_pos (Classical.not_not.mp c48)]; rfl) | (rw [if_neg c48]; rfl)), g1, rfl⟩)
          · skip
            refine g_iconst (v := nI 1) dX12_let_51 (by decide) ?_
            refine g_goto 56 dX12_let_52 (by decide) ?_
            exact g_iret dX12_let_56 rfl (⟨rfl, rfl, by rw [sp_let, if_pos (by omega)]; first | (rw [if_pos (by omega), ek]; rfl) | (rw [if_neg (by omega), ek, es]; first | (rw [if_pos (Classical.not_not.mp c48)]; rfl) | (rw [if_neg c48]; rfl)), g1, rfl⟩)
        · skip
          refine g_aload_n dX12_let_34 rfl ?_
          refine g_iload_n dX12_let_35 rfl ?_
          refine p_callV (t_manyLet (w := w) (h := h) hP a1 hg hF.2.1 hrd hwh (by omega) g2) okX12_manyLet lkX12_152 rfl (by first | rfl | exact pv_shx) rfl (by omega) (by omega) dX12_let_36 rfl (Nat.le_of_ble_eq_true rfl) (⟨by decide, by decide, by decide, by decide⟩) ?_
          refine g_goto 56 dX12_let_39 (by decide) ?_
          exact g_iret dX12_let_56 rfl (⟨rfl, rfl, by rw [sp_let, if_pos (by omega)]; first | (rw [if_pos (by omega), ek]; rfl) | (rw [if_neg (by omega), ek, es]; first | (rw [if_pos (Classical.not_not.mp c48)]; rfl) | (rw [if_neg c48]; rfl)), g1, rfl⟩)
      · skip
        refine g_iconst (v := (-1)) dX12_let_23 (by decide) ?_
        exact g_iret dX12_let_24 rfl (⟨rfl, rfl, by rw [sp_let, if_neg (by omega)], mfix.rf, rfl⟩)
def allSome (b all : Nat) : Int32 := if all = 0 then -1 else if b = all then nI 2 else if 0 < b then nI 1 else nI 0
def sp_span (w h : Nat) (a : Nat → Int32) (c m k : Int32) : Int32 := if (0 ≤ c.toInt ∧ c.toInt < w * h) ∧ (0 ≤ m.toInt ∧ m.toInt ≤ 99) ∧ (0 ≤ k.toInt ∧ k.toInt ≤ 100) then allSome (nBurn w h a c.toNatClampNeg m.toNatClampNeg k.toNatClampNeg) (nLet w h a k.toNatClampNeg) else -1
theorem t_span {w h : Nat} {I : pvI} {J : pvJ} {P : pvP} (hP : pvOkP P) (hD : mDim w h I) (hF : mF w h (I 203)) (hrd : mRead (w * h) (I 203)) {c m k : Int32} : pvMet mX12_span 5 0 0 [.ref 202, .int c, .int m, .int k] 224 I J P (mQ2 I J P (sp_span w h (I 203) c m k)) := by
  have hg := hF.1
  have hra := t_runAll (J := J) hP hD hF
  obtain ⟨hw, hh, hw2, hh2⟩ := hD
  have hwh : 4 ≤ w * h ∧ w * h ≤ 64 := ⟨Nat.mul_le_mul hw2.1 hh2.1, Nat.mul_le_mul hw2.2 hh2.2⟩
  obtain ⟨ns, ns_b, ns_h⟩ := hg 3 (by decide)
  replace ns_b : ns ≤ 8 := ns_b
  have ns_e : cnt (I 203) 3 = ns := cnt_of ns_h (by omega)
  refine pvMet.of _ (by decide) rfl (Nat.le_of_ble_eq_true rfl) ?_
  refine g_aload_n dX12_span_0 rfl ?_
  refine g_iload_n dX12_span_1 rfl ?_
  refine p_callV (t_isCell hw hh hw2 hh2) okX12_isCell lkX12_100 rfl (by first | rfl | exact pv_shx) rfl (by omega) (by omega) dX12_span_2 rfl (Nat.le_of_ble_eq_true rfl) (⟨by decide, by decide, by decide, by decide⟩) ?_
  refine n_if_eq 25 dX12_span_5 (by decide) (by first | (with_reducible exact cB _) | ((with_reducible apply cN_eq0) <;> omega) | exact Iff.rfl) (fun c5 => ?_) (fun c5 => ?_)
  · skip
    refine g_iconst (v := (-1)) dX12_span_25 (by decide) ?_
    exact g_iret dX12_span_26 rfl (⟨rfl, rfl, by rw [sp_span, if_neg (by omega)], mfix.rf, rfl⟩)
  · skip
    refine g_iload_n dX12_span_8 rfl ?_
    refine p_callS (t_isWeek) okX12_isWeek lkX12_115 rfl dX12_span_9 rfl (Nat.le_of_ble_eq_true rfl) (⟨by decide, by decide, by decide, by decide⟩) ?_
    refine n_if_eq 25 dX12_span_12 (by decide) (by first | (with_reducible exact cB _) | ((with_reducible apply cN_eq0) <;> omega) | exact Iff.rfl) (fun c12 => ?_) (fun c12 => ?_)
    · skip
      refine g_iconst (v := (-1)) dX12_span_25 (by decide) ?_
      exact g_iret dX12_span_26 rfl (⟨rfl, rfl, by rw [sp_span, if_neg (by omega)], mfix.rf, rfl⟩)
    · skip
      refine g_iload_n dX12_span_15 rfl ?_
      refine g_iconst (v := nI 0) dX12_span_16 (by decide) ?_
      refine g_bipush (v := nI 100) dX12_span_17 (by decide) ?_
      refine p_callS (t_isIn (by first | exact nI_toInt (by omega) | exact pk_sub_toInt (by omega) (by omega)) (by first | exact nI_toInt (by omega) | exact pk_sub_toInt (by omega) (by omega))) okX12_isIn lkX12_96 rfl dX12_span_19 rfl (Nat.le_of_ble_eq_true rfl) (⟨by decide, by decide, by decide, by decide⟩) ?_
      refine n_if_ne 27 dX12_span_22 (by decide) (by first | (with_reducible exact cB _) | ((with_reducible apply cN_eq0) <;> omega) | exact Iff.rfl) (fun c22 => ?_) (fun c22 => ?_)
      · skip
        obtain ⟨kn, hkn, rfl⟩ := cI_of (x := k) (n := 101) (by omega) (by omega) (by omega)
        obtain ⟨cn, hcn, rfl⟩ := cI_of (x := c) (n := w * h) (by omega) (by omega) (by omega)
        obtain ⟨mn, hmn, rfl⟩ := cI_of (x := m) (n := 100) (by omega) (by omega) (by omega)
        have hans : sp_span w h (I 203) (nI cn) (nI mn) (nI kn) = allSome (nBurn w h (I 203) cn mn kn) (nLet w h (I 203) kn) := by rw [sp_span, if_pos (by omega), nI_clamp (by omega : cn < 2 ^ 31), nI_clamp (by omega : mn < 2 ^ 31), nI_clamp (by omega : kn < 2 ^ 31)]
        rw [hans]
        have b1 := nBurn_le (w := w) (h := h) (a := I 203) (c := cn) (m := mn) (kn := kn)
        have b2 := nLet_le (w := w) (h := h) (a := I 203) (kn := kn)
        have u1 : nBurn w h (I 203) cn mn kn = sp_ct (fun s => letB w h (I 203) s kn = true ∧ (fwk w h (I 203) 0 none s mn).1 cn = 1) (cnt (I 203) 3) := rfl
        have u2 : nLet w h (I 203) kn = sp_ct (fun s => letB w h (I 203) s kn = true) (cnt (I 203) 3) := rfl
        refine g_aload_n dX12_span_27 rfl ?_
        refine g_callV (hra) okX12_runAll lkX12_149 rfl (by first | rfl | exact pv_shx) rfl (by omega) (by omega) dX12_span_28 rfl (Nat.le_of_ble_eq_true rfl) (⟨by decide, by decide, by decide, by decide⟩) ?_
        rintro v nx' I1 J' P' ⟨rfl, rfl, rfl, rfl, g1, g2⟩
        have a1 := (tb_move (w := w) (h := h) g1).1
        have ml := t_manyLet (w := w) (h := h) (J := J') (kn := kn) hP a1 hg hF.2.1 hrd hwh.2 (by omega) g2
        have mb := t_manyBurn (w := w) (h := h) (J := J') (c := cn) (m := mn) (kn := kn) hP a1 hg hF.2.1 hrd hwh.2 (by omega) (by omega) (by omega) g2
        rw [← u2] at ml
        rw [← u1] at mb
        refine g_aload_n dX12_span_31 rfl ?_
        refine g_iload_n dX12_span_32 rfl ?_
        refine p_callV (ml) okX12_manyLet lkX12_152 rfl (by first | rfl | exact pv_shx) rfl (by omega) (by omega) dX12_span_33 rfl (Nat.le_of_ble_eq_true rfl) (⟨by decide, by decide, by decide, by decide⟩) ?_
        refine g_istore dX12_span_36 (by decide) rfl ?_
        refine g_aload_n dX12_span_38 rfl ?_
        refine g_iload_n dX12_span_39 rfl ?_
        refine g_iload_n dX12_span_40 rfl ?_
        refine g_iload_n dX12_span_41 rfl ?_
        refine p_callV (mb) okX12_manyBurn lkX12_155 rfl (by first | rfl | exact pv_shx) rfl (by omega) (by omega) dX12_span_42 rfl (Nat.le_of_ble_eq_true rfl) (⟨by decide, by decide, by decide, by decide⟩) ?_
        refine g_istore dX12_span_45 (by decide) rfl ?_
        refine g_iload dX12_span_47 rfl ?_
        refine n_if_ne 56 dX12_span_49 (by decide) (by first | (with_reducible exact cB _) | ((with_reducible apply cN_eq0) <;> omega) | exact Iff.rfl) (fun c49 => ?_) (fun c49 => ?_)
        · skip
          refine g_iload dX12_span_56 rfl ?_
          refine g_iload dX12_span_58 rfl ?_
          refine n_icmp_ne 67 dX12_span_60 (by decide) (by first | ((with_reducible apply cN_eq) <;> omega) | ((with_reducible apply cI_eqn) <;> omega) | exact Iff.rfl) (fun c60 => ?_) (fun c60 => ?_)
          · skip
            refine g_iload dX12_span_67 rfl ?_
            refine n_if_le 76 dX12_span_69 (by decide) (by first | ((with_reducible apply cN_le0) <;> omega) | (with_reducible exact cI_le0)) (fun c69 => ?_) (fun c69 => ?_)
            · skip
              refine g_iconst (v := nI 0) dX12_span_76 (by decide) ?_
              exact g_iret dX12_span_77 rfl (⟨rfl, rfl, by rw [allSome]; first | rw [if_pos (by omega)] | rw [if_neg (by omega), if_pos (by omega)] | rw [if_neg (by omega), if_neg (by omega), if_pos (by omega)] | rw [if_neg (by omega), if_neg (by omega), if_neg (by omega)], g1, rfl⟩)
            · skip
              refine g_iconst (v := nI 1) dX12_span_72 (by decide) ?_
              refine g_goto 77 dX12_span_73 (by decide) ?_
              exact g_iret dX12_span_77 rfl (⟨rfl, rfl, by rw [allSome]; first | rw [if_pos (by omega)] | rw [if_neg (by omega), if_pos (by omega)] | rw [if_neg (by omega), if_neg (by omega), if_pos (by omega)] | rw [if_neg (by omega), if_neg (by omega), if_neg (by omega)], g1, rfl⟩)
          · skip
            refine g_iconst (v := nI 2) dX12_span_63 (by decide) ?_
            refine g_goto 77 dX12_span_64 (by decide) ?_
            exact g_iret dX12_span_77 rfl (⟨rfl, rfl, by rw [allSome]; first | rw [if_pos (by omega)] | rw [if_neg (by omega), if_pos (by omega)] | rw [if_neg (by omega), if_neg (by omega), if_pos (by omega)] | rw [if_neg (by omega), if_neg (by omega), if_neg (by omega)], g1, rfl⟩)
        · skip
          refine g_iconst (v := (-1)) dX12_span_52 (by decide) ?_
          refine g_goto 77 dX12_span_53 (by decide) ?_
          exact g_iret dX12_span_77 rfl (⟨rfl, rfl, by rw [allSome]; first | rw [if_pos (by omega)] | rw [if_neg (by omega), if_pos (by omega)] | rw [if_neg (by omega), if_neg (by omega), if_pos (by omega)] | rw [if_neg (by omega), if_neg (by omega), if_neg (by omega)], g1, rfl⟩)
      · skip
        refine g_iconst (v := (-1)) dX12_span_25 (by decide) ?_
        exact g_iret dX12_span_26 rfl (⟨rfl, rfl, by rw [sp_span, if_neg (by omega)], mfix.rf, rfl⟩)
/-- the cell that parts most -/
def ptB (f : Nat → Nat) (all : Nat) : Nat → Option Nat × Nat
  | 0 => (none, 0)
  | c + 1 => if min (f c) (all - f c) ≤ (ptB f all c).2 then ptB f all c else (some c, min (f c) (all - f c))
theorem ptB_le {f : Nat → Nat} {all : Nat} : ∀ c, (ptB f all c).2 ≤ all ∧ ∀ x, (ptB f all c).1 = some x → x < c
  | 0 => ⟨Nat.zero_le _, fun x h => by cases h⟩
  | c + 1 => by
    have ih := ptB_le (f := f) (all := all) c
    have e : ptB f all (c + 1) = if min (f c) (all - f c) ≤ (ptB f all c).2 then ptB f all c else (some c, min (f c) (all - f c)) := rfl
    rw [e]
    split
    · exact ⟨ih.1, fun x hx => by have := ih.2 x hx; omega⟩
    · refine ⟨?_, fun x hx => by cases hx; omega⟩
      show min (f c) (all - f c) ≤ all
      omega
def sp_parts (w h : Nat) (a : Nat → Int32) (m : Int32) : Int32 := if 0 ≤ m.toInt ∧ m.toInt ≤ 99 then stv (ptB (fun c => nBurn w h a c m.toNatClampNeg (cnt a 0)) (nLet w h a (cnt a 0)) (w * h)).1 else -1
theorem t_parts {w h : Nat} {I : pvI} {J : pvJ} {P : pvP} (hP : pvOkP P) (hD : mDim w h I) (hF : mF w h (I 203)) (hrd : mRead (w * h) (I 203)) {m : Int32} : pvMet mX12_parts 5 0 0 [.ref 202, .int m] 224 I J P (mQ2 I J P (sp_parts w h (I 203) m)) := by
  have hg := hF.1
  have hra := t_runAll (J := J) hP hD hF
  obtain ⟨hw, hh, hw2, hh2⟩ := hD
  have hwh : 4 ≤ w * h ∧ w * h ≤ 64 := ⟨Nat.mul_le_mul hw2.1 hh2.1, Nat.mul_le_mul hw2.2 hh2.2⟩
  obtain ⟨ns, ns_b, ns_h⟩ := hg 3 (by decide)
  replace ns_b : ns ≤ 8 := ns_b
  have ns_e : cnt (I 203) 3 = ns := cnt_of ns_h (by omega)
  obtain ⟨clk, clk_b, clk_h⟩ := hg 0 (by decide)
  replace clk_b : clk ≤ 100 := clk_b
  have clk_e : cnt (I 203) 0 = clk := cnt_of clk_h (by omega)
  refine pvMet.of _ (by decide) rfl (Nat.le_of_ble_eq_true rfl) ?_
  refine g_iload_n dX12_parts_0 rfl ?_
  refine p_callS (t_isWeek) okX12_isWeek lkX12_115 rfl dX12_parts_1 rfl (Nat.le_of_ble_eq_true rfl) (⟨by decide, by decide, by decide, by decide⟩) ?_
  refine n_if_ne 9 dX12_parts_4 (by decide) (by first | (with_reducible exact cB _) | ((with_reducible apply cN_eq0) <;> omega) | exact Iff.rfl) (fun c4 => ?_) (fun c4 => ?_)
  · skip
    obtain ⟨mn, hmn, rfl⟩ := cI_of (x := m) (n := 100) (by omega) (by omega) (by omega)
    have hans : sp_parts w h (I 203) (nI mn) = stv (ptB (fun c => nBurn w h (I 203) c mn clk) (nLet w h (I 203) clk) (w * h)).1 := by rw [sp_parts, if_pos (by omega), nI_clamp (by omega : mn < 2 ^ 31), clk_e]
    rw [hans]
    have b2 := nLet_le (w := w) (h := h) (a := I 203) (kn := clk)
    refine g_aload_n dX12_parts_9 rfl ?_
    refine g_callV (hra) okX12_runAll lkX12_149 rfl (by first | rfl | exact pv_shx) rfl (by omega) (by omega) dX12_parts_10 rfl (Nat.le_of_ble_eq_true rfl) (⟨by decide, by decide, by decide, by decide⟩) ?_
    rintro v nx' I1 J' P' ⟨rfl, rfl, rfl, rfl, g1, g2⟩
    have a1 := (tb_move (w := w) (h := h) g1).1
    have clk1 : I1 203 0 = nI clk := by rw [a1]; exact clk_h
    have hw1 : I1 202 0 = nI w := by rw [g1 202 (by decide)]; exact hw
    have hh1 : I1 202 1 = nI h := by rw [g1 202 (by decide)]; exact hh
    have ml := t_manyLet (w := w) (h := h) (J := J') (kn := clk) hP a1 hg hF.2.1 hrd hwh.2 (by omega) g2
    have mb : ∀ c, c < 64 → pvMet mX12_manyBurn 1 0 0 [.ref 202, .int (nI c), .int (nI mn), .int (nI clk)] 224 I1 J' P' (pvpu (.int (nI (nBurn w h (I 203) c mn clk))) 224 I1 J' P') := fun c hc => t_manyBurn (w := w) (h := h) (J := J') (c := c) (m := mn) (kn := clk) hP a1 hg hF.2.1 hrd hwh.2 hc (by omega) (by omega) g2
    rw [← show nLet w h (I 203) clk = sp_ct (fun s => letB w h (I 203) s clk = true) (cnt (I 203) 3) from rfl] at ml
    have hle : ∀ c, nBurn w h (I 203) c mn clk ≤ nLet w h (I 203) clk := fun c => nBurn_le
    generalize hall : nLet w h (I 203) clk = all at *
    generalize hfB : (fun c => nBurn w h (I 203) c mn clk) = fB at *
    have hfc : ∀ c, nBurn w h (I 203) c mn clk = fB c := fun c => by rw [← hfB]
    have lp : ∀ q i, i + q = w * h → pvG mX12_parts (pvR 5 0 0) (pvZ (mQ2 I J' P' (stv (ptB fB all (w * h)).1)) 0 0) 32 [.ref 202, .int (nI mn), .int (nI all), .int (stv (ptB fB all i).1), .int (nI (ptB fB all i).2), .int (nI i), .retAddr 0, .retAddr 0] [] 0 0 224 I1 J' P' := by
      intro q
      induction q with
      | zero =>
        intro i hi
        obtain rfl : i = w * h := by omega
        refine g_iload dX12_parts_32 rfl ?_
        refine g_aload_n dX12_parts_34 rfl ?_
        refine n_getI dX12_parts_35 fdX12_86 rfl (by first | rfl | exact pv_shx) (by omega) (by omega) (by decide) rfl (by repeat (first | exact hw1 | exact hh1 | (apply rd_s; done) | apply rd_n (by omega) | apply rp_s | apply rp_n (by omega) | (apply rdL_s; done) | apply rdL_n (by omega) | apply rpJ_s | apply rpJ_n (by omega) | rfl)) ?_
        refine g_aload_n dX12_parts_38 rfl ?_
        refine n_getI dX12_parts_39 fdX12_89 rfl (by first | rfl | exact pv_shx) (by omega) (by omega) (by decide) rfl (by repeat (first | exact hw1 | exact hh1 | (apply rd_s; done) | apply rd_n (by omega) | apply rp_s | apply rp_n (by omega) | (apply rdL_s; done) | apply rdL_n (by omega) | apply rpJ_s | apply rpJ_n (by omega) | rfl)) ?_
        refine n_imul dX12_parts_42 (by first | (with_reducible exact pk_mul _ _) | rfl) ?_
        refine n_icmp_ge 104 dX12_parts_43 (by decide) (by first | ((with_reducible apply cN_le) <;> omega) | ((with_reducible apply cI_len) <;> omega) | ((with_reducible apply cI_nle) <;> omega) | (with_reducible exact cI_le)) (fun c43 => ?_) (fun c43 => by exfalso; first | omega | exact absurd trivial c43 | exact c43)
        refine g_iload_n dX12_parts_104 rfl ?_
        exact g_iret dX12_parts_105 rfl (⟨rfl, rfl, rfl, g1, rfl⟩)
      | succ q ih =>
        intro i hi
        have b1 := hle i
        rw [hfc i] at b1
        have mbi := mb i (by omega)
        rw [hfc i] at mbi
        have hpl := (ptB_le (f := fB) (all := all) i).1
        have h4 := ih (i + 1) (by omega)
        have es : ptB fB all (i + 1) = if min (fB i) (all - fB i) ≤ (ptB fB all i).2 then ptB fB all i else (some i, min (fB i) (all - fB i)) := rfl
        by_cases c1 : min (fB i) (all - fB i) ≤ (ptB fB all i).2
        · rw [es, if_pos c1] at h4
          refine g_iload dX12_parts_32 rfl ?_
          refine g_aload_n dX12_parts_34 rfl ?_
          refine n_getI dX12_parts_35 fdX12_86 rfl (by first | rfl | exact pv_shx) (by omega) (by omega) (by decide) rfl (by repeat (first | exact hw1 | exact hh1 | exact clk1 | (apply rd_s; done) | apply rd_n (by omega) | apply rp_s | apply rp_n (by omega) | (apply rdL_s; done) | apply rdL_n (by omega) | apply rpJ_s | apply rpJ_n (by omega) | rfl)) ?_
          refine g_aload_n dX12_parts_38 rfl ?_
          refine n_getI dX12_parts_39 fdX12_89 rfl (by first | rfl | exact pv_shx) (by omega) (by omega) (by decide) rfl (by repeat (first | exact hw1 | exact hh1 | exact clk1 | (apply rd_s; done) | apply rd_n (by omega) | apply rp_s | apply rp_n (by omega) | (apply rdL_s; done) | apply rdL_n (by omega) | apply rpJ_s | apply rpJ_n (by omega) | rfl)) ?_
          refine n_imul dX12_parts_42 (by first | (with_reducible exact pk_mul _ _) | rfl) ?_
          refine n_icmp_ge 104 dX12_parts_43 (by decide) (by first | ((with_reducible apply cN_le) <;> omega) | ((with_reducible apply cI_len) <;> omega) | ((with_reducible apply cI_nle) <;> omega) | (with_reducible exact cI_le)) (fun c43 => by exfalso; first | omega | exact absurd trivial c43 | exact c43) (fun c43 => ?_)
          refine g_aload_n dX12_parts_46 rfl ?_
          refine g_iload dX12_parts_47 rfl ?_
          refine g_iload_n dX12_parts_49 rfl ?_
          refine g_aload_n dX12_parts_50 rfl ?_
          refine g_getP dX12_parts_51 fdX12_7 rfl (by first | rfl | exact pv_shx) (by omega) (by omega) (by decide) rfl (hP _ _ _ rfl) ?_
          refine g_iconst (v := nI 0) dX12_parts_54 (by decide) ?_
          refine n_iald dX12_parts_55 (by first | rfl | exact pv_shx) (by omega) (by omega) (by decide) (rfl) (by omega) (by repeat (first | exact hw1 | exact hh1 | exact clk1 | (apply rd_s; done) | apply rd_n (by omega) | apply rp_s | apply rp_n (by omega) | (apply rdL_s; done) | apply rdL_n (by omega) | apply rpJ_s | apply rpJ_n (by omega) | rfl)) ?_
          refine p_callV (mbi) okX12_manyBurn lkX12_155 rfl (by first | rfl | exact pv_shx) rfl (by omega) (by omega) dX12_parts_56 rfl (Nat.le_of_ble_eq_true rfl) (⟨by decide, by decide, by decide, by decide⟩) ?_
          refine g_istore dX12_parts_59 (by decide) rfl ?_
          refine g_iload dX12_parts_61 rfl ?_
          refine g_iload_n dX12_parts_63 rfl ?_
          refine g_iload dX12_parts_64 rfl ?_
          refine n_isub dX12_parts_66 (by first | ((with_reducible apply pk_sub) <;> omega) | rfl) ?_
          refine n_icmp_ge 75 dX12_parts_67 (by decide) (by first | ((with_reducible apply cN_le) <;> omega) | ((with_reducible apply cI_len) <;> omega) | ((with_reducible apply cI_nle) <;> omega) | (with_reducible exact cI_le)) (fun c67 => ?_) (fun c67 => ?_)
          · skip
            refine g_iload_n dX12_parts_75 rfl ?_
            refine g_iload dX12_parts_76 rfl ?_
            refine n_isub dX12_parts_78 (by first | ((with_reducible apply pk_sub) <;> omega) | rfl) ?_
            refine g_istore dX12_parts_79 (by decide) rfl ?_
            refine g_iload dX12_parts_81 rfl ?_
            refine g_iload dX12_parts_83 rfl ?_
            refine n_icmp_gt 91 dX12_parts_85 (by decide) (by first | ((with_reducible apply cN_lt) <;> omega) | ((with_reducible apply cI_ltn) <;> omega) | ((with_reducible apply cI_nlt) <;> omega) | (with_reducible exact cI_lt)) (fun c85 => by exfalso; first | omega | exact absurd trivial c85 | exact c85) (fun c85 => ?_)
            refine g_goto 98 dX12_parts_88 (by decide) ?_
            refine g_iinc dX12_parts_98 rfl (by first | (with_reducible exact nI_1 _) | exact nI_1 _ | exact pk_m1 _ | rfl) (by decide) rfl ?_
            refine g_goto 32 dX12_parts_101 (by decide) ?_
            refine g_drop [.ref 202, .int (nI mn), .int (nI all), .int (stv (ptB fB all i).1), .int (nI (ptB fB all i).2), .int (nI (i + 1)), .retAddr 0, .retAddr 0] (by repeat (first | exact trivial | refine ⟨Or.inr ⟨_, rfl⟩, ?_⟩ | refine ⟨Or.inl rfl, ?_⟩)) ?_
            exact h4
          · skip
            refine g_iload dX12_parts_70 rfl ?_
            refine g_goto 79 dX12_parts_72 (by decide) ?_
            refine g_istore dX12_parts_79 (by decide) rfl ?_
            refine g_iload dX12_parts_81 rfl ?_
            refine g_iload dX12_parts_83 rfl ?_
            refine n_icmp_gt 91 dX12_parts_85 (by decide) (by first | ((with_reducible apply cN_lt) <;> omega) | ((with_reducible apply cI_ltn) <;> omega) | ((with_reducible apply cI_nlt) <;> omega) | (with_reducible exact cI_lt)) (fun c85 => by exfalso; first | omega | exact absurd trivial c85 | exact c85) (fun c85 => ?_)
            refine g_goto 98 dX12_parts_88 (by decide) ?_
            refine g_iinc dX12_parts_98 rfl (by first | (with_reducible exact nI_1 _) | exact nI_1 _ | exact pk_m1 _ | rfl) (by decide) rfl ?_
            refine g_goto 32 dX12_parts_101 (by decide) ?_
            refine g_drop [.ref 202, .int (nI mn), .int (nI all), .int (stv (ptB fB all i).1), .int (nI (ptB fB all i).2), .int (nI (i + 1)), .retAddr 0, .retAddr 0] (by repeat (first | exact trivial | refine ⟨Or.inr ⟨_, rfl⟩, ?_⟩ | refine ⟨Or.inl rfl, ?_⟩)) ?_
            exact h4
        · rw [es, if_neg c1] at h4
          have h4 : ∀ mm, mm = min (fB i) (all - fB i) → pvG mX12_parts (pvR 5 0 0) (pvZ (mQ2 I J' P' (stv (ptB fB all (w * h)).1)) 0 0) 32 [.ref 202, .int (nI mn), .int (nI all), .int (nI i), .int (nI mm), .int (nI (i + 1)), .retAddr 0, .retAddr 0] [] 0 0 224 I1 J' P' := fun mm e => by subst e; exact h4
          refine g_iload dX12_parts_32 rfl ?_
          refine g_aload_n dX12_parts_34 rfl ?_
          refine n_getI dX12_parts_35 fdX12_86 rfl (by first | rfl | exact pv_shx) (by omega) (by omega) (by decide) rfl (by repeat (first | exact hw1 | exact hh1 | exact clk1 | (apply rd_s; done) | apply rd_n (by omega) | apply rp_s | apply rp_n (by omega) | (apply rdL_s; done) | apply rdL_n (by omega) | apply rpJ_s | apply rpJ_n (by omega) | rfl)) ?_
          refine g_aload_n dX12_parts_38 rfl ?_
          refine n_getI dX12_parts_39 fdX12_89 rfl (by first | rfl | exact pv_shx) (by omega) (by omega) (by decide) rfl (by repeat (first | exact hw1 | exact hh1 | exact clk1 | (apply rd_s; done) | apply rd_n (by omega) | apply rp_s | apply rp_n (by omega) | (apply rdL_s; done) | apply rdL_n (by omega) | apply rpJ_s | apply rpJ_n (by omega) | rfl)) ?_
          refine n_imul dX12_parts_42 (by first | (with_reducible exact pk_mul _ _) | rfl) ?_
          refine n_icmp_ge 104 dX12_parts_43 (by decide) (by first | ((with_reducible apply cN_le) <;> omega) | ((with_reducible apply cI_len) <;> omega) | ((with_reducible apply cI_nle) <;> omega) | (with_reducible exact cI_le)) (fun c43 => by exfalso; first | omega | exact absurd trivial c43 | exact c43) (fun c43 => ?_)
          refine g_aload_n dX12_parts_46 rfl ?_
          refine g_iload dX12_parts_47 rfl ?_
          refine g_iload_n dX12_parts_49 rfl ?_
          refine g_aload_n dX12_parts_50 rfl ?_
          refine g_getP dX12_parts_51 fdX12_7 rfl (by first | rfl | exact pv_shx) (by omega) (by omega) (by decide) rfl (hP _ _ _ rfl) ?_
          refine g_iconst (v := nI 0) dX12_parts_54 (by decide) ?_
          refine n_iald dX12_parts_55 (by first | rfl | exact pv_shx) (by omega) (by omega) (by decide) (rfl) (by omega) (by repeat (first | exact hw1 | exact hh1 | exact clk1 | (apply rd_s; done) | apply rd_n (by omega) | apply rp_s | apply rp_n (by omega) | (apply rdL_s; done) | apply rdL_n (by omega) | apply rpJ_s | apply rpJ_n (by omega) | rfl)) ?_
          refine p_callV (mbi) okX12_manyBurn lkX12_155 rfl (by first | rfl | exact pv_shx) rfl (by omega) (by omega) dX12_parts_56 rfl (Nat.le_of_ble_eq_true rfl) (⟨by decide, by decide, by decide, by decide⟩) ?_
          refine g_istore dX12_parts_59 (by decide) rfl ?_
          refine g_iload dX12_parts_61 rfl ?_
          refine g_iload_n dX12_parts_63 rfl ?_
          refine g_iload dX12_parts_64 rfl ?_
          refine n_isub dX12_parts_66 (by first | ((with_reducible apply pk_sub) <;> omega) | rfl) ?_
          refine n_icmp_ge 75 dX12_parts_67 (by decide) (by first | ((with_reducible apply cN_le) <;> omega) | ((with_reducible apply cI_len) <;> omega) | ((with_reducible apply cI_nle) <;> omega) | (with_reducible exact cI_le)) (fun c67 => ?_) (fun c67 => ?_)
          · skip
            refine g_iload_n dX12_parts_75 rfl ?_
            refine g_iload dX12_parts_76 rfl ?_
            refine n_isub dX12_parts_78 (by first | ((with_reducible apply pk_sub) <;> omega) | rfl) ?_
            refine g_istore dX12_parts_79 (by decide) rfl ?_
            refine g_iload dX12_parts_81 rfl ?_
            refine g_iload dX12_parts_83 rfl ?_
            refine n_icmp_gt 91 dX12_parts_85 (by decide) (by first | ((with_reducible apply cN_lt) <;> omega) | ((with_reducible apply cI_ltn) <;> omega) | ((with_reducible apply cI_nlt) <;> omega) | (with_reducible exact cI_lt)) (fun c85 => ?_) (fun c85 => by exfalso; first | omega | exact absurd trivial c85 | exact c85)
            refine g_iload dX12_parts_91 rfl ?_
            refine g_istore_n dX12_parts_93 (by decide) rfl ?_
            refine g_iload dX12_parts_94 rfl ?_
            refine g_istore dX12_parts_96 (by decide) rfl ?_
            refine g_iinc dX12_parts_98 rfl (by first | (with_reducible exact nI_1 _) | exact nI_1 _ | exact pk_m1 _ | rfl) (by decide) rfl ?_
            refine g_goto 32 dX12_parts_101 (by decide) ?_
            refine g_drop [.ref 202, .int (nI mn), .int (nI all), .int (nI i), .int (nI _), .int (nI (i + 1)), .retAddr 0, .retAddr 0] (by repeat (first | exact trivial | refine ⟨Or.inr ⟨_, rfl⟩, ?_⟩ | refine ⟨Or.inl rfl, ?_⟩)) ?_
            exact h4 _ (by omega)
          · skip
            refine g_iload dX12_parts_70 rfl ?_
            refine g_goto 79 dX12_parts_72 (by decide) ?_
            refine g_istore dX12_parts_79 (by decide) rfl ?_
            refine g_iload dX12_parts_81 rfl ?_
            refine g_iload dX12_parts_83 rfl ?_
            refine n_icmp_gt 91 dX12_parts_85 (by decide) (by first | ((with_reducible apply cN_lt) <;> omega) | ((with_reducible apply cI_ltn) <;> omega) | ((with_reducible apply cI_nlt) <;> omega) | (with_reducible exact cI_lt)) (fun c85 => ?_) (fun c85 => by exfalso; first | omega | exact absurd trivial c85 | exact c85)
            refine g_iload dX12_parts_91 rfl ?_
            refine g_istore_n dX12_parts_93 (by decide) rfl ?_
            refine g_iload dX12_parts_94 rfl ?_
            refine g_istore dX12_parts_96 (by decide) rfl ?_
            refine g_iinc dX12_parts_98 rfl (by first | (with_reducible exact nI_1 _) | exact nI_1 _ | exact pk_m1 _ | rfl) (by decide) rfl ?_
            refine g_goto 32 dX12_parts_101 (by decide) ?_
            refine g_drop [.ref 202, .int (nI mn), .int (nI all), .int (nI i), .int (nI _), .int (nI (i + 1)), .retAddr 0, .retAddr 0] (by repeat (first | exact trivial | refine ⟨Or.inr ⟨_, rfl⟩, ?_⟩ | refine ⟨Or.inl rfl, ?_⟩)) ?_
            exact h4 _ (by omega)
    refine g_aload_n dX12_parts_13 rfl ?_
    refine g_aload_n dX12_parts_14 rfl ?_
    refine g_getP dX12_parts_15 fdX12_7 rfl (by first | rfl | exact pv_shx) (by omega) (by omega) (by decide) rfl (hP _ _ _ rfl) ?_
    refine g_iconst (v := nI 0) dX12_parts_18 (by decide) ?_
    refine n_iald dX12_parts_19 (by first | rfl | exact pv_shx) (by omega) (by omega) (by decide) (rfl) (by omega) (by repeat (first | exact clk1 | (apply rd_s; done) | apply rd_n (by omega) | apply rp_s | apply rp_n (by omega) | (apply rdL_s; done) | apply rdL_n (by omega) | apply rpJ_s | apply rpJ_n (by omega) | rfl)) ?_
    refine p_callV (ml) okX12_manyLet lkX12_152 rfl (by first | rfl | exact pv_shx) rfl (by omega) (by omega) dX12_parts_20 rfl (Nat.le_of_ble_eq_true rfl) (⟨by decide, by decide, by decide, by decide⟩) ?_
    refine g_istore_n dX12_parts_23 (by decide) rfl ?_
    refine g_iconst (v := (-1)) dX12_parts_24 (by decide) ?_
    refine g_istore_n dX12_parts_25 (by decide) rfl ?_
    refine g_iconst (v := nI 0) dX12_parts_26 (by decide) ?_
    refine g_istore dX12_parts_27 (by decide) rfl ?_
    refine g_iconst (v := nI 0) dX12_parts_29 (by decide) ?_
    refine g_istore dX12_parts_30 (by decide) rfl ?_
    have p0 := lp (w * h) 0 (by omega)
    refine g_drop [.ref 202, .int (nI mn), .int (nI all), .int (stv (ptB fB all 0).1), .int (nI (ptB fB all 0).2), .int (nI 0), .retAddr 0, .retAddr 0] (by repeat (first | exact trivial | refine ⟨Or.inr ⟨_, rfl⟩, ?_⟩ | refine ⟨Or.inl rfl, ?_⟩)) ?_
    exact p0
  · skip
    refine g_iconst (v := (-1)) dX12_parts_7 (by decide) ?_
    exact g_iret dX12_parts_8 rfl (⟨rfl, rfl, by rw [sp_parts, if_neg (by omega)], mfix.rf, rfl⟩)

/-- late trenches as bits -/
theorem ltm_lt {w h : Nat} {a : Nat → Int32} {m L : Nat} {nw : Nat → Nat} (hL : L < 1024) : ∀ {t : Nat}, t ≤ 10 → ltm w h a m nw L t < 1024
  | 0, _ => hL
  | t + 1, ht => by
    have ih := ltm_lt (w := w) (h := h) (a := a) (m := m) (nw := nw) hL (t := t) (by omega)
    show ltm w h a m nw L t ||| (if _ then 2 ^ t else 0) < 2 ^ 10
    apply Nat.or_lt_two_pow
    · exact ih
    · split
      · exact Nat.pow_lt_pow_right (by decide) (by omega)
      · decide
theorem flate_lt {w h : Nat} {a : Nat → Int32} {wl s : Nat} {wo : Option Nat} (h2 : cnt a 2 ≤ 10) : ∀ m, flate w h a wl wo s m < 1024
  | 0 => by show 0 < 1024; omega
  | m + 1 => ltm_lt (flate_lt h2 m) h2
def lateN (w h : Nat) (a : Nat → Int32) (s t : Nat) : Nat := flate w h a 0 none s 100 / 2 ^ t % 2
def nGood (w h : Nat) (a : Nat → Int32) (t : Nat) : Nat := sp_ct (fun s => letB w h a s (cnt a 0) = true ∧ lateN w h a s t = 0) (cnt a 3)
def sp_inTime (w h : Nat) (a : Nat → Int32) (t s : Int32) : Int32 := if (0 ≤ t.toInt ∧ t.toInt < cnt a 2) ∧ (s.toInt = -1 ∨ (0 ≤ s.toInt ∧ s.toInt < cnt a 3)) then (if s.toInt = -1 then allSome (nGood w h a t.toNatClampNeg) (nLet w h a (cnt a 0)) else if lateN w h a s.toNatClampNeg t.toNatClampNeg = 1 then nI 0 else nI 1) else -1
theorem t_inTime {w h : Nat} {I : pvI} {J : pvJ} {P : pvP} (hP : pvOkP P) (hD : mDim w h I) (hF : mF w h (I 203)) (hrd : mRead (w * h) (I 203)) {t s : Int32} : pvMet mX12_inTime 5 0 0 [.ref 202, .int t, .int s] 224 I J P (mQ2 I J P (sp_inTime w h (I 203) t s)) := by
  have hg := hF.1
  have hwh : w * h ≤ 64 := Nat.mul_le_mul hD.2.2.1.2 hD.2.2.2.2
  have hra := t_runAll (J := J) hP hD hF
  obtain ⟨ns, ns_b, ns_h⟩ := hg 3 (by decide)
  replace ns_b : ns ≤ 8 := ns_b
  have ns_e : cnt (I 203) 3 = ns := cnt_of ns_h (by omega)
  obtain ⟨clk, clk_b, clk_h⟩ := hg 0 (by decide)
  replace clk_b : clk ≤ 100 := clk_b
  have clk_e : cnt (I 203) 0 = clk := cnt_of clk_h (by omega)
  obtain ⟨nt, nt_b, nt_h⟩ := hg 2 (by decide)
  replace nt_b : nt ≤ 10 := nt_b
  have nt_e : cnt (I 203) 2 = nt := cnt_of nt_h (by omega)
  have k31 : (0 ≤ t.toInt ∧ t.toInt < nt) → (s.toInt = -1 ∨ (0 ≤ s.toInt ∧ s.toInt < ns)) → pvG mX12_inTime (pvR 5 0 0) (pvZ (mQ2 I J P (sp_inTime w h (I 203) t s)) 0 0) 31 [.ref 202, .int t, .int s, .retAddr 0, .retAddr 0, .retAddr 0] [] 0 0 224 I J P := by
    intro ht hs
    obtain ⟨tn, htn, rfl⟩ := cI_of (x := t) (n := nt) (by omega) (by omega) (by omega)
    have et : (nI tn).toNatClampNeg = tn := nI_clamp (by omega)
    by_cases hs1 : s.toInt = -1
    · skip
      refine g_aload_n dX12_inTime_31 rfl ?_
      refine g_callV (hra) okX12_runAll lkX12_149 rfl (by first | rfl | exact pv_shx) rfl (by omega) (by omega) dX12_inTime_32 rfl (Nat.le_of_ble_eq_true rfl) (⟨by decide, by decide, by decide, by decide⟩) ?_
      rintro v nx' I1 J' P' ⟨rfl, rfl, rfl, rfl, g1, g2⟩
      have a1 := (tb_move (w := w) (h := h) g1).1
      have clk1 : I1 203 0 = nI clk := by rw [a1]; exact clk_h
      have ns1 : I1 203 3 = nI ns := by rw [a1]; exact ns_h
      have ml := t_manyLet (w := w) (h := h) (J := J') (kn := clk) hP a1 hg hF.2.1 hrd hwh (by omega) g2
      rw [← show nLet w h (I 203) clk = sp_ct (fun s => letB w h (I 203) s clk = true) (cnt (I 203) 3) from rfl] at ml
      have hlt : ∀ x, flate w h (I 203) 0 none x 100 < 1024 := fun x => flate_lt (by omega) 100
      have hdv : ∀ x, flate w h (I 203) 0 none x 100 / 2 ^ tn ≤ flate w h (I 203) 0 none x 100 := fun x => Nat.div_le_self _ _
      have il : ∀ x, x < ns → pvMet mX12_isLet 0 0 0 [.ref 202, .int (nI x), .int (nI clk)] 224 I1 J' P' (pvpu (.int (if letB w h (I 203) x clk = true then 1 else 0)) 224 I1 J' P') := fun x hx => t_isLet (w := w) (h := h) (J := J') (s := x) hP a1 hg hF.2.1 hrd hwh (by omega) (by omega) g2
      refine g_iload_n dX12_inTime_35 rfl ?_
      refine g_iconst (v := (-1)) dX12_inTime_36 (by decide) ?_
      refine n_icmp_eq 60 dX12_inTime_37 (by decide) (cI_m1) (fun c37 => ?_) (fun c37 => by exfalso; first | omega | exact absurd trivial c37 | exact c37)
      have ub := nLet_le (w := w) (h := h) (a := I 203) (kn := clk)
      have gb : nGood w h (I 203) tn ≤ nLet w h (I 203) clk := by unfold nGood; rw [clk_e]; exact sp_ct_sub (fun k hk => hk.1) _
      have lp : ∀ q i, i + q = ns → pvG mX12_inTime (pvR 5 0 0) (pvZ (mQ2 I J' P' (sp_inTime w h (I 203) (nI tn) s)) 0 0) 77 [.ref 202, .int (nI tn), .int s, .int (nI (nLet w h (I 203) clk)), .int (nI (sp_ct (fun x => letB w h (I 203) x clk = true ∧ lateN w h (I 203) x tn = 0) i)), .int (nI i)] [] 0 0 224 I1 J' P' := by
        intro q
        induction q with
        | zero =>
          intro i hi
          obtain rfl : i = ns := by omega
          have hans : sp_inTime w h (I 203) (nI tn) s = allSome (nGood w h (I 203) tn) (nLet w h (I 203) clk) := by rw [sp_inTime, if_pos (by omega), if_pos (by omega), et, clk_e]
          rw [hans]
          have hgd : sp_ct (fun x => letB w h (I 203) x clk = true ∧ lateN w h (I 203) x tn = 0) i = nGood w h (I 203) tn := by unfold nGood; rw [clk_e, ns_e]
          rw [hgd]
          refine g_iload dX12_inTime_77 rfl ?_
          refine g_aload_n dX12_inTime_79 rfl ?_
          refine g_getP dX12_inTime_80 fdX12_7 rfl (by first | rfl | exact pv_shx) (by omega) (by omega) (by decide) rfl (hP _ _ _ rfl) ?_
          refine g_iconst (v := nI 3) dX12_inTime_83 (by decide) ?_
          refine n_iald dX12_inTime_84 (by first | rfl | exact pv_shx) (by omega) (by omega) (by decide) (rfl) (by omega) (by repeat (first | exact ns1 | (apply rd_s; done) | apply rd_n (by omega) | apply rp_s | apply rp_n (by omega) | (apply rdL_s; done) | apply rdL_n (by omega) | apply rpJ_s | apply rpJ_n (by omega) | rfl)) ?_
          refine n_icmp_ge 133 dX12_inTime_85 (by decide) (by first | ((with_reducible apply cN_le) <;> omega) | ((with_reducible apply cI_len) <;> omega) | ((with_reducible apply cI_nle) <;> omega) | (with_reducible exact cI_le)) (fun c85 => ?_) (fun c85 => by exfalso; first | omega | exact absurd trivial c85 | exact c85)
          refine g_iload_n dX12_inTime_133 rfl ?_
          refine n_if_ne 141 dX12_inTime_134 (by decide) (by first | (with_reducible exact cB _) | ((with_reducible apply cN_eq0) <;> omega) | exact Iff.rfl) (fun c134 => ?_) (fun c134 => ?_)
          · skip
            refine g_iload dX12_inTime_141 rfl ?_
            refine g_iload_n dX12_inTime_143 rfl ?_
            refine n_icmp_ne 151 dX12_inTime_144 (by decide) (by first | ((with_reducible apply cN_eq) <;> omega) | ((with_reducible apply cI_eqn) <;> omega) | exact Iff.rfl) (fun c144 => ?_) (fun c144 => ?_)
            · skip
              refine g_iload dX12_inTime_151 rfl ?_
              refine n_if_le 160 dX12_inTime_153 (by decide) (by first | ((with_reducible apply cN_le0) <;> omega) | (with_reducible exact cI_le0)) (fun c153 => ?_) (fun c153 => ?_)
              · skip
                refine g_iconst (v := nI 0) dX12_inTime_160 (by decide) ?_
                exact g_iret dX12_inTime_161 rfl (⟨rfl, rfl, by rw [allSome]; first | rw [if_pos (by omega)] | rw [if_neg (by omega), if_pos (by omega)] | rw [if_neg (by omega), if_neg (by omega), if_pos (by omega)] | rw [if_neg (by omega), if_neg (by omega), if_neg (by omega)], g1, rfl⟩)
              · skip
                refine g_iconst (v := nI 1) dX12_inTime_156 (by decide) ?_
                refine g_goto 161 dX12_inTime_157 (by decide) ?_
                exact g_iret dX12_inTime_161 rfl (⟨rfl, rfl, by rw [allSome]; first | rw [if_pos (by omega)] | rw [if_neg (by omega), if_pos (by omega)] | rw [if_neg (by omega), if_neg (by omega), if_pos (by omega)] | rw [if_neg (by omega), if_neg (by omega), if_neg (by omega)], g1, rfl⟩)
            · skip
              refine g_iconst (v := nI 2) dX12_inTime_147 (by decide) ?_
              refine g_goto 161 dX12_inTime_148 (by decide) ?_
              exact g_iret dX12_inTime_161 rfl (⟨rfl, rfl, by rw [allSome]; first | rw [if_pos (by omega)] | rw [if_neg (by omega), if_pos (by omega)] | rw [if_neg (by omega), if_neg (by omega), if_pos (by omega)] | rw [if_neg (by omega), if_neg (by omega), if_neg (by omega)], g1, rfl⟩)
          · skip
            refine g_iconst (v := (-1)) dX12_inTime_137 (by decide) ?_
            refine g_goto 161 dX12_inTime_138 (by decide) ?_
            exact g_iret dX12_inTime_161 rfl (⟨rfl, rfl, by rw [allSome]; first | rw [if_pos (by omega)] | rw [if_neg (by omega), if_pos (by omega)] | rw [if_neg (by omega), if_neg (by omega), if_pos (by omega)] | rw [if_neg (by omega), if_neg (by omega), if_neg (by omega)], g1, rfl⟩)
        | succ q ih =>
          intro i hi
          have h4 := ih (i + 1) (by omega)
          have hle := sp_ct_le (p := fun x => letB w h (I 203) x clk = true ∧ lateN w h (I 203) x tn = 0) i
          rw [show sp_ct (fun x => letB w h (I 203) x clk = true ∧ lateN w h (I 203) x tn = 0) (i + 1) = sp_ct (fun x => letB w h (I 203) x clk = true ∧ lateN w h (I 203) x tn = 0) i + if letB w h (I 203) i clk = true ∧ lateN w h (I 203) i tn = 0 then 1 else 0 from rfl] at h4
          have ili := il i (by omega)
          have q1 := g2.2 i (by omega)
          have q2 := hlt i
          have q3 := hdv i
          have hl : lateN w h (I 203) i tn = flate w h (I 203) 0 none i 100 / 2 ^ tn % 2 := rfl
          by_cases c1 : letB w h (I 203) i clk = true
          · by_cases c2 : lateN w h (I 203) i tn = 0
            · rw [if_pos ⟨c1, c2⟩] at h4
              refine g_iload dX12_inTime_77 rfl ?_
              refine g_aload_n dX12_inTime_79 rfl ?_
              refine g_getP dX12_inTime_80 fdX12_7 rfl (by first | rfl | exact pv_shx) (by omega) (by omega) (by decide) rfl (hP _ _ _ rfl) ?_
              refine g_iconst (v := nI 3) dX12_inTime_83 (by decide) ?_
              refine n_iald dX12_inTime_84 (by first | rfl | exact pv_shx) (by omega) (by omega) (by decide) (rfl) (by omega) (by repeat (first | exact ns1 | exact clk1 | exact q1 | (apply rd_s; done) | apply rd_n (by omega) | apply rp_s | apply rp_n (by omega) | (apply rdL_s; done) | apply rdL_n (by omega) | apply rpJ_s | apply rpJ_n (by omega) | rfl)) ?_
              refine n_icmp_ge 133 dX12_inTime_85 (by decide) (by first | ((with_reducible apply cN_le) <;> omega) | ((with_reducible apply cI_len) <;> omega) | ((with_reducible apply cI_nle) <;> omega) | (with_reducible exact cI_le)) (fun c85 => by exfalso; first | omega | exact absurd trivial c85 | exact c85) (fun c85 => ?_)
              refine g_iload dX12_inTime_88 rfl ?_
              refine g_aload_n dX12_inTime_90 rfl ?_
              refine g_iload dX12_inTime_91 rfl ?_
              refine g_aload_n dX12_inTime_93 rfl ?_
              refine g_getP dX12_inTime_94 fdX12_7 rfl (by first | rfl | exact pv_shx) (by omega) (by omega) (by decide) rfl (hP _ _ _ rfl) ?_
              refine g_iconst (v := nI 0) dX12_inTime_97 (by decide) ?_
              refine n_iald dX12_inTime_98 (by first | rfl | exact pv_shx) (by omega) (by omega) (by decide) (rfl) (by omega) (by repeat (first | exact ns1 | exact clk1 | exact q1 | (apply rd_s; done) | apply rd_n (by omega) | apply rp_s | apply rp_n (by omega) | (apply rdL_s; done) | apply rdL_n (by omega) | apply rpJ_s | apply rpJ_n (by omega) | rfl)) ?_
              refine p_callV (ili) okX12_isLet lkX12_145 rfl (by first | rfl | exact pv_shx) rfl (by omega) (by omega) dX12_inTime_99 rfl (Nat.le_of_ble_eq_true rfl) (⟨by decide, by decide, by decide, by decide⟩) ?_
              refine n_if_eq 123 dX12_inTime_102 (by decide) (by first | (with_reducible exact cB _) | ((with_reducible apply cN_eq0) <;> omega) | exact Iff.rfl) (fun c102 => by exfalso; exact c102 c1) (fun c102 => ?_)
              refine g_aload_n dX12_inTime_105 rfl ?_
              refine g_getP dX12_inTime_106 fdX12_51 rfl (by first | rfl | exact pv_shx) (by omega) (by omega) (by decide) rfl (hP _ _ _ rfl) ?_
              refine g_iload dX12_inTime_109 rfl ?_
              refine n_iald dX12_inTime_111 (by first | rfl | exact pv_shx) (by omega) (by omega) (by decide) (rfl) (by omega) (by repeat (first | exact ns1 | exact clk1 | exact q1 | (apply rd_s; done) | apply rd_n (by omega) | apply rp_s | apply rp_n (by omega) | (apply rdL_s; done) | apply rdL_n (by omega) | apply rpJ_s | apply rpJ_n (by omega) | rfl)) ?_
              refine g_iload_n dX12_inTime_112 rfl ?_
              refine n_ishr dX12_inTime_113 (nI_shr (by omega) (by omega)) ?_
              refine g_iconst (v := nI 1) dX12_inTime_114 (by decide) ?_
              refine n_iand dX12_inTime_115 (nI_and1 (by omega)) ?_
              refine n_if_ne 123 dX12_inTime_116 (by decide) (by first | (with_reducible exact cB _) | ((with_reducible apply cN_eq0) <;> omega) | exact Iff.rfl) (fun c116 => by exfalso; first | omega | exact absurd trivial c116 | exact c116) (fun c116 => ?_)
              refine g_iconst (v := nI 1) dX12_inTime_119 (by decide) ?_
              refine g_goto 124 dX12_inTime_120 (by decide) ?_
              refine n_iadd dX12_inTime_124 (by first | (with_reducible exact nI_add _ _) | rfl) ?_
              refine g_istore dX12_inTime_125 (by decide) rfl ?_
              refine g_iinc dX12_inTime_127 rfl (by first | (with_reducible exact nI_1 _) | exact nI_1 _ | exact pk_m1 _ | rfl) (by decide) rfl ?_
              refine g_goto 77 dX12_inTime_130 (by decide) ?_
              exact h4
            · rw [if_neg (fun z => c2 z.2)] at h4
              refine g_iload dX12_inTime_77 rfl ?_
              refine g_aload_n dX12_inTime_79 rfl ?_
              refine g_getP dX12_inTime_80 fdX12_7 rfl (by first | rfl | exact pv_shx) (by omega) (by omega) (by decide) rfl (hP _ _ _ rfl) ?_
              refine g_iconst (v := nI 3) dX12_inTime_83 (by decide) ?_
              refine n_iald dX12_inTime_84 (by first | rfl | exact pv_shx) (by omega) (by omega) (by decide) (rfl) (by omega) (by repeat (first | exact ns1 | exact clk1 | exact q1 | (apply rd_s; done) | apply rd_n (by omega) | apply rp_s | apply rp_n (by omega) | (apply rdL_s; done) | apply rdL_n (by omega) | apply rpJ_s | apply rpJ_n (by omega) | rfl)) ?_
              refine n_icmp_ge 133 dX12_inTime_85 (by decide) (by first | ((with_reducible apply cN_le) <;> omega) | ((with_reducible apply cI_len) <;> omega) | ((with_reducible apply cI_nle) <;> omega) | (with_reducible exact cI_le)) (fun c85 => by exfalso; first | omega | exact absurd trivial c85 | exact c85) (fun c85 => ?_)
              refine g_iload dX12_inTime_88 rfl ?_
              refine g_aload_n dX12_inTime_90 rfl ?_
              refine g_iload dX12_inTime_91 rfl ?_
              refine g_aload_n dX12_inTime_93 rfl ?_
              refine g_getP dX12_inTime_94 fdX12_7 rfl (by first | rfl | exact pv_shx) (by omega) (by omega) (by decide) rfl (hP _ _ _ rfl) ?_
              refine g_iconst (v := nI 0) dX12_inTime_97 (by decide) ?_
              refine n_iald dX12_inTime_98 (by first | rfl | exact pv_shx) (by omega) (by omega) (by decide) (rfl) (by omega) (by repeat (first | exact ns1 | exact clk1 | exact q1 | (apply rd_s; done) | apply rd_n (by omega) | apply rp_s | apply rp_n (by omega) | (apply rdL_s; done) | apply rdL_n (by omega) | apply rpJ_s | apply rpJ_n (by omega) | rfl)) ?_
              refine p_callV (ili) okX12_isLet lkX12_145 rfl (by first | rfl | exact pv_shx) rfl (by omega) (by omega) dX12_inTime_99 rfl (Nat.le_of_ble_eq_true rfl) (⟨by decide, by decide, by decide, by decide⟩) ?_
              refine n_if_eq 123 dX12_inTime_102 (by decide) (by first | (with_reducible exact cB _) | ((with_reducible apply cN_eq0) <;> omega) | exact Iff.rfl) (fun c102 => by exfalso; exact c102 c1) (fun c102 => ?_)
              refine g_aload_n dX12_inTime_105 rfl ?_
              refine g_getP dX12_inTime_106 fdX12_51 rfl (by first | rfl | exact pv_shx) (by omega) (by omega) (by decide) rfl (hP _ _ _ rfl) ?_
              refine g_iload dX12_inTime_109 rfl ?_
              refine n_iald dX12_inTime_111 (by first | rfl | exact pv_shx) (by omega) (by omega) (by decide) (rfl) (by omega) (by repeat (first | exact ns1 | exact clk1 | exact q1 | (apply rd_s; done) | apply rd_n (by omega) | apply rp_s | apply rp_n (by omega) | (apply rdL_s; done) | apply rdL_n (by omega) | apply rpJ_s | apply rpJ_n (by omega) | rfl)) ?_
              refine g_iload_n dX12_inTime_112 rfl ?_
              refine n_ishr dX12_inTime_113 (nI_shr (by omega) (by omega)) ?_
              refine g_iconst (v := nI 1) dX12_inTime_114 (by decide) ?_
              refine n_iand dX12_inTime_115 (nI_and1 (by omega)) ?_
              refine n_if_ne 123 dX12_inTime_116 (by decide) (by first | (with_reducible exact cB _) | ((with_reducible apply cN_eq0) <;> omega) | exact Iff.rfl) (fun c116 => ?_) (fun c116 => by exfalso; first | omega | exact absurd trivial c116 | exact c116)
              refine g_iconst (v := nI 0) dX12_inTime_123 (by decide) ?_
              refine n_iadd dX12_inTime_124 (by first | (with_reducible exact nI_add _ _) | rfl) ?_
              refine g_istore dX12_inTime_125 (by decide) rfl ?_
              refine g_iinc dX12_inTime_127 rfl (by first | (with_reducible exact nI_1 _) | exact nI_1 _ | exact pk_m1 _ | rfl) (by decide) rfl ?_
              refine g_goto 77 dX12_inTime_130 (by decide) ?_
              exact h4
          · rw [if_neg (fun z => c1 z.1)] at h4
            refine g_iload dX12_inTime_77 rfl ?_
            refine g_aload_n dX12_inTime_79 rfl ?_
            refine g_getP dX12_inTime_80 fdX12_7 rfl (by first | rfl | exact pv_shx) (by omega) (by omega) (by decide) rfl (hP _ _ _ rfl) ?_
            refine g_iconst (v := nI 3) dX12_inTime_83 (by decide) ?_
            refine n_iald dX12_inTime_84 (by first | rfl | exact pv_shx) (by omega) (by omega) (by decide) (rfl) (by omega) (by repeat (first | exact ns1 | exact clk1 | exact q1 | (apply rd_s; done) | apply rd_n (by omega) | apply rp_s | apply rp_n (by omega) | (apply rdL_s; done) | apply rdL_n (by omega) | apply rpJ_s | apply rpJ_n (by omega) | rfl)) ?_
            refine n_icmp_ge 133 dX12_inTime_85 (by decide) (by first | ((with_reducible apply cN_le) <;> omega) | ((with_reducible apply cI_len) <;> omega) | ((with_reducible apply cI_nle) <;> omega) | (with_reducible exact cI_le)) (fun c85 => by exfalso; first | omega | exact absurd trivial c85 | exact c85) (fun c85 => ?_)
            refine g_iload dX12_inTime_88 rfl ?_
            refine g_aload_n dX12_inTime_90 rfl ?_
            refine g_iload dX12_inTime_91 rfl ?_
            refine g_aload_n dX12_inTime_93 rfl ?_
            refine g_getP dX12_inTime_94 fdX12_7 rfl (by first | rfl | exact pv_shx) (by omega) (by omega) (by decide) rfl (hP _ _ _ rfl) ?_
            refine g_iconst (v := nI 0) dX12_inTime_97 (by decide) ?_
            refine n_iald dX12_inTime_98 (by first | rfl | exact pv_shx) (by omega) (by omega) (by decide) (rfl) (by omega) (by repeat (first | exact ns1 | exact clk1 | exact q1 | (apply rd_s; done) | apply rd_n (by omega) | apply rp_s | apply rp_n (by omega) | (apply rdL_s; done) | apply rdL_n (by omega) | apply rpJ_s | apply rpJ_n (by omega) | rfl)) ?_
            refine p_callV (ili) okX12_isLet lkX12_145 rfl (by first | rfl | exact pv_shx) rfl (by omega) (by omega) dX12_inTime_99 rfl (Nat.le_of_ble_eq_true rfl) (⟨by decide, by decide, by decide, by decide⟩) ?_
            refine n_if_eq 123 dX12_inTime_102 (by decide) (by first | (with_reducible exact cB _) | ((with_reducible apply cN_eq0) <;> omega) | exact Iff.rfl) (fun c102 => ?_) (fun c102 => by exfalso; exact c102 c1)
            refine g_iconst (v := nI 0) dX12_inTime_123 (by decide) ?_
            refine n_iadd dX12_inTime_124 (by first | (with_reducible exact nI_add _ _) | rfl) ?_
            refine g_istore dX12_inTime_125 (by decide) rfl ?_
            refine g_iinc dX12_inTime_127 rfl (by first | (with_reducible exact nI_1 _) | exact nI_1 _ | exact pk_m1 _ | rfl) (by decide) rfl ?_
            refine g_goto 77 dX12_inTime_130 (by decide) ?_
            exact h4
      refine g_aload_n dX12_inTime_60 rfl ?_
      refine g_aload_n dX12_inTime_61 rfl ?_
      refine g_getP dX12_inTime_62 fdX12_7 rfl (by first | rfl | exact pv_shx) (by omega) (by omega) (by decide) rfl (hP _ _ _ rfl) ?_
      refine g_iconst (v := nI 0) dX12_inTime_65 (by decide) ?_
      refine n_iald dX12_inTime_66 (by first | rfl | exact pv_shx) (by omega) (by omega) (by decide) (rfl) (by omega) (by repeat (first | exact clk1 | (apply rd_s; done) | apply rd_n (by omega) | apply rp_s | apply rp_n (by omega) | (apply rdL_s; done) | apply rdL_n (by omega) | apply rpJ_s | apply rpJ_n (by omega) | rfl)) ?_
      refine p_callV (ml) okX12_manyLet lkX12_152 rfl (by first | rfl | exact pv_shx) rfl (by omega) (by omega) dX12_inTime_67 rfl (Nat.le_of_ble_eq_true rfl) (⟨by decide, by decide, by decide, by decide⟩) ?_
      refine g_istore_n dX12_inTime_70 (by decide) rfl ?_
      refine g_iconst (v := nI 0) dX12_inTime_71 (by decide) ?_
      refine g_istore dX12_inTime_72 (by decide) rfl ?_
      refine g_iconst (v := nI 0) dX12_inTime_74 (by decide) ?_
      refine g_istore dX12_inTime_75 (by decide) rfl ?_
      exact lp ns 0 (by omega)
    · skip
      refine g_aload_n dX12_inTime_31 rfl ?_
      refine g_callV (hra) okX12_runAll lkX12_149 rfl (by first | rfl | exact pv_shx) rfl (by omega) (by omega) dX12_inTime_32 rfl (Nat.le_of_ble_eq_true rfl) (⟨by decide, by decide, by decide, by decide⟩) ?_
      rintro v nx' I1 J' P' ⟨rfl, rfl, rfl, rfl, g1, g2⟩
      have a1 := (tb_move (w := w) (h := h) g1).1
      have clk1 : I1 203 0 = nI clk := by rw [a1]; exact clk_h
      have ns1 : I1 203 3 = nI ns := by rw [a1]; exact ns_h
      have ml := t_manyLet (w := w) (h := h) (J := J') (kn := clk) hP a1 hg hF.2.1 hrd hwh (by omega) g2
      rw [← show nLet w h (I 203) clk = sp_ct (fun s => letB w h (I 203) s clk = true) (cnt (I 203) 3) from rfl] at ml
      have hlt : ∀ x, flate w h (I 203) 0 none x 100 < 1024 := fun x => flate_lt (by omega) 100
      have hdv : ∀ x, flate w h (I 203) 0 none x 100 / 2 ^ tn ≤ flate w h (I 203) 0 none x 100 := fun x => Nat.div_le_self _ _
      have il : ∀ x, x < ns → pvMet mX12_isLet 0 0 0 [.ref 202, .int (nI x), .int (nI clk)] 224 I1 J' P' (pvpu (.int (if letB w h (I 203) x clk = true then 1 else 0)) 224 I1 J' P') := fun x hx => t_isLet (w := w) (h := h) (J := J') (s := x) hP a1 hg hF.2.1 hrd hwh (by omega) (by omega) g2
      refine g_iload_n dX12_inTime_35 rfl ?_
      refine g_iconst (v := (-1)) dX12_inTime_36 (by decide) ?_
      refine n_icmp_eq 60 dX12_inTime_37 (by decide) (cI_m1) (fun c37 => by exfalso; first | omega | exact absurd trivial c37 | exact c37) (fun c37 => ?_)
      obtain ⟨sn, hsn, rfl⟩ := cI_of (x := s) (n := ns) (by omega) (by omega) (by omega)
      have es : (nI sn).toNatClampNeg = sn := nI_clamp (by omega)
      have q1 := g2.2 sn (by omega)
      have q2 := hlt sn
      have q3 := hdv sn
      have hl : lateN w h (I 203) sn tn = flate w h (I 203) 0 none sn 100 / 2 ^ tn % 2 := rfl
      refine g_aload_n dX12_inTime_40 rfl ?_
      refine g_getP dX12_inTime_41 fdX12_51 rfl (by first | rfl | exact pv_shx) (by omega) (by omega) (by decide) rfl (hP _ _ _ rfl) ?_
      refine g_iload_n dX12_inTime_44 rfl ?_
      refine n_iald dX12_inTime_45 (by first | rfl | exact pv_shx) (by omega) (by omega) (by decide) (rfl) (by omega) (by repeat (first | exact q1 | (apply rd_s; done) | apply rd_n (by omega) | apply rp_s | apply rp_n (by omega) | (apply rdL_s; done) | apply rdL_n (by omega) | apply rpJ_s | apply rpJ_n (by omega) | rfl)) ?_
      refine g_iload_n dX12_inTime_46 rfl ?_
      refine n_ishr dX12_inTime_47 (nI_shr (by omega) (by omega)) ?_
      refine g_iconst (v := nI 1) dX12_inTime_48 (by decide) ?_
      refine n_iand dX12_inTime_49 (nI_and1 (by omega)) ?_
      refine g_iconst (v := nI 1) dX12_inTime_50 (by decide) ?_
      refine n_icmp_ne 58 dX12_inTime_51 (by decide) (by first | ((with_reducible apply cN_eq) <;> omega) | ((with_reducible apply cI_eqn) <;> omega) | exact Iff.rfl) (fun c51 => ?_) (fun c51 => ?_)
      · skip
        refine g_iconst (v := nI 1) dX12_inTime_58 (by decide) ?_
        exact g_iret dX12_inTime_59 rfl (⟨rfl, rfl, by rw [sp_inTime, if_pos (by omega), if_neg (by omega), et, es]; first | rw [if_pos (by omega)] | rw [if_neg (by omega)], g1, rfl⟩)
      · skip
        refine g_iconst (v := nI 0) dX12_inTime_54 (by decide) ?_
        refine g_goto 59 dX12_inTime_55 (by decide) ?_
        exact g_iret dX12_inTime_59 rfl (⟨rfl, rfl, by rw [sp_inTime, if_pos (by omega), if_neg (by omega), et, es]; first | rw [if_pos (by omega)] | rw [if_neg (by omega)], g1, rfl⟩)
  refine pvMet.of _ (by decide) rfl (Nat.le_of_ble_eq_true rfl) ?_
  refine g_iload_n dX12_inTime_0 rfl ?_
  refine g_iconst (v := nI 0) dX12_inTime_1 (by decide) ?_
  refine g_aload_n dX12_inTime_2 rfl ?_
  refine g_getP dX12_inTime_3 fdX12_7 rfl (by first | rfl | exact pv_shx) (by omega) (by omega) (by decide) rfl (hP _ _ _ rfl) ?_
  refine g_iconst (v := nI 2) dX12_inTime_6 (by decide) ?_
  refine n_iald dX12_inTime_7 (by first | rfl | exact pv_shx) (by omega) (by omega) (by decide) (rfl) (by omega) (by repeat (first | exact nt_h | (apply rd_s; done) | apply rd_n (by omega) | apply rp_s | apply rp_n (by omega) | (apply rdL_s; done) | apply rdL_n (by omega) | apply rpJ_s | apply rpJ_n (by omega) | rfl)) ?_
  refine g_iconst (v := nI 1) dX12_inTime_8 (by decide) ?_
  refine n_isub dX12_inTime_9 (rfl) ?_
  refine p_callS (t_isN (by omega : nt ≤ 1000)) okX12_isIn lkX12_96 rfl dX12_inTime_10 rfl (Nat.le_of_ble_eq_true rfl) (⟨by decide, by decide, by decide, by decide⟩) ?_
  refine n_if_eq 29 dX12_inTime_13 (by decide) (by first | (with_reducible exact cB _) | ((with_reducible apply cN_eq0) <;> omega) | exact Iff.rfl) (fun c13 => ?_) (fun c13 => ?_)
  · skip
    refine g_iconst (v := (-1)) dX12_inTime_29 (by decide) ?_
    exact g_iret dX12_inTime_30 rfl (⟨rfl, rfl, by rw [sp_inTime, if_neg (by omega)], mfix.rf, rfl⟩)
  · skip
    refine g_iload_n dX12_inTime_16 rfl ?_
    refine g_iconst (v := (-1)) dX12_inTime_17 (by decide) ?_
    refine n_icmp_eq 31 dX12_inTime_18 (by decide) (cI_m1) (fun c18 => ?_) (fun c18 => ?_)
    · skip
      exact k31 (by omega) (by omega)
    · skip
      refine g_aload_n dX12_inTime_21 rfl ?_
      refine g_iload_n dX12_inTime_22 rfl ?_
      refine p_callV (t_isState hP (by omega) ns_h) okX12_isState lkX12_139 rfl (by first | rfl | exact pv_shx) rfl (by omega) (by omega) dX12_inTime_23 rfl (Nat.le_of_ble_eq_true rfl) (⟨by decide, by decide, by decide, by decide⟩) ?_
      refine n_if_ne 31 dX12_inTime_26 (by decide) (by first | (with_reducible exact cB _) | ((with_reducible apply cN_eq0) <;> omega) | exact Iff.rfl) (fun c26 => ?_) (fun c26 => ?_)
      · skip
        exact k31 (by omega) (by omega)
      · skip
        refine g_iconst (v := (-1)) dX12_inTime_29 (by decide) ?_
        exact g_iret dX12_inTime_30 rfl (⟨rfl, rfl, by rw [sp_inTime, if_neg (by omega)], mfix.rf, rfl⟩)
