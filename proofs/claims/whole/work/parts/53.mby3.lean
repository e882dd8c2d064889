/-! model: worth, by, whose -/
def worthN (a : Nat → Int32) (cl : Nat → List pC) (k m g : Nat) : Nat := match cfN a cl 1 m with
  | none => 100 * cnt a (1080 + 5 * k + 2)
  | some p => (evV (nmH a k g m 0 0 0) (cdC cl p)).toNat
theorem lI_i {v : Int} (h : 0 ≤ v) : (lI v).toInt32 = nI v.toNat := by
  rw [Int64.toInt32_ofInt, nI_iI, Int.toNat_of_nonneg h]
theorem t_worthOf {w h k m g : Nat} {cl : Nat → List pC} {a : Nat → Int32} {I : pvI} {J : pvJ} {P : pvP} (hP : pvOkP P) (hb : mBy w h cl a I) (hk : k < cnt a 5) (h7 : I 219 7 = nI m) (hm : m ≤ 99) (hg : g ≤ 100000) : pvMet mX12_worthOf 3 0 0 [.ref 202, .int (nI k), .int (nI m), .int (nI g)] 224 I J P (byQ I J P (nI (worthN a cl k m g))) := by
  obtain ⟨f5, ⟨np, f61, f62, f63⟩, f8, fk⟩ := hou_facts hb
  obtain ⟨k1, k2, k3, k4⟩ := fk k hk
  obtain ⟨b1, b2, b3, b4, b5, b6, b7⟩ := id hb
  have cf := t_clauseFor (J := J) hP b2 b3.1 b6 b7 (by decide : 1 ≤ 3) hm
  have k2' : I 203 (1080 + 5 * k + 2) = nI (cnt a (1080 + 5 * k + 2)) := by rw [b2]; exact k2
  unfold worthN
  cases hp : cfN a cl 1 m with
  | none =>
    rw [hp] at cf
    refine pvMet.of _ (by decide) rfl (Nat.le_of_ble_eq_true rfl) ?_
    refine g_aload_n dX12_worthOf_0 rfl ?_
    refine g_iconst (v := nI 2) dX12_worthOf_1 (by decide) ?_
    refine g_iload_n dX12_worthOf_2 rfl ?_
    refine p_callV (cf) okX12_clauseFor lkX12_345 rfl (by first | rfl | exact pv_shx) rfl (by omega) (by omega) dX12_worthOf_3 rfl (Nat.le_of_ble_eq_true rfl) (⟨by decide, by decide, by decide, by decide⟩) ?_
    refine g_istore dX12_worthOf_6 (by decide) rfl ?_
    refine g_iload dX12_worthOf_8 rfl ?_
    refine n_if_ge 31 dX12_worthOf_10 (by decide) (cI_ge0.trans (by rw [show (cfI none).toInt = -1 from rfl])) (fun c10 => by exfalso; first | omega | exact absurd trivial c10 | exact c10 | (simp at c10)) (fun c10 => ?_)
    refine g_bipush (v := nI 100) dX12_worthOf_13 (by decide) ?_
    refine g_aload_n dX12_worthOf_15 rfl ?_
    refine g_getP dX12_worthOf_16 fdX12_7 rfl (by first | rfl | exact pv_shx) (by omega) (by omega) (by decide) rfl (hP _ _ _ rfl) ?_
    refine g_sipush (v := nI 1080) dX12_worthOf_19 (by decide) ?_
    refine g_iconst (v := nI 5) dX12_worthOf_22 (by decide) ?_
    refine g_iload_n dX12_worthOf_23 rfl ?_
    refine n_imul dX12_worthOf_24 (by first | (with_reducible exact pk_mul _ _) | rfl) ?_
    refine n_iadd dX12_worthOf_25 (by first | (with_reducible exact nI_add _ _) | rfl) ?_
    refine g_iconst (v := nI 2) dX12_worthOf_26 (by decide) ?_
    refine n_iadd dX12_worthOf_27 (by first | (with_reducible exact nI_add _ _) | rfl) ?_
    refine n_iald dX12_worthOf_28 (by first | rfl | exact pv_shx) (by omega) (by omega) (by decide) (rfl) (by omega) (by repeat (first | exact k2' | (apply rd_s; done) | apply rd_n (by omega) | apply rp_s | apply rp_n (by omega) | (apply rdL_s; done) | apply rdL_n (by omega) | apply rpJ_s | apply rpJ_n (by omega) | rfl)) ?_
    refine n_imul dX12_worthOf_29 (by first | (with_reducible exact pk_mul _ _) | rfl) ?_
    exact g_iret dX12_worthOf_30 rfl (⟨rfl, rfl, rfl, fun _ _ => rfl, fun _ _ => rfl⟩)
  | some p =>
    rw [hp] at cf
    obtain ⟨p1, p2, p3⟩ := cfN_some b6 f8 hp
    obtain ⟨x1, x2⟩ := b7 p.1 p1
    have hp20 := x1.2.1
    obtain ⟨-, -, o3, -⟩ := x2 _ (getD_mem p2)
    rw [p3] at o3
    have o3 := o3 rfl
    have cf' : pvMet mX12_clauseFor 2 0 0 [.ref 202, .int (nI (1 + 1)), .int (nI m)] 224 I J P (pvpu (.int (nI (800 * p.1 + 1 + 6 * p.2))) 224 I J P) := cf
    have nmq := t_name (I := I) (J := J) (k := k) (g := nI g) hP (np := np) (by rw [b2]; exact f62) f61 (by omega)
    rw [b2, k1, k2] at nmq
    generalize hI1 : pvs I 219 (upd (upd (upd (upd (I 219) 0 (nI g)) 1 (nI (cnt a (1080 + 5 * k + 1)))) 2 (nI (cnt a (1080 + 5 * k + 2)))) 3 (nI (sp_ct (poP a (nI k)) np))) = I1 at nmq
    have m1 : mfix I I1 [219] := fun x hx => by rw [← hI1, pvs_ne (by simpa using hx)]
    have hnm : nmA (I1 219) 1 (nmH a k g m 0 0 0) := nmA_of (fun i hi hbr => by
      have := bar_hou 1 i (by decide) hi hbr
      rw [← hI1, pvs_eq]
      have hs := sp_ct_le (p := poP a (nI k)) np
      have hs2 : hsP a k = sp_ct (poP a (nI k)) np := by unfold hsP; rw [f63]
      rcases (show i = 0 ∨ i = 1 ∨ i = 2 ∨ i = 3 ∨ i = 4 by omega) with rfl | rfl | rfl | rfl | rfl
      · exact ⟨rfl, by show g ≤ _; omega⟩
      · exact ⟨rfl, by show cnt a _ ≤ _; omega⟩
      · exact ⟨rfl, by show cnt a _ ≤ _; omega⟩
      · exact ⟨h7, by show m ≤ _; omega⟩
      · refine ⟨?_, by show hsP a k ≤ _; omega⟩
        show nI (sp_ct (poP a (nI k)) np) = nI (hsP a k)
        rw [hs2])
    have hx1 : clA (I1 205) (800 * p.1) (800 * p.1 + 1 + 6 * p.2) (cdC cl p) := by rw [m1 205 (by decide)]; exact clA_of x1 p2
    have wk := t_work (J := J) hP (by omega : p.1 ≤ 9) (by omega) hx1 hnm o3.1 (by rw [show cdC cl p = ((cl p.1).getD p.2 (0, 0, [])).2.2 from rfl, o3.2 0 0]; simp)
    have hev := evV_eq (nm := nmH a k g m 0 0 0) (e := cdC cl p) o3
    have sv : smI (evV (nmH a k g m 0 0 0) (cdC cl p)) := evL_sm (srt := 1) (nm := nmH a k g m 0 0 0) (fun i hi hbr => (hnm i hi hbr).2) (e := cdC cl p) (st := ([], [])) o3.1 (fun v hv => absurd hv List.not_mem_nil) _ (by rw [hev]; exact List.mem_cons_self)
    rw [hev] at wk
    dsimp only
    generalize evV (nmH a k g m 0 0 0) (cdC cl p) = v at *
    have sv' := sv
    unfold smI at sv'
    refine pvMet.of _ (by decide) rfl (Nat.le_of_ble_eq_true rfl) ?_
    refine g_aload_n dX12_worthOf_0 rfl ?_
    refine g_iconst (v := nI 2) dX12_worthOf_1 (by decide) ?_
    refine g_iload_n dX12_worthOf_2 rfl ?_
    refine p_callV (cf') okX12_clauseFor lkX12_345 rfl (by first | rfl | exact pv_shx) rfl (by omega) (by omega) dX12_worthOf_3 rfl (Nat.le_of_ble_eq_true rfl) (⟨by decide, by decide, by decide, by decide⟩) ?_
    refine g_istore dX12_worthOf_6 (by decide) rfl ?_
    refine g_iload dX12_worthOf_8 rfl ?_
    refine n_if_ge 31 dX12_worthOf_10 (by decide) (by first | ((with_reducible apply cN_ge0) <;> omega) | (with_reducible exact cI_ge0)) (fun c10 => ?_) (fun c10 => by exfalso; first | omega | exact absurd trivial c10 | exact c10 | (simp at c10))
    refine g_aload_n dX12_worthOf_31 rfl ?_
    refine g_iload_n dX12_worthOf_32 rfl ?_
    refine g_iload_n dX12_worthOf_33 rfl ?_
    refine g_callV (nmq) okX12_name lkX12_339 rfl (by first | rfl | exact pv_shx) rfl (by omega) (by omega) dX12_worthOf_34 rfl (Nat.le_of_ble_eq_true rfl) (⟨by decide, by decide, by decide, by decide⟩) ?_
    rintro v' nx' I' J' P' ⟨rfl, rfl, rfl, rfl, rfl⟩
    refine g_aload_n dX12_worthOf_37 rfl ?_
    refine g_iload dX12_worthOf_38 rfl ?_
    refine g_callV (wk) okX12_work lkX12_342 rfl (by first | rfl | exact pv_shx) rfl (by omega) (by omega) dX12_worthOf_40 rfl (Nat.le_of_ble_eq_true rfl) (⟨by decide, by decide, by decide, by decide⟩) ?_
    rintro v' nx' I2 J2 P' ⟨rfl, rfl, rfl, w1, w2, w3, w4⟩
    refine g_aload_n dX12_worthOf_43 rfl ?_
    refine g_getP dX12_worthOf_44 fdX12_70 rfl (by first | rfl | exact pv_shx) (by omega) (by omega) (by decide) rfl (hP _ _ _ rfl) ?_
    refine g_iconst (v := nI 0) dX12_worthOf_47 (by decide) ?_
    refine n_lald dX12_worthOf_48 (by first | rfl | exact pv_shx) (by omega) (by omega) (by decide) (rfl) (by omega) (vsA_hd w3) ?_
    refine g_lconst (v := 0) dX12_worthOf_49 (by decide) ?_
    refine g_lcmp dX12_worthOf_50 ?_
    refine n_if_ge 58 dX12_worthOf_51 (by decide) ((lg_cmp_ge _ _).trans (lI_le (a := 0) (by decide) (by decide) (by omega) (by omega))) (fun c51 => ?_) (fun c51 => ?_)
    · skip
      refine g_aload_n dX12_worthOf_58 rfl ?_
      refine g_getP dX12_worthOf_59 fdX12_70 rfl (by first | rfl | exact pv_shx) (by omega) (by omega) (by decide) rfl (hP _ _ _ rfl) ?_
      refine g_iconst (v := nI 0) dX12_worthOf_62 (by decide) ?_
      refine n_lald dX12_worthOf_63 (by first | rfl | exact pv_shx) (by omega) (by omega) (by decide) (rfl) (by omega) (vsA_hd w3) ?_
      refine n_l2i dX12_worthOf_64 (lI_i c51) ?_
      exact g_iret dX12_worthOf_65 rfl (⟨rfl, rfl, by first | rfl | (rw [show v.toNat = 0 by omega]), fun x hx => by simp at hx; rw [w1 x (by simp; omega), m1 x (by simp; omega)], w2⟩)
    · skip
      refine g_iconst (v := nI 0) dX12_worthOf_54 (by decide) ?_
      refine g_goto 65 dX12_worthOf_55 (by decide) ?_
      exact g_iret dX12_worthOf_65 rfl (⟨rfl, rfl, by first | rfl | (rw [show v.toNat = 0 by omega]), fun x hx => by simp at hx; rw [w1 x (by simp; omega), m1 x (by simp; omega)], w2⟩)
def sp_by (w h : Nat) (a : Nat → Int32) (cl : Nat → List pC) (k m x : Int32) : Int32 := if (0 ≤ k.toInt ∧ k.toInt < cnt a 5) ∧ (0 ≤ m.toInt ∧ m.toInt ≤ 99) ∧ (0 ≤ x.toInt ∧ x.toInt ≤ 2) then (if x.toInt = 0 then nI (shutN w h a cl k.toNatClampNeg m.toNatClampNeg) else nI (worthN a cl k.toNatClampNeg m.toNatClampNeg (if x.toInt = 1 then gasN w h a k.toNatClampNeg m.toNatClampNeg true else 0))) else -1
theorem t_by {w h : Nat} {cl : Nat → List pC} {a : Nat → Int32} {I : pvI} {J : pvJ} {P : pvP} (hP : pvOkP P) (hb : mBy w h cl a I) {k m x : Int32} : pvMet mX12_by 5 0 0 [.ref 202, .int k, .int m, .int x] 224 I J P (byQ I J P (sp_by w h a cl k m x)) := by
  obtain ⟨f5, ⟨np, f61, f62, f63⟩, f8, fk⟩ := hou_facts hb
  obtain ⟨b1, b2, b3, b4, b5, b6, b7⟩ := id hb
  have hwh : w * h ≤ 64 := Nat.mul_le_mul b1.2.2.1.2 b1.2.2.2.2
  obtain ⟨nb, nb_b, nb_h⟩ := b3.1 5 (by decide)
  replace nb_b : nb ≤ 20 := nb_b
  have nb_e : cnt a 5 = nb := cnt_of nb_h (by omega)
  have nb_h' : I 203 5 = nI nb := by rw [b2]; exact nb_h
  refine pvMet.of _ (by decide) rfl (Nat.le_of_ble_eq_true rfl) ?_
  refine g_aload_n dX12_by_0 rfl ?_
  refine g_iload_n dX12_by_1 rfl ?_
  refine p_callV (t_isHouse hP (by omega) nb_h') okX12_isHouse lkX12_162 rfl (by first | rfl | exact pv_shx) rfl (by omega) (by omega) dX12_by_2 rfl (Nat.le_of_ble_eq_true rfl) (⟨by decide, by decide, by decide, by decide⟩) ?_
  refine n_if_eq 24 dX12_by_5 (by decide) (by first | (with_reducible exact cB _) | ((with_reducible apply cN_eq0) <;> omega) | exact Iff.rfl) (fun c5 => ?_) (fun c5 => ?_)
  · skip
    refine g_iconst (v := (-1)) dX12_by_24 (by decide) ?_
    exact g_iret dX12_by_25 rfl (⟨rfl, rfl, by rw [sp_by, if_neg (by omega)], fun _ _ => rfl, fun _ _ => rfl⟩)
  · skip
    refine g_iload_n dX12_by_8 rfl ?_
    refine p_callS (t_isWeek) okX12_isWeek lkX12_115 rfl dX12_by_9 rfl (Nat.le_of_ble_eq_true rfl) (⟨by decide, by decide, by decide, by decide⟩) ?_
    refine n_if_eq 24 dX12_by_12 (by decide) (by first | (with_reducible exact cB _) | ((with_reducible apply cN_eq0) <;> omega) | exact Iff.rfl) (fun c12 => ?_) (fun c12 => ?_)
    · skip
      refine g_iconst (v := (-1)) dX12_by_24 (by decide) ?_
      exact g_iret dX12_by_25 rfl (⟨rfl, rfl, by rw [sp_by, if_neg (by omega)], fun _ _ => rfl, fun _ _ => rfl⟩)
    · skip
      refine g_iload_n dX12_by_15 rfl ?_
      refine g_iconst (v := nI 0) dX12_by_16 (by decide) ?_
      refine g_iconst (v := nI 2) dX12_by_17 (by decide) ?_
      refine p_callS (t_isIn (by first | exact nI_toInt (by omega) | exact pk_sub_toInt (by omega) (by omega)) (by first | exact nI_toInt (by omega) | exact pk_sub_toInt (by omega) (by omega))) okX12_isIn lkX12_96 rfl dX12_by_18 rfl (Nat.le_of_ble_eq_true rfl) (⟨by decide, by decide, by decide, by decide⟩) ?_
      refine n_if_ne 26 dX12_by_21 (by decide) (by first | (with_reducible exact cB _) | ((with_reducible apply cN_eq0) <;> omega) | exact Iff.rfl) (fun c21 => ?_) (fun c21 => ?_)
      · skip
        obtain ⟨kk, hk, rfl⟩ := cI_of (x := k) (n := nb) (by omega) (by omega) (by omega)
        obtain ⟨mm, hm, rfl⟩ := cI_of (x := m) (n := 100) (by omega) (by omega) (by omega)
        have ek : (nI kk).toNatClampNeg = kk := nI_clamp (by omega)
        have em : (nI mm).toNatClampNeg = mm := nI_clamp (by omega)
        have k3 := (fk kk (by omega)).2.2.1
        rw [sp_by, if_pos (by omega), ek, em]
        generalize hI1 : pvs I 219 (upd (I 219) 7 (nI mm)) = I1
        have m1 : mfix I I1 [219] := fun y hy => by rw [← hI1, pvs_ne (by simpa using hy)]
        have hb1 := hb.fix m1 (by decide) (by decide) (by decide)
        have h71 : I1 219 7 = nI mm := by rw [← hI1, pvs_eq]; simp [upd]
        have ra := t_runAll (J := J) hP hb1.1 (by rw [hb1.2.1]; exact b3)
        rw [hb1.2.1] at ra
        by_cases c0 : x.toInt = 0
        · rw [if_pos c0]
          refine g_aload_n dX12_by_26 rfl ?_
          refine g_getP dX12_by_27 fdX12_67 rfl (by first | rfl | exact pv_shx) (by omega) (by omega) (by decide) rfl (hP _ _ _ rfl) ?_
          refine g_bipush (v := nI 7) dX12_by_30 (by decide) ?_
          refine g_iload_n dX12_by_32 rfl ?_
          refine n_iast dX12_by_33 (by first | rfl | exact pv_shx) (by omega) (by omega) (by omega) (by decide) (rfl) (by omega) (by repeat (first | exact pvu_s | exact pvuJ_s | apply pvu_in (by omega) | apply pvuJ_in (by omega) | exact pvu_pvs | exact pvuJ_pvs)) ?_
          refine g_aload_n dX12_by_34 rfl ?_
          rw [hI1]
          refine g_callV (ra) okX12_runAll lkX12_149 rfl (by first | rfl | exact pv_shx) rfl (by omega) (by omega) dX12_by_35 rfl (Nat.le_of_ble_eq_true rfl) (⟨by decide, by decide, by decide, by decide⟩) ?_
          rintro v nx' I2 J2 P' ⟨rfl, rfl, rfl, rfl, q1, q2⟩
          have hb2 := hb1.fix q1 (by decide) (by decide) (by decide)
          have so := t_shutOf (J := J2) hP hb2 q2 (by omega : kk < cnt a 5) (by rw [q1 219 (by decide)]; exact h71) (by omega)
          refine g_iload_n dX12_by_38 rfl ?_
          refine n_if_ne 51 dX12_by_39 (by decide) (cI_eq.trans (by rw [show ((0 : Int32)).toInt = 0 from rfl])) (fun c39 => by exfalso; first | omega | exact absurd trivial c39 | exact c39 | (simp at c39)) (fun c39 => ?_)
          refine g_aload_n dX12_by_42 rfl ?_
          refine g_iload_n dX12_by_43 rfl ?_
          refine g_iload_n dX12_by_44 rfl ?_
          refine g_callV (so) okX12_shutOf lkX12_351 rfl (by first | rfl | exact pv_shx) rfl (by omega) (by omega) dX12_by_45 rfl (Nat.le_of_ble_eq_true rfl) (⟨by decide, by decide, by decide, by decide⟩) ?_
          rintro v nx' I3 J3 P' ⟨rfl, rfl, rfl, r1, r2⟩
          refine g_goto 73 dX12_by_48 (by decide) ?_
          exact g_iret dX12_by_73 rfl (⟨rfl, rfl, rfl, fun y hy => by simp at hy; rw [r1 y (by simp; omega), q1 y (by simp; omega), m1 y (by simp; omega)], r2⟩)
        · rw [if_neg c0]
          by_cases c1 : x.toInt = 1
          · rw [if_pos c1]
            refine g_aload_n dX12_by_26 rfl ?_
            refine g_getP dX12_by_27 fdX12_67 rfl (by first | rfl | exact pv_shx) (by omega) (by omega) (by decide) rfl (hP _ _ _ rfl) ?_
            refine g_bipush (v := nI 7) dX12_by_30 (by decide) ?_
            refine g_iload_n dX12_by_32 rfl ?_
            refine n_iast dX12_by_33 (by first | rfl | exact pv_shx) (by omega) (by omega) (by omega) (by decide) (rfl) (by omega) (by repeat (first | exact pvu_s | exact pvuJ_s | apply pvu_in (by omega) | apply pvuJ_in (by omega) | exact pvu_pvs | exact pvuJ_pvs)) ?_
            refine g_aload_n dX12_by_34 rfl ?_
            rw [hI1]
            refine g_callV (ra) okX12_runAll lkX12_149 rfl (by first | rfl | exact pv_shx) rfl (by omega) (by omega) dX12_by_35 rfl (Nat.le_of_ble_eq_true rfl) (⟨by decide, by decide, by decide, by decide⟩) ?_
            rintro v nx' I2 J2 P' ⟨rfl, rfl, rfl, rfl, q1, q2⟩
            have hb2 := hb1.fix q1 (by decide) (by decide) (by decide)
            have g2 := t_gasOf (J := J2) (high := true) (hb := nI 1) hP hb2.1 hb2.2.1 b3 b4 b5 q2 (by omega : kk < cnt a 5) (by omega : mm ≤ 99) (by decide)
            have so := t_worthOf (J := J2) hP hb2 (by omega : kk < cnt a 5) (by rw [q1 219 (by decide)]; exact h71) (by omega) (gasN_le (m := mm) (high := true) hwh k3)
            refine g_iload_n dX12_by_38 rfl ?_
            refine n_if_ne 51 dX12_by_39 (by decide) (cI_eq.trans (by rw [show ((0 : Int32)).toInt = 0 from rfl])) (fun c39 => ?_) (fun c39 => by exfalso; first | omega | exact absurd trivial c39 | exact c39 | (simp at c39))
            refine g_aload_n dX12_by_51 rfl ?_
            refine g_iload_n dX12_by_52 rfl ?_
            refine g_iload_n dX12_by_53 rfl ?_
            refine g_iload_n dX12_by_54 rfl ?_
            refine g_iconst (v := nI 1) dX12_by_55 (by decide) ?_
            refine n_icmp_ne 69 dX12_by_56 (by decide) (cI_eq.trans (by rw [show (nI 1).toInt = 1 from rfl])) (fun c56 => by exfalso; first | omega | exact absurd trivial c56 | exact c56 | (simp at c56)) (fun c56 => ?_)
            refine g_aload_n dX12_by_59 rfl ?_
            refine g_iload_n dX12_by_60 rfl ?_
            refine g_iload_n dX12_by_61 rfl ?_
            refine g_iconst (v := nI 1) dX12_by_62 (by decide) ?_
            refine p_callV (g2) okX12_gasOf lkX12_165 rfl (by first | rfl | exact pv_shx) rfl (by omega) (by omega) dX12_by_63 rfl (Nat.le_of_ble_eq_true rfl) (⟨by decide, by decide, by decide, by decide⟩) ?_
            refine g_goto 70 dX12_by_66 (by decide) ?_
            refine g_callV (so) okX12_worthOf lkX12_354 rfl (by first | rfl | exact pv_shx) rfl (by omega) (by omega) dX12_by_70 rfl (Nat.le_of_ble_eq_true rfl) (⟨by decide, by decide, by decide, by decide⟩) ?_
            rintro v nx' I3 J3 P' ⟨rfl, rfl, rfl, r1, r2⟩
            exact g_iret dX12_by_73 rfl (⟨rfl, rfl, rfl, fun y hy => by simp at hy; rw [r1 y (by simp; omega), q1 y (by simp; omega), m1 y (by simp; omega)], r2⟩)
          · rw [if_neg c1]
            refine g_aload_n dX12_by_26 rfl ?_
            refine g_getP dX12_by_27 fdX12_67 rfl (by first | rfl | exact pv_shx) (by omega) (by omega) (by decide) rfl (hP _ _ _ rfl) ?_
            refine g_bipush (v := nI 7) dX12_by_30 (by decide) ?_
            refine g_iload_n dX12_by_32 rfl ?_
            refine n_iast dX12_by_33 (by first | rfl | exact pv_shx) (by omega) (by omega) (by omega) (by decide) (rfl) (by omega) (by repeat (first | exact pvu_s | exact pvuJ_s | apply pvu_in (by omega) | apply pvuJ_in (by omega) | exact pvu_pvs | exact pvuJ_pvs)) ?_
            refine g_aload_n dX12_by_34 rfl ?_
            rw [hI1]
            refine g_callV (ra) okX12_runAll lkX12_149 rfl (by first | rfl | exact pv_shx) rfl (by omega) (by omega) dX12_by_35 rfl (Nat.le_of_ble_eq_true rfl) (⟨by decide, by decide, by decide, by decide⟩) ?_
            rintro v nx' I2 J2 P' ⟨rfl, rfl, rfl, rfl, q1, q2⟩
            have hb2 := hb1.fix q1 (by decide) (by decide) (by decide)
            have so := t_worthOf (J := J2) (g := 0) hP hb2 (by omega : kk < cnt a 5) (by rw [q1 219 (by decide)]; exact h71) (by omega) (by decide)
            refine g_iload_n dX12_by_38 rfl ?_
            refine n_if_ne 51 dX12_by_39 (by decide) (cI_eq.trans (by rw [show ((0 : Int32)).toInt = 0 from rfl])) (fun c39 => ?_) (fun c39 => by exfalso; first | omega | exact absurd trivial c39 | exact c39 | (simp at c39))
            refine g_aload_n dX12_by_51 rfl ?_
            refine g_iload_n dX12_by_52 rfl ?_
            refine g_iload_n dX12_by_53 rfl ?_
            refine g_iload_n dX12_by_54 rfl ?_
            refine g_iconst (v := nI 1) dX12_by_55 (by decide) ?_
            refine n_icmp_ne 69 dX12_by_56 (by decide) (cI_eq.trans (by rw [show (nI 1).toInt = 1 from rfl])) (fun c56 => ?_) (fun c56 => by exfalso; first | omega | exact absurd trivial c56 | exact c56 | (simp at c56))
            refine g_iconst (v := nI 0) dX12_by_69 (by decide) ?_
            refine g_callV (so) okX12_worthOf lkX12_354 rfl (by first | rfl | exact pv_shx) rfl (by omega) (by omega) dX12_by_70 rfl (Nat.le_of_ble_eq_true rfl) (⟨by decide, by decide, by decide, by decide⟩) ?_
            rintro v nx' I3 J3 P' ⟨rfl, rfl, rfl, r1, r2⟩
            exact g_iret dX12_by_73 rfl (⟨rfl, rfl, rfl, fun y hy => by simp at hy; rw [r1 y (by simp; omega), q1 y (by simp; omega), m1 y (by simp; omega)], r2⟩)
      · skip
        refine g_iconst (v := (-1)) dX12_by_24 (by decide) ?_
        exact g_iret dX12_by_25 rfl (⟨rfl, rfl, by rw [sp_by, if_neg (by omega)], fun _ _ => rfl, fun _ _ => rfl⟩)
/-- whose the coal is -/
def nmW (a : Nat → Int32) (m : Nat) : Nat → Int := nmL [0, 0, 0, m, sp_ct (poP a (-1)) (cnt a 6), 0, 0, 0]
def whB (a : Nat → Int32) (m : Nat) (cs : List pC) (j : Nat) : Bool := decide ((cs.getD j (0, 0, [])).1 = 2) && evT (nmW a m) (cs.getD j (0, 0, [])).2.2
def whoN (a : Nat → Int32) (cl : Nat → List pC) (m : Nat) : Option Nat := (afN a cl 2 m (cnt a 9)).bind (fun t => (fdF (whB a m (cl t)) (cl t).length 0).map (fun j => ((cl t).getD j (0, 0, [])).2.1))
def sp_whose (a : Nat → Int32) (cl : Nat → List pC) (m : Int32) : Int32 := if 0 ≤ m.toInt ∧ m.toInt ≤ 99 then stv (whoN a cl m.toNatClampNeg) else -1
theorem t_whose {w h : Nat} {cl : Nat → List pC} {a : Nat → Int32} {I : pvI} {J : pvJ} {P : pvP} (hP : pvOkP P) (hb : mBy w h cl a I) {m : Int32} : pvMet mX12_whose 3 0 0 [.ref 202, .int m] 224 I J P (byQ I J P (sp_whose a cl m)) := by
  obtain ⟨f5, ⟨np, f61, f62, f63⟩, f8, fk⟩ := hou_facts hb
  obtain ⟨b1, b2, b3, b4, b5, b6, b7⟩ := id hb
  by_cases cm : 0 ≤ m.toInt ∧ m.toInt ≤ 99
  · obtain ⟨mm, hm, rfl⟩ := cI_of (x := m) (n := 100) (by omega) (by omega) (by omega)
    have em : (nI mm).toNatClampNeg = mm := nI_clamp (by omega)
    rw [sp_whose, if_pos cm, em]
    have af := t_actFor (J := J) hP b2 b3.1 b6 b7 (by decide : 2 ≤ 3) (by omega : mm ≤ 99)
    unfold whoN
    cases ht : afN a cl 2 mm (cnt a 9) with
    | none =>
      rw [ht] at af
      refine pvMet.of _ (by decide) rfl (Nat.le_of_ble_eq_true rfl) ?_
      refine g_iload_n dX12_whose_0 rfl ?_
      refine p_callS (t_isWeek) okX12_isWeek lkX12_115 rfl dX12_whose_1 rfl (Nat.le_of_ble_eq_true rfl) (⟨by decide, by decide, by decide, by decide⟩) ?_
      refine n_if_eq 16 dX12_whose_4 (by decide) (by first | (with_reducible exact cB _) | ((with_reducible apply cN_eq0) <;> omega) | exact Iff.rfl) (fun c4 => by exfalso; first | omega | exact absurd trivial c4 | exact c4 | (simp at c4)) (fun c4 => ?_)
      refine g_aload_n dX12_whose_7 rfl ?_
      refine g_iconst (v := nI 3) dX12_whose_8 (by decide) ?_
      refine g_iload_n dX12_whose_9 rfl ?_
      refine p_callV (af) okX12_actFor lkX12_317 rfl (by first | rfl | exact pv_shx) rfl (by omega) (by omega) dX12_whose_10 rfl (Nat.le_of_ble_eq_true rfl) (⟨by decide, by decide, by decide, by decide⟩) ?_
      refine g_goto 17 dX12_whose_13 (by decide) ?_
      refine g_istore_n dX12_whose_17 (by decide) rfl ?_
      refine g_iload_n dX12_whose_18 rfl ?_
      refine n_if_ge 24 dX12_whose_19 (by decide) (cI_ge0.trans (by rw [show (stv none).toInt = -1 from rfl])) (fun c19 => by exfalso; first | omega | exact absurd trivial c19 | exact c19 | (simp at c19)) (fun c19 => ?_)
      refine g_iconst (v := (-1)) dX12_whose_22 (by decide) ?_
      exact g_iret dX12_whose_23 rfl (⟨rfl, rfl, rfl, fun _ _ => rfl, fun _ _ => rfl⟩)
    | some t =>
      rw [ht] at af
      have af' : pvMet mX12_actFor 1 0 0 [.ref 202, .int (nI (2 + 1)), .int (nI mm)] 224 I J P (pvpu (.int (nI t)) 224 I J P) := af
      have ht8 := (afN_some b6 f8 (Nat.le_refl _) ht).1
      obtain ⟨x1, x2⟩ := b7 t ht8
      have po := t_peopleOf (I := I) (J := J) hP (np := np) (by rw [b2]; exact f62) f61 (k := -1)
      rw [b2] at po
      have hpl := sp_ct_le (p := poP a (-1)) np
      generalize hI1 : pvs I 219 (upd (upd (I 219) 3 (nI (sp_ct (poP a (-1)) np))) 7 (nI mm)) = I1
      have m1 : mfix I I1 [219] := fun y hy => by rw [← hI1, pvs_ne (by simpa using hy)]
      have hnm : ∀ I2, mfix I1 I2 [221] → nmA (I2 219) 2 (nmW a mm) := fun I2 h2 => nmA_of (fun i hi hbr => by
        rw [h2 219 (by decide), ← hI1, pvs_eq]
        rcases bar_who i hi hbr with rfl | rfl
        · exact ⟨rfl, by show mm ≤ _; omega⟩
        · refine ⟨?_, by show sp_ct (poP a (-1)) (cnt a 6) ≤ _; rw [f63]; omega⟩
          show nI (sp_ct (poP a (-1)) np) = nI (sp_ct (poP a (-1)) (cnt a 6))
          rw [f63])
      show pvMet _ _ _ _ _ _ _ _ _ (byQ I J P (stv (Option.map _ (fdF (whB a mm (cl t)) (cl t).length 0))))
      generalize hcs : cl t = cs at *
      have hl20 := x1.2.1
      have lp : ∀ q i I2 J2, i + q = cs.length → mfix I1 I2 [221] → (∀ y, y ≠ 220 → J2 y = J y) → fdF (whB a mm cs) q i = fdF (whB a mm cs) cs.length 0 → pvG mX12_whose (pvR 3 0 0) (pvZ (byQ I J P (stv (Option.map (fun j => (cs.getD j (0, 0, [])).2.1) (fdF (whB a mm cs) cs.length 0)))) 0 0) 45 [.ref 202, .int (nI mm), .int (nI t), .int (nI i), .retAddr 0] [] 0 0 224 I2 J2 P := by
        intro q
        induction q with
        | zero =>
          intro i I2 J2 hi hf hj he
          obtain rfl : i = cs.length := by omega
          have he : (none : Option Nat) = fdF (whB a mm cs) cs.length 0 := he
          have g0 : I2 205 (800 * t) = nI cs.length := by rw [hf 205 (by decide), m1 205 (by decide)]; exact x1.1
          refine g_iload_n dX12_whose_45 rfl ?_
          refine g_aload_n dX12_whose_46 rfl ?_
          refine g_getP dX12_whose_47 fdX12_16 rfl (by first | rfl | exact pv_shx) (by omega) (by omega) (by decide) rfl (hP _ _ _ rfl) ?_
          refine g_sipush (v := nI 800) dX12_whose_50 (by decide) ?_
          refine g_iload_n dX12_whose_53 rfl ?_
          refine n_imul dX12_whose_54 (by first | (with_reducible exact pk_mul _ _) | rfl) ?_
          refine n_iald dX12_whose_55 (by first | rfl | exact pv_shx) (by omega) (by omega) (by decide) (rfl) (by omega) (by repeat (first | exact g0 | (apply rd_s; done) | apply rd_n (by omega) | apply rp_s | apply rp_n (by omega) | (apply rdL_s; done) | apply rdL_n (by omega) | apply rpJ_s | apply rpJ_n (by omega) | rfl)) ?_
          refine n_icmp_ge 118 dX12_whose_56 (by decide) (by first | ((with_reducible apply cN_le) <;> omega) | ((with_reducible apply cI_len) <;> omega) | ((with_reducible apply cI_nle) <;> omega) | (with_reducible exact cI_le)) (fun c56 => ?_) (fun c56 => by exfalso; first | omega | exact absurd trivial c56 | exact c56 | (simp at c56))
          refine g_iconst (v := (-1)) dX12_whose_118 (by decide) ?_
          exact g_iret dX12_whose_119 rfl (⟨rfl, rfl, by rw [← he]; rfl, fun y hy => by simp at hy; rw [hf y (by simp; omega), m1 y (by simp; omega)], hj⟩)
        | succ q ih =>
          intro i I2 J2 hi hf hj he
          have g0 : I2 205 (800 * t) = nI cs.length := by rw [hf 205 (by decide), m1 205 (by decide)]; exact x1.1
          have x1' := x1
          obtain ⟨-, -, -, cd, -, -, h5⟩ := x1'
          obtain ⟨d1, d2, -⟩ := h5 i (by omega)
          have ok := x2 _ (getD_mem (cs := cs) (j := i) (by omega))
          have g1 : I2 205 (800 * t + 1 + 6 * i) = nI ((cs.getD i (0, 0, [])).1 + 1) := by rw [hf 205 (by decide), m1 205 (by decide)]; exact d1
          have es : fdF (whB a mm cs) (q + 1) i = if whB a mm cs i = true then some i else fdF (whB a mm cs) q (i + 1) := rfl
          rw [es] at he
          by_cases c2 : (cs.getD i (0, 0, [])).1 = 2
          · have g2 : I2 205 (800 * t + 1 + 6 * i + 1) = nI (cs.getD i (0, 0, [])).2.1 := by rw [hf 205 (by decide), m1 205 (by decide)]; exact d2 c2
            have o4 := ok.2.2.2 (by omega)
            rw [c2] at o4 g1
            have hx1 : clA (I2 205) (800 * t) (800 * t + 1 + 6 * i) (cs.getD i (0, 0, [])).2.2 := by rw [hf 205 (by decide), m1 205 (by decide)]; exact clA_of x1 (by omega)
            have wk := t_work (J := J2) hP (by omega : t ≤ 9) (by omega) hx1 (hnm I2 hf) o4.1 (by rw [o4.2 0]; simp)
            rw [evT_eq (nm := nmW a mm) o4] at wk
            have hwb : whB a mm cs i = evT (nmW a mm) (cs.getD i (0, 0, [])).2.2 := by unfold whB; rw [c2]; simp
            cases hv : evT (nmW a mm) (cs.getD i (0, 0, [])).2.2 with
            | true =>
              rw [hv] at wk hwb
              rw [hwb, if_pos rfl] at he
              refine g_iload_n dX12_whose_45 rfl ?_
              refine g_aload_n dX12_whose_46 rfl ?_
              refine g_getP dX12_whose_47 fdX12_16 rfl (by first | rfl | exact pv_shx) (by omega) (by omega) (by decide) rfl (hP _ _ _ rfl) ?_
              refine g_sipush (v := nI 800) dX12_whose_50 (by decide) ?_
              refine g_iload_n dX12_whose_53 rfl ?_
              refine n_imul dX12_whose_54 (by first | (with_reducible exact pk_mul _ _) | rfl) ?_
              refine n_iald dX12_whose_55 (by first | rfl | exact pv_shx) (by omega) (by omega) (by decide) (rfl) (by omega) (by repeat (first | exact g0 | exact g1 | (apply rd_s; done) | apply rd_n (by omega) | apply rp_s | apply rp_n (by omega) | (apply rdL_s; done) | apply rdL_n (by omega) | apply rpJ_s | apply rpJ_n (by omega) | rfl)) ?_
              refine n_icmp_ge 118 dX12_whose_56 (by decide) (by first | ((with_reducible apply cN_le) <;> omega) | ((with_reducible apply cI_len) <;> omega) | ((with_reducible apply cI_nle) <;> omega) | (with_reducible exact cI_le)) (fun c56 => by exfalso; first | omega | exact absurd trivial c56 | exact c56 | (simp at c56)) (fun c56 => ?_)
              refine g_sipush (v := nI 800) dX12_whose_59 (by decide) ?_
              refine g_iload_n dX12_whose_62 rfl ?_
              refine n_imul dX12_whose_63 (by first | (with_reducible exact pk_mul _ _) | rfl) ?_
              refine g_iconst (v := nI 1) dX12_whose_64 (by decide) ?_
              refine n_iadd dX12_whose_65 (by first | (with_reducible exact nI_add _ _) | rfl) ?_
              refine g_bipush (v := nI 6) dX12_whose_66 (by decide) ?_
              refine g_iload_n dX12_whose_68 rfl ?_
              refine n_imul dX12_whose_69 (by first | (with_reducible exact pk_mul _ _) | rfl) ?_
              refine n_iadd dX12_whose_70 (by first | (with_reducible exact nI_add _ _) | rfl) ?_
              refine g_istore dX12_whose_71 (by decide) rfl ?_
              refine g_aload_n dX12_whose_73 rfl ?_
              refine g_getP dX12_whose_74 fdX12_16 rfl (by first | rfl | exact pv_shx) (by omega) (by omega) (by decide) rfl (hP _ _ _ rfl) ?_
              refine g_iload dX12_whose_77 rfl ?_
              refine n_iald dX12_whose_79 (by first | rfl | exact pv_shx) (by omega) (by omega) (by decide) (rfl) (by omega) (by repeat (first | exact g0 | exact g1 | (apply rd_s; done) | apply rd_n (by omega) | apply rp_s | apply rp_n (by omega) | (apply rdL_s; done) | apply rdL_n (by omega) | apply rpJ_s | apply rpJ_n (by omega) | rfl)) ?_
              refine g_iconst (v := nI 3) dX12_whose_80 (by decide) ?_
              refine n_icmp_eq 87 dX12_whose_81 (by decide) (by first | ((with_reducible apply cN_eq) <;> omega) | ((with_reducible apply cI_eqn) <;> omega) | exact Iff.rfl) (fun c81 => ?_) (fun c81 => by exfalso; first | omega | exact absurd trivial c81 | exact c81 | (simp at c81))
              refine g_aload_n dX12_whose_87 rfl ?_
              refine g_iload dX12_whose_88 rfl ?_
              refine g_callV (wk) okX12_work lkX12_342 rfl (by first | rfl | exact pv_shx) rfl (by omega) (by omega) dX12_whose_90 rfl (Nat.le_of_ble_eq_true rfl) (⟨by decide, by decide, by decide, by decide⟩) ?_
              rintro v nx' I3 J3 P' ⟨rfl, rfl, rfl, w1, w2, w3, w4⟩
              have g2' : I3 205 (800 * t + 1 + 6 * i + 1) = nI (cs.getD i (0, 0, [])).2.1 := by rw [w1 205 (by decide)]; exact g2
              refine g_aload_n dX12_whose_93 rfl ?_
              refine g_getP dX12_whose_94 fdX12_74 rfl (by first | rfl | exact pv_shx) (by omega) (by omega) (by decide) rfl (hP _ _ _ rfl) ?_
              refine g_iconst (v := nI 0) dX12_whose_97 (by decide) ?_
              refine n_zald dX12_whose_98 (by first | rfl | exact pv_shx) (by omega) (by omega) (by decide) (rfl) (by omega) (tsA_hd w4) ?_
              refine n_if_eq 112 dX12_whose_99 (by decide) (by first | (with_reducible exact cB _) | ((with_reducible apply cN_eq0) <;> omega) | exact Iff.rfl) (fun c99 => by exfalso; first | omega | exact absurd trivial c99 | exact c99 | (simp at c99)) (fun c99 => ?_)
              refine g_aload_n dX12_whose_102 rfl ?_
              refine g_getP dX12_whose_103 fdX12_16 rfl (by first | rfl | exact pv_shx) (by omega) (by omega) (by decide) rfl (hP _ _ _ rfl) ?_
              refine g_iload dX12_whose_106 rfl ?_
              refine g_iconst (v := nI 1) dX12_whose_108 (by decide) ?_
              refine n_iadd dX12_whose_109 (by first | (with_reducible exact nI_add _ _) | rfl) ?_
              refine n_iald dX12_whose_110 (by first | rfl | exact pv_shx) (by omega) (by omega) (by decide) (rfl) (by omega) (g2') ?_
              exact g_iret dX12_whose_111 rfl (⟨rfl, rfl, by rw [← he]; rfl, fun y hy => by simp at hy; rw [w1 y (by simp; omega), hf y (by simp; omega), m1 y (by simp; omega)], fun y hy => (w2 y hy).trans (hj y hy)⟩)
            | false =>
              rw [hv] at wk hwb
              rw [hwb, if_neg (by decide)] at he
              refine g_iload_n dX12_whose_45 rfl ?_
              refine g_aload_n dX12_whose_46 rfl ?_
              refine g_getP dX12_whose_47 fdX12_16 rfl (by first | rfl | exact pv_shx) (by omega) (by omega) (by decide) rfl (hP _ _ _ rfl) ?_
              refine g_sipush (v := nI 800) dX12_whose_50 (by decide) ?_
              refine g_iload_n dX12_whose_53 rfl ?_
              refine n_imul dX12_whose_54 (by first | (with_reducible exact pk_mul _ _) | rfl) ?_
              refine n_iald dX12_whose_55 (by first | rfl | exact pv_shx) (by omega) (by omega) (by decide) (rfl) (by omega) (by repeat (first | exact g0 | exact g1 | (apply rd_s; done) | apply rd_n (by omega) | apply rp_s | apply rp_n (by omega) | (apply rdL_s; done) | apply rdL_n (by omega) | apply rpJ_s | apply rpJ_n (by omega) | rfl)) ?_
              refine n_icmp_ge 118 dX12_whose_56 (by decide) (by first | ((with_reducible apply cN_le) <;> omega) | ((with_reducible apply cI_len) <;> omega) | ((with_reducible apply cI_nle) <;> omega) | (with_reducible exact cI_le)) (fun c56 => by exfalso; first | omega | exact absurd trivial c56 | exact c56 | (simp at c56)) (fun c56 => ?_)
              refine g_sipush (v := nI 800) dX12_whose_59 (by decide) ?_
              refine g_iload_n dX12_whose_62 rfl ?_
              refine n_imul dX12_whose_63 (by first | (with_reducible exact pk_mul _ _) | rfl) ?_
              refine g_iconst (v := nI 1) dX12_whose_64 (by decide) ?_
              refine n_iadd dX12_whose_65 (by first | (with_reducible exact nI_add _ _) | rfl) ?_
              refine g_bipush (v := nI 6) dX12_whose_66 (by decide) ?_
              refine g_iload_n dX12_whose_68 rfl ?_
              refine n_imul dX12_whose_69 (by first | (with_reducible exact pk_mul _ _) | rfl) ?_
              refine n_iadd dX12_whose_70 (by first | (with_reducible exact nI_add _ _) | rfl) ?_
              refine g_istore dX12_whose_71 (by decide) rfl ?_
              refine g_aload_n dX12_whose_73 rfl ?_
              refine g_getP dX12_whose_74 fdX12_16 rfl (by first | rfl | exact pv_shx) (by omega) (by omega) (by decide) rfl (hP _ _ _ rfl) ?_
              refine g_iload dX12_whose_77 rfl ?_
              refine n_iald dX12_whose_79 (by first | rfl | exact pv_shx) (by omega) (by omega) (by decide) (rfl) (by omega) (by repeat (first | exact g0 | exact g1 | (apply rd_s; done) | apply rd_n (by omega) | apply rp_s | apply rp_n (by omega) | (apply rdL_s; done) | apply rdL_n (by omega) | apply rpJ_s | apply rpJ_n (by omega) | rfl)) ?_
              refine g_iconst (v := nI 3) dX12_whose_80 (by decide) ?_
              refine n_icmp_eq 87 dX12_whose_81 (by decide) (by first | ((with_reducible apply cN_eq) <;> omega) | ((with_reducible apply cI_eqn) <;> omega) | exact Iff.rfl) (fun c81 => ?_) (fun c81 => by exfalso; first | omega | exact absurd trivial c81 | exact c81 | (simp at c81))
              refine g_aload_n dX12_whose_87 rfl ?_
              refine g_iload dX12_whose_88 rfl ?_
              refine g_callV (wk) okX12_work lkX12_342 rfl (by first | rfl | exact pv_shx) rfl (by omega) (by omega) dX12_whose_90 rfl (Nat.le_of_ble_eq_true rfl) (⟨by decide, by decide, by decide, by decide⟩) ?_
              rintro v nx' I3 J3 P' ⟨rfl, rfl, rfl, w1, w2, w3, w4⟩
              refine g_aload_n dX12_whose_93 rfl ?_
              refine g_getP dX12_whose_94 fdX12_74 rfl (by first | rfl | exact pv_shx) (by omega) (by omega) (by decide) rfl (hP _ _ _ rfl) ?_
              refine g_iconst (v := nI 0) dX12_whose_97 (by decide) ?_
              refine n_zald dX12_whose_98 (by first | rfl | exact pv_shx) (by omega) (by omega) (by decide) (rfl) (by omega) (tsA_hd w4) ?_
              refine n_if_eq 112 dX12_whose_99 (by decide) (by first | (with_reducible exact cB _) | ((with_reducible apply cN_eq0) <;> omega) | exact Iff.rfl) (fun c99 => ?_) (fun c99 => by exfalso; first | omega | exact absurd trivial c99 | exact c99 | (simp at c99))
              refine g_iinc dX12_whose_112 rfl (by first | (with_reducible exact nI_1 _) | exact nI_1 _ | exact pk_m1 _ | rfl) (by decide) rfl ?_
              refine g_goto 45 dX12_whose_115 (by decide) ?_
              exact g_drop _ (by repeat (first | exact trivial | refine ⟨Or.inr ⟨_, rfl⟩, ?_⟩ | refine ⟨Or.inl rfl, ?_⟩)) (ih (i + 1) I3 J3 (by omega) (hf.tr w1) (fun y hy => (w2 y hy).trans (hj y hy)) he)
          · have hwb : whB a mm cs i = false := by unfold whB; rw [decide_eq_false c2, Bool.false_and]
            rw [hwb, if_neg (by decide)] at he
            have o3 := ok.1
            refine g_iload_n dX12_whose_45 rfl ?_
            refine g_aload_n dX12_whose_46 rfl ?_
            refine g_getP dX12_whose_47 fdX12_16 rfl (by first | rfl | exact pv_shx) (by omega) (by omega) (by decide) rfl (hP _ _ _ rfl) ?_
            refine g_sipush (v := nI 800) dX12_whose_50 (by decide) ?_
            refine g_iload_n dX12_whose_53 rfl ?_
            refine n_imul dX12_whose_54 (by first | (with_reducible exact pk_mul _ _) | rfl) ?_
            refine n_iald dX12_whose_55 (by first | rfl | exact pv_shx) (by omega) (by omega) (by decide) (rfl) (by omega) (by repeat (first | exact g0 | exact g1 | (apply rd_s; done) | apply rd_n (by omega) | apply rp_s | apply rp_n (by omega) | (apply rdL_s; done) | apply rdL_n (by omega) | apply rpJ_s | apply rpJ_n (by omega) | rfl)) ?_
            refine n_icmp_ge 118 dX12_whose_56 (by decide) (by first | ((with_reducible apply cN_le) <;> omega) | ((with_reducible apply cI_len) <;> omega) | ((with_reducible apply cI_nle) <;> omega) | (with_reducible exact cI_le)) (fun c56 => by exfalso; first | omega | exact absurd trivial c56 | exact c56 | (simp at c56)) (fun c56 => ?_)
            refine g_sipush (v := nI 800) dX12_whose_59 (by decide) ?_
            refine g_iload_n dX12_whose_62 rfl ?_
            refine n_imul dX12_whose_63 (by first | (with_reducible exact pk_mul _ _) | rfl) ?_
            refine g_iconst (v := nI 1) dX12_whose_64 (by decide) ?_
            refine n_iadd dX12_whose_65 (by first | (with_reducible exact nI_add _ _) | rfl) ?_
            refine g_bipush (v := nI 6) dX12_whose_66 (by decide) ?_
            refine g_iload_n dX12_whose_68 rfl ?_
            refine n_imul dX12_whose_69 (by first | (with_reducible exact pk_mul _ _) | rfl) ?_
            refine n_iadd dX12_whose_70 (by first | (with_reducible exact nI_add _ _) | rfl) ?_
            refine g_istore dX12_whose_71 (by decide) rfl ?_
            refine g_aload_n dX12_whose_73 rfl ?_
            refine g_getP dX12_whose_74 fdX12_16 rfl (by first | rfl | exact pv_shx) (by omega) (by omega) (by decide) rfl (hP _ _ _ rfl) ?_
            refine g_iload dX12_whose_77 rfl ?_
            refine n_iald dX12_whose_79 (by first | rfl | exact pv_shx) (by omega) (by omega) (by decide) (rfl) (by omega) (by repeat (first | exact g0 | exact g1 | (apply rd_s; done) | apply rd_n (by omega) | apply rp_s | apply rp_n (by omega) | (apply rdL_s; done) | apply rdL_n (by omega) | apply rpJ_s | apply rpJ_n (by omega) | rfl)) ?_
            refine g_iconst (v := nI 3) dX12_whose_80 (by decide) ?_
            refine n_icmp_eq 87 dX12_whose_81 (by decide) (by first | ((with_reducible apply cN_eq) <;> omega) | ((with_reducible apply cI_eqn) <;> omega) | exact Iff.rfl) (fun c81 => by exfalso; first | omega | exact absurd trivial c81 | exact c81 | (simp at c81)) (fun c81 => ?_)
            refine g_goto 112 dX12_whose_84 (by decide) ?_
            refine g_iinc dX12_whose_112 rfl (by first | (with_reducible exact nI_1 _) | exact nI_1 _ | exact pk_m1 _ | rfl) (by decide) rfl ?_
            refine g_goto 45 dX12_whose_115 (by decide) ?_
            exact g_drop _ (by repeat (first | exact trivial | refine ⟨Or.inr ⟨_, rfl⟩, ?_⟩ | refine ⟨Or.inl rfl, ?_⟩)) (ih (i + 1) I2 J2 (by omega) hf hj he)
      refine pvMet.of _ (by decide) rfl (Nat.le_of_ble_eq_true rfl) ?_
      refine g_iload_n dX12_whose_0 rfl ?_
      refine p_callS (t_isWeek) okX12_isWeek lkX12_115 rfl dX12_whose_1 rfl (Nat.le_of_ble_eq_true rfl) (⟨by decide, by decide, by decide, by decide⟩) ?_
      refine n_if_eq 16 dX12_whose_4 (by decide) (by first | (with_reducible exact cB _) | ((with_reducible apply cN_eq0) <;> omega) | exact Iff.rfl) (fun c4 => by exfalso; first | omega | exact absurd trivial c4 | exact c4 | (simp at c4)) (fun c4 => ?_)
      refine g_aload_n dX12_whose_7 rfl ?_
      refine g_iconst (v := nI 3) dX12_whose_8 (by decide) ?_
      refine g_iload_n dX12_whose_9 rfl ?_
      refine p_callV (af') okX12_actFor lkX12_317 rfl (by first | rfl | exact pv_shx) rfl (by omega) (by omega) dX12_whose_10 rfl (Nat.le_of_ble_eq_true rfl) (⟨by decide, by decide, by decide, by decide⟩) ?_
      refine g_goto 17 dX12_whose_13 (by decide) ?_
      refine g_istore_n dX12_whose_17 (by decide) rfl ?_
      refine g_iload_n dX12_whose_18 rfl ?_
      refine n_if_ge 24 dX12_whose_19 (by decide) (by first | ((with_reducible apply cN_ge0) <;> omega) | (with_reducible exact cI_ge0)) (fun c19 => ?_) (fun c19 => by exfalso; first | omega | exact absurd trivial c19 | exact c19 | (simp at c19))
      refine g_aload_n dX12_whose_24 rfl ?_
      refine g_getP dX12_whose_25 fdX12_67 rfl (by first | rfl | exact pv_shx) (by omega) (by omega) (by decide) rfl (hP _ _ _ rfl) ?_
      refine g_iconst (v := nI 3) dX12_whose_28 (by decide) ?_
      refine g_aload_n dX12_whose_29 rfl ?_
      refine g_iconst (v := (-1)) dX12_whose_30 (by decide) ?_
      refine p_callV (po) okX12_peopleOf lkX12_336 rfl (by first | rfl | exact pv_shx) rfl (by omega) (by omega) dX12_whose_31 rfl (Nat.le_of_ble_eq_true rfl) (⟨by decide, by decide, by decide, by decide⟩) ?_
      refine n_iast dX12_whose_34 (by first | rfl | exact pv_shx) (by omega) (by omega) (by omega) (by decide) (rfl) (by omega) (by repeat (first | exact pvu_s | exact pvuJ_s | apply pvu_in (by omega) | apply pvuJ_in (by omega) | exact pvu_pvs | exact pvuJ_pvs)) ?_
      refine g_aload_n dX12_whose_35 rfl ?_
      refine g_getP dX12_whose_36 fdX12_67 rfl (by first | rfl | exact pv_shx) (by omega) (by omega) (by decide) rfl (hP _ _ _ rfl) ?_
      refine g_bipush (v := nI 7) dX12_whose_39 (by decide) ?_
      refine g_iload_n dX12_whose_41 rfl ?_
      refine n_iast dX12_whose_42 (by first | rfl | exact pv_shx) (by omega) (by omega) (by omega) (by decide) (rfl) (by omega) (by repeat (first | exact pvu_s | exact pvuJ_s | apply pvu_in (by omega) | apply pvuJ_in (by omega) | exact pvu_pvs | exact pvuJ_pvs)) ?_
      rw [hI1]
      refine g_iconst (v := nI 0) dX12_whose_43 (by decide) ?_
      refine g_istore_n dX12_whose_44 (by decide) rfl ?_
      exact g_drop _ (by repeat (first | exact trivial | refine ⟨Or.inr ⟨_, rfl⟩, ?_⟩ | refine ⟨Or.inl rfl, ?_⟩)) (lp cs.length 0 I1 J (by omega) mfix.rf (fun _ _ => rfl) rfl)
  · rw [sp_whose, if_neg cm]
    refine pvMet.of _ (by decide) rfl (Nat.le_of_ble_eq_true rfl) ?_
    refine g_iload_n dX12_whose_0 rfl ?_
    refine p_callS (t_isWeek) okX12_isWeek lkX12_115 rfl dX12_whose_1 rfl (Nat.le_of_ble_eq_true rfl) (⟨by decide, by decide, by decide, by decide⟩) ?_
    refine n_if_eq 16 dX12_whose_4 (by decide) (by first | (with_reducible exact cB _) | ((with_reducible apply cN_eq0) <;> omega) | exact Iff.rfl) (fun c4 => ?_) (fun c4 => by exfalso; first | omega | exact absurd trivial c4 | exact c4 | (simp at c4))
    refine g_iconst (v := (-1)) dX12_whose_16 (by decide) ?_
    refine g_istore_n dX12_whose_17 (by decide) rfl ?_
    refine g_iload_n dX12_whose_18 rfl ?_
    refine n_if_ge 24 dX12_whose_19 (by decide) (cI_ge0.trans (by rw [show ((-1 : Int32)).toInt = -1 from rfl])) (fun c19 => by exfalso; first | omega | exact absurd trivial c19 | exact c19 | (simp at c19)) (fun c19 => ?_)
    refine g_iconst (v := (-1)) dX12_whose_22 (by decide) ?_
    exact g_iret dX12_whose_23 rfl (⟨rfl, rfl, rfl, fun _ _ => rfl, fun _ _ => rfl⟩)
