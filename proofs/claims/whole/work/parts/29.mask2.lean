/-! model: the calls that ask of the fire -/
def mQ2 (I : pvI) (J : pvJ) (P : pvP) (r : Int32) : pvQT := pvq P (fun v I' J' => v = some (.int r) ∧ mfix I I' LR ∧ J' = J)
theorem wo_none : ∀ k, k < 20 → (nI k = (-1 : Int32) ↔ (none : Option Nat) = some k) := fun k hk => ⟨fun z => by rw [cI_eq, nI_toInt (by omega), show ((-1 : Int32)).toInt = -1 from rfl] at z; omega, fun z => by cases z⟩
theorem wo_some {j : Nat} (hj : j < 20) : ∀ k, k < 20 → (nI k = nI j ↔ some j = some k) := fun k hk => ⟨fun z => by rw [nI_eq (by omega) (by omega)] at z; rw [z], fun z => by cases z; rfl⟩
def sp_burns (w h : Nat) (a : Nat → Int32) (s m c x : Int32) : Int32 :=
  if (0 ≤ s.toInt ∧ s.toInt < cnt a 3) ∧ (0 ≤ m.toInt ∧ m.toInt ≤ 99) ∧ (0 ≤ c.toInt ∧ c.toInt < w * h) ∧ (0 ≤ x.toInt ∧ x.toInt ≤ 3) then
    (if x.toInt = 0 then nI ((fwk w h a 0 none s.toNatClampNeg m.toNatClampNeg).1 c.toNatClampNeg) else if x.toInt = 1 then nI ((fwk w h a 0 none s.toNatClampNeg m.toNatClampNeg).2.1 c.toNatClampNeg) else if x.toInt = 2 then nI ((fwk w h a 0 none s.toNatClampNeg m.toNatClampNeg).2.2 c.toNatClampNeg) else nI (if fair w h a 0 none m.toNatClampNeg (fwk w h a 0 none s.toNatClampNeg m.toNatClampNeg) c.toNatClampNeg = true then 1 else 0)) else -1
theorem t_burns {w h : Nat} {I : pvI} {J : pvJ} {P : pvP} (hP : pvOkP P) (hD : mDim w h I) (hF : mF w h (I 203)) {s m c x : Int32} : pvMet mX12_burns 4 0 0 [.ref 202, .int s, .int m, .int c, .int x] 224 I J P (mQ2 I J P (sp_burns w h (I 203) s m c x)) := by
  have hg := hF.1
  have hD' := hD
  obtain ⟨hw, hh, hw2, hh2⟩ := hD
  have hwh : 4 ≤ w * h ∧ w * h ≤ 64 := ⟨Nat.mul_le_mul hw2.1 hh2.1, Nat.mul_le_mul hw2.2 hh2.2⟩
  obtain ⟨ns, ns_b, ns_h⟩ := hg 3 (by decide)
  replace ns_b : ns ≤ 8 := ns_b
  have ns_e : cnt (I 203) 3 = ns := cnt_of ns_h (by omega)
  refine pvMet.of _ (by decide) rfl (Nat.le_of_ble_eq_true rfl) ?_
  refine g_aload_n dX12_burns_0 rfl ?_
  refine g_iload_n dX12_burns_1 rfl ?_
  refine p_callV (t_isState hP (by omega) ns_h) okX12_isState lkX12_139 rfl (by first | rfl | exact pv_shx) rfl (by omega) (by omega) dX12_burns_2 rfl (Nat.le_of_ble_eq_true rfl) (⟨by decide, by decide, by decide, by decide⟩) ?_
  refine n_if_eq 33 dX12_burns_5 (by decide) (by first | (with_reducible exact cB _) | ((with_reducible apply cN_eq0) <;> omega) | exact Iff.rfl) (fun c5 => ?_) (fun c5 => ?_)
  · skip
    refine g_iconst (v := (-1)) dX12_burns_33 (by decide) ?_
    exact g_iret dX12_burns_34 rfl (⟨rfl, rfl, by rw [sp_burns, if_neg (by omega)], mfix.rf, rfl⟩)
  · skip
    refine g_iload_n dX12_burns_8 rfl ?_
    refine p_callS (t_isWeek) okX12_isWeek lkX12_115 rfl dX12_burns_9 rfl (Nat.le_of_ble_eq_true rfl) (⟨by decide, by decide, by decide, by decide⟩) ?_
    refine n_if_eq 33 dX12_burns_12 (by decide) (by first | (with_reducible exact cB _) | ((with_reducible apply cN_eq0) <;> omega) | exact Iff.rfl) (fun c12 => ?_) (fun c12 => ?_)
    · skip
      refine g_iconst (v := (-1)) dX12_burns_33 (by decide) ?_
      exact g_iret dX12_burns_34 rfl (⟨rfl, rfl, by rw [sp_burns, if_neg (by omega)], mfix.rf, rfl⟩)
    · skip
      refine g_aload_n dX12_burns_15 rfl ?_
      refine g_iload_n dX12_burns_16 rfl ?_
      refine p_callV (t_isCell hw hh hw2 hh2) okX12_isCell lkX12_100 rfl (by first | rfl | exact pv_shx) rfl (by omega) (by omega) dX12_burns_17 rfl (Nat.le_of_ble_eq_true rfl) (⟨by decide, by decide, by decide, by decide⟩) ?_
      refine n_if_eq 33 dX12_burns_20 (by decide) (by first | (with_reducible exact cB _) | ((with_reducible apply cN_eq0) <;> omega) | exact Iff.rfl) (fun c20 => ?_) (fun c20 => ?_)
      · skip
        refine g_iconst (v := (-1)) dX12_burns_33 (by decide) ?_
        exact g_iret dX12_burns_34 rfl (⟨rfl, rfl, by rw [sp_burns, if_neg (by omega)], mfix.rf, rfl⟩)
      · skip
        refine g_iload dX12_burns_23 rfl ?_
        refine g_iconst (v := nI 0) dX12_burns_25 (by decide) ?_
        refine g_iconst (v := nI 3) dX12_burns_26 (by decide) ?_
        refine p_callS (t_isIn (by first | exact nI_toInt (by omega) | exact pk_sub_toInt (by omega) (by omega)) (by first | exact nI_toInt (by omega) | exact pk_sub_toInt (by omega) (by omega))) okX12_isIn lkX12_96 rfl dX12_burns_27 rfl (Nat.le_of_ble_eq_true rfl) (⟨by decide, by decide, by decide, by decide⟩) ?_
        refine n_if_ne 35 dX12_burns_30 (by decide) (by first | (with_reducible exact cB _) | ((with_reducible apply cN_eq0) <;> omega) | exact Iff.rfl) (fun c30 => ?_) (fun c30 => ?_)
        · skip
          obtain ⟨sn, hsn, rfl⟩ := cI_of (x := s) (n := ns) (by omega) (by omega) (by omega)
          obtain ⟨mn, hmn, rfl⟩ := cI_of (x := m) (n := 100) (by omega) (by omega) (by omega)
          obtain ⟨cn, hcn, rfl⟩ := cI_of (x := c) (n := w * h) (by omega) (by omega) (by omega)
          obtain ⟨xn, hxn, rfl⟩ := cI_of (x := x) (n := 4) (by omega) (by omega) (by omega)
          have hx' : (nI xn).toInt = xn := nI_toInt (by omega)
          have hans : sp_burns w h (I 203) (nI sn) (nI mn) (nI cn) (nI xn) = (if xn = 0 then nI ((fwk w h (I 203) 0 none sn mn).1 cn) else if xn = 1 then nI ((fwk w h (I 203) 0 none sn mn).2.1 cn) else if xn = 2 then nI ((fwk w h (I 203) 0 none sn mn).2.2 cn) else nI (if fair w h (I 203) 0 none mn (fwk w h (I 203) 0 none sn mn) cn = true then 1 else 0)) := by
            rw [sp_burns, if_pos (by omega), nI_clamp (by omega : sn < 2 ^ 31), nI_clamp (by omega : mn < 2 ^ 31), nI_clamp (by omega : cn < 2 ^ 31), hx']
            simp only [show ((xn : Int) = 0) = (xn = 0) from propext (by omega), show ((xn : Int) = 1) = (xn = 1) from propext (by omega), show ((xn : Int) = 2) = (xn = 2) from propext (by omega)]
          rw [hans]
          have hr := t_run (w := w) (h := h) (I := I) (J := J) (s := sn) (u := mn) (wl := 0) (wo := none) (u3 := -1) hP hD' hF (by omega) (by omega) (by omega) wo_none
          refine g_aload_n dX12_burns_35 rfl ?_
          refine g_iload_n dX12_burns_36 rfl ?_
          refine g_iload_n dX12_burns_37 rfl ?_
          refine g_iconst (v := (-1)) dX12_burns_38 (by decide) ?_
          refine g_iconst (v := nI 0) dX12_burns_39 (by decide) ?_
          refine g_callV (hr) okX12_run lkX12_135 rfl (by first | rfl | exact pv_shx) rfl (by omega) (by omega) dX12_burns_40 rfl (Nat.le_of_ble_eq_true rfl) (⟨by decide, by decide, by decide, by decide⟩) ?_
          rintro v nx' I1 J' P' ⟨rfl, rfl, rfl, rfl, g1, g2, g3, g4, g5, g6, g7, g8, g9⟩
          have a1 : I1 203 = I 203 := g1 203 (by decide)
          have ok := fwk_ok (w := w) (h := h) hF.2.1 (wl := 0) (s := sn) (m := mn) (wo := none)
          have q1 : I1 208 cn = nI ((fwk w h (I 203) 0 none sn mn).1 cn) := by rw [g2, arN_at (by omega)]
          have q2 : I1 210 cn = nI ((fwk w h (I 203) 0 none sn mn).2.1 cn) := by rw [g3, arN_at (by omega)]
          have q3 : I1 211 cn = nI ((fwk w h (I 203) 0 none sn mn).2.2 cn) := by rw [g4, arN_at (by omega)]
          rcases (show xn = 0 ∨ xn = 1 ∨ xn = 2 ∨ xn = 3 by omega) with rfl | rfl | rfl | rfl
          · skip
            refine g_iload dX12_burns_43 rfl ?_
            refine g_iconst (v := nI 3) dX12_burns_45 (by decide) ?_
            refine n_icmp_ne 55 dX12_burns_46 (by decide) (by first | ((with_reducible apply cN_eq) <;> omega) | ((with_reducible apply cI_eqn) <;> omega) | exact Iff.rfl) (fun c46 => ?_) (fun c46 => by exfalso; first | omega | exact absurd trivial c46 | exact c46)
            refine g_iload dX12_burns_55 rfl ?_
            refine n_if_ne 69 dX12_burns_57 (by decide) (by first | (with_reducible exact cB _) | ((with_reducible apply cN_eq0) <;> omega) | exact Iff.rfl) (fun c57 => by exfalso; first | omega | exact absurd trivial c57 | exact c57) (fun c57 => ?_)
            refine g_aload_n dX12_burns_60 rfl ?_
            refine g_getP dX12_burns_61 fdX12_25 rfl (by first | rfl | exact pv_shx) (by omega) (by omega) (by decide) rfl (hP _ _ _ rfl) ?_
            refine g_iload_n dX12_burns_64 rfl ?_
            refine n_iald dX12_burns_65 (by first | rfl | exact pv_shx) (by omega) (by omega) (by decide) (rfl) (by omega) (by repeat (first | exact q1 | (apply rd_s; done) | apply rd_n (by omega) | apply rp_s | apply rp_n (by omega) | (apply rdL_s; done) | apply rdL_n (by omega) | apply rpJ_s | apply rpJ_n (by omega) | rfl)) ?_
            refine g_goto 113 dX12_burns_66 (by decide) ?_
            exact g_iret dX12_burns_113 rfl (⟨rfl, rfl, rfl, g1, rfl⟩)
          · skip
            refine g_iload dX12_burns_43 rfl ?_
            refine g_iconst (v := nI 3) dX12_burns_45 (by decide) ?_
            refine n_icmp_ne 55 dX12_burns_46 (by decide) (by first | ((with_reducible apply cN_eq) <;> omega) | ((with_reducible apply cI_eqn) <;> omega) | exact Iff.rfl) (fun c46 => ?_) (fun c46 => by exfalso; first | omega | exact absurd trivial c46 | exact c46)
            refine g_iload dX12_burns_55 rfl ?_
            refine n_if_ne 69 dX12_burns_57 (by decide) (by first | (with_reducible exact cB _) | ((with_reducible apply cN_eq0) <;> omega) | exact Iff.rfl) (fun c57 => ?_) (fun c57 => by exfalso; first | omega | exact absurd trivial c57 | exact c57)
            refine g_iload dX12_burns_69 rfl ?_
            refine g_iconst (v := nI 1) dX12_burns_71 (by decide) ?_
            refine n_icmp_ne 84 dX12_burns_72 (by decide) (by first | ((with_reducible apply cN_eq) <;> omega) | ((with_reducible apply cI_eqn) <;> omega) | exact Iff.rfl) (fun c72 => by exfalso; first | omega | exact absurd trivial c72 | exact c72) (fun c72 => ?_)
            refine g_aload_n dX12_burns_75 rfl ?_
            refine g_getP dX12_burns_76 fdX12_31 rfl (by first | rfl | exact pv_shx) (by omega) (by omega) (by decide) rfl (hP _ _ _ rfl) ?_
            refine g_iload_n dX12_burns_79 rfl ?_
            refine n_iald dX12_burns_80 (by first | rfl | exact pv_shx) (by omega) (by omega) (by decide) (rfl) (by omega) (by repeat (first | exact q2 | (apply rd_s; done) | apply rd_n (by omega) | apply rp_s | apply rp_n (by omega) | (apply rdL_s; done) | apply rdL_n (by omega) | apply rpJ_s | apply rpJ_n (by omega) | rfl)) ?_
            refine g_goto 113 dX12_burns_81 (by decide) ?_
            exact g_iret dX12_burns_113 rfl (⟨rfl, rfl, rfl, g1, rfl⟩)
          · skip
            refine g_iload dX12_burns_43 rfl ?_
            refine g_iconst (v := nI 3) dX12_burns_45 (by decide) ?_
            refine n_icmp_ne 55 dX12_burns_46 (by decide) (by first | ((with_reducible apply cN_eq) <;> omega) | ((with_reducible apply cI_eqn) <;> omega) | exact Iff.rfl) (fun c46 => ?_) (fun c46 => by exfalso; first | omega | exact absurd trivial c46 | exact c46)
            refine g_iload dX12_burns_55 rfl ?_
            refine n_if_ne 69 dX12_burns_57 (by decide) (by first | (with_reducible exact cB _) | ((with_reducible apply cN_eq0) <;> omega) | exact Iff.rfl) (fun c57 => ?_) (fun c57 => by exfalso; first | omega | exact absurd trivial c57 | exact c57)
            refine g_iload dX12_burns_69 rfl ?_
            refine g_iconst (v := nI 1) dX12_burns_71 (by decide) ?_
            refine n_icmp_ne 84 dX12_burns_72 (by decide) (by first | ((with_reducible apply cN_eq) <;> omega) | ((with_reducible apply cI_eqn) <;> omega) | exact Iff.rfl) (fun c72 => ?_) (fun c72 => by exfalso; first | omega | exact absurd trivial c72 | exact c72)
            refine g_iload dX12_burns_84 rfl ?_
            refine g_iconst (v := nI 2) dX12_burns_86 (by decide) ?_
            refine n_icmp_ne 99 dX12_burns_87 (by decide) (by first | ((with_reducible apply cN_eq) <;> omega) | ((with_reducible apply cI_eqn) <;> omega) | exact Iff.rfl) (fun c87 => by exfalso; first | omega | exact absurd trivial c87 | exact c87) (fun c87 => ?_)
            refine g_aload_n dX12_burns_90 rfl ?_
            refine g_getP dX12_burns_91 fdX12_34 rfl (by first | rfl | exact pv_shx) (by omega) (by omega) (by decide) rfl (hP _ _ _ rfl) ?_
            refine g_iload_n dX12_burns_94 rfl ?_
            refine n_iald dX12_burns_95 (by first | rfl | exact pv_shx) (by omega) (by omega) (by decide) (rfl) (by omega) (by repeat (first | exact q3 | (apply rd_s; done) | apply rd_n (by omega) | apply rp_s | apply rp_n (by omega) | (apply rdL_s; done) | apply rdL_n (by omega) | apply rpJ_s | apply rpJ_n (by omega) | rfl)) ?_
            refine g_goto 113 dX12_burns_96 (by decide) ?_
            exact g_iret dX12_burns_113 rfl (⟨rfl, rfl, rfl, g1, rfl⟩)
          · have fle : ∀ c, (if c < 64 then flw (I 203) 0 (mn + 1) c else 0) ≤ 5000 := by
              intro c
              split
              · rename_i hc
                have := flw_le hF.2.1 (wl := 0) (m := mn + 1) (by omega) c hc
                omega
              · omega
            have bl := t_blow (w := w) (h := h) (I := I1) (J := J') (m := mn) (wo := none) (u2 := -1) (fl := fun c => if c < 64 then flw (I 203) 0 (mn + 1) c else 0) (gf := I 212) hP ⟨by rw [g1 202 (by decide)]; exact hw, by rw [g1 202 (by decide)]; exact hh, hw2, hh2⟩ (by rw [a1]; exact hF) (by omega) wo_none g2 (g5.trans (arN_cong (fun c hc => by simp [hc]))) g6 ok.1 fle (fun c => cuB_le)
            rw [a1] at bl
            refine g_iload dX12_burns_43 rfl ?_
            refine g_iconst (v := nI 3) dX12_burns_45 (by decide) ?_
            refine n_icmp_ne 55 dX12_burns_46 (by decide) (by first | ((with_reducible apply cN_eq) <;> omega) | ((with_reducible apply cI_eqn) <;> omega) | exact Iff.rfl) (fun c46 => by exfalso; first | omega | exact absurd trivial c46 | exact c46) (fun c46 => ?_)
            refine g_aload_n dX12_burns_49 rfl ?_
            refine g_iload_n dX12_burns_50 rfl ?_
            refine g_iconst (v := (-1)) dX12_burns_51 (by decide) ?_
            refine g_callV (bl) okX12_blow lkX12_128 rfl (by first | rfl | exact pv_shx) rfl (by omega) (by omega) dX12_burns_52 rfl (Nat.le_of_ble_eq_true rfl) (⟨by decide, by decide, by decide, by decide⟩) ?_
            rintro v nx' I2 J2 P2 ⟨rfl, rfl, rfl, rfl, b1, b2⟩
            have b3 : I2 214 cn = nI (if fair w h (I 203) 0 none mn (fwk w h (I 203) 0 none sn mn) cn = true then 1 else 0) := b2 cn (by omega)
            have b4 : mfix I I2 LR := fun k hk => (b1 k (by simp at hk ⊢; omega)).trans (g1 k hk)
            cases hau : fair w h (I 203) 0 none mn (fwk w h (I 203) 0 none sn mn) cn with
            | true =>
              rw [hau, if_pos rfl] at b3
              refine g_iload dX12_burns_55 rfl ?_
              refine n_if_ne 69 dX12_burns_57 (by decide) (by first | (with_reducible exact cB _) | ((with_reducible apply cN_eq0) <;> omega) | exact Iff.rfl) (fun c57 => ?_) (fun c57 => by exfalso; first | omega | exact absurd trivial c57 | exact c57)
              refine g_iload dX12_burns_69 rfl ?_
              refine g_iconst (v := nI 1) dX12_burns_71 (by decide) ?_
              refine n_icmp_ne 84 dX12_burns_72 (by decide) (by first | ((with_reducible apply cN_eq) <;> omega) | ((with_reducible apply cI_eqn) <;> omega) | exact Iff.rfl) (fun c72 => ?_) (fun c72 => by exfalso; first | omega | exact absurd trivial c72 | exact c72)
              refine g_iload dX12_burns_84 rfl ?_
              refine g_iconst (v := nI 2) dX12_burns_86 (by decide) ?_
              refine n_icmp_ne 99 dX12_burns_87 (by decide) (by first | ((with_reducible apply cN_eq) <;> omega) | ((with_reducible apply cI_eqn) <;> omega) | exact Iff.rfl) (fun c87 => ?_) (fun c87 => by exfalso; first | omega | exact absurd trivial c87 | exact c87)
              refine g_aload_n dX12_burns_99 rfl ?_
              refine g_getP dX12_burns_100 fdX12_43 rfl (by first | rfl | exact pv_shx) (by omega) (by omega) (by decide) rfl (hP _ _ _ rfl) ?_
              refine g_iload_n dX12_burns_103 rfl ?_
              refine n_zald dX12_burns_104 (by first | rfl | exact pv_shx) (by omega) (by omega) (by decide) (rfl) (by omega) (by repeat (first | exact b3 | (apply rd_s; done) | apply rd_n (by omega) | apply rp_s | apply rp_n (by omega) | (apply rdL_s; done) | apply rdL_n (by omega) | apply rpJ_s | apply rpJ_n (by omega) | rfl)) ?_
              refine n_if_eq 112 dX12_burns_105 (by decide) (by first | (with_reducible exact cB _) | ((with_reducible apply cN_eq0) <;> omega) | exact Iff.rfl) (fun c105 => by exfalso; first | omega | exact absurd trivial c105 | exact c105) (fun c105 => ?_)
              refine g_iconst (v := nI 1) dX12_burns_108 (by decide) ?_
              refine g_goto 113 dX12_burns_109 (by decide) ?_
              exact g_iret dX12_burns_113 rfl (⟨rfl, rfl, rfl, b4, rfl⟩)
            | false =>
              rw [hau, if_neg (by decide)] at b3
              refine g_iload dX12_burns_55 rfl ?_
              refine n_if_ne 69 dX12_burns_57 (by decide) (by first | (with_reducible exact cB _) | ((with_reducible apply cN_eq0) <;> omega) | exact Iff.rfl) (fun c57 => ?_) (fun c57 => by exfalso; first | omega | exact absurd trivial c57 | exact c57)
              refine g_iload dX12_burns_69 rfl ?_
              refine g_iconst (v := nI 1) dX12_burns_71 (by decide) ?_
              refine n_icmp_ne 84 dX12_burns_72 (by decide) (by first | ((with_reducible apply cN_eq) <;> omega) | ((with_reducible apply cI_eqn) <;> omega) | exact Iff.rfl) (fun c72 => ?_) (fun c72 => by exfalso; first | omega | exact absurd trivial c72 | exact c72)
              refine g_iload dX12_burns_84 rfl ?_
              refine g_iconst (v := nI 2) dX12_burns_86 (by decide) ?_
              refine n_icmp_ne 99 dX12_burns_87 (by decide) (by first | ((with_reducible apply cN_eq) <;> omega) | ((with_reducible apply cI_eqn) <;> omega) | exact Iff.rfl) (fun c87 => ?_) (fun c87 => by exfalso; first | omega | exact absurd trivial c87 | exact c87)
              refine g_aload_n dX12_burns_99 rfl ?_
              refine g_getP dX12_burns_100 fdX12_43 rfl (by first | rfl | exact pv_shx) (by omega) (by omega) (by decide) rfl (hP _ _ _ rfl) ?_
              refine g_iload_n dX12_burns_103 rfl ?_
              refine n_zald dX12_burns_104 (by first | rfl | exact pv_shx) (by omega) (by omega) (by decide) (rfl) (by omega) (by repeat (first | exact b3 | (apply rd_s; done) | apply rd_n (by omega) | apply rp_s | apply rp_n (by omega) | (apply rdL_s; done) | apply rdL_n (by omega) | apply rpJ_s | apply rpJ_n (by omega) | rfl)) ?_
              refine n_if_eq 112 dX12_burns_105 (by decide) (by first | (with_reducible exact cB _) | ((with_reducible apply cN_eq0) <;> omega) | exact Iff.rfl) (fun c105 => ?_) (fun c105 => by exfalso; first | omega | exact absurd trivial c105 | exact c105)
              refine g_iconst (v := nI 0) dX12_burns_112 (by decide) ?_
              exact g_iret dX12_burns_113 rfl (⟨rfl, rfl, rfl, b4, rfl⟩)
        · skip
          refine g_iconst (v := (-1)) dX12_burns_33 (by decide) ?_
          exact g_iret dX12_burns_34 rfl (⟨rfl, rfl, by rw [sp_burns, if_neg (by omega)], mfix.rf, rfl⟩)
def lostN (w h : Nat) (a : Nat → Int32) (wl : Nat) (wo : Option Nat) (s m : Nat) : Nat := sp_ct (fun c => 0 < (fwk w h a wl wo s m).1 c) 64
def sp_lost (w h : Nat) (a : Nat → Int32) (s m : Int32) : Int32 := if (0 ≤ s.toInt ∧ s.toInt < cnt a 3) ∧ (0 ≤ m.toInt ∧ m.toInt ≤ 99) then nI (lostN w h a 0 none s.toNatClampNeg m.toNatClampNeg) else -1
theorem t_lost {w h : Nat} {I : pvI} {J : pvJ} {P : pvP} (hP : pvOkP P) (hD : mDim w h I) (hF : mF w h (I 203)) {s m : Int32} : pvMet mX12_lost 4 0 0 [.ref 202, .int s, .int m] 224 I J P (mQ2 I J P (sp_lost w h (I 203) s m)) := by
  have hg := hF.1
  obtain ⟨ns, ns_b, ns_h⟩ := hg 3 (by decide)
  replace ns_b : ns ≤ 8 := ns_b
  have ns_e : cnt (I 203) 3 = ns := cnt_of ns_h (by omega)
  refine pvMet.of _ (by decide) rfl (Nat.le_of_ble_eq_true rfl) ?_
  refine g_aload_n dX12_lost_0 rfl ?_
  refine g_iload_n dX12_lost_1 rfl ?_
  refine p_callV (t_isState hP (by omega) ns_h) okX12_isState lkX12_139 rfl (by first | rfl | exact pv_shx) rfl (by omega) (by omega) dX12_lost_2 rfl (Nat.le_of_ble_eq_true rfl) (⟨by decide, by decide, by decide, by decide⟩) ?_
  refine n_if_eq 15 dX12_lost_5 (by decide) (by first | (with_reducible exact cB _) | ((with_reducible apply cN_eq0) <;> omega) | exact Iff.rfl) (fun c5 => ?_) (fun c5 => ?_)
  · skip
    refine g_iconst (v := (-1)) dX12_lost_15 (by decide) ?_
    exact g_iret dX12_lost_16 rfl (⟨rfl, rfl, by rw [sp_lost, if_neg (by omega)], mfix.rf, rfl⟩)
  · skip
    refine g_iload_n dX12_lost_8 rfl ?_
    refine p_callS (t_isWeek) okX12_isWeek lkX12_115 rfl dX12_lost_9 rfl (Nat.le_of_ble_eq_true rfl) (⟨by decide, by decide, by decide, by decide⟩) ?_
    refine n_if_ne 17 dX12_lost_12 (by decide) (by first | (with_reducible exact cB _) | ((with_reducible apply cN_eq0) <;> omega) | exact Iff.rfl) (fun c12 => ?_) (fun c12 => ?_)
    · skip
      obtain ⟨sn, hsn, rfl⟩ := cI_of (x := s) (n := ns) (by omega) (by omega) (by omega)
      obtain ⟨mn, hmn, rfl⟩ := cI_of (x := m) (n := 100) (by omega) (by omega) (by omega)
      have hans : sp_lost w h (I 203) (nI sn) (nI mn) = nI (lostN w h (I 203) 0 none sn mn) := by rw [sp_lost, if_pos (by omega), nI_clamp (by omega : sn < 2 ^ 31), nI_clamp (by omega : mn < 2 ^ 31)]
      rw [hans]
      have hr := t_run (w := w) (h := h) (I := I) (J := J) (s := sn) (u := mn) (wl := 0) (wo := none) (u3 := -1) hP hD hF (by omega) (by omega) (by omega) wo_none
      refine g_aload_n dX12_lost_17 rfl ?_
      refine g_iload_n dX12_lost_18 rfl ?_
      refine g_iload_n dX12_lost_19 rfl ?_
      refine g_iconst (v := (-1)) dX12_lost_20 (by decide) ?_
      refine g_iconst (v := nI 0) dX12_lost_21 (by decide) ?_
      refine g_callV (hr) okX12_run lkX12_135 rfl (by first | rfl | exact pv_shx) rfl (by omega) (by omega) dX12_lost_22 rfl (Nat.le_of_ble_eq_true rfl) (⟨by decide, by decide, by decide, by decide⟩) ?_
      rintro v nx' I1 J' P' ⟨rfl, rfl, rfl, rfl, g1, g2, g3, g4, g5, g6, g7, g8, g9⟩
      refine g_aload_n dX12_lost_25 rfl ?_
      refine g_iload_n dX12_lost_26 rfl ?_
      refine g_iload_n dX12_lost_27 rfl ?_
      refine p_callV (t_lostAt hP (s := sn) (m := mn) (by omega) (by omega) (fun c hc => g8 mn c (by omega) hc) (fwk_ok hF.2.1).1) okX12_lostAt lkX12_142 rfl (by first | rfl | exact pv_shx) rfl (by omega) (by omega) dX12_lost_28 rfl (Nat.le_of_ble_eq_true rfl) (⟨by decide, by decide, by decide, by decide⟩) ?_
      exact g_iret dX12_lost_31 rfl (⟨rfl, rfl, rfl, g1, rfl⟩)
    · skip
      refine g_iconst (v := (-1)) dX12_lost_15 (by decide) ?_
      exact g_iret dX12_lost_16 rfl (⟨rfl, rfl, by rw [sp_lost, if_neg (by omega)], mfix.rf, rfl⟩)
def sp_fed (w h : Nat) (a : Nat → Int32) (s m k : Int32) : Int32 := if (0 ≤ s.toInt ∧ s.toInt < cnt a 3) ∧ (0 ≤ m.toInt ∧ m.toInt ≤ 99) ∧ (0 ≤ k.toInt ∧ k.toInt < cnt a 1) then nI (lostN w h a 0 none s.toNatClampNeg m.toNatClampNeg) - nI (lostN w h a 0 (some k.toNatClampNeg) s.toNatClampNeg m.toNatClampNeg) else -1000
theorem t_fed {w h : Nat} {I : pvI} {J : pvJ} {P : pvP} (hP : pvOkP P) (hD : mDim w h I) (hF : mF w h (I 203)) {s m k : Int32} : pvMet mX12_fed 4 0 0 [.ref 202, .int s, .int m, .int k] 224 I J P (mQ2 I J P (sp_fed w h (I 203) s m k)) := by
  have hg := hF.1
  obtain ⟨ns, ns_b, ns_h⟩ := hg 3 (by decide)
  replace ns_b : ns ≤ 8 := ns_b
  have ns_e : cnt (I 203) 3 = ns := cnt_of ns_h (by omega)
  obtain ⟨nh, nh_b, nh_h⟩ := hg 1 (by decide)
  replace nh_b : nh ≤ 20 := nh_b
  have nh_e : cnt (I 203) 1 = nh := cnt_of nh_h (by omega)
  refine pvMet.of _ (by decide) rfl (Nat.le_of_ble_eq_true rfl) ?_
  refine g_aload_n dX12_fed_0 rfl ?_
  refine g_iload_n dX12_fed_1 rfl ?_
  refine p_callV (t_isState hP (by omega) ns_h) okX12_isState lkX12_139 rfl (by first | rfl | exact pv_shx) rfl (by omega) (by omega) dX12_fed_2 rfl (Nat.le_of_ble_eq_true rfl) (⟨by decide, by decide, by decide, by decide⟩) ?_
  refine n_if_eq 23 dX12_fed_5 (by decide) (by first | (with_reducible exact cB _) | ((with_reducible apply cN_eq0) <;> omega) | exact Iff.rfl) (fun c5 => ?_) (fun c5 => ?_)
  · skip
    refine g_sipush (v := (-1000)) dX12_fed_23 (by decide) ?_
    exact g_iret dX12_fed_26 rfl (⟨rfl, rfl, by rw [sp_fed, if_neg (by omega)], mfix.rf, rfl⟩)
  · skip
    refine g_iload_n dX12_fed_8 rfl ?_
    refine p_callS (t_isWeek) okX12_isWeek lkX12_115 rfl dX12_fed_9 rfl (Nat.le_of_ble_eq_true rfl) (⟨by decide, by decide, by decide, by decide⟩) ?_
    refine n_if_eq 23 dX12_fed_12 (by decide) (by first | (with_reducible exact cB _) | ((with_reducible apply cN_eq0) <;> omega) | exact Iff.rfl) (fun c12 => ?_) (fun c12 => ?_)
    · skip
      refine g_sipush (v := (-1000)) dX12_fed_23 (by decide) ?_
      exact g_iret dX12_fed_26 rfl (⟨rfl, rfl, by rw [sp_fed, if_neg (by omega)], mfix.rf, rfl⟩)
    · skip
      refine g_aload_n dX12_fed_15 rfl ?_
      refine g_iload_n dX12_fed_16 rfl ?_
      refine p_callV (t_isHole hP (by omega) nh_h) okX12_isHole lkX12_104 rfl (by first | rfl | exact pv_shx) rfl (by omega) (by omega) dX12_fed_17 rfl (Nat.le_of_ble_eq_true rfl) (⟨by decide, by decide, by decide, by decide⟩) ?_
      refine n_if_ne 27 dX12_fed_20 (by decide) (by first | (with_reducible exact cB _) | ((with_reducible apply cN_eq0) <;> omega) | exact Iff.rfl) (fun c20 => ?_) (fun c20 => ?_)
      · skip
        obtain ⟨sn, hsn, rfl⟩ := cI_of (x := s) (n := ns) (by omega) (by omega) (by omega)
        obtain ⟨mn, hmn, rfl⟩ := cI_of (x := m) (n := 100) (by omega) (by omega) (by omega)
        obtain ⟨kn, hkn, rfl⟩ := cI_of (x := k) (n := nh) (by omega) (by omega) (by omega)
        have hans : sp_fed w h (I 203) (nI sn) (nI mn) (nI kn) = nI (lostN w h (I 203) 0 none sn mn) - nI (lostN w h (I 203) 0 (some kn) sn mn) := by rw [sp_fed, if_pos (by omega), nI_clamp (by omega : sn < 2 ^ 31), nI_clamp (by omega : mn < 2 ^ 31), nI_clamp (by omega : kn < 2 ^ 31)]
        rw [hans]
        have hr := t_run (w := w) (h := h) (I := I) (J := J) (s := sn) (u := mn) (wl := 0) (wo := none) (u3 := -1) hP hD hF (by omega) (by omega) (by omega) wo_none
        refine g_aload_n dX12_fed_27 rfl ?_
        refine g_iload_n dX12_fed_28 rfl ?_
        refine g_iload_n dX12_fed_29 rfl ?_
        refine g_iconst (v := (-1)) dX12_fed_30 (by decide) ?_
        refine g_iconst (v := nI 0) dX12_fed_31 (by decide) ?_
        refine g_callV (hr) okX12_run lkX12_135 rfl (by first | rfl | exact pv_shx) rfl (by omega) (by omega) dX12_fed_32 rfl (Nat.le_of_ble_eq_true rfl) (⟨by decide, by decide, by decide, by decide⟩) ?_
        rintro v nx' I1 J' P' ⟨rfl, rfl, rfl, rfl, g1, g2, g3, g4, g5, g6, g7, g8, g9⟩
        have a1 : I1 203 = I 203 := g1 203 (by decide)
        have hr2 := t_run (w := w) (h := h) (I := I1) (J := J') (s := sn) (u := mn) (wl := 0) (wo := some kn) (u3 := nI kn) hP ⟨by rw [g1 202 (by decide)]; exact hD.1, by rw [g1 202 (by decide)]; exact hD.2.1, hD.2.2⟩ (by rw [a1]; exact hF) (by rw [a1]; omega) (by omega) (by omega) (wo_some (by omega))
        refine g_aload_n dX12_fed_35 rfl ?_
        refine g_iload_n dX12_fed_36 rfl ?_
        refine g_iload_n dX12_fed_37 rfl ?_
        refine p_callV (t_lostAt hP (s := sn) (m := mn) (by omega) (by omega) (fun c hc => g8 mn c (by omega) hc) (fwk_ok hF.2.1).1) okX12_lostAt lkX12_142 rfl (by first | rfl | exact pv_shx) rfl (by omega) (by omega) dX12_fed_38 rfl (Nat.le_of_ble_eq_true rfl) (⟨by decide, by decide, by decide, by decide⟩) ?_
        refine g_istore dX12_fed_41 (by decide) rfl ?_
        refine g_aload_n dX12_fed_43 rfl ?_
        refine g_iload_n dX12_fed_44 rfl ?_
        refine g_iload_n dX12_fed_45 rfl ?_
        refine g_iload_n dX12_fed_46 rfl ?_
        refine g_iconst (v := nI 0) dX12_fed_47 (by decide) ?_
        refine g_callV (hr2) okX12_run lkX12_135 rfl (by first | rfl | exact pv_shx) rfl (by omega) (by omega) dX12_fed_48 rfl (Nat.le_of_ble_eq_true rfl) (⟨by decide, by decide, by decide, by decide⟩) ?_
        rintro v nx' I2 J2 P2 ⟨rfl, rfl, rfl, rfl, f1, f2, f3, f4, f5, f6, f7, f8, f9⟩
        rw [a1] at f8
        refine g_iload dX12_fed_51 rfl ?_
        refine g_aload_n dX12_fed_53 rfl ?_
        refine g_iload_n dX12_fed_54 rfl ?_
        refine g_iload_n dX12_fed_55 rfl ?_
        refine p_callV (t_lostAt hP (s := sn) (m := mn) (by omega) (by omega) (fun c hc => f8 mn c (by omega) hc) (fwk_ok hF.2.1).1) okX12_lostAt lkX12_142 rfl (by first | rfl | exact pv_shx) rfl (by omega) (by omega) dX12_fed_56 rfl (Nat.le_of_ble_eq_true rfl) (⟨by decide, by decide, by decide, by decide⟩) ?_
        refine n_isub dX12_fed_59 (rfl) ?_
        exact g_iret dX12_fed_60 rfl (⟨rfl, rfl, rfl, g1.tr f1, rfl⟩)
      · skip
        refine g_sipush (v := (-1000)) dX12_fed_23 (by decide) ?_
        exact g_iret dX12_fed_26 rfl (⟨rfl, rfl, by rw [sp_fed, if_neg (by omega)], mfix.rf, rfl⟩)
