/-! class: in time, the call -/
section CI2
variable {w h : Nat} {a : Nat → Int32} {I : pvI} {J : pvJ} {P : pvP}
theorem kB.n2 (hb : kB w h a I J) : cnt a 2 ≤ 10 ∧ I 9 5 = nI (cnt a 2) := by
  obtain ⟨k3, k3b, -⟩ := mG_eq hb.2.2.2.2.1.1 (i := 2) (by decide)
  exact ⟨k3b, by rw [hb.2.1.2.2.1.2.2.2.1]; exact k3⟩
theorem late_01 {s t : Nat} (ht : t < cnt a 2) : (if anyB (lateI w h a s t) (tr_n a t) = true then (0 : Int32) else 1) = if lateN w h a s t = 0 then 1 else 0 := by
  have h1 := lateN_iff (w := w) (h := h) (a := a) (s := s) ht
  have h2 := lateN_lt (w := w) (h := h) (a := a) (s := s) (t := t)
  by_cases z : anyB (lateI w h a s t) (tr_n a t) = true
  · have := h1.mpr z
    rw [if_pos z, if_neg (by omega)]
  · have : ¬ lateN w h a s t = 1 := fun y => z (h1.mp y)
    rw [if_neg z, if_pos (by omega)]
theorem c_inTime {t s : Int32} (hP : pvOkP P) (hb : kB w h a I J) : pvMet mX11_inTime 7 0 0 [.ref 1, .int t, .int s] 224 I J P (kQ w h a I J P (sp_inTime w h a t s)) := by
  obtain ⟨n3, r3⟩ := hb.n3
  obtain ⟨n0, r0⟩ := hb.n0
  obtain ⟨n2, r2⟩ := hb.n2
  have hs := c_hasState (v := s) (J := J) hP r3 (by omega)
  have e2 : (nI (cnt a 2)).toInt = cnt a 2 := nI_toInt (by omega)
  by_cases c0 : 0 ≤ t.toInt ∧ t.toInt < cnt a 2
  · obtain ⟨tn, htn, rfl⟩ := cI_of (x := t) (n := cnt a 2) (by omega) (by omega) (by omega)
    have et : (nI tn).toNatClampNeg = tn := nI_clamp (by omega)
    by_cases w1 : 0 ≤ s.toInt ∧ s.toInt < cnt a 3
    · rw [if_pos w1] at hs
      obtain ⟨sn, hsn, rfl⟩ := cI_of (x := s) (n := cnt a 3) (by omega) (by omega) (by omega)
      refine pvMet.of _ (by decide) rfl (Nat.le_of_ble_eq_true rfl) ?_
      refine g_iload_n dX11_inTime_0 rfl ?_
      refine n_if_lt 18 dX11_inTime_1 (by decide) (by first | ((with_reducible apply cN_lt0) <;> omega) | (with_reducible exact cI_lt0)) (fun c1 => by exfalso; first | omega | exact absurd trivial c1 | exact c1 | (simp at c1)) (fun c1 => ?_)
      refine g_iload_n dX11_inTime_4 rfl ?_
      refine g_aload_n dX11_inTime_5 rfl ?_
      refine g_getP dX11_inTime_6 fdX11_32 rfl (by first | rfl | exact pv_shx) (by omega) (by omega) (by decide) rfl (hP _ _ _ rfl) ?_
      refine g_getP dX11_inTime_9 fdX11_112 rfl (by first | rfl | exact pv_shx) (by omega) (by omega) (by decide) rfl (hP _ _ _ rfl) ?_
      refine n_getI dX11_inTime_12 fdX11_149 rfl (by first | rfl | exact pv_shx) (by omega) (by omega) (by decide) rfl (by repeat (first | exact r2 | (apply rd_s; done) | apply rd_n (by omega) | apply rp_s | apply rp_n (by omega) | (apply rdL_s; done) | apply rdL_n (by omega) | apply rpJ_s | apply rpJ_n (by omega) | rfl)) ?_
      refine n_icmp_lt 20 dX11_inTime_15 (by decide) (by first | ((with_reducible apply cN_lt) <;> omega) | ((with_reducible apply cI_ltn) <;> omega) | ((with_reducible apply cI_nlt) <;> omega) | (with_reducible exact cI_lt)) (fun c15 => ?_) (fun c15 => by exfalso; first | omega | exact absurd trivial c15 | exact c15 | (simp at c15))
      have s0 := (fad_ok (show sn < 9 by omega)).sh.1.1
      have bs := fad_lt (show sn < 8 by omega)
      have es : (nI sn).toNatClampNeg = sn := nI_clamp (by omega)
      have ct := c_cutsInTime (s := sn) (t := tn) hP hb hsn htn
      have ans : sp_inTime w h a (nI tn) (nI sn) = if lateN w h a sn tn = 1 then nI 0 else nI 1 := by
        rw [sp_inTime, if_pos ⟨c0, Or.inr w1⟩, if_neg (by omega), es, et]
      rw [ans]
      have h2 := lateN_lt (w := w) (h := h) (a := a) (s := sn) (t := tn)
      unfold citQ at ct
      rw [late_01 htn] at ct
      by_cases z : lateN w h a sn tn = 1
      · rw [if_neg (by omega)] at ct
        rw [if_pos z]
        refine g_aload_n dX11_inTime_20 rfl ?_
        refine g_iload_n dX11_inTime_21 rfl ?_
        refine p_callV (hs) okX11_hasState lkX11_189 rfl (by first | rfl | exact pv_shx) rfl (by omega) (by omega) dX11_inTime_22 rfl (Nat.le_of_ble_eq_true rfl) (⟨by decide, by decide, by decide, by decide⟩) ?_
        refine n_if_eq 48 dX11_inTime_25 (by decide) (by first | (with_reducible exact cB _) | ((with_reducible apply cN_eq0) <;> omega) | exact Iff.rfl) (fun c25 => by exfalso; first | omega | exact absurd trivial c25 | exact c25 | (simp at c25)) (fun c25 => ?_)
        refine g_aload_n dX11_inTime_28 rfl ?_
        refine g_iload_n dX11_inTime_29 rfl ?_
        refine g_aload_n dX11_inTime_30 rfl ?_
        refine g_getP dX11_inTime_31 fdX11_41 rfl (by first | rfl | exact pv_shx) (by omega) (by omega) (by decide) rfl (hP _ _ _ rfl) ?_
        refine g_iload_n dX11_inTime_34 rfl ?_
        refine g_aald _ dX11_inTime_35 (by first | exact Or.inl rfl | exact Or.inr rfl) (by omega) (by omega) (by decide) (rfl) (by omega) (fires_P hP (by omega)) ?_
        refine g_callV (ct) okX11_cutsInTime lkX11_232 rfl (by first | rfl | exact pv_shx) rfl (by omega) (by omega) dX11_inTime_36 rfl (Nat.le_of_ble_eq_true rfl) (⟨by decide, by decide, by decide, by decide⟩) ?_
        rintro v nx' I1 J1 P' ⟨rfl, rfl, rfl, q1, q2⟩
        refine n_if_eq 46 dX11_inTime_39 (by decide) (by first | (with_reducible exact cB _) | ((with_reducible apply cN_eq0) <;> omega) | exact Iff.rfl) (fun c39 => ?_) (fun c39 => by exfalso; first | omega | exact absurd trivial c39 | exact c39 | (simp at c39))
        refine g_iconst (v := nI 0) dX11_inTime_46 (by decide) ?_
        exact g_iret dX11_inTime_47 rfl (⟨rfl, rfl, rfl, q1, q2.q (fad_ok (by omega))⟩)
      · rw [if_pos (by omega)] at ct
        rw [if_neg z]
        refine g_aload_n dX11_inTime_20 rfl ?_
        refine g_iload_n dX11_inTime_21 rfl ?_
        refine p_callV (hs) okX11_hasState lkX11_189 rfl (by first | rfl | exact pv_shx) rfl (by omega) (by omega) dX11_inTime_22 rfl (Nat.le_of_ble_eq_true rfl) (⟨by decide, by decide, by decide, by decide⟩) ?_
        refine n_if_eq 48 dX11_inTime_25 (by decide) (by first | (with_reducible exact cB _) | ((with_reducible apply cN_eq0) <;> omega) | exact Iff.rfl) (fun c25 => by exfalso; first | omega | exact absurd trivial c25 | exact c25 | (simp at c25)) (fun c25 => ?_)
        refine g_aload_n dX11_inTime_28 rfl ?_
        refine g_iload_n dX11_inTime_29 rfl ?_
        refine g_aload_n dX11_inTime_30 rfl ?_
        refine g_getP dX11_inTime_31 fdX11_41 rfl (by first | rfl | exact pv_shx) (by omega) (by omega) (by decide) rfl (hP _ _ _ rfl) ?_
        refine g_iload_n dX11_inTime_34 rfl ?_
        refine g_aald _ dX11_inTime_35 (by first | exact Or.inl rfl | exact Or.inr rfl) (by omega) (by omega) (by decide) (rfl) (by omega) (fires_P hP (by omega)) ?_
        refine g_callV (ct) okX11_cutsInTime lkX11_232 rfl (by first | rfl | exact pv_shx) rfl (by omega) (by omega) dX11_inTime_36 rfl (Nat.le_of_ble_eq_true rfl) (⟨by decide, by decide, by decide, by decide⟩) ?_
        rintro v nx' I1 J1 P' ⟨rfl, rfl, rfl, q1, q2⟩
        refine n_if_eq 46 dX11_inTime_39 (by decide) (by first | (with_reducible exact cB _) | ((with_reducible apply cN_eq0) <;> omega) | exact Iff.rfl) (fun c39 => by exfalso; first | omega | exact absurd trivial c39 | exact c39 | (simp at c39)) (fun c39 => ?_)
        refine g_iconst (v := nI 1) dX11_inTime_42 (by decide) ?_
        refine g_goto 47 dX11_inTime_43 (by decide) ?_
        exact g_iret dX11_inTime_47 rfl (⟨rfl, rfl, rfl, q1, q2.q (fad_ok (by omega))⟩)
    · rw [if_neg w1] at hs
      have se := c_see (m := cnt a 0) hP hb n0
      refine pvMet.of _ (by decide) rfl (Nat.le_of_ble_eq_true rfl) ?_
      refine g_iload_n dX11_inTime_0 rfl ?_
      refine n_if_lt 18 dX11_inTime_1 (by decide) (by first | ((with_reducible apply cN_lt0) <;> omega) | (with_reducible exact cI_lt0)) (fun c1 => by exfalso; first | omega | exact absurd trivial c1 | exact c1 | (simp at c1)) (fun c1 => ?_)
      refine g_iload_n dX11_inTime_4 rfl ?_
      refine g_aload_n dX11_inTime_5 rfl ?_
      refine g_getP dX11_inTime_6 fdX11_32 rfl (by first | rfl | exact pv_shx) (by omega) (by omega) (by decide) rfl (hP _ _ _ rfl) ?_
      refine g_getP dX11_inTime_9 fdX11_112 rfl (by first | rfl | exact pv_shx) (by omega) (by omega) (by decide) rfl (hP _ _ _ rfl) ?_
      refine n_getI dX11_inTime_12 fdX11_149 rfl (by first | rfl | exact pv_shx) (by omega) (by omega) (by decide) rfl (by repeat (first | exact r2 | exact r0 | (apply rd_s; done) | apply rd_n (by omega) | apply rp_s | apply rp_n (by omega) | (apply rdL_s; done) | apply rdL_n (by omega) | apply rpJ_s | apply rpJ_n (by omega) | rfl)) ?_
      refine n_icmp_lt 20 dX11_inTime_15 (by decide) (by first | ((with_reducible apply cN_lt) <;> omega) | ((with_reducible apply cI_ltn) <;> omega) | ((with_reducible apply cI_nlt) <;> omega) | (with_reducible exact cI_lt)) (fun c15 => ?_) (fun c15 => by exfalso; first | omega | exact absurd trivial c15 | exact c15 | (simp at c15))
      refine g_aload_n dX11_inTime_20 rfl ?_
      refine g_iload_n dX11_inTime_21 rfl ?_
      refine p_callV (hs) okX11_hasState lkX11_189 rfl (by first | rfl | exact pv_shx) rfl (by omega) (by omega) dX11_inTime_22 rfl (Nat.le_of_ble_eq_true rfl) (⟨by decide, by decide, by decide, by decide⟩) ?_
      refine n_if_eq 48 dX11_inTime_25 (by decide) (by first | (with_reducible exact cB _) | ((with_reducible apply cN_eq0) <;> omega) | exact Iff.rfl) (fun c25 => ?_) (fun c25 => by exfalso; first | omega | exact absurd trivial c25 | exact c25 | (simp at c25))
      refine g_aload_n dX11_inTime_48 rfl ?_
      refine g_aload_n dX11_inTime_49 rfl ?_
      refine g_getP dX11_inTime_50 fdX11_32 rfl (by first | rfl | exact pv_shx) (by omega) (by omega) (by decide) rfl (hP _ _ _ rfl) ?_
      refine n_getI dX11_inTime_53 fdX11_77 rfl (by first | rfl | exact pv_shx) (by omega) (by omega) (by decide) rfl (by repeat (first | exact r2 | exact r0 | (apply rd_s; done) | apply rd_n (by omega) | apply rp_s | apply rp_n (by omega) | (apply rdL_s; done) | apply rdL_n (by omega) | apply rpJ_s | apply rpJ_n (by omega) | rfl)) ?_
      refine g_callV (se) okX11_see lkX11_236 rfl (by first | rfl | exact pv_shx) rfl (by omega) (by omega) dX11_inTime_56 rfl (Nat.le_of_ble_eq_true rfl) (⟨by decide, by decide, by decide, by decide⟩) ?_
      rintro v nx' I1 J1 P' ⟨rfl, rfl, rfl, q1, q2, q3, q4⟩
      have la := c_letNow hP q1 q3 (by omega)
      have hll := ltN_lt (w := w) (h := h) (a := a) (kn := cnt a 0) n3
      have hz := ltN_0 (w := w) (h := h) (a := a) (kn := cnt a 0)
      have hlc := ltN_ct (w := w) (h := h) (a := a) (kn := cnt a 0) n3
      have hdm : ∀ i, ltN w h a (cnt a 0) / 2 ^ i % 2 = 1 ↔ (i < cnt a 3 ∧ letB w h a i (cnt a 0) = true) := fun i => bN_dm
      generalize ltN w h a (cnt a 0) = lt at *
      by_cases c2 : s = -1
      · by_cases c3 : nLet w h a (cnt a 0) = 0
        · have : lt = 0 := hz.mpr c3
          have ans : sp_inTime w h a (nI tn) s = -1 := by
            rw [sp_inTime, if_pos ⟨c0, Or.inl (cI_m1.mp c2)⟩, if_pos (cI_m1.mp c2), allSome, if_pos c3]
          rw [ans]
          refine g_aload_n dX11_inTime_59 rfl ?_
          refine p_callV (la) okX11_letNow lkX11_239 rfl (by first | rfl | exact pv_shx) rfl (by omega) (by omega) dX11_inTime_60 rfl (Nat.le_of_ble_eq_true rfl) (⟨by decide, by decide, by decide, by decide⟩) ?_
          refine g_istore_n dX11_inTime_63 (by decide) rfl ?_
          refine g_iload_n dX11_inTime_64 rfl ?_
          refine g_iconst (v := (-1)) dX11_inTime_65 (by decide) ?_
          refine n_icmp_ne 73 dX11_inTime_66 (by decide) (Iff.rfl) (fun c66 => by exfalso; exact c66 c2) (fun c66 => ?_)
          refine g_iload_n dX11_inTime_69 rfl ?_
          refine n_if_ne 75 dX11_inTime_70 (by decide) (by first | (with_reducible exact cB _) | ((with_reducible apply cN_eq0) <;> omega) | exact Iff.rfl) (fun c70 => by exfalso; first | omega | exact absurd trivial c70 | exact c70 | (simp at c70)) (fun c70 => ?_)
          refine g_iconst (v := (-1)) dX11_inTime_73 (by decide) ?_
          exact g_iret dX11_inTime_74 rfl (⟨rfl, rfl, rfl, q1, q2⟩)
        · have : lt ≠ 0 := fun y => c3 (hz.mp y)
          have ans : sp_inTime w h a (nI tn) s = if nGood w h a tn = nLet w h a (cnt a 0) then nI 2 else if 0 < nGood w h a tn then nI 1 else nI 0 := by
            rw [sp_inTime, if_pos ⟨c0, Or.inl (cI_m1.mp c2)⟩, if_pos (cI_m1.mp c2), allSome, if_neg c3, et]
          rw [ans]
          have lp : ∀ q i I2 J2, i + q = cnt a 3 → kB w h a I2 J2 → qF I J I2 J2 → pvG mX11_inTime (pvR 7 0 0) (pvZ (kQ w h a I J P' (if nGood w h a tn = nLet w h a (cnt a 0) then nI 2 else if 0 < nGood w h a tn then nI 1 else nI 0)) 0 0) 81 [.ref 1, .int (nI tn), .int s, .int (nI lt), .int (nI (sp_ct (fun s => letB w h a s (cnt a 0) = true ∧ lateN w h a s tn = 0) i)), .int (nI i)] [] 0 0 224 I2 J2 P' := by
            intro q
            induction q with
            | zero =>
              intro i I2 J2 hi b2 f2
              obtain rfl : i = cnt a 3 := by omega
              have r2 := b2.n3.2
              have bc := t_bitCount8 (nx := 224) (I := I2) (J := J2) (P := P') hll
              rw [hlc] at bc
              have hl3 : nLet w h a (cnt a 0) ≤ cnt a 3 := sp_ct_le _
              have hg3 : nGood w h a tn ≤ cnt a 3 := sp_ct_le _
              have ao := c_allOrSome (nx := 224) (b := nGood w h a tn) (all := nLet w h a (cnt a 0)) (I := I2) (J := J2) (P := P') (by omega) (by omega)
              rw [show sp_ct (fun s => letB w h a s (cnt a 0) = true ∧ lateN w h a s tn = 0) (cnt a 3) = nGood w h a tn from rfl]
              refine g_iload dX11_inTime_81 rfl ?_
              refine g_aload_n dX11_inTime_83 rfl ?_
              refine g_getP dX11_inTime_84 fdX11_32 rfl (by first | rfl | exact pv_shx) (by omega) (by omega) (by decide) rfl (hP _ _ _ rfl) ?_
              refine g_getP dX11_inTime_87 fdX11_163 rfl (by first | rfl | exact pv_shx) (by omega) (by omega) (by decide) rfl (hP _ _ _ rfl) ?_
              refine n_getI dX11_inTime_90 fdX11_167 rfl (by first | rfl | exact pv_shx) (by omega) (by omega) (by decide) rfl (by repeat (first | exact r2 | (apply rd_s; done) | apply rd_n (by omega) | apply rp_s | apply rp_n (by omega) | (apply rdL_s; done) | apply rdL_n (by omega) | apply rpJ_s | apply rpJ_n (by omega) | rfl)) ?_
              refine n_icmp_ge 129 dX11_inTime_93 (by decide) (by first | ((with_reducible apply cN_le) <;> omega) | ((with_reducible apply cI_len) <;> omega) | ((with_reducible apply cI_nle) <;> omega) | (with_reducible exact cI_le)) (fun c93 => ?_) (fun c93 => by exfalso; first | omega | exact absurd trivial c93 | exact c93 | (simp at c93))
              refine g_iload dX11_inTime_129 rfl ?_
              refine g_iload_n dX11_inTime_131 rfl ?_
              refine p_callS (bc) okJ6_bitCount_0f7a4 lkX11_247 rfl dX11_inTime_132 rfl (Nat.le_of_ble_eq_true rfl) (⟨by decide, by decide, by decide, by decide⟩) ?_
              refine p_callS (ao) okX11_allOrSome lkX11_252 rfl dX11_inTime_135 rfl (Nat.le_of_ble_eq_true rfl) (⟨by decide, by decide, by decide, by decide⟩) ?_
              exact g_iret dX11_inTime_138 rfl (⟨rfl, rfl, rfl, b2, f2⟩)
            | succ q ih =>
              intro i I2 J2 hi b2 f2
              have r2 := b2.n3.2
              have ii := c_isIn (nx := 224) (k := i) (I := I2) (J := J2) (P := P') (n := lt) (by omega) (by omega)
              have ct := c_cutsInTime (s := i) (t := tn) hP b2 (by omega) htn
              unfold citQ at ct
              rw [late_01 htn] at ct
              have hle := sp_ct_le (p := fun s => letB w h a s (cnt a 0) = true ∧ lateN w h a s tn = 0) i
              have es : sp_ct (fun s => letB w h a s (cnt a 0) = true ∧ lateN w h a s tn = 0) (i + 1) = sp_ct (fun s => letB w h a s (cnt a 0) = true ∧ lateN w h a s tn = 0) i + (if letB w h a i (cnt a 0) = true ∧ lateN w h a i tn = 0 then 1 else 0) := rfl
              have nx := fun I3 J3 z1 z2 => ih (i + 1) I3 J3 (by omega) z1 z2
              have s0 := (fad_ok (show i < 9 by omega)).sh.1.1
              have bs := fad_lt (show i < 8 by omega)
              by_cases hl : letB w h a i (cnt a 0) = true
              · have hz2 : lt / 2 ^ i % 2 = 1 := (hdm i).mpr ⟨by omega, hl⟩
                rw [if_pos hz2] at ii
                by_cases hf : lateN w h a i tn = 0
                · rw [if_pos hf] at ct
                  rw [if_pos ⟨hl, hf⟩] at es
                  rw [es] at nx
                  refine g_iload dX11_inTime_81 rfl ?_
                  refine g_aload_n dX11_inTime_83 rfl ?_
                  refine g_getP dX11_inTime_84 fdX11_32 rfl (by first | rfl | exact pv_shx) (by omega) (by omega) (by decide) rfl (hP _ _ _ rfl) ?_
                  refine g_getP dX11_inTime_87 fdX11_163 rfl (by first | rfl | exact pv_shx) (by omega) (by omega) (by decide) rfl (hP _ _ _ rfl) ?_
                  refine n_getI dX11_inTime_90 fdX11_167 rfl (by first | rfl | exact pv_shx) (by omega) (by omega) (by decide) rfl (by repeat (first | exact r2 | (apply rd_s; done) | apply rd_n (by omega) | apply rp_s | apply rp_n (by omega) | (apply rdL_s; done) | apply rdL_n (by omega) | apply rpJ_s | apply rpJ_n (by omega) | rfl)) ?_
                  refine n_icmp_ge 129 dX11_inTime_93 (by decide) (by first | ((with_reducible apply cN_le) <;> omega) | ((with_reducible apply cI_len) <;> omega) | ((with_reducible apply cI_nle) <;> omega) | (with_reducible exact cI_le)) (fun c93 => by exfalso; first | omega | exact absurd trivial c93 | exact c93 | (simp at c93)) (fun c93 => ?_)
                  refine g_iload_n dX11_inTime_96 rfl ?_
                  refine g_iload dX11_inTime_97 rfl ?_
                  refine p_callS (ii) okX11_isIn lkX11_243 rfl dX11_inTime_99 rfl (Nat.le_of_ble_eq_true rfl) (⟨by decide, by decide, by decide, by decide⟩) ?_
                  refine n_if_eq 123 dX11_inTime_102 (by decide) (by first | (with_reducible exact cB _) | ((with_reducible apply cN_eq0) <;> omega) | exact Iff.rfl) (fun c102 => by exfalso; first | omega | exact absurd trivial c102 | exact c102 | (simp at c102)) (fun c102 => ?_)
                  refine g_aload_n dX11_inTime_105 rfl ?_
                  refine g_iload_n dX11_inTime_106 rfl ?_
                  refine g_aload_n dX11_inTime_107 rfl ?_
                  refine g_getP dX11_inTime_108 fdX11_41 rfl (by first | rfl | exact pv_shx) (by omega) (by omega) (by decide) rfl (hP _ _ _ rfl) ?_
                  refine g_iload dX11_inTime_111 rfl ?_
                  refine g_aald _ dX11_inTime_113 (by first | exact Or.inl rfl | exact Or.inr rfl) (by omega) (by omega) (by decide) (rfl) (by omega) (fires_P hP (by omega)) ?_
                  refine g_callV (ct) okX11_cutsInTime lkX11_232 rfl (by first | rfl | exact pv_shx) rfl (by omega) (by omega) dX11_inTime_114 rfl (Nat.le_of_ble_eq_true rfl) (⟨by decide, by decide, by decide, by decide⟩) ?_
                  rintro v nx' I3 J3 P'' ⟨rfl, rfl, rfl, y1, y2⟩
                  refine n_if_eq 123 dX11_inTime_117 (by decide) (by first | (with_reducible exact cB _) | ((with_reducible apply cN_eq0) <;> omega) | exact Iff.rfl) (fun c117 => by exfalso; first | omega | exact absurd trivial c117 | exact c117 | (simp at c117)) (fun c117 => ?_)
                  refine g_iinc dX11_inTime_120 rfl (by first | (with_reducible exact nI_1 _) | exact nI_1 _ | exact pk_m1 _ | rfl) (by decide) rfl ?_
                  refine g_iinc dX11_inTime_123 rfl (by first | (with_reducible exact nI_1 _) | exact nI_1 _ | exact pk_m1 _ | rfl) (by decide) rfl ?_
                  refine g_goto 81 dX11_inTime_126 (by decide) ?_
                  exact nx I3 J3 y1 (f2.tr (y2.q (fad_ok (by omega))))
                · rw [if_neg hf] at ct
                  rw [if_neg (fun z => hf z.2), Nat.add_zero] at es
                  rw [es] at nx
                  refine g_iload dX11_inTime_81 rfl ?_
                  refine g_aload_n dX11_inTime_83 rfl ?_
                  refine g_getP dX11_inTime_84 fdX11_32 rfl (by first | rfl | exact pv_shx) (by omega) (by omega) (by decide) rfl (hP _ _ _ rfl) ?_
                  refine g_getP dX11_inTime_87 fdX11_163 rfl (by first | rfl | exact pv_shx) (by omega) (by omega) (by decide) rfl (hP _ _ _ rfl) ?_
                  refine n_getI dX11_inTime_90 fdX11_167 rfl (by first | rfl | exact pv_shx) (by omega) (by omega) (by decide) rfl (by repeat (first | exact r2 | (apply rd_s; done) | apply rd_n (by omega) | apply rp_s | apply rp_n (by omega) | (apply rdL_s; done) | apply rdL_n (by omega) | apply rpJ_s | apply rpJ_n (by omega) | rfl)) ?_
                  refine n_icmp_ge 129 dX11_inTime_93 (by decide) (by first | ((with_reducible apply cN_le) <;> omega) | ((with_reducible apply cI_len) <;> omega) | ((with_reducible apply cI_nle) <;> omega) | (with_reducible exact cI_le)) (fun c93 => by exfalso; first | omega | exact absurd trivial c93 | exact c93 | (simp at c93)) (fun c93 => ?_)
                  refine g_iload_n dX11_inTime_96 rfl ?_
                  refine g_iload dX11_inTime_97 rfl ?_
                  refine p_callS (ii) okX11_isIn lkX11_243 rfl dX11_inTime_99 rfl (Nat.le_of_ble_eq_true rfl) (⟨by decide, by decide, by decide, by decide⟩) ?_
                  refine n_if_eq 123 dX11_inTime_102 (by decide) (by first | (with_reducible exact cB _) | ((with_reducible apply cN_eq0) <;> omega) | exact Iff.rfl) (fun c102 => by exfalso; first | omega | exact absurd trivial c102 | exact c102 | (simp at c102)) (fun c102 => ?_)
                  refine g_aload_n dX11_inTime_105 rfl ?_
                  refine g_iload_n dX11_inTime_106 rfl ?_
                  refine g_aload_n dX11_inTime_107 rfl ?_
                  refine g_getP dX11_inTime_108 fdX11_41 rfl (by first | rfl | exact pv_shx) (by omega) (by omega) (by decide) rfl (hP _ _ _ rfl) ?_
                  refine g_iload dX11_inTime_111 rfl ?_
                  refine g_aald _ dX11_inTime_113 (by first | exact Or.inl rfl | exact Or.inr rfl) (by omega) (by omega) (by decide) (rfl) (by omega) (fires_P hP (by omega)) ?_
                  refine g_callV (ct) okX11_cutsInTime lkX11_232 rfl (by first | rfl | exact pv_shx) rfl (by omega) (by omega) dX11_inTime_114 rfl (Nat.le_of_ble_eq_true rfl) (⟨by decide, by decide, by decide, by decide⟩) ?_
                  rintro v nx' I3 J3 P'' ⟨rfl, rfl, rfl, y1, y2⟩
                  refine n_if_eq 123 dX11_inTime_117 (by decide) (by first | (with_reducible exact cB _) | ((with_reducible apply cN_eq0) <;> omega) | exact Iff.rfl) (fun c117 => ?_) (fun c117 => by exfalso; first | omega | exact absurd trivial c117 | exact c117 | (simp at c117))
                  refine g_iinc dX11_inTime_123 rfl (by first | (with_reducible exact nI_1 _) | exact nI_1 _ | exact pk_m1 _ | rfl) (by decide) rfl ?_
                  refine g_goto 81 dX11_inTime_126 (by decide) ?_
                  exact nx I3 J3 y1 (f2.tr (y2.q (fad_ok (by omega))))
              · have hz2 : ¬ lt / 2 ^ i % 2 = 1 := fun z => hl ((hdm i).mp z).2
                rw [if_neg hz2] at ii
                rw [if_neg (fun z => hl z.1), Nat.add_zero] at es
                rw [es] at nx
                refine g_iload dX11_inTime_81 rfl ?_
                refine g_aload_n dX11_inTime_83 rfl ?_
                refine g_getP dX11_inTime_84 fdX11_32 rfl (by first | rfl | exact pv_shx) (by omega) (by omega) (by decide) rfl (hP _ _ _ rfl) ?_
                refine g_getP dX11_inTime_87 fdX11_163 rfl (by first | rfl | exact pv_shx) (by omega) (by omega) (by decide) rfl (hP _ _ _ rfl) ?_
                refine n_getI dX11_inTime_90 fdX11_167 rfl (by first | rfl | exact pv_shx) (by omega) (by omega) (by decide) rfl (by repeat (first | exact r2 | (apply rd_s; done) | apply rd_n (by omega) | apply rp_s | apply rp_n (by omega) | (apply rdL_s; done) | apply rdL_n (by omega) | apply rpJ_s | apply rpJ_n (by omega) | rfl)) ?_
                refine n_icmp_ge 129 dX11_inTime_93 (by decide) (by first | ((with_reducible apply cN_le) <;> omega) | ((with_reducible apply cI_len) <;> omega) | ((with_reducible apply cI_nle) <;> omega) | (with_reducible exact cI_le)) (fun c93 => by exfalso; first | omega | exact absurd trivial c93 | exact c93 | (simp at c93)) (fun c93 => ?_)
                refine g_iload_n dX11_inTime_96 rfl ?_
                refine g_iload dX11_inTime_97 rfl ?_
                refine p_callS (ii) okX11_isIn lkX11_243 rfl dX11_inTime_99 rfl (Nat.le_of_ble_eq_true rfl) (⟨by decide, by decide, by decide, by decide⟩) ?_
                refine n_if_eq 123 dX11_inTime_102 (by decide) (by first | (with_reducible exact cB _) | ((with_reducible apply cN_eq0) <;> omega) | exact Iff.rfl) (fun c102 => ?_) (fun c102 => by exfalso; first | omega | exact absurd trivial c102 | exact c102 | (simp at c102))
                refine g_iinc dX11_inTime_123 rfl (by first | (with_reducible exact nI_1 _) | exact nI_1 _ | exact pk_m1 _ | rfl) (by decide) rfl ?_
                refine g_goto 81 dX11_inTime_126 (by decide) ?_
                exact nx I2 J2 b2 f2
          have go := lp (cnt a 3) 0 I1 J1 (by omega) q1 q2
          refine g_aload_n dX11_inTime_59 rfl ?_
          refine p_callV (la) okX11_letNow lkX11_239 rfl (by first | rfl | exact pv_shx) rfl (by omega) (by omega) dX11_inTime_60 rfl (Nat.le_of_ble_eq_true rfl) (⟨by decide, by decide, by decide, by decide⟩) ?_
          refine g_istore_n dX11_inTime_63 (by decide) rfl ?_
          refine g_iload_n dX11_inTime_64 rfl ?_
          refine g_iconst (v := (-1)) dX11_inTime_65 (by decide) ?_
          refine n_icmp_ne 73 dX11_inTime_66 (by decide) (Iff.rfl) (fun c66 => by exfalso; exact c66 c2) (fun c66 => ?_)
          refine g_iload_n dX11_inTime_69 rfl ?_
          refine n_if_ne 75 dX11_inTime_70 (by decide) (by first | (with_reducible exact cB _) | ((with_reducible apply cN_eq0) <;> omega) | exact Iff.rfl) (fun c70 => ?_) (fun c70 => by exfalso; first | omega | exact absurd trivial c70 | exact c70 | (simp at c70))
          refine g_iconst (v := nI 0) dX11_inTime_75 (by decide) ?_
          refine g_istore dX11_inTime_76 (by decide) rfl ?_
          refine g_iconst (v := nI 0) dX11_inTime_78 (by decide) ?_
          refine g_istore dX11_inTime_79 (by decide) rfl ?_
          exact go
      · have ans : sp_inTime w h a (nI tn) s = -1 := by
          rw [sp_inTime, if_neg (fun z => z.2.elim (fun y => c2 (cI_m1.mpr y)) w1)]
        rw [ans]
        refine g_aload_n dX11_inTime_59 rfl ?_
        refine p_callV (la) okX11_letNow lkX11_239 rfl (by first | rfl | exact pv_shx) rfl (by omega) (by omega) dX11_inTime_60 rfl (Nat.le_of_ble_eq_true rfl) (⟨by decide, by decide, by decide, by decide⟩) ?_
        refine g_istore_n dX11_inTime_63 (by decide) rfl ?_
        refine g_iload_n dX11_inTime_64 rfl ?_
        refine g_iconst (v := (-1)) dX11_inTime_65 (by decide) ?_
        refine n_icmp_ne 73 dX11_inTime_66 (by decide) (Iff.rfl) (fun c66 => ?_) (fun c66 => by exfalso; exact c2 c66)
        refine g_iconst (v := (-1)) dX11_inTime_73 (by decide) ?_
        exact g_iret dX11_inTime_74 rfl (⟨rfl, rfl, rfl, q1, q2⟩)
  · have ans : sp_inTime w h a t s = -1 := by rw [sp_inTime, if_neg (fun z => c0 z.1)]
    rw [ans]
    by_cases c1 : t.toInt < 0
    · skip
      refine pvMet.of _ (by decide) rfl (Nat.le_of_ble_eq_true rfl) ?_
      refine g_iload_n dX11_inTime_0 rfl ?_
      refine n_if_lt 18 dX11_inTime_1 (by decide) (by first | ((with_reducible apply cN_lt0) <;> omega) | (with_reducible exact cI_lt0)) (fun c1 => ?_) (fun c1 => by exfalso; first | omega | exact absurd trivial c1 | exact c1 | (simp at c1))
      refine g_iconst (v := (-1)) dX11_inTime_18 (by decide) ?_
      exact g_iret dX11_inTime_19 rfl (⟨rfl, rfl, rfl, hb, qF.rf⟩)
    · skip
      refine pvMet.of _ (by decide) rfl (Nat.le_of_ble_eq_true rfl) ?_
      refine g_iload_n dX11_inTime_0 rfl ?_
      refine n_if_lt 18 dX11_inTime_1 (by decide) (by first | ((with_reducible apply cN_lt0) <;> omega) | (with_reducible exact cI_lt0)) (fun c1 => by exfalso; first | omega | exact absurd trivial c1 | exact c1 | (simp at c1)) (fun c1 => ?_)
      refine g_iload_n dX11_inTime_4 rfl ?_
      refine g_aload_n dX11_inTime_5 rfl ?_
      refine g_getP dX11_inTime_6 fdX11_32 rfl (by first | rfl | exact pv_shx) (by omega) (by omega) (by decide) rfl (hP _ _ _ rfl) ?_
      refine g_getP dX11_inTime_9 fdX11_112 rfl (by first | rfl | exact pv_shx) (by omega) (by omega) (by decide) rfl (hP _ _ _ rfl) ?_
      refine n_getI dX11_inTime_12 fdX11_149 rfl (by first | rfl | exact pv_shx) (by omega) (by omega) (by decide) rfl (by repeat (first | exact r2 | (apply rd_s; done) | apply rd_n (by omega) | apply rp_s | apply rp_n (by omega) | (apply rdL_s; done) | apply rdL_n (by omega) | apply rpJ_s | apply rpJ_n (by omega) | rfl)) ?_
      refine n_icmp_lt 20 dX11_inTime_15 (by decide) (by first | ((with_reducible apply cN_lt) <;> omega) | ((with_reducible apply cI_ltn) <;> omega) | ((with_reducible apply cI_nlt) <;> omega) | (with_reducible exact cI_lt)) (fun c15 => by exfalso; first | omega | exact absurd trivial c15 | exact c15 | (simp at c15)) (fun c15 => ?_)
      refine g_iconst (v := (-1)) dX11_inTime_18 (by decide) ?_
      exact g_iret dX11_inTime_19 rfl (⟨rfl, rfl, rfl, hb, qF.rf⟩)
end CI2
