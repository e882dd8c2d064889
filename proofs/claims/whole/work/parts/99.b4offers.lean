/-! class: weeks: offers are taken -/
section OFF
variable {n : Nat} {P : pvP} {J : pvJ}
/-- only who went is changed -/
def tkF (I I' : pvI) : Prop := ∀ z, z ≠ 37 → z ≠ 38 → I' z = I z
def offQ (b : Nat → Int32) (I : pvI) (J : pvJ) (P : pvP) : pvQT := pvq P (fun v I' J' => v = none ∧ J' = J ∧ rTwn 3 b I' ∧ tkF I I')
theorem k_offers {a : Nat → Int32} {I : pvI} {Z : pvZT} {clk st : Nat} (hP : pvOkP P) (hl : mLv n a) (hclk : cnt a 0 = clk) (hst : st ≤ 60) (kk : ∀ I2, rTwn 3 (sp_pass a (cnt a 6)) I2 → tkF I I2 → pvG mX7_takeOffers (pvR 1 0 0) Z 94 [.ref 27, .int (nI clk), .int (if sp_any a (cnt a 6) = true then 1 else 0), .int (nI st), .retAddr 0] [] 0 0 224 I2 J P) : ∀ q p I1, p + q = cnt a 6 → rTwn 3 (sp_pass a p) I1 → tkF I I1 → pvG mX7_takeOffers (pvR 1 0 0) Z 19 [.ref 27, .int (nI clk), .int (if sp_any a p = true then 1 else 0), .int (nI st), .int (nI p)] [] 0 0 224 I1 J P := by
  have n6 : cnt a 6 ≤ 60 := hl.2.2.2.le (by decide)
  have n0 : cnt a 0 ≤ 100 := hl.2.2.2.le (by decide)
  intro q
  induction q with
  | zero =>
    intro p I1 hp hr ht
    obtain rfl : p = cnt a 6 := by omega
    have kp := sp_pass_keep (a := a) (n := cnt a 6) n6
    have r6 : I1 27 6 = nI (cnt a 6) := by
      have h6 : I1 27 6 = sp_pass a (cnt a 6) 6 := hr.2.2.1
      rw [h6, kp 6 (by decide) (by omega)]
      exact (mG_eq hl.2.2.2 (i := 6) (by decide)).1
    refine g_iload dX7_takeOffers_19 rfl ?_
    refine g_aload_n dX7_takeOffers_21 rfl ?_
    refine n_getI dX7_takeOffers_22 fdX7_55 rfl (by first | rfl | exact pv_shx) (by omega) (by omega) (by decide) rfl (by repeat (first | exact r6 | (apply rd_s; done) | apply rd_n (by omega) | apply rp_s | apply rp_n (by omega) | (apply rdL_s; done) | apply rdL_n (by omega) | apply rpJ_s | apply rpJ_n (by omega) | rfl)) ?_
    refine n_icmp_ge 94 dX7_takeOffers_25 (by decide) (by first | ((with_reducible apply cN_le) <;> omega) | ((with_reducible apply cI_len) <;> omega) | ((with_reducible apply cI_nle) <;> omega) | (with_reducible exact cI_le)) (fun c25 => ?_) (fun c25 => by exfalso; first | omega | exact absurd trivial c25 | exact c25 | (simp at c25))
    exact g_drop _ (by repeat (first | exact trivial | refine ⟨Or.inr ⟨_, rfl⟩, ?_⟩ | refine ⟨Or.inl rfl, ?_⟩)) (kk I1 hr ht)
  | succ q ih =>
    intro p I1 hp hr ht
    have kp := sp_pass_keep (a := a) (n := p) (by omega)
    have lp := (mLv_pass hl (i := p) (by omega)).1
    have c6 : cnt (sp_pass a p) 6 = cnt a 6 := sp_keep_cnt kp (by decide) (by omega)
    have c0 : cnt (sp_pass a p) 0 = clk := (sp_keep_cnt kp (by decide) (by omega)).trans hclk
    have r6 : I1 27 6 = nI (cnt a 6) := by
      have h6 : I1 27 6 = sp_pass a p 6 := hr.2.2.1
      rw [h6, kp 6 (by decide) (by omega)]
      exact (mG_eq hl.2.2.2 (i := 6) (by decide)).1
    have hpp : p < cnt (sp_pass a p) 6 := by omega
    obtain ⟨hm, kn, ak, hd, pr, pu, ⟨b1, b2, b3, b4, b5, b6, b7, b8⟩, f1, f2, f3, f4, f5, f6, g1, g2, g3, g4, g5, g6, f7, f8, f9⟩ := tk_nums hr lp hpp
    have tks := c_takes (J := J) hP hr lp hpp
    have wor := (lp.1 p hpp).2.2.2.2
    have is := c_isThere (p := p) (a := a) (I := I1) (J := J) (P := P) hP (by omega) (by rw [f9]; exact wor)
    rw [f9] at is
    have nx0 : ∀ I2, ¬ sp_tk (sp_pass a p) p → rTwn 3 (sp_pass a p) I2 → tkF I I2 → pvG mX7_takeOffers (pvR 1 0 0) Z 19 [.ref 27, .int (nI clk), .int (if sp_any a p = true then 1 else 0), .int (nI st), .int (nI (p + 1))] [] 0 0 224 I2 J P := by
      intro I2 hno z1 z2
      have e1 : sp_pass a (p + 1) = sp_pass a p := by show sp_step (sp_pass a p) p = _; unfold sp_step; rw [if_neg hno]
      have e2 : sp_any a (p + 1) = sp_any a p := by show (sp_any a p || decide (sp_tk (sp_pass a p) p)) = _; rw [decide_eq_false hno, Bool.or_false]
      have := ih (p + 1) I2 (by omega) (by rw [e1]; exact z1) z2
      rw [e2] at this
      exact this
    by_cases v1 : (sp_pass a p (1200 + 5 * p + 4)).toInt < 0
    · rw [if_pos v1] at is
      have hlt : (sp_pass a p (1080 + 5 * hm + 4) < nI clk) ↔ (sp_pass a p (1080 + 5 * hm + 4)).toInt < (clk : Int) := by rw [Int32.lt_iff_toInt_lt, nI_toInt (by omega)]
      by_cases v2 : (sp_pass a p (1080 + 5 * hm + 4)).toInt < (clk : Int)
      · have nx := nx0 I1 (fun z => by have := z.2.1; rw [g1, c0] at this; omega) hr ht
        generalize sp_pass a p (1080 + 5 * hm + 4) = T at *
        refine g_iload dX7_takeOffers_19 rfl ?_
        refine g_aload_n dX7_takeOffers_21 rfl ?_
        refine n_getI dX7_takeOffers_22 fdX7_55 rfl (by first | rfl | exact pv_shx) (by omega) (by omega) (by decide) rfl (by repeat (first | exact r6 | exact f1 | exact f8 | (apply rd_s; done) | apply rd_n (by omega) | apply rp_s | apply rp_n (by omega) | (apply rdL_s; done) | apply rdL_n (by omega) | apply rpJ_s | apply rpJ_n (by omega) | rfl)) ?_
        refine n_icmp_ge 94 dX7_takeOffers_25 (by decide) (by first | ((with_reducible apply cN_le) <;> omega) | ((with_reducible apply cI_len) <;> omega) | ((with_reducible apply cI_nle) <;> omega) | (with_reducible exact cI_le)) (fun c25 => by exfalso; first | omega | exact absurd trivial c25 | exact c25 | (simp at c25)) (fun c25 => ?_)
        refine g_aload_n dX7_takeOffers_28 rfl ?_
        refine g_iload dX7_takeOffers_29 rfl ?_
        refine p_callV (is) okX7_isThere lkX7_61 rfl (by first | rfl | exact pv_shx) rfl (by omega) (by omega) dX7_takeOffers_31 rfl (Nat.le_of_ble_eq_true rfl) (⟨by decide, by decide, by decide, by decide⟩) ?_
        refine n_if_eq 88 dX7_takeOffers_34 (by decide) (by first | (with_reducible exact cB _) | ((with_reducible apply cN_eq0) <;> omega) | exact Iff.rfl) (fun c34 => by exfalso; first | omega | exact absurd trivial c34 | exact c34 | (simp at c34)) (fun c34 => ?_)
        refine g_aload_n dX7_takeOffers_37 rfl ?_
        refine g_getP dX7_takeOffers_38 fdX7_24 rfl (by first | rfl | exact pv_shx) (by omega) (by omega) (by decide) rfl (hP _ _ _ rfl) ?_
        refine g_aload_n dX7_takeOffers_41 rfl ?_
        refine g_getP dX7_takeOffers_42 fdX7_27 rfl (by first | rfl | exact pv_shx) (by omega) (by omega) (by decide) rfl (hP _ _ _ rfl) ?_
        refine g_iload dX7_takeOffers_45 rfl ?_
        refine n_iald dX7_takeOffers_47 (by first | rfl | exact pv_shx) (by omega) (by omega) (by decide) (rfl) (by omega) (by repeat (first | exact r6 | exact f1 | exact f8 | (apply rd_s; done) | apply rd_n (by omega) | apply rp_s | apply rp_n (by omega) | (apply rdL_s; done) | apply rdL_n (by omega) | apply rpJ_s | apply rpJ_n (by omega) | rfl)) ?_
        refine n_iald dX7_takeOffers_48 (by first | rfl | exact pv_shx) (by omega) (by omega) (by decide) (rfl) (by omega) (by repeat (first | exact r6 | exact f1 | exact f8 | (apply rd_s; done) | apply rd_n (by omega) | apply rp_s | apply rp_n (by omega) | (apply rdL_s; done) | apply rdL_n (by omega) | apply rpJ_s | apply rpJ_n (by omega) | rfl)) ?_
        refine g_iload_n dX7_takeOffers_49 rfl ?_
        refine n_icmp_lt 88 dX7_takeOffers_50 (by decide) (hlt) (fun c50 => ?_) (fun c50 => by exfalso; first | omega | exact absurd trivial c50 | exact c50 | (simp at c50))
        refine g_iinc dX7_takeOffers_88 rfl (by first | (with_reducible exact nI_1 _) | exact nI_1 _ | exact pk_m1 _ | rfl) (by decide) rfl ?_
        refine g_goto 19 dX7_takeOffers_91 (by decide) ?_
        exact nx
      · by_cases v3 : cnt (sp_pass a p) (1200 + 5 * p + 2) ≤ cnt (sp_pass a p) (1080 + 5 * cnt (sp_pass a p) (1200 + 5 * p) + 3) + 100 * cnt (sp_pass a p) (1200 + 5 * p + 3) + cnt (sp_pass a p) 14 * sp_ct (sp_kgP (sp_pass a p) (sp_pass a p (1200 + 5 * p + 1))) (cnt (sp_pass a p) 6)
        · have htk : sp_tk (sp_pass a p) p := ⟨v1, by rw [g1, c0]; omega, v3⟩
          rw [if_pos v3] at tks
          have hct : sp_ct (sp_kgP (sp_pass a p) (nI kn)) (cnt (sp_pass a p) 6) ≤ 60 := Nat.le_trans (sp_ct_le _) (by omega)
          have e2 : (if sp_any a (p + 1) = true then (1 : Int32) else 0) = 1 := by
            have : sp_any a (p + 1) = true := by
              show (sp_any a p || decide (sp_tk (sp_pass a p) p)) = true
              rw [decide_eq_true htk, Bool.or_true]
            rw [if_pos this]
          have fin : ∀ I2, I2 37 = upd (I1 37) p (nI clk) → I2 38 = upd (I1 38) kn (nI (sp_ct (sp_kgP (sp_pass a p) (nI kn)) (cnt (sp_pass a p) 6) + 1)) → (∀ z, z ≠ 37 → z ≠ 38 → I2 z = I1 z) → pvG mX7_takeOffers (pvR 1 0 0) Z 19 [.ref 27, .int (nI clk), .int (nI 1), .int (nI st), .int (nI (p + 1))] [] 0 0 224 I2 J P := by
            intro I2 z1 z2 z3
            have := ih (p + 1) I2 (by omega) (hr.go lp hpp htk g2 b4 (by rw [c0]; exact z1) z2 z3) (fun z y1 y2 => (z3 z y1 y2).trans (ht z y1 y2))
            rw [e2] at this
            exact this
          generalize sp_pass a p (1080 + 5 * hm + 4) = T at *
          generalize sp_ct (sp_kgP (sp_pass a p) (nI kn)) (cnt (sp_pass a p) 6) = ct at *
          refine g_iload dX7_takeOffers_19 rfl ?_
          refine g_aload_n dX7_takeOffers_21 rfl ?_
          refine n_getI dX7_takeOffers_22 fdX7_55 rfl (by first | rfl | exact pv_shx) (by omega) (by omega) (by decide) rfl (by repeat (first | exact r6 | exact f1 | exact f8 | exact f2 | exact f7 | (apply rd_s; done) | apply rd_n (by omega) | apply rp_s | apply rp_n (by omega) | (apply rdL_s; done) | apply rdL_n (by omega) | apply rpJ_s | apply rpJ_n (by omega) | rfl)) ?_
          refine n_icmp_ge 94 dX7_takeOffers_25 (by decide) (by first | ((with_reducible apply cN_le) <;> omega) | ((with_reducible apply cI_len) <;> omega) | ((with_reducible apply cI_nle) <;> omega) | (with_reducible exact cI_le)) (fun c25 => by exfalso; first | omega | exact absurd trivial c25 | exact c25 | (simp at c25)) (fun c25 => ?_)
          refine g_aload_n dX7_takeOffers_28 rfl ?_
          refine g_iload dX7_takeOffers_29 rfl ?_
          refine p_callV (is) okX7_isThere lkX7_61 rfl (by first | rfl | exact pv_shx) rfl (by omega) (by omega) dX7_takeOffers_31 rfl (Nat.le_of_ble_eq_true rfl) (⟨by decide, by decide, by decide, by decide⟩) ?_
          refine n_if_eq 88 dX7_takeOffers_34 (by decide) (by first | (with_reducible exact cB _) | ((with_reducible apply cN_eq0) <;> omega) | exact Iff.rfl) (fun c34 => by exfalso; first | omega | exact absurd trivial c34 | exact c34 | (simp at c34)) (fun c34 => ?_)
          refine g_aload_n dX7_takeOffers_37 rfl ?_
          refine g_getP dX7_takeOffers_38 fdX7_24 rfl (by first | rfl | exact pv_shx) (by omega) (by omega) (by decide) rfl (hP _ _ _ rfl) ?_
          refine g_aload_n dX7_takeOffers_41 rfl ?_
          refine g_getP dX7_takeOffers_42 fdX7_27 rfl (by first | rfl | exact pv_shx) (by omega) (by omega) (by decide) rfl (hP _ _ _ rfl) ?_
          refine g_iload dX7_takeOffers_45 rfl ?_
          refine n_iald dX7_takeOffers_47 (by first | rfl | exact pv_shx) (by omega) (by omega) (by decide) (rfl) (by omega) (by repeat (first | exact r6 | exact f1 | exact f8 | exact f2 | exact f7 | (apply rd_s; done) | apply rd_n (by omega) | apply rp_s | apply rp_n (by omega) | (apply rdL_s; done) | apply rdL_n (by omega) | apply rpJ_s | apply rpJ_n (by omega) | rfl)) ?_
          refine n_iald dX7_takeOffers_48 (by first | rfl | exact pv_shx) (by omega) (by omega) (by decide) (rfl) (by omega) (by repeat (first | exact r6 | exact f1 | exact f8 | exact f2 | exact f7 | (apply rd_s; done) | apply rd_n (by omega) | apply rp_s | apply rp_n (by omega) | (apply rdL_s; done) | apply rdL_n (by omega) | apply rpJ_s | apply rpJ_n (by omega) | rfl)) ?_
          refine g_iload_n dX7_takeOffers_49 rfl ?_
          refine n_icmp_lt 88 dX7_takeOffers_50 (by decide) (hlt) (fun c50 => by exfalso; first | omega | exact absurd trivial c50 | exact c50 | (simp at c50)) (fun c50 => ?_)
          refine g_aload_n dX7_takeOffers_53 rfl ?_
          refine g_iload dX7_takeOffers_54 rfl ?_
          refine p_callV (tks) okX7_takes lkX7_65 rfl (by first | rfl | exact pv_shx) rfl (by omega) (by omega) dX7_takeOffers_56 rfl (Nat.le_of_ble_eq_true rfl) (⟨by decide, by decide, by decide, by decide⟩) ?_
          refine n_if_eq 88 dX7_takeOffers_59 (by decide) (by first | (with_reducible exact cB _) | ((with_reducible apply cN_eq0) <;> omega) | exact Iff.rfl) (fun c59 => by exfalso; first | omega | exact absurd trivial c59 | exact c59 | (simp at c59)) (fun c59 => ?_)
          refine g_aload_n dX7_takeOffers_62 rfl ?_
          refine g_getP dX7_takeOffers_63 fdX7_39 rfl (by first | rfl | exact pv_shx) (by omega) (by omega) (by decide) rfl (hP _ _ _ rfl) ?_
          refine g_iload dX7_takeOffers_66 rfl ?_
          refine g_iload_n dX7_takeOffers_68 rfl ?_
          refine n_iast dX7_takeOffers_69 (by first | rfl | exact pv_shx) (by omega) (by omega) (by omega) (by decide) (rfl) (by omega) (by repeat (first | exact pvu_s | exact pvuJ_s | apply pvu_in (by omega) | apply pvuJ_in (by omega) | exact pvu_pvs | exact pvuJ_pvs)) ?_
          refine g_aload_n dX7_takeOffers_70 rfl ?_
          refine g_getP dX7_takeOffers_71 fdX7_42 rfl (by first | rfl | exact pv_shx) (by omega) (by omega) (by decide) rfl (hP _ _ _ rfl) ?_
          refine g_aload_n dX7_takeOffers_74 rfl ?_
          refine g_getP dX7_takeOffers_75 fdX7_30 rfl (by first | rfl | exact pv_shx) (by omega) (by omega) (by decide) rfl (hP _ _ _ rfl) ?_
          refine g_iload dX7_takeOffers_78 rfl ?_
          refine n_iald dX7_takeOffers_80 (by first | rfl | exact pv_shx) (by omega) (by omega) (by decide) (rfl) (by omega) (by repeat (first | exact r6 | exact f1 | exact f8 | exact f2 | exact f7 | (apply rd_s; done) | apply rd_n (by omega) | apply rp_s | apply rp_n (by omega) | (apply rdL_s; done) | apply rdL_n (by omega) | apply rpJ_s | apply rpJ_n (by omega) | rfl)) ?_
          refine g_dup2 dX7_takeOffers_81 rfl rfl ?_
          refine n_iald dX7_takeOffers_82 (by first | rfl | exact pv_shx) (by omega) (by omega) (by decide) (rfl) (by omega) (by repeat (first | exact r6 | exact f1 | exact f8 | exact f2 | exact f7 | (apply rd_s; done) | apply rd_n (by omega) | apply rp_s | apply rp_n (by omega) | (apply rdL_s; done) | apply rdL_n (by omega) | apply rpJ_s | apply rpJ_n (by omega) | rfl)) ?_
          refine g_iconst (v := nI 1) dX7_takeOffers_83 (by decide) ?_
          refine n_iadd dX7_takeOffers_84 (by first | (with_reducible exact nI_add _ _) | rfl) ?_
          refine n_iast dX7_takeOffers_85 (by first | rfl | exact pv_shx) (by omega) (by omega) (by omega) (by decide) (rfl) (by omega) (by repeat (first | exact pvu_s | exact pvuJ_s | apply pvu_in (by omega) | apply pvuJ_in (by omega) | exact pvu_pvs | exact pvuJ_pvs)) ?_
          refine g_iconst (v := nI 1) dX7_takeOffers_86 (by decide) ?_
          refine g_istore_n dX7_takeOffers_87 (by decide) rfl ?_
          refine g_iinc dX7_takeOffers_88 rfl (by first | (with_reducible exact nI_1 _) | exact nI_1 _ | exact pk_m1 _ | rfl) (by decide) rfl ?_
          refine g_goto 19 dX7_takeOffers_91 (by decide) ?_
          exact fin _ (by simp [pvs]) (by simp [pvs]) (fun z z1 z2 => by simp [pvs, z1, z2])
        · rw [if_neg v3] at tks
          have nx := nx0 I1 (fun z => v3 z.2.2) hr ht
          generalize sp_pass a p (1080 + 5 * hm + 4) = T at *
          refine g_iload dX7_takeOffers_19 rfl ?_
          refine g_aload_n dX7_takeOffers_21 rfl ?_
          refine n_getI dX7_takeOffers_22 fdX7_55 rfl (by first | rfl | exact pv_shx) (by omega) (by omega) (by decide) rfl (by repeat (first | exact r6 | exact f1 | exact f8 | (apply rd_s; done) | apply rd_n (by omega) | apply rp_s | apply rp_n (by omega) | (apply rdL_s; done) | apply rdL_n (by omega) | apply rpJ_s | apply rpJ_n (by omega) | rfl)) ?_
          refine n_icmp_ge 94 dX7_takeOffers_25 (by decide) (by first | ((with_reducible apply cN_le) <;> omega) | ((with_reducible apply cI_len) <;> omega) | ((with_reducible apply cI_nle) <;> omega) | (with_reducible exact cI_le)) (fun c25 => by exfalso; first | omega | exact absurd trivial c25 | exact c25 | (simp at c25)) (fun c25 => ?_)
          refine g_aload_n dX7_takeOffers_28 rfl ?_
          refine g_iload dX7_takeOffers_29 rfl ?_
          refine p_callV (is) okX7_isThere lkX7_61 rfl (by first | rfl | exact pv_shx) rfl (by omega) (by omega) dX7_takeOffers_31 rfl (Nat.le_of_ble_eq_true rfl) (⟨by decide, by decide, by decide, by decide⟩) ?_
          refine n_if_eq 88 dX7_takeOffers_34 (by decide) (by first | (with_reducible exact cB _) | ((with_reducible apply cN_eq0) <;> omega) | exact Iff.rfl) (fun c34 => by exfalso; first | omega | exact absurd trivial c34 | exact c34 | (simp at c34)) (fun c34 => ?_)
          refine g_aload_n dX7_takeOffers_37 rfl ?_
          refine g_getP dX7_takeOffers_38 fdX7_24 rfl (by first | rfl | exact pv_shx) (by omega) (by omega) (by decide) rfl (hP _ _ _ rfl) ?_
          refine g_aload_n dX7_takeOffers_41 rfl ?_
          refine g_getP dX7_takeOffers_42 fdX7_27 rfl (by first | rfl | exact pv_shx) (by omega) (by omega) (by decide) rfl (hP _ _ _ rfl) ?_
          refine g_iload dX7_takeOffers_45 rfl ?_
          refine n_iald dX7_takeOffers_47 (by first | rfl | exact pv_shx) (by omega) (by omega) (by decide) (rfl) (by omega) (by repeat (first | exact r6 | exact f1 | exact f8 | (apply rd_s; done) | apply rd_n (by omega) | apply rp_s | apply rp_n (by omega) | (apply rdL_s; done) | apply rdL_n (by omega) | apply rpJ_s | apply rpJ_n (by omega) | rfl)) ?_
          refine n_iald dX7_takeOffers_48 (by first | rfl | exact pv_shx) (by omega) (by omega) (by decide) (rfl) (by omega) (by repeat (first | exact r6 | exact f1 | exact f8 | (apply rd_s; done) | apply rd_n (by omega) | apply rp_s | apply rp_n (by omega) | (apply rdL_s; done) | apply rdL_n (by omega) | apply rpJ_s | apply rpJ_n (by omega) | rfl)) ?_
          refine g_iload_n dX7_takeOffers_49 rfl ?_
          refine n_icmp_lt 88 dX7_takeOffers_50 (by decide) (hlt) (fun c50 => by exfalso; first | omega | exact absurd trivial c50 | exact c50 | (simp at c50)) (fun c50 => ?_)
          refine g_aload_n dX7_takeOffers_53 rfl ?_
          refine g_iload dX7_takeOffers_54 rfl ?_
          refine p_callV (tks) okX7_takes lkX7_65 rfl (by first | rfl | exact pv_shx) rfl (by omega) (by omega) dX7_takeOffers_56 rfl (Nat.le_of_ble_eq_true rfl) (⟨by decide, by decide, by decide, by decide⟩) ?_
          refine n_if_eq 88 dX7_takeOffers_59 (by decide) (by first | (with_reducible exact cB _) | ((with_reducible apply cN_eq0) <;> omega) | exact Iff.rfl) (fun c59 => ?_) (fun c59 => by exfalso; first | omega | exact absurd trivial c59 | exact c59 | (simp at c59))
          refine g_iinc dX7_takeOffers_88 rfl (by first | (with_reducible exact nI_1 _) | exact nI_1 _ | exact pk_m1 _ | rfl) (by decide) rfl ?_
          refine g_goto 19 dX7_takeOffers_91 (by decide) ?_
          exact nx
    · rw [if_neg v1] at is
      have nx := nx0 I1 (fun z => v1 z.1) hr ht
      refine g_iload dX7_takeOffers_19 rfl ?_
      refine g_aload_n dX7_takeOffers_21 rfl ?_
      refine n_getI dX7_takeOffers_22 fdX7_55 rfl (by first | rfl | exact pv_shx) (by omega) (by omega) (by decide) rfl (by repeat (first | exact r6 | (apply rd_s; done) | apply rd_n (by omega) | apply rp_s | apply rp_n (by omega) | (apply rdL_s; done) | apply rdL_n (by omega) | apply rpJ_s | apply rpJ_n (by omega) | rfl)) ?_
      refine n_icmp_ge 94 dX7_takeOffers_25 (by decide) (by first | ((with_reducible apply cN_le) <;> omega) | ((with_reducible apply cI_len) <;> omega) | ((with_reducible apply cI_nle) <;> omega) | (with_reducible exact cI_le)) (fun c25 => by exfalso; first | omega | exact absurd trivial c25 | exact c25 | (simp at c25)) (fun c25 => ?_)
      refine g_aload_n dX7_takeOffers_28 rfl ?_
      refine g_iload dX7_takeOffers_29 rfl ?_
      refine p_callV (is) okX7_isThere lkX7_61 rfl (by first | rfl | exact pv_shx) rfl (by omega) (by omega) dX7_takeOffers_31 rfl (Nat.le_of_ble_eq_true rfl) (⟨by decide, by decide, by decide, by decide⟩) ?_
      refine n_if_eq 88 dX7_takeOffers_34 (by decide) (by first | (with_reducible exact cB _) | ((with_reducible apply cN_eq0) <;> omega) | exact Iff.rfl) (fun c34 => ?_) (fun c34 => by exfalso; first | omega | exact absurd trivial c34 | exact c34 | (simp at c34))
      refine g_iinc dX7_takeOffers_88 rfl (by first | (with_reducible exact nI_1 _) | exact nI_1 _ | exact pk_m1 _ | rfl) (by decide) rfl ?_
      refine g_goto 19 dX7_takeOffers_91 (by decide) ?_
      exact nx
theorem c_takeOffers {a : Nat → Int32} {I : pvI} {clk : Nat} (hP : pvOkP P) (hl : mLv n a) (hclk : cnt a 0 = clk) (hr : rTwn 3 a I) : pvMet mX7_takeOffers 1 0 0 [.ref 27, .int (nI clk)] 224 I J P (offQ (sp_lv 61 a) I J P) := by
  have lp : ∀ k st b I1, st + k = 61 → mLv n b → cnt b 0 = clk → rTwn 3 b I1 → tkF I I1 → sp_lv k b = sp_lv 61 a → pvG mX7_takeOffers (pvR 1 0 0) (pvZ (offQ (sp_lv 61 a) I J P) 0 0) 4 [.ref 27, .int (nI clk), .int (nI 1), .int (nI st), .retAddr 0] [] 0 0 224 I1 J P := by
    intro k
    induction k with
    | zero =>
      intro st b I1 hs h1 h2 h3 h4 h5
      have h5 : b = sp_lv 61 a := h5
      refine g_iload_n dX7_takeOffers_4 rfl ?_
      refine g_bipush (v := nI 60) dX7_takeOffers_5 (by decide) ?_
      refine n_icmp_gt 100 dX7_takeOffers_7 (by decide) (by first | ((with_reducible apply cN_lt) <;> omega) | ((with_reducible apply cI_ltn) <;> omega) | ((with_reducible apply cI_nlt) <;> omega) | (with_reducible exact cI_lt)) (fun c7 => ?_) (fun c7 => by exfalso; first | omega | exact absurd trivial c7 | exact c7 | (simp at c7))
      exact g_vret dX7_takeOffers_100 rfl (⟨rfl, rfl, rfl, rfl, by rw [← h5]; exact h3, h4⟩)
    | succ k ih =>
      intro st b I1 hs h1 h2 h3 h4 h5
      have n6 : cnt b 6 ≤ 60 := h1.2.2.2.le (by decide)
      have h5 : (if sp_any b (cnt b 6) = true then sp_lv k (sp_pass b (cnt b 6)) else sp_pass b (cnt b 6)) = sp_lv 61 a := h5
      have kp := sp_pass_keep (a := b) (n := cnt b 6) n6
      have lpp := (mLv_pass h1 (i := cnt b 6) (Nat.le_refl _)).1
      have kk : ∀ I2, rTwn 3 (sp_pass b (cnt b 6)) I2 → tkF I1 I2 → pvG mX7_takeOffers (pvR 1 0 0) (pvZ (offQ (sp_lv 61 a) I J P) 0 0) 94 [.ref 27, .int (nI clk), .int (if sp_any b (cnt b 6) = true then 1 else 0), .int (nI st), .retAddr 0] [] 0 0 224 I2 J P := by
        intro I2 z1 z2
        have z3 : tkF I I2 := fun z y1 y2 => (z2 z y1 y2).trans (h4 z y1 y2)
        by_cases c : sp_any b (cnt b 6) = true
        · rw [if_pos c] at h5 ⊢
          have nx := ih (st + 1) (sp_pass b (cnt b 6)) I2 (by omega) lpp ((sp_keep_cnt kp (by decide) (by omega)).trans h2) z1 z3 h5
          refine g_iinc dX7_takeOffers_94 rfl (by first | (with_reducible exact nI_1 _) | exact nI_1 _ | exact pk_m1 _ | rfl) (by decide) rfl ?_
          refine g_goto 4 dX7_takeOffers_97 (by decide) ?_
          exact nx
        · rw [if_neg c] at h5 ⊢
          by_cases d : st = 60
          · subst d
            refine g_iinc dX7_takeOffers_94 rfl (by first | (with_reducible exact nI_1 _) | exact nI_1 _ | exact pk_m1 _ | rfl) (by decide) rfl ?_
            refine g_goto 4 dX7_takeOffers_97 (by decide) ?_
            refine g_iload_n dX7_takeOffers_4 rfl ?_
            refine g_bipush (v := nI 60) dX7_takeOffers_5 (by decide) ?_
            refine n_icmp_gt 100 dX7_takeOffers_7 (by decide) (by first | ((with_reducible apply cN_lt) <;> omega) | ((with_reducible apply cI_ltn) <;> omega) | ((with_reducible apply cI_nlt) <;> omega) | (with_reducible exact cI_lt)) (fun c7 => ?_) (fun c7 => by exfalso; first | omega | exact absurd trivial c7 | exact c7 | (simp at c7))
            exact g_vret dX7_takeOffers_100 rfl (⟨rfl, rfl, rfl, rfl, by rw [← h5]; exact z1, z3⟩)
          · skip
            refine g_iinc dX7_takeOffers_94 rfl (by first | (with_reducible exact nI_1 _) | exact nI_1 _ | exact pk_m1 _ | rfl) (by decide) rfl ?_
            refine g_goto 4 dX7_takeOffers_97 (by decide) ?_
            refine g_iload_n dX7_takeOffers_4 rfl ?_
            refine g_bipush (v := nI 60) dX7_takeOffers_5 (by decide) ?_
            refine n_icmp_gt 100 dX7_takeOffers_7 (by decide) (by first | ((with_reducible apply cN_lt) <;> omega) | ((with_reducible apply cI_ltn) <;> omega) | ((with_reducible apply cI_nlt) <;> omega) | (with_reducible exact cI_lt)) (fun c7 => by exfalso; first | omega | exact absurd trivial c7 | exact c7 | (simp at c7)) (fun c7 => ?_)
            refine g_iload_n dX7_takeOffers_10 rfl ?_
            refine n_if_eq 100 dX7_takeOffers_11 (by decide) (by first | (with_reducible exact cB _) | ((with_reducible apply cN_eq0) <;> omega) | exact Iff.rfl) (fun c11 => ?_) (fun c11 => by exfalso; first | omega | exact absurd trivial c11 | exact c11 | (simp at c11))
            exact g_vret dX7_takeOffers_100 rfl (⟨rfl, rfl, rfl, rfl, by rw [← h5]; exact z1, z3⟩)
      have go := k_offers (J := J) (I := I1) (Z := pvZ (offQ (sp_lv 61 a) I J P) 0 0) (clk := clk) (st := st) hP h1 h2 (by omega) kk (cnt b 6) 0 I1 (by omega) h3 (fun _ _ _ => rfl)
      have go : pvG mX7_takeOffers (pvR 1 0 0) (pvZ (offQ (sp_lv 61 a) I J P) 0 0) 19 [.ref 27, .int (nI clk), .int (nI 0), .int (nI st), .int (nI 0)] [] 0 0 224 I1 J P := go
      refine g_iload_n dX7_takeOffers_4 rfl ?_
      refine g_bipush (v := nI 60) dX7_takeOffers_5 (by decide) ?_
      refine n_icmp_gt 100 dX7_takeOffers_7 (by decide) (by first | ((with_reducible apply cN_lt) <;> omega) | ((with_reducible apply cI_ltn) <;> omega) | ((with_reducible apply cI_nlt) <;> omega) | (with_reducible exact cI_lt)) (fun c7 => by exfalso; first | omega | exact absurd trivial c7 | exact c7 | (simp at c7)) (fun c7 => ?_)
      refine g_iload_n dX7_takeOffers_10 rfl ?_
      refine n_if_eq 100 dX7_takeOffers_11 (by decide) (by first | (with_reducible exact cB _) | ((with_reducible apply cN_eq0) <;> omega) | exact Iff.rfl) (fun c11 => by exfalso; first | omega | exact absurd trivial c11 | exact c11 | (simp at c11)) (fun c11 => ?_)
      refine g_iconst (v := nI 0) dX7_takeOffers_14 (by decide) ?_
      refine g_istore_n dX7_takeOffers_15 (by decide) rfl ?_
      refine g_iconst (v := nI 0) dX7_takeOffers_16 (by decide) ?_
      refine g_istore dX7_takeOffers_17 (by decide) rfl ?_
      exact go
  refine pvMet.of _ (by decide) rfl (Nat.le_of_ble_eq_true rfl) ?_
  refine g_iconst (v := nI 1) dX7_takeOffers_0 (by decide) ?_
  refine g_istore_n dX7_takeOffers_1 (by decide) rfl ?_
  refine g_iconst (v := nI 0) dX7_takeOffers_2 (by decide) ?_
  refine g_istore_n dX7_takeOffers_3 (by decide) rfl ?_
  exact lp 61 0 a I rfl hl hclk hr (fun _ _ _ => rfl) rfl
end OFF
