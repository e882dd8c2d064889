/-! reading what was written -/
theorem rd_s {f : Nat → Int32} {k : Nat} {x : Int32} : upd f k x k = x := by simp [upd]
theorem rd_n {f : Nat → Int32} {k j : Nat} {x v : Int32} (h : j ≠ k) (hv : f j = v) : upd f k x j = v := by simp [upd, h, hv]
theorem rp_s {I : pvI} {k j : Nat} {f : Nat → Int32} {v : Int32} (hv : f j = v) : pvs I k f k j = v := by rw [pvs_eq]; exact hv
theorem rp_n {I : pvI} {k a j : Nat} {f : Nat → Int32} {v : Int32} (h : a ≠ k) (hv : I a j = v) : pvs I k f a j = v := by rw [pvs_ne h]; exact hv
theorem rdL_s {f : Nat → Int64} {k : Nat} {x : Int64} : vp_updL f k x k = x := by simp [vp_updL]
theorem rdL_n {f : Nat → Int64} {k j : Nat} {x v : Int64} (h : j ≠ k) (hv : f j = v) : vp_updL f k x j = v := by simp [vp_updL, h, hv]
theorem rpJ_s {J : pvJ} {k j : Nat} {f : Nat → Int64} {v : Int64} (hv : f j = v) : pvsJ J k f k j = v := by rw [pvsJ_eq]; exact hv
theorem rpJ_n {J : pvJ} {k a j : Nat} {f : Nat → Int64} {v : Int64} (h : a ≠ k) (hv : J a j = v) : pvsJ J k f a j = v := by rw [pvsJ_ne h]; exact hv
theorem pvu_in {I I' : pvI} {k l j : Nat} {g : Nat → Int32} {x : Int32} (h : k ≠ l) (hI : pvu I k j x = I') : pvu (pvs I l g) k j x = pvs I' l g := by rw [pvu_s2 h, hI]
theorem pvuJ_in {J J' : pvJ} {k l j : Nat} {g : Nat → Int64} {x : Int64} (h : k ≠ l) (hJ : pvuJ J k j x = J') : pvuJ (pvsJ J l g) k j x = pvsJ J' l g := by
  subst hJ
  funext a
  by_cases h1 : a = l
  · subst h1
    simp [pvuJ, pvsJ, Ne.symm h]
  · by_cases h2 : a = k
    · subst h2
      simp [pvuJ, pvsJ, h]
    · simp [pvuJ, pvsJ, h1, h2]
/-! model: what its array holds; cnt: a count -/
def cnt (a : Nat → Int32) (i : Nat) : Nat := (a i).toNatClampNeg
def sp_lim (i : Nat) : Nat := [100, 20, 10, 8, 200, 20, 60, 60, 10, 30, 6, 20, 99, 30, 999, 40].getD i 0
def mDim (w h : Nat) (I : pvI) : Prop := I 202 0 = nI w ∧ I 202 1 = nI h ∧ (2 ≤ w ∧ w ≤ 8) ∧ (2 ≤ h ∧ h ≤ 8)
theorem cnt_of {a : Nat → Int32} {i n : Nat} (h : a i = nI n) (hn : n < 2 ^ 31) : cnt a i = n := by unfold cnt; rw [h, nI_clamp hn]
-- the spec of the simple calls: the answer, and the array behind it
def sp_cell (w h : Nat) (a : Nat → Int32) (c k t : Int32) : Int32 × (Nat → Int32) :=
  if (0 ≤ c.toInt ∧ c.toInt < w * h) ∧ (0 ≤ k.toInt ∧ k.toInt ≤ 4) ∧ (a 0).toInt ≤ 0 ∧ ((k.toInt = 1 ∨ k.toInt = 2) → 1 ≤ t.toInt ∧ t.toInt ≤ 999) ∧ (¬ (k.toInt = 1 ∨ k.toInt = 2) → t.toInt = 0) then (1, upd (upd a (20 + c.toNatClampNeg) k) (84 + c.toNatClampNeg) t) else (0, a)
def sp_rules (a : Nat → Int32) (x y z : Int32) : Int32 × (Nat → Int32) :=
  if (1 ≤ x.toInt ∧ x.toInt ≤ 20) ∧ (1 ≤ y.toInt ∧ y.toInt ≤ 99) ∧ (0 ≤ z.toInt ∧ z.toInt ≤ 30) then (1, upd (upd (upd a 11 x) 12 y) 13 z) else (0, a)
def sp_hole (w h : Nat) (a : Nat → Int32) (c : Int32) : Int32 × (Nat → Int32) :=
  if (0 ≤ c.toInt ∧ c.toInt < w * h) ∧ ¬ cnt a 0 = 100 ∧ ¬ cnt a 1 = 20 then (a 1, upd (upd (upd (upd a (150 + 3 * cnt a 1) c) (150 + 3 * cnt a 1 + 1) (a 0)) (150 + 3 * cnt a 1 + 2) (-1)) 1 (nI (cnt a 1 + 1))) else (-1, a)
def mQ1 (I : pvI) (J : pvJ) (P : pvP) (r : Int32 × (Nat → Int32)) : pvQT := pvq P (fun v I' J' => v = some (.int r.1) ∧ I' = pvs I 203 r.2 ∧ J' = J)
theorem t_cell {w h : Nat} {I : pvI} {J : pvJ} {P : pvP} (hP : pvOkP P) (hD : mDim w h I) {clk : Nat} (hclk : I 203 0 = nI clk) (hc1 : clk ≤ 100) {c k t : Int32} : pvMet mX12_cell 2 0 0 [.ref 202, .int c, .int k, .int t] 224 I J P (mQ1 I J P (sp_cell w h (I 203) c k t)) := by
  obtain ⟨hw, hh, hw2, hh2⟩ := hD
  have hwh : 4 ≤ w * h ∧ w * h ≤ 64 := ⟨Nat.mul_le_mul hw2.1 hh2.1, Nat.mul_le_mul hw2.2 hh2.2⟩
  have hclkI : (I 203 0).toInt = clk := by rw [hclk, nI_toInt (by omega)]
  refine pvMet.of _ (by decide) rfl (Nat.le_of_ble_eq_true rfl) ?_
  refine g_aload_n dX12_cell_0 rfl ?_
  refine g_iload_n dX12_cell_1 rfl ?_
  refine p_callV (t_isCell hw hh hw2 hh2) okX12_isCell lkX12_100 rfl (by first | rfl | exact pv_shx) rfl (by omega) (by omega) dX12_cell_2 rfl (Nat.le_of_ble_eq_true rfl) (⟨by decide, by decide, by decide, by decide⟩) ?_
  refine n_if_eq 26 dX12_cell_5 (by decide) (by first | (with_reducible exact cB _) | ((with_reducible apply cN_eq0) <;> omega) | exact Iff.rfl) (fun c5 => ?_) (fun c5 => ?_)
  · skip
    refine g_iconst (v := nI 0) dX12_cell_26 (by decide) ?_
    exact g_zret (by first | exact Or.inl rfl | exact Or.inr rfl | exact cB01 _) dX12_cell_27 rfl (⟨rfl, rfl, by rw [sp_cell, if_neg (by omega)]; exact ⟨rfl, pvs_self.symm, rfl⟩⟩)
  · skip
    refine g_iload_n dX12_cell_8 rfl ?_
    refine g_iconst (v := nI 0) dX12_cell_9 (by decide) ?_
    refine g_iconst (v := nI 4) dX12_cell_10 (by decide) ?_
    refine p_callS (t_isIn (by first | exact nI_toInt (by omega) | exact pk_sub_toInt (by omega) (by omega)) (by first | exact nI_toInt (by omega) | exact pk_sub_toInt (by omega) (by omega))) okX12_isIn lkX12_96 rfl dX12_cell_11 rfl (Nat.le_of_ble_eq_true rfl) (⟨by decide, by decide, by decide, by decide⟩) ?_
    refine n_if_eq 26 dX12_cell_14 (by decide) (by first | (with_reducible exact cB _) | ((with_reducible apply cN_eq0) <;> omega) | exact Iff.rfl) (fun c14 => ?_) (fun c14 => ?_)
    · skip
      refine g_iconst (v := nI 0) dX12_cell_26 (by decide) ?_
      exact g_zret (by first | exact Or.inl rfl | exact Or.inr rfl | exact cB01 _) dX12_cell_27 rfl (⟨rfl, rfl, by rw [sp_cell, if_neg (by omega)]; exact ⟨rfl, pvs_self.symm, rfl⟩⟩)
    · skip
      refine g_aload_n dX12_cell_17 rfl ?_
      refine g_getP dX12_cell_18 fdX12_7 rfl (by first | rfl | exact pv_shx) (by omega) (by omega) (by decide) rfl (hP _ _ _ rfl) ?_
      refine g_iconst (v := nI 0) dX12_cell_21 (by decide) ?_
      refine n_iald dX12_cell_22 (by first | rfl | exact pv_shx) (by omega) (by omega) (by decide) (rfl) (by omega) (by repeat (first | exact hclk | (apply rd_s; done) | apply rd_n (by omega) | apply rp_s | apply rp_n (by omega) | (apply rdL_s; done) | apply rdL_n (by omega) | apply rpJ_s | apply rpJ_n (by omega) | rfl)) ?_
      refine n_if_le 28 dX12_cell_23 (by decide) (by first | ((with_reducible apply cN_le0) <;> omega) | (with_reducible exact cI_le0)) (fun c23 => ?_) (fun c23 => ?_)
      · skip
        obtain ⟨j, hj, rfl⟩ := cI_of (x := c) (n := w * h) (by omega) (by omega) (by omega)
        refine g_iload_n dX12_cell_28 rfl ?_
        refine g_iconst (v := nI 1) dX12_cell_29 (by decide) ?_
        refine n_icmp_eq 38 dX12_cell_30 (by decide) (by first | ((with_reducible apply cN_eq) <;> omega) | ((with_reducible apply cI_eqn) <;> omega) | exact Iff.rfl) (fun c30 => ?_) (fun c30 => ?_)
        · skip
          refine g_iconst (v := nI 1) dX12_cell_38 (by decide) ?_
          refine g_goto 43 dX12_cell_39 (by decide) ?_
          refine g_istore dX12_cell_43 (by decide) rfl ?_
          refine g_iload dX12_cell_45 rfl ?_
          refine n_if_eq 64 dX12_cell_47 (by decide) (by first | (with_reducible exact cB _) | ((with_reducible apply cN_eq0) <;> omega) | exact Iff.rfl) (fun c47 => ?_) (fun c47 => ?_)
          · skip
            refine g_iload_n dX12_cell_64 rfl ?_
            refine n_if_eq 70 dX12_cell_65 (by decide) (cI_eq.trans (by rw [show ((0 : Int32)).toInt = 0 from rfl])) (fun c65 => ?_) (fun c65 => ?_)
            · skip
              refine g_aload_n dX12_cell_70 rfl ?_
              refine g_getP dX12_cell_71 fdX12_7 rfl (by first | rfl | exact pv_shx) (by omega) (by omega) (by decide) rfl (hP _ _ _ rfl) ?_
              refine g_bipush (v := nI 20) dX12_cell_74 (by decide) ?_
              refine g_iload_n dX12_cell_76 rfl ?_
              refine n_iadd dX12_cell_77 (by first | (with_reducible exact nI_add _ _) | rfl) ?_
              refine g_iload_n dX12_cell_78 rfl ?_
              refine n_iast dX12_cell_79 (by first | rfl | exact pv_shx) (by omega) (by omega) (by omega) (by decide) (rfl) (by omega) (by repeat (first | exact pvu_s | exact pvuJ_s | apply pvu_in (by omega) | apply pvuJ_in (by omega) | exact pvu_pvs | exact pvuJ_pvs)) ?_
              refine g_aload_n dX12_cell_80 rfl ?_
              refine g_getP dX12_cell_81 fdX12_7 rfl (by first | rfl | exact pv_shx) (by omega) (by omega) (by decide) rfl (hP _ _ _ rfl) ?_
              refine g_bipush (v := nI 84) dX12_cell_84 (by decide) ?_
              refine g_iload_n dX12_cell_86 rfl ?_
              refine n_iadd dX12_cell_87 (by first | (with_reducible exact nI_add _ _) | rfl) ?_
              refine g_iload_n dX12_cell_88 rfl ?_
              refine n_iast dX12_cell_89 (by first | rfl | exact pv_shx) (by omega) (by omega) (by omega) (by decide) (rfl) (by omega) (by repeat (first | exact pvu_s | exact pvuJ_s | apply pvu_in (by omega) | apply pvuJ_in (by omega) | exact pvu_pvs | exact pvuJ_pvs)) ?_
              refine g_iconst (v := nI 1) dX12_cell_90 (by decide) ?_
              refine g_zret (by first | exact Or.inl rfl | exact Or.inr rfl | exact cB01 _) dX12_cell_91 rfl (⟨rfl, rfl, by rw [sp_cell, if_pos (by omega)]; refine ⟨rfl, ?_, rfl⟩; rw [nI_clamp (by omega)]⟩)
            · skip
              refine g_iconst (v := nI 0) dX12_cell_68 (by decide) ?_
              exact g_zret (by first | exact Or.inl rfl | exact Or.inr rfl | exact cB01 _) dX12_cell_69 rfl (⟨rfl, rfl, by rw [sp_cell, if_neg (by omega)]; exact ⟨rfl, pvs_self.symm, rfl⟩⟩)
          · skip
            refine g_iload_n dX12_cell_50 rfl ?_
            refine g_iconst (v := nI 1) dX12_cell_51 (by decide) ?_
            refine g_sipush (v := nI 999) dX12_cell_52 (by decide) ?_
            refine p_callS (t_isIn (by first | exact nI_toInt (by omega) | exact pk_sub_toInt (by omega) (by omega)) (by first | exact nI_toInt (by omega) | exact pk_sub_toInt (by omega) (by omega))) okX12_isIn lkX12_96 rfl dX12_cell_55 rfl (Nat.le_of_ble_eq_true rfl) (⟨by decide, by decide, by decide, by decide⟩) ?_
            refine n_if_ne 70 dX12_cell_58 (by decide) (by first | (with_reducible exact cB _) | ((with_reducible apply cN_eq0) <;> omega) | exact Iff.rfl) (fun c58 => ?_) (fun c58 => ?_)
            · skip
              refine g_aload_n dX12_cell_70 rfl ?_
              refine g_getP dX12_cell_71 fdX12_7 rfl (by first | rfl | exact pv_shx) (by omega) (by omega) (by decide) rfl (hP _ _ _ rfl) ?_
              refine g_bipush (v := nI 20) dX12_cell_74 (by decide) ?_
              refine g_iload_n dX12_cell_76 rfl ?_
              refine n_iadd dX12_cell_77 (by first | (with_reducible exact nI_add _ _) | rfl) ?_
              refine g_iload_n dX12_cell_78 rfl ?_
              refine n_iast dX12_cell_79 (by first | rfl | exact pv_shx) (by omega) (by omega) (by omega) (by decide) (rfl) (by omega) (by repeat (first | exact pvu_s | exact pvuJ_s | apply pvu_in (by omega) | apply pvuJ_in (by omega) | exact pvu_pvs | exact pvuJ_pvs)) ?_
              refine g_aload_n dX12_cell_80 rfl ?_
              refine g_getP dX12_cell_81 fdX12_7 rfl (by first | rfl | exact pv_shx) (by omega) (by omega) (by decide) rfl (hP _ _ _ rfl) ?_
              refine g_bipush (v := nI 84) dX12_cell_84 (by decide) ?_
              refine g_iload_n dX12_cell_86 rfl ?_
              refine n_iadd dX12_cell_87 (by first | (with_reducible exact nI_add _ _) | rfl) ?_
              refine g_iload_n dX12_cell_88 rfl ?_
              refine n_iast dX12_cell_89 (by first | rfl | exact pv_shx) (by omega) (by omega) (by omega) (by decide) (rfl) (by omega) (by repeat (first | exact pvu_s | exact pvuJ_s | apply pvu_in (by omega) | apply pvuJ_in (by omega) | exact pvu_pvs | exact pvuJ_pvs)) ?_
              refine g_iconst (v := nI 1) dX12_cell_90 (by decide) ?_
              refine g_zret (by first | exact Or.inl rfl | exact Or.inr rfl | exact cB01 _) dX12_cell_91 rfl (⟨rfl, rfl, by rw [sp_cell, if_pos (by omega)]; refine ⟨rfl, ?_, rfl⟩; rw [nI_clamp (by omega)]⟩)
            · skip
              refine g_goto 68 dX12_cell_61 (by decide) ?_
              refine g_iconst (v := nI 0) dX12_cell_68 (by decide) ?_
              exact g_zret (by first | exact Or.inl rfl | exact Or.inr rfl | exact cB01 _) dX12_cell_69 rfl (⟨rfl, rfl, by rw [sp_cell, if_neg (by omega)]; exact ⟨rfl, pvs_self.symm, rfl⟩⟩)
        · skip
          refine g_iload_n dX12_cell_33 rfl ?_
          refine g_iconst (v := nI 2) dX12_cell_34 (by decide) ?_
          refine n_icmp_ne 42 dX12_cell_35 (by decide) (by first | ((with_reducible apply cN_eq) <;> omega) | ((with_reducible apply cI_eqn) <;> omega) | exact Iff.rfl) (fun c35 => ?_) (fun c35 => ?_)
          · skip
            refine g_iconst (v := nI 0) dX12_cell_42 (by decide) ?_
            refine g_istore dX12_cell_43 (by decide) rfl ?_
            refine g_iload dX12_cell_45 rfl ?_
            refine n_if_eq 64 dX12_cell_47 (by decide) (by first | (with_reducible exact cB _) | ((with_reducible apply cN_eq0) <;> omega) | exact Iff.rfl) (fun c47 => ?_) (fun c47 => ?_)
            · skip
              refine g_iload_n dX12_cell_64 rfl ?_
              refine n_if_eq 70 dX12_cell_65 (by decide) (cI_eq.trans (by rw [show ((0 : Int32)).toInt = 0 from rfl])) (fun c65 => ?_) (fun c65 => ?_)
              · skip
                refine g_aload_n dX12_cell_70 rfl ?_
                refine g_getP dX12_cell_71 fdX12_7 rfl (by first | rfl | exact pv_shx) (by omega) (by omega) (by decide) rfl (hP _ _ _ rfl) ?_
                refine g_bipush (v := nI 20) dX12_cell_74 (by decide) ?_
                refine g_iload_n dX12_cell_76 rfl ?_
                refine n_iadd dX12_cell_77 (by first | (with_reducible exact nI_add _ _) | rfl) ?_
                refine g_iload_n dX12_cell_78 rfl ?_
                refine n_iast dX12_cell_79 (by first | rfl | exact pv_shx) (by omega) (by omega) (by omega) (by decide) (rfl) (by omega) (by repeat (first | exact pvu_s | exact pvuJ_s | apply pvu_in (by omega) | apply pvuJ_in (by omega) | exact pvu_pvs | exact pvuJ_pvs)) ?_
                refine g_aload_n dX12_cell_80 rfl ?_
                refine g_getP dX12_cell_81 fdX12_7 rfl (by first | rfl | exact pv_shx) (by omega) (by omega) (by decide) rfl (hP _ _ _ rfl) ?_
                refine g_bipush (v := nI 84) dX12_cell_84 (by decide) ?_
                refine g_iload_n dX12_cell_86 rfl ?_
                refine n_iadd dX12_cell_87 (by first | (with_reducible exact nI_add _ _) | rfl) ?_
                refine g_iload_n dX12_cell_88 rfl ?_
                refine n_iast dX12_cell_89 (by first | rfl | exact pv_shx) (by omega) (by omega) (by omega) (by decide) (rfl) (by omega) (by repeat (first | exact pvu_s | exact pvuJ_s | apply pvu_in (by omega) | apply pvuJ_in (by omega) | exact pvu_pvs | exact pvuJ_pvs)) ?_
                refine g_iconst (v := nI 1) dX12_cell_90 (by decide) ?_
                refine g_zret (by first | exact Or.inl rfl | exact Or.inr rfl | exact cB01 _) dX12_cell_91 rfl (⟨rfl, rfl, by rw [sp_cell, if_pos (by omega)]; refine ⟨rfl, ?_, rfl⟩; rw [nI_clamp (by omega)]⟩)
              · skip
                refine g_iconst (v := nI 0) dX12_cell_68 (by decide) ?_
                exact g_zret (by first | exact Or.inl rfl | exact Or.inr rfl | exact cB01 _) dX12_cell_69 rfl (⟨rfl, rfl, by rw [sp_cell, if_neg (by omega)]; exact ⟨rfl, pvs_self.symm, rfl⟩⟩)
            · skip
              refine g_iload_n dX12_cell_50 rfl ?_
              refine g_iconst (v := nI 1) dX12_cell_51 (by decide) ?_
              refine g_sipush (v := nI 999) dX12_cell_52 (by decide) ?_
              refine p_callS (t_isIn (by first | exact nI_toInt (by omega) | exact pk_sub_toInt (by omega) (by omega)) (by first | exact nI_toInt (by omega) | exact pk_sub_toInt (by omega) (by omega))) okX12_isIn lkX12_96 rfl dX12_cell_55 rfl (Nat.le_of_ble_eq_true rfl) (⟨by decide, by decide, by decide, by decide⟩) ?_
              refine n_if_ne 70 dX12_cell_58 (by decide) (by first | (with_reducible exact cB _) | ((with_reducible apply cN_eq0) <;> omega) | exact Iff.rfl) (fun c58 => ?_) (fun c58 => ?_)
              · skip
                refine g_aload_n dX12_cell_70 rfl ?_
                refine g_getP dX12_cell_71 fdX12_7 rfl (by first | rfl | exact pv_shx) (by omega) (by omega) (by decide) rfl (hP _ _ _ rfl) ?_
                refine g_bipush (v := nI 20) dX12_cell_74 (by decide) ?_
                refine g_iload_n dX12_cell_76 rfl ?_
                refine n_iadd dX12_cell_77 (by first | (with_reducible exact nI_add _ _) | rfl) ?_
                refine g_iload_n dX12_cell_78 rfl ?_
                refine n_iast dX12_cell_79 (by first | rfl | exact pv_shx) (by omega) (by omega) (by omega) (by decide) (rfl) (by omega) (by repeat (first | exact pvu_s | exact pvuJ_s | apply pvu_in (by omega) | apply pvuJ_in (by omega) | exact pvu_pvs | exact pvuJ_pvs)) ?_
                refine g_aload_n dX12_cell_80 rfl ?_
                refine g_getP dX12_cell_81 fdX12_7 rfl (by first | rfl | exact pv_shx) (by omega) (by omega) (by decide) rfl (hP _ _ _ rfl) ?_
                refine g_bipush (v := nI 84) dX12_cell_84 (by decide) ?_
                refine g_iload_n dX12_cell_86 rfl ?_
                refine n_iadd dX12_cell_87 (by first | (with_reducible exact nI_add _ _) | rfl) ?_
                refine g_iload_n dX12_cell_88 rfl ?_
                refine n_iast dX12_cell_89 (by first | rfl | exact pv_shx) (by omega) (by omega) (by omega) (by decide) (rfl) (by omega) (by repeat (first | exact pvu_s | exact pvuJ_s | apply pvu_in (by omega) | apply pvuJ_in (by omega) | exact pvu_pvs | exact pvuJ_pvs)) ?_
                refine g_iconst (v := nI 1) dX12_cell_90 (by decide) ?_
                refine g_zret (by first | exact Or.inl rfl | exact Or.inr rfl | exact cB01 _) dX12_cell_91 rfl (⟨rfl, rfl, by rw [sp_cell, if_pos (by omega)]; refine ⟨rfl, ?_, rfl⟩; rw [nI_clamp (by omega)]⟩)
              · skip
                refine g_goto 68 dX12_cell_61 (by decide) ?_
                refine g_iconst (v := nI 0) dX12_cell_68 (by decide) ?_
                exact g_zret (by first | exact Or.inl rfl | exact Or.inr rfl | exact cB01 _) dX12_cell_69 rfl (⟨rfl, rfl, by rw [sp_cell, if_neg (by omega)]; exact ⟨rfl, pvs_self.symm, rfl⟩⟩)
          · skip
            refine g_iconst (v := nI 1) dX12_cell_38 (by decide) ?_
            refine g_goto 43 dX12_cell_39 (by decide) ?_
            refine g_istore dX12_cell_43 (by decide) rfl ?_
            refine g_iload dX12_cell_45 rfl ?_
            refine n_if_eq 64 dX12_cell_47 (by decide) (by first | (with_reducible exact cB _) | ((with_reducible apply cN_eq0) <;> omega) | exact Iff.rfl) (fun c47 => ?_) (fun c47 => ?_)
            · skip
              refine g_iload_n dX12_cell_64 rfl ?_
              refine n_if_eq 70 dX12_cell_65 (by decide) (cI_eq.trans (by rw [show ((0 : Int32)).toInt = 0 from rfl])) (fun c65 => ?_) (fun c65 => ?_)
              · skip
                refine g_aload_n dX12_cell_70 rfl ?_
                refine g_getP dX12_cell_71 fdX12_7 rfl (by first | rfl | exact pv_shx) (by omega) (by omega) (by decide) rfl (hP _ _ _ rfl) ?_
                refine g_bipush (v := nI 20) dX12_cell_74 (by decide) ?_
                refine g_iload_n dX12_cell_76 rfl ?_
                refine n_iadd dX12_cell_77 (by first | (with_reducible exact nI_add _ _) | rfl) ?_
                refine g_iload_n dX12_cell_78 rfl ?_
                refine n_iast dX12_cell_79 (by first | rfl | exact pv_shx) (by omega) (by omega) (by omega) (by decide) (rfl) (by omega) (by repeat (first | exact pvu_s | exact pvuJ_s | apply pvu_in (by omega) | apply pvuJ_in (by omega) | exact pvu_pvs | exact pvuJ_pvs)) ?_
                refine g_aload_n dX12_cell_80 rfl ?_
                refine g_getP dX12_cell_81 fdX12_7 rfl (by first | rfl | exact pv_shx) (by omega) (by omega) (by decide) rfl (hP _ _ _ rfl) ?_
                refine g_bipush (v := nI 84) dX12_cell_84 (by decide) ?_
                refine g_iload_n dX12_cell_86 rfl ?_
                refine n_iadd dX12_cell_87 (by first | (with_reducible exact nI_add _ _) | rfl) ?_
                refine g_iload_n dX12_cell_88 rfl ?_
                refine n_iast dX12_cell_89 (by first | rfl | exact pv_shx) (by omega) (by omega) (by omega) (by decide) (rfl) (by omega) (by repeat (first | exact pvu_s | exact pvuJ_s | apply pvu_in (by omega) | apply pvuJ_in (by omega) | exact pvu_pvs | exact pvuJ_pvs)) ?_
                refine g_iconst (v := nI 1) dX12_cell_90 (by decide) ?_
                refine g_zret (by first | exact Or.inl rfl | exact Or.inr rfl | exact cB01 _) dX12_cell_91 rfl (⟨rfl, rfl, by rw [sp_cell, if_pos (by omega)]; refine ⟨rfl, ?_, rfl⟩; rw [nI_clamp (by omega)]⟩)
              · skip
                refine g_iconst (v := nI 0) dX12_cell_68 (by decide) ?_
                exact g_zret (by first | exact Or.inl rfl | exact Or.inr rfl | exact cB01 _) dX12_cell_69 rfl (⟨rfl, rfl, by rw [sp_cell, if_neg (by omega)]; exact ⟨rfl, pvs_self.symm, rfl⟩⟩)
            · skip
              refine g_iload_n dX12_cell_50 rfl ?_
              refine g_iconst (v := nI 1) dX12_cell_51 (by decide) ?_
              refine g_sipush (v := nI 999) dX12_cell_52 (by decide) ?_
              refine p_callS (t_isIn (by first | exact nI_toInt (by omega) | exact pk_sub_toInt (by omega) (by omega)) (by first | exact nI_toInt (by omega) | exact pk_sub_toInt (by omega) (by omega))) okX12_isIn lkX12_96 rfl dX12_cell_55 rfl (Nat.le_of_ble_eq_true rfl) (⟨by decide, by decide, by decide, by decide⟩) ?_
              refine n_if_ne 70 dX12_cell_58 (by decide) (by first | (with_reducible exact cB _) | ((with_reducible apply cN_eq0) <;> omega) | exact Iff.rfl) (fun c58 => ?_) (fun c58 => ?_)
              · skip
                refine g_aload_n dX12_cell_70 rfl ?_
                refine g_getP dX12_cell_71 fdX12_7 rfl (by first | rfl | exact pv_shx) (by omega) (by omega) (by decide) rfl (hP _ _ _ rfl) ?_
                refine g_bipush (v := nI 20) dX12_cell_74 (by decide) ?_
                refine g_iload_n dX12_cell_76 rfl ?_
                refine n_iadd dX12_cell_77 (by first | (with_reducible exact nI_add _ _) | rfl) ?_
                refine g_iload_n dX12_cell_78 rfl ?_
                refine n_iast dX12_cell_79 (by first | rfl | exact pv_shx) (by omega) (by omega) (by omega) (by decide) (rfl) (by omega) (by repeat (first | exact pvu_s | exact pvuJ_s | apply pvu_in (by omega) | apply pvuJ_in (by omega) | exact pvu_pvs | exact pvuJ_pvs)) ?_
                refine g_aload_n dX12_cell_80 rfl ?_
                refine g_getP dX12_cell_81 fdX12_7 rfl (by first | rfl | exact pv_shx) (by omega) (by omega) (by decide) rfl (hP _ _ _ rfl) ?_
                refine g_bipush (v := nI 84) dX12_cell_84 (by decide) ?_
                refine g_iload_n dX12_cell_86 rfl ?_
                refine n_iadd dX12_cell_87 (by first | (with_reducible exact nI_add _ _) | rfl) ?_
                refine g_iload_n dX12_cell_88 rfl ?_
                refine n_iast dX12_cell_89 (by first | rfl | exact pv_shx) (by omega) (by omega) (by omega) (by decide) (rfl) (by omega) (by repeat (first | exact pvu_s | exact pvuJ_s | apply pvu_in (by omega) | apply pvuJ_in (by omega) | exact pvu_pvs | exact pvuJ_pvs)) ?_
                refine g_iconst (v := nI 1) dX12_cell_90 (by decide) ?_
                refine g_zret (by first | exact Or.inl rfl | exact Or.inr rfl | exact cB01 _) dX12_cell_91 rfl (⟨rfl, rfl, by rw [sp_cell, if_pos (by omega)]; refine ⟨rfl, ?_, rfl⟩; rw [nI_clamp (by omega)]⟩)
              · skip
                refine g_goto 68 dX12_cell_61 (by decide) ?_
                refine g_iconst (v := nI 0) dX12_cell_68 (by decide) ?_
                exact g_zret (by first | exact Or.inl rfl | exact Or.inr rfl | exact cB01 _) dX12_cell_69 rfl (⟨rfl, rfl, by rw [sp_cell, if_neg (by omega)]; exact ⟨rfl, pvs_self.symm, rfl⟩⟩)
      · skip
        refine g_iconst (v := nI 0) dX12_cell_26 (by decide) ?_
        exact g_zret (by first | exact Or.inl rfl | exact Or.inr rfl | exact cB01 _) dX12_cell_27 rfl (⟨rfl, rfl, by rw [sp_cell, if_neg (by omega)]; exact ⟨rfl, pvs_self.symm, rfl⟩⟩)
theorem t_rules {I : pvI} {J : pvJ} {P : pvP} (hP : pvOkP P) {x y z : Int32} : pvMet mX12_rules 1 0 0 [.ref 202, .int x, .int y, .int z] 224 I J P (mQ1 I J P (sp_rules (I 203) x y z)) := by
  refine pvMet.of _ (by decide) rfl (Nat.le_of_ble_eq_true rfl) ?_
  refine g_iload_n dX12_rules_0 rfl ?_
  refine g_iconst (v := nI 1) dX12_rules_1 (by decide) ?_
  refine g_bipush (v := nI 20) dX12_rules_2 (by decide) ?_
  refine p_callS (t_isIn (by first | exact nI_toInt (by omega) | exact pk_sub_toInt (by omega) (by omega)) (by first | exact nI_toInt (by omega) | exact pk_sub_toInt (by omega) (by omega))) okX12_isIn lkX12_96 rfl dX12_rules_4 rfl (Nat.le_of_ble_eq_true rfl) (⟨by decide, by decide, by decide, by decide⟩) ?_
  refine n_if_eq 30 dX12_rules_7 (by decide) (by first | (with_reducible exact cB _) | ((with_reducible apply cN_eq0) <;> omega) | exact Iff.rfl) (fun c7 => ?_) (fun c7 => ?_)
  · skip
    refine g_iconst (v := nI 0) dX12_rules_30 (by decide) ?_
    exact g_zret (by first | exact Or.inl rfl | exact Or.inr rfl | exact cB01 _) dX12_rules_31 rfl (⟨rfl, rfl, by rw [sp_rules, if_neg (by omega)]; exact ⟨rfl, pvs_self.symm, rfl⟩⟩)
  · skip
    refine g_iload_n dX12_rules_10 rfl ?_
    refine g_iconst (v := nI 1) dX12_rules_11 (by decide) ?_
    refine g_bipush (v := nI 99) dX12_rules_12 (by decide) ?_
    refine p_callS (t_isIn (by first | exact nI_toInt (by omega) | exact pk_sub_toInt (by omega) (by omega)) (by first | exact nI_toInt (by omega) | exact pk_sub_toInt (by omega) (by omega))) okX12_isIn lkX12_96 rfl dX12_rules_14 rfl (Nat.le_of_ble_eq_true rfl) (⟨by decide, by decide, by decide, by decide⟩) ?_
    refine n_if_eq 30 dX12_rules_17 (by decide) (by first | (with_reducible exact cB _) | ((with_reducible apply cN_eq0) <;> omega) | exact Iff.rfl) (fun c17 => ?_) (fun c17 => ?_)
    · skip
      refine g_iconst (v := nI 0) dX12_rules_30 (by decide) ?_
      exact g_zret (by first | exact Or.inl rfl | exact Or.inr rfl | exact cB01 _) dX12_rules_31 rfl (⟨rfl, rfl, by rw [sp_rules, if_neg (by omega)]; exact ⟨rfl, pvs_self.symm, rfl⟩⟩)
    · skip
      refine g_iload_n dX12_rules_20 rfl ?_
      refine g_iconst (v := nI 0) dX12_rules_21 (by decide) ?_
      refine g_bipush (v := nI 30) dX12_rules_22 (by decide) ?_
      refine p_callS (t_isIn (by first | exact nI_toInt (by omega) | exact pk_sub_toInt (by omega) (by omega)) (by first | exact nI_toInt (by omega) | exact pk_sub_toInt (by omega) (by omega))) okX12_isIn lkX12_96 rfl dX12_rules_24 rfl (Nat.le_of_ble_eq_true rfl) (⟨by decide, by decide, by decide, by decide⟩) ?_
      refine n_if_ne 32 dX12_rules_27 (by decide) (by first | (with_reducible exact cB _) | ((with_reducible apply cN_eq0) <;> omega) | exact Iff.rfl) (fun c27 => ?_) (fun c27 => ?_)
      · skip
        refine g_aload_n dX12_rules_32 rfl ?_
        refine g_getP dX12_rules_33 fdX12_7 rfl (by first | rfl | exact pv_shx) (by omega) (by omega) (by decide) rfl (hP _ _ _ rfl) ?_
        refine g_bipush (v := nI 11) dX12_rules_36 (by decide) ?_
        refine g_iload_n dX12_rules_38 rfl ?_
        refine n_iast dX12_rules_39 (by first | rfl | exact pv_shx) (by omega) (by omega) (by omega) (by decide) (rfl) (by omega) (by repeat (first | exact pvu_s | exact pvuJ_s | apply pvu_in (by omega) | apply pvuJ_in (by omega) | exact pvu_pvs | exact pvuJ_pvs)) ?_
        refine g_aload_n dX12_rules_40 rfl ?_
        refine g_getP dX12_rules_41 fdX12_7 rfl (by first | rfl | exact pv_shx) (by omega) (by omega) (by decide) rfl (hP _ _ _ rfl) ?_
        refine g_bipush (v := nI 12) dX12_rules_44 (by decide) ?_
        refine g_iload_n dX12_rules_46 rfl ?_
        refine n_iast dX12_rules_47 (by first | rfl | exact pv_shx) (by omega) (by omega) (by omega) (by decide) (rfl) (by omega) (by repeat (first | exact pvu_s | exact pvuJ_s | apply pvu_in (by omega) | apply pvuJ_in (by omega) | exact pvu_pvs | exact pvuJ_pvs)) ?_
        refine g_aload_n dX12_rules_48 rfl ?_
        refine g_getP dX12_rules_49 fdX12_7 rfl (by first | rfl | exact pv_shx) (by omega) (by omega) (by decide) rfl (hP _ _ _ rfl) ?_
        refine g_bipush (v := nI 13) dX12_rules_52 (by decide) ?_
        refine g_iload_n dX12_rules_54 rfl ?_
        refine n_iast dX12_rules_55 (by first | rfl | exact pv_shx) (by omega) (by omega) (by omega) (by decide) (rfl) (by omega) (by repeat (first | exact pvu_s | exact pvuJ_s | apply pvu_in (by omega) | apply pvuJ_in (by omega) | exact pvu_pvs | exact pvuJ_pvs)) ?_
        refine g_iconst (v := nI 1) dX12_rules_56 (by decide) ?_
        exact g_zret (by first | exact Or.inl rfl | exact Or.inr rfl | exact cB01 _) dX12_rules_57 rfl (⟨rfl, rfl, by rw [sp_rules, if_pos (by omega)]; exact ⟨rfl, rfl, rfl⟩⟩)
      · skip
        refine g_iconst (v := nI 0) dX12_rules_30 (by decide) ?_
        exact g_zret (by first | exact Or.inl rfl | exact Or.inr rfl | exact cB01 _) dX12_rules_31 rfl (⟨rfl, rfl, by rw [sp_rules, if_neg (by omega)]; exact ⟨rfl, pvs_self.symm, rfl⟩⟩)
theorem t_hole {w h : Nat} {I : pvI} {J : pvJ} {P : pvP} (hP : pvOkP P) (hD : mDim w h I) {clk nh : Nat} (hclk : I 203 0 = nI clk) (hc1 : clk ≤ 100) (hnh : I 203 1 = nI nh) (hn1 : nh ≤ 20) {c : Int32} : pvMet mX12_hole 2 0 0 [.ref 202, .int c] 224 I J P (mQ1 I J P (sp_hole w h (I 203) c)) := by
  obtain ⟨hw, hh, hw2, hh2⟩ := hD
  have hwh : 4 ≤ w * h ∧ w * h ≤ 64 := ⟨Nat.mul_le_mul hw2.1 hh2.1, Nat.mul_le_mul hw2.2 hh2.2⟩
  have e0 : cnt (I 203) 0 = clk := cnt_of hclk (by omega)
  have e1 : cnt (I 203) 1 = nh := cnt_of hnh (by omega)
  refine pvMet.of _ (by decide) rfl (Nat.le_of_ble_eq_true rfl) ?_
  refine g_aload_n dX12_hole_0 rfl ?_
  refine g_iload_n dX12_hole_1 rfl ?_
  refine p_callV (t_isCell hw hh hw2 hh2) okX12_isCell lkX12_100 rfl (by first | rfl | exact pv_shx) rfl (by omega) (by omega) dX12_hole_2 rfl (Nat.le_of_ble_eq_true rfl) (⟨by decide, by decide, by decide, by decide⟩) ?_
  refine n_if_eq 30 dX12_hole_5 (by decide) (by first | (with_reducible exact cB _) | ((with_reducible apply cN_eq0) <;> omega) | exact Iff.rfl) (fun c5 => ?_) (fun c5 => ?_)
  · skip
    refine g_iconst (v := (-1)) dX12_hole_30 (by decide) ?_
    exact g_iret dX12_hole_31 rfl (⟨rfl, rfl, by rw [sp_hole, if_neg (by omega)]; exact ⟨rfl, pvs_self.symm, rfl⟩⟩)
  · skip
    refine g_aload_n dX12_hole_8 rfl ?_
    refine g_getP dX12_hole_9 fdX12_7 rfl (by first | rfl | exact pv_shx) (by omega) (by omega) (by decide) rfl (hP _ _ _ rfl) ?_
    refine g_iconst (v := nI 0) dX12_hole_12 (by decide) ?_
    refine n_iald dX12_hole_13 (by first | rfl | exact pv_shx) (by omega) (by omega) (by decide) (rfl) (by omega) (by repeat (first | exact hclk | exact hnh | (apply rd_s; done) | apply rd_n (by omega) | apply rp_s | apply rp_n (by omega) | (apply rdL_s; done) | apply rdL_n (by omega) | apply rpJ_s | apply rpJ_n (by omega) | rfl)) ?_
    refine g_bipush (v := nI 100) dX12_hole_14 (by decide) ?_
    refine n_icmp_eq 30 dX12_hole_16 (by decide) (by first | ((with_reducible apply cN_eq) <;> omega) | ((with_reducible apply cI_eqn) <;> omega) | exact Iff.rfl) (fun c16 => ?_) (fun c16 => ?_)
    · skip
      refine g_iconst (v := (-1)) dX12_hole_30 (by decide) ?_
      exact g_iret dX12_hole_31 rfl (⟨rfl, rfl, by rw [sp_hole, if_neg (by omega)]; exact ⟨rfl, pvs_self.symm, rfl⟩⟩)
    · skip
      refine g_aload_n dX12_hole_19 rfl ?_
      refine g_getP dX12_hole_20 fdX12_7 rfl (by first | rfl | exact pv_shx) (by omega) (by omega) (by decide) rfl (hP _ _ _ rfl) ?_
      refine g_iconst (v := nI 1) dX12_hole_23 (by decide) ?_
      refine n_iald dX12_hole_24 (by first | rfl | exact pv_shx) (by omega) (by omega) (by decide) (rfl) (by omega) (by repeat (first | exact hclk | exact hnh | (apply rd_s; done) | apply rd_n (by omega) | apply rp_s | apply rp_n (by omega) | (apply rdL_s; done) | apply rdL_n (by omega) | apply rpJ_s | apply rpJ_n (by omega) | rfl)) ?_
      refine g_bipush (v := nI 20) dX12_hole_25 (by decide) ?_
      refine n_icmp_ne 32 dX12_hole_27 (by decide) (by first | ((with_reducible apply cN_eq) <;> omega) | ((with_reducible apply cI_eqn) <;> omega) | exact Iff.rfl) (fun c27 => ?_) (fun c27 => ?_)
      · skip
        refine g_sipush (v := nI 150) dX12_hole_32 (by decide) ?_
        refine g_iconst (v := nI 3) dX12_hole_35 (by decide) ?_
        refine g_aload_n dX12_hole_36 rfl ?_
        refine g_getP dX12_hole_37 fdX12_7 rfl (by first | rfl | exact pv_shx) (by omega) (by omega) (by decide) rfl (hP _ _ _ rfl) ?_
        refine g_iconst (v := nI 1) dX12_hole_40 (by decide) ?_
        refine n_iald dX12_hole_41 (by first | rfl | exact pv_shx) (by omega) (by omega) (by decide) (rfl) (by omega) (by repeat (first | exact hclk | exact hnh | (apply rd_s; done) | apply rd_n (by omega) | apply rp_s | apply rp_n (by omega) | (apply rdL_s; done) | apply rdL_n (by omega) | apply rpJ_s | apply rpJ_n (by omega) | rfl)) ?_
        refine n_imul dX12_hole_42 (by first | (with_reducible exact pk_mul _ _) | rfl) ?_
        refine n_iadd dX12_hole_43 (by first | (with_reducible exact nI_add _ _) | rfl) ?_
        refine g_istore_n dX12_hole_44 (by decide) rfl ?_
        refine g_aload_n dX12_hole_45 rfl ?_
        refine g_getP dX12_hole_46 fdX12_7 rfl (by first | rfl | exact pv_shx) (by omega) (by omega) (by decide) rfl (hP _ _ _ rfl) ?_
        refine g_iload_n dX12_hole_49 rfl ?_
        refine g_iload_n dX12_hole_50 rfl ?_
        refine n_iast dX12_hole_51 (by first | rfl | exact pv_shx) (by omega) (by omega) (by omega) (by decide) (rfl) (by omega) (by repeat (first | exact pvu_s | exact pvuJ_s | apply pvu_in (by omega) | apply pvuJ_in (by omega) | exact pvu_pvs | exact pvuJ_pvs)) ?_
        refine g_aload_n dX12_hole_52 rfl ?_
        refine g_getP dX12_hole_53 fdX12_7 rfl (by first | rfl | exact pv_shx) (by omega) (by omega) (by decide) rfl (hP _ _ _ rfl) ?_
        refine g_iload_n dX12_hole_56 rfl ?_
        refine g_iconst (v := nI 1) dX12_hole_57 (by decide) ?_
        refine n_iadd dX12_hole_58 (by first | (with_reducible exact nI_add _ _) | rfl) ?_
        refine g_aload_n dX12_hole_59 rfl ?_
        refine g_getP dX12_hole_60 fdX12_7 rfl (by first | rfl | exact pv_shx) (by omega) (by omega) (by decide) rfl (hP _ _ _ rfl) ?_
        refine g_iconst (v := nI 0) dX12_hole_63 (by decide) ?_
        refine n_iald dX12_hole_64 (by first | rfl | exact pv_shx) (by omega) (by omega) (by decide) (rfl) (by omega) (by repeat (first | exact hclk | exact hnh | (apply rd_s; done) | apply rd_n (by omega) | apply rp_s | apply rp_n (by omega) | (apply rdL_s; done) | apply rdL_n (by omega) | apply rpJ_s | apply rpJ_n (by omega) | rfl)) ?_
        refine n_iast dX12_hole_65 (by first | rfl | exact pv_shx) (by omega) (by omega) (by omega) (by decide) (rfl) (by omega) (by repeat (first | exact pvu_s | exact pvuJ_s | apply pvu_in (by omega) | apply pvuJ_in (by omega) | exact pvu_pvs | exact pvuJ_pvs)) ?_
        refine g_aload_n dX12_hole_66 rfl ?_
        refine g_getP dX12_hole_67 fdX12_7 rfl (by first | rfl | exact pv_shx) (by omega) (by omega) (by decide) rfl (hP _ _ _ rfl) ?_
        refine g_iload_n dX12_hole_70 rfl ?_
        refine g_iconst (v := nI 2) dX12_hole_71 (by decide) ?_
        refine n_iadd dX12_hole_72 (by first | (with_reducible exact nI_add _ _) | rfl) ?_
        refine g_iconst (v := (-1)) dX12_hole_73 (by decide) ?_
        refine n_iast dX12_hole_74 (by first | rfl | exact pv_shx) (by omega) (by omega) (by omega) (by decide) (rfl) (by omega) (by repeat (first | exact pvu_s | exact pvuJ_s | apply pvu_in (by omega) | apply pvuJ_in (by omega) | exact pvu_pvs | exact pvuJ_pvs)) ?_
        refine g_aload_n dX12_hole_75 rfl ?_
        refine g_getP dX12_hole_76 fdX12_7 rfl (by first | rfl | exact pv_shx) (by omega) (by omega) (by decide) rfl (hP _ _ _ rfl) ?_
        refine g_iconst (v := nI 1) dX12_hole_79 (by decide) ?_
        refine g_dup2 dX12_hole_80 rfl rfl ?_
        refine n_iald dX12_hole_81 (by first | rfl | exact pv_shx) (by omega) (by omega) (by decide) (rfl) (by omega) (by repeat (first | exact hclk | exact hnh | (apply rd_s; done) | apply rd_n (by omega) | apply rp_s | apply rp_n (by omega) | (apply rdL_s; done) | apply rdL_n (by omega) | apply rpJ_s | apply rpJ_n (by omega) | rfl)) ?_
        refine g_iconst (v := nI 1) dX12_hole_82 (by decide) ?_
        refine n_iadd dX12_hole_83 (by first | (with_reducible exact nI_add _ _) | rfl) ?_
        refine n_iast dX12_hole_84 (by first | rfl | exact pv_shx) (by omega) (by omega) (by omega) (by decide) (rfl) (by omega) (by repeat (first | exact pvu_s | exact pvuJ_s | apply pvu_in (by omega) | apply pvuJ_in (by omega) | exact pvu_pvs | exact pvuJ_pvs)) ?_
        refine g_aload_n dX12_hole_85 rfl ?_
        refine g_getP dX12_hole_86 fdX12_7 rfl (by first | rfl | exact pv_shx) (by omega) (by omega) (by decide) rfl (hP _ _ _ rfl) ?_
        refine g_iconst (v := nI 1) dX12_hole_89 (by decide) ?_
        refine n_iald dX12_hole_90 (by first | rfl | exact pv_shx) (by omega) (by omega) (by decide) (rfl) (by omega) (by repeat (first | exact hclk | exact hnh | (apply rd_s; done) | apply rd_n (by omega) | apply rp_s | apply rp_n (by omega) | (apply rdL_s; done) | apply rdL_n (by omega) | apply rpJ_s | apply rpJ_n (by omega) | rfl)) ?_
        refine g_iconst (v := nI 1) dX12_hole_91 (by decide) ?_
        refine n_isub dX12_hole_92 (by first | ((with_reducible apply pk_sub) <;> omega) | rfl) ?_
        exact g_iret dX12_hole_93 rfl (⟨rfl, rfl, by rw [sp_hole, if_pos (by omega), e1, hnh, hclk]; exact ⟨by rw [show nh + 1 - 1 = nh by omega], rfl, rfl⟩⟩)
      · skip
        refine g_iconst (v := (-1)) dX12_hole_30 (by decide) ?_
        exact g_iret dX12_hole_31 rfl (⟨rfl, rfl, by rw [sp_hole, if_neg (by omega)]; exact ⟨rfl, pvs_self.symm, rfl⟩⟩)
