/-! model: more of the simple calls -/
def mG (a : Nat → Int32) : Prop := ∀ i, i < 16 → ∃ v, v ≤ sp_lim i ∧ a i = nI v
def sp_is (a : Nat → Int32) (i : Nat) (k : Int32) : Prop := 0 ≤ k.toInt ∧ k.toInt < cnt a i
def sp_inC (w h : Nat) (c : Int32) : Prop := 0 ≤ c.toInt ∧ c.toInt < w * h
def sp_wk (m : Int32) : Prop := 0 ≤ m.toInt ∧ m.toInt ≤ 99
theorem t_isN {I : pvI} {J : pvJ} {P : pvP} {n : Nat} {v : Int32} (hn : n ≤ 1000) : pvMet mX12_isIn 0 0 0 [.int v, .int (nI 0), .int (nI n - nI 1)] 224 I J P (pvpu (.int (if 0 ≤ v.toInt ∧ v.toInt < n then 1 else 0)) 224 I J P) := by
  have h := t_isIn (nx := 224) (I := I) (J := J) (P := P) (v := v) (lo := nI 0) (hi := nI n - nI 1) (nI_toInt (by decide)) (pk_sub_toInt (by omega) (by decide))
  rw [show (if 0 ≤ v.toInt ∧ v.toInt < (n : Int) then (1 : Int32) else 0) = if ((0 : Nat) : Int) ≤ v.toInt ∧ v.toInt ≤ (n : Int) - ((1 : Nat) : Int) then 1 else 0 from ?_]
  · exact h
  · congr 1
    apply propext
    omega
theorem t_isHole {I : pvI} {J : pvJ} {P : pvP} (hP : pvOkP P) {n : Nat} {v : Int32} (hn : n ≤ 1000) (h : I 203 1 = nI n) : pvMet mX12_isHole 1 0 0 [.ref 202, .int v] 224 I J P (pvpu (.int (if 0 ≤ v.toInt ∧ v.toInt < n then 1 else 0)) 224 I J P) := by
  refine pvMet.of _ (by decide) rfl (Nat.le_of_ble_eq_true rfl) ?_
  refine g_iload_n dX12_isHole_0 rfl ?_
  refine g_iconst (v := nI 0) dX12_isHole_1 (by decide) ?_
  refine g_aload_n dX12_isHole_2 rfl ?_
  refine g_getP dX12_isHole_3 fdX12_7 rfl (by first | rfl | exact pv_shx) (by omega) (by omega) (by decide) rfl (hP _ _ _ rfl) ?_
  refine g_iconst (v := nI 1) dX12_isHole_6 (by decide) ?_
  refine n_iald dX12_isHole_7 (by first | rfl | exact pv_shx) (by omega) (by omega) (by decide) (rfl) (by omega) (by repeat (first | exact h | (apply rd_s; done) | apply rd_n (by omega) | apply rp_s | apply rp_n (by omega) | (apply rdL_s; done) | apply rdL_n (by omega) | apply rpJ_s | apply rpJ_n (by omega) | rfl)) ?_
  refine g_iconst (v := nI 1) dX12_isHole_8 (by decide) ?_
  refine n_isub dX12_isHole_9 (rfl) ?_
  refine p_callS (t_isN hn) okX12_isIn lkX12_96 rfl dX12_isHole_10 rfl (Nat.le_of_ble_eq_true rfl) (⟨by decide, by decide, by decide, by decide⟩) ?_
  exact g_zret (by first | exact Or.inl rfl | exact Or.inr rfl | exact cB01 _) dX12_isHole_13 rfl (⟨rfl, rfl, rfl, rfl, rfl⟩)
theorem t_isState {I : pvI} {J : pvJ} {P : pvP} (hP : pvOkP P) {n : Nat} {v : Int32} (hn : n ≤ 1000) (h : I 203 3 = nI n) : pvMet mX12_isState 1 0 0 [.ref 202, .int v] 224 I J P (pvpu (.int (if 0 ≤ v.toInt ∧ v.toInt < n then 1 else 0)) 224 I J P) := by
  refine pvMet.of _ (by decide) rfl (Nat.le_of_ble_eq_true rfl) ?_
  refine g_iload_n dX12_isState_0 rfl ?_
  refine g_iconst (v := nI 0) dX12_isState_1 (by decide) ?_
  refine g_aload_n dX12_isState_2 rfl ?_
  refine g_getP dX12_isState_3 fdX12_7 rfl (by first | rfl | exact pv_shx) (by omega) (by omega) (by decide) rfl (hP _ _ _ rfl) ?_
  refine g_iconst (v := nI 3) dX12_isState_6 (by decide) ?_
  refine n_iald dX12_isState_7 (by first | rfl | exact pv_shx) (by omega) (by omega) (by decide) (rfl) (by omega) (by repeat (first | exact h | (apply rd_s; done) | apply rd_n (by omega) | apply rp_s | apply rp_n (by omega) | (apply rdL_s; done) | apply rdL_n (by omega) | apply rpJ_s | apply rpJ_n (by omega) | rfl)) ?_
  refine g_iconst (v := nI 1) dX12_isState_8 (by decide) ?_
  refine n_isub dX12_isState_9 (rfl) ?_
  refine p_callS (t_isN hn) okX12_isIn lkX12_96 rfl dX12_isState_10 rfl (Nat.le_of_ble_eq_true rfl) (⟨by decide, by decide, by decide, by decide⟩) ?_
  exact g_zret (by first | exact Or.inl rfl | exact Or.inr rfl | exact cB01 _) dX12_isState_13 rfl (⟨rfl, rfl, rfl, rfl, rfl⟩)
theorem t_isHouse {I : pvI} {J : pvJ} {P : pvP} (hP : pvOkP P) {n : Nat} {v : Int32} (hn : n ≤ 1000) (h : I 203 5 = nI n) : pvMet mX12_isHouse 1 0 0 [.ref 202, .int v] 224 I J P (pvpu (.int (if 0 ≤ v.toInt ∧ v.toInt < n then 1 else 0)) 224 I J P) := by
  refine pvMet.of _ (by decide) rfl (Nat.le_of_ble_eq_true rfl) ?_
  refine g_iload_n dX12_isHouse_0 rfl ?_
  refine g_iconst (v := nI 0) dX12_isHouse_1 (by decide) ?_
  refine g_aload_n dX12_isHouse_2 rfl ?_
  refine g_getP dX12_isHouse_3 fdX12_7 rfl (by first | rfl | exact pv_shx) (by omega) (by omega) (by decide) rfl (hP _ _ _ rfl) ?_
  refine g_iconst (v := nI 5) dX12_isHouse_6 (by decide) ?_
  refine n_iald dX12_isHouse_7 (by first | rfl | exact pv_shx) (by omega) (by omega) (by decide) (rfl) (by omega) (by repeat (first | exact h | (apply rd_s; done) | apply rd_n (by omega) | apply rp_s | apply rp_n (by omega) | (apply rdL_s; done) | apply rdL_n (by omega) | apply rpJ_s | apply rpJ_n (by omega) | rfl)) ?_
  refine g_iconst (v := nI 1) dX12_isHouse_8 (by decide) ?_
  refine n_isub dX12_isHouse_9 (rfl) ?_
  refine p_callS (t_isN hn) okX12_isIn lkX12_96 rfl dX12_isHouse_10 rfl (Nat.le_of_ble_eq_true rfl) (⟨by decide, by decide, by decide, by decide⟩) ?_
  exact g_zret (by first | exact Or.inl rfl | exact Or.inr rfl | exact cB01 _) dX12_isHouse_13 rfl (⟨rfl, rfl, rfl, rfl, rfl⟩)
theorem t_isPerson {I : pvI} {J : pvJ} {P : pvP} (hP : pvOkP P) {n : Nat} {v : Int32} (hn : n ≤ 1000) (h : I 203 6 = nI n) : pvMet mX12_isPerson 1 0 0 [.ref 202, .int v] 224 I J P (pvpu (.int (if 0 ≤ v.toInt ∧ v.toInt < n then 1 else 0)) 224 I J P) := by
  refine pvMet.of _ (by decide) rfl (Nat.le_of_ble_eq_true rfl) ?_
  refine g_iload_n dX12_isPerson_0 rfl ?_
  refine g_iconst (v := nI 0) dX12_isPerson_1 (by decide) ?_
  refine g_aload_n dX12_isPerson_2 rfl ?_
  refine g_getP dX12_isPerson_3 fdX12_7 rfl (by first | rfl | exact pv_shx) (by omega) (by omega) (by decide) rfl (hP _ _ _ rfl) ?_
  refine g_bipush (v := nI 6) dX12_isPerson_6 (by decide) ?_
  refine n_iald dX12_isPerson_8 (by first | rfl | exact pv_shx) (by omega) (by omega) (by decide) (rfl) (by omega) (by repeat (first | exact h | (apply rd_s; done) | apply rd_n (by omega) | apply rp_s | apply rp_n (by omega) | (apply rdL_s; done) | apply rdL_n (by omega) | apply rpJ_s | apply rpJ_n (by omega) | rfl)) ?_
  refine g_iconst (v := nI 1) dX12_isPerson_9 (by decide) ?_
  refine n_isub dX12_isPerson_10 (rfl) ?_
  refine p_callS (t_isN hn) okX12_isIn lkX12_96 rfl dX12_isPerson_11 rfl (Nat.le_of_ble_eq_true rfl) (⟨by decide, by decide, by decide, by decide⟩) ?_
  exact g_zret (by first | exact Or.inl rfl | exact Or.inr rfl | exact cB01 _) dX12_isPerson_14 rfl (⟨rfl, rfl, rfl, rfl, rfl⟩)
def sp_plug (a : Nat → Int32) (k : Int32) : Int32 × (Nat → Int32) :=
  if (0 ≤ k.toInt ∧ k.toInt < cnt a 1) ∧ (a (150 + 3 * k.toNatClampNeg + 2)).toInt < 0 then (1, upd a (150 + 3 * k.toNatClampNeg + 2) (a 0)) else (0, a)
theorem t_plug {I : pvI} {J : pvJ} {P : pvP} (hP : pvOkP P) (hg : mG (I 203)) {k : Int32} : pvMet mX12_plug 2 0 0 [.ref 202, .int k] 224 I J P (mQ1 I J P (sp_plug (I 203) k)) := by
  obtain ⟨clk, clk_b, clk_h⟩ := hg 0 (by decide)
  replace clk_b : clk ≤ 100 := clk_b
  have clk_e : cnt (I 203) 0 = clk := cnt_of clk_h (by omega)
  obtain ⟨nh, nh_b, nh_h⟩ := hg 1 (by decide)
  replace nh_b : nh ≤ 20 := nh_b
  have nh_e : cnt (I 203) 1 = nh := cnt_of nh_h (by omega)
  refine pvMet.of _ (by decide) rfl (Nat.le_of_ble_eq_true rfl) ?_
  refine g_aload_n dX12_plug_0 rfl ?_
  refine g_iload_n dX12_plug_1 rfl ?_
  refine p_callV (t_isHole hP (by omega) nh_h) okX12_isHole lkX12_104 rfl (by first | rfl | exact pv_shx) rfl (by omega) (by omega) dX12_plug_2 rfl (Nat.le_of_ble_eq_true rfl) (⟨by decide, by decide, by decide, by decide⟩) ?_
  refine n_if_eq 25 dX12_plug_5 (by decide) (by first | (with_reducible exact cB _) | ((with_reducible apply cN_eq0) <;> omega) | exact Iff.rfl) (fun c5 => ?_) (fun c5 => ?_)
  · skip
    refine g_iconst (v := nI 0) dX12_plug_25 (by decide) ?_
    exact g_zret (by first | exact Or.inl rfl | exact Or.inr rfl | exact cB01 _) dX12_plug_26 rfl (⟨rfl, rfl, by rw [sp_plug, if_neg (by first | omega | (rw [ej]; omega))]; exact ⟨rfl, pvs_self.symm, rfl⟩⟩)
  · skip
    obtain ⟨j, hj, rfl⟩ := cI_of (x := k) (n := nh) (by omega) (by omega) (by omega)
    have ej : (nI j).toNatClampNeg = j := nI_clamp (by omega)
    refine g_aload_n dX12_plug_8 rfl ?_
    refine g_getP dX12_plug_9 fdX12_7 rfl (by first | rfl | exact pv_shx) (by omega) (by omega) (by decide) rfl (hP _ _ _ rfl) ?_
    refine g_sipush (v := nI 150) dX12_plug_12 (by decide) ?_
    refine g_iconst (v := nI 3) dX12_plug_15 (by decide) ?_
    refine g_iload_n dX12_plug_16 rfl ?_
    refine n_imul dX12_plug_17 (by first | (with_reducible exact pk_mul _ _) | rfl) ?_
    refine n_iadd dX12_plug_18 (by first | (with_reducible exact nI_add _ _) | rfl) ?_
    refine g_iconst (v := nI 2) dX12_plug_19 (by decide) ?_
    refine n_iadd dX12_plug_20 (by first | (with_reducible exact nI_add _ _) | rfl) ?_
    refine n_iald dX12_plug_21 (by first | rfl | exact pv_shx) (by omega) (by omega) (by decide) (rfl) (by omega) (by repeat (first | exact clk_h | (apply rd_s; done) | apply rd_n (by omega) | apply rp_s | apply rp_n (by omega) | (apply rdL_s; done) | apply rdL_n (by omega) | apply rpJ_s | apply rpJ_n (by omega) | rfl)) ?_
    refine n_if_lt 27 dX12_plug_22 (by decide) (by first | ((with_reducible apply cN_lt0) <;> omega) | (with_reducible exact cI_lt0)) (fun c22 => ?_) (fun c22 => ?_)
    · skip
      refine g_aload_n dX12_plug_27 rfl ?_
      refine g_getP dX12_plug_28 fdX12_7 rfl (by first | rfl | exact pv_shx) (by omega) (by omega) (by decide) rfl (hP _ _ _ rfl) ?_
      refine g_sipush (v := nI 150) dX12_plug_31 (by decide) ?_
      refine g_iconst (v := nI 3) dX12_plug_34 (by decide) ?_
      refine g_iload_n dX12_plug_35 rfl ?_
      refine n_imul dX12_plug_36 (by first | (with_reducible exact pk_mul _ _) | rfl) ?_
      refine n_iadd dX12_plug_37 (by first | (with_reducible exact nI_add _ _) | rfl) ?_
      refine g_iconst (v := nI 2) dX12_plug_38 (by decide) ?_
      refine n_iadd dX12_plug_39 (by first | (with_reducible exact nI_add _ _) | rfl) ?_
      refine g_aload_n dX12_plug_40 rfl ?_
      refine g_getP dX12_plug_41 fdX12_7 rfl (by first | rfl | exact pv_shx) (by omega) (by omega) (by decide) rfl (hP _ _ _ rfl) ?_
      refine g_iconst (v := nI 0) dX12_plug_44 (by decide) ?_
      refine n_iald dX12_plug_45 (by first | rfl | exact pv_shx) (by omega) (by omega) (by decide) (rfl) (by omega) (by repeat (first | exact clk_h | (apply rd_s; done) | apply rd_n (by omega) | apply rp_s | apply rp_n (by omega) | (apply rdL_s; done) | apply rdL_n (by omega) | apply rpJ_s | apply rpJ_n (by omega) | rfl)) ?_
      refine n_iast dX12_plug_46 (by first | rfl | exact pv_shx) (by omega) (by omega) (by omega) (by decide) (rfl) (by omega) (by repeat (first | exact pvu_s | exact pvuJ_s | apply pvu_in (by omega) | apply pvuJ_in (by omega) | exact pvu_pvs | exact pvuJ_pvs)) ?_
      refine g_iconst (v := nI 1) dX12_plug_47 (by decide) ?_
      exact g_zret (by first | exact Or.inl rfl | exact Or.inr rfl | exact cB01 _) dX12_plug_48 rfl (⟨rfl, rfl, by rw [sp_plug, if_pos (by rw [ej]; omega), ej, clk_h]; exact ⟨rfl, rfl, rfl⟩⟩)
    · skip
      refine g_iconst (v := nI 0) dX12_plug_25 (by decide) ?_
      exact g_zret (by first | exact Or.inl rfl | exact Or.inr rfl | exact cB01 _) dX12_plug_26 rfl (⟨rfl, rfl, by rw [sp_plug, if_neg (by first | omega | (rw [ej]; omega))]; exact ⟨rfl, pvs_self.symm, rfl⟩⟩)
def sp_state (w h : Nat) (a : Nat → Int32) (c m : Int32) : Int32 × (Nat → Int32) :=
  if (0 ≤ c.toInt ∧ c.toInt < w * h) ∧ ((a (20 + c.toNatClampNeg)).toInt = 1 ∨ (a (20 + c.toNatClampNeg)).toInt = 2) ∧ (0 ≤ m.toInt ∧ m.toInt ≤ 99) ∧ ¬ cnt a 3 = 8 then (a 3, upd (upd (upd a (260 + 2 * cnt a 3) c) (260 + 2 * cnt a 3 + 1) m) 3 (nI (cnt a 3 + 1))) else (-1, a)
theorem t_state {w h : Nat} {I : pvI} {J : pvJ} {P : pvP} (hP : pvOkP P) (hD : mDim w h I) (hg : mG (I 203)) {c m : Int32} : pvMet mX12_state 2 0 0 [.ref 202, .int c, .int m] 224 I J P (mQ1 I J P (sp_state w h (I 203) c m)) := by
  obtain ⟨hw, hh, hw2, hh2⟩ := hD
  have hwh : 4 ≤ w * h ∧ w * h ≤ 64 := ⟨Nat.mul_le_mul hw2.1 hh2.1, Nat.mul_le_mul hw2.2 hh2.2⟩
  obtain ⟨ns, ns_b, ns_h⟩ := hg 3 (by decide)
  replace ns_b : ns ≤ 8 := ns_b
  have ns_e : cnt (I 203) 3 = ns := cnt_of ns_h (by omega)
  refine pvMet.of _ (by decide) rfl (Nat.le_of_ble_eq_true rfl) ?_
  refine g_aload_n dX12_state_0 rfl ?_
  refine g_iload_n dX12_state_1 rfl ?_
  refine p_callV (t_isCell hw hh hw2 hh2) okX12_isCell lkX12_100 rfl (by first | rfl | exact pv_shx) rfl (by omega) (by omega) dX12_state_2 rfl (Nat.le_of_ble_eq_true rfl) (⟨by decide, by decide, by decide, by decide⟩) ?_
  refine n_if_eq 52 dX12_state_5 (by decide) (by first | (with_reducible exact cB _) | ((with_reducible apply cN_eq0) <;> omega) | exact Iff.rfl) (fun c5 => ?_) (fun c5 => ?_)
  · skip
    refine g_iconst (v := (-1)) dX12_state_52 (by decide) ?_
    exact g_iret dX12_state_53 rfl (⟨rfl, rfl, by rw [sp_state, if_neg (by first | omega | (rw [ej]; omega))]; exact ⟨rfl, pvs_self.symm, rfl⟩⟩)
  · skip
    obtain ⟨j, hj, rfl⟩ := cI_of (x := c) (n := w * h) (by omega) (by omega) (by omega)
    have ej : (nI j).toNatClampNeg = j := nI_clamp (by omega)
    refine g_aload_n dX12_state_8 rfl ?_
    refine g_getP dX12_state_9 fdX12_7 rfl (by first | rfl | exact pv_shx) (by omega) (by omega) (by decide) rfl (hP _ _ _ rfl) ?_
    refine g_bipush (v := nI 20) dX12_state_12 (by decide) ?_
    refine g_iload_n dX12_state_14 rfl ?_
    refine n_iadd dX12_state_15 (by first | (with_reducible exact nI_add _ _) | rfl) ?_
    refine n_iald dX12_state_16 (by first | rfl | exact pv_shx) (by omega) (by omega) (by decide) (rfl) (by omega) (by repeat (first | exact ns_h | (apply rd_s; done) | apply rd_n (by omega) | apply rp_s | apply rp_n (by omega) | (apply rdL_s; done) | apply rdL_n (by omega) | apply rpJ_s | apply rpJ_n (by omega) | rfl)) ?_
    refine g_iconst (v := nI 1) dX12_state_17 (by decide) ?_
    refine n_icmp_eq 34 dX12_state_18 (by decide) (by first | ((with_reducible apply cN_eq) <;> omega) | ((with_reducible apply cI_eqn) <;> omega) | exact Iff.rfl) (fun c18 => ?_) (fun c18 => ?_)
    · skip
      refine g_iload_n dX12_state_34 rfl ?_
      refine p_callS (t_isWeek) okX12_isWeek lkX12_115 rfl dX12_state_35 rfl (Nat.le_of_ble_eq_true rfl) (⟨by decide, by decide, by decide, by decide⟩) ?_
      refine n_if_eq 52 dX12_state_38 (by decide) (by first | (with_reducible exact cB _) | ((with_reducible apply cN_eq0) <;> omega) | exact Iff.rfl) (fun c38 => ?_) (fun c38 => ?_)
      · skip
        refine g_iconst (v := (-1)) dX12_state_52 (by decide) ?_
        exact g_iret dX12_state_53 rfl (⟨rfl, rfl, by rw [sp_state, if_neg (by first | omega | (rw [ej]; omega))]; exact ⟨rfl, pvs_self.symm, rfl⟩⟩)
      · skip
        refine g_aload_n dX12_state_41 rfl ?_
        refine g_getP dX12_state_42 fdX12_7 rfl (by first | rfl | exact pv_shx) (by omega) (by omega) (by decide) rfl (hP _ _ _ rfl) ?_
        refine g_iconst (v := nI 3) dX12_state_45 (by decide) ?_
        refine n_iald dX12_state_46 (by first | rfl | exact pv_shx) (by omega) (by omega) (by decide) (rfl) (by omega) (by repeat (first | exact ns_h | (apply rd_s; done) | apply rd_n (by omega) | apply rp_s | apply rp_n (by omega) | (apply rdL_s; done) | apply rdL_n (by omega) | apply rpJ_s | apply rpJ_n (by omega) | rfl)) ?_
        refine g_bipush (v := nI 8) dX12_state_47 (by decide) ?_
        refine n_icmp_ne 54 dX12_state_49 (by decide) (by first | ((with_reducible apply cN_eq) <;> omega) | ((with_reducible apply cI_eqn) <;> omega) | exact Iff.rfl) (fun c49 => ?_) (fun c49 => ?_)
        · skip
          refine g_aload_n dX12_state_54 rfl ?_
          refine g_getP dX12_state_55 fdX12_7 rfl (by first | rfl | exact pv_shx) (by omega) (by omega) (by decide) rfl (hP _ _ _ rfl) ?_
          refine g_sipush (v := nI 260) dX12_state_58 (by decide) ?_
          refine g_iconst (v := nI 2) dX12_state_61 (by decide) ?_
          refine g_aload_n dX12_state_62 rfl ?_
          refine g_getP dX12_state_63 fdX12_7 rfl (by first | rfl | exact pv_shx) (by omega) (by omega) (by decide) rfl (hP _ _ _ rfl) ?_
          refine g_iconst (v := nI 3) dX12_state_66 (by decide) ?_
          refine n_iald dX12_state_67 (by first | rfl | exact pv_shx) (by omega) (by omega) (by decide) (rfl) (by omega) (by repeat (first | exact ns_h | (apply rd_s; done) | apply rd_n (by omega) | apply rp_s | apply rp_n (by omega) | (apply rdL_s; done) | apply rdL_n (by omega) | apply rpJ_s | apply rpJ_n (by omega) | rfl)) ?_
          refine n_imul dX12_state_68 (by first | (with_reducible exact pk_mul _ _) | rfl) ?_
          refine n_iadd dX12_state_69 (by first | (with_reducible exact nI_add _ _) | rfl) ?_
          refine g_iload_n dX12_state_70 rfl ?_
          refine n_iast dX12_state_71 (by first | rfl | exact pv_shx) (by omega) (by omega) (by omega) (by decide) (rfl) (by omega) (by repeat (first | exact pvu_s | exact pvuJ_s | apply pvu_in (by omega) | apply pvuJ_in (by omega) | exact pvu_pvs | exact pvuJ_pvs)) ?_
          refine g_aload_n dX12_state_72 rfl ?_
          refine g_getP dX12_state_73 fdX12_7 rfl (by first | rfl | exact pv_shx) (by omega) (by omega) (by decide) rfl (hP _ _ _ rfl) ?_
          refine g_sipush (v := nI 260) dX12_state_76 (by decide) ?_
          refine g_iconst (v := nI 2) dX12_state_79 (by decide) ?_
          refine g_aload_n dX12_state_80 rfl ?_
          refine g_getP dX12_state_81 fdX12_7 rfl (by first | rfl | exact pv_shx) (by omega) (by omega) (by decide) rfl (hP _ _ _ rfl) ?_
          refine g_iconst (v := nI 3) dX12_state_84 (by decide) ?_
          refine n_iald dX12_state_85 (by first | rfl | exact pv_shx) (by omega) (by omega) (by decide) (rfl) (by omega) (by repeat (first | exact ns_h | (apply rd_s; done) | apply rd_n (by omega) | apply rp_s | apply rp_n (by omega) | (apply rdL_s; done) | apply rdL_n (by omega) | apply rpJ_s | apply rpJ_n (by omega) | rfl)) ?_
          refine n_imul dX12_state_86 (by first | (with_reducible exact pk_mul _ _) | rfl) ?_
          refine n_iadd dX12_state_87 (by first | (with_reducible exact nI_add _ _) | rfl) ?_
          refine g_iconst (v := nI 1) dX12_state_88 (by decide) ?_
          refine n_iadd dX12_state_89 (by first | (with_reducible exact nI_add _ _) | rfl) ?_
          refine g_iload_n dX12_state_90 rfl ?_
          refine n_iast dX12_state_91 (by first | rfl | exact pv_shx) (by omega) (by omega) (by omega) (by decide) (rfl) (by omega) (by repeat (first | exact pvu_s | exact pvuJ_s | apply pvu_in (by omega) | apply pvuJ_in (by omega) | exact pvu_pvs | exact pvuJ_pvs)) ?_
          refine g_aload_n dX12_state_92 rfl ?_
          refine g_getP dX12_state_93 fdX12_7 rfl (by first | rfl | exact pv_shx) (by omega) (by omega) (by decide) rfl (hP _ _ _ rfl) ?_
          refine g_iconst (v := nI 3) dX12_state_96 (by decide) ?_
          refine g_dup2 dX12_state_97 rfl rfl ?_
          refine n_iald dX12_state_98 (by first | rfl | exact pv_shx) (by omega) (by omega) (by decide) (rfl) (by omega) (by repeat (first | exact ns_h | (apply rd_s; done) | apply rd_n (by omega) | apply rp_s | apply rp_n (by omega) | (apply rdL_s; done) | apply rdL_n (by omega) | apply rpJ_s | apply rpJ_n (by omega) | rfl)) ?_
          refine g_iconst (v := nI 1) dX12_state_99 (by decide) ?_
          refine n_iadd dX12_state_100 (by first | (with_reducible exact nI_add _ _) | rfl) ?_
          refine n_iast dX12_state_101 (by first | rfl | exact pv_shx) (by omega) (by omega) (by omega) (by decide) (rfl) (by omega) (by repeat (first | exact pvu_s | exact pvuJ_s | apply pvu_in (by omega) | apply pvuJ_in (by omega) | exact pvu_pvs | exact pvuJ_pvs)) ?_
          refine g_aload_n dX12_state_102 rfl ?_
          refine g_getP dX12_state_103 fdX12_7 rfl (by first | rfl | exact pv_shx) (by omega) (by omega) (by decide) rfl (hP _ _ _ rfl) ?_
          refine g_iconst (v := nI 3) dX12_state_106 (by decide) ?_
          refine n_iald dX12_state_107 (by first | rfl | exact pv_shx) (by omega) (by omega) (by decide) (rfl) (by omega) (by repeat (first | exact ns_h | (apply rd_s; done) | apply rd_n (by omega) | apply rp_s | apply rp_n (by omega) | (apply rdL_s; done) | apply rdL_n (by omega) | apply rpJ_s | apply rpJ_n (by omega) | rfl)) ?_
          refine g_iconst (v := nI 1) dX12_state_108 (by decide) ?_
          refine n_isub dX12_state_109 (by first | ((with_reducible apply pk_sub) <;> omega) | rfl) ?_
          exact g_iret dX12_state_110 rfl (⟨rfl, rfl, by rw [sp_state, if_pos (by rw [ej]; omega), ns_e, ns_h]; exact ⟨rfl, rfl, rfl⟩⟩)
        · skip
          refine g_iconst (v := (-1)) dX12_state_52 (by decide) ?_
          exact g_iret dX12_state_53 rfl (⟨rfl, rfl, by rw [sp_state, if_neg (by first | omega | (rw [ej]; omega))]; exact ⟨rfl, pvs_self.symm, rfl⟩⟩)
    · skip
      refine g_aload_n dX12_state_21 rfl ?_
      refine g_getP dX12_state_22 fdX12_7 rfl (by first | rfl | exact pv_shx) (by omega) (by omega) (by decide) rfl (hP _ _ _ rfl) ?_
      refine g_bipush (v := nI 20) dX12_state_25 (by decide) ?_
      refine g_iload_n dX12_state_27 rfl ?_
      refine n_iadd dX12_state_28 (by first | (with_reducible exact nI_add _ _) | rfl) ?_
      refine n_iald dX12_state_29 (by first | rfl | exact pv_shx) (by omega) (by omega) (by decide) (rfl) (by omega) (by repeat (first | exact ns_h | (apply rd_s; done) | apply rd_n (by omega) | apply rp_s | apply rp_n (by omega) | (apply rdL_s; done) | apply rdL_n (by omega) | apply rpJ_s | apply rpJ_n (by omega) | rfl)) ?_
      refine g_iconst (v := nI 2) dX12_state_30 (by decide) ?_
      refine n_icmp_ne 52 dX12_state_31 (by decide) (by first | ((with_reducible apply cN_eq) <;> omega) | ((with_reducible apply cI_eqn) <;> omega) | exact Iff.rfl) (fun c31 => ?_) (fun c31 => ?_)
      · skip
        refine g_iconst (v := (-1)) dX12_state_52 (by decide) ?_
        exact g_iret dX12_state_53 rfl (⟨rfl, rfl, by rw [sp_state, if_neg (by first | omega | (rw [ej]; omega))]; exact ⟨rfl, pvs_self.symm, rfl⟩⟩)
      · skip
        refine g_iload_n dX12_state_34 rfl ?_
        refine p_callS (t_isWeek) okX12_isWeek lkX12_115 rfl dX12_state_35 rfl (Nat.le_of_ble_eq_true rfl) (⟨by decide, by decide, by decide, by decide⟩) ?_
        refine n_if_eq 52 dX12_state_38 (by decide) (by first | (with_reducible exact cB _) | ((with_reducible apply cN_eq0) <;> omega) | exact Iff.rfl) (fun c38 => ?_) (fun c38 => ?_)
        · skip
          refine g_iconst (v := (-1)) dX12_state_52 (by decide) ?_
          exact g_iret dX12_state_53 rfl (⟨rfl, rfl, by rw [sp_state, if_neg (by first | omega | (rw [ej]; omega))]; exact ⟨rfl, pvs_self.symm, rfl⟩⟩)
        · skip
          refine g_aload_n dX12_state_41 rfl ?_
          refine g_getP dX12_state_42 fdX12_7 rfl (by first | rfl | exact pv_shx) (by omega) (by omega) (by decide) rfl (hP _ _ _ rfl) ?_
          refine g_iconst (v := nI 3) dX12_state_45 (by decide) ?_
          refine n_iald dX12_state_46 (by first | rfl | exact pv_shx) (by omega) (by omega) (by decide) (rfl) (by omega) (by repeat (first | exact ns_h | (apply rd_s; done) | apply rd_n (by omega) | apply rp_s | apply rp_n (by omega) | (apply rdL_s; done) | apply rdL_n (by omega) | apply rpJ_s | apply rpJ_n (by omega) | rfl)) ?_
          refine g_bipush (v := nI 8) dX12_state_47 (by decide) ?_
          refine n_icmp_ne 54 dX12_state_49 (by decide) (by first | ((with_reducible apply cN_eq) <;> omega) | ((with_reducible apply cI_eqn) <;> omega) | exact Iff.rfl) (fun c49 => ?_) (fun c49 => ?_)
          · skip
            refine g_aload_n dX12_state_54 rfl ?_
            refine g_getP dX12_state_55 fdX12_7 rfl (by first | rfl | exact pv_shx) (by omega) (by omega) (by decide) rfl (hP _ _ _ rfl) ?_
            refine g_sipush (v := nI 260) dX12_state_58 (by decide) ?_
            refine g_iconst (v := nI 2) dX12_state_61 (by decide) ?_
            refine g_aload_n dX12_state_62 rfl ?_
            refine g_getP dX12_state_63 fdX12_7 rfl (by first | rfl | exact pv_shx) (by omega) (by omega) (by decide) rfl (hP _ _ _ rfl) ?_
            refine g_iconst (v := nI 3) dX12_state_66 (by decide) ?_
            refine n_iald dX12_state_67 (by first | rfl | exact pv_shx) (by omega) (by omega) (by decide) (rfl) (by omega) (by repeat (first | exact ns_h | (apply rd_s; done) | apply rd_n (by omega) | apply rp_s | apply rp_n (by omega) | (apply rdL_s; done) | apply rdL_n (by omega) | apply rpJ_s | apply rpJ_n (by omega) | rfl)) ?_
            refine n_imul dX12_state_68 (by first | (with_reducible exact pk_mul _ _) | rfl) ?_
            refine n_iadd dX12_state_69 (by first | (with_reducible exact nI_add _ _) | rfl) ?_
            refine g_iload_n dX12_state_70 rfl ?_
            refine n_iast dX12_state_71 (by first | rfl | exact pv_shx) (by omega) (by omega) (by omega) (by decide) (rfl) (by omega) (by repeat (first | exact pvu_s | exact pvuJ_s | apply pvu_in (by omega) | apply pvuJ_in (by omega) | exact pvu_pvs | exact pvuJ_pvs)) ?_
            refine g_aload_n dX12_state_72 rfl ?_
            refine g_getP dX12_state_73 fdX12_7 rfl (by first | rfl | exact pv_shx) (by omega) (by omega) (by decide) rfl (hP _ _ _ rfl) ?_
            refine g_sipush (v := nI 260) dX12_state_76 (by decide) ?_
            refine g_iconst (v := nI 2) dX12_state_79 (by decide) ?_
            refine g_aload_n dX12_state_80 rfl ?_
            refine g_getP dX12_state_81 fdX12_7 rfl (by first | rfl | exact pv_shx) (by omega) (by omega) (by decide) rfl (hP _ _ _ rfl) ?_
            refine g_iconst (v := nI 3) dX12_state_84 (by decide) ?_
            refine n_iald dX12_state_85 (by first | rfl | exact pv_shx) (by omega) (by omega) (by decide) (rfl) (by omega) (by repeat (first | exact ns_h | (apply rd_s; done) | apply rd_n (by omega) | apply rp_s | apply rp_n (by omega) | (apply rdL_s; done) | apply rdL_n (by omega) | apply rpJ_s | apply rpJ_n (by omega) | rfl)) ?_
            refine n_imul dX12_state_86 (by first | (with_reducible exact pk_mul _ _) | rfl) ?_
            refine n_iadd dX12_state_87 (by first | (with_reducible exact nI_add _ _) | rfl) ?_
            refine g_iconst (v := nI 1) dX12_state_88 (by decide) ?_
            refine n_iadd dX12_state_89 (by first | (with_reducible exact nI_add _ _) | rfl) ?_
            refine g_iload_n dX12_state_90 rfl ?_
            refine n_iast dX12_state_91 (by first | rfl | exact pv_shx) (by omega) (by omega) (by omega) (by decide) (rfl) (by omega) (by repeat (first | exact pvu_s | exact pvuJ_s | apply pvu_in (by omega) | apply pvuJ_in (by omega) | exact pvu_pvs | exact pvuJ_pvs)) ?_
            refine g_aload_n dX12_state_92 rfl ?_
            refine g_getP dX12_state_93 fdX12_7 rfl (by first | rfl | exact pv_shx) (by omega) (by omega) (by decide) rfl (hP _ _ _ rfl) ?_
            refine g_iconst (v := nI 3) dX12_state_96 (by decide) ?_
            refine g_dup2 dX12_state_97 rfl rfl ?_
            refine n_iald dX12_state_98 (by first | rfl | exact pv_shx) (by omega) (by omega) (by decide) (rfl) (by omega) (by repeat (first | exact ns_h | (apply rd_s; done) | apply rd_n (by omega) | apply rp_s | apply rp_n (by omega) | (apply rdL_s; done) | apply rdL_n (by omega) | apply rpJ_s | apply rpJ_n (by omega) | rfl)) ?_
            refine g_iconst (v := nI 1) dX12_state_99 (by decide) ?_
            refine n_iadd dX12_state_100 (by first | (with_reducible exact nI_add _ _) | rfl) ?_
            refine n_iast dX12_state_101 (by first | rfl | exact pv_shx) (by omega) (by omega) (by omega) (by decide) (rfl) (by omega) (by repeat (first | exact pvu_s | exact pvuJ_s | apply pvu_in (by omega) | apply pvuJ_in (by omega) | exact pvu_pvs | exact pvuJ_pvs)) ?_
            refine g_aload_n dX12_state_102 rfl ?_
            refine g_getP dX12_state_103 fdX12_7 rfl (by first | rfl | exact pv_shx) (by omega) (by omega) (by decide) rfl (hP _ _ _ rfl) ?_
            refine g_iconst (v := nI 3) dX12_state_106 (by decide) ?_
            refine n_iald dX12_state_107 (by first | rfl | exact pv_shx) (by omega) (by omega) (by decide) (rfl) (by omega) (by repeat (first | exact ns_h | (apply rd_s; done) | apply rd_n (by omega) | apply rp_s | apply rp_n (by omega) | (apply rdL_s; done) | apply rdL_n (by omega) | apply rpJ_s | apply rpJ_n (by omega) | rfl)) ?_
            refine g_iconst (v := nI 1) dX12_state_108 (by decide) ?_
            refine n_isub dX12_state_109 (by first | ((with_reducible apply pk_sub) <;> omega) | rfl) ?_
            exact g_iret dX12_state_110 rfl (⟨rfl, rfl, by rw [sp_state, if_pos (by rw [ej]; omega), ns_e, ns_h]; exact ⟨rfl, rfl, rfl⟩⟩)
          · skip
            refine g_iconst (v := (-1)) dX12_state_52 (by decide) ?_
            exact g_iret dX12_state_53 rfl (⟨rfl, rfl, by rw [sp_state, if_neg (by first | omega | (rw [ej]; omega))]; exact ⟨rfl, pvs_self.symm, rfl⟩⟩)
def sp_read (w h : Nat) (a : Nat → Int32) (c m b : Int32) : Int32 × (Nat → Int32) :=
  if (0 ≤ c.toInt ∧ c.toInt < w * h) ∧ (0 ≤ m.toInt ∧ m.toInt ≤ 99) ∧ m.toInt ≤ cnt a 0 ∧ ¬ cnt a 4 = 200 then (nI (cnt a 4 + 1), upd (upd (upd (upd (upd a (280 + 4 * cnt a 4) c) (280 + 4 * cnt a 4 + 1) m) (280 + 4 * cnt a 4 + 2) (if b = 0 then nI 0 else nI 1)) (280 + 4 * cnt a 4 + 3) (a 0)) 4 (nI (cnt a 4 + 1))) else (-1, a)
theorem t_read {w h : Nat} {I : pvI} {J : pvJ} {P : pvP} (hP : pvOkP P) (hD : mDim w h I) (hg : mG (I 203)) {c m b : Int32} : pvMet mX12_read 2 0 0 [.ref 202, .int c, .int m, .int b] 224 I J P (mQ1 I J P (sp_read w h (I 203) c m b)) := by
  obtain ⟨hw, hh, hw2, hh2⟩ := hD
  have hwh : 4 ≤ w * h ∧ w * h ≤ 64 := ⟨Nat.mul_le_mul hw2.1 hh2.1, Nat.mul_le_mul hw2.2 hh2.2⟩
  obtain ⟨clk, clk_b, clk_h⟩ := hg 0 (by decide)
  replace clk_b : clk ≤ 100 := clk_b
  have clk_e : cnt (I 203) 0 = clk := cnt_of clk_h (by omega)
  obtain ⟨nr, nr_b, nr_h⟩ := hg 4 (by decide)
  replace nr_b : nr ≤ 200 := nr_b
  have nr_e : cnt (I 203) 4 = nr := cnt_of nr_h (by omega)
  refine pvMet.of _ (by decide) rfl (Nat.le_of_ble_eq_true rfl) ?_
  refine g_aload_n dX12_read_0 rfl ?_
  refine g_iload_n dX12_read_1 rfl ?_
  refine p_callV (t_isCell hw hh hw2 hh2) okX12_isCell lkX12_100 rfl (by first | rfl | exact pv_shx) rfl (by omega) (by omega) dX12_read_2 rfl (Nat.le_of_ble_eq_true rfl) (⟨by decide, by decide, by decide, by decide⟩) ?_
  refine n_if_eq 37 dX12_read_5 (by decide) (by first | (with_reducible exact cB _) | ((with_reducible apply cN_eq0) <;> omega) | exact Iff.rfl) (fun c5 => ?_) (fun c5 => ?_)
  · skip
    refine g_iconst (v := (-1)) dX12_read_37 (by decide) ?_
    exact g_iret dX12_read_38 rfl (⟨rfl, rfl, by rw [sp_read, if_neg (by omega)]; exact ⟨rfl, pvs_self.symm, rfl⟩⟩)
  · skip
    refine g_iload_n dX12_read_8 rfl ?_
    refine p_callS (t_isWeek) okX12_isWeek lkX12_115 rfl dX12_read_9 rfl (Nat.le_of_ble_eq_true rfl) (⟨by decide, by decide, by decide, by decide⟩) ?_
    refine n_if_eq 37 dX12_read_12 (by decide) (by first | (with_reducible exact cB _) | ((with_reducible apply cN_eq0) <;> omega) | exact Iff.rfl) (fun c12 => ?_) (fun c12 => ?_)
    · skip
      refine g_iconst (v := (-1)) dX12_read_37 (by decide) ?_
      exact g_iret dX12_read_38 rfl (⟨rfl, rfl, by rw [sp_read, if_neg (by omega)]; exact ⟨rfl, pvs_self.symm, rfl⟩⟩)
    · skip
      refine g_iload_n dX12_read_15 rfl ?_
      refine g_aload_n dX12_read_16 rfl ?_
      refine g_getP dX12_read_17 fdX12_7 rfl (by first | rfl | exact pv_shx) (by omega) (by omega) (by decide) rfl (hP _ _ _ rfl) ?_
      refine g_iconst (v := nI 0) dX12_read_20 (by decide) ?_
      refine n_iald dX12_read_21 (by first | rfl | exact pv_shx) (by omega) (by omega) (by decide) (rfl) (by omega) (by repeat (first | exact clk_h | exact nr_h | (apply rd_s; done) | apply rd_n (by omega) | apply rp_s | apply rp_n (by omega) | (apply rdL_s; done) | apply rdL_n (by omega) | apply rpJ_s | apply rpJ_n (by omega) | rfl)) ?_
      refine n_icmp_gt 37 dX12_read_22 (by decide) (by first | ((with_reducible apply cN_lt) <;> omega) | ((with_reducible apply cI_ltn) <;> omega) | ((with_reducible apply cI_nlt) <;> omega) | (with_reducible exact cI_lt)) (fun c22 => ?_) (fun c22 => ?_)
      · skip
        refine g_iconst (v := (-1)) dX12_read_37 (by decide) ?_
        exact g_iret dX12_read_38 rfl (⟨rfl, rfl, by rw [sp_read, if_neg (by omega)]; exact ⟨rfl, pvs_self.symm, rfl⟩⟩)
      · skip
        refine g_aload_n dX12_read_25 rfl ?_
        refine g_getP dX12_read_26 fdX12_7 rfl (by first | rfl | exact pv_shx) (by omega) (by omega) (by decide) rfl (hP _ _ _ rfl) ?_
        refine g_iconst (v := nI 4) dX12_read_29 (by decide) ?_
        refine n_iald dX12_read_30 (by first | rfl | exact pv_shx) (by omega) (by omega) (by decide) (rfl) (by omega) (by repeat (first | exact clk_h | exact nr_h | (apply rd_s; done) | apply rd_n (by omega) | apply rp_s | apply rp_n (by omega) | (apply rdL_s; done) | apply rdL_n (by omega) | apply rpJ_s | apply rpJ_n (by omega) | rfl)) ?_
        refine g_sipush (v := nI 200) dX12_read_31 (by decide) ?_
        refine n_icmp_ne 39 dX12_read_34 (by decide) (by first | ((with_reducible apply cN_eq) <;> omega) | ((with_reducible apply cI_eqn) <;> omega) | exact Iff.rfl) (fun c34 => ?_) (fun c34 => ?_)
        · skip
          refine g_sipush (v := nI 280) dX12_read_39 (by decide) ?_
          refine g_iconst (v := nI 4) dX12_read_42 (by decide) ?_
          refine g_aload_n dX12_read_43 rfl ?_
          refine g_getP dX12_read_44 fdX12_7 rfl (by first | rfl | exact pv_shx) (by omega) (by omega) (by decide) rfl (hP _ _ _ rfl) ?_
          refine g_iconst (v := nI 4) dX12_read_47 (by decide) ?_
          refine n_iald dX12_read_48 (by first | rfl | exact pv_shx) (by omega) (by omega) (by decide) (rfl) (by omega) (by repeat (first | exact clk_h | exact nr_h | (apply rd_s; done) | apply rd_n (by omega) | apply rp_s | apply rp_n (by omega) | (apply rdL_s; done) | apply rdL_n (by omega) | apply rpJ_s | apply rpJ_n (by omega) | rfl)) ?_
          refine n_imul dX12_read_49 (by first | (with_reducible exact pk_mul _ _) | rfl) ?_
          refine n_iadd dX12_read_50 (by first | (with_reducible exact nI_add _ _) | rfl) ?_
          refine g_istore dX12_read_51 (by decide) rfl ?_
          refine g_aload_n dX12_read_53 rfl ?_
          refine g_getP dX12_read_54 fdX12_7 rfl (by first | rfl | exact pv_shx) (by omega) (by omega) (by decide) rfl (hP _ _ _ rfl) ?_
          refine g_iload dX12_read_57 rfl ?_
          refine g_iload_n dX12_read_59 rfl ?_
          refine n_iast dX12_read_60 (by first | rfl | exact pv_shx) (by omega) (by omega) (by omega) (by decide) (rfl) (by omega) (by repeat (first | exact pvu_s | exact pvuJ_s | apply pvu_in (by omega) | apply pvuJ_in (by omega) | exact pvu_pvs | exact pvuJ_pvs)) ?_
          refine g_aload_n dX12_read_61 rfl ?_
          refine g_getP dX12_read_62 fdX12_7 rfl (by first | rfl | exact pv_shx) (by omega) (by omega) (by decide) rfl (hP _ _ _ rfl) ?_
          refine g_iload dX12_read_65 rfl ?_
          refine g_iconst (v := nI 1) dX12_read_67 (by decide) ?_
          refine n_iadd dX12_read_68 (by first | (with_reducible exact nI_add _ _) | rfl) ?_
          refine g_iload_n dX12_read_69 rfl ?_
          refine n_iast dX12_read_70 (by first | rfl | exact pv_shx) (by omega) (by omega) (by omega) (by decide) (rfl) (by omega) (by repeat (first | exact pvu_s | exact pvuJ_s | apply pvu_in (by omega) | apply pvuJ_in (by omega) | exact pvu_pvs | exact pvuJ_pvs)) ?_
          refine g_aload_n dX12_read_71 rfl ?_
          refine g_getP dX12_read_72 fdX12_7 rfl (by first | rfl | exact pv_shx) (by omega) (by omega) (by decide) rfl (hP _ _ _ rfl) ?_
          refine g_iload dX12_read_75 rfl ?_
          refine g_iconst (v := nI 2) dX12_read_77 (by decide) ?_
          refine n_iadd dX12_read_78 (by first | (with_reducible exact nI_add _ _) | rfl) ?_
          refine g_iload_n dX12_read_79 rfl ?_
          refine n_if_eq 87 dX12_read_80 (by decide) (Iff.rfl) (fun c80 => ?_) (fun c80 => ?_)
          · skip
            refine g_iconst (v := nI 0) dX12_read_87 (by decide) ?_
            refine n_iast dX12_read_88 (by first | rfl | exact pv_shx) (by omega) (by omega) (by omega) (by decide) (rfl) (by omega) (by repeat (first | exact pvu_s | exact pvuJ_s | apply pvu_in (by omega) | apply pvuJ_in (by omega) | exact pvu_pvs | exact pvuJ_pvs)) ?_
            refine g_aload_n dX12_read_89 rfl ?_
            refine g_getP dX12_read_90 fdX12_7 rfl (by first | rfl | exact pv_shx) (by omega) (by omega) (by decide) rfl (hP _ _ _ rfl) ?_
            refine g_iload dX12_read_93 rfl ?_
            refine g_iconst (v := nI 3) dX12_read_95 (by decide) ?_
            refine n_iadd dX12_read_96 (by first | (with_reducible exact nI_add _ _) | rfl) ?_
            refine g_aload_n dX12_read_97 rfl ?_
            refine g_getP dX12_read_98 fdX12_7 rfl (by first | rfl | exact pv_shx) (by omega) (by omega) (by decide) rfl (hP _ _ _ rfl) ?_
            refine g_iconst (v := nI 0) dX12_read_101 (by decide) ?_
            refine n_iald dX12_read_102 (by first | rfl | exact pv_shx) (by omega) (by omega) (by decide) (rfl) (by omega) (by repeat (first | exact clk_h | exact nr_h | (apply rd_s; done) | apply rd_n (by omega) | apply rp_s | apply rp_n (by omega) | (apply rdL_s; done) | apply rdL_n (by omega) | apply rpJ_s | apply rpJ_n (by omega) | rfl)) ?_
            refine n_iast dX12_read_103 (by first | rfl | exact pv_shx) (by omega) (by omega) (by omega) (by decide) (rfl) (by omega) (by repeat (first | exact pvu_s | exact pvuJ_s | apply pvu_in (by omega) | apply pvuJ_in (by omega) | exact pvu_pvs | exact pvuJ_pvs)) ?_
            refine g_aload_n dX12_read_104 rfl ?_
            refine g_getP dX12_read_105 fdX12_7 rfl (by first | rfl | exact pv_shx) (by omega) (by omega) (by decide) rfl (hP _ _ _ rfl) ?_
            refine g_iconst (v := nI 4) dX12_read_108 (by decide) ?_
            refine g_dup2 dX12_read_109 rfl rfl ?_
            refine n_iald dX12_read_110 (by first | rfl | exact pv_shx) (by omega) (by omega) (by decide) (rfl) (by omega) (by repeat (first | exact clk_h | exact nr_h | (apply rd_s; done) | apply rd_n (by omega) | apply rp_s | apply rp_n (by omega) | (apply rdL_s; done) | apply rdL_n (by omega) | apply rpJ_s | apply rpJ_n (by omega) | rfl)) ?_
            refine g_iconst (v := nI 1) dX12_read_111 (by decide) ?_
            refine n_iadd dX12_read_112 (by first | (with_reducible exact nI_add _ _) | rfl) ?_
            refine n_iast dX12_read_113 (by first | rfl | exact pv_shx) (by omega) (by omega) (by omega) (by decide) (rfl) (by omega) (by repeat (first | exact pvu_s | exact pvuJ_s | apply pvu_in (by omega) | apply pvuJ_in (by omega) | exact pvu_pvs | exact pvuJ_pvs)) ?_
            refine g_aload_n dX12_read_114 rfl ?_
            refine g_getP dX12_read_115 fdX12_7 rfl (by first | rfl | exact pv_shx) (by omega) (by omega) (by decide) rfl (hP _ _ _ rfl) ?_
            refine g_iconst (v := nI 4) dX12_read_118 (by decide) ?_
            refine n_iald dX12_read_119 (by first | rfl | exact pv_shx) (by omega) (by omega) (by decide) (rfl) (by omega) (by repeat (first | exact clk_h | exact nr_h | (apply rd_s; done) | apply rd_n (by omega) | apply rp_s | apply rp_n (by omega) | (apply rdL_s; done) | apply rdL_n (by omega) | apply rpJ_s | apply rpJ_n (by omega) | rfl)) ?_
            exact g_iret dX12_read_120 rfl (⟨rfl, rfl, by rw [sp_read, if_pos (by omega), nr_e, clk_h]; (first | rw [if_pos c80] | rw [if_neg c80]); exact ⟨rfl, rfl, rfl⟩⟩)
          · skip
            refine g_iconst (v := nI 1) dX12_read_83 (by decide) ?_
            refine g_goto 88 dX12_read_84 (by decide) ?_
            refine n_iast dX12_read_88 (by first | rfl | exact pv_shx) (by omega) (by omega) (by omega) (by decide) (rfl) (by omega) (by repeat (first | exact pvu_s | exact pvuJ_s | apply pvu_in (by omega) | apply pvuJ_in (by omega) | exact pvu_pvs | exact pvuJ_pvs)) ?_
            refine g_aload_n dX12_read_89 rfl ?_
            refine g_getP dX12_read_90 fdX12_7 rfl (by first | rfl | exact pv_shx) (by omega) (by omega) (by decide) rfl (hP _ _ _ rfl) ?_
            refine g_iload dX12_read_93 rfl ?_
            refine g_iconst (v := nI 3) dX12_read_95 (by decide) ?_
            refine n_iadd dX12_read_96 (by first | (with_reducible exact nI_add _ _) | rfl) ?_
            refine g_aload_n dX12_read_97 rfl ?_
            refine g_getP dX12_read_98 fdX12_7 rfl (by first | rfl | exact pv_shx) (by omega) (by omega) (by decide) rfl (hP _ _ _ rfl) ?_
            refine g_iconst (v := nI 0) dX12_read_101 (by decide) ?_
            refine n_iald dX12_read_102 (by first | rfl | exact pv_shx) (by omega) (by omega) (by decide) (rfl) (by omega) (by repeat (first | exact clk_h | exact nr_h | (apply rd_s; done) | apply rd_n (by omega) | apply rp_s | apply rp_n (by omega) | (apply rdL_s; done) | apply rdL_n (by omega) | apply rpJ_s | apply rpJ_n (by omega) | rfl)) ?_
            refine n_iast dX12_read_103 (by first | rfl | exact pv_shx) (by omega) (by omega) (by omega) (by decide) (rfl) (by omega) (by repeat (first | exact pvu_s | exact pvuJ_s | apply pvu_in (by omega) | apply pvuJ_in (by omega) | exact pvu_pvs | exact pvuJ_pvs)) ?_
            refine g_aload_n dX12_read_104 rfl ?_
            refine g_getP dX12_read_105 fdX12_7 rfl (by first | rfl | exact pv_shx) (by omega) (by omega) (by decide) rfl (hP _ _ _ rfl) ?_
            refine g_iconst (v := nI 4) dX12_read_108 (by decide) ?_
            refine g_dup2 dX12_read_109 rfl rfl ?_
            refine n_iald dX12_read_110 (by first | rfl | exact pv_shx) (by omega) (by omega) (by decide) (rfl) (by omega) (by repeat (first | exact clk_h | exact nr_h | (apply rd_s; done) | apply rd_n (by omega) | apply rp_s | apply rp_n (by omega) | (apply rdL_s; done) | apply rdL_n (by omega) | apply rpJ_s | apply rpJ_n (by omega) | rfl)) ?_
            refine g_iconst (v := nI 1) dX12_read_111 (by decide) ?_
            refine n_iadd dX12_read_112 (by first | (with_reducible exact nI_add _ _) | rfl) ?_
            refine n_iast dX12_read_113 (by first | rfl | exact pv_shx) (by omega) (by omega) (by omega) (by decide) (rfl) (by omega) (by repeat (first | exact pvu_s | exact pvuJ_s | apply pvu_in (by omega) | apply pvuJ_in (by omega) | exact pvu_pvs | exact pvuJ_pvs)) ?_
            refine g_aload_n dX12_read_114 rfl ?_
            refine g_getP dX12_read_115 fdX12_7 rfl (by first | rfl | exact pv_shx) (by omega) (by omega) (by decide) rfl (hP _ _ _ rfl) ?_
            refine g_iconst (v := nI 4) dX12_read_118 (by decide) ?_
            refine n_iald dX12_read_119 (by first | rfl | exact pv_shx) (by omega) (by omega) (by decide) (rfl) (by omega) (by repeat (first | exact clk_h | exact nr_h | (apply rd_s; done) | apply rd_n (by omega) | apply rp_s | apply rp_n (by omega) | (apply rdL_s; done) | apply rdL_n (by omega) | apply rpJ_s | apply rpJ_n (by omega) | rfl)) ?_
            exact g_iret dX12_read_120 rfl (⟨rfl, rfl, by rw [sp_read, if_pos (by omega), nr_e, clk_h]; (first | rw [if_pos c80] | rw [if_neg c80]); exact ⟨rfl, rfl, rfl⟩⟩)
        · skip
          refine g_iconst (v := (-1)) dX12_read_37 (by decide) ?_
          exact g_iret dX12_read_38 rfl (⟨rfl, rfl, by rw [sp_read, if_neg (by omega)]; exact ⟨rfl, pvs_self.symm, rfl⟩⟩)
def sp_house (w h : Nat) (a : Nat → Int32) (c x y : Int32) : Int32 × (Nat → Int32) :=
  if (0 ≤ c.toInt ∧ c.toInt < w * h) ∧ (0 ≤ x.toInt ∧ x.toInt ≤ 9) ∧ (1 ≤ y.toInt ∧ y.toInt ≤ 9) ∧ ¬ cnt a 5 = 20 then (a 5, upd (upd (upd (upd (upd (upd a (1080 + 5 * cnt a 5) c) (1080 + 5 * cnt a 5 + 1) x) (1080 + 5 * cnt a 5 + 2) y) (1080 + 5 * cnt a 5 + 3) (nI 0)) (1080 + 5 * cnt a 5 + 4) (-1)) 5 (nI (cnt a 5 + 1))) else (-1, a)
theorem t_house {w h : Nat} {I : pvI} {J : pvJ} {P : pvP} (hP : pvOkP P) (hD : mDim w h I) (hg : mG (I 203)) {c x y : Int32} : pvMet mX12_house 2 0 0 [.ref 202, .int c, .int x, .int y] 224 I J P (mQ1 I J P (sp_house w h (I 203) c x y)) := by
  obtain ⟨hw, hh, hw2, hh2⟩ := hD
  have hwh : 4 ≤ w * h ∧ w * h ≤ 64 := ⟨Nat.mul_le_mul hw2.1 hh2.1, Nat.mul_le_mul hw2.2 hh2.2⟩
  obtain ⟨nb, nb_b, nb_h⟩ := hg 5 (by decide)
  replace nb_b : nb ≤ 20 := nb_b
  have nb_e : cnt (I 203) 5 = nb := cnt_of nb_h (by omega)
  refine pvMet.of _ (by decide) rfl (Nat.le_of_ble_eq_true rfl) ?_
  refine g_aload_n dX12_house_0 rfl ?_
  refine g_iload_n dX12_house_1 rfl ?_
  refine p_callV (t_isCell hw hh hw2 hh2) okX12_isCell lkX12_100 rfl (by first | rfl | exact pv_shx) rfl (by omega) (by omega) dX12_house_2 rfl (Nat.le_of_ble_eq_true rfl) (⟨by decide, by decide, by decide, by decide⟩) ?_
  refine n_if_eq 39 dX12_house_5 (by decide) (by first | (with_reducible exact cB _) | ((with_reducible apply cN_eq0) <;> omega) | exact Iff.rfl) (fun c5 => ?_) (fun c5 => ?_)
  · skip
    refine g_iconst (v := (-1)) dX12_house_39 (by decide) ?_
    exact g_iret dX12_house_40 rfl (⟨rfl, rfl, by rw [sp_house, if_neg (by omega)]; exact ⟨rfl, pvs_self.symm, rfl⟩⟩)
  · skip
    refine g_iload_n dX12_house_8 rfl ?_
    refine g_iconst (v := nI 0) dX12_house_9 (by decide) ?_
    refine g_bipush (v := nI 9) dX12_house_10 (by decide) ?_
    refine p_callS (t_isIn (by first | exact nI_toInt (by omega) | exact pk_sub_toInt (by omega) (by omega)) (by first | exact nI_toInt (by omega) | exact pk_sub_toInt (by omega) (by omega))) okX12_isIn lkX12_96 rfl dX12_house_12 rfl (Nat.le_of_ble_eq_true rfl) (⟨by decide, by decide, by decide, by decide⟩) ?_
    refine n_if_eq 39 dX12_house_15 (by decide) (by first | (with_reducible exact cB _) | ((with_reducible apply cN_eq0) <;> omega) | exact Iff.rfl) (fun c15 => ?_) (fun c15 => ?_)
    · skip
      refine g_iconst (v := (-1)) dX12_house_39 (by decide) ?_
      exact g_iret dX12_house_40 rfl (⟨rfl, rfl, by rw [sp_house, if_neg (by omega)]; exact ⟨rfl, pvs_self.symm, rfl⟩⟩)
    · skip
      refine g_iload_n dX12_house_18 rfl ?_
      refine g_iconst (v := nI 1) dX12_house_19 (by decide) ?_
      refine g_bipush (v := nI 9) dX12_house_20 (by decide) ?_
      refine p_callS (t_isIn (by first | exact nI_toInt (by omega) | exact pk_sub_toInt (by omega) (by omega)) (by first | exact nI_toInt (by omega) | exact pk_sub_toInt (by omega) (by omega))) okX12_isIn lkX12_96 rfl dX12_house_22 rfl (Nat.le_of_ble_eq_true rfl) (⟨by decide, by decide, by decide, by decide⟩) ?_
      refine n_if_eq 39 dX12_house_25 (by decide) (by first | (with_reducible exact cB _) | ((with_reducible apply cN_eq0) <;> omega) | exact Iff.rfl) (fun c25 => ?_) (fun c25 => ?_)
      · skip
        refine g_iconst (v := (-1)) dX12_house_39 (by decide) ?_
        exact g_iret dX12_house_40 rfl (⟨rfl, rfl, by rw [sp_house, if_neg (by omega)]; exact ⟨rfl, pvs_self.symm, rfl⟩⟩)
      · skip
        refine g_aload_n dX12_house_28 rfl ?_
        refine g_getP dX12_house_29 fdX12_7 rfl (by first | rfl | exact pv_shx) (by omega) (by omega) (by decide) rfl (hP _ _ _ rfl) ?_
        refine g_iconst (v := nI 5) dX12_house_32 (by decide) ?_
        refine n_iald dX12_house_33 (by first | rfl | exact pv_shx) (by omega) (by omega) (by decide) (rfl) (by omega) (by repeat (first | exact nb_h | (apply rd_s; done) | apply rd_n (by omega) | apply rp_s | apply rp_n (by omega) | (apply rdL_s; done) | apply rdL_n (by omega) | apply rpJ_s | apply rpJ_n (by omega) | rfl)) ?_
        refine g_bipush (v := nI 20) dX12_house_34 (by decide) ?_
        refine n_icmp_ne 41 dX12_house_36 (by decide) (by first | ((with_reducible apply cN_eq) <;> omega) | ((with_reducible apply cI_eqn) <;> omega) | exact Iff.rfl) (fun c36 => ?_) (fun c36 => ?_)
        · skip
          refine g_sipush (v := nI 1080) dX12_house_41 (by decide) ?_
          refine g_iconst (v := nI 5) dX12_house_44 (by decide) ?_
          refine g_aload_n dX12_house_45 rfl ?_
          refine g_getP dX12_house_46 fdX12_7 rfl (by first | rfl | exact pv_shx) (by omega) (by omega) (by decide) rfl (hP _ _ _ rfl) ?_
          refine g_iconst (v := nI 5) dX12_house_49 (by decide) ?_
          refine n_iald dX12_house_50 (by first | rfl | exact pv_shx) (by omega) (by omega) (by decide) (rfl) (by omega) (by repeat (first | exact nb_h | (apply rd_s; done) | apply rd_n (by omega) | apply rp_s | apply rp_n (by omega) | (apply rdL_s; done) | apply rdL_n (by omega) | apply rpJ_s | apply rpJ_n (by omega) | rfl)) ?_
          refine n_imul dX12_house_51 (by first | (with_reducible exact pk_mul _ _) | rfl) ?_
          refine n_iadd dX12_house_52 (by first | (with_reducible exact nI_add _ _) | rfl) ?_
          refine g_istore dX12_house_53 (by decide) rfl ?_
          refine g_aload_n dX12_house_55 rfl ?_
          refine g_getP dX12_house_56 fdX12_7 rfl (by first | rfl | exact pv_shx) (by omega) (by omega) (by decide) rfl (hP _ _ _ rfl) ?_
          refine g_iload dX12_house_59 rfl ?_
          refine g_iload_n dX12_house_61 rfl ?_
          refine n_iast dX12_house_62 (by first | rfl | exact pv_shx) (by omega) (by omega) (by omega) (by decide) (rfl) (by omega) (by repeat (first | exact pvu_s | exact pvuJ_s | apply pvu_in (by omega) | apply pvuJ_in (by omega) | exact pvu_pvs | exact pvuJ_pvs)) ?_
          refine g_aload_n dX12_house_63 rfl ?_
          refine g_getP dX12_house_64 fdX12_7 rfl (by first | rfl | exact pv_shx) (by omega) (by omega) (by decide) rfl (hP _ _ _ rfl) ?_
          refine g_iload dX12_house_67 rfl ?_
          refine g_iconst (v := nI 1) dX12_house_69 (by decide) ?_
          refine n_iadd dX12_house_70 (by first | (with_reducible exact nI_add _ _) | rfl) ?_
          refine g_iload_n dX12_house_71 rfl ?_
          refine n_iast dX12_house_72 (by first | rfl | exact pv_shx) (by omega) (by omega) (by omega) (by decide) (rfl) (by omega) (by repeat (first | exact pvu_s | exact pvuJ_s | apply pvu_in (by omega) | apply pvuJ_in (by omega) | exact pvu_pvs | exact pvuJ_pvs)) ?_
          refine g_aload_n dX12_house_73 rfl ?_
          refine g_getP dX12_house_74 fdX12_7 rfl (by first | rfl | exact pv_shx) (by omega) (by omega) (by decide) rfl (hP _ _ _ rfl) ?_
          refine g_iload dX12_house_77 rfl ?_
          refine g_iconst (v := nI 2) dX12_house_79 (by decide) ?_
          refine n_iadd dX12_house_80 (by first | (with_reducible exact nI_add _ _) | rfl) ?_
          refine g_iload_n dX12_house_81 rfl ?_
          refine n_iast dX12_house_82 (by first | rfl | exact pv_shx) (by omega) (by omega) (by omega) (by decide) (rfl) (by omega) (by repeat (first | exact pvu_s | exact pvuJ_s | apply pvu_in (by omega) | apply pvuJ_in (by omega) | exact pvu_pvs | exact pvuJ_pvs)) ?_
          refine g_aload_n dX12_house_83 rfl ?_
          refine g_getP dX12_house_84 fdX12_7 rfl (by first | rfl | exact pv_shx) (by omega) (by omega) (by decide) rfl (hP _ _ _ rfl) ?_
          refine g_iload dX12_house_87 rfl ?_
          refine g_iconst (v := nI 3) dX12_house_89 (by decide) ?_
          refine n_iadd dX12_house_90 (by first | (with_reducible exact nI_add _ _) | rfl) ?_
          refine g_iconst (v := nI 0) dX12_house_91 (by decide) ?_
          refine n_iast dX12_house_92 (by first | rfl | exact pv_shx) (by omega) (by omega) (by omega) (by decide) (rfl) (by omega) (by repeat (first | exact pvu_s | exact pvuJ_s | apply pvu_in (by omega) | apply pvuJ_in (by omega) | exact pvu_pvs | exact pvuJ_pvs)) ?_
          refine g_aload_n dX12_house_93 rfl ?_
          refine g_getP dX12_house_94 fdX12_7 rfl (by first | rfl | exact pv_shx) (by omega) (by omega) (by decide) rfl (hP _ _ _ rfl) ?_
          refine g_iload dX12_house_97 rfl ?_
          refine g_iconst (v := nI 4) dX12_house_99 (by decide) ?_
          refine n_iadd dX12_house_100 (by first | (with_reducible exact nI_add _ _) | rfl) ?_
          refine g_iconst (v := (-1)) dX12_house_101 (by decide) ?_
          refine n_iast dX12_house_102 (by first | rfl | exact pv_shx) (by omega) (by omega) (by omega) (by decide) (rfl) (by omega) (by repeat (first | exact pvu_s | exact pvuJ_s | apply pvu_in (by omega) | apply pvuJ_in (by omega) | exact pvu_pvs | exact pvuJ_pvs)) ?_
          refine g_aload_n dX12_house_103 rfl ?_
          refine g_getP dX12_house_104 fdX12_7 rfl (by first | rfl | exact pv_shx) (by omega) (by omega) (by decide) rfl (hP _ _ _ rfl) ?_
          refine g_iconst (v := nI 5) dX12_house_107 (by decide) ?_
          refine g_dup2 dX12_house_108 rfl rfl ?_
          refine n_iald dX12_house_109 (by first | rfl | exact pv_shx) (by omega) (by omega) (by decide) (rfl) (by omega) (by repeat (first | exact nb_h | (apply rd_s; done) | apply rd_n (by omega) | apply rp_s | apply rp_n (by omega) | (apply rdL_s; done) | apply rdL_n (by omega) | apply rpJ_s | apply rpJ_n (by omega) | rfl)) ?_
          refine g_iconst (v := nI 1) dX12_house_110 (by decide) ?_
          refine n_iadd dX12_house_111 (by first | (with_reducible exact nI_add _ _) | rfl) ?_
          refine n_iast dX12_house_112 (by first | rfl | exact pv_shx) (by omega) (by omega) (by omega) (by decide) (rfl) (by omega) (by repeat (first | exact pvu_s | exact pvuJ_s | apply pvu_in (by omega) | apply pvuJ_in (by omega) | exact pvu_pvs | exact pvuJ_pvs)) ?_
          refine g_aload_n dX12_house_113 rfl ?_
          refine g_getP dX12_house_114 fdX12_7 rfl (by first | rfl | exact pv_shx) (by omega) (by omega) (by decide) rfl (hP _ _ _ rfl) ?_
          refine g_iconst (v := nI 5) dX12_house_117 (by decide) ?_
          refine n_iald dX12_house_118 (by first | rfl | exact pv_shx) (by omega) (by omega) (by decide) (rfl) (by omega) (by repeat (first | exact nb_h | (apply rd_s; done) | apply rd_n (by omega) | apply rp_s | apply rp_n (by omega) | (apply rdL_s; done) | apply rdL_n (by omega) | apply rpJ_s | apply rpJ_n (by omega) | rfl)) ?_
          refine g_iconst (v := nI 1) dX12_house_119 (by decide) ?_
          refine n_isub dX12_house_120 (by first | ((with_reducible apply pk_sub) <;> omega) | rfl) ?_
          exact g_iret dX12_house_121 rfl (⟨rfl, rfl, by rw [sp_house, if_pos (by omega), nb_e, nb_h]; exact ⟨rfl, rfl, rfl⟩⟩)
        · skip
          refine g_iconst (v := (-1)) dX12_house_39 (by decide) ?_
          exact g_iret dX12_house_40 rfl (⟨rfl, rfl, by rw [sp_house, if_neg (by omega)]; exact ⟨rfl, pvs_self.symm, rfl⟩⟩)
def sp_person (a : Nat → Int32) (c x y : Int32) : Int32 × (Nat → Int32) :=
  if (0 ≤ c.toInt ∧ c.toInt < cnt a 5) ∧ (0 ≤ x.toInt ∧ x.toInt ≤ 9) ∧ (0 ≤ y.toInt ∧ y.toInt ≤ 9999) ∧ ¬ cnt a 6 = 60 then (a 6, upd (upd (upd (upd (upd (upd a (1200 + 5 * cnt a 6) c) (1200 + 5 * cnt a 6 + 1) x) (1200 + 5 * cnt a 6 + 2) y) (1200 + 5 * cnt a 6 + 3) (nI 0)) (1200 + 5 * cnt a 6 + 4) (-1)) 6 (nI (cnt a 6 + 1))) else (-1, a)
theorem t_person {I : pvI} {J : pvJ} {P : pvP} (hP : pvOkP P) (hg : mG (I 203)) {c x y : Int32} : pvMet mX12_person 2 0 0 [.ref 202, .int c, .int x, .int y] 224 I J P (mQ1 I J P (sp_person (I 203) c x y)) := by
  obtain ⟨nb, nb_b, nb_h⟩ := hg 5 (by decide)
  replace nb_b : nb ≤ 20 := nb_b
  have nb_e : cnt (I 203) 5 = nb := cnt_of nb_h (by omega)
  obtain ⟨np, np_b, np_h⟩ := hg 6 (by decide)
  replace np_b : np ≤ 60 := np_b
  have np_e : cnt (I 203) 6 = np := cnt_of np_h (by omega)
  refine pvMet.of _ (by decide) rfl (Nat.le_of_ble_eq_true rfl) ?_
  refine g_aload_n dX12_person_0 rfl ?_
  refine g_iload_n dX12_person_1 rfl ?_
  refine p_callV (t_isHouse hP (by omega) nb_h) okX12_isHouse lkX12_162 rfl (by first | rfl | exact pv_shx) rfl (by omega) (by omega) dX12_person_2 rfl (Nat.le_of_ble_eq_true rfl) (⟨by decide, by decide, by decide, by decide⟩) ?_
  refine n_if_eq 41 dX12_person_5 (by decide) (by first | (with_reducible exact cB _) | ((with_reducible apply cN_eq0) <;> omega) | exact Iff.rfl) (fun c5 => ?_) (fun c5 => ?_)
  · skip
    refine g_iconst (v := (-1)) dX12_person_41 (by decide) ?_
    exact g_iret dX12_person_42 rfl (⟨rfl, rfl, by rw [sp_person, if_neg (by omega)]; exact ⟨rfl, pvs_self.symm, rfl⟩⟩)
  · skip
    refine g_iload_n dX12_person_8 rfl ?_
    refine g_iconst (v := nI 0) dX12_person_9 (by decide) ?_
    refine g_bipush (v := nI 9) dX12_person_10 (by decide) ?_
    refine p_callS (t_isIn (by first | exact nI_toInt (by omega) | exact pk_sub_toInt (by omega) (by omega)) (by first | exact nI_toInt (by omega) | exact pk_sub_toInt (by omega) (by omega))) okX12_isIn lkX12_96 rfl dX12_person_12 rfl (Nat.le_of_ble_eq_true rfl) (⟨by decide, by decide, by decide, by decide⟩) ?_
    refine n_if_eq 41 dX12_person_15 (by decide) (by first | (with_reducible exact cB _) | ((with_reducible apply cN_eq0) <;> omega) | exact Iff.rfl) (fun c15 => ?_) (fun c15 => ?_)
    · skip
      refine g_iconst (v := (-1)) dX12_person_41 (by decide) ?_
      exact g_iret dX12_person_42 rfl (⟨rfl, rfl, by rw [sp_person, if_neg (by omega)]; exact ⟨rfl, pvs_self.symm, rfl⟩⟩)
    · skip
      refine g_iload_n dX12_person_18 rfl ?_
      refine g_iconst (v := nI 0) dX12_person_19 (by decide) ?_
      refine g_sipush (v := nI 9999) dX12_person_20 (by decide) ?_
      refine p_callS (t_isIn (by first | exact nI_toInt (by omega) | exact pk_sub_toInt (by omega) (by omega)) (by first | exact nI_toInt (by omega) | exact pk_sub_toInt (by omega) (by omega))) okX12_isIn lkX12_96 rfl dX12_person_23 rfl (Nat.le_of_ble_eq_true rfl) (⟨by decide, by decide, by decide, by decide⟩) ?_
      refine n_if_eq 41 dX12_person_26 (by decide) (by first | (with_reducible exact cB _) | ((with_reducible apply cN_eq0) <;> omega) | exact Iff.rfl) (fun c26 => ?_) (fun c26 => ?_)
      · skip
        refine g_iconst (v := (-1)) dX12_person_41 (by decide) ?_
        exact g_iret dX12_person_42 rfl (⟨rfl, rfl, by rw [sp_person, if_neg (by omega)]; exact ⟨rfl, pvs_self.symm, rfl⟩⟩)
      · skip
        refine g_aload_n dX12_person_29 rfl ?_
        refine g_getP dX12_person_30 fdX12_7 rfl (by first | rfl | exact pv_shx) (by omega) (by omega) (by decide) rfl (hP _ _ _ rfl) ?_
        refine g_bipush (v := nI 6) dX12_person_33 (by decide) ?_
        refine n_iald dX12_person_35 (by first | rfl | exact pv_shx) (by omega) (by omega) (by decide) (rfl) (by omega) (by repeat (first | exact np_h | (apply rd_s; done) | apply rd_n (by omega) | apply rp_s | apply rp_n (by omega) | (apply rdL_s; done) | apply rdL_n (by omega) | apply rpJ_s | apply rpJ_n (by omega) | rfl)) ?_
        refine g_bipush (v := nI 60) dX12_person_36 (by decide) ?_
        refine n_icmp_ne 43 dX12_person_38 (by decide) (by first | ((with_reducible apply cN_eq) <;> omega) | ((with_reducible apply cI_eqn) <;> omega) | exact Iff.rfl) (fun c38 => ?_) (fun c38 => ?_)
        · skip
          refine g_sipush (v := nI 1200) dX12_person_43 (by decide) ?_
          refine g_iconst (v := nI 5) dX12_person_46 (by decide) ?_
          refine g_aload_n dX12_person_47 rfl ?_
          refine g_getP dX12_person_48 fdX12_7 rfl (by first | rfl | exact pv_shx) (by omega) (by omega) (by decide) rfl (hP _ _ _ rfl) ?_
          refine g_bipush (v := nI 6) dX12_person_51 (by decide) ?_
          refine n_iald dX12_person_53 (by first | rfl | exact pv_shx) (by omega) (by omega) (by decide) (rfl) (by omega) (by repeat (first | exact np_h | (apply rd_s; done) | apply rd_n (by omega) | apply rp_s | apply rp_n (by omega) | (apply rdL_s; done) | apply rdL_n (by omega) | apply rpJ_s | apply rpJ_n (by omega) | rfl)) ?_
          refine n_imul dX12_person_54 (by first | (with_reducible exact pk_mul _ _) | rfl) ?_
          refine n_iadd dX12_person_55 (by first | (with_reducible exact nI_add _ _) | rfl) ?_
          refine g_istore dX12_person_56 (by decide) rfl ?_
          refine g_aload_n dX12_person_58 rfl ?_
          refine g_getP dX12_person_59 fdX12_7 rfl (by first | rfl | exact pv_shx) (by omega) (by omega) (by decide) rfl (hP _ _ _ rfl) ?_
          refine g_iload dX12_person_62 rfl ?_
          refine g_iload_n dX12_person_64 rfl ?_
          refine n_iast dX12_person_65 (by first | rfl | exact pv_shx) (by omega) (by omega) (by omega) (by decide) (rfl) (by omega) (by repeat (first | exact pvu_s | exact pvuJ_s | apply pvu_in (by omega) | apply pvuJ_in (by omega) | exact pvu_pvs | exact pvuJ_pvs)) ?_
          refine g_aload_n dX12_person_66 rfl ?_
          refine g_getP dX12_person_67 fdX12_7 rfl (by first | rfl | exact pv_shx) (by omega) (by omega) (by decide) rfl (hP _ _ _ rfl) ?_
          refine g_iload dX12_person_70 rfl ?_
          refine g_iconst (v := nI 1) dX12_person_72 (by decide) ?_
          refine n_iadd dX12_person_73 (by first | (with_reducible exact nI_add _ _) | rfl) ?_
          refine g_iload_n dX12_person_74 rfl ?_
          refine n_iast dX12_person_75 (by first | rfl | exact pv_shx) (by omega) (by omega) (by omega) (by decide) (rfl) (by omega) (by repeat (first | exact pvu_s | exact pvuJ_s | apply pvu_in (by omega) | apply pvuJ_in (by omega) | exact pvu_pvs | exact pvuJ_pvs)) ?_
          refine g_aload_n dX12_person_76 rfl ?_
          refine g_getP dX12_person_77 fdX12_7 rfl (by first | rfl | exact pv_shx) (by omega) (by omega) (by decide) rfl (hP _ _ _ rfl) ?_
          refine g_iload dX12_person_80 rfl ?_
          refine g_iconst (v := nI 2) dX12_person_82 (by decide) ?_
          refine n_iadd dX12_person_83 (by first | (with_reducible exact nI_add _ _) | rfl) ?_
          refine g_iload_n dX12_person_84 rfl ?_
          refine n_iast dX12_person_85 (by first | rfl | exact pv_shx) (by omega) (by omega) (by omega) (by decide) (rfl) (by omega) (by repeat (first | exact pvu_s | exact pvuJ_s | apply pvu_in (by omega) | apply pvuJ_in (by omega) | exact pvu_pvs | exact pvuJ_pvs)) ?_
          refine g_aload_n dX12_person_86 rfl ?_
          refine g_getP dX12_person_87 fdX12_7 rfl (by first | rfl | exact pv_shx) (by omega) (by omega) (by decide) rfl (hP _ _ _ rfl) ?_
          refine g_iload dX12_person_90 rfl ?_
          refine g_iconst (v := nI 3) dX12_person_92 (by decide) ?_
          refine n_iadd dX12_person_93 (by first | (with_reducible exact nI_add _ _) | rfl) ?_
          refine g_iconst (v := nI 0) dX12_person_94 (by decide) ?_
          refine n_iast dX12_person_95 (by first | rfl | exact pv_shx) (by omega) (by omega) (by omega) (by decide) (rfl) (by omega) (by repeat (first | exact pvu_s | exact pvuJ_s | apply pvu_in (by omega) | apply pvuJ_in (by omega) | exact pvu_pvs | exact pvuJ_pvs)) ?_
          refine g_aload_n dX12_person_96 rfl ?_
          refine g_getP dX12_person_97 fdX12_7 rfl (by first | rfl | exact pv_shx) (by omega) (by omega) (by decide) rfl (hP _ _ _ rfl) ?_
          refine g_iload dX12_person_100 rfl ?_
          refine g_iconst (v := nI 4) dX12_person_102 (by decide) ?_
          refine n_iadd dX12_person_103 (by first | (with_reducible exact nI_add _ _) | rfl) ?_
          refine g_iconst (v := (-1)) dX12_person_104 (by decide) ?_
          refine n_iast dX12_person_105 (by first | rfl | exact pv_shx) (by omega) (by omega) (by omega) (by decide) (rfl) (by omega) (by repeat (first | exact pvu_s | exact pvuJ_s | apply pvu_in (by omega) | apply pvuJ_in (by omega) | exact pvu_pvs | exact pvuJ_pvs)) ?_
          refine g_aload_n dX12_person_106 rfl ?_
          refine g_getP dX12_person_107 fdX12_7 rfl (by first | rfl | exact pv_shx) (by omega) (by omega) (by decide) rfl (hP _ _ _ rfl) ?_
          refine g_bipush (v := nI 6) dX12_person_110 (by decide) ?_
          refine g_dup2 dX12_person_112 rfl rfl ?_
          refine n_iald dX12_person_113 (by first | rfl | exact pv_shx) (by omega) (by omega) (by decide) (rfl) (by omega) (by repeat (first | exact np_h | (apply rd_s; done) | apply rd_n (by omega) | apply rp_s | apply rp_n (by omega) | (apply rdL_s; done) | apply rdL_n (by omega) | apply rpJ_s | apply rpJ_n (by omega) | rfl)) ?_
          refine g_iconst (v := nI 1) dX12_person_114 (by decide) ?_
          refine n_iadd dX12_person_115 (by first | (with_reducible exact nI_add _ _) | rfl) ?_
          refine n_iast dX12_person_116 (by first | rfl | exact pv_shx) (by omega) (by omega) (by omega) (by decide) (rfl) (by omega) (by repeat (first | exact pvu_s | exact pvuJ_s | apply pvu_in (by omega) | apply pvuJ_in (by omega) | exact pvu_pvs | exact pvuJ_pvs)) ?_
          refine g_aload_n dX12_person_117 rfl ?_
          refine g_getP dX12_person_118 fdX12_7 rfl (by first | rfl | exact pv_shx) (by omega) (by omega) (by decide) rfl (hP _ _ _ rfl) ?_
          refine g_bipush (v := nI 6) dX12_person_121 (by decide) ?_
          refine n_iald dX12_person_123 (by first | rfl | exact pv_shx) (by omega) (by omega) (by decide) (rfl) (by omega) (by repeat (first | exact np_h | (apply rd_s; done) | apply rd_n (by omega) | apply rp_s | apply rp_n (by omega) | (apply rdL_s; done) | apply rdL_n (by omega) | apply rpJ_s | apply rpJ_n (by omega) | rfl)) ?_
          refine g_iconst (v := nI 1) dX12_person_124 (by decide) ?_
          refine n_isub dX12_person_125 (by first | ((with_reducible apply pk_sub) <;> omega) | rfl) ?_
          exact g_iret dX12_person_126 rfl (⟨rfl, rfl, by rw [sp_person, if_pos (by omega), np_e, np_h]; exact ⟨rfl, rfl, rfl⟩⟩)
        · skip
          refine g_iconst (v := (-1)) dX12_person_41 (by decide) ?_
          exact g_iret dX12_person_42 rfl (⟨rfl, rfl, by rw [sp_person, if_neg (by omega)]; exact ⟨rfl, pvs_self.symm, rfl⟩⟩)
def sp_hears (a : Nat → Int32) (c x : Int32) : Int32 × (Nat → Int32) :=
  if (0 ≤ c.toInt ∧ c.toInt < cnt a 6) ∧ (0 ≤ x.toInt ∧ x.toInt ≤ 9) then (1, upd a (1200 + 5 * c.toNatClampNeg + 3) x) else (0, a)
theorem t_hears {I : pvI} {J : pvJ} {P : pvP} (hP : pvOkP P) (hg : mG (I 203)) {c x : Int32} : pvMet mX12_hears 2 0 0 [.ref 202, .int c, .int x] 224 I J P (mQ1 I J P (sp_hears (I 203) c x)) := by
  obtain ⟨np, np_b, np_h⟩ := hg 6 (by decide)
  replace np_b : np ≤ 60 := np_b
  have np_e : cnt (I 203) 6 = np := cnt_of np_h (by omega)
  refine pvMet.of _ (by decide) rfl (Nat.le_of_ble_eq_true rfl) ?_
  refine g_aload_n dX12_hears_0 rfl ?_
  refine g_iload_n dX12_hears_1 rfl ?_
  refine p_callV (t_isPerson hP (by omega) np_h) okX12_isPerson lkX12_169 rfl (by first | rfl | exact pv_shx) rfl (by omega) (by omega) dX12_hears_2 rfl (Nat.le_of_ble_eq_true rfl) (⟨by decide, by decide, by decide, by decide⟩) ?_
  refine n_if_eq 18 dX12_hears_5 (by decide) (by first | (with_reducible exact cB _) | ((with_reducible apply cN_eq0) <;> omega) | exact Iff.rfl) (fun c5 => ?_) (fun c5 => ?_)
  · skip
    refine g_iconst (v := nI 0) dX12_hears_18 (by decide) ?_
    exact g_zret (by first | exact Or.inl rfl | exact Or.inr rfl | exact cB01 _) dX12_hears_19 rfl (⟨rfl, rfl, by rw [sp_hears, if_neg (by omega)]; exact ⟨rfl, pvs_self.symm, rfl⟩⟩)
  · skip
    refine g_iload_n dX12_hears_8 rfl ?_
    refine g_iconst (v := nI 0) dX12_hears_9 (by decide) ?_
    refine g_bipush (v := nI 9) dX12_hears_10 (by decide) ?_
    refine p_callS (t_isIn (by first | exact nI_toInt (by omega) | exact pk_sub_toInt (by omega) (by omega)) (by first | exact nI_toInt (by omega) | exact pk_sub_toInt (by omega) (by omega))) okX12_isIn lkX12_96 rfl dX12_hears_12 rfl (Nat.le_of_ble_eq_true rfl) (⟨by decide, by decide, by decide, by decide⟩) ?_
    refine n_if_ne 20 dX12_hears_15 (by decide) (by first | (with_reducible exact cB _) | ((with_reducible apply cN_eq0) <;> omega) | exact Iff.rfl) (fun c15 => ?_) (fun c15 => ?_)
    · skip
      obtain ⟨j, hj, rfl⟩ := cI_of (x := c) (n := np) (by omega) (by omega) (by omega)
      have ej : (nI j).toNatClampNeg = j := nI_clamp (by omega)
      refine g_aload_n dX12_hears_20 rfl ?_
      refine g_getP dX12_hears_21 fdX12_7 rfl (by first | rfl | exact pv_shx) (by omega) (by omega) (by decide) rfl (hP _ _ _ rfl) ?_
      refine g_sipush (v := nI 1200) dX12_hears_24 (by decide) ?_
      refine g_iconst (v := nI 5) dX12_hears_27 (by decide) ?_
      refine g_iload_n dX12_hears_28 rfl ?_
      refine n_imul dX12_hears_29 (by first | (with_reducible exact pk_mul _ _) | rfl) ?_
      refine n_iadd dX12_hears_30 (by first | (with_reducible exact nI_add _ _) | rfl) ?_
      refine g_iconst (v := nI 3) dX12_hears_31 (by decide) ?_
      refine n_iadd dX12_hears_32 (by first | (with_reducible exact nI_add _ _) | rfl) ?_
      refine g_iload_n dX12_hears_33 rfl ?_
      refine n_iast dX12_hears_34 (by first | rfl | exact pv_shx) (by omega) (by omega) (by omega) (by decide) (rfl) (by omega) (by repeat (first | exact pvu_s | exact pvuJ_s | apply pvu_in (by omega) | apply pvuJ_in (by omega) | exact pvu_pvs | exact pvuJ_pvs)) ?_
      refine g_iconst (v := nI 1) dX12_hears_35 (by decide) ?_
      exact g_zret (by first | exact Or.inl rfl | exact Or.inr rfl | exact cB01 _) dX12_hears_36 rfl (⟨rfl, rfl, by rw [sp_hears, if_pos (by omega), ej]; exact ⟨rfl, rfl, rfl⟩⟩)
    · skip
      refine g_iconst (v := nI 0) dX12_hears_18 (by decide) ?_
      exact g_zret (by first | exact Or.inl rfl | exact Or.inr rfl | exact cB01 _) dX12_hears_19 rfl (⟨rfl, rfl, by rw [sp_hears, if_neg (by omega)]; exact ⟨rfl, pvs_self.symm, rfl⟩⟩)
def sp_offer (a : Nat → Int32) (c x y : Int32) : Int32 × (Nat → Int32) :=
  if (0 ≤ c.toInt ∧ c.toInt < cnt a 5) ∧ (0 ≤ x.toInt ∧ x.toInt ≤ 9999) ∧ (0 ≤ y.toInt ∧ y.toInt ≤ 99) ∧ cnt a 0 ≤ y.toInt then (1, upd (upd a (1080 + 5 * c.toNatClampNeg + 3) x) (1080 + 5 * c.toNatClampNeg + 4) y) else (0, a)
theorem t_offer {I : pvI} {J : pvJ} {P : pvP} (hP : pvOkP P) (hg : mG (I 203)) {c x y : Int32} : pvMet mX12_offer 2 0 0 [.ref 202, .int c, .int x, .int y] 224 I J P (mQ1 I J P (sp_offer (I 203) c x y)) := by
  obtain ⟨clk, clk_b, clk_h⟩ := hg 0 (by decide)
  replace clk_b : clk ≤ 100 := clk_b
  have clk_e : cnt (I 203) 0 = clk := cnt_of clk_h (by omega)
  obtain ⟨nb, nb_b, nb_h⟩ := hg 5 (by decide)
  replace nb_b : nb ≤ 20 := nb_b
  have nb_e : cnt (I 203) 5 = nb := cnt_of nb_h (by omega)
  refine pvMet.of _ (by decide) rfl (Nat.le_of_ble_eq_true rfl) ?_
  refine g_aload_n dX12_offer_0 rfl ?_
  refine g_iload_n dX12_offer_1 rfl ?_
  refine p_callV (t_isHouse hP (by omega) nb_h) okX12_isHouse lkX12_162 rfl (by first | rfl | exact pv_shx) rfl (by omega) (by omega) dX12_offer_2 rfl (Nat.le_of_ble_eq_true rfl) (⟨by decide, by decide, by decide, by decide⟩) ?_
  refine n_if_eq 36 dX12_offer_5 (by decide) (by first | (with_reducible exact cB _) | ((with_reducible apply cN_eq0) <;> omega) | exact Iff.rfl) (fun c5 => ?_) (fun c5 => ?_)
  · skip
    refine g_iconst (v := nI 0) dX12_offer_36 (by decide) ?_
    exact g_zret (by first | exact Or.inl rfl | exact Or.inr rfl | exact cB01 _) dX12_offer_37 rfl (⟨rfl, rfl, by rw [sp_offer, if_neg (by omega)]; exact ⟨rfl, pvs_self.symm, rfl⟩⟩)
  · skip
    refine g_iload_n dX12_offer_8 rfl ?_
    refine g_iconst (v := nI 0) dX12_offer_9 (by decide) ?_
    refine g_sipush (v := nI 9999) dX12_offer_10 (by decide) ?_
    refine p_callS (t_isIn (by first | exact nI_toInt (by omega) | exact pk_sub_toInt (by omega) (by omega)) (by first | exact nI_toInt (by omega) | exact pk_sub_toInt (by omega) (by omega))) okX12_isIn lkX12_96 rfl dX12_offer_13 rfl (Nat.le_of_ble_eq_true rfl) (⟨by decide, by decide, by decide, by decide⟩) ?_
    refine n_if_eq 36 dX12_offer_16 (by decide) (by first | (with_reducible exact cB _) | ((with_reducible apply cN_eq0) <;> omega) | exact Iff.rfl) (fun c16 => ?_) (fun c16 => ?_)
    · skip
      refine g_iconst (v := nI 0) dX12_offer_36 (by decide) ?_
      exact g_zret (by first | exact Or.inl rfl | exact Or.inr rfl | exact cB01 _) dX12_offer_37 rfl (⟨rfl, rfl, by rw [sp_offer, if_neg (by omega)]; exact ⟨rfl, pvs_self.symm, rfl⟩⟩)
    · skip
      refine g_iload_n dX12_offer_19 rfl ?_
      refine p_callS (t_isWeek) okX12_isWeek lkX12_115 rfl dX12_offer_20 rfl (Nat.le_of_ble_eq_true rfl) (⟨by decide, by decide, by decide, by decide⟩) ?_
      refine n_if_eq 36 dX12_offer_23 (by decide) (by first | (with_reducible exact cB _) | ((with_reducible apply cN_eq0) <;> omega) | exact Iff.rfl) (fun c23 => ?_) (fun c23 => ?_)
      · skip
        refine g_iconst (v := nI 0) dX12_offer_36 (by decide) ?_
        exact g_zret (by first | exact Or.inl rfl | exact Or.inr rfl | exact cB01 _) dX12_offer_37 rfl (⟨rfl, rfl, by rw [sp_offer, if_neg (by omega)]; exact ⟨rfl, pvs_self.symm, rfl⟩⟩)
      · skip
        refine g_iload_n dX12_offer_26 rfl ?_
        refine g_aload_n dX12_offer_27 rfl ?_
        refine g_getP dX12_offer_28 fdX12_7 rfl (by first | rfl | exact pv_shx) (by omega) (by omega) (by decide) rfl (hP _ _ _ rfl) ?_
        refine g_iconst (v := nI 0) dX12_offer_31 (by decide) ?_
        refine n_iald dX12_offer_32 (by first | rfl | exact pv_shx) (by omega) (by omega) (by decide) (rfl) (by omega) (by repeat (first | exact clk_h | (apply rd_s; done) | apply rd_n (by omega) | apply rp_s | apply rp_n (by omega) | (apply rdL_s; done) | apply rdL_n (by omega) | apply rpJ_s | apply rpJ_n (by omega) | rfl)) ?_
        refine n_icmp_ge 38 dX12_offer_33 (by decide) (by first | ((with_reducible apply cN_le) <;> omega) | ((with_reducible apply cI_len) <;> omega) | ((with_reducible apply cI_nle) <;> omega) | (with_reducible exact cI_le)) (fun c33 => ?_) (fun c33 => ?_)
        · skip
          obtain ⟨j, hj, rfl⟩ := cI_of (x := c) (n := nb) (by omega) (by omega) (by omega)
          have ej : (nI j).toNatClampNeg = j := nI_clamp (by omega)
          refine g_aload_n dX12_offer_38 rfl ?_
          refine g_getP dX12_offer_39 fdX12_7 rfl (by first | rfl | exact pv_shx) (by omega) (by omega) (by decide) rfl (hP _ _ _ rfl) ?_
          refine g_sipush (v := nI 1080) dX12_offer_42 (by decide) ?_
          refine g_iconst (v := nI 5) dX12_offer_45 (by decide) ?_
          refine g_iload_n dX12_offer_46 rfl ?_
          refine n_imul dX12_offer_47 (by first | (with_reducible exact pk_mul _ _) | rfl) ?_
          refine n_iadd dX12_offer_48 (by first | (with_reducible exact nI_add _ _) | rfl) ?_
          refine g_iconst (v := nI 3) dX12_offer_49 (by decide) ?_
          refine n_iadd dX12_offer_50 (by first | (with_reducible exact nI_add _ _) | rfl) ?_
          refine g_iload_n dX12_offer_51 rfl ?_
          refine n_iast dX12_offer_52 (by first | rfl | exact pv_shx) (by omega) (by omega) (by omega) (by decide) (rfl) (by omega) (by repeat (first | exact pvu_s | exact pvuJ_s | apply pvu_in (by omega) | apply pvuJ_in (by omega) | exact pvu_pvs | exact pvuJ_pvs)) ?_
          refine g_aload_n dX12_offer_53 rfl ?_
          refine g_getP dX12_offer_54 fdX12_7 rfl (by first | rfl | exact pv_shx) (by omega) (by omega) (by decide) rfl (hP _ _ _ rfl) ?_
          refine g_sipush (v := nI 1080) dX12_offer_57 (by decide) ?_
          refine g_iconst (v := nI 5) dX12_offer_60 (by decide) ?_
          refine g_iload_n dX12_offer_61 rfl ?_
          refine n_imul dX12_offer_62 (by first | (with_reducible exact pk_mul _ _) | rfl) ?_
          refine n_iadd dX12_offer_63 (by first | (with_reducible exact nI_add _ _) | rfl) ?_
          refine g_iconst (v := nI 4) dX12_offer_64 (by decide) ?_
          refine n_iadd dX12_offer_65 (by first | (with_reducible exact nI_add _ _) | rfl) ?_
          refine g_iload_n dX12_offer_66 rfl ?_
          refine n_iast dX12_offer_67 (by first | rfl | exact pv_shx) (by omega) (by omega) (by omega) (by decide) (rfl) (by omega) (by repeat (first | exact pvu_s | exact pvuJ_s | apply pvu_in (by omega) | apply pvuJ_in (by omega) | exact pvu_pvs | exact pvuJ_pvs)) ?_
          refine g_iconst (v := nI 1) dX12_offer_68 (by decide) ?_
          exact g_zret (by first | exact Or.inl rfl | exact Or.inr rfl | exact cB01 _) dX12_offer_69 rfl (⟨rfl, rfl, by rw [sp_offer, if_pos (by omega), ej]; exact ⟨rfl, rfl, rfl⟩⟩)
        · skip
          refine g_iconst (v := nI 0) dX12_offer_36 (by decide) ?_
          exact g_zret (by first | exact Or.inl rfl | exact Or.inr rfl | exact cB01 _) dX12_offer_37 rfl (⟨rfl, rfl, by rw [sp_offer, if_neg (by omega)]; exact ⟨rfl, pvs_self.symm, rfl⟩⟩)
def sp_pull (a : Nat → Int32) (x : Int32) : Int32 × (Nat → Int32) := if 0 ≤ x.toInt ∧ x.toInt ≤ 999 then (1, upd a 14 x) else (0, a)
theorem t_pull {I : pvI} {J : pvJ} {P : pvP} (hP : pvOkP P) {x : Int32} : pvMet mX12_pull 1 0 0 [.ref 202, .int x] 224 I J P (mQ1 I J P (sp_pull (I 203) x)) := by
  refine pvMet.of _ (by decide) rfl (Nat.le_of_ble_eq_true rfl) ?_
  refine g_iload_n dX12_pull_0 rfl ?_
  refine g_iconst (v := nI 0) dX12_pull_1 (by decide) ?_
  refine g_sipush (v := nI 999) dX12_pull_2 (by decide) ?_
  refine p_callS (t_isIn (by first | exact nI_toInt (by omega) | exact pk_sub_toInt (by omega) (by omega)) (by first | exact nI_toInt (by omega) | exact pk_sub_toInt (by omega) (by omega))) okX12_isIn lkX12_96 rfl dX12_pull_5 rfl (Nat.le_of_ble_eq_true rfl) (⟨by decide, by decide, by decide, by decide⟩) ?_
  refine n_if_ne 13 dX12_pull_8 (by decide) (by first | (with_reducible exact cB _) | ((with_reducible apply cN_eq0) <;> omega) | exact Iff.rfl) (fun c8 => ?_) (fun c8 => ?_)
  · skip
    refine g_aload_n dX12_pull_13 rfl ?_
    refine g_getP dX12_pull_14 fdX12_7 rfl (by first | rfl | exact pv_shx) (by omega) (by omega) (by decide) rfl (hP _ _ _ rfl) ?_
    refine g_bipush (v := nI 14) dX12_pull_17 (by decide) ?_
    refine g_iload_n dX12_pull_19 rfl ?_
    refine n_iast dX12_pull_20 (by first | rfl | exact pv_shx) (by omega) (by omega) (by omega) (by decide) (rfl) (by omega) (by repeat (first | exact pvu_s | exact pvuJ_s | apply pvu_in (by omega) | apply pvuJ_in (by omega) | exact pvu_pvs | exact pvuJ_pvs)) ?_
    refine g_iconst (v := nI 1) dX12_pull_21 (by decide) ?_
    exact g_zret (by first | exact Or.inl rfl | exact Or.inr rfl | exact cB01 _) dX12_pull_22 rfl (⟨rfl, rfl, by rw [sp_pull, if_pos (by omega)]; exact ⟨rfl, rfl, rfl⟩⟩)
  · skip
    refine g_iconst (v := nI 0) dX12_pull_11 (by decide) ?_
    exact g_zret (by first | exact Or.inl rfl | exact Or.inr rfl | exact cB01 _) dX12_pull_12 rfl (⟨rfl, rfl, by rw [sp_pull, if_neg (by omega)]; exact ⟨rfl, pvs_self.symm, rfl⟩⟩)
def sp_gone (a : Nat → Int32) (c : Int32) : Int32 := if 0 ≤ c.toInt ∧ c.toInt < cnt a 6 then a (1200 + 5 * c.toNatClampNeg + 4) else -1
theorem t_gone {I : pvI} {J : pvJ} {P : pvP} (hP : pvOkP P) (hg : mG (I 203)) {c : Int32} : pvMet mX12_gone 2 0 0 [.ref 202, .int c] 224 I J P (pvpu (.int (sp_gone (I 203) c)) 224 I J P) := by
  obtain ⟨np, np_b, np_h⟩ := hg 6 (by decide)
  replace np_b : np ≤ 60 := np_b
  have np_e : cnt (I 203) 6 = np := cnt_of np_h (by omega)
  refine pvMet.of _ (by decide) rfl (Nat.le_of_ble_eq_true rfl) ?_
  refine g_aload_n dX12_gone_0 rfl ?_
  refine g_iload_n dX12_gone_1 rfl ?_
  refine p_callV (t_isPerson hP (by omega) np_h) okX12_isPerson lkX12_169 rfl (by first | rfl | exact pv_shx) rfl (by omega) (by omega) dX12_gone_2 rfl (Nat.le_of_ble_eq_true rfl) (⟨by decide, by decide, by decide, by decide⟩) ?_
  refine n_if_eq 25 dX12_gone_5 (by decide) (by first | (with_reducible exact cB _) | ((with_reducible apply cN_eq0) <;> omega) | exact Iff.rfl) (fun c5 => ?_) (fun c5 => ?_)
  · skip
    refine g_iconst (v := (-1)) dX12_gone_25 (by decide) ?_
    exact g_iret dX12_gone_26 rfl (⟨by rw [sp_gone]; first | rw [if_neg (by omega)] | rw [if_pos (by omega), ej], rfl, rfl, rfl, rfl⟩)
  · skip
    obtain ⟨j, hj, rfl⟩ := cI_of (x := c) (n := np) (by omega) (by omega) (by omega)
    have ej : (nI j).toNatClampNeg = j := nI_clamp (by omega)
    refine g_aload_n dX12_gone_8 rfl ?_
    refine g_getP dX12_gone_9 fdX12_7 rfl (by first | rfl | exact pv_shx) (by omega) (by omega) (by decide) rfl (hP _ _ _ rfl) ?_
    refine g_sipush (v := nI 1200) dX12_gone_12 (by decide) ?_
    refine g_iconst (v := nI 5) dX12_gone_15 (by decide) ?_
    refine g_iload_n dX12_gone_16 rfl ?_
    refine n_imul dX12_gone_17 (by first | (with_reducible exact pk_mul _ _) | rfl) ?_
    refine n_iadd dX12_gone_18 (by first | (with_reducible exact nI_add _ _) | rfl) ?_
    refine g_iconst (v := nI 4) dX12_gone_19 (by decide) ?_
    refine n_iadd dX12_gone_20 (by first | (with_reducible exact nI_add _ _) | rfl) ?_
    refine n_iald dX12_gone_21 (by first | rfl | exact pv_shx) (by omega) (by omega) (by decide) (rfl) (by omega) (by repeat (first | (apply rd_s; done) | apply rd_n (by omega) | apply rp_s | apply rp_n (by omega) | (apply rdL_s; done) | apply rdL_n (by omega) | apply rpJ_s | apply rpJ_n (by omega) | rfl)) ?_
    refine g_goto 26 dX12_gone_22 (by decide) ?_
    exact g_iret dX12_gone_26 rfl (⟨by rw [sp_gone]; first | rw [if_neg (by omega)] | rw [if_pos (by omega), ej], rfl, rfl, rfl, rfl⟩)
def sp_force (a : Nat → Int32) (c x y : Int32) : Int32 × (Nat → Int32) :=
  if (0 ≤ c.toInt ∧ c.toInt < cnt a 8) ∧ (0 ≤ x.toInt ∧ x.toInt ≤ 99) ∧ (0 ≤ y.toInt ∧ y.toInt ≤ 99) ∧ x.toInt ≤ y.toInt ∧ cnt a 0 ≤ x.toInt ∧ ¬ cnt a 9 = 30 then (a 9, upd (upd (upd (upd a (1500 + 3 * cnt a 9) c) (1500 + 3 * cnt a 9 + 1) x) (1500 + 3 * cnt a 9 + 2) y) 9 (nI (cnt a 9 + 1))) else (-1, a)
theorem t_force {I : pvI} {J : pvJ} {P : pvP} (hP : pvOkP P) (hg : mG (I 203)) {c x y : Int32} : pvMet mX12_force 2 0 0 [.ref 202, .int c, .int x, .int y] 224 I J P (mQ1 I J P (sp_force (I 203) c x y)) := by
  obtain ⟨clk, clk_b, clk_h⟩ := hg 0 (by decide)
  replace clk_b : clk ≤ 100 := clk_b
  have clk_e : cnt (I 203) 0 = clk := cnt_of clk_h (by omega)
  obtain ⟨na, na_b, na_h⟩ := hg 8 (by decide)
  replace na_b : na ≤ 10 := na_b
  have na_e : cnt (I 203) 8 = na := cnt_of na_h (by omega)
  obtain ⟨nf, nf_b, nf_h⟩ := hg 9 (by decide)
  replace nf_b : nf ≤ 30 := nf_b
  have nf_e : cnt (I 203) 9 = nf := cnt_of nf_h (by omega)
  refine pvMet.of _ (by decide) rfl (Nat.le_of_ble_eq_true rfl) ?_
  refine g_iload_n dX12_force_0 rfl ?_
  refine g_iconst (v := nI 0) dX12_force_1 (by decide) ?_
  refine g_aload_n dX12_force_2 rfl ?_
  refine g_getP dX12_force_3 fdX12_7 rfl (by first | rfl | exact pv_shx) (by omega) (by omega) (by decide) rfl (hP _ _ _ rfl) ?_
  refine g_bipush (v := nI 8) dX12_force_6 (by decide) ?_
  refine n_iald dX12_force_8 (by first | rfl | exact pv_shx) (by omega) (by omega) (by decide) (rfl) (by omega) (by repeat (first | exact clk_h | exact na_h | exact nf_h | (apply rd_s; done) | apply rd_n (by omega) | apply rp_s | apply rp_n (by omega) | (apply rdL_s; done) | apply rdL_n (by omega) | apply rpJ_s | apply rpJ_n (by omega) | rfl)) ?_
  refine g_iconst (v := nI 1) dX12_force_9 (by decide) ?_
  refine n_isub dX12_force_10 (rfl) ?_
  refine p_callS (t_isN (by omega : na ≤ 1000)) okX12_isIn lkX12_96 rfl dX12_force_11 rfl (Nat.le_of_ble_eq_true rfl) (⟨by decide, by decide, by decide, by decide⟩) ?_
  refine n_if_eq 58 dX12_force_14 (by decide) (by first | (with_reducible exact cB _) | ((with_reducible apply cN_eq0) <;> omega) | exact Iff.rfl) (fun c14 => ?_) (fun c14 => ?_)
  · skip
    refine g_iconst (v := (-1)) dX12_force_58 (by decide) ?_
    exact g_iret dX12_force_59 rfl (⟨rfl, rfl, by rw [sp_force, if_neg (by omega)]; exact ⟨rfl, pvs_self.symm, rfl⟩⟩)
  · skip
    refine g_iload_n dX12_force_17 rfl ?_
    refine p_callS (t_isWeek) okX12_isWeek lkX12_115 rfl dX12_force_18 rfl (Nat.le_of_ble_eq_true rfl) (⟨by decide, by decide, by decide, by decide⟩) ?_
    refine n_if_eq 58 dX12_force_21 (by decide) (by first | (with_reducible exact cB _) | ((with_reducible apply cN_eq0) <;> omega) | exact Iff.rfl) (fun c21 => ?_) (fun c21 => ?_)
    · skip
      refine g_iconst (v := (-1)) dX12_force_58 (by decide) ?_
      exact g_iret dX12_force_59 rfl (⟨rfl, rfl, by rw [sp_force, if_neg (by omega)]; exact ⟨rfl, pvs_self.symm, rfl⟩⟩)
    · skip
      refine g_iload_n dX12_force_24 rfl ?_
      refine p_callS (t_isWeek) okX12_isWeek lkX12_115 rfl dX12_force_25 rfl (Nat.le_of_ble_eq_true rfl) (⟨by decide, by decide, by decide, by decide⟩) ?_
      refine n_if_eq 58 dX12_force_28 (by decide) (by first | (with_reducible exact cB _) | ((with_reducible apply cN_eq0) <;> omega) | exact Iff.rfl) (fun c28 => ?_) (fun c28 => ?_)
      · skip
        refine g_iconst (v := (-1)) dX12_force_58 (by decide) ?_
        exact g_iret dX12_force_59 rfl (⟨rfl, rfl, by rw [sp_force, if_neg (by omega)]; exact ⟨rfl, pvs_self.symm, rfl⟩⟩)
      · skip
        refine g_iload_n dX12_force_31 rfl ?_
        refine g_iload_n dX12_force_32 rfl ?_
        refine n_icmp_gt 58 dX12_force_33 (by decide) (by first | ((with_reducible apply cN_lt) <;> omega) | ((with_reducible apply cI_ltn) <;> omega) | ((with_reducible apply cI_nlt) <;> omega) | (with_reducible exact cI_lt)) (fun c33 => ?_) (fun c33 => ?_)
        · skip
          refine g_iconst (v := (-1)) dX12_force_58 (by decide) ?_
          exact g_iret dX12_force_59 rfl (⟨rfl, rfl, by rw [sp_force, if_neg (by omega)]; exact ⟨rfl, pvs_self.symm, rfl⟩⟩)
        · skip
          refine g_iload_n dX12_force_36 rfl ?_
          refine g_aload_n dX12_force_37 rfl ?_
          refine g_getP dX12_force_38 fdX12_7 rfl (by first | rfl | exact pv_shx) (by omega) (by omega) (by decide) rfl (hP _ _ _ rfl) ?_
          refine g_iconst (v := nI 0) dX12_force_41 (by decide) ?_
          refine n_iald dX12_force_42 (by first | rfl | exact pv_shx) (by omega) (by omega) (by decide) (rfl) (by omega) (by repeat (first | exact clk_h | exact na_h | exact nf_h | (apply rd_s; done) | apply rd_n (by omega) | apply rp_s | apply rp_n (by omega) | (apply rdL_s; done) | apply rdL_n (by omega) | apply rpJ_s | apply rpJ_n (by omega) | rfl)) ?_
          refine n_icmp_lt 58 dX12_force_43 (by decide) (by first | ((with_reducible apply cN_lt) <;> omega) | ((with_reducible apply cI_ltn) <;> omega) | ((with_reducible apply cI_nlt) <;> omega) | (with_reducible exact cI_lt)) (fun c43 => ?_) (fun c43 => ?_)
          · skip
            refine g_iconst (v := (-1)) dX12_force_58 (by decide) ?_
            exact g_iret dX12_force_59 rfl (⟨rfl, rfl, by rw [sp_force, if_neg (by omega)]; exact ⟨rfl, pvs_self.symm, rfl⟩⟩)
          · skip
            refine g_aload_n dX12_force_46 rfl ?_
            refine g_getP dX12_force_47 fdX12_7 rfl (by first | rfl | exact pv_shx) (by omega) (by omega) (by decide) rfl (hP _ _ _ rfl) ?_
            refine g_bipush (v := nI 9) dX12_force_50 (by decide) ?_
            refine n_iald dX12_force_52 (by first | rfl | exact pv_shx) (by omega) (by omega) (by decide) (rfl) (by omega) (by repeat (first | exact clk_h | exact na_h | exact nf_h | (apply rd_s; done) | apply rd_n (by omega) | apply rp_s | apply rp_n (by omega) | (apply rdL_s; done) | apply rdL_n (by omega) | apply rpJ_s | apply rpJ_n (by omega) | rfl)) ?_
            refine g_bipush (v := nI 30) dX12_force_53 (by decide) ?_
            refine n_icmp_ne 60 dX12_force_55 (by decide) (by first | ((with_reducible apply cN_eq) <;> omega) | ((with_reducible apply cI_eqn) <;> omega) | exact Iff.rfl) (fun c55 => ?_) (fun c55 => ?_)
            · skip
              refine g_sipush (v := nI 1500) dX12_force_60 (by decide) ?_
              refine g_iconst (v := nI 3) dX12_force_63 (by decide) ?_
              refine g_aload_n dX12_force_64 rfl ?_
              refine g_getP dX12_force_65 fdX12_7 rfl (by first | rfl | exact pv_shx) (by omega) (by omega) (by decide) rfl (hP _ _ _ rfl) ?_
              refine g_bipush (v := nI 9) dX12_force_68 (by decide) ?_
              refine n_iald dX12_force_70 (by first | rfl | exact pv_shx) (by omega) (by omega) (by decide) (rfl) (by omega) (by repeat (first | exact clk_h | exact na_h | exact nf_h | (apply rd_s; done) | apply rd_n (by omega) | apply rp_s | apply rp_n (by omega) | (apply rdL_s; done) | apply rdL_n (by omega) | apply rpJ_s | apply rpJ_n (by omega) | rfl)) ?_
              refine n_imul dX12_force_71 (by first | (with_reducible exact pk_mul _ _) | rfl) ?_
              refine n_iadd dX12_force_72 (by first | (with_reducible exact nI_add _ _) | rfl) ?_
              refine g_istore dX12_force_73 (by decide) rfl ?_
              refine g_aload_n dX12_force_75 rfl ?_
              refine g_getP dX12_force_76 fdX12_7 rfl (by first | rfl | exact pv_shx) (by omega) (by omega) (by decide) rfl (hP _ _ _ rfl) ?_
              refine g_iload dX12_force_79 rfl ?_
              refine g_iload_n dX12_force_81 rfl ?_
              refine n_iast dX12_force_82 (by first | rfl | exact pv_shx) (by omega) (by omega) (by omega) (by decide) (rfl) (by omega) (by repeat (first | exact pvu_s | exact pvuJ_s | apply pvu_in (by omega) | apply pvuJ_in (by omega) | exact pvu_pvs | exact pvuJ_pvs)) ?_
              refine g_aload_n dX12_force_83 rfl ?_
              refine g_getP dX12_force_84 fdX12_7 rfl (by first | rfl | exact pv_shx) (by omega) (by omega) (by decide) rfl (hP _ _ _ rfl) ?_
              refine g_iload dX12_force_87 rfl ?_
              refine g_iconst (v := nI 1) dX12_force_89 (by decide) ?_
              refine n_iadd dX12_force_90 (by first | (with_reducible exact nI_add _ _) | rfl) ?_
              refine g_iload_n dX12_force_91 rfl ?_
              refine n_iast dX12_force_92 (by first | rfl | exact pv_shx) (by omega) (by omega) (by omega) (by decide) (rfl) (by omega) (by repeat (first | exact pvu_s | exact pvuJ_s | apply pvu_in (by omega) | apply pvuJ_in (by omega) | exact pvu_pvs | exact pvuJ_pvs)) ?_
              refine g_aload_n dX12_force_93 rfl ?_
              refine g_getP dX12_force_94 fdX12_7 rfl (by first | rfl | exact pv_shx) (by omega) (by omega) (by decide) rfl (hP _ _ _ rfl) ?_
              refine g_iload dX12_force_97 rfl ?_
              refine g_iconst (v := nI 2) dX12_force_99 (by decide) ?_
              refine n_iadd dX12_force_100 (by first | (with_reducible exact nI_add _ _) | rfl) ?_
              refine g_iload_n dX12_force_101 rfl ?_
              refine n_iast dX12_force_102 (by first | rfl | exact pv_shx) (by omega) (by omega) (by omega) (by decide) (rfl) (by omega) (by repeat (first | exact pvu_s | exact pvuJ_s | apply pvu_in (by omega) | apply pvuJ_in (by omega) | exact pvu_pvs | exact pvuJ_pvs)) ?_
              refine g_aload_n dX12_force_103 rfl ?_
              refine g_getP dX12_force_104 fdX12_7 rfl (by first | rfl | exact pv_shx) (by omega) (by omega) (by decide) rfl (hP _ _ _ rfl) ?_
              refine g_bipush (v := nI 9) dX12_force_107 (by decide) ?_
              refine g_dup2 dX12_force_109 rfl rfl ?_
              refine n_iald dX12_force_110 (by first | rfl | exact pv_shx) (by omega) (by omega) (by decide) (rfl) (by omega) (by repeat (first | exact clk_h | exact na_h | exact nf_h | (apply rd_s; done) | apply rd_n (by omega) | apply rp_s | apply rp_n (by omega) | (apply rdL_s; done) | apply rdL_n (by omega) | apply rpJ_s | apply rpJ_n (by omega) | rfl)) ?_
              refine g_iconst (v := nI 1) dX12_force_111 (by decide) ?_
              refine n_iadd dX12_force_112 (by first | (with_reducible exact nI_add _ _) | rfl) ?_
              refine n_iast dX12_force_113 (by first | rfl | exact pv_shx) (by omega) (by omega) (by omega) (by decide) (rfl) (by omega) (by repeat (first | exact pvu_s | exact pvuJ_s | apply pvu_in (by omega) | apply pvuJ_in (by omega) | exact pvu_pvs | exact pvuJ_pvs)) ?_
              refine g_aload_n dX12_force_114 rfl ?_
              refine g_getP dX12_force_115 fdX12_7 rfl (by first | rfl | exact pv_shx) (by omega) (by omega) (by decide) rfl (hP _ _ _ rfl) ?_
              refine g_bipush (v := nI 9) dX12_force_118 (by decide) ?_
              refine n_iald dX12_force_120 (by first | rfl | exact pv_shx) (by omega) (by omega) (by decide) (rfl) (by omega) (by repeat (first | exact clk_h | exact na_h | exact nf_h | (apply rd_s; done) | apply rd_n (by omega) | apply rp_s | apply rp_n (by omega) | (apply rdL_s; done) | apply rdL_n (by omega) | apply rpJ_s | apply rpJ_n (by omega) | rfl)) ?_
              refine g_iconst (v := nI 1) dX12_force_121 (by decide) ?_
              refine n_isub dX12_force_122 (by first | ((with_reducible apply pk_sub) <;> omega) | rfl) ?_
              exact g_iret dX12_force_123 rfl (⟨rfl, rfl, by rw [sp_force, if_pos (by omega), nf_e, nf_h]; exact ⟨rfl, rfl, rfl⟩⟩)
            · skip
              refine g_iconst (v := (-1)) dX12_force_58 (by decide) ?_
              exact g_iret dX12_force_59 rfl (⟨rfl, rfl, by rw [sp_force, if_neg (by omega)]; exact ⟨rfl, pvs_self.symm, rfl⟩⟩)
def sp_place (w h : Nat) (a : Nat → Int32) (c x : Int32) : Int32 × (Nat → Int32) :=
  if (0 ≤ c.toInt ∧ c.toInt < w * h) ∧ (a (20 + c.toNatClampNeg)).toInt = 3 ∧ (0 ≤ x.toInt ∧ x.toInt ≤ 9999) ∧ ¬ cnt a 10 = 6 then (a 10, upd (upd (upd a (1600 + 2 * cnt a 10) c) (1600 + 2 * cnt a 10 + 1) x) 10 (nI (cnt a 10 + 1))) else (-1, a)
theorem t_place {w h : Nat} {I : pvI} {J : pvJ} {P : pvP} (hP : pvOkP P) (hD : mDim w h I) (hg : mG (I 203)) {c x : Int32} : pvMet mX12_place 2 0 0 [.ref 202, .int c, .int x] 224 I J P (mQ1 I J P (sp_place w h (I 203) c x)) := by
  obtain ⟨hw, hh, hw2, hh2⟩ := hD
  have hwh : 4 ≤ w * h ∧ w * h ≤ 64 := ⟨Nat.mul_le_mul hw2.1 hh2.1, Nat.mul_le_mul hw2.2 hh2.2⟩
  obtain ⟨npl, npl_b, npl_h⟩ := hg 10 (by decide)
  replace npl_b : npl ≤ 6 := npl_b
  have npl_e : cnt (I 203) 10 = npl := cnt_of npl_h (by omega)
  refine pvMet.of _ (by decide) rfl (Nat.le_of_ble_eq_true rfl) ?_
  refine g_aload_n dX12_place_0 rfl ?_
  refine g_iload_n dX12_place_1 rfl ?_
  refine p_callV (t_isCell hw hh hw2 hh2) okX12_isCell lkX12_100 rfl (by first | rfl | exact pv_shx) rfl (by omega) (by omega) dX12_place_2 rfl (Nat.le_of_ble_eq_true rfl) (⟨by decide, by decide, by decide, by decide⟩) ?_
  refine n_if_eq 44 dX12_place_5 (by decide) (by first | (with_reducible exact cB _) | ((with_reducible apply cN_eq0) <;> omega) | exact Iff.rfl) (fun c5 => ?_) (fun c5 => ?_)
  · skip
    refine g_iconst (v := (-1)) dX12_place_44 (by decide) ?_
    exact g_iret dX12_place_45 rfl (⟨rfl, rfl, by rw [sp_place, if_neg (by first | omega | (rw [ej]; omega))]; exact ⟨rfl, pvs_self.symm, rfl⟩⟩)
  · skip
    obtain ⟨j, hj, rfl⟩ := cI_of (x := c) (n := w * h) (by omega) (by omega) (by omega)
    have ej : (nI j).toNatClampNeg = j := nI_clamp (by omega)
    refine g_aload_n dX12_place_8 rfl ?_
    refine g_getP dX12_place_9 fdX12_7 rfl (by first | rfl | exact pv_shx) (by omega) (by omega) (by decide) rfl (hP _ _ _ rfl) ?_
    refine g_bipush (v := nI 20) dX12_place_12 (by decide) ?_
    refine g_iload_n dX12_place_14 rfl ?_
    refine n_iadd dX12_place_15 (by first | (with_reducible exact nI_add _ _) | rfl) ?_
    refine n_iald dX12_place_16 (by first | rfl | exact pv_shx) (by omega) (by omega) (by decide) (rfl) (by omega) (by repeat (first | exact npl_h | (apply rd_s; done) | apply rd_n (by omega) | apply rp_s | apply rp_n (by omega) | (apply rdL_s; done) | apply rdL_n (by omega) | apply rpJ_s | apply rpJ_n (by omega) | rfl)) ?_
    refine g_iconst (v := nI 3) dX12_place_17 (by decide) ?_
    refine n_icmp_ne 44 dX12_place_18 (by decide) (by first | ((with_reducible apply cN_eq) <;> omega) | ((with_reducible apply cI_eqn) <;> omega) | exact Iff.rfl) (fun c18 => ?_) (fun c18 => ?_)
    · skip
      refine g_iconst (v := (-1)) dX12_place_44 (by decide) ?_
      exact g_iret dX12_place_45 rfl (⟨rfl, rfl, by rw [sp_place, if_neg (by first | omega | (rw [ej]; omega))]; exact ⟨rfl, pvs_self.symm, rfl⟩⟩)
    · skip
      refine g_iload_n dX12_place_21 rfl ?_
      refine g_iconst (v := nI 0) dX12_place_22 (by decide) ?_
      refine g_sipush (v := nI 9999) dX12_place_23 (by decide) ?_
      refine p_callS (t_isIn (by first | exact nI_toInt (by omega) | exact pk_sub_toInt (by omega) (by omega)) (by first | exact nI_toInt (by omega) | exact pk_sub_toInt (by omega) (by omega))) okX12_isIn lkX12_96 rfl dX12_place_26 rfl (Nat.le_of_ble_eq_true rfl) (⟨by decide, by decide, by decide, by decide⟩) ?_
      refine n_if_eq 44 dX12_place_29 (by decide) (by first | (with_reducible exact cB _) | ((with_reducible apply cN_eq0) <;> omega) | exact Iff.rfl) (fun c29 => ?_) (fun c29 => ?_)
      · skip
        refine g_iconst (v := (-1)) dX12_place_44 (by decide) ?_
        exact g_iret dX12_place_45 rfl (⟨rfl, rfl, by rw [sp_place, if_neg (by first | omega | (rw [ej]; omega))]; exact ⟨rfl, pvs_self.symm, rfl⟩⟩)
      · skip
        refine g_aload_n dX12_place_32 rfl ?_
        refine g_getP dX12_place_33 fdX12_7 rfl (by first | rfl | exact pv_shx) (by omega) (by omega) (by decide) rfl (hP _ _ _ rfl) ?_
        refine g_bipush (v := nI 10) dX12_place_36 (by decide) ?_
        refine n_iald dX12_place_38 (by first | rfl | exact pv_shx) (by omega) (by omega) (by decide) (rfl) (by omega) (by repeat (first | exact npl_h | (apply rd_s; done) | apply rd_n (by omega) | apply rp_s | apply rp_n (by omega) | (apply rdL_s; done) | apply rdL_n (by omega) | apply rpJ_s | apply rpJ_n (by omega) | rfl)) ?_
        refine g_bipush (v := nI 6) dX12_place_39 (by decide) ?_
        refine n_icmp_ne 46 dX12_place_41 (by decide) (by first | ((with_reducible apply cN_eq) <;> omega) | ((with_reducible apply cI_eqn) <;> omega) | exact Iff.rfl) (fun c41 => ?_) (fun c41 => ?_)
        · skip
          refine g_aload_n dX12_place_46 rfl ?_
          refine g_getP dX12_place_47 fdX12_7 rfl (by first | rfl | exact pv_shx) (by omega) (by omega) (by decide) rfl (hP _ _ _ rfl) ?_
          refine g_sipush (v := nI 1600) dX12_place_50 (by decide) ?_
          refine g_iconst (v := nI 2) dX12_place_53 (by decide) ?_
          refine g_aload_n dX12_place_54 rfl ?_
          refine g_getP dX12_place_55 fdX12_7 rfl (by first | rfl | exact pv_shx) (by omega) (by omega) (by decide) rfl (hP _ _ _ rfl) ?_
          refine g_bipush (v := nI 10) dX12_place_58 (by decide) ?_
          refine n_iald dX12_place_60 (by first | rfl | exact pv_shx) (by omega) (by omega) (by decide) (rfl) (by omega) (by repeat (first | exact npl_h | (apply rd_s; done) | apply rd_n (by omega) | apply rp_s | apply rp_n (by omega) | (apply rdL_s; done) | apply rdL_n (by omega) | apply rpJ_s | apply rpJ_n (by omega) | rfl)) ?_
          refine n_imul dX12_place_61 (by first | (with_reducible exact pk_mul _ _) | rfl) ?_
          refine n_iadd dX12_place_62 (by first | (with_reducible exact nI_add _ _) | rfl) ?_
          refine g_iload_n dX12_place_63 rfl ?_
          refine n_iast dX12_place_64 (by first | rfl | exact pv_shx) (by omega) (by omega) (by omega) (by decide) (rfl) (by omega) (by repeat (first | exact pvu_s | exact pvuJ_s | apply pvu_in (by omega) | apply pvuJ_in (by omega) | exact pvu_pvs | exact pvuJ_pvs)) ?_
          refine g_aload_n dX12_place_65 rfl ?_
          refine g_getP dX12_place_66 fdX12_7 rfl (by first | rfl | exact pv_shx) (by omega) (by omega) (by decide) rfl (hP _ _ _ rfl) ?_
          refine g_sipush (v := nI 1600) dX12_place_69 (by decide) ?_
          refine g_iconst (v := nI 2) dX12_place_72 (by decide) ?_
          refine g_aload_n dX12_place_73 rfl ?_
          refine g_getP dX12_place_74 fdX12_7 rfl (by first | rfl | exact pv_shx) (by omega) (by omega) (by decide) rfl (hP _ _ _ rfl) ?_
          refine g_bipush (v := nI 10) dX12_place_77 (by decide) ?_
          refine n_iald dX12_place_79 (by first | rfl | exact pv_shx) (by omega) (by omega) (by decide) (rfl) (by omega) (by repeat (first | exact npl_h | (apply rd_s; done) | apply rd_n (by omega) | apply rp_s | apply rp_n (by omega) | (apply rdL_s; done) | apply rdL_n (by omega) | apply rpJ_s | apply rpJ_n (by omega) | rfl)) ?_
          refine n_imul dX12_place_80 (by first | (with_reducible exact pk_mul _ _) | rfl) ?_
          refine n_iadd dX12_place_81 (by first | (with_reducible exact nI_add _ _) | rfl) ?_
          refine g_iconst (v := nI 1) dX12_place_82 (by decide) ?_
          refine n_iadd dX12_place_83 (by first | (with_reducible exact nI_add _ _) | rfl) ?_
          refine g_iload_n dX12_place_84 rfl ?_
          refine n_iast dX12_place_85 (by first | rfl | exact pv_shx) (by omega) (by omega) (by omega) (by decide) (rfl) (by omega) (by repeat (first | exact pvu_s | exact pvuJ_s | apply pvu_in (by omega) | apply pvuJ_in (by omega) | exact pvu_pvs | exact pvuJ_pvs)) ?_
          refine g_aload_n dX12_place_86 rfl ?_
          refine g_getP dX12_place_87 fdX12_7 rfl (by first | rfl | exact pv_shx) (by omega) (by omega) (by decide) rfl (hP _ _ _ rfl) ?_
          refine g_bipush (v := nI 10) dX12_place_90 (by decide) ?_
          refine g_dup2 dX12_place_92 rfl rfl ?_
          refine n_iald dX12_place_93 (by first | rfl | exact pv_shx) (by omega) (by omega) (by decide) (rfl) (by omega) (by repeat (first | exact npl_h | (apply rd_s; done) | apply rd_n (by omega) | apply rp_s | apply rp_n (by omega) | (apply rdL_s; done) | apply rdL_n (by omega) | apply rpJ_s | apply rpJ_n (by omega) | rfl)) ?_
          refine g_iconst (v := nI 1) dX12_place_94 (by decide) ?_
          refine n_iadd dX12_place_95 (by first | (with_reducible exact nI_add _ _) | rfl) ?_
          refine n_iast dX12_place_96 (by first | rfl | exact pv_shx) (by omega) (by omega) (by omega) (by decide) (rfl) (by omega) (by repeat (first | exact pvu_s | exact pvuJ_s | apply pvu_in (by omega) | apply pvuJ_in (by omega) | exact pvu_pvs | exact pvuJ_pvs)) ?_
          refine g_aload_n dX12_place_97 rfl ?_
          refine g_getP dX12_place_98 fdX12_7 rfl (by first | rfl | exact pv_shx) (by omega) (by omega) (by decide) rfl (hP _ _ _ rfl) ?_
          refine g_bipush (v := nI 10) dX12_place_101 (by decide) ?_
          refine n_iald dX12_place_103 (by first | rfl | exact pv_shx) (by omega) (by omega) (by decide) (rfl) (by omega) (by repeat (first | exact npl_h | (apply rd_s; done) | apply rd_n (by omega) | apply rp_s | apply rp_n (by omega) | (apply rdL_s; done) | apply rdL_n (by omega) | apply rpJ_s | apply rpJ_n (by omega) | rfl)) ?_
          refine g_iconst (v := nI 1) dX12_place_104 (by decide) ?_
          refine n_isub dX12_place_105 (by first | ((with_reducible apply pk_sub) <;> omega) | rfl) ?_
          exact g_iret dX12_place_106 rfl (⟨rfl, rfl, by rw [sp_place, if_pos (by rw [ej]; omega), npl_e, npl_h]; exact ⟨rfl, rfl, rfl⟩⟩)
        · skip
          refine g_iconst (v := (-1)) dX12_place_44 (by decide) ?_
          exact g_iret dX12_place_45 rfl (⟨rfl, rfl, by rw [sp_place, if_neg (by first | omega | (rw [ej]; omega))]; exact ⟨rfl, pvs_self.symm, rfl⟩⟩)
theorem t_fill {w h : Nat} {I : pvI} {J : pvJ} {P : pvP} (hP : pvOkP P) (hD : mDim w h I) {c : Int32} : pvMet mX12_fill 2 0 0 [.ref 202, .int c] 224 I J P (pvpu (.int (if 0 ≤ c.toInt ∧ c.toInt < w * h then sp_sum (sp_came (I 203) c.toNatClampNeg) 100 else -1)) 224 I J P) := by
  obtain ⟨hw, hh, hw2, hh2⟩ := hD
  have hwh : 4 ≤ w * h ∧ w * h ≤ 64 := ⟨Nat.mul_le_mul hw2.1 hh2.1, Nat.mul_le_mul hw2.2 hh2.2⟩
  refine pvMet.of _ (by decide) rfl (Nat.le_of_ble_eq_true rfl) ?_
  refine g_aload_n dX12_fill_0 rfl ?_
  refine g_iload_n dX12_fill_1 rfl ?_
  refine p_callV (t_isCell hw hh hw2 hh2) okX12_isCell lkX12_100 rfl (by first | rfl | exact pv_shx) rfl (by omega) (by omega) dX12_fill_2 rfl (Nat.le_of_ble_eq_true rfl) (⟨by decide, by decide, by decide, by decide⟩) ?_
  refine n_if_eq 16 dX12_fill_5 (by decide) (by first | (with_reducible exact cB _) | ((with_reducible apply cN_eq0) <;> omega) | exact Iff.rfl) (fun c5 => ?_) (fun c5 => ?_)
  · skip
    refine g_iconst (v := (-1)) dX12_fill_16 (by decide) ?_
    exact g_iret dX12_fill_17 rfl (⟨by first | rw [if_neg (by omega)] | rw [if_pos (by omega), ej], rfl, rfl, rfl, rfl⟩)
  · skip
    obtain ⟨j, hj, rfl⟩ := cI_of (x := c) (n := w * h) (by omega) (by omega) (by omega)
    have ej : (nI j).toNatClampNeg = j := nI_clamp (by omega)
    refine g_aload_n dX12_fill_8 rfl ?_
    refine g_iload_n dX12_fill_9 rfl ?_
    refine p_callV (t_fillOf hP (c := j) (by omega)) okX12_fillOf lkX12_107 rfl (by first | rfl | exact pv_shx) rfl (by omega) (by omega) dX12_fill_10 rfl (Nat.le_of_ble_eq_true rfl) (⟨by decide, by decide, by decide, by decide⟩) ?_
    refine g_goto 17 dX12_fill_13 (by decide) ?_
    exact g_iret dX12_fill_17 rfl (⟨by first | rw [if_neg (by omega)] | rw [if_pos (by omega), ej], rfl, rfl, rfl, rfl⟩)
