/-! class: its smallest methods -/
theorem c_within {nx : Nat} {I : pvI} {J : pvJ} {P : pvP} {v lo hi : Int32} {L H : Int} (hl : lo.toInt = L) (hh : hi.toInt = H) : pvMet mX11_within 0 0 0 [.int v, .int lo, .int hi] nx I J P (pvpu (.int (if L ≤ v.toInt ∧ v.toInt ≤ H then 1 else 0)) nx I J P) := by
  subst hl hh
  refine pvMet.of _ (by decide) rfl (Nat.le_of_ble_eq_true rfl) ?_
  refine g_iload_n dX11_within_0 rfl ?_
  refine g_iload_n dX11_within_1 rfl ?_
  refine n_icmp_lt 14 dX11_within_2 (by decide) (by first | ((with_reducible apply cN_lt) <;> omega) | ((with_reducible apply cI_ltn) <;> omega) | ((with_reducible apply cI_nlt) <;> omega) | (with_reducible exact cI_lt)) (fun c2 => ?_) (fun c2 => ?_)
  · skip
    refine g_iconst (v := nI 0) dX11_within_14 (by decide) ?_
    exact g_zret (by first | exact Or.inl rfl | exact Or.inr rfl | exact cB01 _) dX11_within_15 rfl (⟨by first | (rw [if_neg (by omega)]; rfl) | (rw [if_pos (by omega)]; rfl), rfl, rfl, rfl, rfl⟩)
  · skip
    refine g_iload_n dX11_within_5 rfl ?_
    refine g_iload_n dX11_within_6 rfl ?_
    refine n_icmp_gt 14 dX11_within_7 (by decide) (by first | ((with_reducible apply cN_lt) <;> omega) | ((with_reducible apply cI_ltn) <;> omega) | ((with_reducible apply cI_nlt) <;> omega) | (with_reducible exact cI_lt)) (fun c7 => ?_) (fun c7 => ?_)
    · skip
      refine g_iconst (v := nI 0) dX11_within_14 (by decide) ?_
      exact g_zret (by first | exact Or.inl rfl | exact Or.inr rfl | exact cB01 _) dX11_within_15 rfl (⟨by first | (rw [if_neg (by omega)]; rfl) | (rw [if_pos (by omega)]; rfl), rfl, rfl, rfl, rfl⟩)
    · skip
      refine g_iconst (v := nI 1) dX11_within_10 (by decide) ?_
      refine g_goto 15 dX11_within_11 (by decide) ?_
      exact g_zret (by first | exact Or.inl rfl | exact Or.inr rfl | exact cB01 _) dX11_within_15 rfl (⟨by first | (rw [if_neg (by omega)]; rfl) | (rw [if_pos (by omega)]; rfl), rfl, rfl, rfl, rfl⟩)
theorem c_isWeek {nx : Nat} {I : pvI} {J : pvJ} {P : pvP} {v : Int32} : pvMet mX11_isWeek 1 0 0 [.int v] nx I J P (pvpu (.int (if 0 ≤ v.toInt ∧ v.toInt ≤ 99 then 1 else 0)) nx I J P) := by
  refine pvMet.of _ (by decide) rfl (Nat.le_of_ble_eq_true rfl) ?_
  refine g_iload_n dX11_isWeek_0 rfl ?_
  refine g_iconst (v := nI 0) dX11_isWeek_1 (by decide) ?_
  refine g_bipush (v := nI 99) dX11_isWeek_2 (by decide) ?_
  refine p_callS (c_within (L := 0) (H := 99) (by decide) (by decide)) okX11_within lkX11_85 rfl dX11_isWeek_4 rfl (Nat.le_of_ble_eq_true rfl) (⟨by decide, by decide, by decide, by decide⟩) ?_
  exact g_zret (by first | exact Or.inl rfl | exact Or.inr rfl | exact cB01 _) dX11_isWeek_7 rfl (⟨rfl, rfl, rfl, rfl, rfl⟩)
theorem c_isKnown {nx : Nat} {I : pvI} {J : pvJ} {P : pvP} {v : Int32} : pvMet mX11_isKnown 1 0 0 [.int v] nx I J P (pvpu (.int (if 0 ≤ v.toInt ∧ v.toInt ≤ 100 then 1 else 0)) nx I J P) := by
  refine pvMet.of _ (by decide) rfl (Nat.le_of_ble_eq_true rfl) ?_
  refine g_iload_n dX11_isKnown_0 rfl ?_
  refine g_iconst (v := nI 0) dX11_isKnown_1 (by decide) ?_
  refine g_bipush (v := nI 100) dX11_isKnown_2 (by decide) ?_
  refine p_callS (c_within (L := 0) (H := 100) (by decide) (by decide)) okX11_within lkX11_85 rfl dX11_isKnown_4 rfl (Nat.le_of_ble_eq_true rfl) (⟨by decide, by decide, by decide, by decide⟩) ?_
  exact g_zret (by first | exact Or.inl rfl | exact Or.inr rfl | exact cB01 _) dX11_isKnown_7 rfl (⟨rfl, rfl, rfl, rfl, rfl⟩)
/-- the grid -/
def gridOk (w h : Nat) (I : pvI) (J : pvJ) : Prop := I 2 0 = nI w ∧ I 2 1 = nI h ∧ I 2 2 = nI (w * h) ∧ J 2 3 = mk (fun c => decide (c < w * h)) ∧ J 2 4 = mk (fun c => decide (c < w * h ∧ 0 < c % w)) ∧ J 2 5 = mk (fun c => decide (c < w * h ∧ c % w + 1 < w)) ∧ (2 ≤ w ∧ w ≤ 8) ∧ (2 ≤ h ∧ h ≤ 8)
theorem gridOk.wh {w h : Nat} {I : pvI} {J : pvJ} (hg : gridOk w h I J) : 4 ≤ w * h ∧ w * h ≤ 64 := ⟨Nat.mul_le_mul hg.2.2.2.2.2.2.1.1 hg.2.2.2.2.2.2.2.1, Nat.mul_le_mul hg.2.2.2.2.2.2.1.2 hg.2.2.2.2.2.2.2.2⟩
theorem c_has {w h : Nat} {I : pvI} {J : pvJ} {P : pvP} {v : Int32} (hg : gridOk w h I J) : pvMet mX2_has 0 0 0 [.ref 2, .int v] 224 I J P (pvpu (.int (if 0 ≤ v.toInt ∧ v.toInt < w * h then 1 else 0)) 224 I J P) := by
  have hwh := hg.wh
  have h2 := hg.2.2.1
  have e : ((w * h : Nat) : Int) = (w : Int) * h := Int.natCast_mul w h
  refine pvMet.of _ (by decide) rfl (Nat.le_of_ble_eq_true rfl) ?_
  refine g_iload_n dX2_has_0 rfl ?_
  refine n_if_lt 16 dX2_has_1 (by decide) (by first | ((with_reducible apply cN_lt0) <;> omega) | (with_reducible exact cI_lt0)) (fun c1 => ?_) (fun c1 => ?_)
  · skip
    refine g_iconst (v := nI 0) dX2_has_16 (by decide) ?_
    exact g_zret (by first | exact Or.inl rfl | exact Or.inr rfl | exact cB01 _) dX2_has_17 rfl (⟨by first | (rw [if_neg (by omega)]; rfl) | (rw [if_pos (by omega)]; rfl), rfl, rfl, rfl, rfl⟩)
  · skip
    refine g_iload_n dX2_has_4 rfl ?_
    refine g_aload_n dX2_has_5 rfl ?_
    refine n_getI dX2_has_6 fdX2_16 rfl (by first | rfl | exact pv_shx) (by omega) (by omega) (by decide) rfl (by repeat (first | exact h2 | (apply rd_s; done) | apply rd_n (by omega) | apply rp_s | apply rp_n (by omega) | (apply rdL_s; done) | apply rdL_n (by omega) | apply rpJ_s | apply rpJ_n (by omega) | rfl)) ?_
    refine n_icmp_ge 16 dX2_has_9 (by decide) (by first | ((with_reducible apply cN_le) <;> omega) | ((with_reducible apply cI_len) <;> omega) | ((with_reducible apply cI_nle) <;> omega) | (with_reducible exact cI_le)) (fun c9 => ?_) (fun c9 => ?_)
    · skip
      refine g_iconst (v := nI 0) dX2_has_16 (by decide) ?_
      exact g_zret (by first | exact Or.inl rfl | exact Or.inr rfl | exact cB01 _) dX2_has_17 rfl (⟨by first | (rw [if_neg (by omega)]; rfl) | (rw [if_pos (by omega)]; rfl), rfl, rfl, rfl, rfl⟩)
    · skip
      refine g_iconst (v := nI 1) dX2_has_12 (by decide) ?_
      refine g_goto 17 dX2_has_13 (by decide) ?_
      exact g_zret (by first | exact Or.inl rfl | exact Or.inr rfl | exact cB01 _) dX2_has_17 rfl (⟨by first | (rw [if_neg (by omega)]; rfl) | (rw [if_pos (by omega)]; rfl), rfl, rfl, rfl, rfl⟩)
theorem c_hasHole {n : Nat} {I : pvI} {J : pvJ} {P : pvP} {v : Int32} (h : I 9 0 = nI n) (hn : n ≤ 1000) : pvMet mX9_hasHole 0 0 0 [.ref 9, .int v] 224 I J P (pvpu (.int (if 0 ≤ v.toInt ∧ v.toInt < n then 1 else 0)) 224 I J P) := by
  refine pvMet.of _ (by decide) rfl (Nat.le_of_ble_eq_true rfl) ?_
  refine g_iload_n dX9_hasHole_0 rfl ?_
  refine n_if_lt 16 dX9_hasHole_1 (by decide) (by first | ((with_reducible apply cN_lt0) <;> omega) | (with_reducible exact cI_lt0)) (fun c1 => ?_) (fun c1 => ?_)
  · skip
    refine g_iconst (v := nI 0) dX9_hasHole_16 (by decide) ?_
    exact g_zret (by first | exact Or.inl rfl | exact Or.inr rfl | exact cB01 _) dX9_hasHole_17 rfl (⟨by first | (rw [if_neg (by omega)]; rfl) | (rw [if_pos (by omega)]; rfl), rfl, rfl, rfl, rfl⟩)
  · skip
    refine g_iload_n dX9_hasHole_4 rfl ?_
    refine g_aload_n dX9_hasHole_5 rfl ?_
    refine n_getI dX9_hasHole_6 fdX9_43 rfl (by first | rfl | exact pv_shx) (by omega) (by omega) (by decide) rfl (by repeat (first | exact h | (apply rd_s; done) | apply rd_n (by omega) | apply rp_s | apply rp_n (by omega) | (apply rdL_s; done) | apply rdL_n (by omega) | apply rpJ_s | apply rpJ_n (by omega) | rfl)) ?_
    refine n_icmp_ge 16 dX9_hasHole_9 (by decide) (by first | ((with_reducible apply cN_le) <;> omega) | ((with_reducible apply cI_len) <;> omega) | ((with_reducible apply cI_nle) <;> omega) | (with_reducible exact cI_le)) (fun c9 => ?_) (fun c9 => ?_)
    · skip
      refine g_iconst (v := nI 0) dX9_hasHole_16 (by decide) ?_
      exact g_zret (by first | exact Or.inl rfl | exact Or.inr rfl | exact cB01 _) dX9_hasHole_17 rfl (⟨by first | (rw [if_neg (by omega)]; rfl) | (rw [if_pos (by omega)]; rfl), rfl, rfl, rfl, rfl⟩)
    · skip
      refine g_iconst (v := nI 1) dX9_hasHole_12 (by decide) ?_
      refine g_goto 17 dX9_hasHole_13 (by decide) ?_
      exact g_zret (by first | exact Or.inl rfl | exact Or.inr rfl | exact cB01 _) dX9_hasHole_17 rfl (⟨by first | (rw [if_neg (by omega)]; rfl) | (rw [if_pos (by omega)]; rfl), rfl, rfl, rfl, rfl⟩)
theorem c_hasHouse {n : Nat} {I : pvI} {J : pvJ} {P : pvP} {v : Int32} (h : I 27 0 = nI n) (hn : n ≤ 1000) : pvMet mX7_hasHouse 0 0 0 [.ref 27, .int v] 224 I J P (pvpu (.int (if 0 ≤ v.toInt ∧ v.toInt < n then 1 else 0)) 224 I J P) := by
  refine pvMet.of _ (by decide) rfl (Nat.le_of_ble_eq_true rfl) ?_
  refine g_iload_n dX7_hasHouse_0 rfl ?_
  refine n_if_lt 16 dX7_hasHouse_1 (by decide) (by first | ((with_reducible apply cN_lt0) <;> omega) | (with_reducible exact cI_lt0)) (fun c1 => ?_) (fun c1 => ?_)
  · skip
    refine g_iconst (v := nI 0) dX7_hasHouse_16 (by decide) ?_
    exact g_zret (by first | exact Or.inl rfl | exact Or.inr rfl | exact cB01 _) dX7_hasHouse_17 rfl (⟨by first | (rw [if_neg (by omega)]; rfl) | (rw [if_pos (by omega)]; rfl), rfl, rfl, rfl, rfl⟩)
  · skip
    refine g_iload_n dX7_hasHouse_4 rfl ?_
    refine g_aload_n dX7_hasHouse_5 rfl ?_
    refine n_getI dX7_hasHouse_6 fdX7_45 rfl (by first | rfl | exact pv_shx) (by omega) (by omega) (by decide) rfl (by repeat (first | exact h | (apply rd_s; done) | apply rd_n (by omega) | apply rp_s | apply rp_n (by omega) | (apply rdL_s; done) | apply rdL_n (by omega) | apply rpJ_s | apply rpJ_n (by omega) | rfl)) ?_
    refine n_icmp_ge 16 dX7_hasHouse_9 (by decide) (by first | ((with_reducible apply cN_le) <;> omega) | ((with_reducible apply cI_len) <;> omega) | ((with_reducible apply cI_nle) <;> omega) | (with_reducible exact cI_le)) (fun c9 => ?_) (fun c9 => ?_)
    · skip
      refine g_iconst (v := nI 0) dX7_hasHouse_16 (by decide) ?_
      exact g_zret (by first | exact Or.inl rfl | exact Or.inr rfl | exact cB01 _) dX7_hasHouse_17 rfl (⟨by first | (rw [if_neg (by omega)]; rfl) | (rw [if_pos (by omega)]; rfl), rfl, rfl, rfl, rfl⟩)
    · skip
      refine g_iconst (v := nI 1) dX7_hasHouse_12 (by decide) ?_
      refine g_goto 17 dX7_hasHouse_13 (by decide) ?_
      exact g_zret (by first | exact Or.inl rfl | exact Or.inr rfl | exact cB01 _) dX7_hasHouse_17 rfl (⟨by first | (rw [if_neg (by omega)]; rfl) | (rw [if_pos (by omega)]; rfl), rfl, rfl, rfl, rfl⟩)
theorem c_hasPerson {n : Nat} {I : pvI} {J : pvJ} {P : pvP} {v : Int32} (h : I 27 6 = nI n) (hn : n ≤ 1000) : pvMet mX7_hasPerson 0 0 0 [.ref 27, .int v] 224 I J P (pvpu (.int (if 0 ≤ v.toInt ∧ v.toInt < n then 1 else 0)) 224 I J P) := by
  refine pvMet.of _ (by decide) rfl (Nat.le_of_ble_eq_true rfl) ?_
  refine g_iload_n dX7_hasPerson_0 rfl ?_
  refine n_if_lt 16 dX7_hasPerson_1 (by decide) (by first | ((with_reducible apply cN_lt0) <;> omega) | (with_reducible exact cI_lt0)) (fun c1 => ?_) (fun c1 => ?_)
  · skip
    refine g_iconst (v := nI 0) dX7_hasPerson_16 (by decide) ?_
    exact g_zret (by first | exact Or.inl rfl | exact Or.inr rfl | exact cB01 _) dX7_hasPerson_17 rfl (⟨by first | (rw [if_neg (by omega)]; rfl) | (rw [if_pos (by omega)]; rfl), rfl, rfl, rfl, rfl⟩)
  · skip
    refine g_iload_n dX7_hasPerson_4 rfl ?_
    refine g_aload_n dX7_hasPerson_5 rfl ?_
    refine n_getI dX7_hasPerson_6 fdX7_55 rfl (by first | rfl | exact pv_shx) (by omega) (by omega) (by decide) rfl (by repeat (first | exact h | (apply rd_s; done) | apply rd_n (by omega) | apply rp_s | apply rp_n (by omega) | (apply rdL_s; done) | apply rdL_n (by omega) | apply rpJ_s | apply rpJ_n (by omega) | rfl)) ?_
    refine n_icmp_ge 16 dX7_hasPerson_9 (by decide) (by first | ((with_reducible apply cN_le) <;> omega) | ((with_reducible apply cI_len) <;> omega) | ((with_reducible apply cI_nle) <;> omega) | (with_reducible exact cI_le)) (fun c9 => ?_) (fun c9 => ?_)
    · skip
      refine g_iconst (v := nI 0) dX7_hasPerson_16 (by decide) ?_
      exact g_zret (by first | exact Or.inl rfl | exact Or.inr rfl | exact cB01 _) dX7_hasPerson_17 rfl (⟨by first | (rw [if_neg (by omega)]; rfl) | (rw [if_pos (by omega)]; rfl), rfl, rfl, rfl, rfl⟩)
    · skip
      refine g_iconst (v := nI 1) dX7_hasPerson_12 (by decide) ?_
      refine g_goto 17 dX7_hasPerson_13 (by decide) ?_
      exact g_zret (by first | exact Or.inl rfl | exact Or.inr rfl | exact cB01 _) dX7_hasPerson_17 rfl (⟨by first | (rw [if_neg (by omega)]; rfl) | (rw [if_pos (by omega)]; rfl), rfl, rfl, rfl, rfl⟩)
theorem c_hasState {n : Nat} {I : pvI} {J : pvJ} {P : pvP} {v : Int32} (hP : pvOkP P) (h : I 20 0 = nI n) (hn : n ≤ 1000) : pvMet mX11_hasState 1 0 0 [.ref 1, .int v] 224 I J P (pvpu (.int (if 0 ≤ v.toInt ∧ v.toInt < n then 1 else 0)) 224 I J P) := by
  have h1 := c_within (nx := 224) (I := I) (J := J) (P := P) (v := v) (lo := nI 0) (hi := nI n - nI 1) (nI_toInt (by decide)) (pk_sub_toInt (by omega) (by decide))
  rw [show (if ((0 : Nat) : Int) ≤ v.toInt ∧ v.toInt ≤ (n : Int) - ((1 : Nat) : Int) then (1 : Int32) else 0) = if 0 ≤ v.toInt ∧ v.toInt < (n : Int) then 1 else 0 from by congr 1; apply propext; omega] at h1
  refine pvMet.of _ (by decide) rfl (Nat.le_of_ble_eq_true rfl) ?_
  refine g_iload_n dX11_hasState_0 rfl ?_
  refine g_iconst (v := nI 0) dX11_hasState_1 (by decide) ?_
  refine g_aload_n dX11_hasState_2 rfl ?_
  refine g_getP dX11_hasState_3 fdX11_32 rfl (by first | rfl | exact pv_shx) (by omega) (by omega) (by decide) rfl (hP _ _ _ rfl) ?_
  refine g_getP dX11_hasState_6 fdX11_163 rfl (by first | rfl | exact pv_shx) (by omega) (by omega) (by decide) rfl (hP _ _ _ rfl) ?_
  refine n_getI dX11_hasState_9 fdX11_167 rfl (by first | rfl | exact pv_shx) (by omega) (by omega) (by decide) rfl (by repeat (first | exact h | (apply rd_s; done) | apply rd_n (by omega) | apply rp_s | apply rp_n (by omega) | (apply rdL_s; done) | apply rdL_n (by omega) | apply rpJ_s | apply rpJ_n (by omega) | rfl)) ?_
  refine g_iconst (v := nI 1) dX11_hasState_12 (by decide) ?_
  refine n_isub dX11_hasState_13 (rfl) ?_
  refine p_callS (h1) okX11_within lkX11_85 rfl dX11_hasState_14 rfl (Nat.le_of_ble_eq_true rfl) (⟨by decide, by decide, by decide, by decide⟩) ?_
  exact g_zret (by first | exact Or.inl rfl | exact Or.inr rfl | exact cB01 _) dX11_hasState_17 rfl (⟨rfl, rfl, rfl, rfl, rfl⟩)
theorem c_isWeekToCome {n : Nat} {I : pvI} {J : pvJ} {P : pvP} {v : Int32} (hP : pvOkP P) (h : I 3 0 = nI n) (hn : n ≤ 100) : pvMet mX11_isWeekToCome 1 0 0 [.ref 1, .int v] 224 I J P (pvpu (.int (if (n : Int) ≤ v.toInt ∧ v.toInt ≤ 99 then 1 else 0)) 224 I J P) := by
  refine pvMet.of _ (by decide) rfl (Nat.le_of_ble_eq_true rfl) ?_
  refine g_iload_n dX11_isWeekToCome_0 rfl ?_
  refine g_aload_n dX11_isWeekToCome_1 rfl ?_
  refine g_getP dX11_isWeekToCome_2 fdX11_32 rfl (by first | rfl | exact pv_shx) (by omega) (by omega) (by decide) rfl (hP _ _ _ rfl) ?_
  refine n_getI dX11_isWeekToCome_5 fdX11_77 rfl (by first | rfl | exact pv_shx) (by omega) (by omega) (by decide) rfl (by repeat (first | exact h | (apply rd_s; done) | apply rd_n (by omega) | apply rp_s | apply rp_n (by omega) | (apply rdL_s; done) | apply rdL_n (by omega) | apply rpJ_s | apply rpJ_n (by omega) | rfl)) ?_
  refine g_bipush (v := nI 99) dX11_isWeekToCome_8 (by decide) ?_
  refine p_callS (c_within (L := n) (H := 99) (nI_toInt (by omega)) (by decide)) okX11_within lkX11_85 rfl dX11_isWeekToCome_10 rfl (Nat.le_of_ble_eq_true rfl) (⟨by decide, by decide, by decide, by decide⟩) ?_
  exact g_zret (by first | exact Or.inl rfl | exact Or.inr rfl | exact cB01 _) dX11_isWeekToCome_13 rfl (⟨rfl, rfl, rfl, rfl, rfl⟩)
theorem c_isRoom {w h : Nat} {a : Nat → Int32} {I : pvI} {J : pvJ} {P : pvP} {v : Int32} (hP : pvOkP P) (hg : gridOk w h I J) (hk : ∀ c, c < 64 → I 5 c = a (20 + c)) : pvMet mX11_isRoom 1 0 0 [.ref 1, .int v] 224 I J P (pvpu (.int (if (0 ≤ v.toInt ∧ v.toInt < w * h) ∧ (a (20 + v.toNatClampNeg)).toInt = 3 then 1 else 0)) 224 I J P) := by
  have hwh := hg.wh
  have e : ((w * h : Nat) : Int) = (w : Int) * h := Int.natCast_mul w h
  refine pvMet.of _ (by decide) rfl (Nat.le_of_ble_eq_true rfl) ?_
  refine g_aload_n dX11_isRoom_0 rfl ?_
  refine g_getP dX11_isRoom_1 fdX11_21 rfl (by first | rfl | exact pv_shx) (by omega) (by omega) (by decide) rfl (hP _ _ _ rfl) ?_
  refine g_iload_n dX11_isRoom_4 rfl ?_
  refine p_callV (c_has hg) okX2_has lkX11_81 rfl (by first | rfl | exact pv_shx) rfl (by omega) (by omega) dX11_isRoom_5 rfl (Nat.le_of_ble_eq_true rfl) (⟨by decide, by decide, by decide, by decide⟩) ?_
  refine n_if_eq 31 dX11_isRoom_8 (by decide) (by first | (with_reducible exact cB _) | ((with_reducible apply cN_eq0) <;> omega) | exact Iff.rfl) (fun c8 => ?_) (fun c8 => ?_)
  · skip
    refine g_iconst (v := nI 0) dX11_isRoom_31 (by decide) ?_
    exact g_zret (by first | exact Or.inl rfl | exact Or.inr rfl | exact cB01 _) dX11_isRoom_32 rfl (⟨by first | (rw [if_neg (by omega)]; rfl) | (rw [ej, if_neg (by omega)]; rfl) | (rw [ej, if_pos (by omega)]; rfl), rfl, rfl, rfl, rfl⟩)
  · skip
    obtain ⟨j, hj, rfl⟩ := cI_of (x := v) (n := w * h) (by omega) (by omega) (by omega)
    have ej : (nI j).toNatClampNeg = j := nI_clamp (by omega)
    have hkj := hk j (by omega)
    refine g_aload_n dX11_isRoom_11 rfl ?_
    refine g_getP dX11_isRoom_12 fdX11_32 rfl (by first | rfl | exact pv_shx) (by omega) (by omega) (by decide) rfl (hP _ _ _ rfl) ?_
    refine g_getP dX11_isRoom_15 fdX11_89 rfl (by first | rfl | exact pv_shx) (by omega) (by omega) (by decide) rfl (hP _ _ _ rfl) ?_
    refine g_getP dX11_isRoom_18 fdX11_172 rfl (by first | rfl | exact pv_shx) (by omega) (by omega) (by decide) rfl (hP _ _ _ rfl) ?_
    refine g_iload_n dX11_isRoom_21 rfl ?_
    refine n_iald dX11_isRoom_22 (by first | rfl | exact pv_shx) (by omega) (by omega) (by decide) (rfl) (by omega) (hkj) ?_
    refine g_iconst (v := nI 3) dX11_isRoom_23 (by decide) ?_
    refine n_icmp_ne 31 dX11_isRoom_24 (by decide) (by first | ((with_reducible apply cN_eq) <;> omega) | ((with_reducible apply cI_eqn) <;> omega) | exact Iff.rfl) (fun c24 => ?_) (fun c24 => ?_)
    · skip
      refine g_iconst (v := nI 0) dX11_isRoom_31 (by decide) ?_
      exact g_zret (by first | exact Or.inl rfl | exact Or.inr rfl | exact cB01 _) dX11_isRoom_32 rfl (⟨by first | (rw [if_neg (by omega)]; rfl) | (rw [ej, if_neg (by omega)]; rfl) | (rw [ej, if_pos (by omega)]; rfl), rfl, rfl, rfl, rfl⟩)
    · skip
      refine g_iconst (v := nI 1) dX11_isRoom_27 (by decide) ?_
      refine g_goto 32 dX11_isRoom_28 (by decide) ?_
      exact g_zret (by first | exact Or.inl rfl | exact Or.inr rfl | exact cB01 _) dX11_isRoom_32 rfl (⟨by first | (rw [if_neg (by omega)]; rfl) | (rw [ej, if_neg (by omega)]; rfl) | (rw [ej, if_pos (by omega)]; rfl), rfl, rfl, rfl, rfl⟩)
theorem c_allOrSome {nx b all : Nat} {I : pvI} {J : pvJ} {P : pvP} (hb : b ≤ 1000) (ha : all ≤ 1000) : pvMet mX11_allOrSome 0 0 0 [.int (nI b), .int (nI all)] nx I J P (pvpu (.int (if b = all then nI 2 else if 0 < b then nI 1 else nI 0)) nx I J P) := by
  refine pvMet.of _ (by decide) rfl (Nat.le_of_ble_eq_true rfl) ?_
  refine g_iload_n dX11_allOrSome_0 rfl ?_
  refine g_iload_n dX11_allOrSome_1 rfl ?_
  refine n_icmp_ne 7 dX11_allOrSome_2 (by decide) (by first | ((with_reducible apply cN_eq) <;> omega) | ((with_reducible apply cI_eqn) <;> omega) | exact Iff.rfl) (fun c2 => ?_) (fun c2 => ?_)
  · skip
    refine g_iload_n dX11_allOrSome_7 rfl ?_
    refine n_if_le 15 dX11_allOrSome_8 (by decide) (by first | ((with_reducible apply cN_le0) <;> omega) | (with_reducible exact cI_le0)) (fun c8 => ?_) (fun c8 => ?_)
    · skip
      refine g_iconst (v := nI 0) dX11_allOrSome_15 (by decide) ?_
      exact g_iret dX11_allOrSome_16 rfl (⟨by first | (rw [if_pos (by omega)]) | (rw [if_neg (by omega), if_pos (by omega)]) | (rw [if_neg (by omega), if_neg (by omega)]), rfl, rfl, rfl, rfl⟩)
    · skip
      refine g_iconst (v := nI 1) dX11_allOrSome_11 (by decide) ?_
      refine g_goto 16 dX11_allOrSome_12 (by decide) ?_
      exact g_iret dX11_allOrSome_16 rfl (⟨by first | (rw [if_pos (by omega)]) | (rw [if_neg (by omega), if_pos (by omega)]) | (rw [if_neg (by omega), if_neg (by omega)]), rfl, rfl, rfl, rfl⟩)
  · skip
    refine g_iconst (v := nI 2) dX11_allOrSome_5 (by decide) ?_
    exact g_iret dX11_allOrSome_6 rfl (⟨by first | (rw [if_pos (by omega)]) | (rw [if_neg (by omega), if_pos (by omega)]) | (rw [if_neg (by omega), if_neg (by omega)]), rfl, rfl, rfl, rfl⟩)
theorem sh_u : ∀ n, n < 32 → (((nI n).toUInt32 &&& Int32.toUInt32 31).toBitVec % 32).toNat = n := by decide
theorem c_isIn {nx n k : Nat} {I : pvI} {J : pvJ} {P : pvP} (hn : n < 2 ^ 31) (hk : k < 32) : pvMet mX11_isIn 0 0 0 [.int (nI n), .int (nI k)] nx I J P (pvpu (.int (if n / 2 ^ k % 2 = 1 then 1 else 0)) nx I J P) := by
  have hd : n / 2 ^ k ≤ n := Nat.div_le_self _ _
  refine pvMet.of _ (by decide) rfl (Nat.le_of_ble_eq_true rfl) ?_
  refine g_iload_n dX11_isIn_0 rfl ?_
  refine g_iload_n dX11_isIn_1 rfl ?_
  refine n_iushr dX11_isIn_2 (pk_ushrN (by omega) _ k (sh_u k hk)) ?_
  refine g_iconst (v := nI 1) dX11_isIn_3 (by decide) ?_
  refine n_iand dX11_isIn_4 (nI_and1 (by omega)) ?_
  refine n_if_eq 12 dX11_isIn_5 (by decide) (by first | (with_reducible exact cB _) | ((with_reducible apply cN_eq0) <;> omega) | exact Iff.rfl) (fun c5 => ?_) (fun c5 => ?_)
  · skip
    refine g_iconst (v := nI 0) dX11_isIn_12 (by decide) ?_
    exact g_zret (by first | exact Or.inl rfl | exact Or.inr rfl | exact cB01 _) dX11_isIn_13 rfl (⟨by first | (rw [if_neg (by omega)]; rfl) | (rw [if_pos (by omega)]; rfl), rfl, rfl, rfl, rfl⟩)
  · skip
    refine g_iconst (v := nI 1) dX11_isIn_8 (by decide) ?_
    refine g_goto 13 dX11_isIn_9 (by decide) ?_
    exact g_zret (by first | exact Or.inl rfl | exact Or.inr rfl | exact cB01 _) dX11_isIn_13 rfl (⟨by first | (rw [if_neg (by omega)]; rfl) | (rw [if_pos (by omega)]; rfl), rfl, rfl, rfl, rfl⟩)
theorem c_isThere {p : Nat} {a : Nat → Int32} {I : pvI} {J : pvJ} {P : pvP} (hP : pvOkP P) (hp : p < 60) (h : I 37 p = -1 ∨ ∃ g, g ≤ 99 ∧ I 37 p = nI g) : pvMet mX7_isThere 0 0 0 [.ref 27, .int (nI p)] 224 I J P (pvpu (.int (if (I 37 p).toInt < 0 then 1 else 0)) 224 I J P) := by
  have e : (I 37 p = -1) ↔ (I 37 p).toInt < 0 := by
    rcases h with h | ⟨g, g1, g2⟩
    · rw [h]; exact ⟨fun _ => by decide, fun _ => rfl⟩
    · rw [g2, nI_toInt (by omega), cI_m1, nI_toInt (by omega)]; omega
  refine pvMet.of _ (by decide) rfl (Nat.le_of_ble_eq_true rfl) ?_
  refine g_aload_n dX7_isThere_0 rfl ?_
  refine g_getP dX7_isThere_1 fdX7_39 rfl (by first | rfl | exact pv_shx) (by omega) (by omega) (by decide) rfl (hP _ _ _ rfl) ?_
  refine g_iload_n dX7_isThere_4 rfl ?_
  refine n_iald dX7_isThere_5 (by first | rfl | exact pv_shx) (by omega) (by omega) (by decide) (rfl) (by omega) (by repeat (first | (apply rd_s; done) | apply rd_n (by omega) | apply rp_s | apply rp_n (by omega) | (apply rdL_s; done) | apply rdL_n (by omega) | apply rpJ_s | apply rpJ_n (by omega) | rfl)) ?_
  refine g_iconst (v := (-1)) dX7_isThere_6 (by decide) ?_
  refine n_icmp_ne 14 dX7_isThere_7 (by decide) (e) (fun c7 => ?_) (fun c7 => ?_)
  · skip
    refine g_iconst (v := nI 0) dX7_isThere_14 (by decide) ?_
    exact g_zret (by first | exact Or.inl rfl | exact Or.inr rfl | exact cB01 _) dX7_isThere_15 rfl (⟨by first | (rw [if_neg c7]; rfl) | (rw [if_pos c7]; rfl), rfl, rfl, rfl, rfl⟩)
  · skip
    refine g_iconst (v := nI 1) dX7_isThere_10 (by decide) ?_
    refine g_goto 15 dX7_isThere_11 (by decide) ?_
    exact g_zret (by first | exact Or.inl rfl | exact Or.inr rfl | exact cB01 _) dX7_isThere_15 rfl (⟨by first | (rw [if_neg c7]; rfl) | (rw [if_pos c7]; rfl), rfl, rfl, rfl, rfl⟩)
/-- the neighbours of a set -/
def spr (w h : Nat) (f : Nat → Bool) (c : Nat) : Bool := anyB (fun x => f x && adjB w h x c) (w * h)
theorem spr_iff {w h : Nat} {f : Nat → Bool} {c : Nat} : spr w h f c = true ↔ ∃ x, x < w * h ∧ f x = true ∧ ∃ d, d < 4 ∧ sp_nb w h x d = some c := by
  unfold spr
  rw [anyB_iff]
  constructor
  · rintro ⟨x, h1, h2⟩
    rw [Bool.and_eq_true] at h2
    obtain ⟨d, d1, d2⟩ := anyB_iff.mp h2.2
    exact ⟨x, h1, h2.1, d, d1, of_decide_eq_true d2⟩
  · rintro ⟨x, h1, h2, d, d1, d2⟩
    exact ⟨x, h1, by rw [Bool.and_eq_true]; exact ⟨h2, anyB_iff.mpr ⟨d, d1, decide_eq_true d2⟩⟩⟩
theorem spr_bits {w h : Nat} {f : Nat → Bool} (hw : 2 ≤ w ∧ w ≤ 8) (hh : 2 ≤ h ∧ h ≤ 8) (hf : ∀ c, f c = true → c < w * h) {c : Nat} (hc : c < 64) :
    (((((decide (1 ≤ c) && (f (c - 1) && decide (c - 1 < w * h ∧ (c - 1) % w + 1 < w))) || (decide (c + 1 < 64) && (f (c + 1) && decide (c + 1 < w * h ∧ 0 < (c + 1) % w)))) || (decide (w ≤ c) && f (c - w))) || (decide (c + w < 64) && f (c + w))) && decide (c < w * h)) = spr w h f c := by
  have hw0 : 0 < w := by omega
  have hwh : w * h ≤ 64 := Nat.mul_le_mul hw.2 hh.2
  have key : ∀ {p q : Bool}, (p = true ↔ q = true) → p = q := fun {p q} h => by cases p <;> cases q <;> simp_all
  apply key
  rw [spr_iff]
  simp only [Bool.and_eq_true, Bool.or_eq_true, decide_eq_true_iff]
  constructor
  · rintro ⟨h1, h2⟩
    rcases h1 with ((⟨a1, a2, a3, a4⟩ | ⟨a1, a2, a3, a4⟩) | ⟨a1, a2⟩) | ⟨a1, a2⟩
    · refine ⟨c - 1, a3, a2, 0, by decide, ?_⟩
      rw [sp_nb0, if_pos a4, show c - 1 + 1 = c by omega]
    · refine ⟨c + 1, a3, a2, 1, by decide, ?_⟩
      rw [sp_nb1, if_pos a4, show c + 1 - 1 = c by omega]
    · refine ⟨c - w, hf _ a2, a2, 2, by decide, ?_⟩
      obtain ⟨x, rfl⟩ : ∃ x, c = x + w := ⟨c - w, by omega⟩
      have hb := (sp_inb hw0 h2).2
      rw [Nat.add_div_right x hw0] at hb
      rw [Nat.add_sub_cancel, sp_nb2, if_pos (by omega)]
    · refine ⟨c + w, hf _ a2, a2, 3, by decide, ?_⟩
      rw [sp_nb3, Nat.add_div_right c hw0, if_pos (Nat.succ_pos _), Nat.add_sub_cancel]
  · rintro ⟨x, x1, x2, d, d1, d2⟩
    have hcl := sp_nb_lt hw0 x1 d2
    refine ⟨?_, hcl⟩
    rcases (show d = 0 ∨ d = 1 ∨ d = 2 ∨ d = 3 by omega) with rfl | rfl | rfl | rfl
    · rw [sp_nb0] at d2
      split at d2
      · rename_i hd
        cases d2
        exact Or.inl (Or.inl (Or.inl ⟨by omega, by rw [Nat.add_sub_cancel]; exact ⟨x2, x1, hd⟩⟩))
      · cases d2
    · rw [sp_nb1] at d2
      split at d2
      · rename_i hd
        cases d2
        have hx0 : 0 < x := by
          rcases Nat.eq_zero_or_pos x with z | z
          · subst z; simp at hd
          · exact z
        exact Or.inl (Or.inl (Or.inr ⟨by omega, by rw [show x - 1 + 1 = x by omega]; exact ⟨x2, x1, hd⟩⟩))
      · cases d2
    · rw [sp_nb2] at d2
      split at d2
      · cases d2
        exact Or.inl (Or.inr ⟨by omega, by rw [Nat.add_sub_cancel]; exact x2⟩)
      · cases d2
    · rw [sp_nb3] at d2
      split at d2
      · rename_i hd
        cases d2
        have hxw : w ≤ x := by
          rcases Nat.lt_or_ge x w with z | z
          · rw [Nat.div_eq_of_lt z] at hd; omega
          · exact z
        exact Or.inr ⟨by omega, by rw [show x - w + w = x by omega]; exact x2⟩
      · cases d2
theorem c_spread {w h : Nat} {f : Nat → Bool} {I : pvI} {J : pvJ} {P : pvP} (hg : gridOk w h I J) (hf : ∀ c, f c = true → c < w * h) : pvMet mX2_spread 0 0 0 [.ref 2, .long (mk f)] 224 I J P (pvpu (.long (mk (spr w h f))) 224 I J P) := by
  obtain ⟨g0, g1, g2, g3, g4, g5, g6, g7⟩ := hg
  have e1 := mk_shl (f := fun c => f c && decide (c < w * h ∧ c % w + 1 < w)) (k := 1) (by decide)
  have e2 := mk_shr (f := fun c => f c && decide (c < w * h ∧ 0 < c % w)) (k := 1) (by decide)
  have e3 := mk_shl (f := f) (k := w) (by omega)
  have e4 := mk_shr (f := f) (k := w) (by omega)
  have fin : mk (spr w h f) = mk (fun c => ((((decide (1 ≤ c) && (f (c - 1) && decide (c - 1 < w * h ∧ (c - 1) % w + 1 < w))) || (decide (c + 1 < 64) && (f (c + 1) && decide (c + 1 < w * h ∧ 0 < (c + 1) % w)))) || (decide (w ≤ c) && f (c - w))) || (decide (c + w < 64) && f (c + w))) && decide (c < w * h)) := mk_cong (fun c hc => (spr_bits g6 g7 hf hc).symm)
  rw [fin]
  refine pvMet.of _ (by decide) rfl (Nat.le_of_ble_eq_true rfl) ?_
  refine g_lload_n dX2_spread_0 rfl ?_
  refine g_aload_n dX2_spread_1 rfl ?_
  refine n_getJ dX2_spread_2 fdX2_28 rfl (by first | rfl | exact pv_shx) (by omega) (by omega) (by decide) rfl (by repeat (first | exact g0 | exact g3 | exact g4 | exact g5 | (apply rd_s; done) | apply rd_n (by omega) | apply rp_s | apply rp_n (by omega) | (apply rdL_s; done) | apply rdL_n (by omega) | apply rpJ_s | apply rpJ_n (by omega) | rfl)) ?_
  refine n_land dX2_spread_5 (mk_and) ?_
  refine g_iconst (v := nI 1) dX2_spread_6 (by decide) ?_
  refine n_lshl dX2_spread_7 (e1) ?_
  refine g_lload_n dX2_spread_8 rfl ?_
  refine g_aload_n dX2_spread_9 rfl ?_
  refine n_getJ dX2_spread_10 fdX2_25 rfl (by first | rfl | exact pv_shx) (by omega) (by omega) (by decide) rfl (by repeat (first | exact g0 | exact g3 | exact g4 | exact g5 | (apply rd_s; done) | apply rd_n (by omega) | apply rp_s | apply rp_n (by omega) | (apply rdL_s; done) | apply rdL_n (by omega) | apply rpJ_s | apply rpJ_n (by omega) | rfl)) ?_
  refine n_land dX2_spread_13 (mk_and) ?_
  refine g_iconst (v := nI 1) dX2_spread_14 (by decide) ?_
  refine n_lushr dX2_spread_15 (e2) ?_
  refine n_lor dX2_spread_16 (mk_or) ?_
  refine g_lstore_n dX2_spread_17 (by decide) rfl ?_
  refine g_lload_n dX2_spread_18 rfl ?_
  refine g_lload_n dX2_spread_19 rfl ?_
  refine g_aload_n dX2_spread_20 rfl ?_
  refine n_getI dX2_spread_21 fdX2_7 rfl (by first | rfl | exact pv_shx) (by omega) (by omega) (by decide) rfl (by repeat (first | exact g0 | exact g3 | exact g4 | exact g5 | (apply rd_s; done) | apply rd_n (by omega) | apply rp_s | apply rp_n (by omega) | (apply rdL_s; done) | apply rdL_n (by omega) | apply rpJ_s | apply rpJ_n (by omega) | rfl)) ?_
  refine n_lshl dX2_spread_24 (e3) ?_
  refine n_lor dX2_spread_25 (mk_or) ?_
  refine g_lload_n dX2_spread_26 rfl ?_
  refine g_aload_n dX2_spread_27 rfl ?_
  refine n_getI dX2_spread_28 fdX2_7 rfl (by first | rfl | exact pv_shx) (by omega) (by omega) (by decide) rfl (by repeat (first | exact g0 | exact g3 | exact g4 | exact g5 | (apply rd_s; done) | apply rd_n (by omega) | apply rp_s | apply rp_n (by omega) | (apply rdL_s; done) | apply rdL_n (by omega) | apply rpJ_s | apply rpJ_n (by omega) | rfl)) ?_
  refine n_lushr dX2_spread_31 (e4) ?_
  refine n_lor dX2_spread_32 (mk_or) ?_
  refine g_aload_n dX2_spread_33 rfl ?_
  refine n_getJ dX2_spread_34 fdX2_19 rfl (by first | rfl | exact pv_shx) (by omega) (by omega) (by decide) rfl (by repeat (first | exact g0 | exact g3 | exact g4 | exact g5 | (apply rd_s; done) | apply rd_n (by omega) | apply rp_s | apply rp_n (by omega) | (apply rdL_s; done) | apply rdL_n (by omega) | apply rpJ_s | apply rpJ_n (by omega) | rfl)) ?_
  refine n_land dX2_spread_37 (mk_and) ?_
  exact g_lret dX2_spread_38 rfl (⟨rfl, rfl, rfl, rfl, rfl⟩)
