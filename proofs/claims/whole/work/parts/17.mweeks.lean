/-! model: weeks, feed, about -/
theorem sp_lv_keep {N : Nat} : ∀ {k : Nat} {a : Nat → Int32}, mLv N a → mLv N (sp_lv k a) ∧ sp_keep a (sp_lv k a)
  | 0, a, h => ⟨h, sp_keep.rf⟩
  | k + 1, a, h => by
    have h60 : cnt a 6 ≤ 60 := by
      obtain ⟨v, v1, v2⟩ := h.2.2.2 6 (by decide)
      replace v1 : v ≤ 60 := v1
      rw [cnt_of v2 (by omega)]; exact v1
    have g := mLv_pass h (i := cnt a 6) (Nat.le_refl _)
    show mLv N (if _ then _ else _) ∧ sp_keep a (if _ then _ else _)
    split
    · have := sp_lv_keep (k := k) g.1
      exact ⟨this.1, (sp_pass_keep h60).tr this.2⟩
    · exact ⟨g.1, sp_pass_keep h60⟩
def sp_tick (b : Nat → Int32) : Nat → Int32 := upd b 0 (nI (cnt b 0 + 1))
def sp_wks (a : Nat → Int32) : Nat → Nat → Int32
  | 0 => a
  | k + 1 => sp_tick (sp_lv 61 (sp_wks a k))
theorem mLv_tick {N : Nat} {b : Nat → Int32} (h : mLv N b) (h0 : cnt b 0 < 100) : mLv N (sp_tick b) := by
  obtain ⟨h1, h2, h3, h4⟩ := h
  have k : ∀ i, i ≠ 0 → sp_tick b i = b i := fun i hi => by simp [sp_tick, upd, hi]
  have kc : ∀ i, i ≠ 0 → cnt (sp_tick b) i = cnt b i := fun i hi => by unfold cnt; rw [k i hi]
  refine ⟨fun p hp => ?_, fun q hq => ?_, ?_, fun i hi => ?_⟩
  · rw [kc 6 (by decide)] at hp
    rw [kc 5 (by decide), k _ (by omega), k _ (by omega), k _ (by omega), k _ (by omega), k _ (by omega)]
    exact h1 p hp
  · rw [kc 5 (by decide)] at hq
    rw [k _ (by omega), k _ (by omega), k _ (by omega), k _ (by omega), k _ (by omega)]
    exact h2 q hq
  · unfold mWent at h3 ⊢
    rw [k 7 (by decide), kc 6 (by decide), h3]
    rw [sp_ct_cong (p := fun p => ¬ sp_here (sp_tick b) p) (q := fun p => ¬ sp_here b p) (fun p _ => by unfold sp_here; rw [k _ (by omega)])]
  · by_cases e : i = 0
    · subst e
      exact ⟨cnt b 0 + 1, h0, by simp [sp_tick, upd]⟩
    · rw [k i e]
      exact h4 i hi
theorem sp_wks_ok {N : Nat} {a : Nat → Int32} (h : mLv N a) : ∀ {k : Nat}, cnt a 0 + k ≤ 100 → mLv N (sp_wks a k) ∧ sp_wks a k 0 = nI (cnt a 0 + k)
  | 0, _ => by
    refine ⟨h, ?_⟩
    obtain ⟨v, v1, v2⟩ := h.2.2.2 0 (by decide)
    replace v1 : v ≤ 100 := v1
    rw [cnt_of v2 (by omega)]; exact v2
  | k + 1, hk => by
    obtain ⟨g1, g2⟩ := sp_wks_ok h (k := k) (by omega)
    obtain ⟨g3, g4⟩ := sp_lv_keep (k := 61) g1
    have e : sp_lv 61 (sp_wks a k) 0 = nI (cnt a 0 + k) := (g4 0 (by decide) (by omega)).trans g2
    have ec : cnt (sp_lv 61 (sp_wks a k)) 0 = cnt a 0 + k := cnt_of e (by omega)
    refine ⟨mLv_tick g3 (by omega), ?_⟩
    show sp_tick _ 0 = _
    simp [sp_tick, upd, ec, Nat.add_assoc]
def sp_weeks (a : Nat → Int32) (n : Int32) : Int32 × (Nat → Int32) :=
  if (1 ≤ n.toInt ∧ n.toInt ≤ 20) ∧ cnt a 0 + n.toInt ≤ 100 then (nI (cnt a 0 + n.toNatClampNeg), sp_wks a n.toNatClampNeg) else (-1, a)
theorem t_weeks {N : Nat} {I : pvI} {J : pvJ} {P : pvP} (hP : pvOkP P) (hl : mLv N (I 203)) {n : Int32} : pvMet mX12_weeks 2 0 0 [.ref 202, .int n] 224 I J P (mQ1 I J P (sp_weeks (I 203) n)) := by
  have hg := hl.2.2.2
  obtain ⟨clk, clk_b, clk_h⟩ := hg 0 (by decide)
  replace clk_b : clk ≤ 100 := clk_b
  have clk_e : cnt (I 203) 0 = clk := cnt_of clk_h (by omega)
  refine pvMet.of _ (by decide) rfl (Nat.le_of_ble_eq_true rfl) ?_
  refine g_iload_n dX12_weeks_0 rfl ?_
  refine g_iconst (v := nI 1) dX12_weeks_1 (by decide) ?_
  refine g_bipush (v := nI 20) dX12_weeks_2 (by decide) ?_
  refine p_callS (t_isIn (by first | exact nI_toInt (by omega) | exact pk_sub_toInt (by omega) (by omega)) (by first | exact nI_toInt (by omega) | exact pk_sub_toInt (by omega) (by omega))) okX12_isIn lkX12_96 rfl dX12_weeks_4 rfl (Nat.le_of_ble_eq_true rfl) (⟨by decide, by decide, by decide, by decide⟩) ?_
  refine n_if_eq 23 dX12_weeks_7 (by decide) (by first | (with_reducible exact cB _) | ((with_reducible apply cN_eq0) <;> omega) | exact Iff.rfl) (fun c7 => ?_) (fun c7 => ?_)
  · skip
    refine g_iconst (v := (-1)) dX12_weeks_23 (by decide) ?_
    exact g_iret dX12_weeks_24 rfl (⟨rfl, rfl, by rw [sp_weeks, if_neg (by omega)]; exact ⟨rfl, pvs_self.symm, rfl⟩⟩)
  · skip
    obtain ⟨j, hj, rfl⟩ := cI_of (x := n) (n := 21) (by omega) (by omega) (by omega)
    have ej : (nI j).toNatClampNeg = j := nI_clamp (by omega)
    have ej2 : (nI j).toInt = j := nI_toInt (by omega)
    refine g_aload_n dX12_weeks_10 rfl ?_
    refine g_getP dX12_weeks_11 fdX12_7 rfl (by first | rfl | exact pv_shx) (by omega) (by omega) (by decide) rfl (hP _ _ _ rfl) ?_
    refine g_iconst (v := nI 0) dX12_weeks_14 (by decide) ?_
    refine n_iald dX12_weeks_15 (by first | rfl | exact pv_shx) (by omega) (by omega) (by decide) (rfl) (by omega) (by repeat (first | exact clk_h | (apply rd_s; done) | apply rd_n (by omega) | apply rp_s | apply rp_n (by omega) | (apply rdL_s; done) | apply rdL_n (by omega) | apply rpJ_s | apply rpJ_n (by omega) | rfl)) ?_
    refine g_iload_n dX12_weeks_16 rfl ?_
    refine n_iadd dX12_weeks_17 (by first | (with_reducible exact nI_add _ _) | rfl) ?_
    refine g_bipush (v := nI 100) dX12_weeks_18 (by decide) ?_
    refine n_icmp_le 25 dX12_weeks_20 (by decide) (by first | ((with_reducible apply cN_le) <;> omega) | ((with_reducible apply cI_len) <;> omega) | ((with_reducible apply cI_nle) <;> omega) | (with_reducible exact cI_le)) (fun c20 => ?_) (fun c20 => ?_)
    · skip
      have lp : ∀ q i, i + q = j → pvG mX12_weeks (pvR 2 0 0) (pvZ (mQ1 I J P (sp_weeks (I 203) (nI j))) 0 0) 27 [.ref 202, .int (nI j), .int (nI i)] [] 0 0 224 (pvs I 203 (sp_wks (I 203) i)) J P := by
        intro q
        induction q with
        | zero =>
          intro i hi
          obtain rfl : i = j := by omega
          have g2 := (sp_wks_ok hl (k := i) (by omega)).2
          refine g_iload_n dX12_weeks_27 rfl ?_
          refine g_iload_n dX12_weeks_28 rfl ?_
          refine n_icmp_ge 52 dX12_weeks_29 (by decide) (by first | ((with_reducible apply cN_le) <;> omega) | ((with_reducible apply cI_len) <;> omega) | ((with_reducible apply cI_nle) <;> omega) | (with_reducible exact cI_le)) (fun c29 => ?_) (fun c29 => by exfalso; first | omega | exact absurd trivial c29 | exact c29)
          refine g_aload_n dX12_weeks_52 rfl ?_
          refine g_getP dX12_weeks_53 fdX12_7 rfl (by first | rfl | exact pv_shx) (by omega) (by omega) (by decide) rfl (hP _ _ _ rfl) ?_
          refine g_iconst (v := nI 0) dX12_weeks_56 (by decide) ?_
          refine n_iald dX12_weeks_57 (by first | rfl | exact pv_shx) (by omega) (by omega) (by decide) (rfl) (by omega) (by repeat (first | exact g2 | (apply rd_s; done) | apply rd_n (by omega) | apply rp_s | apply rp_n (by omega) | (apply rdL_s; done) | apply rdL_n (by omega) | apply rpJ_s | apply rpJ_n (by omega) | rfl)) ?_
          exact g_iret dX12_weeks_58 rfl (⟨rfl, rfl, by rw [sp_weeks, if_pos (by omega), ej]; exact ⟨rfl, rfl, rfl⟩⟩)
        | succ q ih =>
          intro i hi
          obtain ⟨g1, g2⟩ := sp_wks_ok hl (k := i) (by omega)
          obtain ⟨g3, g4⟩ := sp_lv_keep (k := 61) g1
          have g5 : sp_lv 61 (sp_wks (I 203) i) 0 = nI (clk + i) := (g4 0 (by decide) (by omega)).trans (by rw [g2, clk_e])
          have hi' : mLv N (pvs I 203 (sp_wks (I 203) i) 203) := by rw [pvs_eq]; exact g1
          refine g_iload_n dX12_weeks_27 rfl ?_
          refine g_iload_n dX12_weeks_28 rfl ?_
          refine n_icmp_ge 52 dX12_weeks_29 (by decide) (by first | ((with_reducible apply cN_le) <;> omega) | ((with_reducible apply cI_len) <;> omega) | ((with_reducible apply cI_nle) <;> omega) | (with_reducible exact cI_le)) (fun c29 => by exfalso; first | omega | exact absurd trivial c29 | exact c29) (fun c29 => ?_)
          refine g_aload_n dX12_weeks_32 rfl ?_
          refine g_callV (t_leave hP hi') okX12_leave lkX12_175 rfl (by first | rfl | exact pv_shx) rfl (by omega) (by omega) dX12_weeks_33 rfl (Nat.le_of_ble_eq_true rfl) (⟨by decide, by decide, by decide, by decide⟩) ?_
          rintro v nx' I' J' P' ⟨rfl, rfl, rfl, rfl, rfl⟩
          rw [pvs_eq, pvs_pvs]
          refine g_aload_n dX12_weeks_36 rfl ?_
          refine g_getP dX12_weeks_37 fdX12_7 rfl (by first | rfl | exact pv_shx) (by omega) (by omega) (by decide) rfl (hP _ _ _ rfl) ?_
          refine g_iconst (v := nI 0) dX12_weeks_40 (by decide) ?_
          refine g_dup2 dX12_weeks_41 rfl rfl ?_
          refine n_iald dX12_weeks_42 (by first | rfl | exact pv_shx) (by omega) (by omega) (by decide) (rfl) (by omega) (by repeat (first | exact g5 | (apply rd_s; done) | apply rd_n (by omega) | apply rp_s | apply rp_n (by omega) | (apply rdL_s; done) | apply rdL_n (by omega) | apply rpJ_s | apply rpJ_n (by omega) | rfl)) ?_
          refine g_iconst (v := nI 1) dX12_weeks_43 (by decide) ?_
          refine n_iadd dX12_weeks_44 (by first | (with_reducible exact nI_add _ _) | rfl) ?_
          refine n_iast dX12_weeks_45 (by first | rfl | exact pv_shx) (by omega) (by omega) (by omega) (by decide) (rfl) (by omega) (by repeat (first | exact pvu_s | exact pvuJ_s | apply pvu_in (by omega) | apply pvuJ_in (by omega) | exact pvu_pvs | exact pvuJ_pvs)) ?_
          refine g_iinc dX12_weeks_46 rfl (by first | (with_reducible exact nI_1 _) | exact nI_1 _ | exact pk_m1 _ | rfl) (by decide) rfl ?_
          refine g_goto 27 dX12_weeks_49 (by decide) ?_
          have h4 := ih (i + 1) (by omega)
          rw [show sp_wks (I 203) (i + 1) = upd (sp_lv 61 (sp_wks (I 203) i)) 0 (nI (clk + i + 1)) by show sp_tick _ = _; unfold sp_tick; rw [cnt_of g5 (by omega)]] at h4
          exact h4
      refine g_iconst (v := nI 0) dX12_weeks_25 (by decide) ?_
      refine g_istore_n dX12_weeks_26 (by decide) rfl ?_
      have h0 := lp j 0 (by omega)
      rw [show sp_wks (I 203) 0 = I 203 from rfl, pvs_self] at h0
      exact h0
    · skip
      refine g_iconst (v := (-1)) dX12_weeks_23 (by decide) ?_
      exact g_iret dX12_weeks_24 rfl (⟨rfl, rfl, by rw [sp_weeks, if_neg (by omega)]; exact ⟨rfl, pvs_self.symm, rfl⟩⟩)

/-- the tape with tp bytes -/
def sp_tpm (I : pvI) (tp : Nat) (t : Nat → Int32) : pvI := pvs (pvs I 202 (upd (I 202) 17 (nI tp))) 217 t
theorem sp_tpm_next {I : pvI} {tp tq : Nat} {t u : Nat → Int32} : pvs (pvs (sp_tpm I tp t) 202 (upd (sp_tpm I tp t 202) 17 (nI tq))) 217 u = sp_tpm I tq u := by
  unfold sp_tpm
  rw [pvs_ne (by decide : 202 ≠ 217), pvs_eq, pvs_comm (by decide : (217 : Nat) ≠ 202), pvs_pvs, pvs_pvs]
  congr 2
  funext z
  by_cases h : z = 17 <;> simp [upd, h]
theorem sp_tpm_tp {I : pvI} {tp : Nat} {t : Nat → Int32} : sp_tpm I tp t 202 17 = nI tp := by
  unfold sp_tpm
  rw [pvs_ne (by decide), pvs_eq]
  simp [upd]
theorem sp_tpm_t {I : pvI} {tp : Nat} {t : Nat → Int32} : sp_tpm I tp t 217 = t := by
  unfold sp_tpm
  rw [pvs_eq]
def sp_feed (t : Nat → Int32) (tp : Nat) (a b c d e : Int32) : Nat → Int32 := sp_four (sp_four (sp_four (sp_four (sp_four t tp a) (tp + 4) b) (tp + 8) c) (tp + 12) d) (tp + 16) e
theorem t_four2 {I : pvI} {J : pvJ} {P : pvP} (hP : pvOkP P) {tp tq : Nat} {t : Nat → Int32} (htq : tq = tp + 4) (ht1 : tp + 4 ≤ 300) {v : Int32} : pvMet mX12_four 0 0 0 [.ref 202, .int v] 224 (sp_tpm I tp t) J P (pvq P (fun r I' J' => r = none ∧ I' = sp_tpm I tq (sp_four t tp v) ∧ J' = J)) := by
  subst htq
  have h := t_four (J := J) hP (I := sp_tpm I tp t) sp_tpm_tp ht1 (v := v)
  rw [sp_tpm_next, sp_tpm_t] at h
  exact h
theorem t_feed {I : pvI} {J : pvJ} {P : pvP} (hP : pvOkP P) {tp : Nat} (ht : I 202 17 = nI tp) (ht1 : tp ≤ 300) {a b c d e : Int32} : pvMet mX12_feed 1 0 0 [.ref 202, .int a, .int b, .int c, .int d, .int e] 224 I J P (pvq P (fun v I' J' => (if tp + 20 ≤ 300 then v = some (.int (nI (tp + 20))) ∧ I' = sp_tpm I (tp + 20) (sp_feed (I 217) tp a b c d e) else v = some (.int (-1)) ∧ I' = I) ∧ J' = J)) := by
  have hI : I = sp_tpm I tp (I 217) := by
    unfold sp_tpm
    funext z
    by_cases h : z = 217
    · subst h; simp [pvs]
    · by_cases h2 : z = 202
      · subst h2
        simp only [pvs, if_neg h, if_pos]
        funext y
        by_cases h3 : y = 17
        · subst h3; simp [upd, ht]
        · simp [upd, h3]
      · simp [pvs, h, h2]
  refine pvMet.of _ (by decide) rfl (Nat.le_of_ble_eq_true rfl) ?_
  refine g_aload_n dX12_feed_0 rfl ?_
  refine n_getI dX12_feed_1 fdX12_178 rfl (by first | rfl | exact pv_shx) (by omega) (by omega) (by decide) rfl (by repeat (first | exact ht | exact sp_tpm_tp | (apply rd_s; done) | apply rd_n (by omega) | apply rp_s | apply rp_n (by omega) | (apply rdL_s; done) | apply rdL_n (by omega) | apply rpJ_s | apply rpJ_n (by omega) | rfl)) ?_
  refine g_bipush (v := nI 20) dX12_feed_4 (by decide) ?_
  refine n_iadd dX12_feed_6 (by first | (with_reducible exact nI_add _ _) | rfl) ?_
  refine g_sipush (v := nI 300) dX12_feed_7 (by decide) ?_
  refine n_icmp_le 15 dX12_feed_10 (by decide) (by first | ((with_reducible apply cN_le) <;> omega) | ((with_reducible apply cI_len) <;> omega) | ((with_reducible apply cI_nle) <;> omega) | (with_reducible exact cI_le)) (fun c10 => ?_) (fun c10 => ?_)
  · skip
    have h15 : pvG mX12_feed (pvR 1 0 0) (pvZ (pvq P (fun v I' J' => (if tp + 20 ≤ 300 then v = some (.int (nI (tp + 20))) ∧ I' = sp_tpm I (tp + 20) (sp_feed (I 217) tp a b c d e) else v = some (.int (-1)) ∧ I' = I) ∧ J' = J)) 0 0) 15 [.ref 202, .int a, .int b, .int c, .int d, .int e] [] 0 0 224 (sp_tpm I tp (I 217)) J P := by
      refine g_aload_n dX12_feed_15 rfl ?_
      refine g_iload_n dX12_feed_16 rfl ?_
      refine g_callV (t_four2 hP (tq := tp + 4) rfl (by omega)) okX12_four lkX12_181 rfl (by first | rfl | exact pv_shx) rfl (by omega) (by omega) dX12_feed_17 rfl (Nat.le_of_ble_eq_true rfl) (⟨by decide, by decide, by decide, by decide⟩) ?_
      rintro v nx' I' J' P' ⟨rfl, rfl, rfl, rfl, rfl⟩
      refine g_aload_n dX12_feed_20 rfl ?_
      refine g_iload_n dX12_feed_21 rfl ?_
      refine g_callV (t_four2 hP (tq := tp + 8) (by omega) (by omega)) okX12_four lkX12_181 rfl (by first | rfl | exact pv_shx) rfl (by omega) (by omega) dX12_feed_22 rfl (Nat.le_of_ble_eq_true rfl) (⟨by decide, by decide, by decide, by decide⟩) ?_
      rintro v nx' I' J' P' ⟨rfl, rfl, rfl, rfl, rfl⟩
      refine g_aload_n dX12_feed_25 rfl ?_
      refine g_iload_n dX12_feed_26 rfl ?_
      refine g_callV (t_four2 hP (tq := tp + 12) (by omega) (by omega)) okX12_four lkX12_181 rfl (by first | rfl | exact pv_shx) rfl (by omega) (by omega) dX12_feed_27 rfl (Nat.le_of_ble_eq_true rfl) (⟨by decide, by decide, by decide, by decide⟩) ?_
      rintro v nx' I' J' P' ⟨rfl, rfl, rfl, rfl, rfl⟩
      refine g_aload_n dX12_feed_30 rfl ?_
      refine g_iload dX12_feed_31 rfl ?_
      refine g_callV (t_four2 hP (tq := tp + 16) (by omega) (by omega)) okX12_four lkX12_181 rfl (by first | rfl | exact pv_shx) rfl (by omega) (by omega) dX12_feed_33 rfl (Nat.le_of_ble_eq_true rfl) (⟨by decide, by decide, by decide, by decide⟩) ?_
      rintro v nx' I' J' P' ⟨rfl, rfl, rfl, rfl, rfl⟩
      refine g_aload_n dX12_feed_36 rfl ?_
      refine g_iload dX12_feed_37 rfl ?_
      refine g_callV (t_four2 hP (tq := tp + 20) (by omega) (by omega)) okX12_four lkX12_181 rfl (by first | rfl | exact pv_shx) rfl (by omega) (by omega) dX12_feed_39 rfl (Nat.le_of_ble_eq_true rfl) (⟨by decide, by decide, by decide, by decide⟩) ?_
      rintro v nx' I' J' P' ⟨rfl, rfl, rfl, rfl, rfl⟩
      refine g_aload_n dX12_feed_42 rfl ?_
      refine n_getI dX12_feed_43 fdX12_178 rfl (by first | rfl | exact pv_shx) (by omega) (by omega) (by decide) rfl (by repeat (first | exact ht | exact sp_tpm_tp | (apply rd_s; done) | apply rd_n (by omega) | apply rp_s | apply rp_n (by omega) | (apply rdL_s; done) | apply rdL_n (by omega) | apply rpJ_s | apply rpJ_n (by omega) | rfl)) ?_
      exact g_iret dX12_feed_46 rfl (⟨rfl, rfl, by rw [if_pos (by omega)]; exact ⟨rfl, rfl⟩, rfl⟩)
    rw [← hI] at h15
    exact h15
  · skip
    refine g_iconst (v := (-1)) dX12_feed_13 (by decide) ?_
    exact g_iret dX12_feed_14 rfl (⟨rfl, rfl, by rw [if_neg (by omega)]; exact ⟨rfl, rfl⟩, rfl⟩)
def sp_about (w h : Nat) (a : Nat → Int32) (tp : Int32) (k : Nat) : Int32 := match k with
  | 0 => a 0 | 1 => nI w | 2 => nI h | 3 => a 1 | 4 => a 2 | 5 => a 3 | 6 => a 4 | 7 => a 5 | 8 => a 6 | 9 => a 7 | 10 => a 8 | 11 => a 9 | 12 => a 10 | _ => tp
theorem t_about_no {I : pvI} {J : pvJ} {P : pvP} {v : Int32} (hv : v.toInt < 0 ∨ 13 < v.toInt) : pvMet mX12_about 0 0 0 [.ref 202, .int v] 224 I J P (pvpu (.int (-1)) 224 I J P) := by
  refine pvMet.of _ (by decide) rfl (Nat.le_of_ble_eq_true rfl) ?_
  refine g_iload_n dX12_about_0 rfl ?_
  refine g_tableOut 169 dX12_about_1 hv (by decide) ?_
  refine g_iconst (v := -1) dX12_about_169 (by decide) ?_
  exact g_iret dX12_about_170 rfl ⟨rfl, rfl, rfl, rfl, rfl⟩
theorem t_about {w h : Nat} {I : pvI} {J : pvJ} {P : pvP} (hP : pvOkP P) (hD : mDim w h I) {k : Nat} (hk : k < 14) : pvMet mX12_about 0 0 0 [.ref 202, .int (nI k)] 224 I J P (pvpu (.int (sp_about w h (I 203) (I 202 17) k)) 224 I J P) := by
  obtain ⟨hw, hh, hw2, hh2⟩ := hD
  rcases (show k = 0 ∨ k = 1 ∨ k = 2 ∨ k = 3 ∨ k = 4 ∨ k = 5 ∨ k = 6 ∨ k = 7 ∨ k = 8 ∨ k = 9 ∨ k = 10 ∨ k = 11 ∨ k = 12 ∨ k = 13 by omega) with rfl | rfl | rfl | rfl | rfl | rfl | rfl | rfl | rfl | rfl | rfl | rfl | rfl | rfl
  · skip
    refine pvMet.of _ (by decide) rfl (Nat.le_of_ble_eq_true rfl) ?_
    refine g_iload_n dX12_about_0 rfl ?_
    refine g_tableIn 72 dX12_about_1 (by decide) (by decide) (off := 71) (by decide) (by decide) ?_
    refine g_aload_n dX12_about_72 rfl ?_
    refine g_getP dX12_about_73 fdX12_7 rfl (by first | rfl | exact pv_shx) (by omega) (by omega) (by decide) rfl (hP _ _ _ rfl) ?_
    refine g_iconst (v := nI 0) dX12_about_76 (by decide) ?_
    refine n_iald dX12_about_77 (by first | rfl | exact pv_shx) (by omega) (by omega) (by decide) (rfl) (by omega) (by repeat (first | exact hw | exact hh | (apply rd_s; done) | apply rd_n (by omega) | apply rp_s | apply rp_n (by omega) | (apply rdL_s; done) | apply rdL_n (by omega) | apply rpJ_s | apply rpJ_n (by omega) | rfl)) ?_
    exact g_iret dX12_about_78 rfl (⟨rfl, rfl, rfl, rfl, rfl⟩)
  · skip
    refine pvMet.of _ (by decide) rfl (Nat.le_of_ble_eq_true rfl) ?_
    refine g_iload_n dX12_about_0 rfl ?_
    refine g_tableIn 79 dX12_about_1 (by decide) (by decide) (off := 78) (by decide) (by decide) ?_
    refine g_aload_n dX12_about_79 rfl ?_
    refine n_getI dX12_about_80 fdX12_86 rfl (by first | rfl | exact pv_shx) (by omega) (by omega) (by decide) rfl (by repeat (first | exact hw | exact hh | (apply rd_s; done) | apply rd_n (by omega) | apply rp_s | apply rp_n (by omega) | (apply rdL_s; done) | apply rdL_n (by omega) | apply rpJ_s | apply rpJ_n (by omega) | rfl)) ?_
    exact g_iret dX12_about_83 rfl (⟨rfl, rfl, rfl, rfl, rfl⟩)
  · skip
    refine pvMet.of _ (by decide) rfl (Nat.le_of_ble_eq_true rfl) ?_
    refine g_iload_n dX12_about_0 rfl ?_
    refine g_tableIn 84 dX12_about_1 (by decide) (by decide) (off := 83) (by decide) (by decide) ?_
    refine g_aload_n dX12_about_84 rfl ?_
    refine n_getI dX12_about_85 fdX12_89 rfl (by first | rfl | exact pv_shx) (by omega) (by omega) (by decide) rfl (by repeat (first | exact hw | exact hh | (apply rd_s; done) | apply rd_n (by omega) | apply rp_s | apply rp_n (by omega) | (apply rdL_s; done) | apply rdL_n (by omega) | apply rpJ_s | apply rpJ_n (by omega) | rfl)) ?_
    exact g_iret dX12_about_88 rfl (⟨rfl, rfl, rfl, rfl, rfl⟩)
  · skip
    refine pvMet.of _ (by decide) rfl (Nat.le_of_ble_eq_true rfl) ?_
    refine g_iload_n dX12_about_0 rfl ?_
    refine g_tableIn 89 dX12_about_1 (by decide) (by decide) (off := 88) (by decide) (by decide) ?_
    refine g_aload_n dX12_about_89 rfl ?_
    refine g_getP dX12_about_90 fdX12_7 rfl (by first | rfl | exact pv_shx) (by omega) (by omega) (by decide) rfl (hP _ _ _ rfl) ?_
    refine g_iconst (v := nI 1) dX12_about_93 (by decide) ?_
    refine n_iald dX12_about_94 (by first | rfl | exact pv_shx) (by omega) (by omega) (by decide) (rfl) (by omega) (by repeat (first | exact hw | exact hh | (apply rd_s; done) | apply rd_n (by omega) | apply rp_s | apply rp_n (by omega) | (apply rdL_s; done) | apply rdL_n (by omega) | apply rpJ_s | apply rpJ_n (by omega) | rfl)) ?_
    exact g_iret dX12_about_95 rfl (⟨rfl, rfl, rfl, rfl, rfl⟩)
  · skip
    refine pvMet.of _ (by decide) rfl (Nat.le_of_ble_eq_true rfl) ?_
    refine g_iload_n dX12_about_0 rfl ?_
    refine g_tableIn 96 dX12_about_1 (by decide) (by decide) (off := 95) (by decide) (by decide) ?_
    refine g_aload_n dX12_about_96 rfl ?_
    refine g_getP dX12_about_97 fdX12_7 rfl (by first | rfl | exact pv_shx) (by omega) (by omega) (by decide) rfl (hP _ _ _ rfl) ?_
    refine g_iconst (v := nI 2) dX12_about_100 (by decide) ?_
    refine n_iald dX12_about_101 (by first | rfl | exact pv_shx) (by omega) (by omega) (by decide) (rfl) (by omega) (by repeat (first | exact hw | exact hh | (apply rd_s; done) | apply rd_n (by omega) | apply rp_s | apply rp_n (by omega) | (apply rdL_s; done) | apply rdL_n (by omega) | apply rpJ_s | apply rpJ_n (by omega) | rfl)) ?_
    exact g_iret dX12_about_102 rfl (⟨rfl, rfl, rfl, rfl, rfl⟩)
  · skip
    refine pvMet.of _ (by decide) rfl (Nat.le_of_ble_eq_true rfl) ?_
    refine g_iload_n dX12_about_0 rfl ?_
    refine g_tableIn 103 dX12_about_1 (by decide) (by decide) (off := 102) (by decide) (by decide) ?_
    refine g_aload_n dX12_about_103 rfl ?_
    refine g_getP dX12_about_104 fdX12_7 rfl (by first | rfl | exact pv_shx) (by omega) (by omega) (by decide) rfl (hP _ _ _ rfl) ?_
    refine g_iconst (v := nI 3) dX12_about_107 (by decide) ?_
    refine n_iald dX12_about_108 (by first | rfl | exact pv_shx) (by omega) (by omega) (by decide) (rfl) (by omega) (by repeat (first | exact hw | exact hh | (apply rd_s; done) | apply rd_n (by omega) | apply rp_s | apply rp_n (by omega) | (apply rdL_s; done) | apply rdL_n (by omega) | apply rpJ_s | apply rpJ_n (by omega) | rfl)) ?_
    exact g_iret dX12_about_109 rfl (⟨rfl, rfl, rfl, rfl, rfl⟩)
  · skip
    refine pvMet.of _ (by decide) rfl (Nat.le_of_ble_eq_true rfl) ?_
    refine g_iload_n dX12_about_0 rfl ?_
    refine g_tableIn 110 dX12_about_1 (by decide) (by decide) (off := 109) (by decide) (by decide) ?_
    refine g_aload_n dX12_about_110 rfl ?_
    refine g_getP dX12_about_111 fdX12_7 rfl (by first | rfl | exact pv_shx) (by omega) (by omega) (by decide) rfl (hP _ _ _ rfl) ?_
    refine g_iconst (v := nI 4) dX12_about_114 (by decide) ?_
    refine n_iald dX12_about_115 (by first | rfl | exact pv_shx) (by omega) (by omega) (by decide) (rfl) (by omega) (by repeat (first | exact hw | exact hh | (apply rd_s; done) | apply rd_n (by omega) | apply rp_s | apply rp_n (by omega) | (apply rdL_s; done) | apply rdL_n (by omega) | apply rpJ_s | apply rpJ_n (by omega) | rfl)) ?_
    exact g_iret dX12_about_116 rfl (⟨rfl, rfl, rfl, rfl, rfl⟩)
  · skip
    refine pvMet.of _ (by decide) rfl (Nat.le_of_ble_eq_true rfl) ?_
    refine g_iload_n dX12_about_0 rfl ?_
    refine g_tableIn 117 dX12_about_1 (by decide) (by decide) (off := 116) (by decide) (by decide) ?_
    refine g_aload_n dX12_about_117 rfl ?_
    refine g_getP dX12_about_118 fdX12_7 rfl (by first | rfl | exact pv_shx) (by omega) (by omega) (by decide) rfl (hP _ _ _ rfl) ?_
    refine g_iconst (v := nI 5) dX12_about_121 (by decide) ?_
    refine n_iald dX12_about_122 (by first | rfl | exact pv_shx) (by omega) (by omega) (by decide) (rfl) (by omega) (by repeat (first | exact hw | exact hh | (apply rd_s; done) | apply rd_n (by omega) | apply rp_s | apply rp_n (by omega) | (apply rdL_s; done) | apply rdL_n (by omega) | apply rpJ_s | apply rpJ_n (by omega) | rfl)) ?_
    exact g_iret dX12_about_123 rfl (⟨rfl, rfl, rfl, rfl, rfl⟩)
  · skip
    refine pvMet.of _ (by decide) rfl (Nat.le_of_ble_eq_true rfl) ?_
    refine g_iload_n dX12_about_0 rfl ?_
    refine g_tableIn 124 dX12_about_1 (by decide) (by decide) (off := 123) (by decide) (by decide) ?_
    refine g_aload_n dX12_about_124 rfl ?_
    refine g_getP dX12_about_125 fdX12_7 rfl (by first | rfl | exact pv_shx) (by omega) (by omega) (by decide) rfl (hP _ _ _ rfl) ?_
    refine g_bipush (v := nI 6) dX12_about_128 (by decide) ?_
    refine n_iald dX12_about_130 (by first | rfl | exact pv_shx) (by omega) (by omega) (by decide) (rfl) (by omega) (by repeat (first | exact hw | exact hh | (apply rd_s; done) | apply rd_n (by omega) | apply rp_s | apply rp_n (by omega) | (apply rdL_s; done) | apply rdL_n (by omega) | apply rpJ_s | apply rpJ_n (by omega) | rfl)) ?_
    exact g_iret dX12_about_131 rfl (⟨rfl, rfl, rfl, rfl, rfl⟩)
  · skip
    refine pvMet.of _ (by decide) rfl (Nat.le_of_ble_eq_true rfl) ?_
    refine g_iload_n dX12_about_0 rfl ?_
    refine g_tableIn 132 dX12_about_1 (by decide) (by decide) (off := 131) (by decide) (by decide) ?_
    refine g_aload_n dX12_about_132 rfl ?_
    refine g_getP dX12_about_133 fdX12_7 rfl (by first | rfl | exact pv_shx) (by omega) (by omega) (by decide) rfl (hP _ _ _ rfl) ?_
    refine g_bipush (v := nI 7) dX12_about_136 (by decide) ?_
    refine n_iald dX12_about_138 (by first | rfl | exact pv_shx) (by omega) (by omega) (by decide) (rfl) (by omega) (by repeat (first | exact hw | exact hh | (apply rd_s; done) | apply rd_n (by omega) | apply rp_s | apply rp_n (by omega) | (apply rdL_s; done) | apply rdL_n (by omega) | apply rpJ_s | apply rpJ_n (by omega) | rfl)) ?_
    exact g_iret dX12_about_139 rfl (⟨rfl, rfl, rfl, rfl, rfl⟩)
  · skip
    refine pvMet.of _ (by decide) rfl (Nat.le_of_ble_eq_true rfl) ?_
    refine g_iload_n dX12_about_0 rfl ?_
    refine g_tableIn 140 dX12_about_1 (by decide) (by decide) (off := 139) (by decide) (by decide) ?_
    refine g_aload_n dX12_about_140 rfl ?_
    refine g_getP dX12_about_141 fdX12_7 rfl (by first | rfl | exact pv_shx) (by omega) (by omega) (by decide) rfl (hP _ _ _ rfl) ?_
    refine g_bipush (v := nI 8) dX12_about_144 (by decide) ?_
    refine n_iald dX12_about_146 (by first | rfl | exact pv_shx) (by omega) (by omega) (by decide) (rfl) (by omega) (by repeat (first | exact hw | exact hh | (apply rd_s; done) | apply rd_n (by omega) | apply rp_s | apply rp_n (by omega) | (apply rdL_s; done) | apply rdL_n (by omega) | apply rpJ_s | apply rpJ_n (by omega) | rfl)) ?_
    exact g_iret dX12_about_147 rfl (⟨rfl, rfl, rfl, rfl, rfl⟩)
  · skip
    refine pvMet.of _ (by decide) rfl (Nat.le_of_ble_eq_true rfl) ?_
    refine g_iload_n dX12_about_0 rfl ?_
    refine g_tableIn 148 dX12_about_1 (by decide) (by decide) (off := 147) (by decide) (by decide) ?_
    refine g_aload_n dX12_about_148 rfl ?_
    refine g_getP dX12_about_149 fdX12_7 rfl (by first | rfl | exact pv_shx) (by omega) (by omega) (by decide) rfl (hP _ _ _ rfl) ?_
    refine g_bipush (v := nI 9) dX12_about_152 (by decide) ?_
    refine n_iald dX12_about_154 (by first | rfl | exact pv_shx) (by omega) (by omega) (by decide) (rfl) (by omega) (by repeat (first | exact hw | exact hh | (apply rd_s; done) | apply rd_n (by omega) | apply rp_s | apply rp_n (by omega) | (apply rdL_s; done) | apply rdL_n (by omega) | apply rpJ_s | apply rpJ_n (by omega) | rfl)) ?_
    exact g_iret dX12_about_155 rfl (⟨rfl, rfl, rfl, rfl, rfl⟩)
  · skip
    refine pvMet.of _ (by decide) rfl (Nat.le_of_ble_eq_true rfl) ?_
    refine g_iload_n dX12_about_0 rfl ?_
    refine g_tableIn 156 dX12_about_1 (by decide) (by decide) (off := 155) (by decide) (by decide) ?_
    refine g_aload_n dX12_about_156 rfl ?_
    refine g_getP dX12_about_157 fdX12_7 rfl (by first | rfl | exact pv_shx) (by omega) (by omega) (by decide) rfl (hP _ _ _ rfl) ?_
    refine g_bipush (v := nI 10) dX12_about_160 (by decide) ?_
    refine n_iald dX12_about_162 (by first | rfl | exact pv_shx) (by omega) (by omega) (by decide) (rfl) (by omega) (by repeat (first | exact hw | exact hh | (apply rd_s; done) | apply rd_n (by omega) | apply rp_s | apply rp_n (by omega) | (apply rdL_s; done) | apply rdL_n (by omega) | apply rpJ_s | apply rpJ_n (by omega) | rfl)) ?_
    exact g_iret dX12_about_163 rfl (⟨rfl, rfl, rfl, rfl, rfl⟩)
  · skip
    refine pvMet.of _ (by decide) rfl (Nat.le_of_ble_eq_true rfl) ?_
    refine g_iload_n dX12_about_0 rfl ?_
    refine g_tableIn 164 dX12_about_1 (by decide) (by decide) (off := 163) (by decide) (by decide) ?_
    refine g_aload_n dX12_about_164 rfl ?_
    refine n_getI dX12_about_165 fdX12_178 rfl (by first | rfl | exact pv_shx) (by omega) (by omega) (by decide) rfl (by repeat (first | exact hw | exact hh | (apply rd_s; done) | apply rd_n (by omega) | apply rp_s | apply rp_n (by omega) | (apply rdL_s; done) | apply rdL_n (by omega) | apply rpJ_s | apply rpJ_n (by omega) | rfl)) ?_
    exact g_iret dX12_about_168 rfl (⟨rfl, rfl, rfl, rfl, rfl⟩)
