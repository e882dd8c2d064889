/-! class: the tape: feed, end, fault -/
theorem byt_u {v : Int32} {k : Nat} (hk : k ≤ 24) : (v.toUInt32 >>> ((nI k).toUInt32 &&& Int32.toUInt32 31)).toInt32 &&& nI 255 = sp_byt v k := by
  have h1 := sh_u k (by omega)
  have h2 := sh_l k (by omega)
  unfold sp_byt
  apply Int32.toBitVec_inj.mp
  rw [Int32.toBitVec_and, Int32.toBitVec_and]
  have e1 : (v.toUInt32 >>> ((nI k).toUInt32 &&& Int32.toUInt32 31)).toInt32.toBitVec = v.toBitVec >>> k := by
    show (v.toUInt32 >>> ((nI k).toUInt32 &&& Int32.toUInt32 31)).toBitVec = _
    rw [UInt32.toBitVec_shiftRight, BitVec.ushiftRight_eq', h1]; rfl
  have e2 : (v >>> (nI k &&& 31)).toBitVec = v.toBitVec.sshiftRight k := by
    rw [Int32.toBitVec_shiftRight, BitVec.sshiftRight_eq', h2]
  rw [e1, e2]
  apply BitVec.eq_of_getLsbD_eq
  intro i hi
  rw [BitVec.getLsbD_and, BitVec.getLsbD_and, BitVec.getLsbD_ushiftRight, BitVec.getLsbD_sshiftRight]
  by_cases c : i < 8
  · have : ¬ (32 ≤ i) := by omega
    have : k + i < 32 := by omega
    simp [*]
  · have : (nI 255).toBitVec.getLsbD i = false := by
      have : ∀ i, i < 32 → ¬ i < 8 → (nI 255).toBitVec.getLsbD i = false := by decide
      exact this i hi c
    rw [this]; simp
theorem c_addWord {I : pvI} {J : pvJ} {P : pvP} (hP : pvOkP P) {tp : Nat} (ht : I 144 1 = nI tp) (ht1 : tp + 4 ≤ 300) {v : Int32} : pvMet mX6_addWord 0 0 0 [.ref 144, .int v] 224 I J P (pvq P (fun r I' J' => r = none ∧ I' = pvs (pvs I 144 (upd (I 144) 1 (nI (tp + 4)))) 145 (sp_four (I 145) tp v) ∧ J' = J)) := by
  have st : ∀ (k : Nat) (t : Nat) (Z : pvZT) (f : Nat → Int32), t + 1 ≤ 300 → k ≤ 24 → (∀ I2, I2 = pvs (pvs I 144 (upd (I 144) 1 (nI (t + 1)))) 145 (upd f t (sp_byt v k)) → pvG mX6_addWord (pvR 0 0 0) Z 43 [.ref 144, .int v, .int (nI k)] [] 0 0 224 I2 J P) → pvG mX6_addWord (pvR 0 0 0) Z 3 [.ref 144, .int v, .int (nI k)] [] 0 0 224 (pvs (pvs I 144 (upd (I 144) 1 (nI t))) 145 f) J P := by
    intro k t Z f ht hk kk
    refine g_iload_n dX6_addWord_3 rfl ?_
    refine n_if_lt 49 dX6_addWord_4 (by decide) (by first | ((with_reducible apply cN_lt0) <;> omega) | (with_reducible exact cI_lt0)) (fun c4 => by exfalso; first | omega | exact absurd trivial c4 | exact c4 | (simp at c4)) (fun c4 => ?_)
    refine g_aload_n dX6_addWord_7 rfl ?_
    refine n_getI dX6_addWord_8 fdX6_28 rfl (by first | rfl | exact pv_shx) (by omega) (by omega) (by decide) rfl (by repeat (first | (apply rd_s; done) | apply rd_n (by omega) | apply rp_s | apply rp_n (by omega) | (apply rdL_s; done) | apply rdL_n (by omega) | apply rpJ_s | apply rpJ_n (by omega) | rfl)) ?_
    refine g_sipush (v := nI 300) dX6_addWord_11 (by decide) ?_
    refine n_icmp_ge 49 dX6_addWord_14 (by decide) (by first | ((with_reducible apply cN_le) <;> omega) | ((with_reducible apply cI_len) <;> omega) | ((with_reducible apply cI_nle) <;> omega) | (with_reducible exact cI_le)) (fun c14 => by exfalso; first | omega | exact absurd trivial c14 | exact c14 | (simp at c14)) (fun c14 => ?_)
    refine g_aload_n dX6_addWord_17 rfl ?_
    refine g_getP dX6_addWord_18 fdX6_9 rfl (by first | rfl | exact pv_shx) (by omega) (by omega) (by decide) rfl (hP _ _ _ rfl) ?_
    refine g_aload_n dX6_addWord_21 rfl ?_
    refine n_getI dX6_addWord_22 fdX6_28 rfl (by first | rfl | exact pv_shx) (by omega) (by omega) (by decide) rfl (by repeat (first | (apply rd_s; done) | apply rd_n (by omega) | apply rp_s | apply rp_n (by omega) | (apply rdL_s; done) | apply rdL_n (by omega) | apply rpJ_s | apply rpJ_n (by omega) | rfl)) ?_
    refine g_iload_n dX6_addWord_25 rfl ?_
    refine g_iload_n dX6_addWord_26 rfl ?_
    refine n_iushr dX6_addWord_27 (rfl) ?_
    refine g_sipush (v := nI 255) dX6_addWord_28 (by decide) ?_
    refine n_iand dX6_addWord_31 (byt_u hk) ?_
    refine n_iast dX6_addWord_32 (by first | rfl | exact pv_shx) (by omega) (by omega) (by omega) (by decide) (rfl) (by omega) (by repeat (first | exact pvu_s | exact pvuJ_s | apply pvu_in (by omega) | apply pvuJ_in (by omega) | exact pvu_pvs | exact pvuJ_pvs)) ?_
    refine g_aload_n dX6_addWord_33 rfl ?_
    refine g_dup dX6_addWord_34 rfl ?_
    refine n_getI dX6_addWord_35 fdX6_28 rfl (by first | rfl | exact pv_shx) (by omega) (by omega) (by decide) rfl (by repeat (first | (apply rd_s; done) | apply rd_n (by omega) | apply rp_s | apply rp_n (by omega) | (apply rdL_s; done) | apply rdL_n (by omega) | apply rpJ_s | apply rpJ_n (by omega) | rfl)) ?_
    refine g_iconst (v := nI 1) dX6_addWord_38 (by decide) ?_
    refine n_iadd dX6_addWord_39 (by first | (with_reducible exact nI_add _ _) | rfl) ?_
    refine n_putI dX6_addWord_40 fdX6_28 rfl (fun h => absurd h (by decide)) (by first | rfl | exact pv_shx) (by omega) (by omega) (by decide) rfl (by first | exact (pvu_in (by decide) (pvu_s.trans rfl)) | rfl) ?_
    exact kk _ (by congr 2; funext z; by_cases h : z = 1 <;> simp [upd, h])
  have nx8 : ∀ (k : Nat) (Z : pvZT) (I1 : pvI), k ≤ 24 → pvG mX6_addWord (pvR 0 0 0) Z 3 [.ref 144, .int v, .int (nI k)] [] 0 0 224 I1 J P → pvG mX6_addWord (pvR 0 0 0) Z 43 [.ref 144, .int v, .int (nI (k + 8))] [] 0 0 224 I1 J P := by
    intro k Z I1 hk h3
    refine g_iinc dX6_addWord_43 rfl (pk_m8) (by decide) rfl ?_
    refine g_goto 3 dX6_addWord_46 (by decide) ?_
    exact h3
  have hI : I = pvs (pvs I 144 (upd (I 144) 1 (nI tp))) 145 (I 145) := by
    funext a
    by_cases h : a = 145
    · subst h; simp [pvs]
    · by_cases h2 : a = 144
      · subst h2
        simp only [pvs, if_neg h, if_pos]
        funext z
        by_cases h3 : z = 1
        · subst h3; simp [upd, ht]
        · simp [upd, h3]
      · simp [pvs, h, h2]
  refine pvMet.of _ (by decide) rfl (Nat.le_of_ble_eq_true rfl) ?_
  refine g_bipush (v := nI 24) dX6_addWord_0 (by decide) ?_
  refine g_istore_n dX6_addWord_2 (by decide) rfl ?_
  have h0 := st 24 tp (pvZ (pvq P (fun r I' J' => r = none ∧ I' = pvs (pvs I 144 (upd (I 144) 1 (nI (tp + 4)))) 145 (sp_four (I 145) tp v) ∧ J' = J)) 0 0) (I 145) (by omega) (by omega) (fun I2 e2 => by
    subst e2
    refine nx8 16 _ _ (by omega) (st 16 (tp + 1) _ _ (by omega) (by omega) (fun I2 e2 => ?_))
    subst e2
    refine nx8 8 _ _ (by omega) (st 8 (tp + 2) _ _ (by omega) (by omega) (fun I2 e2 => ?_))
    subst e2
    refine nx8 0 _ _ (by omega) (st 0 (tp + 3) _ _ (by omega) (by omega) (fun I2 e2 => ?_))
    subst e2
    refine g_iinc dX6_addWord_43 rfl (rfl) (by decide) rfl ?_
    refine g_goto 3 dX6_addWord_46 (by decide) ?_
    refine g_iload_n dX6_addWord_3 rfl ?_
    refine n_if_lt 49 dX6_addWord_4 (by decide) (cI_lt0.trans (by rw [show (nI 0 + Int32.ofInt (-8)).toInt = -8 by decide])) (fun c4 => ?_) (fun c4 => by exfalso; first | omega | exact absurd trivial c4 | exact c4 | (simp at c4))
    exact g_vret dX6_addWord_49 rfl (⟨rfl, rfl, rfl, rfl, rfl⟩))
  rw [← hI] at h0
  exact h0
/-- the class's tape with tp bytes -/
def sp_ctp (I : pvI) (tp : Nat) (t : Nat → Int32) : pvI := pvs (pvs I 144 (upd (I 144) 1 (nI tp))) 145 t
theorem sp_ctp_next {I : pvI} {tp tq : Nat} {t u : Nat → Int32} : pvs (pvs (sp_ctp I tp t) 144 (upd (sp_ctp I tp t 144) 1 (nI tq))) 145 u = sp_ctp I tq u := by
  unfold sp_ctp
  rw [pvs_ne (by decide : 144 ≠ 145), pvs_eq, pvs_comm (by decide : (145 : Nat) ≠ 144), pvs_pvs, pvs_pvs]
  congr 2
  funext z
  by_cases h : z = 1 <;> simp [upd, h]
theorem sp_ctp_tp {I : pvI} {tp : Nat} {t : Nat → Int32} : sp_ctp I tp t 144 1 = nI tp := by
  unfold sp_ctp
  rw [pvs_ne (by decide), pvs_eq]
  simp [upd]
theorem sp_ctp_t {I : pvI} {tp : Nat} {t : Nat → Int32} : sp_ctp I tp t 145 = t := by
  unfold sp_ctp
  rw [pvs_eq]
theorem c_addWord2 {I : pvI} {J : pvJ} {P : pvP} (hP : pvOkP P) {tp tq : Nat} {t : Nat → Int32} (htq : tq = tp + 4) (ht1 : tp + 4 ≤ 300) {v : Int32} : pvMet mX6_addWord 0 0 0 [.ref 144, .int v] 224 (sp_ctp I tp t) J P (pvq P (fun r I' J' => r = none ∧ I' = sp_ctp I tq (sp_four t tp v) ∧ J' = J)) := by
  subst htq
  have h := c_addWord (J := J) hP (I := sp_ctp I tp t) sp_ctp_tp ht1 (v := v)
  rw [sp_ctp_next, sp_ctp_t] at h
  exact h
theorem c_hasRoom {I : pvI} {J : pvJ} {P : pvP} {tp k : Nat} (ht : I 144 1 = nI tp) (h1 : tp ≤ 300) (hk : k ≤ 300) : pvMet mX6_hasRoom 0 0 0 [.ref 144, .int (nI k)] 224 I J P (pvpu (.int (if tp + k ≤ 300 then 1 else 0)) 224 I J P) := by
  by_cases c : tp + k ≤ 300
  · rw [if_pos c]
    refine pvMet.of _ (by decide) rfl (Nat.le_of_ble_eq_true rfl) ?_
    refine g_aload_n dX6_hasRoom_0 rfl ?_
    refine n_getI dX6_hasRoom_1 fdX6_28 rfl (by first | rfl | exact pv_shx) (by omega) (by omega) (by decide) rfl (by repeat (first | exact ht | (apply rd_s; done) | apply rd_n (by omega) | apply rp_s | apply rp_n (by omega) | (apply rdL_s; done) | apply rdL_n (by omega) | apply rpJ_s | apply rpJ_n (by omega) | rfl)) ?_
    refine g_iload_n dX6_hasRoom_4 rfl ?_
    refine n_iadd dX6_hasRoom_5 (by first | (with_reducible exact nI_add _ _) | rfl) ?_
    refine g_sipush (v := nI 300) dX6_hasRoom_6 (by decide) ?_
    refine n_icmp_gt 16 dX6_hasRoom_9 (by decide) (by first | ((with_reducible apply cN_lt) <;> omega) | ((with_reducible apply cI_ltn) <;> omega) | ((with_reducible apply cI_nlt) <;> omega) | (with_reducible exact cI_lt)) (fun c9 => by exfalso; first | omega | exact absurd trivial c9 | exact c9 | (simp at c9)) (fun c9 => ?_)
    refine g_iconst (v := nI 1) dX6_hasRoom_12 (by decide) ?_
    refine g_goto 17 dX6_hasRoom_13 (by decide) ?_
    exact g_zret (by first | exact Or.inl rfl | exact Or.inr rfl | exact cB01 _) dX6_hasRoom_17 rfl (⟨rfl, rfl, rfl, rfl, rfl⟩)
  · rw [if_neg c]
    refine pvMet.of _ (by decide) rfl (Nat.le_of_ble_eq_true rfl) ?_
    refine g_aload_n dX6_hasRoom_0 rfl ?_
    refine n_getI dX6_hasRoom_1 fdX6_28 rfl (by first | rfl | exact pv_shx) (by omega) (by omega) (by decide) rfl (by repeat (first | exact ht | (apply rd_s; done) | apply rd_n (by omega) | apply rp_s | apply rp_n (by omega) | (apply rdL_s; done) | apply rdL_n (by omega) | apply rpJ_s | apply rpJ_n (by omega) | rfl)) ?_
    refine g_iload_n dX6_hasRoom_4 rfl ?_
    refine n_iadd dX6_hasRoom_5 (by first | (with_reducible exact nI_add _ _) | rfl) ?_
    refine g_sipush (v := nI 300) dX6_hasRoom_6 (by decide) ?_
    refine n_icmp_gt 16 dX6_hasRoom_9 (by decide) (by first | ((with_reducible apply cN_lt) <;> omega) | ((with_reducible apply cI_ltn) <;> omega) | ((with_reducible apply cI_nlt) <;> omega) | (with_reducible exact cI_lt)) (fun c9 => ?_) (fun c9 => by exfalso; first | omega | exact absurd trivial c9 | exact c9 | (simp at c9))
    refine g_iconst (v := nI 0) dX6_hasRoom_16 (by decide) ?_
    exact g_zret (by first | exact Or.inl rfl | exact Or.inr rfl | exact cB01 _) dX6_hasRoom_17 rfl (⟨rfl, rfl, rfl, rfl, rfl⟩)
theorem c_feed {I : pvI} {J : pvJ} {P : pvP} (hP : pvOkP P) {tp : Nat} (ht : I 144 1 = nI tp) (ht1 : tp ≤ 300) {a b c d e : Int32} : pvMet mX11_feed 1 0 0 [.ref 1, .int a, .int b, .int c, .int d, .int e] 224 I J P (pvq P (fun v I' J' => (if tp + 20 ≤ 300 then v = some (.int (nI (tp + 20))) ∧ I' = sp_ctp I (tp + 20) (sp_feed (I 145) tp a b c d e) else v = some (.int (-1)) ∧ I' = I) ∧ J' = J)) := by
  have hI : I = sp_ctp I tp (I 145) := by
    unfold sp_ctp
    funext z
    by_cases h : z = 145
    · subst h; simp [pvs]
    · by_cases h2 : z = 144
      · subst h2
        simp only [pvs, if_neg h, if_pos]
        funext y
        by_cases h3 : y = 1
        · subst h3; simp [upd, ht]
        · simp [upd, h3]
      · simp [pvs, h, h2]
  have hr := c_hasRoom (I := I) (J := J) (P := P) (k := 20) ht ht1 (by omega)
  by_cases hc : tp + 20 ≤ 300
  · rw [if_pos hc] at hr
    refine pvMet.of _ (by decide) rfl (Nat.le_of_ble_eq_true rfl) ?_
    refine g_aload_n dX11_feed_0 rfl ?_
    refine g_getP dX11_feed_1 fdX11_53 rfl (by first | rfl | exact pv_shx) (by omega) (by omega) (by decide) rfl (hP _ _ _ rfl) ?_
    refine g_bipush (v := nI 20) dX11_feed_4 (by decide) ?_
    refine p_callV (hr) okX6_hasRoom lkX11_324 rfl (by first | rfl | exact pv_shx) rfl (by omega) (by omega) dX11_feed_6 rfl (Nat.le_of_ble_eq_true rfl) (⟨by decide, by decide, by decide, by decide⟩) ?_
    refine n_if_ne 14 dX11_feed_9 (by decide) (by first | (with_reducible exact cB _) | ((with_reducible apply cN_eq0) <;> omega) | exact Iff.rfl) (fun c9 => ?_) (fun c9 => by exfalso; first | omega | exact absurd trivial c9 | exact c9 | (simp at c9))
    have h15 : pvG mX11_feed (pvR 1 0 0) (pvZ (pvq P (fun v I' J' => (if tp + 20 ≤ 300 then v = some (.int (nI (tp + 20))) ∧ I' = sp_ctp I (tp + 20) (sp_feed (I 145) tp a b c d e) else v = some (.int (-1)) ∧ I' = I) ∧ J' = J)) 0 0) 14 [.ref 1, .int a, .int b, .int c, .int d, .int e] [] 0 0 224 (sp_ctp I tp (I 145)) J P := by
      refine g_aload_n dX11_feed_14 rfl ?_
      refine g_getP dX11_feed_15 fdX11_53 rfl (by first | rfl | exact pv_shx) (by omega) (by omega) (by decide) rfl (hP _ _ _ rfl) ?_
      refine g_iload_n dX11_feed_18 rfl ?_
      refine g_callV (c_addWord2 hP (tq := tp + 4) rfl (by omega)) okX6_addWord lkX11_327 rfl (by first | rfl | exact pv_shx) rfl (by omega) (by omega) dX11_feed_19 rfl (Nat.le_of_ble_eq_true rfl) (⟨by decide, by decide, by decide, by decide⟩) ?_
      rintro v nx' I' J' P' ⟨rfl, rfl, rfl, rfl, rfl⟩
      refine g_aload_n dX11_feed_22 rfl ?_
      refine g_getP dX11_feed_23 fdX11_53 rfl (by first | rfl | exact pv_shx) (by omega) (by omega) (by decide) rfl (hP _ _ _ rfl) ?_
      refine g_iload_n dX11_feed_26 rfl ?_
      refine g_callV (c_addWord2 hP (tq := tp + 8) (by omega) (by omega)) okX6_addWord lkX11_327 rfl (by first | rfl | exact pv_shx) rfl (by omega) (by omega) dX11_feed_27 rfl (Nat.le_of_ble_eq_true rfl) (⟨by decide, by decide, by decide, by decide⟩) ?_
      rintro v nx' I' J' P' ⟨rfl, rfl, rfl, rfl, rfl⟩
      refine g_aload_n dX11_feed_30 rfl ?_
      refine g_getP dX11_feed_31 fdX11_53 rfl (by first | rfl | exact pv_shx) (by omega) (by omega) (by decide) rfl (hP _ _ _ rfl) ?_
      refine g_iload_n dX11_feed_34 rfl ?_
      refine g_callV (c_addWord2 hP (tq := tp + 12) (by omega) (by omega)) okX6_addWord lkX11_327 rfl (by first | rfl | exact pv_shx) rfl (by omega) (by omega) dX11_feed_35 rfl (Nat.le_of_ble_eq_true rfl) (⟨by decide, by decide, by decide, by decide⟩) ?_
      rintro v nx' I' J' P' ⟨rfl, rfl, rfl, rfl, rfl⟩
      refine g_aload_n dX11_feed_38 rfl ?_
      refine g_getP dX11_feed_39 fdX11_53 rfl (by first | rfl | exact pv_shx) (by omega) (by omega) (by decide) rfl (hP _ _ _ rfl) ?_
      refine g_iload dX11_feed_42 rfl ?_
      refine g_callV (c_addWord2 hP (tq := tp + 16) (by omega) (by omega)) okX6_addWord lkX11_327 rfl (by first | rfl | exact pv_shx) rfl (by omega) (by omega) dX11_feed_44 rfl (Nat.le_of_ble_eq_true rfl) (⟨by decide, by decide, by decide, by decide⟩) ?_
      rintro v nx' I' J' P' ⟨rfl, rfl, rfl, rfl, rfl⟩
      refine g_aload_n dX11_feed_47 rfl ?_
      refine g_getP dX11_feed_48 fdX11_53 rfl (by first | rfl | exact pv_shx) (by omega) (by omega) (by decide) rfl (hP _ _ _ rfl) ?_
      refine g_iload dX11_feed_51 rfl ?_
      refine g_callV (c_addWord2 hP (tq := tp + 20) (by omega) (by omega)) okX6_addWord lkX11_327 rfl (by first | rfl | exact pv_shx) rfl (by omega) (by omega) dX11_feed_53 rfl (Nat.le_of_ble_eq_true rfl) (⟨by decide, by decide, by decide, by decide⟩) ?_
      rintro v nx' I' J' P' ⟨rfl, rfl, rfl, rfl, rfl⟩
      refine g_aload_n dX11_feed_56 rfl ?_
      refine g_getP dX11_feed_57 fdX11_53 rfl (by first | rfl | exact pv_shx) (by omega) (by omega) (by decide) rfl (hP _ _ _ rfl) ?_
      refine n_getI dX11_feed_60 fdX11_330 rfl (by first | rfl | exact pv_shx) (by omega) (by omega) (by decide) rfl (by repeat (first | exact sp_ctp_tp | (apply rd_s; done) | apply rd_n (by omega) | apply rp_s | apply rp_n (by omega) | (apply rdL_s; done) | apply rdL_n (by omega) | apply rpJ_s | apply rpJ_n (by omega) | rfl)) ?_
      exact g_iret dX11_feed_63 rfl (⟨rfl, rfl, by rw [if_pos (by omega)]; exact ⟨rfl, rfl⟩, rfl⟩)
    rw [← hI] at h15
    exact h15
  · rw [if_neg hc] at hr
    refine pvMet.of _ (by decide) rfl (Nat.le_of_ble_eq_true rfl) ?_
    refine g_aload_n dX11_feed_0 rfl ?_
    refine g_getP dX11_feed_1 fdX11_53 rfl (by first | rfl | exact pv_shx) (by omega) (by omega) (by decide) rfl (hP _ _ _ rfl) ?_
    refine g_bipush (v := nI 20) dX11_feed_4 (by decide) ?_
    refine p_callV (hr) okX6_hasRoom lkX11_324 rfl (by first | rfl | exact pv_shx) rfl (by omega) (by omega) dX11_feed_6 rfl (Nat.le_of_ble_eq_true rfl) (⟨by decide, by decide, by decide, by decide⟩) ?_
    refine n_if_ne 14 dX11_feed_9 (by decide) (by first | (with_reducible exact cB _) | ((with_reducible apply cN_eq0) <;> omega) | exact Iff.rfl) (fun c9 => by exfalso; first | omega | exact absurd trivial c9 | exact c9 | (simp at c9)) (fun c9 => ?_)
    refine g_iconst (v := (-1)) dX11_feed_12 (by decide) ?_
    exact g_iret dX11_feed_13 rfl (⟨rfl, rfl, by rw [if_neg (by omega)]; exact ⟨rfl, rfl⟩, rfl⟩)
theorem c_end {I : pvI} {J : pvJ} {P : pvP} (hP : pvOkP P) {tp : Nat} (ht : I 144 1 = nI tp) (ht1 : tp ≤ 300) {n : Int32} : pvMet mX11_end 1 0 0 [.ref 1, .int n] 224 I J P (pvq P (fun v I' J' => (if 0 ≤ n.toInt ∧ n.toInt ≤ tp then v = some (.int n) ∧ I' = pvs I 144 (upd (I 144) 1 n) else v = some (.int (-1)) ∧ I' = I) ∧ J' = J)) := by
  have iw := c_within (nx := 224) (v := n) (lo := nI 0) (hi := nI tp) (L := 0) (H := tp) (I := I) (J := J) (P := P) (by decide) (nI_toInt (by omega))
  by_cases c : 0 ≤ n.toInt ∧ n.toInt ≤ tp
  · rw [if_pos c] at iw
    refine pvMet.of _ (by decide) rfl (Nat.le_of_ble_eq_true rfl) ?_
    refine g_iload_n dX11_end_0 rfl ?_
    refine g_iconst (v := nI 0) dX11_end_1 (by decide) ?_
    refine g_aload_n dX11_end_2 rfl ?_
    refine g_getP dX11_end_3 fdX11_53 rfl (by first | rfl | exact pv_shx) (by omega) (by omega) (by decide) rfl (hP _ _ _ rfl) ?_
    refine n_getI dX11_end_6 fdX11_330 rfl (by first | rfl | exact pv_shx) (by omega) (by omega) (by decide) rfl (by repeat (first | exact ht | (apply rd_s; done) | apply rd_n (by omega) | apply rp_s | apply rp_n (by omega) | (apply rdL_s; done) | apply rdL_n (by omega) | apply rpJ_s | apply rpJ_n (by omega) | rfl)) ?_
    refine p_callS (iw) okX11_within lkX11_85 rfl dX11_end_9 rfl (Nat.le_of_ble_eq_true rfl) (⟨by decide, by decide, by decide, by decide⟩) ?_
    refine n_if_ne 17 dX11_end_12 (by decide) (by first | (with_reducible exact cB _) | ((with_reducible apply cN_eq0) <;> omega) | exact Iff.rfl) (fun c12 => ?_) (fun c12 => by exfalso; first | omega | exact absurd trivial c12 | exact c12 | (simp at c12))
    refine g_aload_n dX11_end_17 rfl ?_
    refine g_getP dX11_end_18 fdX11_53 rfl (by first | rfl | exact pv_shx) (by omega) (by omega) (by decide) rfl (hP _ _ _ rfl) ?_
    refine g_iload_n dX11_end_21 rfl ?_
    refine n_putI dX11_end_22 fdX11_330 rfl (fun h => absurd h (by decide)) (by first | rfl | exact pv_shx) (by omega) (by omega) (by decide) rfl (by repeat (first | exact pvu_s | exact pvuJ_s | apply pvu_in (by omega) | apply pvuJ_in (by omega) | exact pvu_pvs | exact pvuJ_pvs)) ?_
    refine g_iload_n dX11_end_25 rfl ?_
    exact g_iret dX11_end_26 rfl (⟨rfl, rfl, by rw [if_pos c]; exact ⟨rfl, rfl⟩, rfl⟩)
  · rw [if_neg c] at iw
    refine pvMet.of _ (by decide) rfl (Nat.le_of_ble_eq_true rfl) ?_
    refine g_iload_n dX11_end_0 rfl ?_
    refine g_iconst (v := nI 0) dX11_end_1 (by decide) ?_
    refine g_aload_n dX11_end_2 rfl ?_
    refine g_getP dX11_end_3 fdX11_53 rfl (by first | rfl | exact pv_shx) (by omega) (by omega) (by decide) rfl (hP _ _ _ rfl) ?_
    refine n_getI dX11_end_6 fdX11_330 rfl (by first | rfl | exact pv_shx) (by omega) (by omega) (by decide) rfl (by repeat (first | exact ht | (apply rd_s; done) | apply rd_n (by omega) | apply rp_s | apply rp_n (by omega) | (apply rdL_s; done) | apply rdL_n (by omega) | apply rpJ_s | apply rpJ_n (by omega) | rfl)) ?_
    refine p_callS (iw) okX11_within lkX11_85 rfl dX11_end_9 rfl (Nat.le_of_ble_eq_true rfl) (⟨by decide, by decide, by decide, by decide⟩) ?_
    refine n_if_ne 17 dX11_end_12 (by decide) (by first | (with_reducible exact cB _) | ((with_reducible apply cN_eq0) <;> omega) | exact Iff.rfl) (fun c12 => by exfalso; first | omega | exact absurd trivial c12 | exact c12 | (simp at c12)) (fun c12 => ?_)
    refine g_iconst (v := (-1)) dX11_end_15 (by decide) ?_
    exact g_iret dX11_end_16 rfl (⟨rfl, rfl, by rw [if_neg c]; exact ⟨rfl, rfl⟩, rfl⟩)
theorem c_fault {I : pvI} {J : pvJ} {P : pvP} {n : Int32} (hP : pvOkP P) : pvMet mX11_fault 0 0 0 [.ref 1, .int n] 224 I J P (pvpu (.int (if n = 0 then I 144 2 else if n = nI 1 then I 144 3 else -1)) 224 I J P) := by
  by_cases c : n = 0
  · rw [if_pos c]
    refine pvMet.of _ (by decide) rfl (Nat.le_of_ble_eq_true rfl) ?_
    refine g_iload_n dX11_fault_0 rfl ?_
    refine n_if_ne 12 dX11_fault_1 (by decide) (Iff.rfl) (fun c1 => by exfalso; exact c1 c) (fun c1 => ?_)
    refine g_aload_n dX11_fault_4 rfl ?_
    refine g_getP dX11_fault_5 fdX11_53 rfl (by first | rfl | exact pv_shx) (by omega) (by omega) (by decide) rfl (hP _ _ _ rfl) ?_
    refine n_getI dX11_fault_8 fdX11_346 rfl (by first | rfl | exact pv_shx) (by omega) (by omega) (by decide) rfl (by repeat (first | (apply rd_s; done) | apply rd_n (by omega) | apply rp_s | apply rp_n (by omega) | (apply rdL_s; done) | apply rdL_n (by omega) | apply rpJ_s | apply rpJ_n (by omega) | rfl)) ?_
    exact g_iret dX11_fault_11 rfl (⟨rfl, rfl, rfl, rfl, rfl⟩)
  · rw [if_neg c]
    by_cases c2 : n = nI 1
    · rw [if_pos c2]
      refine pvMet.of _ (by decide) rfl (Nat.le_of_ble_eq_true rfl) ?_
      refine g_iload_n dX11_fault_0 rfl ?_
      refine n_if_ne 12 dX11_fault_1 (by decide) (Iff.rfl) (fun c1 => ?_) (fun c1 => by exfalso; exact c c1)
      refine g_iload_n dX11_fault_12 rfl ?_
      refine g_iconst (v := nI 1) dX11_fault_13 (by decide) ?_
      refine n_icmp_ne 27 dX11_fault_14 (by decide) (Iff.rfl) (fun c14 => by exfalso; exact c14 c2) (fun c14 => ?_)
      refine g_aload_n dX11_fault_17 rfl ?_
      refine g_getP dX11_fault_18 fdX11_53 rfl (by first | rfl | exact pv_shx) (by omega) (by omega) (by decide) rfl (hP _ _ _ rfl) ?_
      refine n_getI dX11_fault_21 fdX11_349 rfl (by first | rfl | exact pv_shx) (by omega) (by omega) (by decide) rfl (by repeat (first | (apply rd_s; done) | apply rd_n (by omega) | apply rp_s | apply rp_n (by omega) | (apply rdL_s; done) | apply rdL_n (by omega) | apply rpJ_s | apply rpJ_n (by omega) | rfl)) ?_
      refine g_goto 28 dX11_fault_24 (by decide) ?_
      exact g_iret dX11_fault_28 rfl (⟨rfl, rfl, rfl, rfl, rfl⟩)
    · rw [if_neg c2]
      refine pvMet.of _ (by decide) rfl (Nat.le_of_ble_eq_true rfl) ?_
      refine g_iload_n dX11_fault_0 rfl ?_
      refine n_if_ne 12 dX11_fault_1 (by decide) (Iff.rfl) (fun c1 => ?_) (fun c1 => by exfalso; exact c c1)
      refine g_iload_n dX11_fault_12 rfl ?_
      refine g_iconst (v := nI 1) dX11_fault_13 (by decide) ?_
      refine n_icmp_ne 27 dX11_fault_14 (by decide) (Iff.rfl) (fun c14 => ?_) (fun c14 => by exfalso; exact c2 c14)
      refine g_iconst (v := (-1)) dX11_fault_27 (by decide) ?_
      exact g_iret dX11_fault_28 rfl (⟨rfl, rfl, rfl, rfl, rfl⟩)
