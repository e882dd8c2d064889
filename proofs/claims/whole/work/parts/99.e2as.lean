/-! class: best: the trial stands as a fire -/
section STA2
variable {I : pvI} {J : pvJ} {P : pvP} {F k : Nat} {r : fS}
def asQ (F k : Nat) (r : fS) (I : pvI) (J : pvJ) (P : pvP) : pvQT := pvq P (fun v I' J' => v = none ∧ I' 138 0 = I F 0 ∧ I' 138 1 = I F 1 ∧ I' 138 2 = I 138 2 ∧ I' 138 4 = nI k ∧ I' 138 5 = nI (k + 1) ∧ J' 138 3 = J 138 3 ∧ fCu 138 0 r I' J' ∧ J' 141 k = mk (mB r) ∧ J' 142 k = mk (mT r) ∧ ∀ x, (x < 138 ∨ 143 < x) → I' x = I x ∧ J' x = J x)
theorem f_standAs (hP : pvOkP P) (hA : fAd F) (hF : F < 138) (hF5 : F + 5 < 138) (hk : k ≤ 99) (h4 : I F 4 = nI k) (hc : fCu F 0 r I J) : pvMet mX1_standAs 2 0 0 [.ref 138, .ref F] 224 I J P (asQ F k r I J P) := by
  obtain ⟨⟨s0, s1, s2, s3, s4, s5⟩, h90, h138⟩ := hA.sh
  obtain ⟨p10, p11, p12, p13, p14⟩ := hA.pp hP
  obtain ⟨c1, c2, c3, c4, c5, wm, c6, c7⟩ := hc
  have A8 : fAd 138 := fad_ok (s := 8) (by decide)
  have key : ∀ I1 J1, I1 138 4 = nI k → I1 138 5 = nI 0 → pvMet mX1_note 1 0 0 [.ref 138] 224 I1 J1 P (pvq P (fun v I' J' => v = none ∧ I' = pvs I1 138 (upd (I1 138) 5 (nI (max 0 (k + 1)))) ∧ J' (138 + 3) = vp_updL (J1 (138 + 3)) k (J1 138 6) ∧ J' (138 + 4) = vp_updL (J1 (138 + 4)) k (J1 138 7) ∧ mfJ J1 J' [138 + 3, 138 + 4])) := fun I1 J1 z1 z2 => f_note hP A8 z1 hk z2 (by omega)
  have hge : ¬ (nI k < (0 : Int32)) := fun z => by
    have := Int32.lt_iff_toInt_lt.mp z
    rw [nI_toInt (by omega)] at this
    have e : ((0 : Int32)).toInt = 0 := rfl
    omega
  refine pvMet.of _ (by decide) rfl (Nat.le_of_ble_eq_true rfl) ?_
  refine g_aload_n dX1_standAs_0 rfl ?_
  refine g_aload_n dX1_standAs_1 rfl ?_
  refine n_getI dX1_standAs_2 fdX1_35 rfl (s0) (by omega) (by omega) (by decide) rfl (by repeat (first | exact h4 | exact c1 | exact c2 | exact c3 | exact c6 | (apply rd_s; done) | apply rd_n (by omega) | apply rp_s | apply rp_n (by omega) | (apply rdL_s; done) | apply rdL_n (by omega) | apply rpJ_s | apply rpJ_n (by omega) | rfl)) ?_
  refine n_putI dX1_standAs_5 fdX1_35 rfl (fun h => absurd h (by decide)) (by first | rfl | exact pv_shx) (by omega) (by omega) (by decide) rfl (by repeat (first | exact pvu_s | exact pvuJ_s | apply pvu_in (by omega) | apply pvuJ_in (by omega) | exact pvu_pvs | exact pvuJ_pvs)) ?_
  refine g_aload_n dX1_standAs_8 rfl ?_
  refine g_aload_n dX1_standAs_9 rfl ?_
  refine n_getI dX1_standAs_10 fdX1_38 rfl (s0) (by omega) (by omega) (by decide) rfl (by repeat (first | exact h4 | exact c1 | exact c2 | exact c3 | exact c6 | (apply rd_s; done) | apply rd_n (by omega) | apply rp_s | apply rp_n (by omega) | (apply rdL_s; done) | apply rdL_n (by omega) | apply rpJ_s | apply rpJ_n (by omega) | rfl)) ?_
  refine n_putI dX1_standAs_13 fdX1_38 rfl (fun h => absurd h (by decide)) (by first | rfl | exact pv_shx) (by omega) (by omega) (by decide) rfl (by repeat (first | exact pvu_s | exact pvuJ_s | apply pvu_in (by omega) | apply pvuJ_in (by omega) | exact pvu_pvs | exact pvuJ_pvs)) ?_
  refine g_aload_n dX1_standAs_16 rfl ?_
  refine g_aload_n dX1_standAs_17 rfl ?_
  refine n_getI dX1_standAs_18 fdX1_15 rfl (s0) (by omega) (by omega) (by decide) rfl (by repeat (first | exact h4 | exact c1 | exact c2 | exact c3 | exact c6 | (apply rd_s; done) | apply rd_n (by omega) | apply rp_s | apply rp_n (by omega) | (apply rdL_s; done) | apply rdL_n (by omega) | apply rpJ_s | apply rpJ_n (by omega) | rfl)) ?_
  refine n_putI dX1_standAs_21 fdX1_15 rfl (fun h => absurd h (by decide)) (by first | rfl | exact pv_shx) (by omega) (by omega) (by decide) rfl (by repeat (first | exact pvu_s | exact pvuJ_s | apply pvu_in (by omega) | apply pvuJ_in (by omega) | exact pvu_pvs | exact pvuJ_pvs)) ?_
  refine g_aload_n dX1_standAs_24 rfl ?_
  refine g_iconst (v := nI 0) dX1_standAs_25 (by decide) ?_
  refine n_putI dX1_standAs_26 fdX1_45 rfl (fun h => absurd h (by decide)) (by first | rfl | exact pv_shx) (by omega) (by omega) (by decide) rfl (by repeat (first | exact pvu_s | exact pvuJ_s | apply pvu_in (by omega) | apply pvuJ_in (by omega) | exact pvu_pvs | exact pvuJ_pvs)) ?_
  refine g_aload_n dX1_standAs_29 rfl ?_
  refine g_aload_n dX1_standAs_30 rfl ?_
  refine n_getJ dX1_standAs_31 fdX1_54 rfl (s0) (by omega) (by omega) (by decide) rfl (by repeat (first | exact h4 | exact c1 | exact c2 | exact c3 | exact c6 | (apply rd_s; done) | apply rd_n (by omega) | apply rp_s | apply rp_n (by omega) | (apply rdL_s; done) | apply rdL_n (by omega) | apply rpJ_s | apply rpJ_n (by omega) | rfl)) ?_
  refine n_putJ dX1_standAs_34 fdX1_54 rfl (fun h => absurd h (by decide)) (by first | rfl | exact pv_shx) (by omega) (by omega) (by decide) rfl (by repeat (first | exact pvu_s | exact pvuJ_s | apply pvu_in (by omega) | apply pvuJ_in (by omega) | exact pvu_pvs | exact pvuJ_pvs)) ?_
  refine g_aload_n dX1_standAs_37 rfl ?_
  refine g_aload_n dX1_standAs_38 rfl ?_
  refine n_getJ dX1_standAs_39 fdX1_58 rfl (s0) (by omega) (by omega) (by decide) rfl (by repeat (first | exact h4 | exact c1 | exact c2 | exact c3 | exact c6 | (apply rd_s; done) | apply rd_n (by omega) | apply rp_s | apply rp_n (by omega) | (apply rdL_s; done) | apply rdL_n (by omega) | apply rpJ_s | apply rpJ_n (by omega) | rfl)) ?_
  refine n_putJ dX1_standAs_42 fdX1_58 rfl (fun h => absurd h (by decide)) (by first | rfl | exact pv_shx) (by omega) (by omega) (by decide) rfl (by repeat (first | exact pvu_s | exact pvuJ_s | apply pvu_in (by omega) | apply pvuJ_in (by omega) | exact pvu_pvs | exact pvuJ_pvs)) ?_
  refine g_aload_n dX1_standAs_45 rfl ?_
  refine g_aload_n dX1_standAs_46 rfl ?_
  refine n_getJ dX1_standAs_47 fdX1_61 rfl (s0) (by omega) (by omega) (by decide) rfl (by repeat (first | exact h4 | exact c1 | exact c2 | exact c3 | exact c6 | (apply rd_s; done) | apply rd_n (by omega) | apply rp_s | apply rp_n (by omega) | (apply rdL_s; done) | apply rdL_n (by omega) | apply rpJ_s | apply rpJ_n (by omega) | rfl)) ?_
  refine n_putJ dX1_standAs_50 fdX1_61 rfl (fun h => absurd h (by decide)) (by first | rfl | exact pv_shx) (by omega) (by omega) (by decide) rfl (by repeat (first | exact pvu_s | exact pvuJ_s | apply pvu_in (by omega) | apply pvuJ_in (by omega) | exact pvu_pvs | exact pvuJ_pvs)) ?_
  refine g_aload_n dX1_standAs_53 rfl ?_
  refine g_aload_n dX1_standAs_54 rfl ?_
  refine n_getJ dX1_standAs_55 fdX1_64 rfl (s0) (by omega) (by omega) (by decide) rfl (by repeat (first | exact h4 | exact c1 | exact c2 | exact c3 | exact c6 | (apply rd_s; done) | apply rd_n (by omega) | apply rp_s | apply rp_n (by omega) | (apply rdL_s; done) | apply rdL_n (by omega) | apply rpJ_s | apply rpJ_n (by omega) | rfl)) ?_
  refine n_putJ dX1_standAs_58 fdX1_64 rfl (fun h => absurd h (by decide)) (by first | rfl | exact pv_shx) (by omega) (by omega) (by decide) rfl (by repeat (first | exact pvu_s | exact pvuJ_s | apply pvu_in (by omega) | apply pvuJ_in (by omega) | exact pvu_pvs | exact pvuJ_pvs)) ?_
  refine g_aload_n dX1_standAs_61 rfl ?_
  refine g_getP dX1_standAs_62 fdX1_18 rfl (s0) (by omega) (by omega) (by decide) rfl (p10) ?_
  refine g_iconst (v := nI 0) dX1_standAs_65 (by decide) ?_
  refine g_aload_n dX1_standAs_66 rfl ?_
  refine g_getP dX1_standAs_67 fdX1_18 rfl (by first | rfl | exact pv_shx) (by omega) (by omega) (by decide) rfl (hP _ _ _ rfl) ?_
  refine g_iconst (v := nI 0) dX1_standAs_70 (by decide) ?_
  refine g_bipush (v := nI 64) dX1_standAs_71 (by decide) ?_
  refine g_copyI (R0 := 0) dX1_standAs_73 acX1_67 acN acS acI (s1) (rfl) (by omega) (by omega) (by omega) (by omega) (by omega) (by decide) (by decide) (by decide) (Nat.le_of_ble_eq_true rfl) ?_
  refine g_aload_n dX1_standAs_76 rfl ?_
  refine g_getP dX1_standAs_77 fdX1_22 rfl (s0) (by omega) (by omega) (by decide) rfl (p11) ?_
  refine g_iconst (v := nI 0) dX1_standAs_80 (by decide) ?_
  refine g_aload_n dX1_standAs_81 rfl ?_
  refine g_getP dX1_standAs_82 fdX1_22 rfl (by first | rfl | exact pv_shx) (by omega) (by omega) (by decide) rfl (hP _ _ _ rfl) ?_
  refine g_iconst (v := nI 0) dX1_standAs_85 (by decide) ?_
  refine g_bipush (v := nI 64) dX1_standAs_86 (by decide) ?_
  refine g_copyI (R0 := 0) dX1_standAs_88 acX1_67 acN acS acI (s2) (rfl) (by omega) (by omega) (by omega) (by omega) (by omega) (by decide) (by decide) (by decide) (Nat.le_of_ble_eq_true rfl) ?_
  refine g_aload_n dX1_standAs_91 rfl ?_
  refine n_getI dX1_standAs_92 fdX1_15 rfl (by first | rfl | exact pv_shx) (by omega) (by omega) (by decide) rfl (by repeat (first | exact h4 | exact c1 | exact c2 | exact c3 | exact c6 | (apply rd_s; done) | apply rd_n (by omega) | apply rp_s | apply rp_n (by omega) | (apply rdL_s; done) | apply rdL_n (by omega) | apply rpJ_s | apply rpJ_n (by omega) | rfl)) ?_
  refine n_if_lt 102 dX1_standAs_95 (by decide) (by first | ((with_reducible apply cN_lt0) <;> omega) | (with_reducible exact cI_lt0)) (fun c95 => by exfalso; first | omega | exact absurd trivial c95 | exact c95 | (simp at c95)) (fun c95 => ?_)
  refine g_aload_n dX1_standAs_98 rfl ?_
  refine g_callV ((key _ _ (by simp [pvs, upd]) (by simp [pvs, upd]))) okX1_note lkX1_73 rfl (by first | rfl | exact pv_shx) rfl (by omega) (by omega) dX1_standAs_99 rfl (Nat.le_of_ble_eq_true rfl) (⟨by decide, by decide, by decide, by decide⟩) ?_
  rintro v nx' I2 J2 P' ⟨rfl, rfl, rfl, rfl, q1, q2, q3⟩
  exact g_vret dX1_standAs_102 rfl (⟨rfl, rfl, rfl, by simp [pvs, upd], by simp [pvs, upd], by simp [pvs, upd], by simp [pvs, upd], by simp [pvs, upd], by rw [q3 138 (by simp)]; simp [pvsJ, vp_updL], ⟨by rw [q3 138 (by simp)]; simp [pvsJ, vp_updL], by rw [q3 138 (by simp)]; simp [pvsJ, vp_updL], by rw [q3 138 (by simp)]; simp [pvsJ, vp_updL], fun c hc => by simp [pvs]; rw [cpy_at hc]; rw [if_neg (by omega)]; exact c4 c hc, fun c hc => by simp [pvs]; rw [cpy_at hc]; rw [if_neg (by omega), if_neg (by omega)]; exact c5 c hc, wm, by rw [q3 138 (by simp)]; simp [pvsJ, vp_updL], c7⟩, by rw [show (141 : Nat) = 138 + 3 from rfl, q1]; simp [pvsJ, vp_updL], by rw [show (142 : Nat) = 138 + 4 from rfl, q2]; simp [pvsJ, vp_updL], fun x hx => ⟨by repeat (rw [pvs_ne (by omega)]), by rw [q3 x (by simp; omega)]; repeat (rw [pvsJ_ne (by omega)])⟩⟩)
end STA2
