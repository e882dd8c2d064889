/-! class: an image is taken: ground -/
section TAK
variable {w h : Nat} {a : Nat → Int32} {I : pvI} {J : pvJ} {P : pvP}
/-- only the cells from lo to hi are changed -/
def tkO (lo hi : Nat) (I : pvI) (J : pvJ) (I' : pvI) (J' : pvJ) : Prop := ∀ x, (x < lo ∨ hi < x) → I' x = I x ∧ J' x = J x
theorem c_takeG46 (hP : pvOkP P) (hr : rGro w h 3 a I J) : pvMet mX3_take 1 0 0 [.ref 47, .ref 4] 224 I J P (pvq P (fun v I' J' => v = none ∧ rGro w h 46 a I' J' ∧ tkO 47 51 I J I' J')) := by
  obtain ⟨x1, x2, x3, x4, x5, x6, x7, x8, x9, x10⟩ := hr
  refine pvMet.of _ (by decide) rfl (Nat.le_of_ble_eq_true rfl) ?_
  refine g_aload_n dX3_take_0 rfl ?_
  refine g_getP dX3_take_1 fdX3_9 rfl (by first | rfl | exact pv_shx) (by omega) (by omega) (by decide) rfl (hP _ _ _ rfl) ?_
  refine g_iconst (v := nI 0) dX3_take_4 (by decide) ?_
  refine g_aload_n dX3_take_5 rfl ?_
  refine g_getP dX3_take_6 fdX3_9 rfl (by first | rfl | exact pv_shx) (by omega) (by omega) (by decide) rfl (hP _ _ _ rfl) ?_
  refine g_iconst (v := nI 0) dX3_take_9 (by decide) ?_
  refine g_bipush (v := nI 64) dX3_take_10 (by decide) ?_
  refine g_copyI (R0 := 0) dX3_take_12 acX3_39 acN acS acI (rfl) (rfl) (by omega) (by omega) (by omega) (by omega) (by omega) (by decide) (by decide) (by decide) (Nat.le_of_ble_eq_true rfl) ?_
  refine g_aload_n dX3_take_15 rfl ?_
  refine g_getP dX3_take_16 fdX3_15 rfl (by first | rfl | exact pv_shx) (by omega) (by omega) (by decide) rfl (hP _ _ _ rfl) ?_
  refine g_iconst (v := nI 0) dX3_take_19 (by decide) ?_
  refine g_aload_n dX3_take_20 rfl ?_
  refine g_getP dX3_take_21 fdX3_15 rfl (by first | rfl | exact pv_shx) (by omega) (by omega) (by decide) rfl (hP _ _ _ rfl) ?_
  refine g_iconst (v := nI 0) dX3_take_24 (by decide) ?_
  refine g_bipush (v := nI 64) dX3_take_25 (by decide) ?_
  refine g_copyI (R0 := 0) dX3_take_27 acX3_39 acN acS acI (rfl) (rfl) (by omega) (by omega) (by omega) (by omega) (by omega) (by decide) (by decide) (by decide) (Nat.le_of_ble_eq_true rfl) ?_
  refine g_aload_n dX3_take_30 rfl ?_
  refine g_getP dX3_take_31 fdX3_18 rfl (by first | rfl | exact pv_shx) (by omega) (by omega) (by decide) rfl (hP _ _ _ rfl) ?_
  refine g_iconst (v := nI 0) dX3_take_34 (by decide) ?_
  refine g_aload_n dX3_take_35 rfl ?_
  refine g_getP dX3_take_36 fdX3_18 rfl (by first | rfl | exact pv_shx) (by omega) (by omega) (by decide) rfl (hP _ _ _ rfl) ?_
  refine g_iconst (v := nI 0) dX3_take_39 (by decide) ?_
  refine g_bipush (v := nI 64) dX3_take_40 (by decide) ?_
  refine g_copyI (R0 := 0) dX3_take_42 acX3_39 acN acS acI (rfl) (rfl) (by omega) (by omega) (by omega) (by omega) (by omega) (by decide) (by decide) (by decide) (Nat.le_of_ble_eq_true rfl) ?_
  refine g_aload_n dX3_take_45 rfl ?_
  refine g_getP dX3_take_46 fdX3_21 rfl (by first | rfl | exact pv_shx) (by omega) (by omega) (by decide) rfl (hP _ _ _ rfl) ?_
  refine g_iconst (v := nI 0) dX3_take_49 (by decide) ?_
  refine g_aload_n dX3_take_50 rfl ?_
  refine g_getP dX3_take_51 fdX3_21 rfl (by first | rfl | exact pv_shx) (by omega) (by omega) (by decide) rfl (hP _ _ _ rfl) ?_
  refine g_iconst (v := nI 0) dX3_take_54 (by decide) ?_
  refine g_bipush (v := nI 100) dX3_take_55 (by decide) ?_
  refine g_copyJ (R0 := 0) dX3_take_57 acX3_39 acN acS acI (rfl) (rfl) (by omega) (by omega) (by omega) (by omega) (by omega) (by decide) (by decide) (by decide) (Nat.le_of_ble_eq_true rfl) ?_
  refine g_aload_n dX3_take_60 rfl ?_
  refine g_aload_n dX3_take_61 rfl ?_
  refine n_getJ dX3_take_62 fdX3_45 rfl (by first | rfl | exact pv_shx) (by omega) (by omega) (by decide) rfl (by repeat (first | (apply rd_s; done) | apply rd_n (by omega) | apply rp_s | apply rp_n (by omega) | (apply rdL_s; done) | apply rdL_n (by omega) | apply rpJ_s | apply rpJ_n (by omega) | rfl)) ?_
  refine n_putJ dX3_take_65 fdX3_45 rfl (fun h => absurd h (by decide)) (by first | rfl | exact pv_shx) (by omega) (by omega) (by decide) rfl (by repeat (first | exact pvu_s | exact pvuJ_s | apply pvu_in (by omega) | apply pvuJ_in (by omega) | exact pvu_pvs | exact pvuJ_pvs)) ?_
  refine g_aload_n dX3_take_68 rfl ?_
  refine g_aload_n dX3_take_69 rfl ?_
  refine n_getJ dX3_take_70 fdX3_49 rfl (by first | rfl | exact pv_shx) (by omega) (by omega) (by decide) rfl (by repeat (first | (apply rd_s; done) | apply rd_n (by omega) | apply rp_s | apply rp_n (by omega) | (apply rdL_s; done) | apply rdL_n (by omega) | apply rpJ_s | apply rpJ_n (by omega) | rfl)) ?_
  refine n_putJ dX3_take_73 fdX3_49 rfl (fun h => absurd h (by decide)) (by first | rfl | exact pv_shx) (by omega) (by omega) (by decide) rfl (by repeat (first | exact pvu_s | exact pvuJ_s | apply pvu_in (by omega) | apply pvuJ_in (by omega) | exact pvu_pvs | exact pvuJ_pvs)) ?_
  refine g_aload_n dX3_take_76 rfl ?_
  refine g_aload_n dX3_take_77 rfl ?_
  refine n_getI dX3_take_78 fdX3_52 rfl (by first | rfl | exact pv_shx) (by omega) (by omega) (by decide) rfl (by repeat (first | (apply rd_s; done) | apply rd_n (by omega) | apply rp_s | apply rp_n (by omega) | (apply rdL_s; done) | apply rdL_n (by omega) | apply rpJ_s | apply rpJ_n (by omega) | rfl)) ?_
  refine n_putI dX3_take_81 fdX3_52 rfl (fun h => absurd h (by decide)) (by first | rfl | exact pv_shx) (by omega) (by omega) (by decide) rfl (by repeat (first | exact pvu_s | exact pvuJ_s | apply pvu_in (by omega) | apply pvuJ_in (by omega) | exact pvu_pvs | exact pvuJ_pvs)) ?_
  refine g_aload_n dX3_take_84 rfl ?_
  refine g_aload_n dX3_take_85 rfl ?_
  refine n_getI dX3_take_86 fdX3_25 rfl (by first | rfl | exact pv_shx) (by omega) (by omega) (by decide) rfl (by repeat (first | (apply rd_s; done) | apply rd_n (by omega) | apply rp_s | apply rp_n (by omega) | (apply rdL_s; done) | apply rdL_n (by omega) | apply rpJ_s | apply rpJ_n (by omega) | rfl)) ?_
  refine n_putI dX3_take_89 fdX3_25 rfl (fun h => absurd h (by decide)) (by first | rfl | exact pv_shx) (by omega) (by omega) (by decide) rfl (by repeat (first | exact pvu_s | exact pvuJ_s | apply pvu_in (by omega) | apply pvuJ_in (by omega) | exact pvu_pvs | exact pvuJ_pvs)) ?_
  refine g_aload_n dX3_take_92 rfl ?_
  refine g_aload_n dX3_take_93 rfl ?_
  refine n_getI dX3_take_94 fdX3_29 rfl (by first | rfl | exact pv_shx) (by omega) (by omega) (by decide) rfl (by repeat (first | (apply rd_s; done) | apply rd_n (by omega) | apply rp_s | apply rp_n (by omega) | (apply rdL_s; done) | apply rdL_n (by omega) | apply rpJ_s | apply rpJ_n (by omega) | rfl)) ?_
  refine n_putI dX3_take_97 fdX3_29 rfl (fun h => absurd h (by decide)) (by first | rfl | exact pv_shx) (by omega) (by omega) (by decide) rfl (by repeat (first | exact pvu_s | exact pvuJ_s | apply pvu_in (by omega) | apply pvuJ_in (by omega) | exact pvu_pvs | exact pvuJ_pvs)) ?_
  refine g_aload_n dX3_take_100 rfl ?_
  refine g_aload_n dX3_take_101 rfl ?_
  refine n_getI dX3_take_102 fdX3_32 rfl (by first | rfl | exact pv_shx) (by omega) (by omega) (by decide) rfl (by repeat (first | (apply rd_s; done) | apply rd_n (by omega) | apply rp_s | apply rp_n (by omega) | (apply rdL_s; done) | apply rdL_n (by omega) | apply rpJ_s | apply rpJ_n (by omega) | rfl)) ?_
  refine n_putI dX3_take_105 fdX3_32 rfl (fun h => absurd h (by decide)) (by first | rfl | exact pv_shx) (by omega) (by omega) (by decide) rfl (by repeat (first | exact pvu_s | exact pvuJ_s | apply pvu_in (by omega) | apply pvuJ_in (by omega) | exact pvu_pvs | exact pvuJ_pvs)) ?_
  exact g_vret dX3_take_108 rfl (⟨rfl, rfl, rfl, ⟨fun c hc => by simp [pvs]; rw [cpy_at hc]; exact x1 c hc, fun c hc => by simp [pvs]; rw [cpy_at hc]; exact x2 c hc, fun c hc => by simp [pvs]; rw [cpy_at hc]; exact x3 c hc, fun m hm => by simp [pvsJ]; rw [cpy_at hm]; exact x4 m hm, by simp [pvsJ, vp_updL]; exact x5, by simp [pvsJ, vp_updL]; exact x6, by simp [pvs, upd]; exact x7, by simp [pvs, upd]; exact x8, by simp [pvs, upd]; exact x9, by simp [pvs, upd]; exact x10⟩, fun x hx => ⟨by repeat (rw [pvs_ne (by omega)]), by repeat (rw [pvsJ_ne (by omega)])⟩⟩)
theorem c_takeG3 (hP : pvOkP P) (hr : rGro w h 46 a I J) : pvMet mX3_take 1 0 0 [.ref 4, .ref 47] 224 I J P (pvq P (fun v I' J' => v = none ∧ rGro w h 3 a I' J' ∧ tkO 4 8 I J I' J')) := by
  obtain ⟨x1, x2, x3, x4, x5, x6, x7, x8, x9, x10⟩ := hr
  refine pvMet.of _ (by decide) rfl (Nat.le_of_ble_eq_true rfl) ?_
  refine g_aload_n dX3_take_0 rfl ?_
  refine g_getP dX3_take_1 fdX3_9 rfl (by first | rfl | exact pv_shx) (by omega) (by omega) (by decide) rfl (hP _ _ _ rfl) ?_
  refine g_iconst (v := nI 0) dX3_take_4 (by decide) ?_
  refine g_aload_n dX3_take_5 rfl ?_
  refine g_getP dX3_take_6 fdX3_9 rfl (by first | rfl | exact pv_shx) (by omega) (by omega) (by decide) rfl (hP _ _ _ rfl) ?_
  refine g_iconst (v := nI 0) dX3_take_9 (by decide) ?_
  refine g_bipush (v := nI 64) dX3_take_10 (by decide) ?_
  refine g_copyI (R0 := 0) dX3_take_12 acX3_39 acN acS acI (rfl) (rfl) (by omega) (by omega) (by omega) (by omega) (by omega) (by decide) (by decide) (by decide) (Nat.le_of_ble_eq_true rfl) ?_
  refine g_aload_n dX3_take_15 rfl ?_
  refine g_getP dX3_take_16 fdX3_15 rfl (by first | rfl | exact pv_shx) (by omega) (by omega) (by decide) rfl (hP _ _ _ rfl) ?_
  refine g_iconst (v := nI 0) dX3_take_19 (by decide) ?_
  refine g_aload_n dX3_take_20 rfl ?_
  refine g_getP dX3_take_21 fdX3_15 rfl (by first | rfl | exact pv_shx) (by omega) (by omega) (by decide) rfl (hP _ _ _ rfl) ?_
  refine g_iconst (v := nI 0) dX3_take_24 (by decide) ?_
  refine g_bipush (v := nI 64) dX3_take_25 (by decide) ?_
  refine g_copyI (R0 := 0) dX3_take_27 acX3_39 acN acS acI (rfl) (rfl) (by omega) (by omega) (by omega) (by omega) (by omega) (by decide) (by decide) (by decide) (Nat.le_of_ble_eq_true rfl) ?_
  refine g_aload_n dX3_take_30 rfl ?_
  refine g_getP dX3_take_31 fdX3_18 rfl (by first | rfl | exact pv_shx) (by omega) (by omega) (by decide) rfl (hP _ _ _ rfl) ?_
  refine g_iconst (v := nI 0) dX3_take_34 (by decide) ?_
  refine g_aload_n dX3_take_35 rfl ?_
  refine g_getP dX3_take_36 fdX3_18 rfl (by first | rfl | exact pv_shx) (by omega) (by omega) (by decide) rfl (hP _ _ _ rfl) ?_
  refine g_iconst (v := nI 0) dX3_take_39 (by decide) ?_
  refine g_bipush (v := nI 64) dX3_take_40 (by decide) ?_
  refine g_copyI (R0 := 0) dX3_take_42 acX3_39 acN acS acI (rfl) (rfl) (by omega) (by omega) (by omega) (by omega) (by omega) (by decide) (by decide) (by decide) (Nat.le_of_ble_eq_true rfl) ?_
  refine g_aload_n dX3_take_45 rfl ?_
  refine g_getP dX3_take_46 fdX3_21 rfl (by first | rfl | exact pv_shx) (by omega) (by omega) (by decide) rfl (hP _ _ _ rfl) ?_
  refine g_iconst (v := nI 0) dX3_take_49 (by decide) ?_
  refine g_aload_n dX3_take_50 rfl ?_
  refine g_getP dX3_take_51 fdX3_21 rfl (by first | rfl | exact pv_shx) (by omega) (by omega) (by decide) rfl (hP _ _ _ rfl) ?_
  refine g_iconst (v := nI 0) dX3_take_54 (by decide) ?_
  refine g_bipush (v := nI 100) dX3_take_55 (by decide) ?_
  refine g_copyJ (R0 := 0) dX3_take_57 acX3_39 acN acS acI (rfl) (rfl) (by omega) (by omega) (by omega) (by omega) (by omega) (by decide) (by decide) (by decide) (Nat.le_of_ble_eq_true rfl) ?_
  refine g_aload_n dX3_take_60 rfl ?_
  refine g_aload_n dX3_take_61 rfl ?_
  refine n_getJ dX3_take_62 fdX3_45 rfl (by first | rfl | exact pv_shx) (by omega) (by omega) (by decide) rfl (by repeat (first | (apply rd_s; done) | apply rd_n (by omega) | apply rp_s | apply rp_n (by omega) | (apply rdL_s; done) | apply rdL_n (by omega) | apply rpJ_s | apply rpJ_n (by omega) | rfl)) ?_
  refine n_putJ dX3_take_65 fdX3_45 rfl (fun h => absurd h (by decide)) (by first | rfl | exact pv_shx) (by omega) (by omega) (by decide) rfl (by repeat (first | exact pvu_s | exact pvuJ_s | apply pvu_in (by omega) | apply pvuJ_in (by omega) | exact pvu_pvs | exact pvuJ_pvs)) ?_
  refine g_aload_n dX3_take_68 rfl ?_
  refine g_aload_n dX3_take_69 rfl ?_
  refine n_getJ dX3_take_70 fdX3_49 rfl (by first | rfl | exact pv_shx) (by omega) (by omega) (by decide) rfl (by repeat (first | (apply rd_s; done) | apply rd_n (by omega) | apply rp_s | apply rp_n (by omega) | (apply rdL_s; done) | apply rdL_n (by omega) | apply rpJ_s | apply rpJ_n (by omega) | rfl)) ?_
  refine n_putJ dX3_take_73 fdX3_49 rfl (fun h => absurd h (by decide)) (by first | rfl | exact pv_shx) (by omega) (by omega) (by decide) rfl (by repeat (first | exact pvu_s | exact pvuJ_s | apply pvu_in (by omega) | apply pvuJ_in (by omega) | exact pvu_pvs | exact pvuJ_pvs)) ?_
  refine g_aload_n dX3_take_76 rfl ?_
  refine g_aload_n dX3_take_77 rfl ?_
  refine n_getI dX3_take_78 fdX3_52 rfl (by first | rfl | exact pv_shx) (by omega) (by omega) (by decide) rfl (by repeat (first | (apply rd_s; done) | apply rd_n (by omega) | apply rp_s | apply rp_n (by omega) | (apply rdL_s; done) | apply rdL_n (by omega) | apply rpJ_s | apply rpJ_n (by omega) | rfl)) ?_
  refine n_putI dX3_take_81 fdX3_52 rfl (fun h => absurd h (by decide)) (by first | rfl | exact pv_shx) (by omega) (by omega) (by decide) rfl (by repeat (first | exact pvu_s | exact pvuJ_s | apply pvu_in (by omega) | apply pvuJ_in (by omega) | exact pvu_pvs | exact pvuJ_pvs)) ?_
  refine g_aload_n dX3_take_84 rfl ?_
  refine g_aload_n dX3_take_85 rfl ?_
  refine n_getI dX3_take_86 fdX3_25 rfl (by first | rfl | exact pv_shx) (by omega) (by omega) (by decide) rfl (by repeat (first | (apply rd_s; done) | apply rd_n (by omega) | apply rp_s | apply rp_n (by omega) | (apply rdL_s; done) | apply rdL_n (by omega) | apply rpJ_s | apply rpJ_n (by omega) | rfl)) ?_
  refine n_putI dX3_take_89 fdX3_25 rfl (fun h => absurd h (by decide)) (by first | rfl | exact pv_shx) (by omega) (by omega) (by decide) rfl (by repeat (first | exact pvu_s | exact pvuJ_s | apply pvu_in (by omega) | apply pvuJ_in (by omega) | exact pvu_pvs | exact pvuJ_pvs)) ?_
  refine g_aload_n dX3_take_92 rfl ?_
  refine g_aload_n dX3_take_93 rfl ?_
  refine n_getI dX3_take_94 fdX3_29 rfl (by first | rfl | exact pv_shx) (by omega) (by omega) (by decide) rfl (by repeat (first | (apply rd_s; done) | apply rd_n (by omega) | apply rp_s | apply rp_n (by omega) | (apply rdL_s; done) | apply rdL_n (by omega) | apply rpJ_s | apply rpJ_n (by omega) | rfl)) ?_
  refine n_putI dX3_take_97 fdX3_29 rfl (fun h => absurd h (by decide)) (by first | rfl | exact pv_shx) (by omega) (by omega) (by decide) rfl (by repeat (first | exact pvu_s | exact pvuJ_s | apply pvu_in (by omega) | apply pvuJ_in (by omega) | exact pvu_pvs | exact pvuJ_pvs)) ?_
  refine g_aload_n dX3_take_100 rfl ?_
  refine g_aload_n dX3_take_101 rfl ?_
  refine n_getI dX3_take_102 fdX3_32 rfl (by first | rfl | exact pv_shx) (by omega) (by omega) (by decide) rfl (by repeat (first | (apply rd_s; done) | apply rd_n (by omega) | apply rp_s | apply rp_n (by omega) | (apply rdL_s; done) | apply rdL_n (by omega) | apply rpJ_s | apply rpJ_n (by omega) | rfl)) ?_
  refine n_putI dX3_take_105 fdX3_32 rfl (fun h => absurd h (by decide)) (by first | rfl | exact pv_shx) (by omega) (by omega) (by decide) rfl (by repeat (first | exact pvu_s | exact pvuJ_s | apply pvu_in (by omega) | apply pvuJ_in (by omega) | exact pvu_pvs | exact pvuJ_pvs)) ?_
  exact g_vret dX3_take_108 rfl (⟨rfl, rfl, rfl, ⟨fun c hc => by simp [pvs]; rw [cpy_at hc]; exact x1 c hc, fun c hc => by simp [pvs]; rw [cpy_at hc]; exact x2 c hc, fun c hc => by simp [pvs]; rw [cpy_at hc]; exact x3 c hc, fun m hm => by simp [pvsJ]; rw [cpy_at hm]; exact x4 m hm, by simp [pvsJ, vp_updL]; exact x5, by simp [pvsJ, vp_updL]; exact x6, by simp [pvs, upd]; exact x7, by simp [pvs, upd]; exact x8, by simp [pvs, upd]; exact x9, by simp [pvs, upd]; exact x10⟩, fun x hx => ⟨by repeat (rw [pvs_ne (by omega)]), by repeat (rw [pvsJ_ne (by omega)])⟩⟩)
end TAK
