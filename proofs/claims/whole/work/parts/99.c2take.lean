/-! class: an image is taken: works, known, town, law, walls -/
section TA2
variable {w h : Nat} {a : Nat → Int32} {I : pvI} {J : pvJ} {P : pvP}
theorem c_takeW46 (hP : pvOkP P) (hg : mG a) (hr : rWrk w h 3 a I J) : pvMet mX9_take 1 0 0 [.ref 52, .ref 9] 224 I J P (pvq P (fun v I' J' => v = none ∧ rWrk w h 46 a I' J' ∧ tkO 52 62 I J I' J')) := by
  obtain ⟨x1, x2, x3, x4, x5, x6⟩ := hr
  have n1 : cnt a 1 ≤ 20 := hg.le (by decide)
  have n2 : cnt a 2 ≤ 10 := hg.le (by decide)
  refine pvMet.of _ (by decide) rfl (Nat.le_of_ble_eq_true rfl) ?_
  refine g_aload_n dX9_take_0 rfl ?_
  refine g_aload_n dX9_take_1 rfl ?_
  refine n_getI dX9_take_2 fdX9_43 rfl (by first | rfl | exact pv_shx) (by omega) (by omega) (by decide) rfl (by repeat (first | (apply rd_s; done) | apply rd_n (by omega) | apply rp_s | apply rp_n (by omega) | (apply rdL_s; done) | apply rdL_n (by omega) | apply rpJ_s | apply rpJ_n (by omega) | rfl)) ?_
  refine n_putI dX9_take_5 fdX9_43 rfl (fun h => absurd h (by decide)) (by first | rfl | exact pv_shx) (by omega) (by omega) (by decide) rfl (by repeat (first | exact pvu_s | exact pvuJ_s | apply pvu_in (by omega) | apply pvuJ_in (by omega) | exact pvu_pvs | exact pvuJ_pvs)) ?_
  refine g_aload_n dX9_take_8 rfl ?_
  refine g_getP dX9_take_9 fdX9_11 rfl (by first | rfl | exact pv_shx) (by omega) (by omega) (by decide) rfl (hP _ _ _ rfl) ?_
  refine g_iconst (v := nI 0) dX9_take_12 (by decide) ?_
  refine g_aload_n dX9_take_13 rfl ?_
  refine g_getP dX9_take_14 fdX9_11 rfl (by first | rfl | exact pv_shx) (by omega) (by omega) (by decide) rfl (hP _ _ _ rfl) ?_
  refine g_iconst (v := nI 0) dX9_take_17 (by decide) ?_
  refine g_bipush (v := nI 20) dX9_take_18 (by decide) ?_
  refine g_copyI (R0 := 0) dX9_take_20 acX9_47 acN acS acI (rfl) (rfl) (by omega) (by omega) (by omega) (by omega) (by omega) (by decide) (by decide) (by decide) (Nat.le_of_ble_eq_true rfl) ?_
  refine g_aload_n dX9_take_23 rfl ?_
  refine g_getP dX9_take_24 fdX9_15 rfl (by first | rfl | exact pv_shx) (by omega) (by omega) (by decide) rfl (hP _ _ _ rfl) ?_
  refine g_iconst (v := nI 0) dX9_take_27 (by decide) ?_
  refine g_aload_n dX9_take_28 rfl ?_
  refine g_getP dX9_take_29 fdX9_15 rfl (by first | rfl | exact pv_shx) (by omega) (by omega) (by decide) rfl (hP _ _ _ rfl) ?_
  refine g_iconst (v := nI 0) dX9_take_32 (by decide) ?_
  refine g_bipush (v := nI 20) dX9_take_33 (by decide) ?_
  refine g_copyI (R0 := 0) dX9_take_35 acX9_47 acN acS acI (rfl) (rfl) (by omega) (by omega) (by omega) (by omega) (by omega) (by decide) (by decide) (by decide) (Nat.le_of_ble_eq_true rfl) ?_
  refine g_aload_n dX9_take_38 rfl ?_
  refine g_getP dX9_take_39 fdX9_18 rfl (by first | rfl | exact pv_shx) (by omega) (by omega) (by decide) rfl (hP _ _ _ rfl) ?_
  refine g_iconst (v := nI 0) dX9_take_42 (by decide) ?_
  refine g_aload_n dX9_take_43 rfl ?_
  refine g_getP dX9_take_44 fdX9_18 rfl (by first | rfl | exact pv_shx) (by omega) (by omega) (by decide) rfl (hP _ _ _ rfl) ?_
  refine g_iconst (v := nI 0) dX9_take_47 (by decide) ?_
  refine g_bipush (v := nI 20) dX9_take_48 (by decide) ?_
  refine g_copyI (R0 := 0) dX9_take_50 acX9_47 acN acS acI (rfl) (rfl) (by omega) (by omega) (by omega) (by omega) (by omega) (by decide) (by decide) (by decide) (Nat.le_of_ble_eq_true rfl) ?_
  refine g_aload_n dX9_take_53 rfl ?_
  refine g_getP dX9_take_54 fdX9_21 rfl (by first | rfl | exact pv_shx) (by omega) (by omega) (by decide) rfl (hP _ _ _ rfl) ?_
  refine g_iconst (v := nI 0) dX9_take_57 (by decide) ?_
  refine g_aload_n dX9_take_58 rfl ?_
  refine g_getP dX9_take_59 fdX9_21 rfl (by first | rfl | exact pv_shx) (by omega) (by omega) (by decide) rfl (hP _ _ _ rfl) ?_
  refine g_iconst (v := nI 0) dX9_take_62 (by decide) ?_
  refine g_bipush (v := nI 100) dX9_take_63 (by decide) ?_
  refine g_copyJ (R0 := 0) dX9_take_65 acX9_47 acN acS acI (rfl) (rfl) (by omega) (by omega) (by omega) (by omega) (by omega) (by decide) (by decide) (by decide) (Nat.le_of_ble_eq_true rfl) ?_
  refine g_aload_n dX9_take_68 rfl ?_
  refine g_aload_n dX9_take_69 rfl ?_
  refine n_getI dX9_take_70 fdX9_53 rfl (by first | rfl | exact pv_shx) (by omega) (by omega) (by decide) rfl (by repeat (first | (apply rd_s; done) | apply rd_n (by omega) | apply rp_s | apply rp_n (by omega) | (apply rdL_s; done) | apply rdL_n (by omega) | apply rpJ_s | apply rpJ_n (by omega) | rfl)) ?_
  refine n_putI dX9_take_73 fdX9_53 rfl (fun h => absurd h (by decide)) (by first | rfl | exact pv_shx) (by omega) (by omega) (by decide) rfl (by repeat (first | exact pvu_s | exact pvuJ_s | apply pvu_in (by omega) | apply pvuJ_in (by omega) | exact pvu_pvs | exact pvuJ_pvs)) ?_
  refine g_aload_n dX9_take_76 rfl ?_
  refine g_getP dX9_take_77 fdX9_25 rfl (by first | rfl | exact pv_shx) (by omega) (by omega) (by decide) rfl (hP _ _ _ rfl) ?_
  refine g_iconst (v := nI 0) dX9_take_80 (by decide) ?_
  refine g_aload_n dX9_take_81 rfl ?_
  refine g_getP dX9_take_82 fdX9_25 rfl (by first | rfl | exact pv_shx) (by omega) (by omega) (by decide) rfl (hP _ _ _ rfl) ?_
  refine g_iconst (v := nI 0) dX9_take_85 (by decide) ?_
  refine g_bipush (v := nI 10) dX9_take_86 (by decide) ?_
  refine g_copyI (R0 := 0) dX9_take_88 acX9_47 acN acS acI (rfl) (rfl) (by omega) (by omega) (by omega) (by omega) (by omega) (by decide) (by decide) (by decide) (Nat.le_of_ble_eq_true rfl) ?_
  refine g_aload_n dX9_take_91 rfl ?_
  refine g_getP dX9_take_92 fdX9_28 rfl (by first | rfl | exact pv_shx) (by omega) (by omega) (by decide) rfl (hP _ _ _ rfl) ?_
  refine g_iconst (v := nI 0) dX9_take_95 (by decide) ?_
  refine g_aload_n dX9_take_96 rfl ?_
  refine g_getP dX9_take_97 fdX9_28 rfl (by first | rfl | exact pv_shx) (by omega) (by omega) (by decide) rfl (hP _ _ _ rfl) ?_
  refine g_iconst (v := nI 0) dX9_take_100 (by decide) ?_
  refine g_bipush (v := nI 10) dX9_take_101 (by decide) ?_
  refine g_copyI (R0 := 0) dX9_take_103 acX9_47 acN acS acI (rfl) (rfl) (by omega) (by omega) (by omega) (by omega) (by omega) (by decide) (by decide) (by decide) (Nat.le_of_ble_eq_true rfl) ?_
  refine g_aload_n dX9_take_106 rfl ?_
  refine g_getP dX9_take_107 fdX9_31 rfl (by first | rfl | exact pv_shx) (by omega) (by omega) (by decide) rfl (hP _ _ _ rfl) ?_
  refine g_iconst (v := nI 0) dX9_take_110 (by decide) ?_
  refine g_aload_n dX9_take_111 rfl ?_
  refine g_getP dX9_take_112 fdX9_31 rfl (by first | rfl | exact pv_shx) (by omega) (by omega) (by decide) rfl (hP _ _ _ rfl) ?_
  refine g_iconst (v := nI 0) dX9_take_115 (by decide) ?_
  refine g_bipush (v := nI 10) dX9_take_116 (by decide) ?_
  refine g_copyI (R0 := 0) dX9_take_118 acX9_47 acN acS acI (rfl) (rfl) (by omega) (by omega) (by omega) (by omega) (by omega) (by decide) (by decide) (by decide) (Nat.le_of_ble_eq_true rfl) ?_
  refine g_aload_n dX9_take_121 rfl ?_
  refine g_getP dX9_take_122 fdX9_34 rfl (by first | rfl | exact pv_shx) (by omega) (by omega) (by decide) rfl (hP _ _ _ rfl) ?_
  refine g_iconst (v := nI 0) dX9_take_125 (by decide) ?_
  refine g_aload_n dX9_take_126 rfl ?_
  refine g_getP dX9_take_127 fdX9_34 rfl (by first | rfl | exact pv_shx) (by omega) (by omega) (by decide) rfl (hP _ _ _ rfl) ?_
  refine g_iconst (v := nI 0) dX9_take_130 (by decide) ?_
  refine g_bipush (v := nI 10) dX9_take_131 (by decide) ?_
  refine g_copyI (R0 := 0) dX9_take_133 acX9_47 acN acS acI (rfl) (rfl) (by omega) (by omega) (by omega) (by omega) (by omega) (by decide) (by decide) (by decide) (Nat.le_of_ble_eq_true rfl) ?_
  refine g_aload_n dX9_take_136 rfl ?_
  refine g_getP dX9_take_137 fdX9_37 rfl (by first | rfl | exact pv_shx) (by omega) (by omega) (by decide) rfl (hP _ _ _ rfl) ?_
  refine g_iconst (v := nI 0) dX9_take_140 (by decide) ?_
  refine g_aload_n dX9_take_141 rfl ?_
  refine g_getP dX9_take_142 fdX9_37 rfl (by first | rfl | exact pv_shx) (by omega) (by omega) (by decide) rfl (hP _ _ _ rfl) ?_
  refine g_iconst (v := nI 0) dX9_take_145 (by decide) ?_
  refine g_bipush (v := nI 10) dX9_take_146 (by decide) ?_
  refine g_copyI (R0 := 0) dX9_take_148 acX9_47 acN acS acI (rfl) (rfl) (by omega) (by omega) (by omega) (by omega) (by omega) (by decide) (by decide) (by decide) (Nat.le_of_ble_eq_true rfl) ?_
  refine g_aload_n dX9_take_151 rfl ?_
  refine g_getP dX9_take_152 fdX9_40 rfl (by first | rfl | exact pv_shx) (by omega) (by omega) (by decide) rfl (hP _ _ _ rfl) ?_
  refine g_iconst (v := nI 0) dX9_take_155 (by decide) ?_
  refine g_aload_n dX9_take_156 rfl ?_
  refine g_getP dX9_take_157 fdX9_40 rfl (by first | rfl | exact pv_shx) (by omega) (by omega) (by decide) rfl (hP _ _ _ rfl) ?_
  refine g_iconst (v := nI 0) dX9_take_160 (by decide) ?_
  refine g_bipush (v := nI 100) dX9_take_161 (by decide) ?_
  refine g_copyJ (R0 := 0) dX9_take_163 acX9_47 acN acS acI (rfl) (rfl) (by omega) (by omega) (by omega) (by omega) (by omega) (by decide) (by decide) (by decide) (Nat.le_of_ble_eq_true rfl) ?_
  exact g_vret dX9_take_166 rfl (⟨rfl, rfl, rfl, ⟨by simp [pvs, upd]; exact x1, fun k hk => by have y := x2 k hk; simp [pvs]; simp only [cpy_at (show k < 20 by omega)]; exact y, fun m hm => by simp [pvsJ]; rw [cpy_at hm]; exact x3 m hm, by simp [pvs, upd]; exact x4, fun k hk => by have y := x5 k hk; simp [pvs]; simp only [cpy_at (show k < 10 by omega)]; exact y, fun m hm => by simp [pvsJ]; rw [cpy_at hm]; exact x6 m hm⟩, fun x hx => ⟨by repeat (rw [pvs_ne (by omega)]), by repeat (rw [pvsJ_ne (by omega)])⟩⟩)
theorem c_takeK46 (hP : pvOkP P) (hg : mG a) (hr : rKno 3 a I) : pvMet mX4_take 1 0 0 [.ref 63, .ref 20] 224 I J P (pvq P (fun v I' J' => v = none ∧ rKno 46 a I' ∧ tkO 63 69 I J I' J')) := by
  obtain ⟨x1, x2, x3, x4⟩ := hr
  have n1 : cnt a 3 ≤ 8 := hg.le (by decide)
  have n2 : cnt a 4 ≤ 200 := hg.le (by decide)
  refine pvMet.of _ (by decide) rfl (Nat.le_of_ble_eq_true rfl) ?_
  refine g_aload_n dX4_take_0 rfl ?_
  refine g_aload_n dX4_take_1 rfl ?_
  refine n_getI dX4_take_2 fdX4_30 rfl (by first | rfl | exact pv_shx) (by omega) (by omega) (by decide) rfl (by repeat (first | (apply rd_s; done) | apply rd_n (by omega) | apply rp_s | apply rp_n (by omega) | (apply rdL_s; done) | apply rdL_n (by omega) | apply rpJ_s | apply rpJ_n (by omega) | rfl)) ?_
  refine n_putI dX4_take_5 fdX4_30 rfl (fun h => absurd h (by decide)) (by first | rfl | exact pv_shx) (by omega) (by omega) (by decide) rfl (by repeat (first | exact pvu_s | exact pvuJ_s | apply pvu_in (by omega) | apply pvuJ_in (by omega) | exact pvu_pvs | exact pvuJ_pvs)) ?_
  refine g_aload_n dX4_take_8 rfl ?_
  refine g_getP dX4_take_9 fdX4_9 rfl (by first | rfl | exact pv_shx) (by omega) (by omega) (by decide) rfl (hP _ _ _ rfl) ?_
  refine g_iconst (v := nI 0) dX4_take_12 (by decide) ?_
  refine g_aload_n dX4_take_13 rfl ?_
  refine g_getP dX4_take_14 fdX4_9 rfl (by first | rfl | exact pv_shx) (by omega) (by omega) (by decide) rfl (hP _ _ _ rfl) ?_
  refine g_iconst (v := nI 0) dX4_take_17 (by decide) ?_
  refine g_bipush (v := nI 8) dX4_take_18 (by decide) ?_
  refine g_copyI (R0 := 0) dX4_take_20 acX4_34 acN acS acI (rfl) (rfl) (by omega) (by omega) (by omega) (by omega) (by omega) (by decide) (by decide) (by decide) (Nat.le_of_ble_eq_true rfl) ?_
  refine g_aload_n dX4_take_23 rfl ?_
  refine g_getP dX4_take_24 fdX4_15 rfl (by first | rfl | exact pv_shx) (by omega) (by omega) (by decide) rfl (hP _ _ _ rfl) ?_
  refine g_iconst (v := nI 0) dX4_take_27 (by decide) ?_
  refine g_aload_n dX4_take_28 rfl ?_
  refine g_getP dX4_take_29 fdX4_15 rfl (by first | rfl | exact pv_shx) (by omega) (by omega) (by decide) rfl (hP _ _ _ rfl) ?_
  refine g_iconst (v := nI 0) dX4_take_32 (by decide) ?_
  refine g_bipush (v := nI 8) dX4_take_33 (by decide) ?_
  refine g_copyI (R0 := 0) dX4_take_35 acX4_34 acN acS acI (rfl) (rfl) (by omega) (by omega) (by omega) (by omega) (by omega) (by decide) (by decide) (by decide) (Nat.le_of_ble_eq_true rfl) ?_
  refine g_aload_n dX4_take_38 rfl ?_
  refine g_aload_n dX4_take_39 rfl ?_
  refine n_getI dX4_take_40 fdX4_40 rfl (by first | rfl | exact pv_shx) (by omega) (by omega) (by decide) rfl (by repeat (first | (apply rd_s; done) | apply rd_n (by omega) | apply rp_s | apply rp_n (by omega) | (apply rdL_s; done) | apply rdL_n (by omega) | apply rpJ_s | apply rpJ_n (by omega) | rfl)) ?_
  refine n_putI dX4_take_43 fdX4_40 rfl (fun h => absurd h (by decide)) (by first | rfl | exact pv_shx) (by omega) (by omega) (by decide) rfl (by repeat (first | exact pvu_s | exact pvuJ_s | apply pvu_in (by omega) | apply pvuJ_in (by omega) | exact pvu_pvs | exact pvuJ_pvs)) ?_
  refine g_aload_n dX4_take_46 rfl ?_
  refine g_getP dX4_take_47 fdX4_18 rfl (by first | rfl | exact pv_shx) (by omega) (by omega) (by decide) rfl (hP _ _ _ rfl) ?_
  refine g_iconst (v := nI 0) dX4_take_50 (by decide) ?_
  refine g_aload_n dX4_take_51 rfl ?_
  refine g_getP dX4_take_52 fdX4_18 rfl (by first | rfl | exact pv_shx) (by omega) (by omega) (by decide) rfl (hP _ _ _ rfl) ?_
  refine g_iconst (v := nI 0) dX4_take_55 (by decide) ?_
  refine g_sipush (v := nI 200) dX4_take_56 (by decide) ?_
  refine g_copyI (R0 := 0) dX4_take_59 acX4_34 acN acS acI (rfl) (rfl) (by omega) (by omega) (by omega) (by omega) (by omega) (by decide) (by decide) (by decide) (Nat.le_of_ble_eq_true rfl) ?_
  refine g_aload_n dX4_take_62 rfl ?_
  refine g_getP dX4_take_63 fdX4_21 rfl (by first | rfl | exact pv_shx) (by omega) (by omega) (by decide) rfl (hP _ _ _ rfl) ?_
  refine g_iconst (v := nI 0) dX4_take_66 (by decide) ?_
  refine g_aload_n dX4_take_67 rfl ?_
  refine g_getP dX4_take_68 fdX4_21 rfl (by first | rfl | exact pv_shx) (by omega) (by omega) (by decide) rfl (hP _ _ _ rfl) ?_
  refine g_iconst (v := nI 0) dX4_take_71 (by decide) ?_
  refine g_sipush (v := nI 200) dX4_take_72 (by decide) ?_
  refine g_copyI (R0 := 0) dX4_take_75 acX4_34 acN acS acI (rfl) (rfl) (by omega) (by omega) (by omega) (by omega) (by omega) (by decide) (by decide) (by decide) (Nat.le_of_ble_eq_true rfl) ?_
  refine g_aload_n dX4_take_78 rfl ?_
  refine g_getP dX4_take_79 fdX4_24 rfl (by first | rfl | exact pv_shx) (by omega) (by omega) (by decide) rfl (hP _ _ _ rfl) ?_
  refine g_iconst (v := nI 0) dX4_take_82 (by decide) ?_
  refine g_aload_n dX4_take_83 rfl ?_
  refine g_getP dX4_take_84 fdX4_24 rfl (by first | rfl | exact pv_shx) (by omega) (by omega) (by decide) rfl (hP _ _ _ rfl) ?_
  refine g_iconst (v := nI 0) dX4_take_87 (by decide) ?_
  refine g_sipush (v := nI 200) dX4_take_88 (by decide) ?_
  refine g_copyI (R0 := 0) dX4_take_91 acX4_34 acN acS acI (rfl) (rfl) (by omega) (by omega) (by omega) (by omega) (by omega) (by decide) (by decide) (by decide) (Nat.le_of_ble_eq_true rfl) ?_
  refine g_aload_n dX4_take_94 rfl ?_
  refine g_getP dX4_take_95 fdX4_27 rfl (by first | rfl | exact pv_shx) (by omega) (by omega) (by decide) rfl (hP _ _ _ rfl) ?_
  refine g_iconst (v := nI 0) dX4_take_98 (by decide) ?_
  refine g_aload_n dX4_take_99 rfl ?_
  refine g_getP dX4_take_100 fdX4_27 rfl (by first | rfl | exact pv_shx) (by omega) (by omega) (by decide) rfl (hP _ _ _ rfl) ?_
  refine g_iconst (v := nI 0) dX4_take_103 (by decide) ?_
  refine g_sipush (v := nI 200) dX4_take_104 (by decide) ?_
  refine g_copyI (R0 := 0) dX4_take_107 acX4_34 acN acS acI (rfl) (rfl) (by omega) (by omega) (by omega) (by omega) (by omega) (by decide) (by decide) (by decide) (Nat.le_of_ble_eq_true rfl) ?_
  exact g_vret dX4_take_110 rfl (⟨rfl, rfl, rfl, ⟨by simp [pvs, upd]; exact x1, fun k hk => by have y := x2 k hk; simp [pvs]; simp only [cpy_at (show k < 8 by omega)]; exact y, by simp [pvs, upd]; exact x3, fun k hk => by have y := x4 k hk; simp [pvs]; simp only [cpy_at (show k < 200 by omega)]; exact y⟩, fun x hx => ⟨by repeat (rw [pvs_ne (by omega)]), rfl⟩⟩)
theorem c_takeT46 (hP : pvOkP P) (hg : mG a) (hr : rTwn 3 a I) : pvMet mX7_take 1 0 0 [.ref 70, .ref 27] 224 I J P (pvq P (fun v I' J' => v = none ∧ rTwn 46 a I' ∧ tkO 70 81 I J I' J')) := by
  obtain ⟨x1, x2, x3, x4, x5, x6⟩ := hr
  have n1 : cnt a 5 ≤ 20 := hg.le (by decide)
  have n2 : cnt a 6 ≤ 60 := hg.le (by decide)
  refine pvMet.of _ (by decide) rfl (Nat.le_of_ble_eq_true rfl) ?_
  refine g_aload_n dX7_take_0 rfl ?_
  refine g_aload_n dX7_take_1 rfl ?_
  refine n_getI dX7_take_2 fdX7_45 rfl (by first | rfl | exact pv_shx) (by omega) (by omega) (by decide) rfl (by repeat (first | (apply rd_s; done) | apply rd_n (by omega) | apply rp_s | apply rp_n (by omega) | (apply rdL_s; done) | apply rdL_n (by omega) | apply rpJ_s | apply rpJ_n (by omega) | rfl)) ?_
  refine n_putI dX7_take_5 fdX7_45 rfl (fun h => absurd h (by decide)) (by first | rfl | exact pv_shx) (by omega) (by omega) (by decide) rfl (by repeat (first | exact pvu_s | exact pvuJ_s | apply pvu_in (by omega) | apply pvuJ_in (by omega) | exact pvu_pvs | exact pvuJ_pvs)) ?_
  refine g_aload_n dX7_take_8 rfl ?_
  refine g_getP dX7_take_9 fdX7_11 rfl (by first | rfl | exact pv_shx) (by omega) (by omega) (by decide) rfl (hP _ _ _ rfl) ?_
  refine g_iconst (v := nI 0) dX7_take_12 (by decide) ?_
  refine g_aload_n dX7_take_13 rfl ?_
  refine g_getP dX7_take_14 fdX7_11 rfl (by first | rfl | exact pv_shx) (by omega) (by omega) (by decide) rfl (hP _ _ _ rfl) ?_
  refine g_iconst (v := nI 0) dX7_take_17 (by decide) ?_
  refine g_bipush (v := nI 20) dX7_take_18 (by decide) ?_
  refine g_copyI (R0 := 0) dX7_take_20 acX7_49 acN acS acI (rfl) (rfl) (by omega) (by omega) (by omega) (by omega) (by omega) (by decide) (by decide) (by decide) (Nat.le_of_ble_eq_true rfl) ?_
  refine g_aload_n dX7_take_23 rfl ?_
  refine g_getP dX7_take_24 fdX7_15 rfl (by first | rfl | exact pv_shx) (by omega) (by omega) (by decide) rfl (hP _ _ _ rfl) ?_
  refine g_iconst (v := nI 0) dX7_take_27 (by decide) ?_
  refine g_aload_n dX7_take_28 rfl ?_
  refine g_getP dX7_take_29 fdX7_15 rfl (by first | rfl | exact pv_shx) (by omega) (by omega) (by decide) rfl (hP _ _ _ rfl) ?_
  refine g_iconst (v := nI 0) dX7_take_32 (by decide) ?_
  refine g_bipush (v := nI 20) dX7_take_33 (by decide) ?_
  refine g_copyI (R0 := 0) dX7_take_35 acX7_49 acN acS acI (rfl) (rfl) (by omega) (by omega) (by omega) (by omega) (by omega) (by decide) (by decide) (by decide) (Nat.le_of_ble_eq_true rfl) ?_
  refine g_aload_n dX7_take_38 rfl ?_
  refine g_getP dX7_take_39 fdX7_18 rfl (by first | rfl | exact pv_shx) (by omega) (by omega) (by decide) rfl (hP _ _ _ rfl) ?_
  refine g_iconst (v := nI 0) dX7_take_42 (by decide) ?_
  refine g_aload_n dX7_take_43 rfl ?_
  refine g_getP dX7_take_44 fdX7_18 rfl (by first | rfl | exact pv_shx) (by omega) (by omega) (by decide) rfl (hP _ _ _ rfl) ?_
  refine g_iconst (v := nI 0) dX7_take_47 (by decide) ?_
  refine g_bipush (v := nI 20) dX7_take_48 (by decide) ?_
  refine g_copyI (R0 := 0) dX7_take_50 acX7_49 acN acS acI (rfl) (rfl) (by omega) (by omega) (by omega) (by omega) (by omega) (by decide) (by decide) (by decide) (Nat.le_of_ble_eq_true rfl) ?_
  refine g_aload_n dX7_take_53 rfl ?_
  refine g_getP dX7_take_54 fdX7_21 rfl (by first | rfl | exact pv_shx) (by omega) (by omega) (by decide) rfl (hP _ _ _ rfl) ?_
  refine g_iconst (v := nI 0) dX7_take_57 (by decide) ?_
  refine g_aload_n dX7_take_58 rfl ?_
  refine g_getP dX7_take_59 fdX7_21 rfl (by first | rfl | exact pv_shx) (by omega) (by omega) (by decide) rfl (hP _ _ _ rfl) ?_
  refine g_iconst (v := nI 0) dX7_take_62 (by decide) ?_
  refine g_bipush (v := nI 20) dX7_take_63 (by decide) ?_
  refine g_copyI (R0 := 0) dX7_take_65 acX7_49 acN acS acI (rfl) (rfl) (by omega) (by omega) (by omega) (by omega) (by omega) (by decide) (by decide) (by decide) (Nat.le_of_ble_eq_true rfl) ?_
  refine g_aload_n dX7_take_68 rfl ?_
  refine g_getP dX7_take_69 fdX7_24 rfl (by first | rfl | exact pv_shx) (by omega) (by omega) (by decide) rfl (hP _ _ _ rfl) ?_
  refine g_iconst (v := nI 0) dX7_take_72 (by decide) ?_
  refine g_aload_n dX7_take_73 rfl ?_
  refine g_getP dX7_take_74 fdX7_24 rfl (by first | rfl | exact pv_shx) (by omega) (by omega) (by decide) rfl (hP _ _ _ rfl) ?_
  refine g_iconst (v := nI 0) dX7_take_77 (by decide) ?_
  refine g_bipush (v := nI 20) dX7_take_78 (by decide) ?_
  refine g_copyI (R0 := 0) dX7_take_80 acX7_49 acN acS acI (rfl) (rfl) (by omega) (by omega) (by omega) (by omega) (by omega) (by decide) (by decide) (by decide) (Nat.le_of_ble_eq_true rfl) ?_
  refine g_aload_n dX7_take_83 rfl ?_
  refine g_aload_n dX7_take_84 rfl ?_
  refine n_getI dX7_take_85 fdX7_55 rfl (by first | rfl | exact pv_shx) (by omega) (by omega) (by decide) rfl (by repeat (first | (apply rd_s; done) | apply rd_n (by omega) | apply rp_s | apply rp_n (by omega) | (apply rdL_s; done) | apply rdL_n (by omega) | apply rpJ_s | apply rpJ_n (by omega) | rfl)) ?_
  refine n_putI dX7_take_88 fdX7_55 rfl (fun h => absurd h (by decide)) (by first | rfl | exact pv_shx) (by omega) (by omega) (by decide) rfl (by repeat (first | exact pvu_s | exact pvuJ_s | apply pvu_in (by omega) | apply pvuJ_in (by omega) | exact pvu_pvs | exact pvuJ_pvs)) ?_
  refine g_aload_n dX7_take_91 rfl ?_
  refine g_getP dX7_take_92 fdX7_27 rfl (by first | rfl | exact pv_shx) (by omega) (by omega) (by decide) rfl (hP _ _ _ rfl) ?_
  refine g_iconst (v := nI 0) dX7_take_95 (by decide) ?_
  refine g_aload_n dX7_take_96 rfl ?_
  refine g_getP dX7_take_97 fdX7_27 rfl (by first | rfl | exact pv_shx) (by omega) (by omega) (by decide) rfl (hP _ _ _ rfl) ?_
  refine g_iconst (v := nI 0) dX7_take_100 (by decide) ?_
  refine g_bipush (v := nI 60) dX7_take_101 (by decide) ?_
  refine g_copyI (R0 := 0) dX7_take_103 acX7_49 acN acS acI (rfl) (rfl) (by omega) (by omega) (by omega) (by omega) (by omega) (by decide) (by decide) (by decide) (Nat.le_of_ble_eq_true rfl) ?_
  refine g_aload_n dX7_take_106 rfl ?_
  refine g_getP dX7_take_107 fdX7_30 rfl (by first | rfl | exact pv_shx) (by omega) (by omega) (by decide) rfl (hP _ _ _ rfl) ?_
  refine g_iconst (v := nI 0) dX7_take_110 (by decide) ?_
  refine g_aload_n dX7_take_111 rfl ?_
  refine g_getP dX7_take_112 fdX7_30 rfl (by first | rfl | exact pv_shx) (by omega) (by omega) (by decide) rfl (hP _ _ _ rfl) ?_
  refine g_iconst (v := nI 0) dX7_take_115 (by decide) ?_
  refine g_bipush (v := nI 60) dX7_take_116 (by decide) ?_
  refine g_copyI (R0 := 0) dX7_take_118 acX7_49 acN acS acI (rfl) (rfl) (by omega) (by omega) (by omega) (by omega) (by omega) (by decide) (by decide) (by decide) (Nat.le_of_ble_eq_true rfl) ?_
  refine g_aload_n dX7_take_121 rfl ?_
  refine g_getP dX7_take_122 fdX7_33 rfl (by first | rfl | exact pv_shx) (by omega) (by omega) (by decide) rfl (hP _ _ _ rfl) ?_
  refine g_iconst (v := nI 0) dX7_take_125 (by decide) ?_
  refine g_aload_n dX7_take_126 rfl ?_
  refine g_getP dX7_take_127 fdX7_33 rfl (by first | rfl | exact pv_shx) (by omega) (by omega) (by decide) rfl (hP _ _ _ rfl) ?_
  refine g_iconst (v := nI 0) dX7_take_130 (by decide) ?_
  refine g_bipush (v := nI 60) dX7_take_131 (by decide) ?_
  refine g_copyI (R0 := 0) dX7_take_133 acX7_49 acN acS acI (rfl) (rfl) (by omega) (by omega) (by omega) (by omega) (by omega) (by decide) (by decide) (by decide) (Nat.le_of_ble_eq_true rfl) ?_
  refine g_aload_n dX7_take_136 rfl ?_
  refine g_getP dX7_take_137 fdX7_36 rfl (by first | rfl | exact pv_shx) (by omega) (by omega) (by decide) rfl (hP _ _ _ rfl) ?_
  refine g_iconst (v := nI 0) dX7_take_140 (by decide) ?_
  refine g_aload_n dX7_take_141 rfl ?_
  refine g_getP dX7_take_142 fdX7_36 rfl (by first | rfl | exact pv_shx) (by omega) (by omega) (by decide) rfl (hP _ _ _ rfl) ?_
  refine g_iconst (v := nI 0) dX7_take_145 (by decide) ?_
  refine g_bipush (v := nI 60) dX7_take_146 (by decide) ?_
  refine g_copyI (R0 := 0) dX7_take_148 acX7_49 acN acS acI (rfl) (rfl) (by omega) (by omega) (by omega) (by omega) (by omega) (by decide) (by decide) (by decide) (Nat.le_of_ble_eq_true rfl) ?_
  refine g_aload_n dX7_take_151 rfl ?_
  refine g_getP dX7_take_152 fdX7_39 rfl (by first | rfl | exact pv_shx) (by omega) (by omega) (by decide) rfl (hP _ _ _ rfl) ?_
  refine g_iconst (v := nI 0) dX7_take_155 (by decide) ?_
  refine g_aload_n dX7_take_156 rfl ?_
  refine g_getP dX7_take_157 fdX7_39 rfl (by first | rfl | exact pv_shx) (by omega) (by omega) (by decide) rfl (hP _ _ _ rfl) ?_
  refine g_iconst (v := nI 0) dX7_take_160 (by decide) ?_
  refine g_bipush (v := nI 60) dX7_take_161 (by decide) ?_
  refine g_copyI (R0 := 0) dX7_take_163 acX7_49 acN acS acI (rfl) (rfl) (by omega) (by omega) (by omega) (by omega) (by omega) (by decide) (by decide) (by decide) (Nat.le_of_ble_eq_true rfl) ?_
  refine g_aload_n dX7_take_166 rfl ?_
  refine g_getP dX7_take_167 fdX7_42 rfl (by first | rfl | exact pv_shx) (by omega) (by omega) (by decide) rfl (hP _ _ _ rfl) ?_
  refine g_iconst (v := nI 0) dX7_take_170 (by decide) ?_
  refine g_aload_n dX7_take_171 rfl ?_
  refine g_getP dX7_take_172 fdX7_42 rfl (by first | rfl | exact pv_shx) (by omega) (by omega) (by decide) rfl (hP _ _ _ rfl) ?_
  refine g_iconst (v := nI 0) dX7_take_175 (by decide) ?_
  refine g_bipush (v := nI 10) dX7_take_176 (by decide) ?_
  refine g_copyI (R0 := 0) dX7_take_178 acX7_49 acN acS acI (rfl) (rfl) (by omega) (by omega) (by omega) (by omega) (by omega) (by decide) (by decide) (by decide) (Nat.le_of_ble_eq_true rfl) ?_
  refine g_aload_n dX7_take_181 rfl ?_
  refine g_aload_n dX7_take_182 rfl ?_
  refine n_getI dX7_take_183 fdX7_58 rfl (by first | rfl | exact pv_shx) (by omega) (by omega) (by decide) rfl (by repeat (first | (apply rd_s; done) | apply rd_n (by omega) | apply rp_s | apply rp_n (by omega) | (apply rdL_s; done) | apply rdL_n (by omega) | apply rpJ_s | apply rpJ_n (by omega) | rfl)) ?_
  refine n_putI dX7_take_186 fdX7_58 rfl (fun h => absurd h (by decide)) (by first | rfl | exact pv_shx) (by omega) (by omega) (by decide) rfl (by repeat (first | exact pvu_s | exact pvuJ_s | apply pvu_in (by omega) | apply pvuJ_in (by omega) | exact pvu_pvs | exact pvuJ_pvs)) ?_
  exact g_vret dX7_take_189 rfl (⟨rfl, rfl, rfl, ⟨by simp [pvs, upd]; exact x1, fun k hk => by have y := x2 k hk; simp [pvs]; simp only [cpy_at (show k < 20 by omega)]; exact y, by simp [pvs, upd]; exact x3, fun k hk => by have y := x4 k hk; simp [pvs]; simp only [cpy_at (show k < 60 by omega)]; exact y, fun k hk => by have y := x5 k hk; simp [pvs]; simp only [cpy_at (show k < 10 by omega)]; exact y, by simp [pvs, upd]; exact x6⟩, fun x hx => ⟨by repeat (rw [pvs_ne (by omega)]), rfl⟩⟩)
theorem c_takeL46 (hP : pvOkP P) (hg : mG a) (hr : rLaw 3 a I) : pvMet mX5_take 1 0 0 [.ref 82, .ref 39] 224 I J P (pvq P (fun v I' J' => v = none ∧ rLaw 46 a I' ∧ tkO 82 85 I J I' J')) := by
  obtain ⟨x1, x2, x3⟩ := hr
  have n1 : cnt a 9 ≤ 30 := hg.le (by decide)
  refine pvMet.of _ (by decide) rfl (Nat.le_of_ble_eq_true rfl) ?_
  refine g_aload_n dX5_take_0 rfl ?_
  refine g_aload_n dX5_take_1 rfl ?_
  refine n_getI dX5_take_2 fdX5_19 rfl (by first | rfl | exact pv_shx) (by omega) (by omega) (by decide) rfl (by repeat (first | (apply rd_s; done) | apply rd_n (by omega) | apply rp_s | apply rp_n (by omega) | (apply rdL_s; done) | apply rdL_n (by omega) | apply rpJ_s | apply rpJ_n (by omega) | rfl)) ?_
  refine n_putI dX5_take_5 fdX5_19 rfl (fun h => absurd h (by decide)) (by first | rfl | exact pv_shx) (by omega) (by omega) (by decide) rfl (by repeat (first | exact pvu_s | exact pvuJ_s | apply pvu_in (by omega) | apply pvuJ_in (by omega) | exact pvu_pvs | exact pvuJ_pvs)) ?_
  refine g_aload_n dX5_take_8 rfl ?_
  refine g_aload_n dX5_take_9 rfl ?_
  refine n_getI dX5_take_10 fdX5_23 rfl (by first | rfl | exact pv_shx) (by omega) (by omega) (by decide) rfl (by repeat (first | (apply rd_s; done) | apply rd_n (by omega) | apply rp_s | apply rp_n (by omega) | (apply rdL_s; done) | apply rdL_n (by omega) | apply rpJ_s | apply rpJ_n (by omega) | rfl)) ?_
  refine n_putI dX5_take_13 fdX5_23 rfl (fun h => absurd h (by decide)) (by first | rfl | exact pv_shx) (by omega) (by omega) (by decide) rfl (by repeat (first | exact pvu_s | exact pvuJ_s | apply pvu_in (by omega) | apply pvuJ_in (by omega) | exact pvu_pvs | exact pvuJ_pvs)) ?_
  refine g_aload_n dX5_take_16 rfl ?_
  refine g_getP dX5_take_17 fdX5_9 rfl (by first | rfl | exact pv_shx) (by omega) (by omega) (by decide) rfl (hP _ _ _ rfl) ?_
  refine g_iconst (v := nI 0) dX5_take_20 (by decide) ?_
  refine g_aload_n dX5_take_21 rfl ?_
  refine g_getP dX5_take_22 fdX5_9 rfl (by first | rfl | exact pv_shx) (by omega) (by omega) (by decide) rfl (hP _ _ _ rfl) ?_
  refine g_iconst (v := nI 0) dX5_take_25 (by decide) ?_
  refine g_bipush (v := nI 30) dX5_take_26 (by decide) ?_
  refine g_copyI (R0 := 0) dX5_take_28 acX5_26 acN acS acI (rfl) (rfl) (by omega) (by omega) (by omega) (by omega) (by omega) (by decide) (by decide) (by decide) (Nat.le_of_ble_eq_true rfl) ?_
  refine g_aload_n dX5_take_31 rfl ?_
  refine g_getP dX5_take_32 fdX5_13 rfl (by first | rfl | exact pv_shx) (by omega) (by omega) (by decide) rfl (hP _ _ _ rfl) ?_
  refine g_iconst (v := nI 0) dX5_take_35 (by decide) ?_
  refine g_aload_n dX5_take_36 rfl ?_
  refine g_getP dX5_take_37 fdX5_13 rfl (by first | rfl | exact pv_shx) (by omega) (by omega) (by decide) rfl (hP _ _ _ rfl) ?_
  refine g_iconst (v := nI 0) dX5_take_40 (by decide) ?_
  refine g_bipush (v := nI 30) dX5_take_41 (by decide) ?_
  refine g_copyI (R0 := 0) dX5_take_43 acX5_26 acN acS acI (rfl) (rfl) (by omega) (by omega) (by omega) (by omega) (by omega) (by decide) (by decide) (by decide) (Nat.le_of_ble_eq_true rfl) ?_
  refine g_aload_n dX5_take_46 rfl ?_
  refine g_getP dX5_take_47 fdX5_16 rfl (by first | rfl | exact pv_shx) (by omega) (by omega) (by decide) rfl (hP _ _ _ rfl) ?_
  refine g_iconst (v := nI 0) dX5_take_50 (by decide) ?_
  refine g_aload_n dX5_take_51 rfl ?_
  refine g_getP dX5_take_52 fdX5_16 rfl (by first | rfl | exact pv_shx) (by omega) (by omega) (by decide) rfl (hP _ _ _ rfl) ?_
  refine g_iconst (v := nI 0) dX5_take_55 (by decide) ?_
  refine g_bipush (v := nI 30) dX5_take_56 (by decide) ?_
  refine g_copyI (R0 := 0) dX5_take_58 acX5_26 acN acS acI (rfl) (rfl) (by omega) (by omega) (by omega) (by omega) (by omega) (by decide) (by decide) (by decide) (Nat.le_of_ble_eq_true rfl) ?_
  exact g_vret dX5_take_61 rfl (⟨rfl, rfl, rfl, ⟨by simp [pvs, upd]; exact x1, by simp [pvs, upd]; exact x2, fun k hk => by have y := x3 k hk; simp [pvs]; simp only [cpy_at (show k < 30 by omega)]; exact y⟩, fun x hx => ⟨by repeat (rw [pvs_ne (by omega)]), rfl⟩⟩)
theorem c_wf46 (hP : pvOkP P) : pvMet mX8_forget 0 0 0 [.ref 86] 224 I J P (pvq P (fun v I' J' => v = none ∧ J' = J ∧ I' = pvs I 86 (upd (upd (I 86) 3 (-1)) 4 (-1)))) := by
  refine pvMet.of _ (by decide) rfl (Nat.le_of_ble_eq_true rfl) ?_
  refine g_aload_n dX8_forget_0 rfl ?_
  refine g_iconst (v := (-1)) dX8_forget_1 (by decide) ?_
  refine n_putI dX8_forget_2 fdX8_18 rfl (fun h => absurd h (by decide)) (by first | rfl | exact pv_shx) (by omega) (by omega) (by decide) rfl (by repeat (first | exact pvu_s | exact pvuJ_s | apply pvu_in (by omega) | apply pvuJ_in (by omega) | exact pvu_pvs | exact pvuJ_pvs)) ?_
  refine g_aload_n dX8_forget_5 rfl ?_
  refine g_iconst (v := (-1)) dX8_forget_6 (by decide) ?_
  refine n_putI dX8_forget_7 fdX8_22 rfl (fun h => absurd h (by decide)) (by first | rfl | exact pv_shx) (by omega) (by omega) (by decide) rfl (by repeat (first | exact pvu_s | exact pvuJ_s | apply pvu_in (by omega) | apply pvuJ_in (by omega) | exact pvu_pvs | exact pvuJ_pvs)) ?_
  exact g_vret dX8_forget_10 rfl (⟨rfl, rfl, rfl, rfl, rfl⟩)
theorem c_takeP46 (hP : pvOkP P) (hg : mG a) (hr : rWal 3 a I) : pvMet mX8_take 1 0 0 [.ref 86, .ref 43] 224 I J P (pvq P (fun v I' J' => v = none ∧ rWal 46 a I' ∧ I' 86 3 = -1 ∧ tkO 86 88 I J I' J')) := by
  obtain ⟨x1, x2⟩ := hr
  have n1 : cnt a 10 ≤ 6 := hg.le (by decide)
  have wf := fun I1 => c_wf46 (I := I1) (J := J) hP
  refine pvMet.of _ (by decide) rfl (Nat.le_of_ble_eq_true rfl) ?_
  refine g_aload_n dX8_take_0 rfl ?_
  refine g_aload_n dX8_take_1 rfl ?_
  refine n_getI dX8_take_2 fdX8_25 rfl (by first | rfl | exact pv_shx) (by omega) (by omega) (by decide) rfl (by repeat (first | (apply rd_s; done) | apply rd_n (by omega) | apply rp_s | apply rp_n (by omega) | (apply rdL_s; done) | apply rdL_n (by omega) | apply rpJ_s | apply rpJ_n (by omega) | rfl)) ?_
  refine n_putI dX8_take_5 fdX8_25 rfl (fun h => absurd h (by decide)) (by first | rfl | exact pv_shx) (by omega) (by omega) (by decide) rfl (by repeat (first | exact pvu_s | exact pvuJ_s | apply pvu_in (by omega) | apply pvuJ_in (by omega) | exact pvu_pvs | exact pvuJ_pvs)) ?_
  refine g_aload_n dX8_take_8 rfl ?_
  refine g_getP dX8_take_9 fdX8_11 rfl (by first | rfl | exact pv_shx) (by omega) (by omega) (by decide) rfl (hP _ _ _ rfl) ?_
  refine g_iconst (v := nI 0) dX8_take_12 (by decide) ?_
  refine g_aload_n dX8_take_13 rfl ?_
  refine g_getP dX8_take_14 fdX8_11 rfl (by first | rfl | exact pv_shx) (by omega) (by omega) (by decide) rfl (hP _ _ _ rfl) ?_
  refine g_iconst (v := nI 0) dX8_take_17 (by decide) ?_
  refine g_bipush (v := nI 6) dX8_take_18 (by decide) ?_
  refine g_copyI (R0 := 0) dX8_take_20 acX8_28 acN acS acI (rfl) (rfl) (by omega) (by omega) (by omega) (by omega) (by omega) (by decide) (by decide) (by decide) (Nat.le_of_ble_eq_true rfl) ?_
  refine g_aload_n dX8_take_23 rfl ?_
  refine g_getP dX8_take_24 fdX8_15 rfl (by first | rfl | exact pv_shx) (by omega) (by omega) (by decide) rfl (hP _ _ _ rfl) ?_
  refine g_iconst (v := nI 0) dX8_take_27 (by decide) ?_
  refine g_aload_n dX8_take_28 rfl ?_
  refine g_getP dX8_take_29 fdX8_15 rfl (by first | rfl | exact pv_shx) (by omega) (by omega) (by decide) rfl (hP _ _ _ rfl) ?_
  refine g_iconst (v := nI 0) dX8_take_32 (by decide) ?_
  refine g_bipush (v := nI 6) dX8_take_33 (by decide) ?_
  refine g_copyI (R0 := 0) dX8_take_35 acX8_28 acN acS acI (rfl) (rfl) (by omega) (by omega) (by omega) (by omega) (by omega) (by decide) (by decide) (by decide) (Nat.le_of_ble_eq_true rfl) ?_
  refine g_aload_n dX8_take_38 rfl ?_
  refine g_callV ((wf _)) okX8_forget lkX8_34 rfl (by first | rfl | exact pv_shx) rfl (by omega) (by omega) dX8_take_39 rfl (Nat.le_of_ble_eq_true rfl) (⟨by decide, by decide, by decide, by decide⟩) ?_
  rintro v nx' I2 J2 P' ⟨rfl, rfl, rfl, rfl, rfl⟩
  exact g_vret dX8_take_42 rfl (⟨rfl, rfl, rfl, ⟨by simp [pvs, upd]; exact x1, fun k hk => by have y := x2 k hk; simp [pvs]; simp only [cpy_at (show k < 6 by omega)]; exact y⟩, by simp [pvs, upd], fun x hx => ⟨by repeat (rw [pvs_ne (by omega)]), rfl⟩⟩)
theorem c_takeW3 (hP : pvOkP P) (hg : mG a) (hr : rWrk w h 46 a I J) : pvMet mX9_take 1 0 0 [.ref 9, .ref 52] 224 I J P (pvq P (fun v I' J' => v = none ∧ rWrk w h 3 a I' J' ∧ tkO 9 19 I J I' J')) := by
  obtain ⟨x1, x2, x3, x4, x5, x6⟩ := hr
  have n1 : cnt a 1 ≤ 20 := hg.le (by decide)
  have n2 : cnt a 2 ≤ 10 := hg.le (by decide)
  refine pvMet.of _ (by decide) rfl (Nat.le_of_ble_eq_true rfl) ?_
  refine g_aload_n dX9_take_0 rfl ?_
  refine g_aload_n dX9_take_1 rfl ?_
  refine n_getI dX9_take_2 fdX9_43 rfl (by first | rfl | exact pv_shx) (by omega) (by omega) (by decide) rfl (by repeat (first | (apply rd_s; done) | apply rd_n (by omega) | apply rp_s | apply rp_n (by omega) | (apply rdL_s; done) | apply rdL_n (by omega) | apply rpJ_s | apply rpJ_n (by omega) | rfl)) ?_
  refine n_putI dX9_take_5 fdX9_43 rfl (fun h => absurd h (by decide)) (by first | rfl | exact pv_shx) (by omega) (by omega) (by decide) rfl (by repeat (first | exact pvu_s | exact pvuJ_s | apply pvu_in (by omega) | apply pvuJ_in (by omega) | exact pvu_pvs | exact pvuJ_pvs)) ?_
  refine g_aload_n dX9_take_8 rfl ?_
  refine g_getP dX9_take_9 fdX9_11 rfl (by first | rfl | exact pv_shx) (by omega) (by omega) (by decide) rfl (hP _ _ _ rfl) ?_
  refine g_iconst (v := nI 0) dX9_take_12 (by decide) ?_
  refine g_aload_n dX9_take_13 rfl ?_
  refine g_getP dX9_take_14 fdX9_11 rfl (by first | rfl | exact pv_shx) (by omega) (by omega) (by decide) rfl (hP _ _ _ rfl) ?_
  refine g_iconst (v := nI 0) dX9_take_17 (by decide) ?_
  refine g_bipush (v := nI 20) dX9_take_18 (by decide) ?_
  refine g_copyI (R0 := 0) dX9_take_20 acX9_47 acN acS acI (rfl) (rfl) (by omega) (by omega) (by omega) (by omega) (by omega) (by decide) (by decide) (by decide) (Nat.le_of_ble_eq_true rfl) ?_
  refine g_aload_n dX9_take_23 rfl ?_
  refine g_getP dX9_take_24 fdX9_15 rfl (by first | rfl | exact pv_shx) (by omega) (by omega) (by decide) rfl (hP _ _ _ rfl) ?_
  refine g_iconst (v := nI 0) dX9_take_27 (by decide) ?_
  refine g_aload_n dX9_take_28 rfl ?_
  refine g_getP dX9_take_29 fdX9_15 rfl (by first | rfl | exact pv_shx) (by omega) (by omega) (by decide) rfl (hP _ _ _ rfl) ?_
  refine g_iconst (v := nI 0) dX9_take_32 (by decide) ?_
  refine g_bipush (v := nI 20) dX9_take_33 (by decide) ?_
  refine g_copyI (R0 := 0) dX9_take_35 acX9_47 acN acS acI (rfl) (rfl) (by omega) (by omega) (by omega) (by omega) (by omega) (by decide) (by decide) (by decide) (Nat.le_of_ble_eq_true rfl) ?_
  refine g_aload_n dX9_take_38 rfl ?_
  refine g_getP dX9_take_39 fdX9_18 rfl (by first | rfl | exact pv_shx) (by omega) (by omega) (by decide) rfl (hP _ _ _ rfl) ?_
  refine g_iconst (v := nI 0) dX9_take_42 (by decide) ?_
  refine g_aload_n dX9_take_43 rfl ?_
  refine g_getP dX9_take_44 fdX9_18 rfl (by first | rfl | exact pv_shx) (by omega) (by omega) (by decide) rfl (hP _ _ _ rfl) ?_
  refine g_iconst (v := nI 0) dX9_take_47 (by decide) ?_
  refine g_bipush (v := nI 20) dX9_take_48 (by decide) ?_
  refine g_copyI (R0 := 0) dX9_take_50 acX9_47 acN acS acI (rfl) (rfl) (by omega) (by omega) (by omega) (by omega) (by omega) (by decide) (by decide) (by decide) (Nat.le_of_ble_eq_true rfl) ?_
  refine g_aload_n dX9_take_53 rfl ?_
  refine g_getP dX9_take_54 fdX9_21 rfl (by first | rfl | exact pv_shx) (by omega) (by omega) (by decide) rfl (hP _ _ _ rfl) ?_
  refine g_iconst (v := nI 0) dX9_take_57 (by decide) ?_
  refine g_aload_n dX9_take_58 rfl ?_
  refine g_getP dX9_take_59 fdX9_21 rfl (by first | rfl | exact pv_shx) (by omega) (by omega) (by decide) rfl (hP _ _ _ rfl) ?_
  refine g_iconst (v := nI 0) dX9_take_62 (by decide) ?_
  refine g_bipush (v := nI 100) dX9_take_63 (by decide) ?_
  refine g_copyJ (R0 := 0) dX9_take_65 acX9_47 acN acS acI (rfl) (rfl) (by omega) (by omega) (by omega) (by omega) (by omega) (by decide) (by decide) (by decide) (Nat.le_of_ble_eq_true rfl) ?_
  refine g_aload_n dX9_take_68 rfl ?_
  refine g_aload_n dX9_take_69 rfl ?_
  refine n_getI dX9_take_70 fdX9_53 rfl (by first | rfl | exact pv_shx) (by omega) (by omega) (by decide) rfl (by repeat (first | (apply rd_s; done) | apply rd_n (by omega) | apply rp_s | apply rp_n (by omega) | (apply rdL_s; done) | apply rdL_n (by omega) | apply rpJ_s | apply rpJ_n (by omega) | rfl)) ?_
  refine n_putI dX9_take_73 fdX9_53 rfl (fun h => absurd h (by decide)) (by first | rfl | exact pv_shx) (by omega) (by omega) (by decide) rfl (by repeat (first | exact pvu_s | exact pvuJ_s | apply pvu_in (by omega) | apply pvuJ_in (by omega) | exact pvu_pvs | exact pvuJ_pvs)) ?_
  refine g_aload_n dX9_take_76 rfl ?_
  refine g_getP dX9_take_77 fdX9_25 rfl (by first | rfl | exact pv_shx) (by omega) (by omega) (by decide) rfl (hP _ _ _ rfl) ?_
  refine g_iconst (v := nI 0) dX9_take_80 (by decide) ?_
  refine g_aload_n dX9_take_81 rfl ?_
  refine g_getP dX9_take_82 fdX9_25 rfl (by first | rfl | exact pv_shx) (by omega) (by omega) (by decide) rfl (hP _ _ _ rfl) ?_
  refine g_iconst (v := nI 0) dX9_take_85 (by decide) ?_
  refine g_bipush (v := nI 10) dX9_take_86 (by decide) ?_
  refine g_copyI (R0 := 0) dX9_take_88 acX9_47 acN acS acI (rfl) (rfl) (by omega) (by omega) (by omega) (by omega) (by omega) (by decide) (by decide) (by decide) (Nat.le_of_ble_eq_true rfl) ?_
  refine g_aload_n dX9_take_91 rfl ?_
  refine g_getP dX9_take_92 fdX9_28 rfl (by first | rfl | exact pv_shx) (by omega) (by omega) (by decide) rfl (hP _ _ _ rfl) ?_
  refine g_iconst (v := nI 0) dX9_take_95 (by decide) ?_
  refine g_aload_n dX9_take_96 rfl ?_
  refine g_getP dX9_take_97 fdX9_28 rfl (by first | rfl | exact pv_shx) (by omega) (by omega) (by decide) rfl (hP _ _ _ rfl) ?_
  refine g_iconst (v := nI 0) dX9_take_100 (by decide) ?_
  refine g_bipush (v := nI 10) dX9_take_101 (by decide) ?_
  refine g_copyI (R0 := 0) dX9_take_103 acX9_47 acN acS acI (rfl) (rfl) (by omega) (by omega) (by omega) (by omega) (by omega) (by decide) (by decide) (by decide) (Nat.le_of_ble_eq_true rfl) ?_
  refine g_aload_n dX9_take_106 rfl ?_
  refine g_getP dX9_take_107 fdX9_31 rfl (by first | rfl | exact pv_shx) (by omega) (by omega) (by decide) rfl (hP _ _ _ rfl) ?_
  refine g_iconst (v := nI 0) dX9_take_110 (by decide) ?_
  refine g_aload_n dX9_take_111 rfl ?_
  refine g_getP dX9_take_112 fdX9_31 rfl (by first | rfl | exact pv_shx) (by omega) (by omega) (by decide) rfl (hP _ _ _ rfl) ?_
  refine g_iconst (v := nI 0) dX9_take_115 (by decide) ?_
  refine g_bipush (v := nI 10) dX9_take_116 (by decide) ?_
  refine g_copyI (R0 := 0) dX9_take_118 acX9_47 acN acS acI (rfl) (rfl) (by omega) (by omega) (by omega) (by omega) (by omega) (by decide) (by decide) (by decide) (Nat.le_of_ble_eq_true rfl) ?_
  refine g_aload_n dX9_take_121 rfl ?_
  refine g_getP dX9_take_122 fdX9_34 rfl (by first | rfl | exact pv_shx) (by omega) (by omega) (by decide) rfl (hP _ _ _ rfl) ?_
  refine g_iconst (v := nI 0) dX9_take_125 (by decide) ?_
  refine g_aload_n dX9_take_126 rfl ?_
  refine g_getP dX9_take_127 fdX9_34 rfl (by first | rfl | exact pv_shx) (by omega) (by omega) (by decide) rfl (hP _ _ _ rfl) ?_
  refine g_iconst (v := nI 0) dX9_take_130 (by decide) ?_
  refine g_bipush (v := nI 10) dX9_take_131 (by decide) ?_
  refine g_copyI (R0 := 0) dX9_take_133 acX9_47 acN acS acI (rfl) (rfl) (by omega) (by omega) (by omega) (by omega) (by omega) (by decide) (by decide) (by decide) (Nat.le_of_ble_eq_true rfl) ?_
  refine g_aload_n dX9_take_136 rfl ?_
  refine g_getP dX9_take_137 fdX9_37 rfl (by first | rfl | exact pv_shx) (by omega) (by omega) (by decide) rfl (hP _ _ _ rfl) ?_
  refine g_iconst (v := nI 0) dX9_take_140 (by decide) ?_
  refine g_aload_n dX9_take_141 rfl ?_
  refine g_getP dX9_take_142 fdX9_37 rfl (by first | rfl | exact pv_shx) (by omega) (by omega) (by decide) rfl (hP _ _ _ rfl) ?_
  refine g_iconst (v := nI 0) dX9_take_145 (by decide) ?_
  refine g_bipush (v := nI 10) dX9_take_146 (by decide) ?_
  refine g_copyI (R0 := 0) dX9_take_148 acX9_47 acN acS acI (rfl) (rfl) (by omega) (by omega) (by omega) (by omega) (by omega) (by decide) (by decide) (by decide) (Nat.le_of_ble_eq_true rfl) ?_
  refine g_aload_n dX9_take_151 rfl ?_
  refine g_getP dX9_take_152 fdX9_40 rfl (by first | rfl | exact pv_shx) (by omega) (by omega) (by decide) rfl (hP _ _ _ rfl) ?_
  refine g_iconst (v := nI 0) dX9_take_155 (by decide) ?_
  refine g_aload_n dX9_take_156 rfl ?_
  refine g_getP dX9_take_157 fdX9_40 rfl (by first | rfl | exact pv_shx) (by omega) (by omega) (by decide) rfl (hP _ _ _ rfl) ?_
  refine g_iconst (v := nI 0) dX9_take_160 (by decide) ?_
  refine g_bipush (v := nI 100) dX9_take_161 (by decide) ?_
  refine g_copyJ (R0 := 0) dX9_take_163 acX9_47 acN acS acI (rfl) (rfl) (by omega) (by omega) (by omega) (by omega) (by omega) (by decide) (by decide) (by decide) (Nat.le_of_ble_eq_true rfl) ?_
  exact g_vret dX9_take_166 rfl (⟨rfl, rfl, rfl, ⟨by simp [pvs, upd]; exact x1, fun k hk => by have y := x2 k hk; simp [pvs]; simp only [cpy_at (show k < 20 by omega)]; exact y, fun m hm => by simp [pvsJ]; rw [cpy_at hm]; exact x3 m hm, by simp [pvs, upd]; exact x4, fun k hk => by have y := x5 k hk; simp [pvs]; simp only [cpy_at (show k < 10 by omega)]; exact y, fun m hm => by simp [pvsJ]; rw [cpy_at hm]; exact x6 m hm⟩, fun x hx => ⟨by repeat (rw [pvs_ne (by omega)]), by repeat (rw [pvsJ_ne (by omega)])⟩⟩)
theorem c_takeK3 (hP : pvOkP P) (hg : mG a) (hr : rKno 46 a I) : pvMet mX4_take 1 0 0 [.ref 20, .ref 63] 224 I J P (pvq P (fun v I' J' => v = none ∧ rKno 3 a I' ∧ tkO 20 26 I J I' J')) := by
  obtain ⟨x1, x2, x3, x4⟩ := hr
  have n1 : cnt a 3 ≤ 8 := hg.le (by decide)
  have n2 : cnt a 4 ≤ 200 := hg.le (by decide)
  refine pvMet.of _ (by decide) rfl (Nat.le_of_ble_eq_true rfl) ?_
  refine g_aload_n dX4_take_0 rfl ?_
  refine g_aload_n dX4_take_1 rfl ?_
  refine n_getI dX4_take_2 fdX4_30 rfl (by first | rfl | exact pv_shx) (by omega) (by omega) (by decide) rfl (by repeat (first | (apply rd_s; done) | apply rd_n (by omega) | apply rp_s | apply rp_n (by omega) | (apply rdL_s; done) | apply rdL_n (by omega) | apply rpJ_s | apply rpJ_n (by omega) | rfl)) ?_
  refine n_putI dX4_take_5 fdX4_30 rfl (fun h => absurd h (by decide)) (by first | rfl | exact pv_shx) (by omega) (by omega) (by decide) rfl (by repeat (first | exact pvu_s | exact pvuJ_s | apply pvu_in (by omega) | apply pvuJ_in (by omega) | exact pvu_pvs | exact pvuJ_pvs)) ?_
  refine g_aload_n dX4_take_8 rfl ?_
  refine g_getP dX4_take_9 fdX4_9 rfl (by first | rfl | exact pv_shx) (by omega) (by omega) (by decide) rfl (hP _ _ _ rfl) ?_
  refine g_iconst (v := nI 0) dX4_take_12 (by decide) ?_
  refine g_aload_n dX4_take_13 rfl ?_
  refine g_getP dX4_take_14 fdX4_9 rfl (by first | rfl | exact pv_shx) (by omega) (by omega) (by decide) rfl (hP _ _ _ rfl) ?_
  refine g_iconst (v := nI 0) dX4_take_17 (by decide) ?_
  refine g_bipush (v := nI 8) dX4_take_18 (by decide) ?_
  refine g_copyI (R0 := 0) dX4_take_20 acX4_34 acN acS acI (rfl) (rfl) (by omega) (by omega) (by omega) (by omega) (by omega) (by decide) (by decide) (by decide) (Nat.le_of_ble_eq_true rfl) ?_
  refine g_aload_n dX4_take_23 rfl ?_
  refine g_getP dX4_take_24 fdX4_15 rfl (by first | rfl | exact pv_shx) (by omega) (by omega) (by decide) rfl (hP _ _ _ rfl) ?_
  refine g_iconst (v := nI 0) dX4_take_27 (by decide) ?_
  refine g_aload_n dX4_take_28 rfl ?_
  refine g_getP dX4_take_29 fdX4_15 rfl (by first | rfl | exact pv_shx) (by omega) (by omega) (by decide) rfl (hP _ _ _ rfl) ?_
  refine g_iconst (v := nI 0) dX4_take_32 (by decide) ?_
  refine g_bipush (v := nI 8) dX4_take_33 (by decide) ?_
  refine g_copyI (R0 := 0) dX4_take_35 acX4_34 acN acS acI (rfl) (rfl) (by omega) (by omega) (by omega) (by omega) (by omega) (by decide) (by decide) (by decide) (Nat.le_of_ble_eq_true rfl) ?_
  refine g_aload_n dX4_take_38 rfl ?_
  refine g_aload_n dX4_take_39 rfl ?_
  refine n_getI dX4_take_40 fdX4_40 rfl (by first | rfl | exact pv_shx) (by omega) (by omega) (by decide) rfl (by repeat (first | (apply rd_s; done) | apply rd_n (by omega) | apply rp_s | apply rp_n (by omega) | (apply rdL_s; done) | apply rdL_n (by omega) | apply rpJ_s | apply rpJ_n (by omega) | rfl)) ?_
  refine n_putI dX4_take_43 fdX4_40 rfl (fun h => absurd h (by decide)) (by first | rfl | exact pv_shx) (by omega) (by omega) (by decide) rfl (by repeat (first | exact pvu_s | exact pvuJ_s | apply pvu_in (by omega) | apply pvuJ_in (by omega) | exact pvu_pvs | exact pvuJ_pvs)) ?_
  refine g_aload_n dX4_take_46 rfl ?_
  refine g_getP dX4_take_47 fdX4_18 rfl (by first | rfl | exact pv_shx) (by omega) (by omega) (by decide) rfl (hP _ _ _ rfl) ?_
  refine g_iconst (v := nI 0) dX4_take_50 (by decide) ?_
  refine g_aload_n dX4_take_51 rfl ?_
  refine g_getP dX4_take_52 fdX4_18 rfl (by first | rfl | exact pv_shx) (by omega) (by omega) (by decide) rfl (hP _ _ _ rfl) ?_
  refine g_iconst (v := nI 0) dX4_take_55 (by decide) ?_
  refine g_sipush (v := nI 200) dX4_take_56 (by decide) ?_
  refine g_copyI (R0 := 0) dX4_take_59 acX4_34 acN acS acI (rfl) (rfl) (by omega) (by omega) (by omega) (by omega) (by omega) (by decide) (by decide) (by decide) (Nat.le_of_ble_eq_true rfl) ?_
  refine g_aload_n dX4_take_62 rfl ?_
  refine g_getP dX4_take_63 fdX4_21 rfl (by first | rfl | exact pv_shx) (by omega) (by omega) (by decide) rfl (hP _ _ _ rfl) ?_
  refine g_iconst (v := nI 0) dX4_take_66 (by decide) ?_
  refine g_aload_n dX4_take_67 rfl ?_
  refine g_getP dX4_take_68 fdX4_21 rfl (by first | rfl | exact pv_shx) (by omega) (by omega) (by decide) rfl (hP _ _ _ rfl) ?_
  refine g_iconst (v := nI 0) dX4_take_71 (by decide) ?_
  refine g_sipush (v := nI 200) dX4_take_72 (by decide) ?_
  refine g_copyI (R0 := 0) dX4_take_75 acX4_34 acN acS acI (rfl) (rfl) (by omega) (by omega) (by omega) (by omega) (by omega) (by decide) (by decide) (by decide) (Nat.le_of_ble_eq_true rfl) ?_
  refine g_aload_n dX4_take_78 rfl ?_
  refine g_getP dX4_take_79 fdX4_24 rfl (by first | rfl | exact pv_shx) (by omega) (by omega) (by decide) rfl (hP _ _ _ rfl) ?_
  refine g_iconst (v := nI 0) dX4_take_82 (by decide) ?_
  refine g_aload_n dX4_take_83 rfl ?_
  refine g_getP dX4_take_84 fdX4_24 rfl (by first | rfl | exact pv_shx) (by omega) (by omega) (by decide) rfl (hP _ _ _ rfl) ?_
  refine g_iconst (v := nI 0) dX4_take_87 (by decide) ?_
  refine g_sipush (v := nI 200) dX4_take_88 (by decide) ?_
  refine g_copyI (R0 := 0) dX4_take_91 acX4_34 acN acS acI (rfl) (rfl) (by omega) (by omega) (by omega) (by omega) (by omega) (by decide) (by decide) (by decide) (Nat.le_of_ble_eq_true rfl) ?_
  refine g_aload_n dX4_take_94 rfl ?_
  refine g_getP dX4_take_95 fdX4_27 rfl (by first | rfl | exact pv_shx) (by omega) (by omega) (by decide) rfl (hP _ _ _ rfl) ?_
  refine g_iconst (v := nI 0) dX4_take_98 (by decide) ?_
  refine g_aload_n dX4_take_99 rfl ?_
  refine g_getP dX4_take_100 fdX4_27 rfl (by first | rfl | exact pv_shx) (by omega) (by omega) (by decide) rfl (hP _ _ _ rfl) ?_
  refine g_iconst (v := nI 0) dX4_take_103 (by decide) ?_
  refine g_sipush (v := nI 200) dX4_take_104 (by decide) ?_
  refine g_copyI (R0 := 0) dX4_take_107 acX4_34 acN acS acI (rfl) (rfl) (by omega) (by omega) (by omega) (by omega) (by omega) (by decide) (by decide) (by decide) (Nat.le_of_ble_eq_true rfl) ?_
  exact g_vret dX4_take_110 rfl (⟨rfl, rfl, rfl, ⟨by simp [pvs, upd]; exact x1, fun k hk => by have y := x2 k hk; simp [pvs]; simp only [cpy_at (show k < 8 by omega)]; exact y, by simp [pvs, upd]; exact x3, fun k hk => by have y := x4 k hk; simp [pvs]; simp only [cpy_at (show k < 200 by omega)]; exact y⟩, fun x hx => ⟨by repeat (rw [pvs_ne (by omega)]), rfl⟩⟩)
theorem c_takeT3 (hP : pvOkP P) (hg : mG a) (hr : rTwn 46 a I) : pvMet mX7_take 1 0 0 [.ref 27, .ref 70] 224 I J P (pvq P (fun v I' J' => v = none ∧ rTwn 3 a I' ∧ tkO 27 38 I J I' J')) := by
  obtain ⟨x1, x2, x3, x4, x5, x6⟩ := hr
  have n1 : cnt a 5 ≤ 20 := hg.le (by decide)
  have n2 : cnt a 6 ≤ 60 := hg.le (by decide)
  refine pvMet.of _ (by decide) rfl (Nat.le_of_ble_eq_true rfl) ?_
  refine g_aload_n dX7_take_0 rfl ?_
  refine g_aload_n dX7_take_1 rfl ?_
  refine n_getI dX7_take_2 fdX7_45 rfl (by first | rfl | exact pv_shx) (by omega) (by omega) (by decide) rfl (by repeat (first | (apply rd_s; done) | apply rd_n (by omega) | apply rp_s | apply rp_n (by omega) | (apply rdL_s; done) | apply rdL_n (by omega) | apply rpJ_s | apply rpJ_n (by omega) | rfl)) ?_
  refine n_putI dX7_take_5 fdX7_45 rfl (fun h => absurd h (by decide)) (by first | rfl | exact pv_shx) (by omega) (by omega) (by decide) rfl (by repeat (first | exact pvu_s | exact pvuJ_s | apply pvu_in (by omega) | apply pvuJ_in (by omega) | exact pvu_pvs | exact pvuJ_pvs)) ?_
  refine g_aload_n dX7_take_8 rfl ?_
  refine g_getP dX7_take_9 fdX7_11 rfl (by first | rfl | exact pv_shx) (by omega) (by omega) (by decide) rfl (hP _ _ _ rfl) ?_
  refine g_iconst (v := nI 0) dX7_take_12 (by decide) ?_
  refine g_aload_n dX7_take_13 rfl ?_
  refine g_getP dX7_take_14 fdX7_11 rfl (by first | rfl | exact pv_shx) (by omega) (by omega) (by decide) rfl (hP _ _ _ rfl) ?_
  refine g_iconst (v := nI 0) dX7_take_17 (by decide) ?_
  refine g_bipush (v := nI 20) dX7_take_18 (by decide) ?_
  refine g_copyI (R0 := 0) dX7_take_20 acX7_49 acN acS acI (rfl) (rfl) (by omega) (by omega) (by omega) (by omega) (by omega) (by decide) (by decide) (by decide) (Nat.le_of_ble_eq_true rfl) ?_
  refine g_aload_n dX7_take_23 rfl ?_
  refine g_getP dX7_take_24 fdX7_15 rfl (by first | rfl | exact pv_shx) (by omega) (by omega) (by decide) rfl (hP _ _ _ rfl) ?_
  refine g_iconst (v := nI 0) dX7_take_27 (by decide) ?_
  refine g_aload_n dX7_take_28 rfl ?_
  refine g_getP dX7_take_29 fdX7_15 rfl (by first | rfl | exact pv_shx) (by omega) (by omega) (by decide) rfl (hP _ _ _ rfl) ?_
  refine g_iconst (v := nI 0) dX7_take_32 (by decide) ?_
  refine g_bipush (v := nI 20) dX7_take_33 (by decide) ?_
  refine g_copyI (R0 := 0) dX7_take_35 acX7_49 acN acS acI (rfl) (rfl) (by omega) (by omega) (by omega) (by omega) (by omega) (by decide) (by decide) (by decide) (Nat.le_of_ble_eq_true rfl) ?_
  refine g_aload_n dX7_take_38 rfl ?_
  refine g_getP dX7_take_39 fdX7_18 rfl (by first | rfl | exact pv_shx) (by omega) (by omega) (by decide) rfl (hP _ _ _ rfl) ?_
  refine g_iconst (v := nI 0) dX7_take_42 (by decide) ?_
  refine g_aload_n dX7_take_43 rfl ?_
  refine g_getP dX7_take_44 fdX7_18 rfl (by first | rfl | exact pv_shx) (by omega) (by omega) (by decide) rfl (hP _ _ _ rfl) ?_
  refine g_iconst (v := nI 0) dX7_take_47 (by decide) ?_
  refine g_bipush (v := nI 20) dX7_take_48 (by decide) ?_
  refine g_copyI (R0 := 0) dX7_take_50 acX7_49 acN acS acI (rfl) (rfl) (by omega) (by omega) (by omega) (by omega) (by omega) (by decide) (by decide) (by decide) (Nat.le_of_ble_eq_true rfl) ?_
  refine g_aload_n dX7_take_53 rfl ?_
  refine g_getP dX7_take_54 fdX7_21 rfl (by first | rfl | exact pv_shx) (by omega) (by omega) (by decide) rfl (hP _ _ _ rfl) ?_
  refine g_iconst (v := nI 0) dX7_take_57 (by decide) ?_
  refine g_aload_n dX7_take_58 rfl ?_
  refine g_getP dX7_take_59 fdX7_21 rfl (by first | rfl | exact pv_shx) (by omega) (by omega) (by decide) rfl (hP _ _ _ rfl) ?_
  refine g_iconst (v := nI 0) dX7_take_62 (by decide) ?_
  refine g_bipush (v := nI 20) dX7_take_63 (by decide) ?_
  refine g_copyI (R0 := 0) dX7_take_65 acX7_49 acN acS acI (rfl) (rfl) (by omega) (by omega) (by omega) (by omega) (by omega) (by decide) (by decide) (by decide) (Nat.le_of_ble_eq_true rfl) ?_
  refine g_aload_n dX7_take_68 rfl ?_
  refine g_getP dX7_take_69 fdX7_24 rfl (by first | rfl | exact pv_shx) (by omega) (by omega) (by decide) rfl (hP _ _ _ rfl) ?_
  refine g_iconst (v := nI 0) dX7_take_72 (by decide) ?_
  refine g_aload_n dX7_take_73 rfl ?_
  refine g_getP dX7_take_74 fdX7_24 rfl (by first | rfl | exact pv_shx) (by omega) (by omega) (by decide) rfl (hP _ _ _ rfl) ?_
  refine g_iconst (v := nI 0) dX7_take_77 (by decide) ?_
  refine g_bipush (v := nI 20) dX7_take_78 (by decide) ?_
  refine g_copyI (R0 := 0) dX7_take_80 acX7_49 acN acS acI (rfl) (rfl) (by omega) (by omega) (by omega) (by omega) (by omega) (by decide) (by decide) (by decide) (Nat.le_of_ble_eq_true rfl) ?_
  refine g_aload_n dX7_take_83 rfl ?_
  refine g_aload_n dX7_take_84 rfl ?_
  refine n_getI dX7_take_85 fdX7_55 rfl (by first | rfl | exact pv_shx) (by omega) (by omega) (by decide) rfl (by repeat (first | (apply rd_s; done) | apply rd_n (by omega) | apply rp_s | apply rp_n (by omega) | (apply rdL_s; done) | apply rdL_n (by omega) | apply rpJ_s | apply rpJ_n (by omega) | rfl)) ?_
  refine n_putI dX7_take_88 fdX7_55 rfl (fun h => absurd h (by decide)) (by first | rfl | exact pv_shx) (by omega) (by omega) (by decide) rfl (by repeat (first | exact pvu_s | exact pvuJ_s | apply pvu_in (by omega) | apply pvuJ_in (by omega) | exact pvu_pvs | exact pvuJ_pvs)) ?_
  refine g_aload_n dX7_take_91 rfl ?_
  refine g_getP dX7_take_92 fdX7_27 rfl (by first | rfl | exact pv_shx) (by omega) (by omega) (by decide) rfl (hP _ _ _ rfl) ?_
  refine g_iconst (v := nI 0) dX7_take_95 (by decide) ?_
  refine g_aload_n dX7_take_96 rfl ?_
  refine g_getP dX7_take_97 fdX7_27 rfl (by first | rfl | exact pv_shx) (by omega) (by omega) (by decide) rfl (hP _ _ _ rfl) ?_
  refine g_iconst (v := nI 0) dX7_take_100 (by decide) ?_
  refine g_bipush (v := nI 60) dX7_take_101 (by decide) ?_
  refine g_copyI (R0 := 0) dX7_take_103 acX7_49 acN acS acI (rfl) (rfl) (by omega) (by omega) (by omega) (by omega) (by omega) (by decide) (by decide) (by decide) (Nat.le_of_ble_eq_true rfl) ?_
  refine g_aload_n dX7_take_106 rfl ?_
  refine g_getP dX7_take_107 fdX7_30 rfl (by first | rfl | exact pv_shx) (by omega) (by omega) (by decide) rfl (hP _ _ _ rfl) ?_
  refine g_iconst (v := nI 0) dX7_take_110 (by decide) ?_
  refine g_aload_n dX7_take_111 rfl ?_
  refine g_getP dX7_take_112 fdX7_30 rfl (by first | rfl | exact pv_shx) (by omega) (by omega) (by decide) rfl (hP _ _ _ rfl) ?_
  refine g_iconst (v := nI 0) dX7_take_115 (by decide) ?_
  refine g_bipush (v := nI 60) dX7_take_116 (by decide) ?_
  refine g_copyI (R0 := 0) dX7_take_118 acX7_49 acN acS acI (rfl) (rfl) (by omega) (by omega) (by omega) (by omega) (by omega) (by decide) (by decide) (by decide) (Nat.le_of_ble_eq_true rfl) ?_
  refine g_aload_n dX7_take_121 rfl ?_
  refine g_getP dX7_take_122 fdX7_33 rfl (by first | rfl | exact pv_shx) (by omega) (by omega) (by decide) rfl (hP _ _ _ rfl) ?_
  refine g_iconst (v := nI 0) dX7_take_125 (by decide) ?_
  refine g_aload_n dX7_take_126 rfl ?_
  refine g_getP dX7_take_127 fdX7_33 rfl (by first | rfl | exact pv_shx) (by omega) (by omega) (by decide) rfl (hP _ _ _ rfl) ?_
  refine g_iconst (v := nI 0) dX7_take_130 (by decide) ?_
  refine g_bipush (v := nI 60) dX7_take_131 (by decide) ?_
  refine g_copyI (R0 := 0) dX7_take_133 acX7_49 acN acS acI (rfl) (rfl) (by omega) (by omega) (by omega) (by omega) (by omega) (by decide) (by decide) (by decide) (Nat.le_of_ble_eq_true rfl) ?_
  refine g_aload_n dX7_take_136 rfl ?_
  refine g_getP dX7_take_137 fdX7_36 rfl (by first | rfl | exact pv_shx) (by omega) (by omega) (by decide) rfl (hP _ _ _ rfl) ?_
  refine g_iconst (v := nI 0) dX7_take_140 (by decide) ?_
  refine g_aload_n dX7_take_141 rfl ?_
  refine g_getP dX7_take_142 fdX7_36 rfl (by first | rfl | exact pv_shx) (by omega) (by omega) (by decide) rfl (hP _ _ _ rfl) ?_
  refine g_iconst (v := nI 0) dX7_take_145 (by decide) ?_
  refine g_bipush (v := nI 60) dX7_take_146 (by decide) ?_
  refine g_copyI (R0 := 0) dX7_take_148 acX7_49 acN acS acI (rfl) (rfl) (by omega) (by omega) (by omega) (by omega) (by omega) (by decide) (by decide) (by decide) (Nat.le_of_ble_eq_true rfl) ?_
  refine g_aload_n dX7_take_151 rfl ?_
  refine g_getP dX7_take_152 fdX7_39 rfl (by first | rfl | exact pv_shx) (by omega) (by omega) (by decide) rfl (hP _ _ _ rfl) ?_
  refine g_iconst (v := nI 0) dX7_take_155 (by decide) ?_
  refine g_aload_n dX7_take_156 rfl ?_
  refine g_getP dX7_take_157 fdX7_39 rfl (by first | rfl | exact pv_shx) (by omega) (by omega) (by decide) rfl (hP _ _ _ rfl) ?_
  refine g_iconst (v := nI 0) dX7_take_160 (by decide) ?_
  refine g_bipush (v := nI 60) dX7_take_161 (by decide) ?_
  refine g_copyI (R0 := 0) dX7_take_163 acX7_49 acN acS acI (rfl) (rfl) (by omega) (by omega) (by omega) (by omega) (by omega) (by decide) (by decide) (by decide) (Nat.le_of_ble_eq_true rfl) ?_
  refine g_aload_n dX7_take_166 rfl ?_
  refine g_getP dX7_take_167 fdX7_42 rfl (by first | rfl | exact pv_shx) (by omega) (by omega) (by decide) rfl (hP _ _ _ rfl) ?_
  refine g_iconst (v := nI 0) dX7_take_170 (by decide) ?_
  refine g_aload_n dX7_take_171 rfl ?_
  refine g_getP dX7_take_172 fdX7_42 rfl (by first | rfl | exact pv_shx) (by omega) (by omega) (by decide) rfl (hP _ _ _ rfl) ?_
  refine g_iconst (v := nI 0) dX7_take_175 (by decide) ?_
  refine g_bipush (v := nI 10) dX7_take_176 (by decide) ?_
  refine g_copyI (R0 := 0) dX7_take_178 acX7_49 acN acS acI (rfl) (rfl) (by omega) (by omega) (by omega) (by omega) (by omega) (by decide) (by decide) (by decide) (Nat.le_of_ble_eq_true rfl) ?_
  refine g_aload_n dX7_take_181 rfl ?_
  refine g_aload_n dX7_take_182 rfl ?_
  refine n_getI dX7_take_183 fdX7_58 rfl (by first | rfl | exact pv_shx) (by omega) (by omega) (by decide) rfl (by repeat (first | (apply rd_s; done) | apply rd_n (by omega) | apply rp_s | apply rp_n (by omega) | (apply rdL_s; done) | apply rdL_n (by omega) | apply rpJ_s | apply rpJ_n (by omega) | rfl)) ?_
  refine n_putI dX7_take_186 fdX7_58 rfl (fun h => absurd h (by decide)) (by first | rfl | exact pv_shx) (by omega) (by omega) (by decide) rfl (by repeat (first | exact pvu_s | exact pvuJ_s | apply pvu_in (by omega) | apply pvuJ_in (by omega) | exact pvu_pvs | exact pvuJ_pvs)) ?_
  exact g_vret dX7_take_189 rfl (⟨rfl, rfl, rfl, ⟨by simp [pvs, upd]; exact x1, fun k hk => by have y := x2 k hk; simp [pvs]; simp only [cpy_at (show k < 20 by omega)]; exact y, by simp [pvs, upd]; exact x3, fun k hk => by have y := x4 k hk; simp [pvs]; simp only [cpy_at (show k < 60 by omega)]; exact y, fun k hk => by have y := x5 k hk; simp [pvs]; simp only [cpy_at (show k < 10 by omega)]; exact y, by simp [pvs, upd]; exact x6⟩, fun x hx => ⟨by repeat (rw [pvs_ne (by omega)]), rfl⟩⟩)
theorem c_takeL3 (hP : pvOkP P) (hg : mG a) (hr : rLaw 46 a I) : pvMet mX5_take 1 0 0 [.ref 39, .ref 82] 224 I J P (pvq P (fun v I' J' => v = none ∧ rLaw 3 a I' ∧ tkO 39 42 I J I' J')) := by
  obtain ⟨x1, x2, x3⟩ := hr
  have n1 : cnt a 9 ≤ 30 := hg.le (by decide)
  refine pvMet.of _ (by decide) rfl (Nat.le_of_ble_eq_true rfl) ?_
  refine g_aload_n dX5_take_0 rfl ?_
  refine g_aload_n dX5_take_1 rfl ?_
  refine n_getI dX5_take_2 fdX5_19 rfl (by first | rfl | exact pv_shx) (by omega) (by omega) (by decide) rfl (by repeat (first | (apply rd_s; done) | apply rd_n (by omega) | apply rp_s | apply rp_n (by omega) | (apply rdL_s; done) | apply rdL_n (by omega) | apply rpJ_s | apply rpJ_n (by omega) | rfl)) ?_
  refine n_putI dX5_take_5 fdX5_19 rfl (fun h => absurd h (by decide)) (by first | rfl | exact pv_shx) (by omega) (by omega) (by decide) rfl (by repeat (first | exact pvu_s | exact pvuJ_s | apply pvu_in (by omega) | apply pvuJ_in (by omega) | exact pvu_pvs | exact pvuJ_pvs)) ?_
  refine g_aload_n dX5_take_8 rfl ?_
  refine g_aload_n dX5_take_9 rfl ?_
  refine n_getI dX5_take_10 fdX5_23 rfl (by first | rfl | exact pv_shx) (by omega) (by omega) (by decide) rfl (by repeat (first | (apply rd_s; done) | apply rd_n (by omega) | apply rp_s | apply rp_n (by omega) | (apply rdL_s; done) | apply rdL_n (by omega) | apply rpJ_s | apply rpJ_n (by omega) | rfl)) ?_
  refine n_putI dX5_take_13 fdX5_23 rfl (fun h => absurd h (by decide)) (by first | rfl | exact pv_shx) (by omega) (by omega) (by decide) rfl (by repeat (first | exact pvu_s | exact pvuJ_s | apply pvu_in (by omega) | apply pvuJ_in (by omega) | exact pvu_pvs | exact pvuJ_pvs)) ?_
  refine g_aload_n dX5_take_16 rfl ?_
  refine g_getP dX5_take_17 fdX5_9 rfl (by first | rfl | exact pv_shx) (by omega) (by omega) (by decide) rfl (hP _ _ _ rfl) ?_
  refine g_iconst (v := nI 0) dX5_take_20 (by decide) ?_
  refine g_aload_n dX5_take_21 rfl ?_
  refine g_getP dX5_take_22 fdX5_9 rfl (by first | rfl | exact pv_shx) (by omega) (by omega) (by decide) rfl (hP _ _ _ rfl) ?_
  refine g_iconst (v := nI 0) dX5_take_25 (by decide) ?_
  refine g_bipush (v := nI 30) dX5_take_26 (by decide) ?_
  refine g_copyI (R0 := 0) dX5_take_28 acX5_26 acN acS acI (rfl) (rfl) (by omega) (by omega) (by omega) (by omega) (by omega) (by decide) (by decide) (by decide) (Nat.le_of_ble_eq_true rfl) ?_
  refine g_aload_n dX5_take_31 rfl ?_
  refine g_getP dX5_take_32 fdX5_13 rfl (by first | rfl | exact pv_shx) (by omega) (by omega) (by decide) rfl (hP _ _ _ rfl) ?_
  refine g_iconst (v := nI 0) dX5_take_35 (by decide) ?_
  refine g_aload_n dX5_take_36 rfl ?_
  refine g_getP dX5_take_37 fdX5_13 rfl (by first | rfl | exact pv_shx) (by omega) (by omega) (by decide) rfl (hP _ _ _ rfl) ?_
  refine g_iconst (v := nI 0) dX5_take_40 (by decide) ?_
  refine g_bipush (v := nI 30) dX5_take_41 (by decide) ?_
  refine g_copyI (R0 := 0) dX5_take_43 acX5_26 acN acS acI (rfl) (rfl) (by omega) (by omega) (by omega) (by omega) (by omega) (by decide) (by decide) (by decide) (Nat.le_of_ble_eq_true rfl) ?_
  refine g_aload_n dX5_take_46 rfl ?_
  refine g_getP dX5_take_47 fdX5_16 rfl (by first | rfl | exact pv_shx) (by omega) (by omega) (by decide) rfl (hP _ _ _ rfl) ?_
  refine g_iconst (v := nI 0) dX5_take_50 (by decide) ?_
  refine g_aload_n dX5_take_51 rfl ?_
  refine g_getP dX5_take_52 fdX5_16 rfl (by first | rfl | exact pv_shx) (by omega) (by omega) (by decide) rfl (hP _ _ _ rfl) ?_
  refine g_iconst (v := nI 0) dX5_take_55 (by decide) ?_
  refine g_bipush (v := nI 30) dX5_take_56 (by decide) ?_
  refine g_copyI (R0 := 0) dX5_take_58 acX5_26 acN acS acI (rfl) (rfl) (by omega) (by omega) (by omega) (by omega) (by omega) (by decide) (by decide) (by decide) (Nat.le_of_ble_eq_true rfl) ?_
  exact g_vret dX5_take_61 rfl (⟨rfl, rfl, rfl, ⟨by simp [pvs, upd]; exact x1, by simp [pvs, upd]; exact x2, fun k hk => by have y := x3 k hk; simp [pvs]; simp only [cpy_at (show k < 30 by omega)]; exact y⟩, fun x hx => ⟨by repeat (rw [pvs_ne (by omega)]), rfl⟩⟩)
theorem c_wf3 (hP : pvOkP P) : pvMet mX8_forget 0 0 0 [.ref 43] 224 I J P (pvq P (fun v I' J' => v = none ∧ J' = J ∧ I' = pvs I 43 (upd (upd (I 43) 3 (-1)) 4 (-1)))) := by
  refine pvMet.of _ (by decide) rfl (Nat.le_of_ble_eq_true rfl) ?_
  refine g_aload_n dX8_forget_0 rfl ?_
  refine g_iconst (v := (-1)) dX8_forget_1 (by decide) ?_
  refine n_putI dX8_forget_2 fdX8_18 rfl (fun h => absurd h (by decide)) (by first | rfl | exact pv_shx) (by omega) (by omega) (by decide) rfl (by repeat (first | exact pvu_s | exact pvuJ_s | apply pvu_in (by omega) | apply pvuJ_in (by omega) | exact pvu_pvs | exact pvuJ_pvs)) ?_
  refine g_aload_n dX8_forget_5 rfl ?_
  refine g_iconst (v := (-1)) dX8_forget_6 (by decide) ?_
  refine n_putI dX8_forget_7 fdX8_22 rfl (fun h => absurd h (by decide)) (by first | rfl | exact pv_shx) (by omega) (by omega) (by decide) rfl (by repeat (first | exact pvu_s | exact pvuJ_s | apply pvu_in (by omega) | apply pvuJ_in (by omega) | exact pvu_pvs | exact pvuJ_pvs)) ?_
  exact g_vret dX8_forget_10 rfl (⟨rfl, rfl, rfl, rfl, rfl⟩)
theorem c_takeP3 (hP : pvOkP P) (hg : mG a) (hr : rWal 46 a I) : pvMet mX8_take 1 0 0 [.ref 43, .ref 86] 224 I J P (pvq P (fun v I' J' => v = none ∧ rWal 3 a I' ∧ I' 43 3 = -1 ∧ tkO 43 45 I J I' J')) := by
  obtain ⟨x1, x2⟩ := hr
  have n1 : cnt a 10 ≤ 6 := hg.le (by decide)
  have wf := fun I1 => c_wf3 (I := I1) (J := J) hP
  refine pvMet.of _ (by decide) rfl (Nat.le_of_ble_eq_true rfl) ?_
  refine g_aload_n dX8_take_0 rfl ?_
  refine g_aload_n dX8_take_1 rfl ?_
  refine n_getI dX8_take_2 fdX8_25 rfl (by first | rfl | exact pv_shx) (by omega) (by omega) (by decide) rfl (by repeat (first | (apply rd_s; done) | apply rd_n (by omega) | apply rp_s | apply rp_n (by omega) | (apply rdL_s; done) | apply rdL_n (by omega) | apply rpJ_s | apply rpJ_n (by omega) | rfl)) ?_
  refine n_putI dX8_take_5 fdX8_25 rfl (fun h => absurd h (by decide)) (by first | rfl | exact pv_shx) (by omega) (by omega) (by decide) rfl (by repeat (first | exact pvu_s | exact pvuJ_s | apply pvu_in (by omega) | apply pvuJ_in (by omega) | exact pvu_pvs | exact pvuJ_pvs)) ?_
  refine g_aload_n dX8_take_8 rfl ?_
  refine g_getP dX8_take_9 fdX8_11 rfl (by first | rfl | exact pv_shx) (by omega) (by omega) (by decide) rfl (hP _ _ _ rfl) ?_
  refine g_iconst (v := nI 0) dX8_take_12 (by decide) ?_
  refine g_aload_n dX8_take_13 rfl ?_
  refine g_getP dX8_take_14 fdX8_11 rfl (by first | rfl | exact pv_shx) (by omega) (by omega) (by decide) rfl (hP _ _ _ rfl) ?_
  refine g_iconst (v := nI 0) dX8_take_17 (by decide) ?_
  refine g_bipush (v := nI 6) dX8_take_18 (by decide) ?_
  refine g_copyI (R0 := 0) dX8_take_20 acX8_28 acN acS acI (rfl) (rfl) (by omega) (by omega) (by omega) (by omega) (by omega) (by decide) (by decide) (by decide) (Nat.le_of_ble_eq_true rfl) ?_
  refine g_aload_n dX8_take_23 rfl ?_
  refine g_getP dX8_take_24 fdX8_15 rfl (by first | rfl | exact pv_shx) (by omega) (by omega) (by decide) rfl (hP _ _ _ rfl) ?_
  refine g_iconst (v := nI 0) dX8_take_27 (by decide) ?_
  refine g_aload_n dX8_take_28 rfl ?_
  refine g_getP dX8_take_29 fdX8_15 rfl (by first | rfl | exact pv_shx) (by omega) (by omega) (by decide) rfl (hP _ _ _ rfl) ?_
  refine g_iconst (v := nI 0) dX8_take_32 (by decide) ?_
  refine g_bipush (v := nI 6) dX8_take_33 (by decide) ?_
  refine g_copyI (R0 := 0) dX8_take_35 acX8_28 acN acS acI (rfl) (rfl) (by omega) (by omega) (by omega) (by omega) (by omega) (by decide) (by decide) (by decide) (Nat.le_of_ble_eq_true rfl) ?_
  refine g_aload_n dX8_take_38 rfl ?_
  refine g_callV ((wf _)) okX8_forget lkX8_34 rfl (by first | rfl | exact pv_shx) rfl (by omega) (by omega) dX8_take_39 rfl (Nat.le_of_ble_eq_true rfl) (⟨by decide, by decide, by decide, by decide⟩) ?_
  rintro v nx' I2 J2 P' ⟨rfl, rfl, rfl, rfl, rfl⟩
  exact g_vret dX8_take_42 rfl (⟨rfl, rfl, rfl, ⟨by simp [pvs, upd]; exact x1, fun k hk => by have y := x2 k hk; simp [pvs]; simp only [cpy_at (show k < 6 by omega)]; exact y⟩, by simp [pvs, upd], fun x hx => ⟨by repeat (rw [pvs_ne (by omega)]), rfl⟩⟩)
end TA2
