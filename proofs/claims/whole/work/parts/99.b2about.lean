/-! class: about -/
section AB2
variable {w h : Nat} {a : Nat → Int32} {I : pvI} {J : pvJ} {P : pvP}
theorem c_about_no {v : Int32} (hv : v.toInt < 0 ∨ 13 < v.toInt) : pvMet mX11_about 1 0 0 [.ref 1, .int v] 224 I J P (pvpu (.int (-1)) 224 I J P) := by
  refine pvMet.of _ (by decide) rfl (Nat.le_of_ble_eq_true rfl) ?_
  refine g_iload_n dX11_about_0 rfl ?_
  refine g_tableOut 214 dX11_about_1 hv (by decide) ?_
  refine g_iconst (v := -1) dX11_about_214 (by decide) ?_
  exact g_iret dX11_about_215 rfl ⟨rfl, rfl, rfl, rfl, rfl⟩
theorem c_about {k : Nat} (hP : pvOkP P) (hb : kB w h a I J) (hk : k < 14) : pvMet mX11_about 1 0 0 [.ref 1, .int (nI k)] 224 I J P (pvpu (.int (sp_about w h a (I 144 1) k)) 224 I J P) := by
  have x0 : I 3 0 = a 0 := hb.2.1.1
  have x1 : I 2 0 = nI w := hb.1.1
  have x2 : I 2 1 = nI h := hb.1.2.1
  have x3 : I 9 0 = a 1 := hb.2.1.2.2.1.1
  have x4 : I 9 5 = a 2 := hb.2.1.2.2.1.2.2.2.1
  have x5 : I 20 0 = a 3 := hb.2.1.2.2.2.1.1
  have x6 : I 20 3 = a 4 := hb.2.1.2.2.2.1.2.2.1
  have x7 : I 27 0 = a 5 := hb.2.1.2.2.2.2.1.1
  have x8 : I 27 6 = a 6 := hb.2.1.2.2.2.2.1.2.2.1
  have x9 := c_went hP hb
  have x10 : I 39 0 = a 8 := hb.2.1.2.2.2.2.2.1.1
  have x11 : I 39 1 = a 9 := hb.2.1.2.2.2.2.2.1.2.1
  have x12 : I 43 0 = a 10 := hb.2.1.2.2.2.2.2.2.1
  rcases (show k = 0 ∨ k = 1 ∨ k = 2 ∨ k = 3 ∨ k = 4 ∨ k = 5 ∨ k = 6 ∨ k = 7 ∨ k = 8 ∨ k = 9 ∨ k = 10 ∨ k = 11 ∨ k = 12 ∨ k = 13 by omega) with rfl | rfl | rfl | rfl | rfl | rfl | rfl | rfl | rfl | rfl | rfl | rfl | rfl | rfl
  · skip
    refine pvMet.of _ (by decide) rfl (Nat.le_of_ble_eq_true rfl) ?_
    refine g_iload_n dX11_about_0 rfl ?_
    refine g_tableIn 72 dX11_about_1 (by decide) (by decide) (off := 71) (by decide) (by decide) ?_
    refine g_aload_n dX11_about_72 rfl ?_
    refine g_getP dX11_about_73 fdX11_32 rfl (by first | rfl | exact pv_shx) (by omega) (by omega) (by decide) rfl (hP _ _ _ rfl) ?_
    refine n_getI dX11_about_76 fdX11_77 rfl (by first | rfl | exact pv_shx) (by omega) (by omega) (by decide) rfl (by repeat (first | exact x0 | (apply rd_s; done) | apply rd_n (by omega) | apply rp_s | apply rp_n (by omega) | (apply rdL_s; done) | apply rdL_n (by omega) | apply rpJ_s | apply rpJ_n (by omega) | rfl)) ?_
    exact g_iret dX11_about_79 rfl (⟨rfl, rfl, rfl, rfl, rfl⟩)
  · skip
    refine pvMet.of _ (by decide) rfl (Nat.le_of_ble_eq_true rfl) ?_
    refine g_iload_n dX11_about_0 rfl ?_
    refine g_tableIn 80 dX11_about_1 (by decide) (by decide) (off := 79) (by decide) (by decide) ?_
    refine g_aload_n dX11_about_80 rfl ?_
    refine g_getP dX11_about_81 fdX11_21 rfl (by first | rfl | exact pv_shx) (by omega) (by omega) (by decide) rfl (hP _ _ _ rfl) ?_
    refine n_getI dX11_about_84 fdX11_420 rfl (by first | rfl | exact pv_shx) (by omega) (by omega) (by decide) rfl (by repeat (first | exact x1 | (apply rd_s; done) | apply rd_n (by omega) | apply rp_s | apply rp_n (by omega) | (apply rdL_s; done) | apply rdL_n (by omega) | apply rpJ_s | apply rpJ_n (by omega) | rfl)) ?_
    exact g_iret dX11_about_87 rfl (⟨rfl, rfl, rfl, rfl, rfl⟩)
  · skip
    refine pvMet.of _ (by decide) rfl (Nat.le_of_ble_eq_true rfl) ?_
    refine g_iload_n dX11_about_0 rfl ?_
    refine g_tableIn 88 dX11_about_1 (by decide) (by decide) (off := 87) (by decide) (by decide) ?_
    refine g_aload_n dX11_about_88 rfl ?_
    refine g_getP dX11_about_89 fdX11_21 rfl (by first | rfl | exact pv_shx) (by omega) (by omega) (by decide) rfl (hP _ _ _ rfl) ?_
    refine n_getI dX11_about_92 fdX11_423 rfl (by first | rfl | exact pv_shx) (by omega) (by omega) (by decide) rfl (by repeat (first | exact x2 | (apply rd_s; done) | apply rd_n (by omega) | apply rp_s | apply rp_n (by omega) | (apply rdL_s; done) | apply rdL_n (by omega) | apply rpJ_s | apply rpJ_n (by omega) | rfl)) ?_
    exact g_iret dX11_about_95 rfl (⟨rfl, rfl, rfl, rfl, rfl⟩)
  · skip
    refine pvMet.of _ (by decide) rfl (Nat.le_of_ble_eq_true rfl) ?_
    refine g_iload_n dX11_about_0 rfl ?_
    refine g_tableIn 96 dX11_about_1 (by decide) (by decide) (off := 95) (by decide) (by decide) ?_
    refine g_aload_n dX11_about_96 rfl ?_
    refine g_getP dX11_about_97 fdX11_32 rfl (by first | rfl | exact pv_shx) (by omega) (by omega) (by decide) rfl (hP _ _ _ rfl) ?_
    refine g_getP dX11_about_100 fdX11_112 rfl (by first | rfl | exact pv_shx) (by omega) (by omega) (by decide) rfl (hP _ _ _ rfl) ?_
    refine n_getI dX11_about_103 fdX11_116 rfl (by first | rfl | exact pv_shx) (by omega) (by omega) (by decide) rfl (by repeat (first | exact x3 | (apply rd_s; done) | apply rd_n (by omega) | apply rp_s | apply rp_n (by omega) | (apply rdL_s; done) | apply rdL_n (by omega) | apply rpJ_s | apply rpJ_n (by omega) | rfl)) ?_
    exact g_iret dX11_about_106 rfl (⟨rfl, rfl, rfl, rfl, rfl⟩)
  · skip
    refine pvMet.of _ (by decide) rfl (Nat.le_of_ble_eq_true rfl) ?_
    refine g_iload_n dX11_about_0 rfl ?_
    refine g_tableIn 107 dX11_about_1 (by decide) (by decide) (off := 106) (by decide) (by decide) ?_
    refine g_aload_n dX11_about_107 rfl ?_
    refine g_getP dX11_about_108 fdX11_32 rfl (by first | rfl | exact pv_shx) (by omega) (by omega) (by decide) rfl (hP _ _ _ rfl) ?_
    refine g_getP dX11_about_111 fdX11_112 rfl (by first | rfl | exact pv_shx) (by omega) (by omega) (by decide) rfl (hP _ _ _ rfl) ?_
    refine n_getI dX11_about_114 fdX11_149 rfl (by first | rfl | exact pv_shx) (by omega) (by omega) (by decide) rfl (by repeat (first | exact x4 | (apply rd_s; done) | apply rd_n (by omega) | apply rp_s | apply rp_n (by omega) | (apply rdL_s; done) | apply rdL_n (by omega) | apply rpJ_s | apply rpJ_n (by omega) | rfl)) ?_
    exact g_iret dX11_about_117 rfl (⟨rfl, rfl, rfl, rfl, rfl⟩)
  · skip
    refine pvMet.of _ (by decide) rfl (Nat.le_of_ble_eq_true rfl) ?_
    refine g_iload_n dX11_about_0 rfl ?_
    refine g_tableIn 118 dX11_about_1 (by decide) (by decide) (off := 117) (by decide) (by decide) ?_
    refine g_aload_n dX11_about_118 rfl ?_
    refine g_getP dX11_about_119 fdX11_32 rfl (by first | rfl | exact pv_shx) (by omega) (by omega) (by decide) rfl (hP _ _ _ rfl) ?_
    refine g_getP dX11_about_122 fdX11_163 rfl (by first | rfl | exact pv_shx) (by omega) (by omega) (by decide) rfl (hP _ _ _ rfl) ?_
    refine n_getI dX11_about_125 fdX11_167 rfl (by first | rfl | exact pv_shx) (by omega) (by omega) (by decide) rfl (by repeat (first | exact x5 | (apply rd_s; done) | apply rd_n (by omega) | apply rp_s | apply rp_n (by omega) | (apply rdL_s; done) | apply rdL_n (by omega) | apply rpJ_s | apply rpJ_n (by omega) | rfl)) ?_
    exact g_iret dX11_about_128 rfl (⟨rfl, rfl, rfl, rfl, rfl⟩)
  · skip
    refine pvMet.of _ (by decide) rfl (Nat.le_of_ble_eq_true rfl) ?_
    refine g_iload_n dX11_about_0 rfl ?_
    refine g_tableIn 129 dX11_about_1 (by decide) (by decide) (off := 128) (by decide) (by decide) ?_
    refine g_aload_n dX11_about_129 rfl ?_
    refine g_getP dX11_about_130 fdX11_32 rfl (by first | rfl | exact pv_shx) (by omega) (by omega) (by decide) rfl (hP _ _ _ rfl) ?_
    refine g_getP dX11_about_133 fdX11_163 rfl (by first | rfl | exact pv_shx) (by omega) (by omega) (by decide) rfl (hP _ _ _ rfl) ?_
    refine n_getI dX11_about_136 fdX11_255 rfl (by first | rfl | exact pv_shx) (by omega) (by omega) (by decide) rfl (by repeat (first | exact x6 | (apply rd_s; done) | apply rd_n (by omega) | apply rp_s | apply rp_n (by omega) | (apply rdL_s; done) | apply rdL_n (by omega) | apply rpJ_s | apply rpJ_n (by omega) | rfl)) ?_
    exact g_iret dX11_about_139 rfl (⟨rfl, rfl, rfl, rfl, rfl⟩)
  · skip
    refine pvMet.of _ (by decide) rfl (Nat.le_of_ble_eq_true rfl) ?_
    refine g_iload_n dX11_about_0 rfl ?_
    refine g_tableIn 140 dX11_about_1 (by decide) (by decide) (off := 139) (by decide) (by decide) ?_
    refine g_aload_n dX11_about_140 rfl ?_
    refine g_getP dX11_about_141 fdX11_32 rfl (by first | rfl | exact pv_shx) (by omega) (by omega) (by decide) rfl (hP _ _ _ rfl) ?_
    refine g_getP dX11_about_144 fdX11_277 rfl (by first | rfl | exact pv_shx) (by omega) (by omega) (by decide) rfl (hP _ _ _ rfl) ?_
    refine n_getI dX11_about_147 fdX11_281 rfl (by first | rfl | exact pv_shx) (by omega) (by omega) (by decide) rfl (by repeat (first | exact x7 | (apply rd_s; done) | apply rd_n (by omega) | apply rp_s | apply rp_n (by omega) | (apply rdL_s; done) | apply rdL_n (by omega) | apply rpJ_s | apply rpJ_n (by omega) | rfl)) ?_
    exact g_iret dX11_about_150 rfl (⟨rfl, rfl, rfl, rfl, rfl⟩)
  · skip
    refine pvMet.of _ (by decide) rfl (Nat.le_of_ble_eq_true rfl) ?_
    refine g_iload_n dX11_about_0 rfl ?_
    refine g_tableIn 151 dX11_about_1 (by decide) (by decide) (off := 150) (by decide) (by decide) ?_
    refine g_aload_n dX11_about_151 rfl ?_
    refine g_getP dX11_about_152 fdX11_32 rfl (by first | rfl | exact pv_shx) (by omega) (by omega) (by decide) rfl (hP _ _ _ rfl) ?_
    refine g_getP dX11_about_155 fdX11_277 rfl (by first | rfl | exact pv_shx) (by omega) (by omega) (by decide) rfl (hP _ _ _ rfl) ?_
    refine n_getI dX11_about_158 fdX11_294 rfl (by first | rfl | exact pv_shx) (by omega) (by omega) (by decide) rfl (by repeat (first | exact x8 | (apply rd_s; done) | apply rd_n (by omega) | apply rp_s | apply rp_n (by omega) | (apply rdL_s; done) | apply rdL_n (by omega) | apply rpJ_s | apply rpJ_n (by omega) | rfl)) ?_
    exact g_iret dX11_about_161 rfl (⟨rfl, rfl, rfl, rfl, rfl⟩)
  · skip
    refine pvMet.of _ (by decide) rfl (Nat.le_of_ble_eq_true rfl) ?_
    refine g_iload_n dX11_about_0 rfl ?_
    refine g_tableIn 162 dX11_about_1 (by decide) (by decide) (off := 161) (by decide) (by decide) ?_
    refine g_aload_n dX11_about_162 rfl ?_
    refine g_getP dX11_about_163 fdX11_32 rfl (by first | rfl | exact pv_shx) (by omega) (by omega) (by decide) rfl (hP _ _ _ rfl) ?_
    refine g_getP dX11_about_166 fdX11_277 rfl (by first | rfl | exact pv_shx) (by omega) (by omega) (by decide) rfl (hP _ _ _ rfl) ?_
    refine p_callV (x9) okX7_howManyWent lkX11_369 rfl (by first | rfl | exact pv_shx) rfl (by omega) (by omega) dX11_about_169 rfl (Nat.le_of_ble_eq_true rfl) (⟨by decide, by decide, by decide, by decide⟩) ?_
    exact g_iret dX11_about_172 rfl (⟨rfl, rfl, rfl, rfl, rfl⟩)
  · skip
    refine pvMet.of _ (by decide) rfl (Nat.le_of_ble_eq_true rfl) ?_
    refine g_iload_n dX11_about_0 rfl ?_
    refine g_tableIn 173 dX11_about_1 (by decide) (by decide) (off := 172) (by decide) (by decide) ?_
    refine g_aload_n dX11_about_173 rfl ?_
    refine g_getP dX11_about_174 fdX11_32 rfl (by first | rfl | exact pv_shx) (by omega) (by omega) (by decide) rfl (hP _ _ _ rfl) ?_
    refine g_getP dX11_about_177 fdX11_333 rfl (by first | rfl | exact pv_shx) (by omega) (by omega) (by decide) rfl (hP _ _ _ rfl) ?_
    refine n_getI dX11_about_180 fdX11_337 rfl (by first | rfl | exact pv_shx) (by omega) (by omega) (by decide) rfl (by repeat (first | exact x10 | (apply rd_s; done) | apply rd_n (by omega) | apply rp_s | apply rp_n (by omega) | (apply rdL_s; done) | apply rdL_n (by omega) | apply rpJ_s | apply rpJ_n (by omega) | rfl)) ?_
    exact g_iret dX11_about_183 rfl (⟨rfl, rfl, rfl, rfl, rfl⟩)
  · skip
    refine pvMet.of _ (by decide) rfl (Nat.le_of_ble_eq_true rfl) ?_
    refine g_iload_n dX11_about_0 rfl ?_
    refine g_tableIn 184 dX11_about_1 (by decide) (by decide) (off := 183) (by decide) (by decide) ?_
    refine g_aload_n dX11_about_184 rfl ?_
    refine g_getP dX11_about_185 fdX11_32 rfl (by first | rfl | exact pv_shx) (by omega) (by omega) (by decide) rfl (hP _ _ _ rfl) ?_
    refine g_getP dX11_about_188 fdX11_333 rfl (by first | rfl | exact pv_shx) (by omega) (by omega) (by decide) rfl (hP _ _ _ rfl) ?_
    refine n_getI dX11_about_191 fdX11_352 rfl (by first | rfl | exact pv_shx) (by omega) (by omega) (by decide) rfl (by repeat (first | exact x11 | (apply rd_s; done) | apply rd_n (by omega) | apply rp_s | apply rp_n (by omega) | (apply rdL_s; done) | apply rdL_n (by omega) | apply rpJ_s | apply rpJ_n (by omega) | rfl)) ?_
    exact g_iret dX11_about_194 rfl (⟨rfl, rfl, rfl, rfl, rfl⟩)
  · skip
    refine pvMet.of _ (by decide) rfl (Nat.le_of_ble_eq_true rfl) ?_
    refine g_iload_n dX11_about_0 rfl ?_
    refine g_tableIn 195 dX11_about_1 (by decide) (by decide) (off := 194) (by decide) (by decide) ?_
    refine g_aload_n dX11_about_195 rfl ?_
    refine g_getP dX11_about_196 fdX11_32 rfl (by first | rfl | exact pv_shx) (by omega) (by omega) (by decide) rfl (hP _ _ _ rfl) ?_
    refine g_getP dX11_about_199 fdX11_180 rfl (by first | rfl | exact pv_shx) (by omega) (by omega) (by decide) rfl (hP _ _ _ rfl) ?_
    refine n_getI dX11_about_202 fdX11_391 rfl (by first | rfl | exact pv_shx) (by omega) (by omega) (by decide) rfl (by repeat (first | exact x12 | (apply rd_s; done) | apply rd_n (by omega) | apply rp_s | apply rp_n (by omega) | (apply rdL_s; done) | apply rdL_n (by omega) | apply rpJ_s | apply rpJ_n (by omega) | rfl)) ?_
    exact g_iret dX11_about_205 rfl (⟨rfl, rfl, rfl, rfl, rfl⟩)
  · skip
    refine pvMet.of _ (by decide) rfl (Nat.le_of_ble_eq_true rfl) ?_
    refine g_iload_n dX11_about_0 rfl ?_
    refine g_tableIn 206 dX11_about_1 (by decide) (by decide) (off := 205) (by decide) (by decide) ?_
    refine g_aload_n dX11_about_206 rfl ?_
    refine g_getP dX11_about_207 fdX11_53 rfl (by first | rfl | exact pv_shx) (by omega) (by omega) (by decide) rfl (hP _ _ _ rfl) ?_
    refine n_getI dX11_about_210 fdX11_330 rfl (by first | rfl | exact pv_shx) (by omega) (by omega) (by decide) rfl (by repeat (first | (apply rd_s; done) | apply rd_n (by omega) | apply rp_s | apply rp_n (by omega) | (apply rdL_s; done) | apply rdL_n (by omega) | apply rpJ_s | apply rpJ_n (by omega) | rfl)) ?_
    exact g_iret dX11_about_213 rfl (⟨rfl, rfl, rfl, rfl, rfl⟩)
end AB2
