/-! the reference's object is made -/
section MOD
variable {I I1 : pvI} {J : pvJ} {P P1 : pvP} {wv hv : Int32}
def a0 (f : Nat → Int32) : Nat → Int32 := upd (upd (upd f 11 (nI 3)) 12 (nI 10)) 13 (nI 6)
def moQ (w h : Nat) (I : pvI) (J : pvJ) (P : pvP) : pvQT := fun v nx' I' J' P' => v = none ∧ nx' = 224 ∧ (∀ x, x ≠ 202 → x ≠ 203 → x ≠ 204 → I' x = I x) ∧ I' 202 0 = nI w ∧ I' 202 1 = nI h ∧ I' 202 19 = -1 ∧ I' 202 20 = -1 ∧ (∀ j, j ≠ 0 → j ≠ 1 → j ≠ 19 → j ≠ 20 → I' 202 j = I 202 j) ∧ I' 203 = a0 (I 203) ∧ I' 204 = sp_fil (a0 (I 203)) (I 204) 8020 ∧ J' = J ∧ (∀ x, x ≠ 202 → P' x = P x) ∧ ∀ j a, pv_mP j = some a → P' 202 j = some a
theorem mo_247 {f : Nat → Int32} (f1 : f 0 = nI (dimN wv)) (f2 : f 1 = nI (dimN hv)) (f3 : f 19 = -1) (f4 : f 20 = -1) (f5 : ∀ j, j ≠ 0 → j ≠ 1 → j ≠ 19 → j ≠ 20 → f j = I 202 j) (q1 : ∀ x, x ≠ 202 → P1 x = P x) (q2 : ∀ j a, pv_mP j = some a → P1 202 j = some a) : pvG mX12_init (pvR 1 22 77040) (pvZ (moQ (dimN wv) (dimN hv) I J P) 22 77040) 247 [.ref 202, .int wv, .int hv] [] 22 77040 224 (pvs I 202 f) J P1 := by
  refine g_aload_n dX12_init_247 rfl ?_
  refine g_getP dX12_init_248 fdX12_7 rfl (by first | rfl | exact pv_shx) (by omega) (by omega) (by decide) rfl (q2 _ _ rfl) ?_
  refine g_bipush (v := nI 11) dX12_init_251 (by decide) ?_
  refine g_iconst (v := nI 3) dX12_init_253 (by decide) ?_
  refine n_iast dX12_init_254 (by first | rfl | exact pv_shx) (by omega) (by omega) (by omega) (by decide) (rfl) (by omega) (by repeat (first | exact pvu_s | exact pvuJ_s | apply pvu_in (by omega) | apply pvuJ_in (by omega) | exact pvu_pvs | exact pvuJ_pvs)) ?_
  refine g_aload_n dX12_init_255 rfl ?_
  refine g_getP dX12_init_256 fdX12_7 rfl (by first | rfl | exact pv_shx) (by omega) (by omega) (by decide) rfl (q2 _ _ rfl) ?_
  refine g_bipush (v := nI 12) dX12_init_259 (by decide) ?_
  refine g_bipush (v := nI 10) dX12_init_261 (by decide) ?_
  refine n_iast dX12_init_263 (by first | rfl | exact pv_shx) (by omega) (by omega) (by omega) (by decide) (rfl) (by omega) (by repeat (first | exact pvu_s | exact pvuJ_s | apply pvu_in (by omega) | apply pvuJ_in (by omega) | exact pvu_pvs | exact pvuJ_pvs)) ?_
  refine g_aload_n dX12_init_264 rfl ?_
  refine g_getP dX12_init_265 fdX12_7 rfl (by first | rfl | exact pv_shx) (by omega) (by omega) (by decide) rfl (q2 _ _ rfl) ?_
  refine g_bipush (v := nI 13) dX12_init_268 (by decide) ?_
  refine g_bipush (v := nI 6) dX12_init_270 (by decide) ?_
  refine n_iast dX12_init_272 (by first | rfl | exact pv_shx) (by omega) (by omega) (by omega) (by decide) (rfl) (by omega) (by repeat (first | exact pvu_s | exact pvuJ_s | apply pvu_in (by omega) | apply pvuJ_in (by omega) | exact pvu_pvs | exact pvuJ_pvs)) ?_
  have w1 := t_copy (I := pvs (pvs I 203 (a0 (I 203))) 202 f) (J := J) (P := P1) (ks := 203) (kd := 204) (Or.inl ⟨rfl, rfl⟩)
  refine g_aload_n dX12_init_273 rfl ?_
  refine g_getP dX12_init_274 fdX12_7 rfl (by first | rfl | exact pv_shx) (by omega) (by omega) (by decide) rfl (q2 _ _ rfl) ?_
  refine g_aload_n dX12_init_277 rfl ?_
  refine g_getP dX12_init_278 fdX12_13 rfl (by first | rfl | exact pv_shx) (by omega) (by omega) (by decide) rfl (q2 _ _ rfl) ?_
  refine g_callS (w1) okX12_copy lkX12_92 rfl dX12_init_281 rfl (Nat.le_of_ble_eq_true rfl) (⟨by decide, by decide, by decide, by decide⟩) ?_
  rintro v nx' I3 J3 P3 ⟨rfl, rfl, rfl, rfl, rfl⟩
  have fin : moQ (dimN wv) (dimN hv) I J3 P none 224 (pvs (pvs (pvs I 203 (a0 (I 203))) 202 f) 204 (sp_fil (a0 (I 203)) (I 204) 8020)) J3 P3 := ⟨rfl, rfl, fun x y1 y2 y3 => by rw [pvs_ne y3, pvs_ne y1, pvs_ne y2], f1, f2, f3, f4, f5, by rw [pvs_ne (by decide), pvs_ne (by decide), pvs_eq], by rw [pvs_eq], rfl, q1, q2⟩
  exact g_vret dX12_init_284 rfl (fin)
theorem mo_222 {f : Nat → Int32} (f1 : f 0 = nI (dimN wv)) (f3 : f 19 = -1) (f4 : f 20 = -1) (f5 : ∀ j, j ≠ 0 → j ≠ 19 → j ≠ 20 → f j = I 202 j) (q1 : ∀ x, x ≠ 202 → P1 x = P x) (q2 : ∀ j a, pv_mP j = some a → P1 202 j = some a) : pvG mX12_init (pvR 1 22 77040) (pvZ (moQ (dimN wv) (dimN hv) I J P) 22 77040) 222 [.ref 202, .int wv, .int hv] [] 22 77040 224 (pvs I 202 f) J P1 := by
  have k : ∀ v, v = nI (dimN hv) → pvG mX12_init (pvR 1 22 77040) (pvZ (moQ (dimN wv) (dimN hv) I J P) 22 77040) 244 [.ref 202, .int wv, .int hv] [.int v, .ref 202] 22 77040 224 (pvs I 202 f) J P1 := by
    rintro v rfl
    have k2 := mo_247 (I := I) (J := J) (P := P) (P1 := P1) (wv := wv) (hv := hv) (f := upd f 1 (nI (dimN hv))) (by simp [upd]; exact f1) (by simp [upd]) (by simp [upd]; exact f3) (by simp [upd]; exact f4) (fun j y0 y1 y2 y3 => by simp only [upd]; rw [if_neg y1]; exact f5 j y0 y2 y3) q1 q2
    refine n_putI dX12_init_244 fdX12_89 rfl (fun _ => ⟨rfl, _, _, _, rfl, rfl⟩) (by first | rfl | exact pv_shx) (by omega) (by omega) (by decide) rfl (by repeat (first | exact pvu_s | exact pvuJ_s | apply pvu_in (by omega) | apply pvuJ_in (by omega) | exact pvu_pvs | exact pvuJ_pvs)) ?_
    exact k2
  refine g_aload_n dX12_init_222 rfl ?_
  refine g_iload_n dX12_init_223 rfl ?_
  refine g_iconst (v := nI 2) dX12_init_224 (by decide) ?_
  refine n_icmp_ge 232 dX12_init_225 (by decide) (by first | ((with_reducible apply cN_le) <;> omega) | ((with_reducible apply cI_len) <;> omega) | ((with_reducible apply cI_nle) <;> omega) | (with_reducible exact cI_le)) (fun c225 => ?_) (fun c225 => ?_)
  · skip
    refine g_iload_n dX12_init_232 rfl ?_
    refine g_bipush (v := nI 8) dX12_init_233 (by decide) ?_
    refine n_icmp_le 243 dX12_init_235 (by decide) (by first | ((with_reducible apply cN_le) <;> omega) | ((with_reducible apply cI_len) <;> omega) | ((with_reducible apply cI_nle) <;> omega) | (with_reducible exact cI_le)) (fun c235 => ?_) (fun c235 => ?_)
    · skip
      refine g_iload_n dX12_init_243 rfl ?_
      exact k _ (by first | (unfold dimN; rw [if_pos (by omega)]; done) | (unfold dimN; rw [if_neg (by omega), if_pos (by omega)]; done) | (unfold dimN; rw [if_neg (by omega), if_neg (by omega), cI_eq, nI_toInt (by omega)]; omega))
    · skip
      refine g_bipush (v := nI 8) dX12_init_238 (by decide) ?_
      refine g_goto 244 dX12_init_240 (by decide) ?_
      exact k _ (by first | (unfold dimN; rw [if_pos (by omega)]; done) | (unfold dimN; rw [if_neg (by omega), if_pos (by omega)]; done) | (unfold dimN; rw [if_neg (by omega), if_neg (by omega), cI_eq, nI_toInt (by omega)]; omega))
  · skip
    refine g_iconst (v := nI 2) dX12_init_228 (by decide) ?_
    refine g_goto 244 dX12_init_229 (by decide) ?_
    exact k _ (by first | (unfold dimN; rw [if_pos (by omega)]; done) | (unfold dimN; rw [if_neg (by omega), if_pos (by omega)]; done) | (unfold dimN; rw [if_neg (by omega), if_neg (by omega), cI_eq, nI_toInt (by omega)]; omega))
theorem mo_197 {f : Nat → Int32} (f3 : f 19 = -1) (f4 : f 20 = -1) (f5 : ∀ j, j ≠ 19 → j ≠ 20 → f j = I 202 j) (q1 : ∀ x, x ≠ 202 → P1 x = P x) (q2 : ∀ j a, pv_mP j = some a → P1 202 j = some a) : pvG mX12_init (pvR 1 22 77040) (pvZ (moQ (dimN wv) (dimN hv) I J P) 22 77040) 197 [.ref 202, .int wv, .int hv] [] 22 77040 224 (pvs I 202 f) J P1 := by
  have k : ∀ v, v = nI (dimN wv) → pvG mX12_init (pvR 1 22 77040) (pvZ (moQ (dimN wv) (dimN hv) I J P) 22 77040) 219 [.ref 202, .int wv, .int hv] [.int v, .ref 202] 22 77040 224 (pvs I 202 f) J P1 := by
    rintro v rfl
    have k2 := mo_222 (I := I) (J := J) (P := P) (P1 := P1) (wv := wv) (hv := hv) (f := upd f 0 (nI (dimN wv))) (by simp [upd]) (by simp [upd]; exact f3) (by simp [upd]; exact f4) (fun j y0 y2 y3 => by simp only [upd]; rw [if_neg y0]; exact f5 j y2 y3) q1 q2
    refine n_putI dX12_init_219 fdX12_86 rfl (fun _ => ⟨rfl, _, _, _, rfl, rfl⟩) (by first | rfl | exact pv_shx) (by omega) (by omega) (by decide) rfl (by repeat (first | exact pvu_s | exact pvuJ_s | apply pvu_in (by omega) | apply pvuJ_in (by omega) | exact pvu_pvs | exact pvuJ_pvs)) ?_
    exact k2
  refine g_aload_n dX12_init_197 rfl ?_
  refine g_iload_n dX12_init_198 rfl ?_
  refine g_iconst (v := nI 2) dX12_init_199 (by decide) ?_
  refine n_icmp_ge 207 dX12_init_200 (by decide) (by first | ((with_reducible apply cN_le) <;> omega) | ((with_reducible apply cI_len) <;> omega) | ((with_reducible apply cI_nle) <;> omega) | (with_reducible exact cI_le)) (fun c200 => ?_) (fun c200 => ?_)
  · skip
    refine g_iload_n dX12_init_207 rfl ?_
    refine g_bipush (v := nI 8) dX12_init_208 (by decide) ?_
    refine n_icmp_le 218 dX12_init_210 (by decide) (by first | ((with_reducible apply cN_le) <;> omega) | ((with_reducible apply cI_len) <;> omega) | ((with_reducible apply cI_nle) <;> omega) | (with_reducible exact cI_le)) (fun c210 => ?_) (fun c210 => ?_)
    · skip
      refine g_iload_n dX12_init_218 rfl ?_
      exact k _ (by first | (unfold dimN; rw [if_pos (by omega)]; done) | (unfold dimN; rw [if_neg (by omega), if_pos (by omega)]; done) | (unfold dimN; rw [if_neg (by omega), if_neg (by omega), cI_eq, nI_toInt (by omega)]; omega))
    · skip
      refine g_bipush (v := nI 8) dX12_init_213 (by decide) ?_
      refine g_goto 219 dX12_init_215 (by decide) ?_
      exact k _ (by first | (unfold dimN; rw [if_pos (by omega)]; done) | (unfold dimN; rw [if_neg (by omega), if_pos (by omega)]; done) | (unfold dimN; rw [if_neg (by omega), if_neg (by omega), cI_eq, nI_toInt (by omega)]; omega))
  · skip
    refine g_iconst (v := nI 2) dX12_init_203 (by decide) ?_
    refine g_goto 219 dX12_init_204 (by decide) ?_
    exact k _ (by first | (unfold dimN; rw [if_pos (by omega)]; done) | (unfold dimN; rw [if_neg (by omega), if_pos (by omega)]; done) | (unfold dimN; rw [if_neg (by omega), if_neg (by omega), cI_eq, nI_toInt (by omega)]; omega))
theorem n_model (hz : zz 202 I J P) : pvMet mX12_init 1 22 77040 [.ref 202, .int wv, .int hv] 202 I J P (moQ (dimN wv) (dimN hv) I J P) := by
  refine pvMet.of _ (by decide) rfl (Nat.le_of_ble_eq_true rfl) ?_
  refine g_aload_n dX12_init_0 rfl ?_
  refine g_objInit dX12_init_1 loX12_1 (by decide) (by decide) ?_
  refine g_aload_n dX12_init_4 rfl ?_
  refine g_sipush (v := nI 8020) dX12_init_5 (by decide) ?_
  refine g_newI dX12_init_8 (rfl) (by decide) (by omega) (by first | exact (hz _ (by omega) (by omega)).1 | (rw [pvs_ne (by omega)]; exact (hz _ (by omega) (by omega)).1)) (by decide) (by decide) ?_
  refine g_putP dX12_init_10 fdX12_7 rfl (fun _ => ⟨rfl, _, _, _, rfl, rfl⟩) (by first | rfl | exact pv_shx) (by omega) (by omega) (by decide) rfl (by first | exact Or.inl ⟨_, rfl⟩ | exact Or.inr ⟨_, rfl⟩) ?_
  refine g_aload_n dX12_init_13 rfl ?_
  refine g_sipush (v := nI 8020) dX12_init_14 (by decide) ?_
  refine g_newI dX12_init_17 (rfl) (by decide) (by omega) (by first | exact (hz _ (by omega) (by omega)).1 | (rw [pvs_ne (by omega)]; exact (hz _ (by omega) (by omega)).1)) (by decide) (by decide) ?_
  refine g_putP dX12_init_19 fdX12_13 rfl (fun _ => ⟨rfl, _, _, _, rfl, rfl⟩) (by first | rfl | exact pv_shx) (by omega) (by omega) (by decide) rfl (by first | exact Or.inl ⟨_, rfl⟩ | exact Or.inr ⟨_, rfl⟩) ?_
  refine g_aload_n dX12_init_22 rfl ?_
  refine g_sipush (v := nI 8000) dX12_init_23 (by decide) ?_
  refine g_newI dX12_init_26 (rfl) (by decide) (by omega) (by first | exact (hz _ (by omega) (by omega)).1 | (rw [pvs_ne (by omega)]; exact (hz _ (by omega) (by omega)).1)) (by decide) (by decide) ?_
  refine g_putP dX12_init_28 fdX12_16 rfl (fun _ => ⟨rfl, _, _, _, rfl, rfl⟩) (by first | rfl | exact pv_shx) (by omega) (by omega) (by decide) rfl (by first | exact Or.inl ⟨_, rfl⟩ | exact Or.inr ⟨_, rfl⟩) ?_
  refine g_aload_n dX12_init_31 rfl ?_
  refine g_bipush (v := nI 64) dX12_init_32 (by decide) ?_
  refine g_newI dX12_init_34 (rfl) (by decide) (by omega) (by first | exact (hz _ (by omega) (by omega)).1 | (rw [pvs_ne (by omega)]; exact (hz _ (by omega) (by omega)).1)) (by decide) (by decide) ?_
  refine g_putP dX12_init_36 fdX12_19 rfl (fun _ => ⟨rfl, _, _, _, rfl, rfl⟩) (by first | rfl | exact pv_shx) (by omega) (by omega) (by decide) rfl (by first | exact Or.inl ⟨_, rfl⟩ | exact Or.inr ⟨_, rfl⟩) ?_
  refine g_aload_n dX12_init_39 rfl ?_
  refine g_bipush (v := nI 64) dX12_init_40 (by decide) ?_
  refine g_newI dX12_init_42 (rfl) (by decide) (by omega) (by first | exact (hz _ (by omega) (by omega)).1 | (rw [pvs_ne (by omega)]; exact (hz _ (by omega) (by omega)).1)) (by decide) (by decide) ?_
  refine g_putP dX12_init_44 fdX12_22 rfl (fun _ => ⟨rfl, _, _, _, rfl, rfl⟩) (by first | rfl | exact pv_shx) (by omega) (by omega) (by decide) rfl (by first | exact Or.inl ⟨_, rfl⟩ | exact Or.inr ⟨_, rfl⟩) ?_
  refine g_aload_n dX12_init_47 rfl ?_
  refine g_bipush (v := nI 64) dX12_init_48 (by decide) ?_
  refine g_newI dX12_init_50 (rfl) (by decide) (by omega) (by first | exact (hz _ (by omega) (by omega)).1 | (rw [pvs_ne (by omega)]; exact (hz _ (by omega) (by omega)).1)) (by decide) (by decide) ?_
  refine g_putP dX12_init_52 fdX12_25 rfl (fun _ => ⟨rfl, _, _, _, rfl, rfl⟩) (by first | rfl | exact pv_shx) (by omega) (by omega) (by decide) rfl (by first | exact Or.inl ⟨_, rfl⟩ | exact Or.inr ⟨_, rfl⟩) ?_
  refine g_aload_n dX12_init_55 rfl ?_
  refine g_bipush (v := nI 64) dX12_init_56 (by decide) ?_
  refine g_newI dX12_init_58 (rfl) (by decide) (by omega) (by first | exact (hz _ (by omega) (by omega)).1 | (rw [pvs_ne (by omega)]; exact (hz _ (by omega) (by omega)).1)) (by decide) (by decide) ?_
  refine g_putP dX12_init_60 fdX12_28 rfl (fun _ => ⟨rfl, _, _, _, rfl, rfl⟩) (by first | rfl | exact pv_shx) (by omega) (by omega) (by decide) rfl (by first | exact Or.inl ⟨_, rfl⟩ | exact Or.inr ⟨_, rfl⟩) ?_
  refine g_aload_n dX12_init_63 rfl ?_
  refine g_bipush (v := nI 64) dX12_init_64 (by decide) ?_
  refine g_newI dX12_init_66 (rfl) (by decide) (by omega) (by first | exact (hz _ (by omega) (by omega)).1 | (rw [pvs_ne (by omega)]; exact (hz _ (by omega) (by omega)).1)) (by decide) (by decide) ?_
  refine g_putP dX12_init_68 fdX12_31 rfl (fun _ => ⟨rfl, _, _, _, rfl, rfl⟩) (by first | rfl | exact pv_shx) (by omega) (by omega) (by decide) rfl (by first | exact Or.inl ⟨_, rfl⟩ | exact Or.inr ⟨_, rfl⟩) ?_
  refine g_aload_n dX12_init_71 rfl ?_
  refine g_bipush (v := nI 64) dX12_init_72 (by decide) ?_
  refine g_newI dX12_init_74 (rfl) (by decide) (by omega) (by first | exact (hz _ (by omega) (by omega)).1 | (rw [pvs_ne (by omega)]; exact (hz _ (by omega) (by omega)).1)) (by decide) (by decide) ?_
  refine g_putP dX12_init_76 fdX12_34 rfl (fun _ => ⟨rfl, _, _, _, rfl, rfl⟩) (by first | rfl | exact pv_shx) (by omega) (by omega) (by decide) rfl (by first | exact Or.inl ⟨_, rfl⟩ | exact Or.inr ⟨_, rfl⟩) ?_
  refine g_aload_n dX12_init_79 rfl ?_
  refine g_bipush (v := nI 64) dX12_init_80 (by decide) ?_
  refine g_newI dX12_init_82 (rfl) (by decide) (by omega) (by first | exact (hz _ (by omega) (by omega)).1 | (rw [pvs_ne (by omega)]; exact (hz _ (by omega) (by omega)).1)) (by decide) (by decide) ?_
  refine g_putP dX12_init_84 fdX12_37 rfl (fun _ => ⟨rfl, _, _, _, rfl, rfl⟩) (by first | rfl | exact pv_shx) (by omega) (by omega) (by decide) rfl (by first | exact Or.inl ⟨_, rfl⟩ | exact Or.inr ⟨_, rfl⟩) ?_
  refine g_aload_n dX12_init_87 rfl ?_
  refine g_bipush (v := nI 64) dX12_init_88 (by decide) ?_
  refine g_newI dX12_init_90 (rfl) (by decide) (by omega) (by first | exact (hz _ (by omega) (by omega)).1 | (rw [pvs_ne (by omega)]; exact (hz _ (by omega) (by omega)).1)) (by decide) (by decide) ?_
  refine g_putP dX12_init_92 fdX12_40 rfl (fun _ => ⟨rfl, _, _, _, rfl, rfl⟩) (by first | rfl | exact pv_shx) (by omega) (by omega) (by decide) rfl (by first | exact Or.inl ⟨_, rfl⟩ | exact Or.inr ⟨_, rfl⟩) ?_
  refine g_aload_n dX12_init_95 rfl ?_
  refine g_bipush (v := nI 64) dX12_init_96 (by decide) ?_
  refine g_newZ dX12_init_98 (rfl) (by decide) (by omega) (by first | exact (hz _ (by omega) (by omega)).1 | (rw [pvs_ne (by omega)]; exact (hz _ (by omega) (by omega)).1)) (by decide) (by decide) ?_
  refine g_putP dX12_init_100 fdX12_43 rfl (fun _ => ⟨rfl, _, _, _, rfl, rfl⟩) (by first | rfl | exact pv_shx) (by omega) (by omega) (by decide) rfl (by first | exact Or.inl ⟨_, rfl⟩ | exact Or.inr ⟨_, rfl⟩) ?_
  refine g_aload_n dX12_init_103 rfl ?_
  refine g_ldc (v := nI 51200) dX12_init_104 kcX12_47 ?_
  refine g_newI dX12_init_106 (rfl) (by decide) (by omega) (by first | exact (hz _ (by omega) (by omega)).1 | (rw [pvs_ne (by omega)]; exact (hz _ (by omega) (by omega)).1)) (by decide) (by decide) ?_
  refine g_putP dX12_init_108 fdX12_48 rfl (fun _ => ⟨rfl, _, _, _, rfl, rfl⟩) (by first | rfl | exact pv_shx) (by omega) (by omega) (by decide) rfl (by first | exact Or.inl ⟨_, rfl⟩ | exact Or.inr ⟨_, rfl⟩) ?_
  refine g_aload_n dX12_init_111 rfl ?_
  refine g_bipush (v := nI 8) dX12_init_112 (by decide) ?_
  refine g_newI dX12_init_114 (rfl) (by decide) (by omega) (by first | exact (hz _ (by omega) (by omega)).1 | (rw [pvs_ne (by omega)]; exact (hz _ (by omega) (by omega)).1)) (by decide) (by decide) ?_
  refine g_putP dX12_init_116 fdX12_51 rfl (fun _ => ⟨rfl, _, _, _, rfl, rfl⟩) (by first | rfl | exact pv_shx) (by omega) (by omega) (by decide) rfl (by first | exact Or.inl ⟨_, rfl⟩ | exact Or.inr ⟨_, rfl⟩) ?_
  refine g_aload_n dX12_init_119 rfl ?_
  refine g_sipush (v := nI 300) dX12_init_120 (by decide) ?_
  refine g_newI dX12_init_123 (rfl) (by decide) (by omega) (by first | exact (hz _ (by omega) (by omega)).1 | (rw [pvs_ne (by omega)]; exact (hz _ (by omega) (by omega)).1)) (by decide) (by decide) ?_
  refine g_putP dX12_init_125 fdX12_54 rfl (fun _ => ⟨rfl, _, _, _, rfl, rfl⟩) (by first | rfl | exact pv_shx) (by omega) (by omega) (by decide) rfl (by first | exact Or.inl ⟨_, rfl⟩ | exact Or.inr ⟨_, rfl⟩) ?_
  refine g_aload_n dX12_init_128 rfl ?_
  refine g_iconst (v := (-1)) dX12_init_129 (by decide) ?_
  refine n_putI dX12_init_130 fdX12_57 rfl (fun h => absurd h (by decide)) (by first | rfl | exact pv_shx) (by omega) (by omega) (by decide) rfl (by repeat (first | exact pvu_s | exact pvuJ_s | apply pvu_in (by omega) | apply pvuJ_in (by omega) | exact pvu_pvs | exact pvuJ_pvs)) ?_
  refine g_aload_n dX12_init_133 rfl ?_
  refine g_iconst (v := (-1)) dX12_init_134 (by decide) ?_
  refine n_putI dX12_init_135 fdX12_61 rfl (fun h => absurd h (by decide)) (by first | rfl | exact pv_shx) (by omega) (by omega) (by decide) rfl (by repeat (first | exact pvu_s | exact pvuJ_s | apply pvu_in (by omega) | apply pvuJ_in (by omega) | exact pvu_pvs | exact pvuJ_pvs)) ?_
  refine g_aload_n dX12_init_138 rfl ?_
  refine g_sipush (v := nI 160) dX12_init_139 (by decide) ?_
  refine g_newI dX12_init_142 (rfl) (by decide) (by omega) (by first | exact (hz _ (by omega) (by omega)).1 | (rw [pvs_ne (by omega)]; exact (hz _ (by omega) (by omega)).1)) (by decide) (by decide) ?_
  refine g_putP dX12_init_144 fdX12_64 rfl (fun _ => ⟨rfl, _, _, _, rfl, rfl⟩) (by first | rfl | exact pv_shx) (by omega) (by omega) (by decide) rfl (by first | exact Or.inl ⟨_, rfl⟩ | exact Or.inr ⟨_, rfl⟩) ?_
  refine g_aload_n dX12_init_147 rfl ?_
  refine g_bipush (v := nI 8) dX12_init_148 (by decide) ?_
  refine g_newI dX12_init_150 (rfl) (by decide) (by omega) (by first | exact (hz _ (by omega) (by omega)).1 | (rw [pvs_ne (by omega)]; exact (hz _ (by omega) (by omega)).1)) (by decide) (by decide) ?_
  refine g_putP dX12_init_152 fdX12_67 rfl (fun _ => ⟨rfl, _, _, _, rfl, rfl⟩) (by first | rfl | exact pv_shx) (by omega) (by omega) (by decide) rfl (by first | exact Or.inl ⟨_, rfl⟩ | exact Or.inr ⟨_, rfl⟩) ?_
  refine g_aload_n dX12_init_155 rfl ?_
  refine g_sipush (v := nI 330) dX12_init_156 (by decide) ?_
  refine g_newJ dX12_init_159 (rfl) (by decide) (by omega) (by first | exact (hz _ (by omega) (by omega)).2.1 | (rw [pvs_ne (by omega)]; exact (hz _ (by omega) (by omega)).2.1)) (by decide) (by decide) ?_
  refine g_putP dX12_init_161 fdX12_70 rfl (fun _ => ⟨rfl, _, _, _, rfl, rfl⟩) (by first | rfl | exact pv_shx) (by omega) (by omega) (by decide) rfl (by first | exact Or.inl ⟨_, rfl⟩ | exact Or.inr ⟨_, rfl⟩) ?_
  refine g_aload_n dX12_init_164 rfl ?_
  refine g_sipush (v := nI 330) dX12_init_165 (by decide) ?_
  refine g_newZ dX12_init_168 (rfl) (by decide) (by omega) (by first | exact (hz _ (by omega) (by omega)).1 | (rw [pvs_ne (by omega)]; exact (hz _ (by omega) (by omega)).1)) (by decide) (by decide) ?_
  refine g_putP dX12_init_170 fdX12_74 rfl (fun _ => ⟨rfl, _, _, _, rfl, rfl⟩) (by first | rfl | exact pv_shx) (by omega) (by omega) (by decide) rfl (by first | exact Or.inl ⟨_, rfl⟩ | exact Or.inr ⟨_, rfl⟩) ?_
  refine g_aload_n dX12_init_173 rfl ?_
  refine g_bipush (v := nI 20) dX12_init_174 (by decide) ?_
  refine g_newI dX12_init_176 (rfl) (by decide) (by omega) (by first | exact (hz _ (by omega) (by omega)).1 | (rw [pvs_ne (by omega)]; exact (hz _ (by omega) (by omega)).1)) (by decide) (by decide) ?_
  refine g_putP dX12_init_178 fdX12_77 rfl (fun _ => ⟨rfl, _, _, _, rfl, rfl⟩) (by first | rfl | exact pv_shx) (by omega) (by omega) (by decide) rfl (by first | exact Or.inl ⟨_, rfl⟩ | exact Or.inr ⟨_, rfl⟩) ?_
  refine g_aload_n dX12_init_181 rfl ?_
  refine g_bipush (v := nI 60) dX12_init_182 (by decide) ?_
  refine g_newI dX12_init_184 (rfl) (by decide) (by omega) (by first | exact (hz _ (by omega) (by omega)).1 | (rw [pvs_ne (by omega)]; exact (hz _ (by omega) (by omega)).1)) (by decide) (by decide) ?_
  refine g_putP dX12_init_186 fdX12_80 rfl (fun _ => ⟨rfl, _, _, _, rfl, rfl⟩) (by first | rfl | exact pv_shx) (by omega) (by omega) (by decide) rfl (by first | exact Or.inl ⟨_, rfl⟩ | exact Or.inr ⟨_, rfl⟩) ?_
  refine g_aload_n dX12_init_189 rfl ?_
  refine g_bipush (v := nI 8) dX12_init_190 (by decide) ?_
  refine g_newZ dX12_init_192 (rfl) (by decide) (by omega) (by first | exact (hz _ (by omega) (by omega)).1 | (rw [pvs_ne (by omega)]; exact (hz _ (by omega) (by omega)).1)) (by decide) (by decide) ?_
  refine g_putP dX12_init_194 fdX12_83 rfl (fun _ => ⟨rfl, _, _, _, rfl, rfl⟩) (by first | rfl | exact pv_shx) (by omega) (by omega) (by decide) rfl (by first | exact Or.inl ⟨_, rfl⟩ | exact Or.inr ⟨_, rfl⟩) ?_
  refine mo_197 ?_ ?_ ?_ ?_ ?_
  · simp [upd]
  · simp [upd]
  · intro j y1 y2; simp [upd, y1, y2]
  · intro x hx; simp [pvuP, hx]
  · intro j a hp
    unfold pv_mP at hp
    split at hp <;> first | (cases hp; done) | (cases hp; simp [pvuP, va_up])
end MOD
