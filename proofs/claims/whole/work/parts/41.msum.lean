/-! model: a sum -/
theorem stl_35 : ∀ {pl cd : List Nat}, stl 3 pl cd = stl 3 (stl 5 pl cd).1 (stl 5 pl cd).2
  | [], cd => rfl
  | x :: r, cd => by
    have e : stl 5 (x :: r) cd = if 5 ≤ x ∧ x < 40 then stl 5 r (cd ++ [opI x]) else (x :: r, cd) := rfl
    rw [e]
    by_cases c : 5 ≤ x ∧ x < 40
    · rw [if_pos c, ← stl_35]
      exact if_pos ⟨by omega, c.2⟩
    · rw [if_neg c]
theorem opI_P {T : Nat} (h : T = 43 ∨ T = 45 ∨ T = 42 ∨ T = 47) : opI (opP' T) = 20000 + T := by
  rcases h with rfl | rfl | rfl | rfl <;> rfl
theorem opP_b {T : Nat} : 3 ≤ opP' T ∧ opP' T ≤ 6 := by
  unfold opP'
  split
  · omega
  · split
    · omega
    · split <;> omega
section MSUM
variable {tx : Nat → Nat} {n t0 srt : Nat} {I0 : pvI} {J0 : pvJ} {P : pvP} {Q : pvQT}
abbrev HD (P : pvP) (Q : pvQT) (I : pvI) (J : pvJ) : Prop := pvG mX12_summed (pvR 5 0 0) (pvZ Q 0 0) 10 [.ref 202, .retAddr 0] [] 0 0 224 I J P
theorem h_beg0 {I : pvI} {J : pvJ} {k : Nat} {pl : List Nat} {op : Nat} {wh : Bool} {cd : List Nat} (hw : I 202 33 = 0) (hc : pvMet mX12_beginOne 4 0 0 [.ref 202] 224 I J P (mSq tx n t0 I0 J0 P (some (.int (nI 0))) k pl op wh cd)) (kk : ∀ I' J', mS tx n t0 I0 J0 I' J' k pl op wh cd → HD P Q I' J') : HD P Q I J := by
  unfold HD
  refine g_aload_n dX12_summed_10 rfl ?_
  refine n_getI dX12_summed_11 fdX12_228 rfl (by first | rfl | exact pv_shx) (by omega) (by omega) (by decide) rfl (by repeat (first | exact hw | (apply rd_s; done) | apply rd_n (by omega) | apply rp_s | apply rp_n (by omega) | (apply rdL_s; done) | apply rdL_n (by omega) | apply rpJ_s | apply rpJ_n (by omega) | rfl)) ?_
  refine n_if_eq 24 dX12_summed_14 (by decide) (Iff.rfl) (fun c14 => ?_) (fun c14 => by exfalso; exact c14 rfl)
  refine g_aload_n dX12_summed_24 rfl ?_
  refine n_getI dX12_summed_25 fdX12_228 rfl (by first | rfl | exact pv_shx) (by omega) (by omega) (by decide) rfl (by repeat (first | exact hw | (apply rd_s; done) | apply rd_n (by omega) | apply rp_s | apply rp_n (by omega) | (apply rdL_s; done) | apply rdL_n (by omega) | apply rpJ_s | apply rpJ_n (by omega) | rfl)) ?_
  refine n_if_eq 38 dX12_summed_28 (by decide) (Iff.rfl) (fun c28 => ?_) (fun c28 => by exfalso; exact c28 rfl)
  refine g_aload_n dX12_summed_38 rfl ?_
  refine g_callV (hc) okX12_beginOne lkX12_278 rfl (by first | rfl | exact pv_shx) rfl (by omega) (by omega) dX12_summed_39 rfl (Nat.le_of_ble_eq_true rfl) (⟨by decide, by decide, by decide, by decide⟩) ?_
  rintro w nx' I2 J2 P' ⟨rfl, rfl, rfl, s2⟩
  refine g_istore_n dX12_summed_42 (by decide) rfl ?_
  refine g_iload_n dX12_summed_43 rfl ?_
  refine n_if_eq 49 dX12_summed_44 (by decide) (by first | (with_reducible exact cB _) | ((with_reducible apply cN_eq0) <;> omega) | exact Iff.rfl) (fun c44 => ?_) (fun c44 => by exfalso; first | omega | exact absurd trivial c44 | exact c44)
  refine g_goto 10 dX12_summed_49 (by decide) ?_
  exact g_drop _ (by repeat (first | exact trivial | refine ⟨Or.inr ⟨_, rfl⟩, ?_⟩ | refine ⟨Or.inl rfl, ?_⟩)) (kk I2 J2 s2)
theorem h_begF {I : pvI} {J : pvJ} {k f : Nat} {pl : List Nat} {op : Nat} {wh : Bool} {cd : List Nat} (hf : f ≠ 0) (hf2 : f < 10) (hw : I 202 33 = 0) (hc : pvMet mX12_beginOne 4 0 0 [.ref 202] 224 I J P (mSq tx n t0 I0 J0 P (some (.int (nI f))) k pl op wh cd)) (kk : ∀ I' J', mS tx n t0 I0 J0 I' J' k pl op wh cd → Q (some (.int (nI f))) 224 I' J' P) : HD P Q I J := by
  unfold HD
  refine g_aload_n dX12_summed_10 rfl ?_
  refine n_getI dX12_summed_11 fdX12_228 rfl (by first | rfl | exact pv_shx) (by omega) (by omega) (by decide) rfl (by repeat (first | exact hw | (apply rd_s; done) | apply rd_n (by omega) | apply rp_s | apply rp_n (by omega) | (apply rdL_s; done) | apply rdL_n (by omega) | apply rpJ_s | apply rpJ_n (by omega) | rfl)) ?_
  refine n_if_eq 24 dX12_summed_14 (by decide) (Iff.rfl) (fun c14 => ?_) (fun c14 => by exfalso; exact c14 rfl)
  refine g_aload_n dX12_summed_24 rfl ?_
  refine n_getI dX12_summed_25 fdX12_228 rfl (by first | rfl | exact pv_shx) (by omega) (by omega) (by decide) rfl (by repeat (first | exact hw | (apply rd_s; done) | apply rd_n (by omega) | apply rp_s | apply rp_n (by omega) | (apply rdL_s; done) | apply rdL_n (by omega) | apply rpJ_s | apply rpJ_n (by omega) | rfl)) ?_
  refine n_if_eq 38 dX12_summed_28 (by decide) (Iff.rfl) (fun c28 => ?_) (fun c28 => by exfalso; exact c28 rfl)
  refine g_aload_n dX12_summed_38 rfl ?_
  refine g_callV (hc) okX12_beginOne lkX12_278 rfl (by first | rfl | exact pv_shx) rfl (by omega) (by omega) dX12_summed_39 rfl (Nat.le_of_ble_eq_true rfl) (⟨by decide, by decide, by decide, by decide⟩) ?_
  rintro w nx' I2 J2 P' ⟨rfl, rfl, rfl, s2⟩
  refine g_istore_n dX12_summed_42 (by decide) rfl ?_
  refine g_iload_n dX12_summed_43 rfl ?_
  refine n_if_eq 49 dX12_summed_44 (by decide) (by first | (with_reducible exact cB _) | ((with_reducible apply cN_eq0) <;> omega) | exact Iff.rfl) (fun c44 => by exfalso; first | omega | exact absurd trivial c44 | exact c44) (fun c44 => ?_)
  refine g_iload_n dX12_summed_47 rfl ?_
  exact g_iret dX12_summed_48 rfl (kk I2 J2 s2)
theorem h_beh {I : pvI} {J : pvJ} {k : Nat} {pl : List Nat} {op : Nat} {wh : Bool} {cd : List Nat} (hw : I 202 33 = 1) (hg : pvMet mX12_goesOn 1 0 0 [.ref 202] 224 I J P (pvpu (.int 1) 224 I J P)) (hc : pvMet mX12_behindOne 3 0 0 [.ref 202] 224 I J P (mSq tx n t0 I0 J0 P (some (.int (nI 0))) k pl op wh cd)) (kk : ∀ I' J', mS tx n t0 I0 J0 I' J' k pl op wh cd → HD P Q I' J') : HD P Q I J := by
  unfold HD
  refine g_aload_n dX12_summed_10 rfl ?_
  refine n_getI dX12_summed_11 fdX12_228 rfl (by first | rfl | exact pv_shx) (by omega) (by omega) (by decide) rfl (by repeat (first | exact hw | (apply rd_s; done) | apply rd_n (by omega) | apply rp_s | apply rp_n (by omega) | (apply rdL_s; done) | apply rdL_n (by omega) | apply rpJ_s | apply rpJ_n (by omega) | rfl)) ?_
  refine n_if_eq 24 dX12_summed_14 (by decide) (Iff.rfl) (fun c14 => by exfalso; exact absurd c14 (by decide)) (fun c14 => ?_)
  refine g_aload_n dX12_summed_17 rfl ?_
  refine p_callV (hg) okX12_goesOn lkX12_272 rfl (by first | rfl | exact pv_shx) rfl (by omega) (by omega) dX12_summed_18 rfl (Nat.le_of_ble_eq_true rfl) (⟨by decide, by decide, by decide, by decide⟩) ?_
  refine n_if_eq 52 dX12_summed_21 (by decide) (Iff.rfl) (fun c21 => by exfalso; exact absurd c21 (by decide)) (fun c21 => ?_)
  refine g_aload_n dX12_summed_24 rfl ?_
  refine n_getI dX12_summed_25 fdX12_228 rfl (by first | rfl | exact pv_shx) (by omega) (by omega) (by decide) rfl (by repeat (first | exact hw | (apply rd_s; done) | apply rd_n (by omega) | apply rp_s | apply rp_n (by omega) | (apply rdL_s; done) | apply rdL_n (by omega) | apply rpJ_s | apply rpJ_n (by omega) | rfl)) ?_
  refine n_if_eq 38 dX12_summed_28 (by decide) (Iff.rfl) (fun c28 => by exfalso; exact absurd c28 (by decide)) (fun c28 => ?_)
  refine g_aload_n dX12_summed_31 rfl ?_
  refine g_callV (hc) okX12_behindOne lkX12_275 rfl (by first | rfl | exact pv_shx) rfl (by omega) (by omega) dX12_summed_32 rfl (Nat.le_of_ble_eq_true rfl) (⟨by decide, by decide, by decide, by decide⟩) ?_
  rintro w nx' I2 J2 P' ⟨rfl, rfl, rfl, s2⟩
  refine g_goto 42 dX12_summed_35 (by decide) ?_
  refine g_istore_n dX12_summed_42 (by decide) rfl ?_
  refine g_iload_n dX12_summed_43 rfl ?_
  refine n_if_eq 49 dX12_summed_44 (by decide) (by first | (with_reducible exact cB _) | ((with_reducible apply cN_eq0) <;> omega) | exact Iff.rfl) (fun c44 => ?_) (fun c44 => by exfalso; first | omega | exact absurd trivial c44 | exact c44)
  refine g_goto 10 dX12_summed_49 (by decide) ?_
  exact g_drop _ (by repeat (first | exact trivial | refine ⟨Or.inr ⟨_, rfl⟩, ?_⟩ | refine ⟨Or.inl rfl, ?_⟩)) (kk I2 J2 s2)
theorem h_exit {I : pvI} {J : pvJ} {k : Nat} {pl : List Nat} {op : Nat} {wh : Bool} {cd : List Nat} (hpl : pl.length ≤ 160) (hw : I 202 33 = 1) (hg : pvMet mX12_goesOn 1 0 0 [.ref 202] 224 I J P (pvpu (.int 0) 224 I J P)) (hc : pvMet mX12_settle 1 0 0 [.ref 202, .int (nI 3)] 224 I J P (mSq tx n t0 I0 J0 P none k pl op wh cd)) (kk : ∀ I' J', mS tx n t0 I0 J0 I' J' k pl op wh cd → Q (some (.int (nI (if pl.length = 0 then 0 else 1)))) 224 I' J' P) : HD P Q I J := by
  unfold HD
  refine g_aload_n dX12_summed_10 rfl ?_
  refine n_getI dX12_summed_11 fdX12_228 rfl (by first | rfl | exact pv_shx) (by omega) (by omega) (by decide) rfl (hw) ?_
  refine n_if_eq 24 dX12_summed_14 (by decide) (Iff.rfl) (fun c14 => by exfalso; exact absurd c14 (by decide)) (fun c14 => ?_)
  refine g_aload_n dX12_summed_17 rfl ?_
  refine p_callV (hg) okX12_goesOn lkX12_272 rfl (by first | rfl | exact pv_shx) rfl (by omega) (by omega) dX12_summed_18 rfl (Nat.le_of_ble_eq_true rfl) (⟨by decide, by decide, by decide, by decide⟩) ?_
  refine n_if_eq 52 dX12_summed_21 (by decide) (Iff.rfl) (fun c21 => ?_) (fun c21 => by exfalso; exact c21 rfl)
  refine g_aload_n dX12_summed_52 rfl ?_
  refine g_iconst (v := nI 3) dX12_summed_53 (by decide) ?_
  refine g_callV (hc) okX12_settle lkX12_269 rfl (by first | rfl | exact pv_shx) rfl (by omega) (by omega) dX12_summed_54 rfl (Nat.le_of_ble_eq_true rfl) (⟨by decide, by decide, by decide, by decide⟩) ?_
  rintro w nx' I2 J2 P' ⟨rfl, rfl, rfl, s2⟩
  have f31 := s2.pd
  refine g_aload_n dX12_summed_57 rfl ?_
  refine n_getI dX12_summed_58 fdX12_225 rfl (by first | rfl | exact pv_shx) (by omega) (by omega) (by decide) rfl (f31) ?_
  refine n_if_le 68 dX12_summed_61 (by decide) (by first | ((with_reducible apply cN_le0) <;> omega) | (with_reducible exact cI_le0)) (fun c61 => ?_) (fun c61 => ?_)
  · skip
    refine g_iconst (v := nI 0) dX12_summed_68 (by decide) ?_
    exact g_iret dX12_summed_69 rfl (by have := kk I2 J2 s2; first | rwa [if_pos (by omega)] at this | rwa [if_neg (by omega)] at this)
  · skip
    refine g_iconst (v := nI 1) dX12_summed_64 (by decide) ?_
    refine g_goto 69 dX12_summed_65 (by decide) ?_
    exact g_iret dX12_summed_69 rfl (by have := kk I2 J2 s2; first | rwa [if_pos (by omega)] at this | rwa [if_neg (by omega)] at this)
end MSUM
