/-! class: cell -/
section CEL
variable {w h : Nat} {a a' : Nat → Int32} {I I' : pvI} {J J' : pvJ} {P : pvP}
theorem m1_not {f : Nat → Bool} : mk f ^^^ (-1) = mk (fun c => !f c) := mk_not
/-- a set with the cell c put to a value -/
def setB (f : Nat → Bool) (c : Nat) (v : Bool) : Nat → Bool := fun x => if x = c then v else f x
theorem set_off {f : Nat → Bool} {c : Nat} : mk f &&& mk (fun x => !decide (x = c)) = mk (setB f c false) := mk_and.trans (mk_cong (fun x _ => by
  unfold setB
  by_cases e : x = c
  · simp [e]
  · simp [e]))
theorem set_on {f : Nat → Bool} {c : Nat} : mk (setB f c false) ||| mk (fun x => decide (x = c)) = mk (setB f c true) := mk_or.trans (mk_cong (fun x _ => by
  unfold setB
  by_cases e : x = c
  · simp [e]
  · simp [e]))
def celQ (c k t : Nat) (f g : Nat → Bool) (I : pvI) (J : pvJ) (P : pvP) : pvQT := pvq P (fun v I' J' => v = none ∧ I' 5 = upd (I 5) c (nI k) ∧ I' 6 = upd (I 6) c (nI t) ∧ (∀ z, z ≠ 5 → z ≠ 6 → I' z = I z) ∧ J' 4 5 = mk (setB f c (decide (k = 3))) ∧ J' 4 6 = mk (setB g c (decide (0 < t))) ∧ (∀ z, z ≠ 4 → J' z = J z))
theorem c_tell {c k t : Nat} {f g : Nat → Bool} (hP : pvOkP P) (hc : c < 64) (hk : k ≤ 4) (ht : t ≤ 999) (h5 : J 4 5 = mk f) (h6 : J 4 6 = mk g) : pvMet mX3_tell 1 0 0 [.ref 4, .int (nI c), .int (nI k), .int (nI t)] 224 I J P (celQ c k t f g I J P) := by
  have bt := fun I1 J1 => t_bit (nx := 224) (k := c) (I := I1) (J := J1) (P := P) hc
  have fin : ∀ I' J', I' 5 = upd (I 5) c (nI k) → I' 6 = upd (I 6) c (nI t) → (∀ z, z ≠ 5 → z ≠ 6 → I' z = I z) → J' 4 5 = mk (setB f c (decide (k = 3))) → J' 4 6 = mk (setB g c (decide (0 < t))) → (∀ z, z ≠ 4 → J' z = J z) → celQ c k t f g I J P none 224 I' J' P := fun I' J' e1 e2 e3 e4 e5 e6 => ⟨rfl, rfl, rfl, e1, e2, e3, e4, e5, e6⟩
  by_cases c1 : k = 3
  · by_cases c2 : 0 < t
    · rw [decide_eq_true c1, decide_eq_true c2] at fin
      refine pvMet.of _ (by decide) rfl (Nat.le_of_ble_eq_true rfl) ?_
      refine g_aload_n dX3_tell_0 rfl ?_
      refine g_getP dX3_tell_1 fdX3_9 rfl (by first | rfl | exact pv_shx) (by omega) (by omega) (by decide) rfl (hP _ _ _ rfl) ?_
      refine g_iload_n dX3_tell_4 rfl ?_
      refine g_iload_n dX3_tell_5 rfl ?_
      refine n_iast dX3_tell_6 (by first | rfl | exact pv_shx) (by omega) (by omega) (by omega) (by decide) (rfl) (by omega) (by repeat (first | exact pvu_s | exact pvuJ_s | apply pvu_in (by omega) | apply pvuJ_in (by omega) | exact pvu_pvs | exact pvuJ_pvs)) ?_
      refine g_aload_n dX3_tell_7 rfl ?_
      refine g_getP dX3_tell_8 fdX3_15 rfl (by first | rfl | exact pv_shx) (by omega) (by omega) (by decide) rfl (hP _ _ _ rfl) ?_
      refine g_iload_n dX3_tell_11 rfl ?_
      refine g_iload_n dX3_tell_12 rfl ?_
      refine n_iast dX3_tell_13 (by first | rfl | exact pv_shx) (by omega) (by omega) (by omega) (by decide) (rfl) (by omega) (by repeat (first | exact pvu_s | exact pvuJ_s | apply pvu_in (by omega) | apply pvuJ_in (by omega) | exact pvu_pvs | exact pvuJ_pvs)) ?_
      refine g_aload_n dX3_tell_14 rfl ?_
      refine g_dup dX3_tell_15 rfl ?_
      refine n_getJ dX3_tell_16 fdX3_45 rfl (by first | rfl | exact pv_shx) (by omega) (by omega) (by decide) rfl (by repeat (first | exact h5 | exact h6 | (apply rd_s; done) | apply rd_n (by omega) | apply rp_s | apply rp_n (by omega) | (apply rdL_s; done) | apply rdL_n (by omega) | apply rpJ_s | apply rpJ_n (by omega) | rfl)) ?_
      refine g_iload_n dX3_tell_19 rfl ?_
      refine p_callNS (bt _ _) okX11_bit lkX3_55 rfl dX3_tell_20 rfl (Nat.le_of_ble_eq_true rfl) (⟨by decide, by decide, by decide, by decide⟩) ?_
      refine g_ldc2 (v := (-1 : Int64)) dX3_tell_23 kcX3_59 ?_
      refine n_lxor dX3_tell_26 (mk_not) ?_
      refine n_land dX3_tell_27 (set_off) ?_
      refine n_putJ dX3_tell_28 fdX3_45 rfl (fun h => absurd h (by decide)) (by first | rfl | exact pv_shx) (by omega) (by omega) (by decide) rfl (by repeat (first | exact pvu_s | exact pvuJ_s | apply pvu_in (by omega) | apply pvuJ_in (by omega) | exact pvu_pvs | exact pvuJ_pvs)) ?_
      refine g_aload_n dX3_tell_31 rfl ?_
      refine g_dup dX3_tell_32 rfl ?_
      refine n_getJ dX3_tell_33 fdX3_49 rfl (by first | rfl | exact pv_shx) (by omega) (by omega) (by decide) rfl (by repeat (first | exact h5 | exact h6 | (apply rd_s; done) | apply rd_n (by omega) | apply rp_s | apply rp_n (by omega) | (apply rdL_s; done) | apply rdL_n (by omega) | apply rpJ_s | apply rpJ_n (by omega) | rfl)) ?_
      refine g_iload_n dX3_tell_36 rfl ?_
      refine p_callNS (bt _ _) okX11_bit lkX3_55 rfl dX3_tell_37 rfl (Nat.le_of_ble_eq_true rfl) (⟨by decide, by decide, by decide, by decide⟩) ?_
      refine g_ldc2 (v := (-1 : Int64)) dX3_tell_40 kcX3_59 ?_
      refine n_lxor dX3_tell_43 (mk_not) ?_
      refine n_land dX3_tell_44 (set_off) ?_
      refine n_putJ dX3_tell_45 fdX3_49 rfl (fun h => absurd h (by decide)) (by first | rfl | exact pv_shx) (by omega) (by omega) (by decide) rfl (by repeat (first | exact pvu_s | exact pvuJ_s | apply pvu_in (by omega) | apply pvuJ_in (by omega) | exact pvu_pvs | exact pvuJ_pvs)) ?_
      refine g_iload_n dX3_tell_48 rfl ?_
      refine g_iconst (v := nI 3) dX3_tell_49 (by decide) ?_
      refine n_icmp_ne 66 dX3_tell_50 (by decide) (by first | ((with_reducible apply cN_eq) <;> omega) | ((with_reducible apply cI_eqn) <;> omega) | exact Iff.rfl) (fun c50 => by exfalso; first | omega | exact absurd trivial c50 | exact c50 | (simp at c50)) (fun c50 => ?_)
      refine g_aload_n dX3_tell_53 rfl ?_
      refine g_dup dX3_tell_54 rfl ?_
      refine n_getJ dX3_tell_55 fdX3_45 rfl (by first | rfl | exact pv_shx) (by omega) (by omega) (by decide) rfl (by repeat (first | exact h5 | exact h6 | (apply rd_s; done) | apply rd_n (by omega) | apply rp_s | apply rp_n (by omega) | (apply rdL_s; done) | apply rdL_n (by omega) | apply rpJ_s | apply rpJ_n (by omega) | rfl)) ?_
      refine g_iload_n dX3_tell_58 rfl ?_
      refine p_callNS (bt _ _) okX11_bit lkX3_55 rfl dX3_tell_59 rfl (Nat.le_of_ble_eq_true rfl) (⟨by decide, by decide, by decide, by decide⟩) ?_
      refine n_lor dX3_tell_62 (set_on) ?_
      refine n_putJ dX3_tell_63 fdX3_45 rfl (fun h => absurd h (by decide)) (by first | rfl | exact pv_shx) (by omega) (by omega) (by decide) rfl (by repeat (first | exact pvu_s | exact pvuJ_s | apply pvu_in (by omega) | apply pvuJ_in (by omega) | exact pvu_pvs | exact pvuJ_pvs)) ?_
      refine g_iload_n dX3_tell_66 rfl ?_
      refine n_if_le 83 dX3_tell_67 (by decide) (by first | ((with_reducible apply cN_le0) <;> omega) | (with_reducible exact cI_le0)) (fun c67 => by exfalso; first | omega | exact absurd trivial c67 | exact c67 | (simp at c67)) (fun c67 => ?_)
      refine g_aload_n dX3_tell_70 rfl ?_
      refine g_dup dX3_tell_71 rfl ?_
      refine n_getJ dX3_tell_72 fdX3_49 rfl (by first | rfl | exact pv_shx) (by omega) (by omega) (by decide) rfl (by repeat (first | exact h5 | exact h6 | (apply rd_s; done) | apply rd_n (by omega) | apply rp_s | apply rp_n (by omega) | (apply rdL_s; done) | apply rdL_n (by omega) | apply rpJ_s | apply rpJ_n (by omega) | rfl)) ?_
      refine g_iload_n dX3_tell_75 rfl ?_
      refine p_callNS (bt _ _) okX11_bit lkX3_55 rfl dX3_tell_76 rfl (Nat.le_of_ble_eq_true rfl) (⟨by decide, by decide, by decide, by decide⟩) ?_
      refine n_lor dX3_tell_79 (set_on) ?_
      refine n_putJ dX3_tell_80 fdX3_49 rfl (fun h => absurd h (by decide)) (by first | rfl | exact pv_shx) (by omega) (by omega) (by decide) rfl (by repeat (first | exact pvu_s | exact pvuJ_s | apply pvu_in (by omega) | apply pvuJ_in (by omega) | exact pvu_pvs | exact pvuJ_pvs)) ?_
      exact g_vret dX3_tell_83 rfl (fin _ _ (by simp [pvs]) (by simp [pvs]) (fun z z1 z2 => by simp [pvs, z1, z2]) (by simp [pvsJ, vp_updL]) (by simp [pvsJ, vp_updL]) (fun z hz => by simp [pvsJ, hz]))
    · rw [decide_eq_true c1, decide_eq_false c2] at fin
      refine pvMet.of _ (by decide) rfl (Nat.le_of_ble_eq_true rfl) ?_
      refine g_aload_n dX3_tell_0 rfl ?_
      refine g_getP dX3_tell_1 fdX3_9 rfl (by first | rfl | exact pv_shx) (by omega) (by omega) (by decide) rfl (hP _ _ _ rfl) ?_
      refine g_iload_n dX3_tell_4 rfl ?_
      refine g_iload_n dX3_tell_5 rfl ?_
      refine n_iast dX3_tell_6 (by first | rfl | exact pv_shx) (by omega) (by omega) (by omega) (by decide) (rfl) (by omega) (by repeat (first | exact pvu_s | exact pvuJ_s | apply pvu_in (by omega) | apply pvuJ_in (by omega) | exact pvu_pvs | exact pvuJ_pvs)) ?_
      refine g_aload_n dX3_tell_7 rfl ?_
      refine g_getP dX3_tell_8 fdX3_15 rfl (by first | rfl | exact pv_shx) (by omega) (by omega) (by decide) rfl (hP _ _ _ rfl) ?_
      refine g_iload_n dX3_tell_11 rfl ?_
      refine g_iload_n dX3_tell_12 rfl ?_
      refine n_iast dX3_tell_13 (by first | rfl | exact pv_shx) (by omega) (by omega) (by omega) (by decide) (rfl) (by omega) (by repeat (first | exact pvu_s | exact pvuJ_s | apply pvu_in (by omega) | apply pvuJ_in (by omega) | exact pvu_pvs | exact pvuJ_pvs)) ?_
      refine g_aload_n dX3_tell_14 rfl ?_
      refine g_dup dX3_tell_15 rfl ?_
      refine n_getJ dX3_tell_16 fdX3_45 rfl (by first | rfl | exact pv_shx) (by omega) (by omega) (by decide) rfl (by repeat (first | exact h5 | exact h6 | (apply rd_s; done) | apply rd_n (by omega) | apply rp_s | apply rp_n (by omega) | (apply rdL_s; done) | apply rdL_n (by omega) | apply rpJ_s | apply rpJ_n (by omega) | rfl)) ?_
      refine g_iload_n dX3_tell_19 rfl ?_
      refine p_callNS (bt _ _) okX11_bit lkX3_55 rfl dX3_tell_20 rfl (Nat.le_of_ble_eq_true rfl) (⟨by decide, by decide, by decide, by decide⟩) ?_
      refine g_ldc2 (v := (-1 : Int64)) dX3_tell_23 kcX3_59 ?_
      refine n_lxor dX3_tell_26 (mk_not) ?_
      refine n_land dX3_tell_27 (set_off) ?_
      refine n_putJ dX3_tell_28 fdX3_45 rfl (fun h => absurd h (by decide)) (by first | rfl | exact pv_shx) (by omega) (by omega) (by decide) rfl (by repeat (first | exact pvu_s | exact pvuJ_s | apply pvu_in (by omega) | apply pvuJ_in (by omega) | exact pvu_pvs | exact pvuJ_pvs)) ?_
      refine g_aload_n dX3_tell_31 rfl ?_
      refine g_dup dX3_tell_32 rfl ?_
      refine n_getJ dX3_tell_33 fdX3_49 rfl (by first | rfl | exact pv_shx) (by omega) (by omega) (by decide) rfl (by repeat (first | exact h5 | exact h6 | (apply rd_s; done) | apply rd_n (by omega) | apply rp_s | apply rp_n (by omega) | (apply rdL_s; done) | apply rdL_n (by omega) | apply rpJ_s | apply rpJ_n (by omega) | rfl)) ?_
      refine g_iload_n dX3_tell_36 rfl ?_
      refine p_callNS (bt _ _) okX11_bit lkX3_55 rfl dX3_tell_37 rfl (Nat.le_of_ble_eq_true rfl) (⟨by decide, by decide, by decide, by decide⟩) ?_
      refine g_ldc2 (v := (-1 : Int64)) dX3_tell_40 kcX3_59 ?_
      refine n_lxor dX3_tell_43 (mk_not) ?_
      refine n_land dX3_tell_44 (set_off) ?_
      refine n_putJ dX3_tell_45 fdX3_49 rfl (fun h => absurd h (by decide)) (by first | rfl | exact pv_shx) (by omega) (by omega) (by decide) rfl (by repeat (first | exact pvu_s | exact pvuJ_s | apply pvu_in (by omega) | apply pvuJ_in (by omega) | exact pvu_pvs | exact pvuJ_pvs)) ?_
      refine g_iload_n dX3_tell_48 rfl ?_
      refine g_iconst (v := nI 3) dX3_tell_49 (by decide) ?_
      refine n_icmp_ne 66 dX3_tell_50 (by decide) (by first | ((with_reducible apply cN_eq) <;> omega) | ((with_reducible apply cI_eqn) <;> omega) | exact Iff.rfl) (fun c50 => by exfalso; first | omega | exact absurd trivial c50 | exact c50 | (simp at c50)) (fun c50 => ?_)
      refine g_aload_n dX3_tell_53 rfl ?_
      refine g_dup dX3_tell_54 rfl ?_
      refine n_getJ dX3_tell_55 fdX3_45 rfl (by first | rfl | exact pv_shx) (by omega) (by omega) (by decide) rfl (by repeat (first | exact h5 | exact h6 | (apply rd_s; done) | apply rd_n (by omega) | apply rp_s | apply rp_n (by omega) | (apply rdL_s; done) | apply rdL_n (by omega) | apply rpJ_s | apply rpJ_n (by omega) | rfl)) ?_
      refine g_iload_n dX3_tell_58 rfl ?_
      refine p_callNS (bt _ _) okX11_bit lkX3_55 rfl dX3_tell_59 rfl (Nat.le_of_ble_eq_true rfl) (⟨by decide, by decide, by decide, by decide⟩) ?_
      refine n_lor dX3_tell_62 (set_on) ?_
      refine n_putJ dX3_tell_63 fdX3_45 rfl (fun h => absurd h (by decide)) (by first | rfl | exact pv_shx) (by omega) (by omega) (by decide) rfl (by repeat (first | exact pvu_s | exact pvuJ_s | apply pvu_in (by omega) | apply pvuJ_in (by omega) | exact pvu_pvs | exact pvuJ_pvs)) ?_
      refine g_iload_n dX3_tell_66 rfl ?_
      refine n_if_le 83 dX3_tell_67 (by decide) (by first | ((with_reducible apply cN_le0) <;> omega) | (with_reducible exact cI_le0)) (fun c67 => ?_) (fun c67 => by exfalso; first | omega | exact absurd trivial c67 | exact c67 | (simp at c67))
      exact g_vret dX3_tell_83 rfl (fin _ _ (by simp [pvs]) (by simp [pvs]) (fun z z1 z2 => by simp [pvs, z1, z2]) (by simp [pvsJ, vp_updL]) (by simp [pvsJ, vp_updL]) (fun z hz => by simp [pvsJ, hz]))
  · by_cases c2 : 0 < t
    · rw [decide_eq_false c1, decide_eq_true c2] at fin
      refine pvMet.of _ (by decide) rfl (Nat.le_of_ble_eq_true rfl) ?_
      refine g_aload_n dX3_tell_0 rfl ?_
      refine g_getP dX3_tell_1 fdX3_9 rfl (by first | rfl | exact pv_shx) (by omega) (by omega) (by decide) rfl (hP _ _ _ rfl) ?_
      refine g_iload_n dX3_tell_4 rfl ?_
      refine g_iload_n dX3_tell_5 rfl ?_
      refine n_iast dX3_tell_6 (by first | rfl | exact pv_shx) (by omega) (by omega) (by omega) (by decide) (rfl) (by omega) (by repeat (first | exact pvu_s | exact pvuJ_s | apply pvu_in (by omega) | apply pvuJ_in (by omega) | exact pvu_pvs | exact pvuJ_pvs)) ?_
      refine g_aload_n dX3_tell_7 rfl ?_
      refine g_getP dX3_tell_8 fdX3_15 rfl (by first | rfl | exact pv_shx) (by omega) (by omega) (by decide) rfl (hP _ _ _ rfl) ?_
      refine g_iload_n dX3_tell_11 rfl ?_
      refine g_iload_n dX3_tell_12 rfl ?_
      refine n_iast dX3_tell_13 (by first | rfl | exact pv_shx) (by omega) (by omega) (by omega) (by decide) (rfl) (by omega) (by repeat (first | exact pvu_s | exact pvuJ_s | apply pvu_in (by omega) | apply pvuJ_in (by omega) | exact pvu_pvs | exact pvuJ_pvs)) ?_
      refine g_aload_n dX3_tell_14 rfl ?_
      refine g_dup dX3_tell_15 rfl ?_
      refine n_getJ dX3_tell_16 fdX3_45 rfl (by first | rfl | exact pv_shx) (by omega) (by omega) (by decide) rfl (by repeat (first | exact h5 | exact h6 | (apply rd_s; done) | apply rd_n (by omega) | apply rp_s | apply rp_n (by omega) | (apply rdL_s; done) | apply rdL_n (by omega) | apply rpJ_s | apply rpJ_n (by omega) | rfl)) ?_
      refine g_iload_n dX3_tell_19 rfl ?_
      refine p_callNS (bt _ _) okX11_bit lkX3_55 rfl dX3_tell_20 rfl (Nat.le_of_ble_eq_true rfl) (⟨by decide, by decide, by decide, by decide⟩) ?_
      refine g_ldc2 (v := (-1 : Int64)) dX3_tell_23 kcX3_59 ?_
      refine n_lxor dX3_tell_26 (mk_not) ?_
      refine n_land dX3_tell_27 (set_off) ?_
      refine n_putJ dX3_tell_28 fdX3_45 rfl (fun h => absurd h (by decide)) (by first | rfl | exact pv_shx) (by omega) (by omega) (by decide) rfl (by repeat (first | exact pvu_s | exact pvuJ_s | apply pvu_in (by omega) | apply pvuJ_in (by omega) | exact pvu_pvs | exact pvuJ_pvs)) ?_
      refine g_aload_n dX3_tell_31 rfl ?_
      refine g_dup dX3_tell_32 rfl ?_
      refine n_getJ dX3_tell_33 fdX3_49 rfl (by first | rfl | exact pv_shx) (by omega) (by omega) (by decide) rfl (by repeat (first | exact h5 | exact h6 | (apply rd_s; done) | apply rd_n (by omega) | apply rp_s | apply rp_n (by omega) | (apply rdL_s; done) | apply rdL_n (by omega) | apply rpJ_s | apply rpJ_n (by omega) | rfl)) ?_
      refine g_iload_n dX3_tell_36 rfl ?_
      refine p_callNS (bt _ _) okX11_bit lkX3_55 rfl dX3_tell_37 rfl (Nat.le_of_ble_eq_true rfl) (⟨by decide, by decide, by decide, by decide⟩) ?_
      refine g_ldc2 (v := (-1 : Int64)) dX3_tell_40 kcX3_59 ?_
      refine n_lxor dX3_tell_43 (mk_not) ?_
      refine n_land dX3_tell_44 (set_off) ?_
      refine n_putJ dX3_tell_45 fdX3_49 rfl (fun h => absurd h (by decide)) (by first | rfl | exact pv_shx) (by omega) (by omega) (by decide) rfl (by repeat (first | exact pvu_s | exact pvuJ_s | apply pvu_in (by omega) | apply pvuJ_in (by omega) | exact pvu_pvs | exact pvuJ_pvs)) ?_
      refine g_iload_n dX3_tell_48 rfl ?_
      refine g_iconst (v := nI 3) dX3_tell_49 (by decide) ?_
      refine n_icmp_ne 66 dX3_tell_50 (by decide) (by first | ((with_reducible apply cN_eq) <;> omega) | ((with_reducible apply cI_eqn) <;> omega) | exact Iff.rfl) (fun c50 => ?_) (fun c50 => by exfalso; first | omega | exact absurd trivial c50 | exact c50 | (simp at c50))
      refine g_iload_n dX3_tell_66 rfl ?_
      refine n_if_le 83 dX3_tell_67 (by decide) (by first | ((with_reducible apply cN_le0) <;> omega) | (with_reducible exact cI_le0)) (fun c67 => by exfalso; first | omega | exact absurd trivial c67 | exact c67 | (simp at c67)) (fun c67 => ?_)
      refine g_aload_n dX3_tell_70 rfl ?_
      refine g_dup dX3_tell_71 rfl ?_
      refine n_getJ dX3_tell_72 fdX3_49 rfl (by first | rfl | exact pv_shx) (by omega) (by omega) (by decide) rfl (by repeat (first | exact h5 | exact h6 | (apply rd_s; done) | apply rd_n (by omega) | apply rp_s | apply rp_n (by omega) | (apply rdL_s; done) | apply rdL_n (by omega) | apply rpJ_s | apply rpJ_n (by omega) | rfl)) ?_
      refine g_iload_n dX3_tell_75 rfl ?_
      refine p_callNS (bt _ _) okX11_bit lkX3_55 rfl dX3_tell_76 rfl (Nat.le_of_ble_eq_true rfl) (⟨by decide, by decide, by decide, by decide⟩) ?_
      refine n_lor dX3_tell_79 (set_on) ?_
      refine n_putJ dX3_tell_80 fdX3_49 rfl (fun h => absurd h (by decide)) (by first | rfl | exact pv_shx) (by omega) (by omega) (by decide) rfl (by repeat (first | exact pvu_s | exact pvuJ_s | apply pvu_in (by omega) | apply pvuJ_in (by omega) | exact pvu_pvs | exact pvuJ_pvs)) ?_
      exact g_vret dX3_tell_83 rfl (fin _ _ (by simp [pvs]) (by simp [pvs]) (fun z z1 z2 => by simp [pvs, z1, z2]) (by simp [pvsJ, vp_updL]) (by simp [pvsJ, vp_updL]) (fun z hz => by simp [pvsJ, hz]))
    · rw [decide_eq_false c1, decide_eq_false c2] at fin
      refine pvMet.of _ (by decide) rfl (Nat.le_of_ble_eq_true rfl) ?_
      refine g_aload_n dX3_tell_0 rfl ?_
      refine g_getP dX3_tell_1 fdX3_9 rfl (by first | rfl | exact pv_shx) (by omega) (by omega) (by decide) rfl (hP _ _ _ rfl) ?_
      refine g_iload_n dX3_tell_4 rfl ?_
      refine g_iload_n dX3_tell_5 rfl ?_
      refine n_iast dX3_tell_6 (by first | rfl | exact pv_shx) (by omega) (by omega) (by omega) (by decide) (rfl) (by omega) (by repeat (first | exact pvu_s | exact pvuJ_s | apply pvu_in (by omega) | apply pvuJ_in (by omega) | exact pvu_pvs | exact pvuJ_pvs)) ?_
      refine g_aload_n dX3_tell_7 rfl ?_
      refine g_getP dX3_tell_8 fdX3_15 rfl (by first | rfl | exact pv_shx) (by omega) (by omega) (by decide) rfl (hP _ _ _ rfl) ?_
      refine g_iload_n dX3_tell_11 rfl ?_
      refine g_iload_n dX3_tell_12 rfl ?_
      refine n_iast dX3_tell_13 (by first | rfl | exact pv_shx) (by omega) (by omega) (by omega) (by decide) (rfl) (by omega) (by repeat (first | exact pvu_s | exact pvuJ_s | apply pvu_in (by omega) | apply pvuJ_in (by omega) | exact pvu_pvs | exact pvuJ_pvs)) ?_
      refine g_aload_n dX3_tell_14 rfl ?_
      refine g_dup dX3_tell_15 rfl ?_
      refine n_getJ dX3_tell_16 fdX3_45 rfl (by first | rfl | exact pv_shx) (by omega) (by omega) (by decide) rfl (by repeat (first | exact h5 | exact h6 | (apply rd_s; done) | apply rd_n (by omega) | apply rp_s | apply rp_n (by omega) | (apply rdL_s; done) | apply rdL_n (by omega) | apply rpJ_s | apply rpJ_n (by omega) | rfl)) ?_
      refine g_iload_n dX3_tell_19 rfl ?_
      refine p_callNS (bt _ _) okX11_bit lkX3_55 rfl dX3_tell_20 rfl (Nat.le_of_ble_eq_true rfl) (⟨by decide, by decide, by decide, by decide⟩) ?_
      refine g_ldc2 (v := (-1 : Int64)) dX3_tell_23 kcX3_59 ?_
      refine n_lxor dX3_tell_26 (mk_not) ?_
      refine n_land dX3_tell_27 (set_off) ?_
      refine n_putJ dX3_tell_28 fdX3_45 rfl (fun h => absurd h (by decide)) (by first | rfl | exact pv_shx) (by omega) (by omega) (by decide) rfl (by repeat (first | exact pvu_s | exact pvuJ_s | apply pvu_in (by omega) | apply pvuJ_in (by omega) | exact pvu_pvs | exact pvuJ_pvs)) ?_
      refine g_aload_n dX3_tell_31 rfl ?_
      refine g_dup dX3_tell_32 rfl ?_
      refine n_getJ dX3_tell_33 fdX3_49 rfl (by first | rfl | exact pv_shx) (by omega) (by omega) (by decide) rfl (by repeat (first | exact h5 | exact h6 | (apply rd_s; done) | apply rd_n (by omega) | apply rp_s | apply rp_n (by omega) | (apply rdL_s; done) | apply rdL_n (by omega) | apply rpJ_s | apply rpJ_n (by omega) | rfl)) ?_
      refine g_iload_n dX3_tell_36 rfl ?_
      refine p_callNS (bt _ _) okX11_bit lkX3_55 rfl dX3_tell_37 rfl (Nat.le_of_ble_eq_true rfl) (⟨by decide, by decide, by decide, by decide⟩) ?_
      refine g_ldc2 (v := (-1 : Int64)) dX3_tell_40 kcX3_59 ?_
      refine n_lxor dX3_tell_43 (mk_not) ?_
      refine n_land dX3_tell_44 (set_off) ?_
      refine n_putJ dX3_tell_45 fdX3_49 rfl (fun h => absurd h (by decide)) (by first | rfl | exact pv_shx) (by omega) (by omega) (by decide) rfl (by repeat (first | exact pvu_s | exact pvuJ_s | apply pvu_in (by omega) | apply pvuJ_in (by omega) | exact pvu_pvs | exact pvuJ_pvs)) ?_
      refine g_iload_n dX3_tell_48 rfl ?_
      refine g_iconst (v := nI 3) dX3_tell_49 (by decide) ?_
      refine n_icmp_ne 66 dX3_tell_50 (by decide) (by first | ((with_reducible apply cN_eq) <;> omega) | ((with_reducible apply cI_eqn) <;> omega) | exact Iff.rfl) (fun c50 => ?_) (fun c50 => by exfalso; first | omega | exact absurd trivial c50 | exact c50 | (simp at c50))
      refine g_iload_n dX3_tell_66 rfl ?_
      refine n_if_le 83 dX3_tell_67 (by decide) (by first | ((with_reducible apply cN_le0) <;> omega) | (with_reducible exact cI_le0)) (fun c67 => ?_) (fun c67 => by exfalso; first | omega | exact absurd trivial c67 | exact c67 | (simp at c67))
      exact g_vret dX3_tell_83 rfl (fin _ _ (by simp [pvs]) (by simp [pvs]) (fun z z1 z2 => by simp [pvs, z1, z2]) (by simp [pvsJ, vp_updL]) (by simp [pvsJ, vp_updL]) (fun z hz => by simp [pvsJ, hz]))
end CEL
