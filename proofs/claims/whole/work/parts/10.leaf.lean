/-! model: the smallest methods -/
theorem t_isIn {nx : Nat} {I : pvI} {J : pvJ} {P : pvP} {v lo hi : Int32} {L H : Int} (hl : lo.toInt = L) (hh : hi.toInt = H) : pvMet mX12_isIn 0 0 0 [.int v, .int lo, .int hi] nx I J P (pvpu (.int (if L ≤ v.toInt ∧ v.toInt ≤ H then 1 else 0)) nx I J P) := by
  subst hl hh
  refine pvMet.of _ (by decide) rfl (Nat.le_of_ble_eq_true rfl) ?_
  refine g_iload_n dX12_isIn_0 rfl ?_
  refine g_iload_n dX12_isIn_1 rfl ?_
  refine n_icmp_lt 14 dX12_isIn_2 (by decide) (cI_lt) (fun c2 => ?_) (fun c2 => ?_)
  · skip
    refine g_iconst (v := nI 0) dX12_isIn_14 (by decide) ?_
    exact g_zret (Or.inl rfl) dX12_isIn_15 rfl ⟨by rw [if_neg (by omega)]; rfl, rfl, rfl, rfl, rfl⟩
  · skip
    refine g_iload_n dX12_isIn_5 rfl ?_
    refine g_iload_n dX12_isIn_6 rfl ?_
    refine n_icmp_gt 14 dX12_isIn_7 (by decide) (cI_lt) (fun c7 => ?_) (fun c7 => ?_)
    · skip
      refine g_iconst (v := nI 0) dX12_isIn_14 (by decide) ?_
      exact g_zret (Or.inl rfl) dX12_isIn_15 rfl ⟨by rw [if_neg (by omega)]; rfl, rfl, rfl, rfl, rfl⟩
    · skip
      refine g_iconst (v := nI 1) dX12_isIn_10 (by decide) ?_
      refine g_goto 15 dX12_isIn_11 (by decide) ?_
      exact g_zret (by first | exact Or.inl rfl | exact Or.inr rfl | exact cB01 _) dX12_isIn_15 rfl (⟨by rw [if_pos (by omega)]; rfl, rfl, rfl, rfl, rfl⟩)
theorem t_isCell {w h : Nat} {I : pvI} {J : pvJ} {P : pvP} {v : Int32} (hw : I 202 0 = nI w) (hh : I 202 1 = nI h) (h1 : 2 ≤ w ∧ w ≤ 8) (h2 : 2 ≤ h ∧ h ≤ 8) : pvMet mX12_isCell 1 0 0 [.ref 202, .int v] 224 I J P (pvpu (.int (if 0 ≤ v.toInt ∧ v.toInt < w * h then 1 else 0)) 224 I J P) := by
  have hwh : 4 ≤ w * h ∧ w * h ≤ 64 := ⟨Nat.mul_le_mul h1.1 h2.1, Nat.mul_le_mul h1.2 h2.2⟩
  refine pvMet.of _ (by decide) rfl (Nat.le_of_ble_eq_true rfl) ?_
  refine g_iload_n dX12_isCell_0 rfl ?_
  refine g_iconst (v := nI 0) dX12_isCell_1 (by decide) ?_
  refine g_aload_n dX12_isCell_2 rfl ?_
  refine n_getI dX12_isCell_3 fdX12_86 rfl (by first | rfl | exact pv_shx) (by omega) (by omega) (by decide) rfl (hw) ?_
  refine g_aload_n dX12_isCell_6 rfl ?_
  refine n_getI dX12_isCell_7 fdX12_89 rfl (by first | rfl | exact pv_shx) (by omega) (by omega) (by decide) rfl (hh) ?_
  refine n_imul dX12_isCell_10 (by first | (with_reducible exact pk_mul _ _) | rfl) ?_
  refine g_iconst (v := nI 1) dX12_isCell_11 (by decide) ?_
  refine n_isub dX12_isCell_12 (by first | ((with_reducible apply pk_sub) <;> omega) | rfl) ?_
  refine p_callS (t_isIn (L := 0) (H := (w * h - 1 : Nat)) (by decide) (nI_toInt (by omega))) okX12_isIn lkX12_96 rfl dX12_isCell_13 rfl (Nat.le_of_ble_eq_true rfl) (⟨by decide, by decide, by decide, by decide⟩) ?_
  exact g_zret (by first | exact Or.inl rfl | exact Or.inr rfl | exact cB01 _) dX12_isCell_16 rfl (⟨by congr 3; rw [show ((w * h - 1 : Nat) : Int) = (w : Int) * h - 1 by rw [← Int.natCast_mul]; omega]; apply propext; constructor <;> (intro q; omega), rfl, rfl, rfl, rfl⟩)
theorem t_isWeek {nx : Nat} {I : pvI} {J : pvJ} {P : pvP} {v : Int32} : pvMet mX12_isWeek 1 0 0 [.int v] nx I J P (pvpu (.int (if 0 ≤ v.toInt ∧ v.toInt ≤ 99 then 1 else 0)) nx I J P) := by
  refine pvMet.of _ (by decide) rfl (Nat.le_of_ble_eq_true rfl) ?_
  refine g_iload_n dX12_isWeek_0 rfl ?_
  refine g_iconst (v := nI 0) dX12_isWeek_1 (by decide) ?_
  refine g_bipush (v := nI 99) dX12_isWeek_2 (by decide) ?_
  refine p_callS (t_isIn (L := 0) (H := 99) (by decide) (by decide)) okX12_isIn lkX12_96 rfl dX12_isWeek_4 rfl (Nat.le_of_ble_eq_true rfl) (⟨by decide, by decide, by decide, by decide⟩) ?_
  exact g_zret (by first | exact Or.inl rfl | exact Or.inr rfl | exact cB01 _) dX12_isWeek_7 rfl (⟨rfl, rfl, rfl, rfl, rfl⟩)
/-- the sand in a cell -/
def sp_sum (f : Nat → Int32) : Nat → Int32
  | 0 => 0
  | n + 1 => sp_sum f n + f n
def sp_came (a : Nat → Int32) (c m : Nat) : Int32 := a (1620 + 64 * m + c)
theorem t_fillOf {I : pvI} {J : pvJ} {P : pvP} (hP : pvOkP P) {c : Nat} (hc : c < 64) : pvMet mX12_fillOf 0 0 0 [.ref 202, .int (nI c)] 224 I J P (pvpu (.int (sp_sum (sp_came (I 203) c) 100)) 224 I J P) := by
  refine pvMet.of _ (by decide) rfl (Nat.le_of_ble_eq_true rfl) ?_
  have lp : ∀ k i, i + k = 100 → pvG mX12_fillOf (pvR 0 0 0) (pvZ (pvpu (.int (sp_sum (sp_came (I 203) c) 100)) 224 I J P) 0 0) 4 [.ref 202, .int (nI c), .int (sp_sum (sp_came (I 203) c) i), .int (nI i)] [] 0 0 224 I J P := by
    intro k
    induction k with
    | zero =>
      intro i hi
      obtain rfl : i = 100 := by omega
      refine g_iload_n dX12_fillOf_4 rfl ?_
      refine g_bipush (v := nI 100) dX12_fillOf_5 (by decide) ?_
      refine n_icmp_ge 34 dX12_fillOf_7 (by decide) (by first | ((with_reducible apply cN_le) <;> omega) | ((with_reducible apply cI_len) <;> omega) | ((with_reducible apply cI_nle) <;> omega) | (with_reducible exact cI_le)) (fun c7 => ?_) (fun c7 => by exfalso; first | omega | exact absurd trivial c7 | exact c7)
      refine g_iload_n dX12_fillOf_34 rfl ?_
      exact g_iret dX12_fillOf_35 rfl (⟨rfl, rfl, rfl, rfl, rfl⟩)
    | succ k ih =>
      intro i hi
      refine g_iload_n dX12_fillOf_4 rfl ?_
      refine g_bipush (v := nI 100) dX12_fillOf_5 (by decide) ?_
      refine n_icmp_ge 34 dX12_fillOf_7 (by decide) (by first | ((with_reducible apply cN_le) <;> omega) | ((with_reducible apply cI_len) <;> omega) | ((with_reducible apply cI_nle) <;> omega) | (with_reducible exact cI_le)) (fun c7 => by exfalso; first | omega | exact absurd trivial c7 | exact c7) (fun c7 => ?_)
      refine g_iload_n dX12_fillOf_10 rfl ?_
      refine g_aload_n dX12_fillOf_11 rfl ?_
      refine g_getP dX12_fillOf_12 fdX12_7 rfl (by first | rfl | exact pv_shx) (by omega) (by omega) (by decide) rfl (hP _ _ _ rfl) ?_
      refine g_sipush (v := nI 1620) dX12_fillOf_15 (by decide) ?_
      refine g_bipush (v := nI 64) dX12_fillOf_18 (by decide) ?_
      refine g_iload_n dX12_fillOf_20 rfl ?_
      refine n_imul dX12_fillOf_21 (by first | (with_reducible exact pk_mul _ _) | rfl) ?_
      refine n_iadd dX12_fillOf_22 (by first | (with_reducible exact nI_add _ _) | rfl) ?_
      refine g_iload_n dX12_fillOf_23 rfl ?_
      refine n_iadd dX12_fillOf_24 (by first | (with_reducible exact nI_add _ _) | rfl) ?_
      refine n_iald dX12_fillOf_25 (by first | rfl | exact pv_shx) (by omega) (by omega) (by decide) (rfl) (by omega) (by repeat (first | (apply rd_s; done) | apply rd_n (by omega) | apply rp_s | apply rp_n (by omega) | (apply rdL_s; done) | apply rdL_n (by omega) | apply rpJ_s | apply rpJ_n (by omega) | rfl)) ?_
      refine n_iadd dX12_fillOf_26 (by first | (with_reducible exact nI_add _ _) | rfl) ?_
      refine g_istore_n dX12_fillOf_27 (by decide) rfl ?_
      refine g_iinc dX12_fillOf_28 rfl (by first | (with_reducible exact nI_1 _) | exact nI_1 _ | exact pk_m1 _ | rfl) (by decide) rfl ?_
      refine g_goto 4 dX12_fillOf_31 (by decide) ?_
      exact ih (i + 1) (by omega)
  refine g_iconst (v := nI 0) dX12_fillOf_0 (by decide) ?_
  refine g_istore_n dX12_fillOf_1 (by decide) rfl ?_
  refine g_iconst (v := nI 0) dX12_fillOf_2 (by decide) ?_
  refine g_istore_n dX12_fillOf_3 (by decide) rfl ?_
  exact lp 100 0 (by omega)
