/-! model: neighbours -/
def sp_nb (w h c d : Nat) : Option Nat := match d with
  | 0 => if c % w + 1 < w then some (c + 1) else none
  | 1 => if 0 < c % w then some (c - 1) else none
  | 2 => if c / w + 1 < h then some (c + w) else none
  | _ => if 0 < c / w then some (c - w) else none
theorem sp_nb0 {w h c : Nat} : sp_nb w h c 0 = if c % w + 1 < w then some (c + 1) else none := rfl
theorem sp_nb1 {w h c : Nat} : sp_nb w h c 1 = if 0 < c % w then some (c - 1) else none := rfl
theorem sp_nb2 {w h c : Nat} : sp_nb w h c 2 = if c / w + 1 < h then some (c + w) else none := rfl
theorem sp_nb3 {w h c : Nat} : sp_nb w h c 3 = if 0 < c / w then some (c - w) else none := rfl
def sp_nbI (w h c d : Nat) : Int32 := match sp_nb w h c d with
  | some n => nI n
  | none => -1
theorem sp_xy {w c : Nat} (hw : 0 < w) : w * (c / w) + c % w = c := Nat.div_add_mod c w
theorem t_beside_xy {w h x y d : Nat} {I : pvI} {J : pvJ} {P : pvP} (hD : mDim w h I) (hx : x < w) (hy : y < h) (hd : d < 4) : pvMet mX12_beside 1 0 0 [.ref 202, .int (nI (w * y + x)), .int (nI d)] 224 I J P (pvpu (.int (sp_nbI w h (w * y + x) d)) 224 I J P) := by
  obtain ⟨hw, hh, hw2, hh2⟩ := hD
  have hwh : 4 ≤ w * h ∧ w * h ≤ 64 := ⟨Nat.mul_le_mul hw2.1 hh2.1, Nat.mul_le_mul hw2.2 hh2.2⟩
  have hc : w * y + x < 64 := by
    have h1 : w * y + w ≤ w * h := by
      rw [← Nat.mul_succ]
      exact Nat.mul_le_mul_left w hy
    omega
  have em : (w * y + x) % w = x := by rw [Nat.mul_add_mod]; exact Nat.mod_eq_of_lt hx
  have ed : (w * y + x) / w = y := by rw [Nat.mul_add_div (by omega), Nat.div_eq_of_lt hx]; rfl
  have em' : nI (w * y + x) - nI (w * y + x) / nI w * nI w = nI x := by rw [pk_rem (by omega) (by omega) (by omega), em]
  have ed' : nI (w * y + x) / nI w = nI y := by rw [pk_div (by omega) (by omega) (by omega), ed]
  have tx : ∀ n, n < 100 → (nI n).toInt = n := fun n hn => nI_toInt (by omega)
  have ty : (y + 0) * w = w * y := by rw [Nat.add_zero]; exact Nat.mul_comm y w
  have ty2 : y * w = w * y := Nat.mul_comm y w
  rcases (show d = 0 ∨ d = 1 ∨ d = 2 ∨ d = 3 by omega) with rfl | rfl | rfl | rfl
  · have e1 := tx (x + 1) (by omega)
    have e2 := tx (y + 0) (by omega)
    refine pvMet.of _ (by decide) rfl (Nat.le_of_ble_eq_true rfl) ?_
    refine g_iload_n dX12_beside_0 rfl ?_
    refine g_aload_n dX12_beside_1 rfl ?_
    refine n_getI dX12_beside_2 fdX12_86 rfl (by first | rfl | exact pv_shx) (by omega) (by omega) (by decide) rfl (by repeat (first | exact hw | exact hh | (apply rd_s; done) | apply rd_n (by omega) | apply rp_s | apply rp_n (by omega) | (apply rdL_s; done) | apply rdL_n (by omega) | apply rpJ_s | apply rpJ_n (by omega) | rfl)) ?_
    refine n_irem dX12_beside_5 (by first | decide | ((with_reducible apply nI_ne0) <;> omega)) (em') ?_
    refine g_iload_n dX12_beside_6 rfl ?_
    refine n_if_ne 14 dX12_beside_7 (by decide) (by first | (with_reducible exact cB _) | ((with_reducible apply cN_eq0) <;> omega) | exact Iff.rfl) (fun c7 => by exfalso; first | omega | exact absurd trivial c7 | exact c7) (fun c7 => ?_)
    refine g_iconst (v := nI 1) dX12_beside_10 (by decide) ?_
    refine g_goto 24 dX12_beside_11 (by decide) ?_
    refine n_iadd dX12_beside_24 (by first | (with_reducible exact nI_add _ _) | rfl) ?_
    refine g_istore_n dX12_beside_25 (by decide) rfl ?_
    refine g_iload_n dX12_beside_26 rfl ?_
    refine g_aload_n dX12_beside_27 rfl ?_
    refine n_getI dX12_beside_28 fdX12_86 rfl (by first | rfl | exact pv_shx) (by omega) (by omega) (by decide) rfl (by repeat (first | exact hw | exact hh | (apply rd_s; done) | apply rd_n (by omega) | apply rp_s | apply rp_n (by omega) | (apply rdL_s; done) | apply rdL_n (by omega) | apply rpJ_s | apply rpJ_n (by omega) | rfl)) ?_
    refine n_idiv dX12_beside_31 (by first | decide | ((with_reducible apply nI_ne0) <;> omega)) (ed') ?_
    refine g_iload_n dX12_beside_32 rfl ?_
    refine g_iconst (v := nI 2) dX12_beside_33 (by decide) ?_
    refine n_icmp_ne 41 dX12_beside_34 (by decide) (by first | ((with_reducible apply cN_eq) <;> omega) | ((with_reducible apply cI_eqn) <;> omega) | exact Iff.rfl) (fun c34 => ?_) (fun c34 => by exfalso; first | omega | exact absurd trivial c34 | exact c34)
    refine g_iload_n dX12_beside_41 rfl ?_
    refine g_iconst (v := nI 3) dX12_beside_42 (by decide) ?_
    refine n_icmp_ne 50 dX12_beside_43 (by decide) (by first | ((with_reducible apply cN_eq) <;> omega) | ((with_reducible apply cI_eqn) <;> omega) | exact Iff.rfl) (fun c43 => ?_) (fun c43 => by exfalso; first | omega | exact absurd trivial c43 | exact c43)
    refine g_iconst (v := nI 0) dX12_beside_50 (by decide) ?_
    refine n_iadd dX12_beside_51 (by first | (with_reducible exact nI_add _ _) | rfl) ?_
    refine g_istore dX12_beside_52 (by decide) rfl ?_
    refine g_iload_n dX12_beside_54 rfl ?_
    refine g_iconst (v := nI 0) dX12_beside_55 (by decide) ?_
    refine g_aload_n dX12_beside_56 rfl ?_
    refine n_getI dX12_beside_57 fdX12_86 rfl (by first | rfl | exact pv_shx) (by omega) (by omega) (by decide) rfl (by repeat (first | exact hw | exact hh | (apply rd_s; done) | apply rd_n (by omega) | apply rp_s | apply rp_n (by omega) | (apply rdL_s; done) | apply rdL_n (by omega) | apply rpJ_s | apply rpJ_n (by omega) | rfl)) ?_
    refine g_iconst (v := nI 1) dX12_beside_60 (by decide) ?_
    refine n_isub dX12_beside_61 (by first | ((with_reducible apply pk_sub) <;> omega) | rfl) ?_
    refine p_callS (t_isIn (by first | exact nI_toInt (by omega) | exact pk_sub_toInt (by omega) (by omega)) (by first | exact nI_toInt (by omega) | exact pk_sub_toInt (by omega) (by omega))) okX12_isIn lkX12_96 rfl dX12_beside_62 rfl (Nat.le_of_ble_eq_true rfl) (⟨by decide, by decide, by decide, by decide⟩) ?_
    refine n_if_eq 95 dX12_beside_65 (by decide) (by first | (with_reducible exact cB _) | ((with_reducible apply cN_eq0) <;> omega) | exact Iff.rfl) (fun c65 => ?_) (fun c65 => ?_)
    · skip
      refine g_iconst (v := (-1)) dX12_beside_95 (by decide) ?_
      exact g_iret dX12_beside_96 rfl (⟨by rw [sp_nbI, sp_nb0, em]; first | (rw [if_pos (by omega)]; exact congrArg (fun z => some (Value.int (nI z))) (by omega)) | (rw [if_neg (by omega)]), rfl, rfl, rfl, rfl⟩)
    · skip
      refine g_iload dX12_beside_68 rfl ?_
      refine g_iconst (v := nI 0) dX12_beside_70 (by decide) ?_
      refine g_aload_n dX12_beside_71 rfl ?_
      refine n_getI dX12_beside_72 fdX12_89 rfl (by first | rfl | exact pv_shx) (by omega) (by omega) (by decide) rfl (by repeat (first | exact hw | exact hh | (apply rd_s; done) | apply rd_n (by omega) | apply rp_s | apply rp_n (by omega) | (apply rdL_s; done) | apply rdL_n (by omega) | apply rpJ_s | apply rpJ_n (by omega) | rfl)) ?_
      refine g_iconst (v := nI 1) dX12_beside_75 (by decide) ?_
      refine n_isub dX12_beside_76 (by first | ((with_reducible apply pk_sub) <;> omega) | rfl) ?_
      refine p_callS (t_isIn (by first | exact nI_toInt (by omega) | exact pk_sub_toInt (by omega) (by omega)) (by first | exact nI_toInt (by omega) | exact pk_sub_toInt (by omega) (by omega))) okX12_isIn lkX12_96 rfl dX12_beside_77 rfl (Nat.le_of_ble_eq_true rfl) (⟨by decide, by decide, by decide, by decide⟩) ?_
      refine n_if_eq 95 dX12_beside_80 (by decide) (by first | (with_reducible exact cB _) | ((with_reducible apply cN_eq0) <;> omega) | exact Iff.rfl) (fun c80 => ?_) (fun c80 => ?_)
      · skip
        refine g_iconst (v := (-1)) dX12_beside_95 (by decide) ?_
        exact g_iret dX12_beside_96 rfl (⟨by rw [sp_nbI, sp_nb0, em]; first | (rw [if_pos (by omega)]; exact congrArg (fun z => some (Value.int (nI z))) (by omega)) | (rw [if_neg (by omega)]), rfl, rfl, rfl, rfl⟩)
      · skip
        refine g_iload dX12_beside_83 rfl ?_
        refine g_aload_n dX12_beside_85 rfl ?_
        refine n_getI dX12_beside_86 fdX12_86 rfl (by first | rfl | exact pv_shx) (by omega) (by omega) (by decide) rfl (by repeat (first | exact hw | exact hh | (apply rd_s; done) | apply rd_n (by omega) | apply rp_s | apply rp_n (by omega) | (apply rdL_s; done) | apply rdL_n (by omega) | apply rpJ_s | apply rpJ_n (by omega) | rfl)) ?_
        refine n_imul dX12_beside_89 (by first | (with_reducible exact pk_mul _ _) | rfl) ?_
        refine g_iload_n dX12_beside_90 rfl ?_
        refine n_iadd dX12_beside_91 (by first | (with_reducible exact nI_add _ _) | rfl) ?_
        refine g_goto 96 dX12_beside_92 (by decide) ?_
        exact g_iret dX12_beside_96 rfl (⟨by rw [sp_nbI, sp_nb0, em]; first | (rw [if_pos (by omega)]; exact congrArg (fun z => some (Value.int (nI z))) (by omega)) | (rw [if_neg (by omega)]), rfl, rfl, rfl, rfl⟩)
  · match x, hx, em, em', tx with
    | 0, hx, em, em', tx =>
      have e2 := tx (y + 0) (by omega)
      have e1 : (nI 0 + (-1)).toInt = -1 := by decide
      refine pvMet.of _ (by decide) rfl (Nat.le_of_ble_eq_true rfl) ?_
      refine g_iload_n dX12_beside_0 rfl ?_
      refine g_aload_n dX12_beside_1 rfl ?_
      refine n_getI dX12_beside_2 fdX12_86 rfl (by first | rfl | exact pv_shx) (by omega) (by omega) (by decide) rfl (by repeat (first | exact hw | exact hh | (apply rd_s; done) | apply rd_n (by omega) | apply rp_s | apply rp_n (by omega) | (apply rdL_s; done) | apply rdL_n (by omega) | apply rpJ_s | apply rpJ_n (by omega) | rfl)) ?_
      refine n_irem dX12_beside_5 (by first | decide | ((with_reducible apply nI_ne0) <;> omega)) (em') ?_
      refine g_iload_n dX12_beside_6 rfl ?_
      refine n_if_ne 14 dX12_beside_7 (by decide) (by first | (with_reducible exact cB _) | ((with_reducible apply cN_eq0) <;> omega) | exact Iff.rfl) (fun c7 => ?_) (fun c7 => by exfalso; first | omega | exact absurd trivial c7 | exact c7)
      refine g_iload_n dX12_beside_14 rfl ?_
      refine g_iconst (v := nI 1) dX12_beside_15 (by decide) ?_
      refine n_icmp_ne 23 dX12_beside_16 (by decide) (by first | ((with_reducible apply cN_eq) <;> omega) | ((with_reducible apply cI_eqn) <;> omega) | exact Iff.rfl) (fun c16 => by exfalso; first | omega | exact absurd trivial c16 | exact c16) (fun c16 => ?_)
      refine g_iconst (v := (-1)) dX12_beside_19 (by decide) ?_
      refine g_goto 24 dX12_beside_20 (by decide) ?_
      refine n_iadd dX12_beside_24 (rfl) ?_
      refine g_istore_n dX12_beside_25 (by decide) rfl ?_
      refine g_iload_n dX12_beside_26 rfl ?_
      refine g_aload_n dX12_beside_27 rfl ?_
      refine n_getI dX12_beside_28 fdX12_86 rfl (by first | rfl | exact pv_shx) (by omega) (by omega) (by decide) rfl (by repeat (first | exact hw | exact hh | (apply rd_s; done) | apply rd_n (by omega) | apply rp_s | apply rp_n (by omega) | (apply rdL_s; done) | apply rdL_n (by omega) | apply rpJ_s | apply rpJ_n (by omega) | rfl)) ?_
      refine n_idiv dX12_beside_31 (by first | decide | ((with_reducible apply nI_ne0) <;> omega)) (ed') ?_
      refine g_iload_n dX12_beside_32 rfl ?_
      refine g_iconst (v := nI 2) dX12_beside_33 (by decide) ?_
      refine n_icmp_ne 41 dX12_beside_34 (by decide) (by first | ((with_reducible apply cN_eq) <;> omega) | ((with_reducible apply cI_eqn) <;> omega) | exact Iff.rfl) (fun c34 => ?_) (fun c34 => by exfalso; first | omega | exact absurd trivial c34 | exact c34)
      refine g_iload_n dX12_beside_41 rfl ?_
      refine g_iconst (v := nI 3) dX12_beside_42 (by decide) ?_
      refine n_icmp_ne 50 dX12_beside_43 (by decide) (by first | ((with_reducible apply cN_eq) <;> omega) | ((with_reducible apply cI_eqn) <;> omega) | exact Iff.rfl) (fun c43 => ?_) (fun c43 => by exfalso; first | omega | exact absurd trivial c43 | exact c43)
      refine g_iconst (v := nI 0) dX12_beside_50 (by decide) ?_
      refine n_iadd dX12_beside_51 (by first | (with_reducible exact nI_add _ _) | rfl) ?_
      refine g_istore dX12_beside_52 (by decide) rfl ?_
      refine g_iload_n dX12_beside_54 rfl ?_
      refine g_iconst (v := nI 0) dX12_beside_55 (by decide) ?_
      refine g_aload_n dX12_beside_56 rfl ?_
      refine n_getI dX12_beside_57 fdX12_86 rfl (by first | rfl | exact pv_shx) (by omega) (by omega) (by decide) rfl (by repeat (first | exact hw | exact hh | (apply rd_s; done) | apply rd_n (by omega) | apply rp_s | apply rp_n (by omega) | (apply rdL_s; done) | apply rdL_n (by omega) | apply rpJ_s | apply rpJ_n (by omega) | rfl)) ?_
      refine g_iconst (v := nI 1) dX12_beside_60 (by decide) ?_
      refine n_isub dX12_beside_61 (by first | ((with_reducible apply pk_sub) <;> omega) | rfl) ?_
      refine p_callS (t_isIn (by first | exact nI_toInt (by omega) | exact pk_sub_toInt (by omega) (by omega)) (by first | exact nI_toInt (by omega) | exact pk_sub_toInt (by omega) (by omega))) okX12_isIn lkX12_96 rfl dX12_beside_62 rfl (Nat.le_of_ble_eq_true rfl) (⟨by decide, by decide, by decide, by decide⟩) ?_
      refine n_if_eq 95 dX12_beside_65 (by decide) (by first | (with_reducible exact cB _) | ((with_reducible apply cN_eq0) <;> omega) | exact Iff.rfl) (fun c65 => ?_) (fun c65 => by exfalso; first | omega | exact absurd trivial c65 | exact c65)
      refine g_iconst (v := (-1)) dX12_beside_95 (by decide) ?_
      exact g_iret dX12_beside_96 rfl (⟨by rw [sp_nbI, sp_nb1, em, if_neg (by omega)], rfl, rfl, rfl, rfl⟩)
    | x + 1, hx, em, em', tx =>
      have e1 := tx x (by omega)
      have e2 := tx (y + 0) (by omega)
      refine pvMet.of _ (by decide) rfl (Nat.le_of_ble_eq_true rfl) ?_
      refine g_iload_n dX12_beside_0 rfl ?_
      refine g_aload_n dX12_beside_1 rfl ?_
      refine n_getI dX12_beside_2 fdX12_86 rfl (by first | rfl | exact pv_shx) (by omega) (by omega) (by decide) rfl (by repeat (first | exact hw | exact hh | (apply rd_s; done) | apply rd_n (by omega) | apply rp_s | apply rp_n (by omega) | (apply rdL_s; done) | apply rdL_n (by omega) | apply rpJ_s | apply rpJ_n (by omega) | rfl)) ?_
      refine n_irem dX12_beside_5 (by first | decide | ((with_reducible apply nI_ne0) <;> omega)) (em') ?_
      refine g_iload_n dX12_beside_6 rfl ?_
      refine n_if_ne 14 dX12_beside_7 (by decide) (by first | (with_reducible exact cB _) | ((with_reducible apply cN_eq0) <;> omega) | exact Iff.rfl) (fun c7 => ?_) (fun c7 => by exfalso; first | omega | exact absurd trivial c7 | exact c7)
      refine g_iload_n dX12_beside_14 rfl ?_
      refine g_iconst (v := nI 1) dX12_beside_15 (by decide) ?_
      refine n_icmp_ne 23 dX12_beside_16 (by decide) (by first | ((with_reducible apply cN_eq) <;> omega) | ((with_reducible apply cI_eqn) <;> omega) | exact Iff.rfl) (fun c16 => by exfalso; first | omega | exact absurd trivial c16 | exact c16) (fun c16 => ?_)
      refine g_iconst (v := (-1)) dX12_beside_19 (by decide) ?_
      refine g_goto 24 dX12_beside_20 (by decide) ?_
      refine n_iadd dX12_beside_24 (pk_m1 _) ?_
      refine g_istore_n dX12_beside_25 (by decide) rfl ?_
      refine g_iload_n dX12_beside_26 rfl ?_
      refine g_aload_n dX12_beside_27 rfl ?_
      refine n_getI dX12_beside_28 fdX12_86 rfl (by first | rfl | exact pv_shx) (by omega) (by omega) (by decide) rfl (by repeat (first | exact hw | exact hh | (apply rd_s; done) | apply rd_n (by omega) | apply rp_s | apply rp_n (by omega) | (apply rdL_s; done) | apply rdL_n (by omega) | apply rpJ_s | apply rpJ_n (by omega) | rfl)) ?_
      refine n_idiv dX12_beside_31 (by first | decide | ((with_reducible apply nI_ne0) <;> omega)) (ed') ?_
      refine g_iload_n dX12_beside_32 rfl ?_
      refine g_iconst (v := nI 2) dX12_beside_33 (by decide) ?_
      refine n_icmp_ne 41 dX12_beside_34 (by decide) (by first | ((with_reducible apply cN_eq) <;> omega) | ((with_reducible apply cI_eqn) <;> omega) | exact Iff.rfl) (fun c34 => ?_) (fun c34 => by exfalso; first | omega | exact absurd trivial c34 | exact c34)
      refine g_iload_n dX12_beside_41 rfl ?_
      refine g_iconst (v := nI 3) dX12_beside_42 (by decide) ?_
      refine n_icmp_ne 50 dX12_beside_43 (by decide) (by first | ((with_reducible apply cN_eq) <;> omega) | ((with_reducible apply cI_eqn) <;> omega) | exact Iff.rfl) (fun c43 => ?_) (fun c43 => by exfalso; first | omega | exact absurd trivial c43 | exact c43)
      refine g_iconst (v := nI 0) dX12_beside_50 (by decide) ?_
      refine n_iadd dX12_beside_51 (by first | (with_reducible exact nI_add _ _) | rfl) ?_
      refine g_istore dX12_beside_52 (by decide) rfl ?_
      refine g_iload_n dX12_beside_54 rfl ?_
      refine g_iconst (v := nI 0) dX12_beside_55 (by decide) ?_
      refine g_aload_n dX12_beside_56 rfl ?_
      refine n_getI dX12_beside_57 fdX12_86 rfl (by first | rfl | exact pv_shx) (by omega) (by omega) (by decide) rfl (by repeat (first | exact hw | exact hh | (apply rd_s; done) | apply rd_n (by omega) | apply rp_s | apply rp_n (by omega) | (apply rdL_s; done) | apply rdL_n (by omega) | apply rpJ_s | apply rpJ_n (by omega) | rfl)) ?_
      refine g_iconst (v := nI 1) dX12_beside_60 (by decide) ?_
      refine n_isub dX12_beside_61 (by first | ((with_reducible apply pk_sub) <;> omega) | rfl) ?_
      refine p_callS (t_isIn (by first | exact nI_toInt (by omega) | exact pk_sub_toInt (by omega) (by omega)) (by first | exact nI_toInt (by omega) | exact pk_sub_toInt (by omega) (by omega))) okX12_isIn lkX12_96 rfl dX12_beside_62 rfl (Nat.le_of_ble_eq_true rfl) (⟨by decide, by decide, by decide, by decide⟩) ?_
      refine n_if_eq 95 dX12_beside_65 (by decide) (by first | (with_reducible exact cB _) | ((with_reducible apply cN_eq0) <;> omega) | exact Iff.rfl) (fun c65 => by exfalso; first | omega | exact absurd trivial c65 | exact c65) (fun c65 => ?_)
      refine g_iload dX12_beside_68 rfl ?_
      refine g_iconst (v := nI 0) dX12_beside_70 (by decide) ?_
      refine g_aload_n dX12_beside_71 rfl ?_
      refine n_getI dX12_beside_72 fdX12_89 rfl (by first | rfl | exact pv_shx) (by omega) (by omega) (by decide) rfl (by repeat (first | exact hw | exact hh | (apply rd_s; done) | apply rd_n (by omega) | apply rp_s | apply rp_n (by omega) | (apply rdL_s; done) | apply rdL_n (by omega) | apply rpJ_s | apply rpJ_n (by omega) | rfl)) ?_
      refine g_iconst (v := nI 1) dX12_beside_75 (by decide) ?_
      refine n_isub dX12_beside_76 (by first | ((with_reducible apply pk_sub) <;> omega) | rfl) ?_
      refine p_callS (t_isIn (by first | exact nI_toInt (by omega) | exact pk_sub_toInt (by omega) (by omega)) (by first | exact nI_toInt (by omega) | exact pk_sub_toInt (by omega) (by omega))) okX12_isIn lkX12_96 rfl dX12_beside_77 rfl (Nat.le_of_ble_eq_true rfl) (⟨by decide, by decide, by decide, by decide⟩) ?_
      refine n_if_eq 95 dX12_beside_80 (by decide) (by first | (with_reducible exact cB _) | ((with_reducible apply cN_eq0) <;> omega) | exact Iff.rfl) (fun c80 => by exfalso; first | omega | exact absurd trivial c80 | exact c80) (fun c80 => ?_)
      refine g_iload dX12_beside_83 rfl ?_
      refine g_aload_n dX12_beside_85 rfl ?_
      refine n_getI dX12_beside_86 fdX12_86 rfl (by first | rfl | exact pv_shx) (by omega) (by omega) (by decide) rfl (by repeat (first | exact hw | exact hh | (apply rd_s; done) | apply rd_n (by omega) | apply rp_s | apply rp_n (by omega) | (apply rdL_s; done) | apply rdL_n (by omega) | apply rpJ_s | apply rpJ_n (by omega) | rfl)) ?_
      refine n_imul dX12_beside_89 (by first | (with_reducible exact pk_mul _ _) | rfl) ?_
      refine g_iload_n dX12_beside_90 rfl ?_
      refine n_iadd dX12_beside_91 (by first | (with_reducible exact nI_add _ _) | rfl) ?_
      refine g_goto 96 dX12_beside_92 (by decide) ?_
      exact g_iret dX12_beside_96 rfl (⟨by rw [sp_nbI, sp_nb1, em, if_pos (by omega)]; exact congrArg (fun z => some (Value.int (nI z))) (by omega), rfl, rfl, rfl, rfl⟩)
  · have e1 := tx (x + 0) (by omega)
    have e2 := tx (y + 1) (by omega)
    have ey : (y + 1) * w = w * y + w := by rw [Nat.add_mul]; omega
    refine pvMet.of _ (by decide) rfl (Nat.le_of_ble_eq_true rfl) ?_
    refine g_iload_n dX12_beside_0 rfl ?_
    refine g_aload_n dX12_beside_1 rfl ?_
    refine n_getI dX12_beside_2 fdX12_86 rfl (by first | rfl | exact pv_shx) (by omega) (by omega) (by decide) rfl (by repeat (first | exact hw | exact hh | (apply rd_s; done) | apply rd_n (by omega) | apply rp_s | apply rp_n (by omega) | (apply rdL_s; done) | apply rdL_n (by omega) | apply rpJ_s | apply rpJ_n (by omega) | rfl)) ?_
    refine n_irem dX12_beside_5 (by first | decide | ((with_reducible apply nI_ne0) <;> omega)) (em') ?_
    refine g_iload_n dX12_beside_6 rfl ?_
    refine n_if_ne 14 dX12_beside_7 (by decide) (by first | (with_reducible exact cB _) | ((with_reducible apply cN_eq0) <;> omega) | exact Iff.rfl) (fun c7 => ?_) (fun c7 => by exfalso; first | omega | exact absurd trivial c7 | exact c7)
    refine g_iload_n dX12_beside_14 rfl ?_
    refine g_iconst (v := nI 1) dX12_beside_15 (by decide) ?_
    refine n_icmp_ne 23 dX12_beside_16 (by decide) (by first | ((with_reducible apply cN_eq) <;> omega) | ((with_reducible apply cI_eqn) <;> omega) | exact Iff.rfl) (fun c16 => ?_) (fun c16 => by exfalso; first | omega | exact absurd trivial c16 | exact c16)
    refine g_iconst (v := nI 0) dX12_beside_23 (by decide) ?_
    refine n_iadd dX12_beside_24 (by first | (with_reducible exact nI_add _ _) | rfl) ?_
    refine g_istore_n dX12_beside_25 (by decide) rfl ?_
    refine g_iload_n dX12_beside_26 rfl ?_
    refine g_aload_n dX12_beside_27 rfl ?_
    refine n_getI dX12_beside_28 fdX12_86 rfl (by first | rfl | exact pv_shx) (by omega) (by omega) (by decide) rfl (by repeat (first | exact hw | exact hh | (apply rd_s; done) | apply rd_n (by omega) | apply rp_s | apply rp_n (by omega) | (apply rdL_s; done) | apply rdL_n (by omega) | apply rpJ_s | apply rpJ_n (by omega) | rfl)) ?_
    refine n_idiv dX12_beside_31 (by first | decide | ((with_reducible apply nI_ne0) <;> omega)) (ed') ?_
    refine g_iload_n dX12_beside_32 rfl ?_
    refine g_iconst (v := nI 2) dX12_beside_33 (by decide) ?_
    refine n_icmp_ne 41 dX12_beside_34 (by decide) (by first | ((with_reducible apply cN_eq) <;> omega) | ((with_reducible apply cI_eqn) <;> omega) | exact Iff.rfl) (fun c34 => by exfalso; first | omega | exact absurd trivial c34 | exact c34) (fun c34 => ?_)
    refine g_iconst (v := nI 1) dX12_beside_37 (by decide) ?_
    refine g_goto 51 dX12_beside_38 (by decide) ?_
    refine n_iadd dX12_beside_51 (by first | (with_reducible exact nI_add _ _) | rfl) ?_
    refine g_istore dX12_beside_52 (by decide) rfl ?_
    refine g_iload_n dX12_beside_54 rfl ?_
    refine g_iconst (v := nI 0) dX12_beside_55 (by decide) ?_
    refine g_aload_n dX12_beside_56 rfl ?_
    refine n_getI dX12_beside_57 fdX12_86 rfl (by first | rfl | exact pv_shx) (by omega) (by omega) (by decide) rfl (by repeat (first | exact hw | exact hh | (apply rd_s; done) | apply rd_n (by omega) | apply rp_s | apply rp_n (by omega) | (apply rdL_s; done) | apply rdL_n (by omega) | apply rpJ_s | apply rpJ_n (by omega) | rfl)) ?_
    refine g_iconst (v := nI 1) dX12_beside_60 (by decide) ?_
    refine n_isub dX12_beside_61 (by first | ((with_reducible apply pk_sub) <;> omega) | rfl) ?_
    refine p_callS (t_isIn (by first | exact nI_toInt (by omega) | exact pk_sub_toInt (by omega) (by omega)) (by first | exact nI_toInt (by omega) | exact pk_sub_toInt (by omega) (by omega))) okX12_isIn lkX12_96 rfl dX12_beside_62 rfl (Nat.le_of_ble_eq_true rfl) (⟨by decide, by decide, by decide, by decide⟩) ?_
    refine n_if_eq 95 dX12_beside_65 (by decide) (by first | (with_reducible exact cB _) | ((with_reducible apply cN_eq0) <;> omega) | exact Iff.rfl) (fun c65 => ?_) (fun c65 => ?_)
    · skip
      refine g_iconst (v := (-1)) dX12_beside_95 (by decide) ?_
      exact g_iret dX12_beside_96 rfl (⟨by rw [sp_nbI, sp_nb2, ed]; first | (rw [if_pos (by omega)]; exact congrArg (fun z => some (Value.int (nI z))) (by omega)) | (rw [if_neg (by omega)]), rfl, rfl, rfl, rfl⟩)
    · skip
      refine g_iload dX12_beside_68 rfl ?_
      refine g_iconst (v := nI 0) dX12_beside_70 (by decide) ?_
      refine g_aload_n dX12_beside_71 rfl ?_
      refine n_getI dX12_beside_72 fdX12_89 rfl (by first | rfl | exact pv_shx) (by omega) (by omega) (by decide) rfl (by repeat (first | exact hw | exact hh | (apply rd_s; done) | apply rd_n (by omega) | apply rp_s | apply rp_n (by omega) | (apply rdL_s; done) | apply rdL_n (by omega) | apply rpJ_s | apply rpJ_n (by omega) | rfl)) ?_
      refine g_iconst (v := nI 1) dX12_beside_75 (by decide) ?_
      refine n_isub dX12_beside_76 (by first | ((with_reducible apply pk_sub) <;> omega) | rfl) ?_
      refine p_callS (t_isIn (by first | exact nI_toInt (by omega) | exact pk_sub_toInt (by omega) (by omega)) (by first | exact nI_toInt (by omega) | exact pk_sub_toInt (by omega) (by omega))) okX12_isIn lkX12_96 rfl dX12_beside_77 rfl (Nat.le_of_ble_eq_true rfl) (⟨by decide, by decide, by decide, by decide⟩) ?_
      refine n_if_eq 95 dX12_beside_80 (by decide) (by first | (with_reducible exact cB _) | ((with_reducible apply cN_eq0) <;> omega) | exact Iff.rfl) (fun c80 => ?_) (fun c80 => ?_)
      · skip
        refine g_iconst (v := (-1)) dX12_beside_95 (by decide) ?_
        exact g_iret dX12_beside_96 rfl (⟨by rw [sp_nbI, sp_nb2, ed]; first | (rw [if_pos (by omega)]; exact congrArg (fun z => some (Value.int (nI z))) (by omega)) | (rw [if_neg (by omega)]), rfl, rfl, rfl, rfl⟩)
      · skip
        refine g_iload dX12_beside_83 rfl ?_
        refine g_aload_n dX12_beside_85 rfl ?_
        refine n_getI dX12_beside_86 fdX12_86 rfl (by first | rfl | exact pv_shx) (by omega) (by omega) (by decide) rfl (by repeat (first | exact hw | exact hh | (apply rd_s; done) | apply rd_n (by omega) | apply rp_s | apply rp_n (by omega) | (apply rdL_s; done) | apply rdL_n (by omega) | apply rpJ_s | apply rpJ_n (by omega) | rfl)) ?_
        refine n_imul dX12_beside_89 (by first | (with_reducible exact pk_mul _ _) | rfl) ?_
        refine g_iload_n dX12_beside_90 rfl ?_
        refine n_iadd dX12_beside_91 (by first | (with_reducible exact nI_add _ _) | rfl) ?_
        refine g_goto 96 dX12_beside_92 (by decide) ?_
        exact g_iret dX12_beside_96 rfl (⟨by rw [sp_nbI, sp_nb2, ed]; first | (rw [if_pos (by omega)]; exact congrArg (fun z => some (Value.int (nI z))) (by omega)) | (rw [if_neg (by omega)]), rfl, rfl, rfl, rfl⟩)
  · match y, hy, ed, ed', hc, em, em' with
    | 0, hy, ed, ed', hc, em, em' =>
      have e1 := tx (x + 0) (by omega)
      have e2 : (nI 0 + (-1)).toInt = -1 := by decide
      refine pvMet.of _ (by decide) rfl (Nat.le_of_ble_eq_true rfl) ?_
      refine g_iload_n dX12_beside_0 rfl ?_
      refine g_aload_n dX12_beside_1 rfl ?_
      refine n_getI dX12_beside_2 fdX12_86 rfl (by first | rfl | exact pv_shx) (by omega) (by omega) (by decide) rfl (by repeat (first | exact hw | exact hh | (apply rd_s; done) | apply rd_n (by omega) | apply rp_s | apply rp_n (by omega) | (apply rdL_s; done) | apply rdL_n (by omega) | apply rpJ_s | apply rpJ_n (by omega) | rfl)) ?_
      refine n_irem dX12_beside_5 (by first | decide | ((with_reducible apply nI_ne0) <;> omega)) (em') ?_
      refine g_iload_n dX12_beside_6 rfl ?_
      refine n_if_ne 14 dX12_beside_7 (by decide) (by first | (with_reducible exact cB _) | ((with_reducible apply cN_eq0) <;> omega) | exact Iff.rfl) (fun c7 => ?_) (fun c7 => by exfalso; first | omega | exact absurd trivial c7 | exact c7)
      refine g_iload_n dX12_beside_14 rfl ?_
      refine g_iconst (v := nI 1) dX12_beside_15 (by decide) ?_
      refine n_icmp_ne 23 dX12_beside_16 (by decide) (by first | ((with_reducible apply cN_eq) <;> omega) | ((with_reducible apply cI_eqn) <;> omega) | exact Iff.rfl) (fun c16 => ?_) (fun c16 => by exfalso; first | omega | exact absurd trivial c16 | exact c16)
      refine g_iconst (v := nI 0) dX12_beside_23 (by decide) ?_
      refine n_iadd dX12_beside_24 (by first | (with_reducible exact nI_add _ _) | rfl) ?_
      refine g_istore_n dX12_beside_25 (by decide) rfl ?_
      refine g_iload_n dX12_beside_26 rfl ?_
      refine g_aload_n dX12_beside_27 rfl ?_
      refine n_getI dX12_beside_28 fdX12_86 rfl (by first | rfl | exact pv_shx) (by omega) (by omega) (by decide) rfl (by repeat (first | exact hw | exact hh | (apply rd_s; done) | apply rd_n (by omega) | apply rp_s | apply rp_n (by omega) | (apply rdL_s; done) | apply rdL_n (by omega) | apply rpJ_s | apply rpJ_n (by omega) | rfl)) ?_
      refine n_idiv dX12_beside_31 (by first | decide | ((with_reducible apply nI_ne0) <;> omega)) (ed') ?_
      refine g_iload_n dX12_beside_32 rfl ?_
      refine g_iconst (v := nI 2) dX12_beside_33 (by decide) ?_
      refine n_icmp_ne 41 dX12_beside_34 (by decide) (by first | ((with_reducible apply cN_eq) <;> omega) | ((with_reducible apply cI_eqn) <;> omega) | exact Iff.rfl) (fun c34 => ?_) (fun c34 => by exfalso; first | omega | exact absurd trivial c34 | exact c34)
      refine g_iload_n dX12_beside_41 rfl ?_
      refine g_iconst (v := nI 3) dX12_beside_42 (by decide) ?_
      refine n_icmp_ne 50 dX12_beside_43 (by decide) (by first | ((with_reducible apply cN_eq) <;> omega) | ((with_reducible apply cI_eqn) <;> omega) | exact Iff.rfl) (fun c43 => by exfalso; first | omega | exact absurd trivial c43 | exact c43) (fun c43 => ?_)
      refine g_iconst (v := (-1)) dX12_beside_46 (by decide) ?_
      refine g_goto 51 dX12_beside_47 (by decide) ?_
      refine n_iadd dX12_beside_51 (rfl) ?_
      refine g_istore dX12_beside_52 (by decide) rfl ?_
      refine g_iload_n dX12_beside_54 rfl ?_
      refine g_iconst (v := nI 0) dX12_beside_55 (by decide) ?_
      refine g_aload_n dX12_beside_56 rfl ?_
      refine n_getI dX12_beside_57 fdX12_86 rfl (by first | rfl | exact pv_shx) (by omega) (by omega) (by decide) rfl (by repeat (first | exact hw | exact hh | (apply rd_s; done) | apply rd_n (by omega) | apply rp_s | apply rp_n (by omega) | (apply rdL_s; done) | apply rdL_n (by omega) | apply rpJ_s | apply rpJ_n (by omega) | rfl)) ?_
      refine g_iconst (v := nI 1) dX12_beside_60 (by decide) ?_
      refine n_isub dX12_beside_61 (by first | ((with_reducible apply pk_sub) <;> omega) | rfl) ?_
      refine p_callS (t_isIn (by first | exact nI_toInt (by omega) | exact pk_sub_toInt (by omega) (by omega)) (by first | exact nI_toInt (by omega) | exact pk_sub_toInt (by omega) (by omega))) okX12_isIn lkX12_96 rfl dX12_beside_62 rfl (Nat.le_of_ble_eq_true rfl) (⟨by decide, by decide, by decide, by decide⟩) ?_
      refine n_if_eq 95 dX12_beside_65 (by decide) (by first | (with_reducible exact cB _) | ((with_reducible apply cN_eq0) <;> omega) | exact Iff.rfl) (fun c65 => ?_) (fun c65 => ?_)
      · skip
        refine g_iconst (v := (-1)) dX12_beside_95 (by decide) ?_
        exact g_iret dX12_beside_96 rfl (⟨by rw [sp_nbI, sp_nb3, ed, if_neg (by omega)], rfl, rfl, rfl, rfl⟩)
      · skip
        refine g_iload dX12_beside_68 rfl ?_
        refine g_iconst (v := nI 0) dX12_beside_70 (by decide) ?_
        refine g_aload_n dX12_beside_71 rfl ?_
        refine n_getI dX12_beside_72 fdX12_89 rfl (by first | rfl | exact pv_shx) (by omega) (by omega) (by decide) rfl (by repeat (first | exact hw | exact hh | (apply rd_s; done) | apply rd_n (by omega) | apply rp_s | apply rp_n (by omega) | (apply rdL_s; done) | apply rdL_n (by omega) | apply rpJ_s | apply rpJ_n (by omega) | rfl)) ?_
        refine g_iconst (v := nI 1) dX12_beside_75 (by decide) ?_
        refine n_isub dX12_beside_76 (by first | ((with_reducible apply pk_sub) <;> omega) | rfl) ?_
        refine p_callS (t_isIn (by first | exact nI_toInt (by omega) | exact pk_sub_toInt (by omega) (by omega)) (by first | exact nI_toInt (by omega) | exact pk_sub_toInt (by omega) (by omega))) okX12_isIn lkX12_96 rfl dX12_beside_77 rfl (Nat.le_of_ble_eq_true rfl) (⟨by decide, by decide, by decide, by decide⟩) ?_
        refine n_if_eq 95 dX12_beside_80 (by decide) (by first | (with_reducible exact cB _) | ((with_reducible apply cN_eq0) <;> omega) | exact Iff.rfl) (fun c80 => ?_) (fun c80 => by exfalso; first | omega | exact absurd trivial c80 | exact c80)
        refine g_iconst (v := (-1)) dX12_beside_95 (by decide) ?_
        exact g_iret dX12_beside_96 rfl (⟨by rw [sp_nbI, sp_nb3, ed, if_neg (by omega)], rfl, rfl, rfl, rfl⟩)
    | y + 1, hy, ed, ed', hc, em, em' =>
      have e1 := tx (x + 0) (by omega)
      have e2 := tx y (by omega)
      have ey : w * (y + 1) = y * w + w := by rw [Nat.mul_add, Nat.mul_comm]; omega
      refine pvMet.of _ (by decide) rfl (Nat.le_of_ble_eq_true rfl) ?_
      refine g_iload_n dX12_beside_0 rfl ?_
      refine g_aload_n dX12_beside_1 rfl ?_
      refine n_getI dX12_beside_2 fdX12_86 rfl (by first | rfl | exact pv_shx) (by omega) (by omega) (by decide) rfl (by repeat (first | exact hw | exact hh | (apply rd_s; done) | apply rd_n (by omega) | apply rp_s | apply rp_n (by omega) | (apply rdL_s; done) | apply rdL_n (by omega) | apply rpJ_s | apply rpJ_n (by omega) | rfl)) ?_
      refine n_irem dX12_beside_5 (by first | decide | ((with_reducible apply nI_ne0) <;> omega)) (em') ?_
      refine g_iload_n dX12_beside_6 rfl ?_
      refine n_if_ne 14 dX12_beside_7 (by decide) (by first | (with_reducible exact cB _) | ((with_reducible apply cN_eq0) <;> omega) | exact Iff.rfl) (fun c7 => ?_) (fun c7 => by exfalso; first | omega | exact absurd trivial c7 | exact c7)
      refine g_iload_n dX12_beside_14 rfl ?_
      refine g_iconst (v := nI 1) dX12_beside_15 (by decide) ?_
      refine n_icmp_ne 23 dX12_beside_16 (by decide) (by first | ((with_reducible apply cN_eq) <;> omega) | ((with_reducible apply cI_eqn) <;> omega) | exact Iff.rfl) (fun c16 => ?_) (fun c16 => by exfalso; first | omega | exact absurd trivial c16 | exact c16)
      refine g_iconst (v := nI 0) dX12_beside_23 (by decide) ?_
      refine n_iadd dX12_beside_24 (by first | (with_reducible exact nI_add _ _) | rfl) ?_
      refine g_istore_n dX12_beside_25 (by decide) rfl ?_
      refine g_iload_n dX12_beside_26 rfl ?_
      refine g_aload_n dX12_beside_27 rfl ?_
      refine n_getI dX12_beside_28 fdX12_86 rfl (by first | rfl | exact pv_shx) (by omega) (by omega) (by decide) rfl (by repeat (first | exact hw | exact hh | (apply rd_s; done) | apply rd_n (by omega) | apply rp_s | apply rp_n (by omega) | (apply rdL_s; done) | apply rdL_n (by omega) | apply rpJ_s | apply rpJ_n (by omega) | rfl)) ?_
      refine n_idiv dX12_beside_31 (by first | decide | ((with_reducible apply nI_ne0) <;> omega)) (ed') ?_
      refine g_iload_n dX12_beside_32 rfl ?_
      refine g_iconst (v := nI 2) dX12_beside_33 (by decide) ?_
      refine n_icmp_ne 41 dX12_beside_34 (by decide) (by first | ((with_reducible apply cN_eq) <;> omega) | ((with_reducible apply cI_eqn) <;> omega) | exact Iff.rfl) (fun c34 => ?_) (fun c34 => by exfalso; first | omega | exact absurd trivial c34 | exact c34)
      refine g_iload_n dX12_beside_41 rfl ?_
      refine g_iconst (v := nI 3) dX12_beside_42 (by decide) ?_
      refine n_icmp_ne 50 dX12_beside_43 (by decide) (by first | ((with_reducible apply cN_eq) <;> omega) | ((with_reducible apply cI_eqn) <;> omega) | exact Iff.rfl) (fun c43 => by exfalso; first | omega | exact absurd trivial c43 | exact c43) (fun c43 => ?_)
      refine g_iconst (v := (-1)) dX12_beside_46 (by decide) ?_
      refine g_goto 51 dX12_beside_47 (by decide) ?_
      refine n_iadd dX12_beside_51 (pk_m1 _) ?_
      refine g_istore dX12_beside_52 (by decide) rfl ?_
      refine g_iload_n dX12_beside_54 rfl ?_
      refine g_iconst (v := nI 0) dX12_beside_55 (by decide) ?_
      refine g_aload_n dX12_beside_56 rfl ?_
      refine n_getI dX12_beside_57 fdX12_86 rfl (by first | rfl | exact pv_shx) (by omega) (by omega) (by decide) rfl (by repeat (first | exact hw | exact hh | (apply rd_s; done) | apply rd_n (by omega) | apply rp_s | apply rp_n (by omega) | (apply rdL_s; done) | apply rdL_n (by omega) | apply rpJ_s | apply rpJ_n (by omega) | rfl)) ?_
      refine g_iconst (v := nI 1) dX12_beside_60 (by decide) ?_
      refine n_isub dX12_beside_61 (by first | ((with_reducible apply pk_sub) <;> omega) | rfl) ?_
      refine p_callS (t_isIn (by first | exact nI_toInt (by omega) | exact pk_sub_toInt (by omega) (by omega)) (by first | exact nI_toInt (by omega) | exact pk_sub_toInt (by omega) (by omega))) okX12_isIn lkX12_96 rfl dX12_beside_62 rfl (Nat.le_of_ble_eq_true rfl) (⟨by decide, by decide, by decide, by decide⟩) ?_
      refine n_if_eq 95 dX12_beside_65 (by decide) (by first | (with_reducible exact cB _) | ((with_reducible apply cN_eq0) <;> omega) | exact Iff.rfl) (fun c65 => by exfalso; first | omega | exact absurd trivial c65 | exact c65) (fun c65 => ?_)
      refine g_iload dX12_beside_68 rfl ?_
      refine g_iconst (v := nI 0) dX12_beside_70 (by decide) ?_
      refine g_aload_n dX12_beside_71 rfl ?_
      refine n_getI dX12_beside_72 fdX12_89 rfl (by first | rfl | exact pv_shx) (by omega) (by omega) (by decide) rfl (by repeat (first | exact hw | exact hh | (apply rd_s; done) | apply rd_n (by omega) | apply rp_s | apply rp_n (by omega) | (apply rdL_s; done) | apply rdL_n (by omega) | apply rpJ_s | apply rpJ_n (by omega) | rfl)) ?_
      refine g_iconst (v := nI 1) dX12_beside_75 (by decide) ?_
      refine n_isub dX12_beside_76 (by first | ((with_reducible apply pk_sub) <;> omega) | rfl) ?_
      refine p_callS (t_isIn (by first | exact nI_toInt (by omega) | exact pk_sub_toInt (by omega) (by omega)) (by first | exact nI_toInt (by omega) | exact pk_sub_toInt (by omega) (by omega))) okX12_isIn lkX12_96 rfl dX12_beside_77 rfl (Nat.le_of_ble_eq_true rfl) (⟨by decide, by decide, by decide, by decide⟩) ?_
      refine n_if_eq 95 dX12_beside_80 (by decide) (by first | (with_reducible exact cB _) | ((with_reducible apply cN_eq0) <;> omega) | exact Iff.rfl) (fun c80 => by exfalso; first | omega | exact absurd trivial c80 | exact c80) (fun c80 => ?_)
      refine g_iload dX12_beside_83 rfl ?_
      refine g_aload_n dX12_beside_85 rfl ?_
      refine n_getI dX12_beside_86 fdX12_86 rfl (by first | rfl | exact pv_shx) (by omega) (by omega) (by decide) rfl (by repeat (first | exact hw | exact hh | (apply rd_s; done) | apply rd_n (by omega) | apply rp_s | apply rp_n (by omega) | (apply rdL_s; done) | apply rdL_n (by omega) | apply rpJ_s | apply rpJ_n (by omega) | rfl)) ?_
      refine n_imul dX12_beside_89 (by first | (with_reducible exact pk_mul _ _) | rfl) ?_
      refine g_iload_n dX12_beside_90 rfl ?_
      refine n_iadd dX12_beside_91 (by first | (with_reducible exact nI_add _ _) | rfl) ?_
      refine g_goto 96 dX12_beside_92 (by decide) ?_
      exact g_iret dX12_beside_96 rfl (⟨by rw [sp_nbI, sp_nb3, ed, if_pos (by omega)]; exact congrArg (fun z => some (Value.int (nI z))) (by omega), rfl, rfl, rfl, rfl⟩)
theorem sp_inb {w h c : Nat} (hw : 0 < w) (hc : c < w * h) : c % w < w ∧ c / w < h := ⟨Nat.mod_lt _ hw, (Nat.div_lt_iff_lt_mul hw).mpr (by rw [Nat.mul_comm]; exact hc)⟩
theorem t_beside {w h c d : Nat} {I : pvI} {J : pvJ} {P : pvP} (hD : mDim w h I) (hc : c < w * h) (hd : d < 4) : pvMet mX12_beside 1 0 0 [.ref 202, .int (nI c), .int (nI d)] 224 I J P (pvpu (.int (sp_nbI w h c d)) 224 I J P) := by
  have hw : 0 < w := by have := hD.2.2.1; omega
  have := t_beside_xy (J := J) (P := P) hD (sp_inb hw hc).1 (sp_inb hw hc).2 hd
  rwa [sp_xy hw] at this
theorem sp_nb_lt {w h c d n : Nat} (hw : 0 < w) (hc : c < w * h) (hn : sp_nb w h c d = some n) : n < w * h := by
  have hxy := sp_xy (c := c) hw
  obtain ⟨h1, h2⟩ := sp_inb hw hc
  have h3 : w * (c / w) + w ≤ w * h := by rw [← Nat.mul_succ]; exact Nat.mul_le_mul_left w h2
  unfold sp_nb at hn
  split at hn <;> split at hn <;> simp at hn
  · omega
  · omega
  · rename_i q
    have h4 : w * (c / w + 1) + w ≤ w * h := by rw [← Nat.mul_succ]; exact Nat.mul_le_mul_left w q
    rw [Nat.mul_add] at h4
    omega
  · omega
