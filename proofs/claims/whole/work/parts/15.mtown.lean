/-! model: who leaves -/
def sp_ct (p : Nat → Prop) [DecidablePred p] : Nat → Nat
  | 0 => 0
  | n + 1 => sp_ct p n + (if p n then 1 else 0)
theorem sp_ct_le {p : Nat → Prop} [DecidablePred p] : ∀ n, sp_ct p n ≤ n
  | 0 => Nat.le_refl 0
  | n + 1 => by
    have := sp_ct_le (p := p) n
    show sp_ct p n + (if p n then 1 else 0) ≤ n + 1
    split <;> omega
theorem sp_ct_cong {p q : Nat → Prop} [DecidablePred p] [DecidablePred q] : ∀ {n}, (∀ k, k < n → (p k ↔ q k)) → sp_ct p n = sp_ct q n
  | 0, _ => rfl
  | n + 1, h => by
    show sp_ct p n + _ = sp_ct q n + _
    rw [sp_ct_cong (fun k hk => h k (by omega))]
    have := h n (by omega)
    by_cases hp : p n
    · rw [if_pos hp, if_pos (this.mp hp)]
    · rw [if_neg hp, if_neg (fun z => hp (this.mpr z))]
abbrev sp_here (a : Nat → Int32) (p : Nat) : Prop := (a (1200 + 5 * p + 4)).toInt < 0
abbrev sp_kgP (a : Nat → Int32) (k : Int32) (p : Nat) : Prop := a (1200 + 5 * p + 1) = k ∧ ¬ (a (1200 + 5 * p + 4)).toInt < 0

/-- what is known of people and houses -/
def mPer (a : Nat → Int32) : Prop := ∀ p, p < cnt a 6 → (∃ hm, hm < cnt a 5 ∧ a (1200 + 5 * p) = nI hm) ∧ (∃ kn, kn ≤ 9 ∧ a (1200 + 5 * p + 1) = nI kn) ∧ (∃ ak, ak ≤ 9999 ∧ a (1200 + 5 * p + 2) = nI ak) ∧ (∃ hd, hd ≤ 9 ∧ a (1200 + 5 * p + 3) = nI hd) ∧ (a (1200 + 5 * p + 4) = -1 ∨ ∃ g, g ≤ 99 ∧ a (1200 + 5 * p + 4) = nI g)
def mHou (n : Nat) (a : Nat → Int32) : Prop := ∀ k, k < cnt a 5 → (∃ c, c < n ∧ a (1080 + 5 * k) = nI c) ∧ (∃ x, x ≤ 9 ∧ a (1080 + 5 * k + 1) = nI x) ∧ (∃ x, x ≤ 9 ∧ a (1080 + 5 * k + 2) = nI x) ∧ (∃ x, x ≤ 9999 ∧ a (1080 + 5 * k + 3) = nI x) ∧ (a (1080 + 5 * k + 4) = -1 ∨ ∃ g, g ≤ 99 ∧ a (1080 + 5 * k + 4) = nI g)
def mWent (a : Nat → Int32) : Prop := a 7 = nI (sp_ct (fun p => ¬ sp_here a p) (cnt a 6))
theorem t_kinGone {I : pvI} {J : pvJ} {P : pvP} (hP : pvOkP P) {np : Nat} (hnp : I 203 6 = nI np) (hn1 : np ≤ 60) {k : Int32} : pvMet mX12_kinGone 0 0 0 [.ref 202, .int k] 224 I J P (pvpu (.int (nI (sp_ct (sp_kgP (I 203) k) np))) 224 I J P) := by
  have lp : ∀ q i, i + q = np → pvG mX12_kinGone (pvR 0 0 0) (pvZ (pvpu (.int (nI (sp_ct (sp_kgP (I 203) k) np))) 224 I J P) 0 0) 4 [.ref 202, .int k, .int (nI (sp_ct (sp_kgP (I 203) k) i)), .int (nI i)] [] 0 0 224 I J P := by
    intro q
    induction q with
    | zero =>
      intro i hi
      obtain rfl : i = np := by omega
      refine g_iload_n dX12_kinGone_4 rfl ?_
      refine g_aload_n dX12_kinGone_5 rfl ?_
      refine g_getP dX12_kinGone_6 fdX12_7 rfl (by first | rfl | exact pv_shx) (by omega) (by omega) (by decide) rfl (hP _ _ _ rfl) ?_
      refine g_bipush (v := nI 6) dX12_kinGone_9 (by decide) ?_
      refine n_iald dX12_kinGone_11 (by first | rfl | exact pv_shx) (by omega) (by omega) (by decide) (rfl) (by omega) (by repeat (first | exact hnp | (apply rd_s; done) | apply rd_n (by omega) | apply rp_s | apply rp_n (by omega) | (apply rdL_s; done) | apply rdL_n (by omega) | apply rpJ_s | apply rpJ_n (by omega) | rfl)) ?_
      refine n_icmp_ge 64 dX12_kinGone_12 (by decide) (by first | ((with_reducible apply cN_le) <;> omega) | ((with_reducible apply cI_len) <;> omega) | ((with_reducible apply cI_nle) <;> omega) | (with_reducible exact cI_le)) (fun c12 => ?_) (fun c12 => by exfalso; first | omega | exact absurd trivial c12 | exact c12)
      refine g_iload_n dX12_kinGone_64 rfl ?_
      exact g_iret dX12_kinGone_65 rfl (⟨rfl, rfl, rfl, rfl, rfl⟩)
    | succ q ih =>
      intro i hi
      have e1 : sp_ct (sp_kgP (I 203) k) (i + 1) = sp_ct (sp_kgP (I 203) k) i + if sp_kgP (I 203) k i then 1 else 0 := rfl
      have hle := sp_ct_le (p := sp_kgP (I 203) k) i
      refine g_iload_n dX12_kinGone_4 rfl ?_
      refine g_aload_n dX12_kinGone_5 rfl ?_
      refine g_getP dX12_kinGone_6 fdX12_7 rfl (by first | rfl | exact pv_shx) (by omega) (by omega) (by decide) rfl (hP _ _ _ rfl) ?_
      refine g_bipush (v := nI 6) dX12_kinGone_9 (by decide) ?_
      refine n_iald dX12_kinGone_11 (by first | rfl | exact pv_shx) (by omega) (by omega) (by decide) (rfl) (by omega) (by repeat (first | exact hnp | (apply rd_s; done) | apply rd_n (by omega) | apply rp_s | apply rp_n (by omega) | (apply rdL_s; done) | apply rdL_n (by omega) | apply rpJ_s | apply rpJ_n (by omega) | rfl)) ?_
      refine n_icmp_ge 64 dX12_kinGone_12 (by decide) (by first | ((with_reducible apply cN_le) <;> omega) | ((with_reducible apply cI_len) <;> omega) | ((with_reducible apply cI_nle) <;> omega) | (with_reducible exact cI_le)) (fun c12 => by exfalso; first | omega | exact absurd trivial c12 | exact c12) (fun c12 => ?_)
      refine g_iload_n dX12_kinGone_15 rfl ?_
      refine g_aload_n dX12_kinGone_16 rfl ?_
      refine g_getP dX12_kinGone_17 fdX12_7 rfl (by first | rfl | exact pv_shx) (by omega) (by omega) (by decide) rfl (hP _ _ _ rfl) ?_
      refine g_sipush (v := nI 1200) dX12_kinGone_20 (by decide) ?_
      refine g_iconst (v := nI 5) dX12_kinGone_23 (by decide) ?_
      refine g_iload_n dX12_kinGone_24 rfl ?_
      refine n_imul dX12_kinGone_25 (by first | (with_reducible exact pk_mul _ _) | rfl) ?_
      refine n_iadd dX12_kinGone_26 (by first | (with_reducible exact nI_add _ _) | rfl) ?_
      refine g_iconst (v := nI 1) dX12_kinGone_27 (by decide) ?_
      refine n_iadd dX12_kinGone_28 (by first | (with_reducible exact nI_add _ _) | rfl) ?_
      refine n_iald dX12_kinGone_29 (by first | rfl | exact pv_shx) (by omega) (by omega) (by decide) (rfl) (by omega) (by repeat (first | exact hnp | (apply rd_s; done) | apply rd_n (by omega) | apply rp_s | apply rp_n (by omega) | (apply rdL_s; done) | apply rdL_n (by omega) | apply rpJ_s | apply rpJ_n (by omega) | rfl)) ?_
      refine g_iload_n dX12_kinGone_30 rfl ?_
      refine n_icmp_ne 55 dX12_kinGone_31 (by decide) (Iff.rfl) (fun c31 => ?_) (fun c31 => ?_)
      · skip
        refine g_iconst (v := nI 0) dX12_kinGone_55 (by decide) ?_
        refine n_iadd dX12_kinGone_56 (nI_add _ _) ?_
        refine g_istore_n dX12_kinGone_57 (by decide) rfl ?_
        refine g_iinc dX12_kinGone_58 rfl (nI_1 _) (by decide) rfl ?_
        refine g_goto 4 dX12_kinGone_61 (by decide) ?_
        have h4 := ih (i + 1) (by omega)
        rw [e1] at h4
        first | (rw [if_pos ⟨c31, c48⟩] at h4; exact h4) | (rw [if_neg (fun z => c31 z.1)] at h4; exact h4) | (rw [if_neg (fun z => z.2 c48)] at h4; exact h4)
      · skip
        refine g_aload_n dX12_kinGone_34 rfl ?_
        refine g_getP dX12_kinGone_35 fdX12_7 rfl (by first | rfl | exact pv_shx) (by omega) (by omega) (by decide) rfl (hP _ _ _ rfl) ?_
        refine g_sipush (v := nI 1200) dX12_kinGone_38 (by decide) ?_
        refine g_iconst (v := nI 5) dX12_kinGone_41 (by decide) ?_
        refine g_iload_n dX12_kinGone_42 rfl ?_
        refine n_imul dX12_kinGone_43 (by first | (with_reducible exact pk_mul _ _) | rfl) ?_
        refine n_iadd dX12_kinGone_44 (by first | (with_reducible exact nI_add _ _) | rfl) ?_
        refine g_iconst (v := nI 4) dX12_kinGone_45 (by decide) ?_
        refine n_iadd dX12_kinGone_46 (by first | (with_reducible exact nI_add _ _) | rfl) ?_
        refine n_iald dX12_kinGone_47 (by first | rfl | exact pv_shx) (by omega) (by omega) (by decide) (rfl) (by omega) (by repeat (first | exact hnp | (apply rd_s; done) | apply rd_n (by omega) | apply rp_s | apply rp_n (by omega) | (apply rdL_s; done) | apply rdL_n (by omega) | apply rpJ_s | apply rpJ_n (by omega) | rfl)) ?_
        refine n_if_lt 55 dX12_kinGone_48 (by decide) (by first | ((with_reducible apply cN_lt0) <;> omega) | (with_reducible exact cI_lt0)) (fun c48 => ?_) (fun c48 => ?_)
        · skip
          refine g_iconst (v := nI 0) dX12_kinGone_55 (by decide) ?_
          refine n_iadd dX12_kinGone_56 (nI_add _ _) ?_
          refine g_istore_n dX12_kinGone_57 (by decide) rfl ?_
          refine g_iinc dX12_kinGone_58 rfl (nI_1 _) (by decide) rfl ?_
          refine g_goto 4 dX12_kinGone_61 (by decide) ?_
          have h4 := ih (i + 1) (by omega)
          rw [e1] at h4
          first | (rw [if_pos ⟨c31, c48⟩] at h4; exact h4) | (rw [if_neg (fun z => c31 z.1)] at h4; exact h4) | (rw [if_neg (fun z => z.2 c48)] at h4; exact h4)
        · skip
          refine g_iconst (v := nI 1) dX12_kinGone_51 (by decide) ?_
          refine g_goto 56 dX12_kinGone_52 (by decide) ?_
          refine n_iadd dX12_kinGone_56 (nI_add _ _) ?_
          refine g_istore_n dX12_kinGone_57 (by decide) rfl ?_
          refine g_iinc dX12_kinGone_58 rfl (nI_1 _) (by decide) rfl ?_
          refine g_goto 4 dX12_kinGone_61 (by decide) ?_
          have h4 := ih (i + 1) (by omega)
          rw [e1] at h4
          first | (rw [if_pos ⟨c31, c48⟩] at h4; exact h4) | (rw [if_neg (fun z => c31 z.1)] at h4; exact h4) | (rw [if_neg (fun z => z.2 c48)] at h4; exact h4)
  refine pvMet.of _ (by decide) rfl (Nat.le_of_ble_eq_true rfl) ?_
  refine g_iconst (v := nI 0) dX12_kinGone_0 (by decide) ?_
  refine g_istore_n dX12_kinGone_1 (by decide) rfl ?_
  refine g_iconst (v := nI 0) dX12_kinGone_2 (by decide) ?_
  refine g_istore_n dX12_kinGone_3 (by decide) rfl ?_
  exact lp np 0 (by omega)
