/-! model: trench, tape, image, counts -/
def sp_go (w h d : Nat) : Nat → Nat → Option Nat
  | 0, c => some c
  | k + 1, c => (sp_go w h d k c).bind (fun x => sp_nb w h x d)
def sp_trench (w h : Nat) (a : Nat → Int32) (c d n e : Int32) : Int32 × (Nat → Int32) :=
  if (0 ≤ c.toInt ∧ c.toInt < w * h) ∧ (0 ≤ d.toInt ∧ d.toInt ≤ 3) ∧ (1 ≤ n.toInt ∧ n.toInt ≤ 8) ∧ (1 ≤ e.toInt ∧ e.toInt ≤ 8) ∧ ¬ cnt a 0 = 100 ∧ ¬ cnt a 2 = 10 ∧ ¬ sp_go w h d.toNatClampNeg (n.toNatClampNeg - 1) c.toNatClampNeg = none then
    (a 2, upd (upd (upd (upd (upd (upd a (210 + 5 * cnt a 2) c) (210 + 5 * cnt a 2 + 1) d) (210 + 5 * cnt a 2 + 2) n) (210 + 5 * cnt a 2 + 3) e) (210 + 5 * cnt a 2 + 4) (a 0)) 2 (nI (cnt a 2 + 1))) else (-1, a)
theorem sp_go_lt {w h d : Nat} (hw : 0 < w) : ∀ {k c x : Nat}, c < w * h → sp_go w h d k c = some x → x < w * h
  | 0, c, x, hc, hx => by cases hx; exact hc
  | k + 1, c, x, hc, hx => by
    obtain ⟨y, h1, h2⟩ := Option.bind_eq_some_iff.mp hx
    exact sp_nb_lt hw (sp_go_lt hw hc h1) h2
theorem sp_go_none {w h d : Nat} {c : Nat} : ∀ {j k : Nat}, sp_go w h d j c = none → j ≤ k → sp_go w h d k c = none
  | j, 0, hj, hk => by
    obtain rfl : j = 0 := by omega
    cases hj
  | j, k + 1, hj, hk => by
    by_cases e : j = k + 1
    · subst e; exact hj
    · show (sp_go w h d k c).bind _ = none
      rw [sp_go_none hj (by omega)]
      rfl
theorem t_trench {w h : Nat} {I : pvI} {J : pvJ} {P : pvP} (hP : pvOkP P) (hD : mDim w h I) (hg : mG (I 203)) {c d n e : Int32} : pvMet mX12_trench 2 0 0 [.ref 202, .int c, .int d, .int n, .int e] 224 I J P (mQ1 I J P (sp_trench w h (I 203) c d n e)) := by
  have hD' := hD
  obtain ⟨hw, hh, hw2, hh2⟩ := hD
  have hwh : 4 ≤ w * h ∧ w * h ≤ 64 := ⟨Nat.mul_le_mul hw2.1 hh2.1, Nat.mul_le_mul hw2.2 hh2.2⟩
  obtain ⟨clk, clk_b, clk_h⟩ := hg 0 (by decide)
  replace clk_b : clk ≤ 100 := clk_b
  have clk_e : cnt (I 203) 0 = clk := cnt_of clk_h (by omega)
  obtain ⟨nt, nt_b, nt_h⟩ := hg 2 (by decide)
  replace nt_b : nt ≤ 10 := nt_b
  have nt_e : cnt (I 203) 2 = nt := cnt_of nt_h (by omega)
  refine pvMet.of _ (by decide) rfl (Nat.le_of_ble_eq_true rfl) ?_
  refine g_aload_n dX12_trench_0 rfl ?_
  refine g_iload_n dX12_trench_1 rfl ?_
  refine p_callV (t_isCell hw hh hw2 hh2) okX12_isCell lkX12_100 rfl (by first | rfl | exact pv_shx) rfl (by omega) (by omega) dX12_trench_2 rfl (Nat.le_of_ble_eq_true rfl) (⟨by decide, by decide, by decide, by decide⟩) ?_
  refine n_if_eq 60 dX12_trench_5 (by decide) (by first | (with_reducible exact cB _) | ((with_reducible apply cN_eq0) <;> omega) | exact Iff.rfl) (fun c5 => ?_) (fun c5 => ?_)
  · skip
    refine g_iconst (v := (-1)) dX12_trench_60 (by decide) ?_
    exact g_iret dX12_trench_61 rfl (⟨rfl, rfl, by rw [sp_trench, if_neg (by omega)]; exact ⟨rfl, pvs_self.symm, rfl⟩⟩)
  · skip
    refine g_iload_n dX12_trench_8 rfl ?_
    refine g_iconst (v := nI 0) dX12_trench_9 (by decide) ?_
    refine g_iconst (v := nI 3) dX12_trench_10 (by decide) ?_
    refine p_callS (t_isIn (by first | exact nI_toInt (by omega) | exact pk_sub_toInt (by omega) (by omega)) (by first | exact nI_toInt (by omega) | exact pk_sub_toInt (by omega) (by omega))) okX12_isIn lkX12_96 rfl dX12_trench_11 rfl (Nat.le_of_ble_eq_true rfl) (⟨by decide, by decide, by decide, by decide⟩) ?_
    refine n_if_eq 60 dX12_trench_14 (by decide) (by first | (with_reducible exact cB _) | ((with_reducible apply cN_eq0) <;> omega) | exact Iff.rfl) (fun c14 => ?_) (fun c14 => ?_)
    · skip
      refine g_iconst (v := (-1)) dX12_trench_60 (by decide) ?_
      exact g_iret dX12_trench_61 rfl (⟨rfl, rfl, by rw [sp_trench, if_neg (by omega)]; exact ⟨rfl, pvs_self.symm, rfl⟩⟩)
    · skip
      refine g_iload_n dX12_trench_17 rfl ?_
      refine g_iconst (v := nI 1) dX12_trench_18 (by decide) ?_
      refine g_bipush (v := nI 8) dX12_trench_19 (by decide) ?_
      refine p_callS (t_isIn (by first | exact nI_toInt (by omega) | exact pk_sub_toInt (by omega) (by omega)) (by first | exact nI_toInt (by omega) | exact pk_sub_toInt (by omega) (by omega))) okX12_isIn lkX12_96 rfl dX12_trench_21 rfl (Nat.le_of_ble_eq_true rfl) (⟨by decide, by decide, by decide, by decide⟩) ?_
      refine n_if_eq 60 dX12_trench_24 (by decide) (by first | (with_reducible exact cB _) | ((with_reducible apply cN_eq0) <;> omega) | exact Iff.rfl) (fun c24 => ?_) (fun c24 => ?_)
      · skip
        refine g_iconst (v := (-1)) dX12_trench_60 (by decide) ?_
        exact g_iret dX12_trench_61 rfl (⟨rfl, rfl, by rw [sp_trench, if_neg (by omega)]; exact ⟨rfl, pvs_self.symm, rfl⟩⟩)
      · skip
        refine g_iload dX12_trench_27 rfl ?_
        refine g_iconst (v := nI 1) dX12_trench_29 (by decide) ?_
        refine g_bipush (v := nI 8) dX12_trench_30 (by decide) ?_
        refine p_callS (t_isIn (by first | exact nI_toInt (by omega) | exact pk_sub_toInt (by omega) (by omega)) (by first | exact nI_toInt (by omega) | exact pk_sub_toInt (by omega) (by omega))) okX12_isIn lkX12_96 rfl dX12_trench_32 rfl (Nat.le_of_ble_eq_true rfl) (⟨by decide, by decide, by decide, by decide⟩) ?_
        refine n_if_eq 60 dX12_trench_35 (by decide) (by first | (with_reducible exact cB _) | ((with_reducible apply cN_eq0) <;> omega) | exact Iff.rfl) (fun c35 => ?_) (fun c35 => ?_)
        · skip
          refine g_iconst (v := (-1)) dX12_trench_60 (by decide) ?_
          exact g_iret dX12_trench_61 rfl (⟨rfl, rfl, by rw [sp_trench, if_neg (by omega)]; exact ⟨rfl, pvs_self.symm, rfl⟩⟩)
        · skip
          refine g_aload_n dX12_trench_38 rfl ?_
          refine g_getP dX12_trench_39 fdX12_7 rfl (by first | rfl | exact pv_shx) (by omega) (by omega) (by decide) rfl (hP _ _ _ rfl) ?_
          refine g_iconst (v := nI 0) dX12_trench_42 (by decide) ?_
          refine n_iald dX12_trench_43 (by first | rfl | exact pv_shx) (by omega) (by omega) (by decide) (rfl) (by omega) (by repeat (first | exact clk_h | exact nt_h | (apply rd_s; done) | apply rd_n (by omega) | apply rp_s | apply rp_n (by omega) | (apply rdL_s; done) | apply rdL_n (by omega) | apply rpJ_s | apply rpJ_n (by omega) | rfl)) ?_
          refine g_bipush (v := nI 100) dX12_trench_44 (by decide) ?_
          refine n_icmp_eq 60 dX12_trench_46 (by decide) (by first | ((with_reducible apply cN_eq) <;> omega) | ((with_reducible apply cI_eqn) <;> omega) | exact Iff.rfl) (fun c46 => ?_) (fun c46 => ?_)
          · skip
            refine g_iconst (v := (-1)) dX12_trench_60 (by decide) ?_
            exact g_iret dX12_trench_61 rfl (⟨rfl, rfl, by rw [sp_trench, if_neg (by omega)]; exact ⟨rfl, pvs_self.symm, rfl⟩⟩)
          · skip
            refine g_aload_n dX12_trench_49 rfl ?_
            refine g_getP dX12_trench_50 fdX12_7 rfl (by first | rfl | exact pv_shx) (by omega) (by omega) (by decide) rfl (hP _ _ _ rfl) ?_
            refine g_iconst (v := nI 2) dX12_trench_53 (by decide) ?_
            refine n_iald dX12_trench_54 (by first | rfl | exact pv_shx) (by omega) (by omega) (by decide) (rfl) (by omega) (by repeat (first | exact clk_h | exact nt_h | (apply rd_s; done) | apply rd_n (by omega) | apply rp_s | apply rp_n (by omega) | (apply rdL_s; done) | apply rdL_n (by omega) | apply rpJ_s | apply rpJ_n (by omega) | rfl)) ?_
            refine g_bipush (v := nI 10) dX12_trench_55 (by decide) ?_
            refine n_icmp_ne 62 dX12_trench_57 (by decide) (by first | ((with_reducible apply cN_eq) <;> omega) | ((with_reducible apply cI_eqn) <;> omega) | exact Iff.rfl) (fun c57 => ?_) (fun c57 => ?_)
            · skip
              obtain ⟨j, hj, rfl⟩ := cI_of (x := c) (n := w * h) (by omega) (by omega) (by omega)
              obtain ⟨dd, hdd, rfl⟩ := cI_of (x := d) (n := 4) (by omega) (by omega) (by omega)
              obtain ⟨nn, hnn, rfl⟩ := cI_of (x := n) (n := 9) (by omega) (by omega) (by omega)
              have ej : (nI j).toNatClampNeg = j := nI_clamp (by omega)
              have edd : (nI dd).toNatClampNeg = dd := nI_clamp (by omega)
              have enn : (nI nn).toNatClampNeg = nn := nI_clamp (by omega)
              have hn1 : 1 ≤ nn := by
                have := nI_toInt (n := nn) (by omega)
                omega
              have lp : ∀ q k x, k + q = nn → 1 ≤ k → sp_go w h dd (k - 1) j = some x → pvG mX12_trench (pvR 2 0 0) (pvZ (mQ1 I J P (sp_trench w h (I 203) (nI j) (nI dd) (nI nn) e)) 0 0) 68 [.ref 202, .int (nI j), .int (nI dd), .int (nI nn), .int e, .int (nI x), .int (nI k)] [] 0 0 224 I J P := by
                intro q
                induction q with
                | zero =>
                  intro k x hk h1 hx
                  obtain rfl : k = nn := by omega
                  refine g_iload dX12_trench_68 rfl ?_
                  refine g_iload_n dX12_trench_70 rfl ?_
                  refine n_icmp_ge 96 dX12_trench_71 (by decide) (by first | ((with_reducible apply cN_le) <;> omega) | ((with_reducible apply cI_len) <;> omega) | ((with_reducible apply cI_nle) <;> omega) | (with_reducible exact cI_le)) (fun c71 => ?_) (fun c71 => by exfalso; first | omega | exact absurd trivial c71 | exact c71)
                  refine g_sipush (v := nI 210) dX12_trench_96 (by decide) ?_
                  refine g_iconst (v := nI 5) dX12_trench_99 (by decide) ?_
                  refine g_aload_n dX12_trench_100 rfl ?_
                  refine g_getP dX12_trench_101 fdX12_7 rfl (by first | rfl | exact pv_shx) (by omega) (by omega) (by decide) rfl (hP _ _ _ rfl) ?_
                  refine g_iconst (v := nI 2) dX12_trench_104 (by decide) ?_
                  refine n_iald dX12_trench_105 (by first | rfl | exact pv_shx) (by omega) (by omega) (by decide) (rfl) (by omega) (by repeat (first | exact clk_h | exact nt_h | (apply rd_s; done) | apply rd_n (by omega) | apply rp_s | apply rp_n (by omega) | (apply rdL_s; done) | apply rdL_n (by omega) | apply rpJ_s | apply rpJ_n (by omega) | rfl)) ?_
                  refine n_imul dX12_trench_106 (by first | (with_reducible exact pk_mul _ _) | rfl) ?_
                  refine n_iadd dX12_trench_107 (by first | (with_reducible exact nI_add _ _) | rfl) ?_
                  refine g_istore dX12_trench_108 (by decide) rfl ?_
                  refine g_aload_n dX12_trench_110 rfl ?_
                  refine g_getP dX12_trench_111 fdX12_7 rfl (by first | rfl | exact pv_shx) (by omega) (by omega) (by decide) rfl (hP _ _ _ rfl) ?_
                  refine g_iload dX12_trench_114 rfl ?_
                  refine g_iload_n dX12_trench_116 rfl ?_
                  refine n_iast dX12_trench_117 (by first | rfl | exact pv_shx) (by omega) (by omega) (by omega) (by decide) (rfl) (by omega) (by repeat (first | exact pvu_s | exact pvuJ_s | apply pvu_in (by omega) | apply pvuJ_in (by omega) | exact pvu_pvs | exact pvuJ_pvs)) ?_
                  refine g_aload_n dX12_trench_118 rfl ?_
                  refine g_getP dX12_trench_119 fdX12_7 rfl (by first | rfl | exact pv_shx) (by omega) (by omega) (by decide) rfl (hP _ _ _ rfl) ?_
                  refine g_iload dX12_trench_122 rfl ?_
                  refine g_iconst (v := nI 1) dX12_trench_124 (by decide) ?_
                  refine n_iadd dX12_trench_125 (by first | (with_reducible exact nI_add _ _) | rfl) ?_
                  refine g_iload_n dX12_trench_126 rfl ?_
                  refine n_iast dX12_trench_127 (by first | rfl | exact pv_shx) (by omega) (by omega) (by omega) (by decide) (rfl) (by omega) (by repeat (first | exact pvu_s | exact pvuJ_s | apply pvu_in (by omega) | apply pvuJ_in (by omega) | exact pvu_pvs | exact pvuJ_pvs)) ?_
                  refine g_aload_n dX12_trench_128 rfl ?_
                  refine g_getP dX12_trench_129 fdX12_7 rfl (by first | rfl | exact pv_shx) (by omega) (by omega) (by decide) rfl (hP _ _ _ rfl) ?_
                  refine g_iload dX12_trench_132 rfl ?_
                  refine g_iconst (v := nI 2) dX12_trench_134 (by decide) ?_
                  refine n_iadd dX12_trench_135 (by first | (with_reducible exact nI_add _ _) | rfl) ?_
                  refine g_iload_n dX12_trench_136 rfl ?_
                  refine n_iast dX12_trench_137 (by first | rfl | exact pv_shx) (by omega) (by omega) (by omega) (by decide) (rfl) (by omega) (by repeat (first | exact pvu_s | exact pvuJ_s | apply pvu_in (by omega) | apply pvuJ_in (by omega) | exact pvu_pvs | exact pvuJ_pvs)) ?_
                  refine g_aload_n dX12_trench_138 rfl ?_
                  refine g_getP dX12_trench_139 fdX12_7 rfl (by first | rfl | exact pv_shx) (by omega) (by omega) (by decide) rfl (hP _ _ _ rfl) ?_
                  refine g_iload dX12_trench_142 rfl ?_
                  refine g_iconst (v := nI 3) dX12_trench_144 (by decide) ?_
                  refine n_iadd dX12_trench_145 (by first | (with_reducible exact nI_add _ _) | rfl) ?_
                  refine g_iload dX12_trench_146 rfl ?_
                  refine n_iast dX12_trench_148 (by first | rfl | exact pv_shx) (by omega) (by omega) (by omega) (by decide) (rfl) (by omega) (by repeat (first | exact pvu_s | exact pvuJ_s | apply pvu_in (by omega) | apply pvuJ_in (by omega) | exact pvu_pvs | exact pvuJ_pvs)) ?_
                  refine g_aload_n dX12_trench_149 rfl ?_
                  refine g_getP dX12_trench_150 fdX12_7 rfl (by first | rfl | exact pv_shx) (by omega) (by omega) (by decide) rfl (hP _ _ _ rfl) ?_
                  refine g_iload dX12_trench_153 rfl ?_
                  refine g_iconst (v := nI 4) dX12_trench_155 (by decide) ?_
                  refine n_iadd dX12_trench_156 (by first | (with_reducible exact nI_add _ _) | rfl) ?_
                  refine g_aload_n dX12_trench_157 rfl ?_
                  refine g_getP dX12_trench_158 fdX12_7 rfl (by first | rfl | exact pv_shx) (by omega) (by omega) (by decide) rfl (hP _ _ _ rfl) ?_
                  refine g_iconst (v := nI 0) dX12_trench_161 (by decide) ?_
                  refine n_iald dX12_trench_162 (by first | rfl | exact pv_shx) (by omega) (by omega) (by decide) (rfl) (by omega) (by repeat (first | exact clk_h | exact nt_h | (apply rd_s; done) | apply rd_n (by omega) | apply rp_s | apply rp_n (by omega) | (apply rdL_s; done) | apply rdL_n (by omega) | apply rpJ_s | apply rpJ_n (by omega) | rfl)) ?_
                  refine n_iast dX12_trench_163 (by first | rfl | exact pv_shx) (by omega) (by omega) (by omega) (by decide) (rfl) (by omega) (by repeat (first | exact pvu_s | exact pvuJ_s | apply pvu_in (by omega) | apply pvuJ_in (by omega) | exact pvu_pvs | exact pvuJ_pvs)) ?_
                  refine g_aload_n dX12_trench_164 rfl ?_
                  refine g_getP dX12_trench_165 fdX12_7 rfl (by first | rfl | exact pv_shx) (by omega) (by omega) (by decide) rfl (hP _ _ _ rfl) ?_
                  refine g_iconst (v := nI 2) dX12_trench_168 (by decide) ?_
                  refine g_dup2 dX12_trench_169 rfl rfl ?_
                  refine n_iald dX12_trench_170 (by first | rfl | exact pv_shx) (by omega) (by omega) (by decide) (rfl) (by omega) (by repeat (first | exact clk_h | exact nt_h | (apply rd_s; done) | apply rd_n (by omega) | apply rp_s | apply rp_n (by omega) | (apply rdL_s; done) | apply rdL_n (by omega) | apply rpJ_s | apply rpJ_n (by omega) | rfl)) ?_
                  refine g_iconst (v := nI 1) dX12_trench_171 (by decide) ?_
                  refine n_iadd dX12_trench_172 (by first | (with_reducible exact nI_add _ _) | rfl) ?_
                  refine n_iast dX12_trench_173 (by first | rfl | exact pv_shx) (by omega) (by omega) (by omega) (by decide) (rfl) (by omega) (by repeat (first | exact pvu_s | exact pvuJ_s | apply pvu_in (by omega) | apply pvuJ_in (by omega) | exact pvu_pvs | exact pvuJ_pvs)) ?_
                  refine g_aload_n dX12_trench_174 rfl ?_
                  refine g_getP dX12_trench_175 fdX12_7 rfl (by first | rfl | exact pv_shx) (by omega) (by omega) (by decide) rfl (hP _ _ _ rfl) ?_
                  refine g_iconst (v := nI 2) dX12_trench_178 (by decide) ?_
                  refine n_iald dX12_trench_179 (by first | rfl | exact pv_shx) (by omega) (by omega) (by decide) (rfl) (by omega) (by repeat (first | exact clk_h | exact nt_h | (apply rd_s; done) | apply rd_n (by omega) | apply rp_s | apply rp_n (by omega) | (apply rdL_s; done) | apply rdL_n (by omega) | apply rpJ_s | apply rpJ_n (by omega) | rfl)) ?_
                  refine g_iconst (v := nI 1) dX12_trench_180 (by decide) ?_
                  refine n_isub dX12_trench_181 (by first | ((with_reducible apply pk_sub) <;> omega) | rfl) ?_
                  exact g_iret dX12_trench_182 rfl (⟨rfl, rfl, by rw [sp_trench, if_pos ⟨by omega, by omega, by omega, by omega, by omega, by omega, by rw [ej, edd, enn, hx]; simp⟩, nt_e, nt_h, clk_h]; exact ⟨rfl, rfl, rfl⟩⟩)
                | succ q ih =>
                  intro k x hk h1 hx
                  have hxl := sp_go_lt (by omega) hj hx
                  have hk1 : sp_go w h dd k j = sp_nb w h x dd := by
                    rw [show k = k - 1 + 1 by omega]
                    show (sp_go w h dd (k - 1) j).bind _ = _
                    rw [hx]
                    rfl
                  rcases hnb : sp_nb w h x dd with _ | y
                  · have hnI : sp_nbI w h x dd = -1 := by rw [sp_nbI, hnb]
                    have hno : sp_go w h dd (nn - 1) j = none := sp_go_none (hk1.trans hnb) (by omega)
                    refine g_iload dX12_trench_68 rfl ?_
                    refine g_iload_n dX12_trench_70 rfl ?_
                    refine n_icmp_ge 96 dX12_trench_71 (by decide) (by first | ((with_reducible apply cN_le) <;> omega) | ((with_reducible apply cI_len) <;> omega) | ((with_reducible apply cI_nle) <;> omega) | (with_reducible exact cI_le)) (fun c71 => by exfalso; first | omega | exact absurd trivial c71 | exact c71) (fun c71 => ?_)
                    refine g_aload_n dX12_trench_74 rfl ?_
                    refine g_iload dX12_trench_75 rfl ?_
                    refine g_iload_n dX12_trench_77 rfl ?_
                    refine p_callV (hnI ▸ t_beside (J := J) (P := P) hD' hxl hdd) okX12_beside lkX12_111 rfl (by first | rfl | exact pv_shx) rfl (by omega) (by omega) dX12_trench_78 rfl (Nat.le_of_ble_eq_true rfl) (⟨by decide, by decide, by decide, by decide⟩) ?_
                    refine g_istore dX12_trench_81 (by decide) rfl ?_
                    refine g_iload dX12_trench_83 rfl ?_
                    refine n_if_ge 90 dX12_trench_85 (by decide) (cI_ge0.trans (by rw [show ((-1 : Int32)).toInt = -1 from rfl])) (fun c85 => by exfalso; first | omega | exact absurd trivial c85 | exact c85) (fun c85 => ?_)
                    refine g_iconst (v := (-1)) dX12_trench_88 (by decide) ?_
                    exact g_iret dX12_trench_89 rfl (⟨rfl, rfl, by rw [sp_trench, if_neg (fun z => z.2.2.2.2.2.2 (by rw [ej, edd, enn]; exact hno))]; exact ⟨rfl, pvs_self.symm, rfl⟩⟩)
                  · have hnI : sp_nbI w h x dd = nI y := by rw [sp_nbI, hnb]
                    have hyl := sp_nb_lt (by omega) hxl hnb
                    refine g_iload dX12_trench_68 rfl ?_
                    refine g_iload_n dX12_trench_70 rfl ?_
                    refine n_icmp_ge 96 dX12_trench_71 (by decide) (by first | ((with_reducible apply cN_le) <;> omega) | ((with_reducible apply cI_len) <;> omega) | ((with_reducible apply cI_nle) <;> omega) | (with_reducible exact cI_le)) (fun c71 => by exfalso; first | omega | exact absurd trivial c71 | exact c71) (fun c71 => ?_)
                    refine g_aload_n dX12_trench_74 rfl ?_
                    refine g_iload dX12_trench_75 rfl ?_
                    refine g_iload_n dX12_trench_77 rfl ?_
                    refine p_callV (hnI ▸ t_beside (J := J) (P := P) hD' hxl hdd) okX12_beside lkX12_111 rfl (by first | rfl | exact pv_shx) rfl (by omega) (by omega) dX12_trench_78 rfl (Nat.le_of_ble_eq_true rfl) (⟨by decide, by decide, by decide, by decide⟩) ?_
                    refine g_istore dX12_trench_81 (by decide) rfl ?_
                    refine g_iload dX12_trench_83 rfl ?_
                    refine n_if_ge 90 dX12_trench_85 (by decide) (by first | ((with_reducible apply cN_ge0) <;> omega) | (with_reducible exact cI_ge0)) (fun c85 => ?_) (fun c85 => by exfalso; first | omega | exact absurd trivial c85 | exact c85)
                    refine g_iinc dX12_trench_90 rfl (by first | (with_reducible exact nI_1 _) | exact nI_1 _ | exact pk_m1 _ | rfl) (by decide) rfl ?_
                    refine g_goto 68 dX12_trench_93 (by decide) ?_
                    exact ih (k + 1) y (by omega) (by omega) (hk1.trans hnb)
              refine g_iload_n dX12_trench_62 rfl ?_
              refine g_istore dX12_trench_63 (by decide) rfl ?_
              refine g_iconst (v := nI 1) dX12_trench_65 (by decide) ?_
              refine g_istore dX12_trench_66 (by decide) rfl ?_
              exact lp (nn - 1) 1 j (by omega) (by omega) rfl
            · skip
              refine g_iconst (v := (-1)) dX12_trench_60 (by decide) ?_
              exact g_iret dX12_trench_61 rfl (⟨rfl, rfl, by rw [sp_trench, if_neg (by omega)]; exact ⟨rfl, pvs_self.symm, rfl⟩⟩)
/-! the tape -/
def mTape (I : pvI) (tp : Nat) : Prop := I 202 17 = nI tp ∧ tp ≤ 300
theorem t_end {I : pvI} {J : pvJ} {P : pvP} (hP : pvOkP P) {tp : Nat} (ht : I 202 17 = nI tp) (ht1 : tp ≤ 300) {n : Int32} : pvMet mX12_end 1 0 0 [.ref 202, .int n] 224 I J P (pvq P (fun v I' J' => (if 0 ≤ n.toInt ∧ n.toInt ≤ tp then v = some (.int n) ∧ I' = pvs I 202 (upd (I 202) 17 n) else v = some (.int (-1)) ∧ I' = I) ∧ J' = J)) := by
  refine pvMet.of _ (by decide) rfl (Nat.le_of_ble_eq_true rfl) ?_
  refine g_iload_n dX12_end_0 rfl ?_
  refine g_iconst (v := nI 0) dX12_end_1 (by decide) ?_
  refine g_aload_n dX12_end_2 rfl ?_
  refine n_getI dX12_end_3 fdX12_178 rfl (by first | rfl | exact pv_shx) (by omega) (by omega) (by decide) rfl (by repeat (first | exact ht | (apply rd_s; done) | apply rd_n (by omega) | apply rp_s | apply rp_n (by omega) | (apply rdL_s; done) | apply rdL_n (by omega) | apply rpJ_s | apply rpJ_n (by omega) | rfl)) ?_
  refine p_callS (t_isIn (by first | exact nI_toInt (by omega) | exact pk_sub_toInt (by omega) (by omega)) (by first | exact nI_toInt (by omega) | exact pk_sub_toInt (by omega) (by omega))) okX12_isIn lkX12_96 rfl dX12_end_6 rfl (Nat.le_of_ble_eq_true rfl) (⟨by decide, by decide, by decide, by decide⟩) ?_
  refine n_if_ne 14 dX12_end_9 (by decide) (by first | (with_reducible exact cB _) | ((with_reducible apply cN_eq0) <;> omega) | exact Iff.rfl) (fun c9 => ?_) (fun c9 => ?_)
  · skip
    refine g_aload_n dX12_end_14 rfl ?_
    refine g_iload_n dX12_end_15 rfl ?_
    refine n_putI dX12_end_16 fdX12_178 rfl (fun h => absurd h (by decide)) (by first | rfl | exact pv_shx) (by omega) (by omega) (by decide) rfl (by repeat (first | exact pvu_s | exact pvuJ_s | apply pvu_in (by omega) | apply pvuJ_in (by omega) | exact pvu_pvs | exact pvuJ_pvs)) ?_
    refine g_iload_n dX12_end_19 rfl ?_
    exact g_iret dX12_end_20 rfl (⟨rfl, rfl, by rw [if_pos (by omega)]; exact ⟨rfl, rfl⟩, rfl⟩)
  · skip
    refine g_iconst (v := (-1)) dX12_end_12 (by decide) ?_
    exact g_iret dX12_end_13 rfl (⟨rfl, rfl, by rw [if_neg (by omega)]; exact ⟨rfl, rfl⟩, rfl⟩)
theorem t_fault {I : pvI} {J : pvJ} {P : pvP} {n : Int32} : pvMet mX12_fault 0 0 0 [.ref 202, .int n] 224 I J P (pvpu (.int (if n = 0 then I 202 19 else if n = nI 1 then I 202 20 else -1)) 224 I J P) := by
  refine pvMet.of _ (by decide) rfl (Nat.le_of_ble_eq_true rfl) ?_
  refine g_iload_n dX12_fault_0 rfl ?_
  refine n_if_ne 11 dX12_fault_1 (by decide) (Iff.rfl) (fun c1 => ?_) (fun c1 => ?_)
  · skip
    refine g_iload_n dX12_fault_11 rfl ?_
    refine g_iconst (v := nI 1) dX12_fault_12 (by decide) ?_
    refine n_icmp_ne 23 dX12_fault_13 (by decide) (Iff.rfl) (fun c13 => ?_) (fun c13 => ?_)
    · skip
      refine g_iconst (v := (-1)) dX12_fault_23 (by decide) ?_
      exact g_iret dX12_fault_24 rfl (⟨by first | rw [if_pos c1] | rw [if_neg c1, if_pos c13] | rw [if_neg c1, if_neg c13], rfl, rfl, rfl, rfl⟩)
    · skip
      refine g_aload_n dX12_fault_16 rfl ?_
      refine n_getI dX12_fault_17 fdX12_61 rfl (by first | rfl | exact pv_shx) (by omega) (by omega) (by decide) rfl (by repeat (first | (apply rd_s; done) | apply rd_n (by omega) | apply rp_s | apply rp_n (by omega) | (apply rdL_s; done) | apply rdL_n (by omega) | apply rpJ_s | apply rpJ_n (by omega) | rfl)) ?_
      refine g_goto 24 dX12_fault_20 (by decide) ?_
      exact g_iret dX12_fault_24 rfl (⟨by first | rw [if_pos c1] | rw [if_neg c1, if_pos c13] | rw [if_neg c1, if_neg c13], rfl, rfl, rfl, rfl⟩)
  · skip
    refine g_aload_n dX12_fault_4 rfl ?_
    refine n_getI dX12_fault_5 fdX12_57 rfl (by first | rfl | exact pv_shx) (by omega) (by omega) (by decide) rfl (by repeat (first | (apply rd_s; done) | apply rd_n (by omega) | apply rp_s | apply rp_n (by omega) | (apply rdL_s; done) | apply rdL_n (by omega) | apply rpJ_s | apply rpJ_n (by omega) | rfl)) ?_
    refine g_goto 24 dX12_fault_8 (by decide) ?_
    exact g_iret dX12_fault_24 rfl (⟨by first | rw [if_pos c1] | rw [if_neg c1, if_pos c13] | rw [if_neg c1, if_neg c13], rfl, rfl, rfl, rfl⟩)
def sp_fil (f g : Nat → Int32) (n : Nat) : Nat → Int32 := fun k => if k < n then f k else g k
theorem sp_fil_0 {f g : Nat → Int32} : sp_fil f g 0 = g := by funext k; simp [sp_fil]
theorem sp_fil_s {f g : Nat → Int32} {n : Nat} : upd (sp_fil f g n) n (f n) = sp_fil f g (n + 1) := by
  funext k
  by_cases h : k = n
  · subst h; simp [upd, sp_fil]
  · simp only [upd, sp_fil, if_neg h]
    by_cases h2 : k < n
    · rw [if_pos h2, if_pos (by omega)]
    · rw [if_neg h2, if_neg (by omega)]
theorem t_copy {I : pvI} {J : pvJ} {P : pvP} {ks kd : Nat} (hk : (ks = 203 ∧ kd = 204) ∨ (ks = 204 ∧ kd = 203)) : pvMet mX12_copy 0 0 0 [.ref ks, .ref kd] 224 I J P (pvq P (fun v I' J' => v = none ∧ I' = pvs I kd (sp_fil (I ks) (I kd) 8020) ∧ J' = J)) := by
  have hs : pvSH ks = (0, 8020) := by rcases hk with ⟨rfl, rfl⟩ | ⟨rfl, rfl⟩ <;> rfl
  have hd : pvSH kd = (0, 8020) := by rcases hk with ⟨rfl, rfl⟩ | ⟨rfl, rfl⟩ <;> rfl
  have hne : ks ≠ kd := by omega
  have lp : ∀ q i, i + q = 8020 → pvG mX12_copy (pvR 0 0 0) (pvZ (pvq P (fun v I' J' => v = none ∧ I' = pvs I kd (sp_fil (I ks) (I kd) 8020) ∧ J' = J)) 0 0) 2 [.ref ks, .ref kd, .int (nI i)] [] 0 0 224 (pvs I kd (sp_fil (I ks) (I kd) i)) J P := by
    intro q
    induction q with
    | zero =>
      intro i hi
      obtain rfl : i = 8020 := by omega
      refine g_iload_n dX12_copy_2 rfl ?_
      refine g_sipush (v := nI 8020) dX12_copy_3 (by decide) ?_
      refine n_icmp_ge 21 dX12_copy_6 (by decide) (by first | ((with_reducible apply cN_le) <;> omega) | ((with_reducible apply cI_len) <;> omega) | ((with_reducible apply cI_nle) <;> omega) | (with_reducible exact cI_le)) (fun c6 => ?_) (fun c6 => by exfalso; first | omega | exact absurd trivial c6 | exact c6)
      exact g_vret dX12_copy_21 rfl (⟨rfl, rfl, rfl, rfl, rfl⟩)
    | succ q ih =>
      intro i hi
      refine g_iload_n dX12_copy_2 rfl ?_
      refine g_sipush (v := nI 8020) dX12_copy_3 (by decide) ?_
      refine n_icmp_ge 21 dX12_copy_6 (by decide) (by first | ((with_reducible apply cN_le) <;> omega) | ((with_reducible apply cI_len) <;> omega) | ((with_reducible apply cI_nle) <;> omega) | (with_reducible exact cI_le)) (fun c6 => by exfalso; first | omega | exact absurd trivial c6 | exact c6) (fun c6 => ?_)
      refine g_aload_n dX12_copy_9 rfl ?_
      refine g_iload_n dX12_copy_10 rfl ?_
      refine g_aload_n dX12_copy_11 rfl ?_
      refine g_iload_n dX12_copy_12 rfl ?_
      refine n_iald dX12_copy_13 (hs) (by omega) (by omega) (by decide) (rfl) (by omega) (rp_n hne rfl) ?_
      refine n_iast dX12_copy_14 (hd) (by omega) (by omega) (by omega) (by decide) (rfl) (by omega) (pvu_s.trans (by rw [sp_fil_s])) ?_
      refine g_iinc dX12_copy_15 rfl (by first | (with_reducible exact nI_1 _) | exact nI_1 _ | exact pk_m1 _ | rfl) (by decide) rfl ?_
      refine g_goto 2 dX12_copy_18 (by decide) ?_
      exact ih (i + 1) (by omega)
  have hI : I = pvs I kd (sp_fil (I ks) (I kd) 0) := by rw [sp_fil_0, pvs_self]
  refine pvMet.of _ (by decide) rfl (Nat.le_of_ble_eq_true rfl) ?_
  refine g_iconst (v := nI 0) dX12_copy_0 (by decide) ?_
  refine g_istore_n dX12_copy_1 (by decide) rfl ?_
  have h0 := lp 8020 0 (by omega)
  rw [← hI] at h0
  exact h0
theorem t_image {I : pvI} {J : pvJ} {P : pvP} (hP : pvOkP P) : pvMet mX12_image 1 0 0 [.ref 202] 224 I J P (pvq P (fun v I' J' => v = some (.int (I 203 0)) ∧ I' = pvs I 204 (sp_fil (I 203) (I 204) 8020) ∧ J' = J)) := by
  refine pvMet.of _ (by decide) rfl (Nat.le_of_ble_eq_true rfl) ?_
  refine g_aload_n dX12_image_0 rfl ?_
  refine g_getP dX12_image_1 fdX12_7 rfl (by first | rfl | exact pv_shx) (by omega) (by omega) (by decide) rfl (hP _ _ _ rfl) ?_
  refine g_aload_n dX12_image_4 rfl ?_
  refine g_getP dX12_image_5 fdX12_13 rfl (by first | rfl | exact pv_shx) (by omega) (by omega) (by decide) rfl (hP _ _ _ rfl) ?_
  refine g_callS (t_copy (Or.inl ⟨rfl, rfl⟩)) okX12_copy lkX12_92 rfl dX12_image_8 rfl (Nat.le_of_ble_eq_true rfl) (⟨by decide, by decide, by decide, by decide⟩) ?_
  rintro v nx' I' J' P' ⟨rfl, rfl, rfl, rfl, rfl⟩
  refine g_aload_n dX12_image_11 rfl ?_
  refine g_getP dX12_image_12 fdX12_7 rfl (by first | rfl | exact pv_shx) (by omega) (by omega) (by decide) rfl (hP _ _ _ rfl) ?_
  refine g_iconst (v := nI 0) dX12_image_15 (by decide) ?_
  refine n_iald dX12_image_16 (by first | rfl | exact pv_shx) (by omega) (by omega) (by decide) (rfl) (by omega) (by repeat (first | (apply rd_s; done) | apply rd_n (by omega) | apply rp_s | apply rp_n (by omega) | (apply rdL_s; done) | apply rdL_n (by omega) | apply rpJ_s | apply rpJ_n (by omega) | rfl)) ?_
  exact g_iret dX12_image_17 rfl (⟨rfl, rfl, rfl, rfl, rfl⟩)
theorem t_back {I : pvI} {J : pvJ} {P : pvP} (hP : pvOkP P) : pvMet mX12_back 1 0 0 [.ref 202] 224 I J P (pvq P (fun v I' J' => v = some (.int (I 204 0)) ∧ I' = pvs I 203 (sp_fil (I 204) (I 203) 8020) ∧ J' = J)) := by
  refine pvMet.of _ (by decide) rfl (Nat.le_of_ble_eq_true rfl) ?_
  refine g_aload_n dX12_back_0 rfl ?_
  refine g_getP dX12_back_1 fdX12_13 rfl (by first | rfl | exact pv_shx) (by omega) (by omega) (by decide) rfl (hP _ _ _ rfl) ?_
  refine g_aload_n dX12_back_4 rfl ?_
  refine g_getP dX12_back_5 fdX12_7 rfl (by first | rfl | exact pv_shx) (by omega) (by omega) (by decide) rfl (hP _ _ _ rfl) ?_
  refine g_callS (t_copy (Or.inr ⟨rfl, rfl⟩)) okX12_copy lkX12_92 rfl dX12_back_8 rfl (Nat.le_of_ble_eq_true rfl) (⟨by decide, by decide, by decide, by decide⟩) ?_
  rintro v nx' I' J' P' ⟨rfl, rfl, rfl, rfl, rfl⟩
  refine g_aload_n dX12_back_11 rfl ?_
  refine g_getP dX12_back_12 fdX12_7 rfl (by first | rfl | exact pv_shx) (by omega) (by omega) (by decide) rfl (hP _ _ _ rfl) ?_
  refine g_iconst (v := nI 0) dX12_back_15 (by decide) ?_
  refine n_iald dX12_back_16 (by first | rfl | exact pv_shx) (by omega) (by omega) (by decide) (rfl) (by omega) (rp_s (show sp_fil (I 204) (I 203) 8020 0 = I 204 0 from rfl)) ?_
  exact g_iret dX12_back_17 rfl (⟨rfl, rfl, rfl, rfl, rfl⟩)
/-- four bytes on a tape -/
def sp_byt (v : Int32) (k : Nat) : Int32 := (v >>> (nI k &&& 31)) &&& nI 255
def sp_four (t : Nat → Int32) (tp : Nat) (v : Int32) : Nat → Int32 := upd (upd (upd (upd t tp (sp_byt v 24)) (tp + 1) (sp_byt v 16)) (tp + 2) (sp_byt v 8)) (tp + 3) (sp_byt v 0)
theorem pk_m8 {a : Nat} : nI (a + 8) + Int32.ofInt (-8) = nI a := by
  rw [← nI_add, show Int32.ofInt (-8) = -(nI 8) by decide, ← Int32.sub_eq_add_neg, Int32.add_sub_cancel]
theorem t_four {I : pvI} {J : pvJ} {P : pvP} (hP : pvOkP P) {tp : Nat} (ht : I 202 17 = nI tp) (ht1 : tp + 4 ≤ 300) {v : Int32} : pvMet mX12_four 0 0 0 [.ref 202, .int v] 224 I J P (pvq P (fun r I' J' => r = none ∧ I' = pvs (pvs I 202 (upd (I 202) 17 (nI (tp + 4)))) 217 (sp_four (I 217) tp v) ∧ J' = J)) := by
  have st : ∀ (k : Nat) (I1 : pvI) (t : Nat) (Z : pvZT) (f : Nat → Int32) (g : Nat → Int32), t + 1 ≤ 300 → k ≤ 24 → (∀ I2, I2 = pvs (pvs I 202 (upd (I 202) 17 (nI (t + 1)))) 217 (upd f t (sp_byt v k)) → pvG mX12_four (pvR 0 0 0) Z 33 [.ref 202, .int v, .int (nI k)] [] 0 0 224 I2 J P) → pvG mX12_four (pvR 0 0 0) Z 3 [.ref 202, .int v, .int (nI k)] [] 0 0 224 (pvs (pvs I 202 (upd (I 202) 17 (nI t))) 217 f) J P := by
    intro k I1 t Z f g ht hk kk
    refine g_iload_n dX12_four_3 rfl ?_
    refine n_if_lt 39 dX12_four_4 (by decide) (by first | ((with_reducible apply cN_lt0) <;> omega) | (with_reducible exact cI_lt0)) (fun c4 => by exfalso; first | omega | exact absurd trivial c4 | exact c4) (fun c4 => ?_)
    refine g_aload_n dX12_four_7 rfl ?_
    refine g_getP dX12_four_8 fdX12_54 rfl (by first | rfl | exact pv_shx) (by omega) (by omega) (by decide) rfl (hP _ _ _ rfl) ?_
    refine g_aload_n dX12_four_11 rfl ?_
    refine n_getI dX12_four_12 fdX12_178 rfl (by first | rfl | exact pv_shx) (by omega) (by omega) (by decide) rfl (by repeat (first | (apply rd_s; done) | apply rd_n (by omega) | apply rp_s | apply rp_n (by omega) | (apply rdL_s; done) | apply rdL_n (by omega) | apply rpJ_s | apply rpJ_n (by omega) | rfl)) ?_
    refine g_iload_n dX12_four_15 rfl ?_
    refine g_iload_n dX12_four_16 rfl ?_
    refine n_ishr dX12_four_17 (rfl) ?_
    refine g_sipush (v := nI 255) dX12_four_18 (by decide) ?_
    refine n_iand dX12_four_21 (rfl) ?_
    refine n_iast dX12_four_22 (by first | rfl | exact pv_shx) (by omega) (by omega) (by omega) (by decide) (rfl) (by omega) (by repeat (first | exact pvu_s | exact pvuJ_s | apply pvu_in (by omega) | apply pvuJ_in (by omega) | exact pvu_pvs | exact pvuJ_pvs)) ?_
    refine g_aload_n dX12_four_23 rfl ?_
    refine g_dup dX12_four_24 rfl ?_
    refine n_getI dX12_four_25 fdX12_178 rfl (by first | rfl | exact pv_shx) (by omega) (by omega) (by decide) rfl (by repeat (first | (apply rd_s; done) | apply rd_n (by omega) | apply rp_s | apply rp_n (by omega) | (apply rdL_s; done) | apply rdL_n (by omega) | apply rpJ_s | apply rpJ_n (by omega) | rfl)) ?_
    refine g_iconst (v := nI 1) dX12_four_28 (by decide) ?_
    refine n_iadd dX12_four_29 (by first | (with_reducible exact nI_add _ _) | rfl) ?_
    refine n_putI dX12_four_30 fdX12_178 rfl (fun h => absurd h (by decide)) (by first | rfl | exact pv_shx) (by omega) (by omega) (by decide) rfl (by first | exact (pvu_in (by decide) (pvu_s.trans rfl)) | rfl) ?_
    exact kk _ (by congr 2; funext z; by_cases h : z = 17 <;> simp [upd, h])
  have nx8 : ∀ (k : Nat) (Z : pvZT) (I1 : pvI), k ≤ 24 → pvG mX12_four (pvR 0 0 0) Z 3 [.ref 202, .int v, .int (nI k)] [] 0 0 224 I1 J P → pvG mX12_four (pvR 0 0 0) Z 33 [.ref 202, .int v, .int (nI (k + 8))] [] 0 0 224 I1 J P := by
    intro k Z I1 hk h3
    refine g_iinc dX12_four_33 rfl (pk_m8) (by decide) rfl ?_
    refine g_goto 3 dX12_four_36 (by decide) ?_
    exact h3
  have hI : I = pvs (pvs I 202 (upd (I 202) 17 (nI tp))) 217 (I 217) := by
    funext a
    by_cases h : a = 217
    · subst h; simp [pvs]
    · by_cases h2 : a = 202
      · subst h2
        simp only [pvs, if_neg h, if_pos]
        funext z
        by_cases h3 : z = 17
        · subst h3; simp [upd, ht]
        · simp [upd, h3]
      · simp [pvs, h, h2]
  refine pvMet.of _ (by decide) rfl (Nat.le_of_ble_eq_true rfl) ?_
  refine g_bipush (v := nI 24) dX12_four_0 (by decide) ?_
  refine g_istore_n dX12_four_2 (by decide) rfl ?_
  have h0 := st 24 I tp (pvZ (pvq P (fun r I' J' => r = none ∧ I' = pvs (pvs I 202 (upd (I 202) 17 (nI (tp + 4)))) 217 (sp_four (I 217) tp v) ∧ J' = J)) 0 0) (I 217) (I 217) (by omega) (by omega) (fun I2 e2 => by
    subst e2
    refine nx8 16 _ _ (by omega) (st 16 I (tp + 1) _ _ (I 217) (by omega) (by omega) (fun I2 e2 => ?_))
    subst e2
    refine nx8 8 _ _ (by omega) (st 8 I (tp + 2) _ _ (I 217) (by omega) (by omega) (fun I2 e2 => ?_))
    subst e2
    refine nx8 0 _ _ (by omega) (st 0 I (tp + 3) _ _ (I 217) (by omega) (by omega) (fun I2 e2 => ?_))
    subst e2
    refine g_iinc dX12_four_33 rfl (rfl) (by decide) rfl ?_
    refine g_goto 3 dX12_four_36 (by decide) ?_
    refine g_iload_n dX12_four_3 rfl ?_
    refine n_if_lt 39 dX12_four_4 (by decide) (cI_lt0.trans (by rw [show (nI 0 + Int32.ofInt (-8)).toInt = -8 by decide])) (fun c4 => ?_) (fun c4 => by exfalso; first | omega | exact absurd trivial c4 | exact c4)
    exact g_vret dX12_four_39 rfl (⟨rfl, rfl, rfl, rfl, rfl⟩))
  rw [← hI] at h0
  exact h0
