/-! model: which act, whose clause, people, names -/
def fdF (f : Nat → Bool) : Nat → Nat → Option Nat
  | 0, _ => none
  | q + 1, i => if f i = true then some i else fdF f q (i + 1)
theorem fdF_some {f : Nat → Bool} : ∀ {q i j : Nat}, fdF f q i = some j → i ≤ j ∧ j < i + q ∧ f j = true
  | 0, i, j, h => by cases h
  | q + 1, i, j, h => by
    have es : fdF f (q + 1) i = if f i = true then some i else fdF f q (i + 1) := rfl
    rw [es] at h
    split at h
    · cases h; rename_i hf; exact ⟨Nat.le_refl _, by omega, hf⟩
    · obtain ⟨g1, g2, g3⟩ := fdF_some h
      exact ⟨by omega, by omega, g3⟩
def fstC (cs : List pC) (s : Nat) : Option Nat := fdF (fun j => decide ((cs.getD j (0, 0, [])).1 = s)) cs.length 0
theorem fstC_some {cs : List pC} {s j : Nat} (h : fstC cs s = some j) : j < cs.length ∧ (cs.getD j (0, 0, [])).1 = s := by
  have := fdF_some h
  exact ⟨by omega, by simpa using this.2.2⟩
def clsI (t : Nat) (o : Option Nat) : Int32 := match o with
  | some j => nI (800 * t + 1 + 6 * j)
  | none => -1
def mActs (n : Nat) (cl : Nat → List pC) (I : pvI) : Prop := ∀ t, t < n → txA (I 205) (800 * t) (cl t) ∧ csOk (cl t)
def mForce (a : Nat → Int32) : Prop := ∀ f, f < cnt a 9 → (∃ t, t < cnt a 8 ∧ a (1500 + 3 * f) = nI t) ∧ (∃ m, m ≤ 99 ∧ a (1500 + 3 * f + 1) = nI m) ∧ (∃ m, m ≤ 99 ∧ a (1500 + 3 * f + 2) = nI m)
theorem t_clauseOf {t s : Nat} {cs : List pC} {I : pvI} {J : pvJ} {P : pvP} (hP : pvOkP P) (ht : t ≤ 9) (hs : s ≤ 3) (hx : txA (I 205) (800 * t) cs) : pvMet mX12_clauseOf 0 0 0 [.ref 202, .int (nI t), .int (nI (s + 1)), .int (nI 0)] 224 I J P (pvpu (.int (clsI t (fstC cs s))) 224 I J P) := by
  obtain ⟨h0, h1, h2, cd, h3, h4, h5⟩ := hx
  have lp : ∀ q i, i + q = cs.length → fdF (fun j => decide ((cs.getD j (0, 0, [])).1 = s)) q i = fstC cs s → pvG mX12_clauseOf (pvR 0 0 0) (pvZ (pvpu (.int (clsI t (fstC cs s))) 224 I J P) 0 0) 3 [.ref 202, .int (nI t), .int (nI (s + 1)), .int (nI 0), .int (nI i)] [] 0 0 224 I J P := by
    intro q
    induction q with
    | zero =>
      intro i hi he
      obtain rfl : i = cs.length := by omega
      have he : (none : Option Nat) = fstC cs s := he
      refine g_iload dX12_clauseOf_3 rfl ?_
      refine g_aload_n dX12_clauseOf_5 rfl ?_
      refine g_getP dX12_clauseOf_6 fdX12_16 rfl (by first | rfl | exact pv_shx) (by omega) (by omega) (by decide) rfl (hP _ _ _ rfl) ?_
      refine g_sipush (v := nI 800) dX12_clauseOf_9 (by decide) ?_
      refine g_iload_n dX12_clauseOf_12 rfl ?_
      refine n_imul dX12_clauseOf_13 (by first | (with_reducible exact pk_mul _ _) | rfl) ?_
      refine n_iald dX12_clauseOf_14 (by first | rfl | exact pv_shx) (by omega) (by omega) (by decide) (rfl) (by omega) (by repeat (first | exact h0 | (apply rd_s; done) | apply rd_n (by omega) | apply rp_s | apply rp_n (by omega) | (apply rdL_s; done) | apply rdL_n (by omega) | apply rpJ_s | apply rpJ_n (by omega) | rfl)) ?_
      refine n_icmp_ge 60 dX12_clauseOf_15 (by decide) (by first | ((with_reducible apply cN_le) <;> omega) | ((with_reducible apply cI_len) <;> omega) | ((with_reducible apply cI_nle) <;> omega) | (with_reducible exact cI_le)) (fun c15 => ?_) (fun c15 => by exfalso; first | omega | exact absurd trivial c15 | exact c15)
      refine g_iconst (v := (-1)) dX12_clauseOf_60 (by decide) ?_
      exact g_iret dX12_clauseOf_61 rfl (⟨by rw [← he]; rfl, rfl, rfl, rfl, rfl⟩)
    | succ q ih =>
      intro i hi he
      have hc := (h5 i (by omega)).1
      have hc3 := h2 (cs.getD i (0, 0, [])) (by rw [List.getD_eq_getElem?_getD, List.getElem?_eq_getElem (by omega)]; exact List.getElem_mem _)
      have es : fdF (fun j => decide ((cs.getD j (0, 0, [])).1 = s)) (q + 1) i = if decide ((cs.getD i (0, 0, [])).1 = s) = true then some i else fdF (fun j => decide ((cs.getD j (0, 0, [])).1 = s)) q (i + 1) := rfl
      rw [es] at he
      by_cases c : (cs.getD i (0, 0, [])).1 = s
      · rw [if_pos (decide_eq_true c)] at he
        refine g_iload dX12_clauseOf_3 rfl ?_
        refine g_aload_n dX12_clauseOf_5 rfl ?_
        refine g_getP dX12_clauseOf_6 fdX12_16 rfl (by first | rfl | exact pv_shx) (by omega) (by omega) (by decide) rfl (hP _ _ _ rfl) ?_
        refine g_sipush (v := nI 800) dX12_clauseOf_9 (by decide) ?_
        refine g_iload_n dX12_clauseOf_12 rfl ?_
        refine n_imul dX12_clauseOf_13 (by first | (with_reducible exact pk_mul _ _) | rfl) ?_
        refine n_iald dX12_clauseOf_14 (by first | rfl | exact pv_shx) (by omega) (by omega) (by decide) (rfl) (by omega) (by repeat (first | exact h0 | exact hc | (apply rd_s; done) | apply rd_n (by omega) | apply rp_s | apply rp_n (by omega) | (apply rdL_s; done) | apply rdL_n (by omega) | apply rpJ_s | apply rpJ_n (by omega) | rfl)) ?_
        refine n_icmp_ge 60 dX12_clauseOf_15 (by decide) (by first | ((with_reducible apply cN_le) <;> omega) | ((with_reducible apply cI_len) <;> omega) | ((with_reducible apply cI_nle) <;> omega) | (with_reducible exact cI_le)) (fun c15 => by exfalso; first | omega | exact absurd trivial c15 | exact c15) (fun c15 => ?_)
        refine g_aload_n dX12_clauseOf_18 rfl ?_
        refine g_getP dX12_clauseOf_19 fdX12_16 rfl (by first | rfl | exact pv_shx) (by omega) (by omega) (by decide) rfl (hP _ _ _ rfl) ?_
        refine g_sipush (v := nI 800) dX12_clauseOf_22 (by decide) ?_
        refine g_iload_n dX12_clauseOf_25 rfl ?_
        refine n_imul dX12_clauseOf_26 (by first | (with_reducible exact pk_mul _ _) | rfl) ?_
        refine g_iconst (v := nI 1) dX12_clauseOf_27 (by decide) ?_
        refine n_iadd dX12_clauseOf_28 (by first | (with_reducible exact nI_add _ _) | rfl) ?_
        refine g_bipush (v := nI 6) dX12_clauseOf_29 (by decide) ?_
        refine g_iload dX12_clauseOf_31 rfl ?_
        refine n_imul dX12_clauseOf_33 (by first | (with_reducible exact pk_mul _ _) | rfl) ?_
        refine n_iadd dX12_clauseOf_34 (by first | (with_reducible exact nI_add _ _) | rfl) ?_
        refine n_iald dX12_clauseOf_35 (by first | rfl | exact pv_shx) (by omega) (by omega) (by decide) (rfl) (by omega) (by repeat (first | exact h0 | exact hc | (apply rd_s; done) | apply rd_n (by omega) | apply rp_s | apply rp_n (by omega) | (apply rdL_s; done) | apply rdL_n (by omega) | apply rpJ_s | apply rpJ_n (by omega) | rfl)) ?_
        refine g_iload_n dX12_clauseOf_36 rfl ?_
        refine n_icmp_ne 54 dX12_clauseOf_37 (by decide) (by first | ((with_reducible apply cN_eq) <;> omega) | ((with_reducible apply cI_eqn) <;> omega) | exact Iff.rfl) (fun c37 => by exfalso; first | omega | exact absurd trivial c37 | exact c37) (fun c37 => ?_)
        refine g_sipush (v := nI 800) dX12_clauseOf_40 (by decide) ?_
        refine g_iload_n dX12_clauseOf_43 rfl ?_
        refine n_imul dX12_clauseOf_44 (by first | (with_reducible exact pk_mul _ _) | rfl) ?_
        refine g_iconst (v := nI 1) dX12_clauseOf_45 (by decide) ?_
        refine n_iadd dX12_clauseOf_46 (by first | (with_reducible exact nI_add _ _) | rfl) ?_
        refine g_bipush (v := nI 6) dX12_clauseOf_47 (by decide) ?_
        refine g_iload dX12_clauseOf_49 rfl ?_
        refine n_imul dX12_clauseOf_51 (by first | (with_reducible exact pk_mul _ _) | rfl) ?_
        refine n_iadd dX12_clauseOf_52 (by first | (with_reducible exact nI_add _ _) | rfl) ?_
        exact g_iret dX12_clauseOf_53 rfl (⟨by rw [← he]; rfl, rfl, rfl, rfl, rfl⟩)
      · rw [if_neg (by rw [decide_eq_true_iff]; exact c)] at he
        refine g_iload dX12_clauseOf_3 rfl ?_
        refine g_aload_n dX12_clauseOf_5 rfl ?_
        refine g_getP dX12_clauseOf_6 fdX12_16 rfl (by first | rfl | exact pv_shx) (by omega) (by omega) (by decide) rfl (hP _ _ _ rfl) ?_
        refine g_sipush (v := nI 800) dX12_clauseOf_9 (by decide) ?_
        refine g_iload_n dX12_clauseOf_12 rfl ?_
        refine n_imul dX12_clauseOf_13 (by first | (with_reducible exact pk_mul _ _) | rfl) ?_
        refine n_iald dX12_clauseOf_14 (by first | rfl | exact pv_shx) (by omega) (by omega) (by decide) (rfl) (by omega) (by repeat (first | exact h0 | exact hc | (apply rd_s; done) | apply rd_n (by omega) | apply rp_s | apply rp_n (by omega) | (apply rdL_s; done) | apply rdL_n (by omega) | apply rpJ_s | apply rpJ_n (by omega) | rfl)) ?_
        refine n_icmp_ge 60 dX12_clauseOf_15 (by decide) (by first | ((with_reducible apply cN_le) <;> omega) | ((with_reducible apply cI_len) <;> omega) | ((with_reducible apply cI_nle) <;> omega) | (with_reducible exact cI_le)) (fun c15 => by exfalso; first | omega | exact absurd trivial c15 | exact c15) (fun c15 => ?_)
        refine g_aload_n dX12_clauseOf_18 rfl ?_
        refine g_getP dX12_clauseOf_19 fdX12_16 rfl (by first | rfl | exact pv_shx) (by omega) (by omega) (by decide) rfl (hP _ _ _ rfl) ?_
        refine g_sipush (v := nI 800) dX12_clauseOf_22 (by decide) ?_
        refine g_iload_n dX12_clauseOf_25 rfl ?_
        refine n_imul dX12_clauseOf_26 (by first | (with_reducible exact pk_mul _ _) | rfl) ?_
        refine g_iconst (v := nI 1) dX12_clauseOf_27 (by decide) ?_
        refine n_iadd dX12_clauseOf_28 (by first | (with_reducible exact nI_add _ _) | rfl) ?_
        refine g_bipush (v := nI 6) dX12_clauseOf_29 (by decide) ?_
        refine g_iload dX12_clauseOf_31 rfl ?_
        refine n_imul dX12_clauseOf_33 (by first | (with_reducible exact pk_mul _ _) | rfl) ?_
        refine n_iadd dX12_clauseOf_34 (by first | (with_reducible exact nI_add _ _) | rfl) ?_
        refine n_iald dX12_clauseOf_35 (by first | rfl | exact pv_shx) (by omega) (by omega) (by decide) (rfl) (by omega) (by repeat (first | exact h0 | exact hc | (apply rd_s; done) | apply rd_n (by omega) | apply rp_s | apply rp_n (by omega) | (apply rdL_s; done) | apply rdL_n (by omega) | apply rpJ_s | apply rpJ_n (by omega) | rfl)) ?_
        refine g_iload_n dX12_clauseOf_36 rfl ?_
        refine n_icmp_ne 54 dX12_clauseOf_37 (by decide) (by first | ((with_reducible apply cN_eq) <;> omega) | ((with_reducible apply cI_eqn) <;> omega) | exact Iff.rfl) (fun c37 => ?_) (fun c37 => by exfalso; first | omega | exact absurd trivial c37 | exact c37)
        refine g_iinc dX12_clauseOf_54 rfl (by first | (with_reducible exact nI_1 _) | exact nI_1 _ | exact pk_m1 _ | rfl) (by decide) rfl ?_
        refine g_goto 3 dX12_clauseOf_57 (by decide) ?_
        exact ih (i + 1) (by omega) he
  refine pvMet.of _ (by decide) rfl (Nat.le_of_ble_eq_true rfl) ?_
  refine g_iload_n dX12_clauseOf_0 rfl ?_
  refine g_istore dX12_clauseOf_1 (by decide) rfl ?_
  exact lp cs.length 0 (by omega) rfl
/-- the act for a sort in a week -/
def afN (a : Nat → Int32) (cl : Nat → List pC) (s m : Nat) : Nat → Option Nat
  | 0 => none
  | f + 1 => if (cnt a (1500 + 3 * f + 1) ≤ m ∧ m ≤ cnt a (1500 + 3 * f + 2)) ∧ fstC (cl (cnt a (1500 + 3 * f))) s ≠ none then some (cnt a (1500 + 3 * f)) else afN a cl s m f
theorem afN_some {a : Nat → Int32} {cl : Nat → List pC} {s m : Nat} (hf : mForce a) (h8 : cnt a 8 ≤ 10) : ∀ {f t : Nat}, f ≤ cnt a 9 → afN a cl s m f = some t → t < cnt a 8 ∧ fstC (cl t) s ≠ none
  | 0, t, _, h => by cases h
  | f + 1, t, h1, h => by
    have es : afN a cl s m (f + 1) = if (cnt a (1500 + 3 * f + 1) ≤ m ∧ m ≤ cnt a (1500 + 3 * f + 2)) ∧ fstC (cl (cnt a (1500 + 3 * f))) s ≠ none then some (cnt a (1500 + 3 * f)) else afN a cl s m f := rfl
    rw [es] at h
    split at h
    · rename_i hh
      cases h
      obtain ⟨⟨t, t1, t2⟩, -, -⟩ := hf f (by omega)
      rw [cnt_of t2 (by omega)] at hh ⊢
      exact ⟨t1, hh.2⟩
    · exact afN_some hf h8 (by omega) h
theorem nI_m1' (q : Nat) : nI q + Int32.ofInt (-1) = nI q - nI 1 := by rw [Int32.sub_eq_add_neg]; rfl
theorem t_actFor {s m : Nat} {a : Nat → Int32} {cl : Nat → List pC} {I : pvI} {J : pvJ} {P : pvP} (hP : pvOkP P) (ha : I 203 = a) (hg : mG a) (hf : mForce a) (hx : mActs (cnt a 8) cl I) (hs : s ≤ 3) (hm : m ≤ 99) : pvMet mX12_actFor 1 0 0 [.ref 202, .int (nI (s + 1)), .int (nI m)] 224 I J P (pvpu (.int (stv (afN a cl s m (cnt a 9)))) 224 I J P) := by
  subst ha
  obtain ⟨na, na_b, na_h⟩ := hg 8 (by decide)
  replace na_b : na ≤ 10 := na_b
  have na_e : cnt (I 203) 8 = na := cnt_of na_h (by omega)
  obtain ⟨nf, nf_b, nf_h⟩ := hg 9 (by decide)
  replace nf_b : nf ≤ 30 := nf_b
  have nf_e : cnt (I 203) 9 = nf := cnt_of nf_h (by omega)
  have lp : ∀ q, q ≤ nf → afN (I 203) cl s m q = afN (I 203) cl s m nf → pvG mX12_actFor (pvR 1 0 0) (pvZ (pvpu (.int (stv (afN (I 203) cl s m nf))) 224 I J P) 0 0) 10 [.ref 202, .int (nI (s + 1)), .int (nI m), .int (nI q - nI 1), .retAddr 0] [] 0 0 224 I J P := by
    intro q
    induction q with
    | zero =>
      intro _ he
      have he : (none : Option Nat) = afN (I 203) cl s m nf := he
      refine g_iload_n dX12_actFor_10 rfl ?_
      refine n_if_lt 78 dX12_actFor_11 (by decide) (cI_lt0.trans (by rw [show (nI 0 - nI 1).toInt = -1 by decide])) (fun c11 => ?_) (fun c11 => by exfalso; first | omega | exact absurd trivial c11 | exact c11)
      refine g_iconst (v := (-1)) dX12_actFor_78 (by decide) ?_
      exact g_iret dX12_actFor_79 rfl (⟨by rw [← he]; rfl, rfl, rfl, rfl, rfl⟩)
    | succ q ih =>
      intro hq he
      obtain ⟨⟨t, t1, t2⟩, ⟨m1, m11, m12⟩, ⟨m2, m21, m22⟩⟩ := hf q (by omega)
      have es : afN (I 203) cl s m (q + 1) = if (cnt (I 203) (1500 + 3 * q + 1) ≤ m ∧ m ≤ cnt (I 203) (1500 + 3 * q + 2)) ∧ fstC (cl (cnt (I 203) (1500 + 3 * q))) s ≠ none then some (cnt (I 203) (1500 + 3 * q)) else afN (I 203) cl s m q := rfl
      rw [es, cnt_of t2 (by omega), cnt_of m12 (by omega), cnt_of m22 (by omega)] at he
      have co := t_clauseOf (J := J) hP (by omega : t ≤ 9) hs (hx t t1).1
      rw [nI_p1]
      by_cases c1 : m1 ≤ m ∧ m ≤ m2
      · cases hfs : fstC (cl t) s with
        | none =>
          rw [hfs] at co
          rw [if_neg (fun z => z.2 hfs)] at he
          refine g_iload_n dX12_actFor_10 rfl ?_
          refine n_if_lt 78 dX12_actFor_11 (by decide) (by first | ((with_reducible apply cN_lt0) <;> omega) | (with_reducible exact cI_lt0)) (fun c11 => by exfalso; first | omega | exact absurd trivial c11 | exact c11) (fun c11 => ?_)
          refine g_sipush (v := nI 1500) dX12_actFor_14 (by decide) ?_
          refine g_iconst (v := nI 3) dX12_actFor_17 (by decide) ?_
          refine g_iload_n dX12_actFor_18 rfl ?_
          refine n_imul dX12_actFor_19 (by first | (with_reducible exact pk_mul _ _) | rfl) ?_
          refine n_iadd dX12_actFor_20 (by first | (with_reducible exact nI_add _ _) | rfl) ?_
          refine g_istore dX12_actFor_21 (by decide) rfl ?_
          refine g_iload_n dX12_actFor_23 rfl ?_
          refine g_aload_n dX12_actFor_24 rfl ?_
          refine g_getP dX12_actFor_25 fdX12_7 rfl (by first | rfl | exact pv_shx) (by omega) (by omega) (by decide) rfl (hP _ _ _ rfl) ?_
          refine g_iload dX12_actFor_28 rfl ?_
          refine g_iconst (v := nI 1) dX12_actFor_30 (by decide) ?_
          refine n_iadd dX12_actFor_31 (by first | (with_reducible exact nI_add _ _) | rfl) ?_
          refine n_iald dX12_actFor_32 (by first | rfl | exact pv_shx) (by omega) (by omega) (by decide) (rfl) (by omega) (by repeat (first | exact t2 | exact m12 | exact m22 | (apply rd_s; done) | apply rd_n (by omega) | apply rp_s | apply rp_n (by omega) | (apply rdL_s; done) | apply rdL_n (by omega) | apply rpJ_s | apply rpJ_n (by omega) | rfl)) ?_
          refine g_aload_n dX12_actFor_33 rfl ?_
          refine g_getP dX12_actFor_34 fdX12_7 rfl (by first | rfl | exact pv_shx) (by omega) (by omega) (by decide) rfl (hP _ _ _ rfl) ?_
          refine g_iload dX12_actFor_37 rfl ?_
          refine g_iconst (v := nI 2) dX12_actFor_39 (by decide) ?_
          refine n_iadd dX12_actFor_40 (by first | (with_reducible exact nI_add _ _) | rfl) ?_
          refine n_iald dX12_actFor_41 (by first | rfl | exact pv_shx) (by omega) (by omega) (by decide) (rfl) (by omega) (by repeat (first | exact t2 | exact m12 | exact m22 | (apply rd_s; done) | apply rd_n (by omega) | apply rp_s | apply rp_n (by omega) | (apply rdL_s; done) | apply rdL_n (by omega) | apply rpJ_s | apply rpJ_n (by omega) | rfl)) ?_
          refine p_callS (t_isIn (L := m1) (H := m2) (nI_toInt (by omega)) (nI_toInt (by omega))) okX12_isIn lkX12_96 rfl dX12_actFor_42 rfl (Nat.le_of_ble_eq_true rfl) (⟨by decide, by decide, by decide, by decide⟩) ?_
          rw [nI_toInt (by omega : m < 2 ^ 31)]
          refine n_if_eq 72 dX12_actFor_45 (by decide) (by first | (with_reducible exact cB _) | ((with_reducible apply cN_eq0) <;> omega) | exact Iff.rfl) (fun c45 => by exfalso; first | omega | exact absurd trivial c45 | exact c45) (fun c45 => ?_)
          refine g_aload_n dX12_actFor_48 rfl ?_
          refine g_aload_n dX12_actFor_49 rfl ?_
          refine g_getP dX12_actFor_50 fdX12_7 rfl (by first | rfl | exact pv_shx) (by omega) (by omega) (by decide) rfl (hP _ _ _ rfl) ?_
          refine g_iload dX12_actFor_53 rfl ?_
          refine n_iald dX12_actFor_55 (by first | rfl | exact pv_shx) (by omega) (by omega) (by decide) (rfl) (by omega) (by repeat (first | exact t2 | exact m12 | exact m22 | (apply rd_s; done) | apply rd_n (by omega) | apply rp_s | apply rp_n (by omega) | (apply rdL_s; done) | apply rdL_n (by omega) | apply rpJ_s | apply rpJ_n (by omega) | rfl)) ?_
          refine g_iload_n dX12_actFor_56 rfl ?_
          refine g_iconst (v := nI 0) dX12_actFor_57 (by decide) ?_
          refine p_callV (co) okX12_clauseOf lkX12_314 rfl (by first | rfl | exact pv_shx) rfl (by omega) (by omega) dX12_actFor_58 rfl (Nat.le_of_ble_eq_true rfl) (⟨by decide, by decide, by decide, by decide⟩) ?_
          refine n_if_lt 72 dX12_actFor_61 (by decide) (cI_lt0.trans (by rw [show (clsI t none).toInt = -1 from rfl])) (fun c61 => ?_) (fun c61 => by exfalso; first | omega | exact absurd trivial c61 | exact c61)
          refine g_iinc dX12_actFor_72 rfl (nI_m1' q) (by decide) rfl ?_
          refine g_goto 10 dX12_actFor_75 (by decide) ?_
          exact g_drop _ (by repeat (first | exact trivial | refine ⟨Or.inr ⟨_, rfl⟩, ?_⟩ | refine ⟨Or.inl rfl, ?_⟩)) (ih (by omega) he)
        | some j =>
          rw [hfs] at co
          have hj := fstC_some hfs
          have hj20 := (hx t t1).1.2.1
          rw [if_pos ⟨c1, by rw [hfs]; simp⟩] at he
          have co' : pvMet mX12_clauseOf 0 0 0 [.ref 202, .int (nI t), .int (nI (s + 1)), .int (nI 0)] 224 I J P (pvpu (.int (nI (800 * t + 1 + 6 * j))) 224 I J P) := co
          refine g_iload_n dX12_actFor_10 rfl ?_
          refine n_if_lt 78 dX12_actFor_11 (by decide) (by first | ((with_reducible apply cN_lt0) <;> omega) | (with_reducible exact cI_lt0)) (fun c11 => by exfalso; first | omega | exact absurd trivial c11 | exact c11) (fun c11 => ?_)
          refine g_sipush (v := nI 1500) dX12_actFor_14 (by decide) ?_
          refine g_iconst (v := nI 3) dX12_actFor_17 (by decide) ?_
          refine g_iload_n dX12_actFor_18 rfl ?_
          refine n_imul dX12_actFor_19 (by first | (with_reducible exact pk_mul _ _) | rfl) ?_
          refine n_iadd dX12_actFor_20 (by first | (with_reducible exact nI_add _ _) | rfl) ?_
          refine g_istore dX12_actFor_21 (by decide) rfl ?_
          refine g_iload_n dX12_actFor_23 rfl ?_
          refine g_aload_n dX12_actFor_24 rfl ?_
          refine g_getP dX12_actFor_25 fdX12_7 rfl (by first | rfl | exact pv_shx) (by omega) (by omega) (by decide) rfl (hP _ _ _ rfl) ?_
          refine g_iload dX12_actFor_28 rfl ?_
          refine g_iconst (v := nI 1) dX12_actFor_30 (by decide) ?_
          refine n_iadd dX12_actFor_31 (by first | (with_reducible exact nI_add _ _) | rfl) ?_
          refine n_iald dX12_actFor_32 (by first | rfl | exact pv_shx) (by omega) (by omega) (by decide) (rfl) (by omega) (by repeat (first | exact t2 | exact m12 | exact m22 | (apply rd_s; done) | apply rd_n (by omega) | apply rp_s | apply rp_n (by omega) | (apply rdL_s; done) | apply rdL_n (by omega) | apply rpJ_s | apply rpJ_n (by omega) | rfl)) ?_
          refine g_aload_n dX12_actFor_33 rfl ?_
          refine g_getP dX12_actFor_34 fdX12_7 rfl (by first | rfl | exact pv_shx) (by omega) (by omega) (by decide) rfl (hP _ _ _ rfl) ?_
          refine g_iload dX12_actFor_37 rfl ?_
          refine g_iconst (v := nI 2) dX12_actFor_39 (by decide) ?_
          refine n_iadd dX12_actFor_40 (by first | (with_reducible exact nI_add _ _) | rfl) ?_
          refine n_iald dX12_actFor_41 (by first | rfl | exact pv_shx) (by omega) (by omega) (by decide) (rfl) (by omega) (by repeat (first | exact t2 | exact m12 | exact m22 | (apply rd_s; done) | apply rd_n (by omega) | apply rp_s | apply rp_n (by omega) | (apply rdL_s; done) | apply rdL_n (by omega) | apply rpJ_s | apply rpJ_n (by omega) | rfl)) ?_
          refine p_callS (t_isIn (L := m1) (H := m2) (nI_toInt (by omega)) (nI_toInt (by omega))) okX12_isIn lkX12_96 rfl dX12_actFor_42 rfl (Nat.le_of_ble_eq_true rfl) (⟨by decide, by decide, by decide, by decide⟩) ?_
          rw [nI_toInt (by omega : m < 2 ^ 31)]
          refine n_if_eq 72 dX12_actFor_45 (by decide) (by first | (with_reducible exact cB _) | ((with_reducible apply cN_eq0) <;> omega) | exact Iff.rfl) (fun c45 => by exfalso; first | omega | exact absurd trivial c45 | exact c45) (fun c45 => ?_)
          refine g_aload_n dX12_actFor_48 rfl ?_
          refine g_aload_n dX12_actFor_49 rfl ?_
          refine g_getP dX12_actFor_50 fdX12_7 rfl (by first | rfl | exact pv_shx) (by omega) (by omega) (by decide) rfl (hP _ _ _ rfl) ?_
          refine g_iload dX12_actFor_53 rfl ?_
          refine n_iald dX12_actFor_55 (by first | rfl | exact pv_shx) (by omega) (by omega) (by decide) (rfl) (by omega) (by repeat (first | exact t2 | exact m12 | exact m22 | (apply rd_s; done) | apply rd_n (by omega) | apply rp_s | apply rp_n (by omega) | (apply rdL_s; done) | apply rdL_n (by omega) | apply rpJ_s | apply rpJ_n (by omega) | rfl)) ?_
          refine g_iload_n dX12_actFor_56 rfl ?_
          refine g_iconst (v := nI 0) dX12_actFor_57 (by decide) ?_
          refine p_callV (co') okX12_clauseOf lkX12_314 rfl (by first | rfl | exact pv_shx) rfl (by omega) (by omega) dX12_actFor_58 rfl (Nat.le_of_ble_eq_true rfl) (⟨by decide, by decide, by decide, by decide⟩) ?_
          refine n_if_lt 72 dX12_actFor_61 (by decide) (by first | ((with_reducible apply cN_lt0) <;> omega) | (with_reducible exact cI_lt0)) (fun c61 => by exfalso; first | omega | exact absurd trivial c61 | exact c61) (fun c61 => ?_)
          refine g_aload_n dX12_actFor_64 rfl ?_
          refine g_getP dX12_actFor_65 fdX12_7 rfl (by first | rfl | exact pv_shx) (by omega) (by omega) (by decide) rfl (hP _ _ _ rfl) ?_
          refine g_iload dX12_actFor_68 rfl ?_
          refine n_iald dX12_actFor_70 (by first | rfl | exact pv_shx) (by omega) (by omega) (by decide) (rfl) (by omega) (by repeat (first | exact t2 | exact m12 | exact m22 | (apply rd_s; done) | apply rd_n (by omega) | apply rp_s | apply rp_n (by omega) | (apply rdL_s; done) | apply rdL_n (by omega) | apply rpJ_s | apply rpJ_n (by omega) | rfl)) ?_
          exact g_iret dX12_actFor_71 rfl (⟨by rw [← he]; rfl, rfl, rfl, rfl, rfl⟩)
      · rw [if_neg (fun z => c1 z.1)] at he
        refine g_iload_n dX12_actFor_10 rfl ?_
        refine n_if_lt 78 dX12_actFor_11 (by decide) (by first | ((with_reducible apply cN_lt0) <;> omega) | (with_reducible exact cI_lt0)) (fun c11 => by exfalso; first | omega | exact absurd trivial c11 | exact c11) (fun c11 => ?_)
        refine g_sipush (v := nI 1500) dX12_actFor_14 (by decide) ?_
        refine g_iconst (v := nI 3) dX12_actFor_17 (by decide) ?_
        refine g_iload_n dX12_actFor_18 rfl ?_
        refine n_imul dX12_actFor_19 (by first | (with_reducible exact pk_mul _ _) | rfl) ?_
        refine n_iadd dX12_actFor_20 (by first | (with_reducible exact nI_add _ _) | rfl) ?_
        refine g_istore dX12_actFor_21 (by decide) rfl ?_
        refine g_iload_n dX12_actFor_23 rfl ?_
        refine g_aload_n dX12_actFor_24 rfl ?_
        refine g_getP dX12_actFor_25 fdX12_7 rfl (by first | rfl | exact pv_shx) (by omega) (by omega) (by decide) rfl (hP _ _ _ rfl) ?_
        refine g_iload dX12_actFor_28 rfl ?_
        refine g_iconst (v := nI 1) dX12_actFor_30 (by decide) ?_
        refine n_iadd dX12_actFor_31 (by first | (with_reducible exact nI_add _ _) | rfl) ?_
        refine n_iald dX12_actFor_32 (by first | rfl | exact pv_shx) (by omega) (by omega) (by decide) (rfl) (by omega) (by repeat (first | exact t2 | exact m12 | exact m22 | (apply rd_s; done) | apply rd_n (by omega) | apply rp_s | apply rp_n (by omega) | (apply rdL_s; done) | apply rdL_n (by omega) | apply rpJ_s | apply rpJ_n (by omega) | rfl)) ?_
        refine g_aload_n dX12_actFor_33 rfl ?_
        refine g_getP dX12_actFor_34 fdX12_7 rfl (by first | rfl | exact pv_shx) (by omega) (by omega) (by decide) rfl (hP _ _ _ rfl) ?_
        refine g_iload dX12_actFor_37 rfl ?_
        refine g_iconst (v := nI 2) dX12_actFor_39 (by decide) ?_
        refine n_iadd dX12_actFor_40 (by first | (with_reducible exact nI_add _ _) | rfl) ?_
        refine n_iald dX12_actFor_41 (by first | rfl | exact pv_shx) (by omega) (by omega) (by decide) (rfl) (by omega) (by repeat (first | exact t2 | exact m12 | exact m22 | (apply rd_s; done) | apply rd_n (by omega) | apply rp_s | apply rp_n (by omega) | (apply rdL_s; done) | apply rdL_n (by omega) | apply rpJ_s | apply rpJ_n (by omega) | rfl)) ?_
        refine p_callS (t_isIn (L := m1) (H := m2) (nI_toInt (by omega)) (nI_toInt (by omega))) okX12_isIn lkX12_96 rfl dX12_actFor_42 rfl (Nat.le_of_ble_eq_true rfl) (⟨by decide, by decide, by decide, by decide⟩) ?_
        rw [nI_toInt (by omega : m < 2 ^ 31)]
        refine n_if_eq 72 dX12_actFor_45 (by decide) (by first | (with_reducible exact cB _) | ((with_reducible apply cN_eq0) <;> omega) | exact Iff.rfl) (fun c45 => ?_) (fun c45 => by exfalso; first | omega | exact absurd trivial c45 | exact c45)
        refine g_iinc dX12_actFor_72 rfl (nI_m1' q) (by decide) rfl ?_
        refine g_goto 10 dX12_actFor_75 (by decide) ?_
        exact g_drop _ (by repeat (first | exact trivial | refine ⟨Or.inr ⟨_, rfl⟩, ?_⟩ | refine ⟨Or.inl rfl, ?_⟩)) (ih (by omega) he)
  rw [nf_e]
  refine pvMet.of _ (by decide) rfl (Nat.le_of_ble_eq_true rfl) ?_
  refine g_aload_n dX12_actFor_0 rfl ?_
  refine g_getP dX12_actFor_1 fdX12_7 rfl (by first | rfl | exact pv_shx) (by omega) (by omega) (by decide) rfl (hP _ _ _ rfl) ?_
  refine g_bipush (v := nI 9) dX12_actFor_4 (by decide) ?_
  refine n_iald dX12_actFor_6 (by first | rfl | exact pv_shx) (by omega) (by omega) (by decide) (rfl) (by omega) (by repeat (first | exact nf_h | (apply rd_s; done) | apply rd_n (by omega) | apply rp_s | apply rp_n (by omega) | (apply rdL_s; done) | apply rdL_n (by omega) | apply rpJ_s | apply rpJ_n (by omega) | rfl)) ?_
  refine g_iconst (v := nI 1) dX12_actFor_7 (by decide) ?_
  refine n_isub dX12_actFor_8 (rfl) ?_
  refine g_istore_n dX12_actFor_9 (by decide) rfl ?_
  exact lp nf (Nat.le_refl _) rfl
/-- the first clause of a sort of the act for it -/
def cfN (a : Nat → Int32) (cl : Nat → List pC) (s m : Nat) : Option (Nat × Nat) := (afN a cl s m (cnt a 9)).bind (fun t => (fstC (cl t) s).map (fun j => (t, j)))
def cfI (o : Option (Nat × Nat)) : Int32 := match o with
  | some p => nI (800 * p.1 + 1 + 6 * p.2)
  | none => -1
theorem cfN_some {a : Nat → Int32} {cl : Nat → List pC} {s m : Nat} {p : Nat × Nat} (hf : mForce a) (h8 : cnt a 8 ≤ 10) (h : cfN a cl s m = some p) : p.1 < cnt a 8 ∧ p.2 < (cl p.1).length ∧ ((cl p.1).getD p.2 (0, 0, [])).1 = s := by
  unfold cfN at h
  obtain ⟨t, h1, h2⟩ := Option.bind_eq_some_iff.mp h
  obtain ⟨j, h3, h4⟩ := Option.map_eq_some_iff.mp h2
  subst h4
  exact ⟨(afN_some hf h8 (Nat.le_refl _) h1).1, fstC_some h3⟩
theorem t_clauseFor {s m : Nat} {a : Nat → Int32} {cl : Nat → List pC} {I : pvI} {J : pvJ} {P : pvP} (hP : pvOkP P) (ha : I 203 = a) (hg : mG a) (hf : mForce a) (hx : mActs (cnt a 8) cl I) (hs : s ≤ 3) (hm : m ≤ 99) : pvMet mX12_clauseFor 2 0 0 [.ref 202, .int (nI (s + 1)), .int (nI m)] 224 I J P (pvpu (.int (cfI (cfN a cl s m))) 224 I J P) := by
  have af := t_actFor (J := J) hP ha hg hf hx hs hm
  have h8 : cnt a 8 ≤ 10 := by
    obtain ⟨v, v1, v2⟩ := hg 8 (by decide)
    replace v1 : v ≤ 10 := v1
    rw [cnt_of v2 (by omega)]; exact v1
  unfold cfN
  cases hz : afN a cl s m (cnt a 9) with
  | none =>
    rw [hz] at af
    refine pvMet.of _ (by decide) rfl (Nat.le_of_ble_eq_true rfl) ?_
    refine g_aload_n dX12_clauseFor_0 rfl ?_
    refine g_iload_n dX12_clauseFor_1 rfl ?_
    refine g_iload_n dX12_clauseFor_2 rfl ?_
    refine p_callV (af) okX12_actFor lkX12_317 rfl (by first | rfl | exact pv_shx) rfl (by omega) (by omega) dX12_clauseFor_3 rfl (Nat.le_of_ble_eq_true rfl) (⟨by decide, by decide, by decide, by decide⟩) ?_
    refine g_istore_n dX12_clauseFor_6 (by decide) rfl ?_
    refine g_iload_n dX12_clauseFor_7 rfl ?_
    refine n_if_ge 15 dX12_clauseFor_8 (by decide) (cI_ge0.trans (by rw [show (stv none).toInt = -1 from rfl])) (fun c8 => by exfalso; first | omega | exact absurd trivial c8 | exact c8) (fun c8 => ?_)
    refine g_iconst (v := (-1)) dX12_clauseFor_11 (by decide) ?_
    refine g_goto 22 dX12_clauseFor_12 (by decide) ?_
    exact g_iret dX12_clauseFor_22 rfl (⟨rfl, rfl, rfl, rfl, rfl⟩)
  | some t =>
    rw [hz] at af
    have h1 := afN_some hf h8 (Nat.le_refl _) hz
    have co := t_clauseOf (J := J) hP (by omega : t ≤ 9) hs (hx t h1.1).1
    have af' : pvMet mX12_actFor 1 0 0 [.ref 202, .int (nI (s + 1)), .int (nI m)] 224 I J P (pvpu (.int (nI t)) 224 I J P) := af
    refine pvMet.of _ (by decide) rfl (Nat.le_of_ble_eq_true rfl) ?_
    refine g_aload_n dX12_clauseFor_0 rfl ?_
    refine g_iload_n dX12_clauseFor_1 rfl ?_
    refine g_iload_n dX12_clauseFor_2 rfl ?_
    refine p_callV (af') okX12_actFor lkX12_317 rfl (by first | rfl | exact pv_shx) rfl (by omega) (by omega) dX12_clauseFor_3 rfl (Nat.le_of_ble_eq_true rfl) (⟨by decide, by decide, by decide, by decide⟩) ?_
    refine g_istore_n dX12_clauseFor_6 (by decide) rfl ?_
    refine g_iload_n dX12_clauseFor_7 rfl ?_
    refine n_if_ge 15 dX12_clauseFor_8 (by decide) (by first | ((with_reducible apply cN_ge0) <;> omega) | (with_reducible exact cI_ge0)) (fun c8 => ?_) (fun c8 => by exfalso; first | omega | exact absurd trivial c8 | exact c8)
    refine g_aload_n dX12_clauseFor_15 rfl ?_
    refine g_iload_n dX12_clauseFor_16 rfl ?_
    refine g_iload_n dX12_clauseFor_17 rfl ?_
    refine g_iconst (v := nI 0) dX12_clauseFor_18 (by decide) ?_
    refine p_callV (co) okX12_clauseOf lkX12_314 rfl (by first | rfl | exact pv_shx) rfl (by omega) (by omega) dX12_clauseFor_19 rfl (Nat.le_of_ble_eq_true rfl) (⟨by decide, by decide, by decide, by decide⟩) ?_
    exact g_iret dX12_clauseFor_22 rfl (⟨by show _ = some (Value.int (cfI (Option.map (fun j => (t, j)) (fstC (cl t) s)))); cases fstC (cl t) s <;> rfl, rfl, rfl, rfl, rfl⟩)
abbrev poP (a : Nat → Int32) (hv : Int32) (p : Nat) : Prop := (hv = -1 ∨ a (1200 + 5 * p) = hv) ∧ (a (1200 + 5 * p + 4)).toInt < 0
theorem t_peopleOf {I : pvI} {J : pvJ} {P : pvP} (hP : pvOkP P) {np : Nat} (hnp : I 203 6 = nI np) (hn1 : np ≤ 60) {k : Int32} : pvMet mX12_peopleOf 0 0 0 [.ref 202, .int k] 224 I J P (pvpu (.int (nI (sp_ct (poP (I 203) k) np))) 224 I J P) := by
  have lp : ∀ q i, i + q = np → pvG mX12_peopleOf (pvR 0 0 0) (pvZ (pvpu (.int (nI (sp_ct (poP (I 203) k) np))) 224 I J P) 0 0) 4 [.ref 202, .int k, .int (nI (sp_ct (poP (I 203) k) i)), .int (nI i)] [] 0 0 224 I J P := by
    intro q
    induction q with
    | zero =>
      intro i hi
      obtain rfl : i = np := by omega
      refine g_iload_n dX12_peopleOf_4 rfl ?_
      refine g_aload_n dX12_peopleOf_5 rfl ?_
      refine g_getP dX12_peopleOf_6 fdX12_7 rfl (by first | rfl | exact pv_shx) (by omega) (by omega) (by decide) rfl (hP _ _ _ rfl) ?_
      refine g_bipush (v := nI 6) dX12_peopleOf_9 (by decide) ?_
      refine n_iald dX12_peopleOf_11 (by first | rfl | exact pv_shx) (by omega) (by omega) (by decide) (rfl) (by omega) (by repeat (first | exact hnp | (apply rd_s; done) | apply rd_n (by omega) | apply rp_s | apply rp_n (by omega) | (apply rdL_s; done) | apply rdL_n (by omega) | apply rpJ_s | apply rpJ_n (by omega) | rfl)) ?_
      refine n_icmp_ge 67 dX12_peopleOf_12 (by decide) (by first | ((with_reducible apply cN_le) <;> omega) | ((with_reducible apply cI_len) <;> omega) | ((with_reducible apply cI_nle) <;> omega) | (with_reducible exact cI_le)) (fun c12 => ?_) (fun c12 => by exfalso; first | omega | exact absurd trivial c12 | exact c12)
      refine g_iload_n dX12_peopleOf_67 rfl ?_
      exact g_iret dX12_peopleOf_68 rfl (⟨rfl, rfl, rfl, rfl, rfl⟩)
    | succ q ih =>
      intro i hi
      have e1 : sp_ct (poP (I 203) k) (i + 1) = sp_ct (poP (I 203) k) i + if poP (I 203) k i then 1 else 0 := rfl
      have hle := sp_ct_le (p := poP (I 203) k) i
      refine g_iload_n dX12_peopleOf_4 rfl ?_
      refine g_aload_n dX12_peopleOf_5 rfl ?_
      refine g_getP dX12_peopleOf_6 fdX12_7 rfl (by first | rfl | exact pv_shx) (by omega) (by omega) (by decide) rfl (hP _ _ _ rfl) ?_
      refine g_bipush (v := nI 6) dX12_peopleOf_9 (by decide) ?_
      refine n_iald dX12_peopleOf_11 (by first | rfl | exact pv_shx) (by omega) (by omega) (by decide) (rfl) (by omega) (by repeat (first | exact hnp | (apply rd_s; done) | apply rd_n (by omega) | apply rp_s | apply rp_n (by omega) | (apply rdL_s; done) | apply rdL_n (by omega) | apply rpJ_s | apply rpJ_n (by omega) | rfl)) ?_
      refine n_icmp_ge 67 dX12_peopleOf_12 (by decide) (by first | ((with_reducible apply cN_le) <;> omega) | ((with_reducible apply cI_len) <;> omega) | ((with_reducible apply cI_nle) <;> omega) | (with_reducible exact cI_le)) (fun c12 => by exfalso; first | omega | exact absurd trivial c12 | exact c12) (fun c12 => ?_)
      refine g_iload_n dX12_peopleOf_15 rfl ?_
      refine g_iload_n dX12_peopleOf_16 rfl ?_
      refine g_iconst (v := (-1)) dX12_peopleOf_17 (by decide) ?_
      refine n_icmp_eq 37 dX12_peopleOf_18 (by decide) (Iff.rfl) (fun c18 => ?_) (fun c18 => ?_)
      · skip
        refine g_aload_n dX12_peopleOf_37 rfl ?_
        refine g_getP dX12_peopleOf_38 fdX12_7 rfl (by first | rfl | exact pv_shx) (by omega) (by omega) (by decide) rfl (hP _ _ _ rfl) ?_
        refine g_sipush (v := nI 1200) dX12_peopleOf_41 (by decide) ?_
        refine g_iconst (v := nI 5) dX12_peopleOf_44 (by decide) ?_
        refine g_iload_n dX12_peopleOf_45 rfl ?_
        refine n_imul dX12_peopleOf_46 (by first | (with_reducible exact pk_mul _ _) | rfl) ?_
        refine n_iadd dX12_peopleOf_47 (by first | (with_reducible exact nI_add _ _) | rfl) ?_
        refine g_iconst (v := nI 4) dX12_peopleOf_48 (by decide) ?_
        refine n_iadd dX12_peopleOf_49 (by first | (with_reducible exact nI_add _ _) | rfl) ?_
        refine n_iald dX12_peopleOf_50 (by first | rfl | exact pv_shx) (by omega) (by omega) (by decide) (rfl) (by omega) (by repeat (first | exact hnp | (apply rd_s; done) | apply rd_n (by omega) | apply rp_s | apply rp_n (by omega) | (apply rdL_s; done) | apply rdL_n (by omega) | apply rpJ_s | apply rpJ_n (by omega) | rfl)) ?_
        refine n_if_ge 58 dX12_peopleOf_51 (by decide) (cI_ge0) (fun c51 => ?_) (fun c51 => ?_)
        · skip
          refine g_iconst (v := nI 0) dX12_peopleOf_58 (by decide) ?_
          refine n_iadd dX12_peopleOf_59 (nI_add _ _) ?_
          refine g_istore_n dX12_peopleOf_60 (by decide) rfl ?_
          refine g_iinc dX12_peopleOf_61 rfl (nI_1 _) (by decide) rfl ?_
          refine g_goto 4 dX12_peopleOf_64 (by decide) ?_
          have h4 := ih (i + 1) (by omega)
          rw [e1] at h4
          first | (have hz : poP (I 203) k i := ⟨by first | exact Or.inl c18 | exact Or.inr c34, by omega⟩; rw [if_pos hz] at h4; exact h4) | (have hz : ¬ poP (I 203) k i := fun z => (by first | (have := z.2; omega) | exact z.1.elim c18 c34); rw [if_neg hz] at h4; exact h4)
        · skip
          refine g_iconst (v := nI 1) dX12_peopleOf_54 (by decide) ?_
          refine g_goto 59 dX12_peopleOf_55 (by decide) ?_
          refine n_iadd dX12_peopleOf_59 (nI_add _ _) ?_
          refine g_istore_n dX12_peopleOf_60 (by decide) rfl ?_
          refine g_iinc dX12_peopleOf_61 rfl (nI_1 _) (by decide) rfl ?_
          refine g_goto 4 dX12_peopleOf_64 (by decide) ?_
          have h4 := ih (i + 1) (by omega)
          rw [e1] at h4
          first | (have hz : poP (I 203) k i := ⟨by first | exact Or.inl c18 | exact Or.inr c34, by omega⟩; rw [if_pos hz] at h4; exact h4) | (have hz : ¬ poP (I 203) k i := fun z => (by first | (have := z.2; omega) | exact z.1.elim c18 c34); rw [if_neg hz] at h4; exact h4)
      · skip
        refine g_aload_n dX12_peopleOf_21 rfl ?_
        refine g_getP dX12_peopleOf_22 fdX12_7 rfl (by first | rfl | exact pv_shx) (by omega) (by omega) (by decide) rfl (hP _ _ _ rfl) ?_
        refine g_sipush (v := nI 1200) dX12_peopleOf_25 (by decide) ?_
        refine g_iconst (v := nI 5) dX12_peopleOf_28 (by decide) ?_
        refine g_iload_n dX12_peopleOf_29 rfl ?_
        refine n_imul dX12_peopleOf_30 (by first | (with_reducible exact pk_mul _ _) | rfl) ?_
        refine n_iadd dX12_peopleOf_31 (by first | (with_reducible exact nI_add _ _) | rfl) ?_
        refine n_iald dX12_peopleOf_32 (by first | rfl | exact pv_shx) (by omega) (by omega) (by decide) (rfl) (by omega) (by repeat (first | exact hnp | (apply rd_s; done) | apply rd_n (by omega) | apply rp_s | apply rp_n (by omega) | (apply rdL_s; done) | apply rdL_n (by omega) | apply rpJ_s | apply rpJ_n (by omega) | rfl)) ?_
        refine g_iload_n dX12_peopleOf_33 rfl ?_
        refine n_icmp_ne 58 dX12_peopleOf_34 (by decide) (Iff.rfl) (fun c34 => ?_) (fun c34 => ?_)
        · skip
          refine g_iconst (v := nI 0) dX12_peopleOf_58 (by decide) ?_
          refine n_iadd dX12_peopleOf_59 (nI_add _ _) ?_
          refine g_istore_n dX12_peopleOf_60 (by decide) rfl ?_
          refine g_iinc dX12_peopleOf_61 rfl (nI_1 _) (by decide) rfl ?_
          refine g_goto 4 dX12_peopleOf_64 (by decide) ?_
          have h4 := ih (i + 1) (by omega)
          rw [e1] at h4
          first | (have hz : poP (I 203) k i := ⟨by first | exact Or.inl c18 | exact Or.inr c34, by omega⟩; rw [if_pos hz] at h4; exact h4) | (have hz : ¬ poP (I 203) k i := fun z => (by first | (have := z.2; omega) | exact z.1.elim c18 c34); rw [if_neg hz] at h4; exact h4)
        · skip
          refine g_aload_n dX12_peopleOf_37 rfl ?_
          refine g_getP dX12_peopleOf_38 fdX12_7 rfl (by first | rfl | exact pv_shx) (by omega) (by omega) (by decide) rfl (hP _ _ _ rfl) ?_
          refine g_sipush (v := nI 1200) dX12_peopleOf_41 (by decide) ?_
          refine g_iconst (v := nI 5) dX12_peopleOf_44 (by decide) ?_
          refine g_iload_n dX12_peopleOf_45 rfl ?_
          refine n_imul dX12_peopleOf_46 (by first | (with_reducible exact pk_mul _ _) | rfl) ?_
          refine n_iadd dX12_peopleOf_47 (by first | (with_reducible exact nI_add _ _) | rfl) ?_
          refine g_iconst (v := nI 4) dX12_peopleOf_48 (by decide) ?_
          refine n_iadd dX12_peopleOf_49 (by first | (with_reducible exact nI_add _ _) | rfl) ?_
          refine n_iald dX12_peopleOf_50 (by first | rfl | exact pv_shx) (by omega) (by omega) (by decide) (rfl) (by omega) (by repeat (first | exact hnp | (apply rd_s; done) | apply rd_n (by omega) | apply rp_s | apply rp_n (by omega) | (apply rdL_s; done) | apply rdL_n (by omega) | apply rpJ_s | apply rpJ_n (by omega) | rfl)) ?_
          refine n_if_ge 58 dX12_peopleOf_51 (by decide) (cI_ge0) (fun c51 => ?_) (fun c51 => ?_)
          · skip
            refine g_iconst (v := nI 0) dX12_peopleOf_58 (by decide) ?_
            refine n_iadd dX12_peopleOf_59 (nI_add _ _) ?_
            refine g_istore_n dX12_peopleOf_60 (by decide) rfl ?_
            refine g_iinc dX12_peopleOf_61 rfl (nI_1 _) (by decide) rfl ?_
            refine g_goto 4 dX12_peopleOf_64 (by decide) ?_
            have h4 := ih (i + 1) (by omega)
            rw [e1] at h4
            first | (have hz : poP (I 203) k i := ⟨by first | exact Or.inl c18 | exact Or.inr c34, by omega⟩; rw [if_pos hz] at h4; exact h4) | (have hz : ¬ poP (I 203) k i := fun z => (by first | (have := z.2; omega) | exact z.1.elim c18 c34); rw [if_neg hz] at h4; exact h4)
          · skip
            refine g_iconst (v := nI 1) dX12_peopleOf_54 (by decide) ?_
            refine g_goto 59 dX12_peopleOf_55 (by decide) ?_
            refine n_iadd dX12_peopleOf_59 (nI_add _ _) ?_
            refine g_istore_n dX12_peopleOf_60 (by decide) rfl ?_
            refine g_iinc dX12_peopleOf_61 rfl (nI_1 _) (by decide) rfl ?_
            refine g_goto 4 dX12_peopleOf_64 (by decide) ?_
            have h4 := ih (i + 1) (by omega)
            rw [e1] at h4
            first | (have hz : poP (I 203) k i := ⟨by first | exact Or.inl c18 | exact Or.inr c34, by omega⟩; rw [if_pos hz] at h4; exact h4) | (have hz : ¬ poP (I 203) k i := fun z => (by first | (have := z.2; omega) | exact z.1.elim c18 c34); rw [if_neg hz] at h4; exact h4)
  refine pvMet.of _ (by decide) rfl (Nat.le_of_ble_eq_true rfl) ?_
  refine g_iconst (v := nI 0) dX12_peopleOf_0 (by decide) ?_
  refine g_istore_n dX12_peopleOf_1 (by decide) rfl ?_
  refine g_iconst (v := nI 0) dX12_peopleOf_2 (by decide) ?_
  refine g_istore_n dX12_peopleOf_3 (by decide) rfl ?_
  exact lp np 0 (by omega)
