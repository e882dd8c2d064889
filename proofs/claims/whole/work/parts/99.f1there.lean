/-! class: by: who is there -/
section THR
variable {w h : Nat} {a : Nat → Int32} {I : pvI} {J : pvJ} {P : pvP}
theorem c_thereIn {k : Nat} (hP : pvOkP P) (hb : kB w h a I J) (hk : k < 20) : pvMet mX7_thereIn 1 0 0 [.ref 27, .int (nI k)] 224 I J P (pvpu (.int (nI (sp_ct (fun p => a (1200 + 5 * p) = nI k ∧ sp_here a p) (cnt a 6)))) 224 I J P) := by
  obtain ⟨n6, r6⟩ := hb.n6
  have n5 := hb.n5.1
  have x4 := hb.2.1.2.2.2.2.1.2.2.2.1
  have l1 := hb.2.2.2.2.2.2.1.1
  have lp : ∀ q p, p + q = cnt a 6 → pvG mX7_thereIn (pvR 1 0 0) (pvZ (pvpu (.int (nI (sp_ct (fun p => a (1200 + 5 * p) = nI k ∧ sp_here a p) (cnt a 6)))) 224 I J P) 0 0) 4 [.ref 27, .int (nI k), .int (nI (sp_ct (fun p => a (1200 + 5 * p) = nI k ∧ sp_here a p) p)), .int (nI p)] [] 0 0 224 I J P := by
    intro q
    induction q with
    | zero =>
      intro p hp
      obtain rfl : p = cnt a 6 := by omega
      refine g_iload_n dX7_thereIn_4 rfl ?_
      refine g_aload_n dX7_thereIn_5 rfl ?_
      refine n_getI dX7_thereIn_6 fdX7_55 rfl (by first | rfl | exact pv_shx) (by omega) (by omega) (by decide) rfl (by repeat (first | exact r6 | (apply rd_s; done) | apply rd_n (by omega) | apply rp_s | apply rp_n (by omega) | (apply rdL_s; done) | apply rdL_n (by omega) | apply rpJ_s | apply rpJ_n (by omega) | rfl)) ?_
      refine n_icmp_ge 39 dX7_thereIn_9 (by decide) (by first | ((with_reducible apply cN_le) <;> omega) | ((with_reducible apply cI_len) <;> omega) | ((with_reducible apply cI_nle) <;> omega) | (with_reducible exact cI_le)) (fun c9 => ?_) (fun c9 => by exfalso; first | omega | exact absurd trivial c9 | exact c9 | (simp at c9))
      refine g_iload_n dX7_thereIn_39 rfl ?_
      exact g_iret dX7_thereIn_40 rfl (⟨rfl, rfl, rfl, rfl, rfl⟩)
    | succ q ih =>
      intro p hp
      have nx := ih (p + 1) (by omega)
      have es : sp_ct (fun p => a (1200 + 5 * p) = nI k ∧ sp_here a p) (p + 1) = sp_ct (fun p => a (1200 + 5 * p) = nI k ∧ sp_here a p) p + (if a (1200 + 5 * p) = nI k ∧ sp_here a p then 1 else 0) := rfl
      rw [es] at nx
      have hle := sp_ct_le (p := fun p => a (1200 + 5 * p) = nI k ∧ sp_here a p) p
      obtain ⟨⟨hm, m1, m2⟩, -, -, -, wor⟩ := l1 p (by omega)
      have f33 : I 33 p = nI hm := (x4 p (by omega)).1.trans m2
      have f37 : I 37 p = a (1200 + 5 * p + 4) := (x4 p (by omega)).2.2.2.2
      have is := c_isThere (p := p) (a := a) (I := I) (J := J) (P := P) hP (by omega) (by rw [f37]; exact wor)
      rw [f37] at is
      by_cases v1 : hm = k
      · by_cases v2 : (a (1200 + 5 * p + 4)).toInt < 0
        · rw [if_pos v2] at is
          have hz : a (1200 + 5 * p) = nI k ∧ sp_here a p := ⟨by rw [m2, v1], v2⟩
          rw [if_pos hz] at nx
          refine g_iload_n dX7_thereIn_4 rfl ?_
          refine g_aload_n dX7_thereIn_5 rfl ?_
          refine n_getI dX7_thereIn_6 fdX7_55 rfl (by first | rfl | exact pv_shx) (by omega) (by omega) (by decide) rfl (by repeat (first | exact r6 | exact f33 | (apply rd_s; done) | apply rd_n (by omega) | apply rp_s | apply rp_n (by omega) | (apply rdL_s; done) | apply rdL_n (by omega) | apply rpJ_s | apply rpJ_n (by omega) | rfl)) ?_
          refine n_icmp_ge 39 dX7_thereIn_9 (by decide) (by first | ((with_reducible apply cN_le) <;> omega) | ((with_reducible apply cI_len) <;> omega) | ((with_reducible apply cI_nle) <;> omega) | (with_reducible exact cI_le)) (fun c9 => by exfalso; first | omega | exact absurd trivial c9 | exact c9 | (simp at c9)) (fun c9 => ?_)
          refine g_aload_n dX7_thereIn_12 rfl ?_
          refine g_getP dX7_thereIn_13 fdX7_27 rfl (by first | rfl | exact pv_shx) (by omega) (by omega) (by decide) rfl (hP _ _ _ rfl) ?_
          refine g_iload_n dX7_thereIn_16 rfl ?_
          refine n_iald dX7_thereIn_17 (by first | rfl | exact pv_shx) (by omega) (by omega) (by decide) (rfl) (by omega) (by repeat (first | exact r6 | exact f33 | (apply rd_s; done) | apply rd_n (by omega) | apply rp_s | apply rp_n (by omega) | (apply rdL_s; done) | apply rdL_n (by omega) | apply rpJ_s | apply rpJ_n (by omega) | rfl)) ?_
          refine g_iload_n dX7_thereIn_18 rfl ?_
          refine n_icmp_ne 33 dX7_thereIn_19 (by decide) (by first | ((with_reducible apply cN_eq) <;> omega) | ((with_reducible apply cI_eqn) <;> omega) | exact Iff.rfl) (fun c19 => by exfalso; first | omega | exact absurd trivial c19 | exact c19 | (simp at c19)) (fun c19 => ?_)
          refine g_aload_n dX7_thereIn_22 rfl ?_
          refine g_iload_n dX7_thereIn_23 rfl ?_
          refine p_callV (is) okX7_isThere lkX7_61 rfl (by first | rfl | exact pv_shx) rfl (by omega) (by omega) dX7_thereIn_24 rfl (Nat.le_of_ble_eq_true rfl) (⟨by decide, by decide, by decide, by decide⟩) ?_
          refine n_if_eq 33 dX7_thereIn_27 (by decide) (by first | (with_reducible exact cB _) | ((with_reducible apply cN_eq0) <;> omega) | exact Iff.rfl) (fun c27 => by exfalso; first | omega | exact absurd trivial c27 | exact c27 | (simp at c27)) (fun c27 => ?_)
          refine g_iinc dX7_thereIn_30 rfl (by first | (with_reducible exact nI_1 _) | exact nI_1 _ | exact pk_m1 _ | rfl) (by decide) rfl ?_
          refine g_iinc dX7_thereIn_33 rfl (by first | (with_reducible exact nI_1 _) | exact nI_1 _ | exact pk_m1 _ | rfl) (by decide) rfl ?_
          refine g_goto 4 dX7_thereIn_36 (by decide) ?_
          exact nx
        · rw [if_neg v2] at is
          have hz : ¬ (a (1200 + 5 * p) = nI k ∧ sp_here a p) := fun z => v2 z.2
          rw [if_neg hz, Nat.add_zero] at nx
          refine g_iload_n dX7_thereIn_4 rfl ?_
          refine g_aload_n dX7_thereIn_5 rfl ?_
          refine n_getI dX7_thereIn_6 fdX7_55 rfl (by first | rfl | exact pv_shx) (by omega) (by omega) (by decide) rfl (by repeat (first | exact r6 | exact f33 | (apply rd_s; done) | apply rd_n (by omega) | apply rp_s | apply rp_n (by omega) | (apply rdL_s; done) | apply rdL_n (by omega) | apply rpJ_s | apply rpJ_n (by omega) | rfl)) ?_
          refine n_icmp_ge 39 dX7_thereIn_9 (by decide) (by first | ((with_reducible apply cN_le) <;> omega) | ((with_reducible apply cI_len) <;> omega) | ((with_reducible apply cI_nle) <;> omega) | (with_reducible exact cI_le)) (fun c9 => by exfalso; first | omega | exact absurd trivial c9 | exact c9 | (simp at c9)) (fun c9 => ?_)
          refine g_aload_n dX7_thereIn_12 rfl ?_
          refine g_getP dX7_thereIn_13 fdX7_27 rfl (by first | rfl | exact pv_shx) (by omega) (by omega) (by decide) rfl (hP _ _ _ rfl) ?_
          refine g_iload_n dX7_thereIn_16 rfl ?_
          refine n_iald dX7_thereIn_17 (by first | rfl | exact pv_shx) (by omega) (by omega) (by decide) (rfl) (by omega) (by repeat (first | exact r6 | exact f33 | (apply rd_s; done) | apply rd_n (by omega) | apply rp_s | apply rp_n (by omega) | (apply rdL_s; done) | apply rdL_n (by omega) | apply rpJ_s | apply rpJ_n (by omega) | rfl)) ?_
          refine g_iload_n dX7_thereIn_18 rfl ?_
          refine n_icmp_ne 33 dX7_thereIn_19 (by decide) (by first | ((with_reducible apply cN_eq) <;> omega) | ((with_reducible apply cI_eqn) <;> omega) | exact Iff.rfl) (fun c19 => by exfalso; first | omega | exact absurd trivial c19 | exact c19 | (simp at c19)) (fun c19 => ?_)
          refine g_aload_n dX7_thereIn_22 rfl ?_
          refine g_iload_n dX7_thereIn_23 rfl ?_
          refine p_callV (is) okX7_isThere lkX7_61 rfl (by first | rfl | exact pv_shx) rfl (by omega) (by omega) dX7_thereIn_24 rfl (Nat.le_of_ble_eq_true rfl) (⟨by decide, by decide, by decide, by decide⟩) ?_
          refine n_if_eq 33 dX7_thereIn_27 (by decide) (by first | (with_reducible exact cB _) | ((with_reducible apply cN_eq0) <;> omega) | exact Iff.rfl) (fun c27 => ?_) (fun c27 => by exfalso; first | omega | exact absurd trivial c27 | exact c27 | (simp at c27))
          refine g_iinc dX7_thereIn_33 rfl (by first | (with_reducible exact nI_1 _) | exact nI_1 _ | exact pk_m1 _ | rfl) (by decide) rfl ?_
          refine g_goto 4 dX7_thereIn_36 (by decide) ?_
          exact nx
      · have hz : ¬ (a (1200 + 5 * p) = nI k ∧ sp_here a p) := fun z => v1 (by have := z.1; rw [m2, nI_eq (by omega) (by omega)] at this; exact this)
        rw [if_neg hz, Nat.add_zero] at nx
        refine g_iload_n dX7_thereIn_4 rfl ?_
        refine g_aload_n dX7_thereIn_5 rfl ?_
        refine n_getI dX7_thereIn_6 fdX7_55 rfl (by first | rfl | exact pv_shx) (by omega) (by omega) (by decide) rfl (by repeat (first | exact r6 | exact f33 | (apply rd_s; done) | apply rd_n (by omega) | apply rp_s | apply rp_n (by omega) | (apply rdL_s; done) | apply rdL_n (by omega) | apply rpJ_s | apply rpJ_n (by omega) | rfl)) ?_
        refine n_icmp_ge 39 dX7_thereIn_9 (by decide) (by first | ((with_reducible apply cN_le) <;> omega) | ((with_reducible apply cI_len) <;> omega) | ((with_reducible apply cI_nle) <;> omega) | (with_reducible exact cI_le)) (fun c9 => by exfalso; first | omega | exact absurd trivial c9 | exact c9 | (simp at c9)) (fun c9 => ?_)
        refine g_aload_n dX7_thereIn_12 rfl ?_
        refine g_getP dX7_thereIn_13 fdX7_27 rfl (by first | rfl | exact pv_shx) (by omega) (by omega) (by decide) rfl (hP _ _ _ rfl) ?_
        refine g_iload_n dX7_thereIn_16 rfl ?_
        refine n_iald dX7_thereIn_17 (by first | rfl | exact pv_shx) (by omega) (by omega) (by decide) (rfl) (by omega) (by repeat (first | exact r6 | exact f33 | (apply rd_s; done) | apply rd_n (by omega) | apply rp_s | apply rp_n (by omega) | (apply rdL_s; done) | apply rdL_n (by omega) | apply rpJ_s | apply rpJ_n (by omega) | rfl)) ?_
        refine g_iload_n dX7_thereIn_18 rfl ?_
        refine n_icmp_ne 33 dX7_thereIn_19 (by decide) (by first | ((with_reducible apply cN_eq) <;> omega) | ((with_reducible apply cI_eqn) <;> omega) | exact Iff.rfl) (fun c19 => ?_) (fun c19 => by exfalso; first | omega | exact absurd trivial c19 | exact c19 | (simp at c19))
        refine g_iinc dX7_thereIn_33 rfl (by first | (with_reducible exact nI_1 _) | exact nI_1 _ | exact pk_m1 _ | rfl) (by decide) rfl ?_
        refine g_goto 4 dX7_thereIn_36 (by decide) ?_
        exact nx
  refine pvMet.of _ (by decide) rfl (Nat.le_of_ble_eq_true rfl) ?_
  refine g_iconst (v := nI 0) dX7_thereIn_0 (by decide) ?_
  refine g_istore_n dX7_thereIn_1 (by decide) rfl ?_
  refine g_iconst (v := nI 0) dX7_thereIn_2 (by decide) ?_
  refine g_istore_n dX7_thereIn_3 (by decide) rfl ?_
  exact lp (cnt a 6) 0 (by omega)
end THR
