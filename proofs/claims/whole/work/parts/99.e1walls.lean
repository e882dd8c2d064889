/-! class: best: cost and cells of a set of walls -/
section WLS
variable {w h : Nat} {a : Nat → Int32} {I : pvI} {J : pvJ} {P : pvP}
theorem kB.pl {p : Nat} (hb : kB w h a I J) (hp : p < cnt a 10) : p < 6 ∧ cnt a (1600 + 2 * p) < w * h ∧ cnt a (1600 + 2 * p + 1) ≤ 9999 ∧ I 44 p = nI (cnt a (1600 + 2 * p)) ∧ I 45 p = nI (cnt a (1600 + 2 * p + 1)) := by
  have n10 := hb.n10.1
  have hwh := hb.1.wh
  obtain ⟨⟨c, c1, c2⟩, ⟨v, v1, v2⟩⟩ := hb.2.2.2.2.1.2.2.2.2.2 p hp
  obtain ⟨y1, y2⟩ := hb.2.1.2.2.2.2.2.2.2 p hp
  have e1 : cnt a (1600 + 2 * p) = c := cnt_of c2 (by omega)
  have e2 : cnt a (1600 + 2 * p + 1) = v := cnt_of v2 (by omega)
  rw [e1, e2]
  exact ⟨by omega, c1, v1, y1.trans c2, y2.trans v2⟩
theorem c_costOf {set : Nat} (hP : pvOkP P) (hb : kB w h a I J) (hs : set < 64) : pvMet mX8_costOf 1 0 0 [.ref 43, .int (nI set)] 224 I J P (pvpu (.int (nI (wcost a set (cnt a 10)))) 224 I J P) := by
  obtain ⟨n10, r10⟩ := hb.n10
  have hle := wcost_le (a := a) (set := set) (fun p hp => (hb.pl hp).2.2.1)
  have lp : ∀ q p, p + q = cnt a 10 → pvG mX8_costOf (pvR 1 0 0) (pvZ (pvpu (.int (nI (wcost a set (cnt a 10)))) 224 I J P) 0 0) 4 [.ref 43, .int (nI set), .int (nI (wcost a set p)), .int (nI p)] [] 0 0 224 I J P := by
    intro q
    induction q with
    | zero =>
      intro p hp
      obtain rfl : p = cnt a 10 := by omega
      refine g_iload_n dX8_costOf_4 rfl ?_
      refine g_aload_n dX8_costOf_5 rfl ?_
      refine n_getI dX8_costOf_6 fdX8_25 rfl (by first | rfl | exact pv_shx) (by omega) (by omega) (by decide) rfl (by repeat (first | exact r10 | (apply rd_s; done) | apply rd_n (by omega) | apply rp_s | apply rp_n (by omega) | (apply rdL_s; done) | apply rdL_n (by omega) | apply rpJ_s | apply rpJ_n (by omega) | rfl)) ?_
      refine n_icmp_ge 39 dX8_costOf_9 (by decide) (by first | ((with_reducible apply cN_le) <;> omega) | ((with_reducible apply cI_len) <;> omega) | ((with_reducible apply cI_nle) <;> omega) | (with_reducible exact cI_le)) (fun c9 => ?_) (fun c9 => by exfalso; first | omega | exact absurd trivial c9 | exact c9 | (simp at c9))
      refine g_iload_n dX8_costOf_39 rfl ?_
      exact g_iret dX8_costOf_40 rfl (⟨rfl, rfl, rfl, rfl, rfl⟩)
    | succ q ih =>
      intro p hp
      have nx := ih (p + 1) (by omega)
      have es : wcost a set (p + 1) = wcost a set p + set / 2 ^ p % 2 * cnt a (1600 + 2 * p + 1) := rfl
      rw [es] at nx
      obtain ⟨p6, -, p9, -, r45⟩ := hb.pl (p := p) (by omega)
      have ii := c_isIn (nx := 224) (n := set) (k := p) (I := I) (J := J) (P := P) (by omega) (by omega)
      have l1 := hle p (by omega)
      by_cases z : set / 2 ^ p % 2 = 1
      · rw [if_pos z] at ii
        rw [z, Nat.one_mul] at nx
        refine g_iload_n dX8_costOf_4 rfl ?_
        refine g_aload_n dX8_costOf_5 rfl ?_
        refine n_getI dX8_costOf_6 fdX8_25 rfl (by first | rfl | exact pv_shx) (by omega) (by omega) (by decide) rfl (by repeat (first | exact r10 | exact r45 | (apply rd_s; done) | apply rd_n (by omega) | apply rp_s | apply rp_n (by omega) | (apply rdL_s; done) | apply rdL_n (by omega) | apply rpJ_s | apply rpJ_n (by omega) | rfl)) ?_
        refine n_icmp_ge 39 dX8_costOf_9 (by decide) (by first | ((with_reducible apply cN_le) <;> omega) | ((with_reducible apply cI_len) <;> omega) | ((with_reducible apply cI_nle) <;> omega) | (with_reducible exact cI_le)) (fun c9 => by exfalso; first | omega | exact absurd trivial c9 | exact c9 | (simp at c9)) (fun c9 => ?_)
        refine g_iload_n dX8_costOf_12 rfl ?_
        refine g_iload_n dX8_costOf_13 rfl ?_
        refine g_iload_n dX8_costOf_14 rfl ?_
        refine p_callNS (ii) okX11_isIn lkX8_37 rfl dX8_costOf_15 rfl (Nat.le_of_ble_eq_true rfl) (⟨by decide, by decide, by decide, by decide⟩) ?_
        refine n_if_eq 30 dX8_costOf_18 (by decide) (by first | (with_reducible exact cB _) | ((with_reducible apply cN_eq0) <;> omega) | exact Iff.rfl) (fun c18 => by exfalso; first | omega | exact absurd trivial c18 | exact c18 | (simp at c18)) (fun c18 => ?_)
        refine g_aload_n dX8_costOf_21 rfl ?_
        refine g_getP dX8_costOf_22 fdX8_15 rfl (by first | rfl | exact pv_shx) (by omega) (by omega) (by decide) rfl (hP _ _ _ rfl) ?_
        refine g_iload_n dX8_costOf_25 rfl ?_
        refine n_iald dX8_costOf_26 (by first | rfl | exact pv_shx) (by omega) (by omega) (by decide) (rfl) (by omega) (by repeat (first | exact r10 | exact r45 | (apply rd_s; done) | apply rd_n (by omega) | apply rp_s | apply rp_n (by omega) | (apply rdL_s; done) | apply rdL_n (by omega) | apply rpJ_s | apply rpJ_n (by omega) | rfl)) ?_
        refine g_goto 31 dX8_costOf_27 (by decide) ?_
        refine n_iadd dX8_costOf_31 (by first | (with_reducible exact nI_add _ _) | rfl) ?_
        refine g_istore_n dX8_costOf_32 (by decide) rfl ?_
        refine g_iinc dX8_costOf_33 rfl (by first | (with_reducible exact nI_1 _) | exact nI_1 _ | exact pk_m1 _ | rfl) (by decide) rfl ?_
        refine g_goto 4 dX8_costOf_36 (by decide) ?_
        exact nx
      · rw [if_neg z] at ii
        have z0 : set / 2 ^ p % 2 = 0 := by omega
        rw [z0, Nat.zero_mul] at nx
        refine g_iload_n dX8_costOf_4 rfl ?_
        refine g_aload_n dX8_costOf_5 rfl ?_
        refine n_getI dX8_costOf_6 fdX8_25 rfl (by first | rfl | exact pv_shx) (by omega) (by omega) (by decide) rfl (by repeat (first | exact r10 | (apply rd_s; done) | apply rd_n (by omega) | apply rp_s | apply rp_n (by omega) | (apply rdL_s; done) | apply rdL_n (by omega) | apply rpJ_s | apply rpJ_n (by omega) | rfl)) ?_
        refine n_icmp_ge 39 dX8_costOf_9 (by decide) (by first | ((with_reducible apply cN_le) <;> omega) | ((with_reducible apply cI_len) <;> omega) | ((with_reducible apply cI_nle) <;> omega) | (with_reducible exact cI_le)) (fun c9 => by exfalso; first | omega | exact absurd trivial c9 | exact c9 | (simp at c9)) (fun c9 => ?_)
        refine g_iload_n dX8_costOf_12 rfl ?_
        refine g_iload_n dX8_costOf_13 rfl ?_
        refine g_iload_n dX8_costOf_14 rfl ?_
        refine p_callNS (ii) okX11_isIn lkX8_37 rfl dX8_costOf_15 rfl (Nat.le_of_ble_eq_true rfl) (⟨by decide, by decide, by decide, by decide⟩) ?_
        refine n_if_eq 30 dX8_costOf_18 (by decide) (by first | (with_reducible exact cB _) | ((with_reducible apply cN_eq0) <;> omega) | exact Iff.rfl) (fun c18 => ?_) (fun c18 => by exfalso; first | omega | exact absurd trivial c18 | exact c18 | (simp at c18))
        refine g_iconst (v := nI 0) dX8_costOf_30 (by decide) ?_
        refine n_iadd dX8_costOf_31 (by first | (with_reducible exact nI_add _ _) | rfl) ?_
        refine g_istore_n dX8_costOf_32 (by decide) rfl ?_
        refine g_iinc dX8_costOf_33 rfl (by first | (with_reducible exact nI_1 _) | exact nI_1 _ | exact pk_m1 _ | rfl) (by decide) rfl ?_
        refine g_goto 4 dX8_costOf_36 (by decide) ?_
        exact nx
  refine pvMet.of _ (by decide) rfl (Nat.le_of_ble_eq_true rfl) ?_
  refine g_iconst (v := nI 0) dX8_costOf_0 (by decide) ?_
  refine g_istore_n dX8_costOf_1 (by decide) rfl ?_
  refine g_iconst (v := nI 0) dX8_costOf_2 (by decide) ?_
  refine g_istore_n dX8_costOf_3 (by decide) rfl ?_
  exact lp (cnt a 10) 0 (by omega)
theorem c_cellsOf {set : Nat} (hP : pvOkP P) (hb : kB w h a I J) (hs : set < 64) : pvMet mX8_cellsOf 1 0 0 [.ref 43, .int (nI set)] 224 I J P (pvpu (.long (mk (fun c => wlB a set c (cnt a 10)))) 224 I J P) := by
  obtain ⟨n10, r10⟩ := hb.n10
  have hwh := hb.1.wh
  have lp : ∀ q p, p + q = cnt a 10 → pvG mX8_cellsOf (pvR 1 0 0) (pvZ (pvpu (.long (mk (fun c => wlB a set c (cnt a 10)))) 224 I J P) 0 0) 5 [.ref 43, .int (nI set), .long (mk (fun c => wlB a set c p)), .retAddr 0, .int (nI p)] [] 0 0 224 I J P := by
    intro q
    induction q with
    | zero =>
      intro p hp
      obtain rfl : p = cnt a 10 := by omega
      refine g_iload dX8_cellsOf_5 rfl ?_
      refine g_aload_n dX8_cellsOf_7 rfl ?_
      refine n_getI dX8_cellsOf_8 fdX8_25 rfl (by first | rfl | exact pv_shx) (by omega) (by omega) (by decide) rfl (by repeat (first | exact r10 | (apply rd_s; done) | apply rd_n (by omega) | apply rp_s | apply rp_n (by omega) | (apply rdL_s; done) | apply rdL_n (by omega) | apply rpJ_s | apply rpJ_n (by omega) | rfl)) ?_
      refine n_icmp_ge 46 dX8_cellsOf_11 (by decide) (by first | ((with_reducible apply cN_le) <;> omega) | ((with_reducible apply cI_len) <;> omega) | ((with_reducible apply cI_nle) <;> omega) | (with_reducible exact cI_le)) (fun c11 => ?_) (fun c11 => by exfalso; first | omega | exact absurd trivial c11 | exact c11 | (simp at c11))
      refine g_lload_n dX8_cellsOf_46 rfl ?_
      exact g_lret dX8_cellsOf_47 rfl (⟨rfl, rfl, rfl, rfl, rfl⟩)
    | succ q ih =>
      intro p hp
      have nx := ih (p + 1) (by omega)
      obtain ⟨p6, pc, -, r44, -⟩ := hb.pl (p := p) (by omega)
      have ii := c_isIn (nx := 224) (n := set) (k := p) (I := I) (J := J) (P := P) (by omega) (by omega)
      have bt := t_bit (nx := 224) (k := cnt a (1600 + 2 * p)) (I := I) (J := J) (P := P) (by omega)
      have es : ∀ c, wlB a set c (p + 1) = (wlB a set c p || decide (set / 2 ^ p % 2 = 1 ∧ cnt a (1600 + 2 * p) = c)) := fun c => rfl
      by_cases z : set / 2 ^ p % 2 = 1
      · rw [if_pos z] at ii
        have e : mk (fun c => wlB a set c p) ||| mk (fun c => decide (c = cnt a (1600 + 2 * p))) = mk (fun c => wlB a set c (p + 1)) := mk_or.trans (mk_cong (fun c _ => by
          rw [es]
          congr 1
          apply decide_eq_decide.mpr
          exact ⟨fun y => ⟨z, y.symm⟩, fun y => y.2.symm⟩))
        refine g_iload dX8_cellsOf_5 rfl ?_
        refine g_aload_n dX8_cellsOf_7 rfl ?_
        refine n_getI dX8_cellsOf_8 fdX8_25 rfl (by first | rfl | exact pv_shx) (by omega) (by omega) (by decide) rfl (by repeat (first | exact r10 | exact r44 | (apply rd_s; done) | apply rd_n (by omega) | apply rp_s | apply rp_n (by omega) | (apply rdL_s; done) | apply rdL_n (by omega) | apply rpJ_s | apply rpJ_n (by omega) | rfl)) ?_
        refine n_icmp_ge 46 dX8_cellsOf_11 (by decide) (by first | ((with_reducible apply cN_le) <;> omega) | ((with_reducible apply cI_len) <;> omega) | ((with_reducible apply cI_nle) <;> omega) | (with_reducible exact cI_le)) (fun c11 => by exfalso; first | omega | exact absurd trivial c11 | exact c11 | (simp at c11)) (fun c11 => ?_)
        refine g_lload_n dX8_cellsOf_14 rfl ?_
        refine g_iload_n dX8_cellsOf_15 rfl ?_
        refine g_iload dX8_cellsOf_16 rfl ?_
        refine p_callNS (ii) okX11_isIn lkX8_37 rfl dX8_cellsOf_18 rfl (Nat.le_of_ble_eq_true rfl) (⟨by decide, by decide, by decide, by decide⟩) ?_
        refine n_if_eq 37 dX8_cellsOf_21 (by decide) (by first | (with_reducible exact cB _) | ((with_reducible apply cN_eq0) <;> omega) | exact Iff.rfl) (fun c21 => by exfalso; first | omega | exact absurd trivial c21 | exact c21 | (simp at c21)) (fun c21 => ?_)
        refine g_aload_n dX8_cellsOf_24 rfl ?_
        refine g_getP dX8_cellsOf_25 fdX8_11 rfl (by first | rfl | exact pv_shx) (by omega) (by omega) (by decide) rfl (hP _ _ _ rfl) ?_
        refine g_iload dX8_cellsOf_28 rfl ?_
        refine n_iald dX8_cellsOf_30 (by first | rfl | exact pv_shx) (by omega) (by omega) (by decide) (rfl) (by omega) (by repeat (first | exact r10 | exact r44 | (apply rd_s; done) | apply rd_n (by omega) | apply rp_s | apply rp_n (by omega) | (apply rdL_s; done) | apply rdL_n (by omega) | apply rpJ_s | apply rpJ_n (by omega) | rfl)) ?_
        refine p_callNS (bt) okX11_bit lkX8_41 rfl dX8_cellsOf_31 rfl (Nat.le_of_ble_eq_true rfl) (⟨by decide, by decide, by decide, by decide⟩) ?_
        refine g_goto 38 dX8_cellsOf_34 (by decide) ?_
        refine n_lor dX8_cellsOf_38 (e) ?_
        refine g_lstore_n dX8_cellsOf_39 (by decide) rfl ?_
        refine g_iinc dX8_cellsOf_40 rfl (by first | (with_reducible exact nI_1 _) | exact nI_1 _ | exact pk_m1 _ | rfl) (by decide) rfl ?_
        refine g_goto 5 dX8_cellsOf_43 (by decide) ?_
        exact nx
      · rw [if_neg z] at ii
        have e : mk (fun c => wlB a set c p) ||| 0 = mk (fun c => wlB a set c (p + 1)) := by
          rw [← mk_zero]
          exact mk_or.trans (mk_cong (fun c _ => by
            rw [es, decide_eq_false (fun y => z y.1)]))
        refine g_iload dX8_cellsOf_5 rfl ?_
        refine g_aload_n dX8_cellsOf_7 rfl ?_
        refine n_getI dX8_cellsOf_8 fdX8_25 rfl (by first | rfl | exact pv_shx) (by omega) (by omega) (by decide) rfl (by repeat (first | exact r10 | (apply rd_s; done) | apply rd_n (by omega) | apply rp_s | apply rp_n (by omega) | (apply rdL_s; done) | apply rdL_n (by omega) | apply rpJ_s | apply rpJ_n (by omega) | rfl)) ?_
        refine n_icmp_ge 46 dX8_cellsOf_11 (by decide) (by first | ((with_reducible apply cN_le) <;> omega) | ((with_reducible apply cI_len) <;> omega) | ((with_reducible apply cI_nle) <;> omega) | (with_reducible exact cI_le)) (fun c11 => by exfalso; first | omega | exact absurd trivial c11 | exact c11 | (simp at c11)) (fun c11 => ?_)
        refine g_lload_n dX8_cellsOf_14 rfl ?_
        refine g_iload_n dX8_cellsOf_15 rfl ?_
        refine g_iload dX8_cellsOf_16 rfl ?_
        refine p_callNS (ii) okX11_isIn lkX8_37 rfl dX8_cellsOf_18 rfl (Nat.le_of_ble_eq_true rfl) (⟨by decide, by decide, by decide, by decide⟩) ?_
        refine n_if_eq 37 dX8_cellsOf_21 (by decide) (by first | (with_reducible exact cB _) | ((with_reducible apply cN_eq0) <;> omega) | exact Iff.rfl) (fun c21 => ?_) (fun c21 => by exfalso; first | omega | exact absurd trivial c21 | exact c21 | (simp at c21))
        refine g_lconst (v := 0) dX8_cellsOf_37 (by decide) ?_
        refine n_lor dX8_cellsOf_38 (e) ?_
        refine g_lstore_n dX8_cellsOf_39 (by decide) rfl ?_
        refine g_iinc dX8_cellsOf_40 rfl (by first | (with_reducible exact nI_1 _) | exact nI_1 _ | exact pk_m1 _ | rfl) (by decide) rfl ?_
        refine g_goto 5 dX8_cellsOf_43 (by decide) ?_
        exact nx
  have e0 : mk (fun c => wlB a set c 0) = 0 := mk_eq0.mpr (fun c _ => rfl)
  have go := lp (cnt a 10) 0 (by omega)
  rw [e0] at go
  refine pvMet.of _ (by decide) rfl (Nat.le_of_ble_eq_true rfl) ?_
  refine g_lconst (v := 0) dX8_cellsOf_0 (by decide) ?_
  refine g_lstore_n dX8_cellsOf_1 (by decide) rfl ?_
  refine g_iconst (v := nI 0) dX8_cellsOf_2 (by decide) ?_
  refine g_istore dX8_cellsOf_3 (by decide) rfl ?_
  exact go
end WLS
