/-! class: trench, the call -/
theorem cutb_iff {w h : Nat} {a : Nat → Int32} {x : Nat} : ∀ m, cutb w h a m x = true ↔ ∃ j, j < m ∧ cutw w h a j x = true
  | 0 => ⟨fun z => (by cases z), fun ⟨j, hj, _⟩ => absurd hj (Nat.not_lt_zero j)⟩
  | m + 1 => by
    show (cutb w h a m x || cutw w h a m x) = true ↔ _
    rw [Bool.or_eq_true, cutb_iff m]
    constructor
    · rintro (⟨j, h1, h2⟩ | z)
      · exact ⟨j, by omega, h2⟩
      · exact ⟨m, by omega, z⟩
    · rintro ⟨j, h1, h2⟩
      by_cases e : j = m
      · subst e; exact Or.inr h2
      · exact Or.inl ⟨j, by omega, h2⟩
section TRN
variable {w h : Nat} {a A : Nat → Int32} {I : pvI} {J : pvJ} {P : pvP}
theorem cutw_new {N : Nat} (h2 : cnt A 2 = N + 1) (ha2 : cnt a 2 = N) (hs : ∀ t, t < N → ∀ d, d < 5 → cnt A (210 + 5 * t + d) = cnt a (210 + 5 * t + d)) {j x : Nat} : cutw w h A j x = (cutw w h a j x || anyB (fun i => decide (tr_w A N i = j ∧ tr_c w h A N i = some x)) (tr_n A N)) := by
  unfold cutw
  rw [h2, ha2, anyB_s]
  congr 1
  apply anyB_cong
  intro t ht
  have e0 := hs t ht 0 (by decide)
  have e1 := hs t ht 1 (by decide)
  have e2 := hs t ht 2 (by decide)
  have e3 := hs t ht 3 (by decide)
  have e4 := hs t ht 4 (by decide)
  have e : tr_n A t = tr_n a t := e2
  rw [e]
  apply anyB_cong
  intro i hi
  have f1 : tr_w A t i = tr_w a t i := by unfold tr_w; rw [e3, e4]
  have f2 : tr_c w h A t i = tr_c w h a t i := by unfold tr_c; rw [e1, show cnt A (210 + 5 * t) = cnt a (210 + 5 * t) from e0]
  rw [f1, f2]
theorem c_trench {c d n e : Int32} (hP : pvOkP P) (hb : kB w h a I J) : pvMet mX11_trench 3 0 0 [.ref 1, .int c, .int d, .int n, .int e] 224 I J P (mtQ w h a I J P (sp_trench w h a c d n e)) := by
  obtain ⟨n0, r0⟩ := hb.n0
  obtain ⟨n2, r2⟩ := hb.n2
  have n1 := hb.n1.1
  have n3 := hb.n3.1
  have hwh := hb.1.wh
  have hi := hb.2.2.2.2
  have ip := c_has (v := c) (P := P) hb.1
  have id' := c_within (nx := 224) (v := d) (lo := nI 0) (hi := nI 3) (L := 0) (H := 3) (I := I) (J := J) (P := P) (by decide) (by decide)
  have inn := c_within (nx := 224) (v := n) (lo := nI 1) (hi := nI 8) (L := 1) (H := 8) (I := I) (J := J) (P := P) (by decide) (by decide)
  have ie := c_within (nx := 224) (v := e) (lo := nI 1) (hi := nI 8) (L := 1) (H := 8) (I := I) (J := J) (P := P) (by decide) (by decide)
  by_cases v1 : 0 ≤ c.toInt ∧ c.toInt < w * h
  · rw [if_pos v1] at ip
    by_cases v2 : 0 ≤ d.toInt ∧ d.toInt ≤ 3
    · rw [if_pos v2] at id'
      by_cases v3 : 1 ≤ n.toInt ∧ n.toInt ≤ 8
      · rw [if_pos v3] at inn
        by_cases v4 : 1 ≤ e.toInt ∧ e.toInt ≤ 8
        · rw [if_pos v4] at ie
          obtain ⟨cn, hcn, rfl⟩ := cI_of (x := c) (n := w * h) (by omega) (by omega) (by omega)
          obtain ⟨dn, hdn, rfl⟩ := cI_of (x := d) (n := 4) (by omega) (by omega) (by omega)
          obtain ⟨nn, hnn, rfl⟩ := cI_of (x := n) (n := 9) (by omega) (by omega) (by omega)
          obtain ⟨en, hen, rfl⟩ := cI_of (x := e) (n := 9) (by omega) (by omega) (by omega)
          have exn : (nI nn).toInt = nn := nI_toInt (by omega)
          have exe : (nI en).toInt = en := nI_toInt (by omega)
          have ho := c_holds (P := P) (c := cn) (d := dn) (n := nn) hb.1 hdn hcn (by omega)
          by_cases v7 : sp_go w h dn (nn - 1) cn = none
          · rw [if_neg (fun z => z v7)] at ho
            have ans : sp_trench w h a (nI cn) (nI dn) (nI nn) (nI en) = (-1, a) := by rw [sp_trench, if_neg (fun z => z.2.2.2.2.2.2 (by rw [nI_clamp (by omega), nI_clamp (by omega), nI_clamp (by omega)]; exact v7))]
            rw [ans]
            refine pvMet.of _ (by decide) rfl (Nat.le_of_ble_eq_true rfl) ?_
            refine g_aload_n dX11_trench_0 rfl ?_
            refine g_getP dX11_trench_1 fdX11_21 rfl (by first | rfl | exact pv_shx) (by omega) (by omega) (by decide) rfl (hP _ _ _ rfl) ?_
            refine g_iload_n dX11_trench_4 rfl ?_
            refine p_callV (ip) okX2_has lkX11_81 rfl (by first | rfl | exact pv_shx) rfl (by omega) (by omega) dX11_trench_5 rfl (Nat.le_of_ble_eq_true rfl) (⟨by decide, by decide, by decide, by decide⟩) ?_
            refine n_if_eq 41 dX11_trench_8 (by decide) (by first | (with_reducible exact cB _) | ((with_reducible apply cN_eq0) <;> omega) | exact Iff.rfl) (fun c8 => by exfalso; first | omega | exact absurd trivial c8 | exact c8 | (simp at c8)) (fun c8 => ?_)
            refine g_iload_n dX11_trench_11 rfl ?_
            refine g_iconst (v := nI 0) dX11_trench_12 (by decide) ?_
            refine g_iconst (v := nI 3) dX11_trench_13 (by decide) ?_
            refine p_callS (id') okX11_within lkX11_85 rfl dX11_trench_14 rfl (Nat.le_of_ble_eq_true rfl) (⟨by decide, by decide, by decide, by decide⟩) ?_
            refine n_if_eq 41 dX11_trench_17 (by decide) (by first | (with_reducible exact cB _) | ((with_reducible apply cN_eq0) <;> omega) | exact Iff.rfl) (fun c17 => by exfalso; first | omega | exact absurd trivial c17 | exact c17 | (simp at c17)) (fun c17 => ?_)
            refine g_iload_n dX11_trench_20 rfl ?_
            refine g_iconst (v := nI 1) dX11_trench_21 (by decide) ?_
            refine g_bipush (v := nI 8) dX11_trench_22 (by decide) ?_
            refine p_callS (inn) okX11_within lkX11_85 rfl dX11_trench_24 rfl (Nat.le_of_ble_eq_true rfl) (⟨by decide, by decide, by decide, by decide⟩) ?_
            refine n_if_eq 41 dX11_trench_27 (by decide) (by first | (with_reducible exact cB _) | ((with_reducible apply cN_eq0) <;> omega) | exact Iff.rfl) (fun c27 => by exfalso; first | omega | exact absurd trivial c27 | exact c27 | (simp at c27)) (fun c27 => ?_)
            refine g_iload dX11_trench_30 rfl ?_
            refine g_iconst (v := nI 1) dX11_trench_32 (by decide) ?_
            refine g_bipush (v := nI 8) dX11_trench_33 (by decide) ?_
            refine p_callS (ie) okX11_within lkX11_85 rfl dX11_trench_35 rfl (Nat.le_of_ble_eq_true rfl) (⟨by decide, by decide, by decide, by decide⟩) ?_
            refine n_if_ne 43 dX11_trench_38 (by decide) (by first | (with_reducible exact cB _) | ((with_reducible apply cN_eq0) <;> omega) | exact Iff.rfl) (fun c38 => ?_) (fun c38 => by exfalso; first | omega | exact absurd trivial c38 | exact c38 | (simp at c38))
            refine g_aload_n dX11_trench_43 rfl ?_
            refine g_getP dX11_trench_44 fdX11_21 rfl (by first | rfl | exact pv_shx) (by omega) (by omega) (by decide) rfl (hP _ _ _ rfl) ?_
            refine g_iload_n dX11_trench_47 rfl ?_
            refine g_iload_n dX11_trench_48 rfl ?_
            refine g_iload_n dX11_trench_49 rfl ?_
            refine p_callV (ho) okX2_holds lkX11_146 rfl (by first | rfl | exact pv_shx) rfl (by omega) (by omega) dX11_trench_50 rfl (Nat.le_of_ble_eq_true rfl) (⟨by decide, by decide, by decide, by decide⟩) ?_
            refine n_if_eq 83 dX11_trench_53 (by decide) (by first | (with_reducible exact cB _) | ((with_reducible apply cN_eq0) <;> omega) | exact Iff.rfl) (fun c53 => ?_) (fun c53 => by exfalso; first | omega | exact absurd trivial c53 | exact c53 | (simp at c53))
            refine g_iconst (v := (-1)) dX11_trench_83 (by decide) ?_
            exact g_iret dX11_trench_84 rfl (⟨rfl, rfl, rfl, hb, mF2.rf, Or.inr ⟨rfl, sAl.rf⟩⟩)
          · rw [if_pos v7] at ho
            by_cases v5 : cnt a 0 = 100
            · have ans : sp_trench w h a (nI cn) (nI dn) (nI nn) (nI en) = (-1, a) := by rw [sp_trench, if_neg (fun z => z.2.2.2.2.1 v5)]
              rw [ans]
              refine pvMet.of _ (by decide) rfl (Nat.le_of_ble_eq_true rfl) ?_
              refine g_aload_n dX11_trench_0 rfl ?_
              refine g_getP dX11_trench_1 fdX11_21 rfl (by first | rfl | exact pv_shx) (by omega) (by omega) (by decide) rfl (hP _ _ _ rfl) ?_
              refine g_iload_n dX11_trench_4 rfl ?_
              refine p_callV (ip) okX2_has lkX11_81 rfl (by first | rfl | exact pv_shx) rfl (by omega) (by omega) dX11_trench_5 rfl (Nat.le_of_ble_eq_true rfl) (⟨by decide, by decide, by decide, by decide⟩) ?_
              refine n_if_eq 41 dX11_trench_8 (by decide) (by first | (with_reducible exact cB _) | ((with_reducible apply cN_eq0) <;> omega) | exact Iff.rfl) (fun c8 => by exfalso; first | omega | exact absurd trivial c8 | exact c8 | (simp at c8)) (fun c8 => ?_)
              refine g_iload_n dX11_trench_11 rfl ?_
              refine g_iconst (v := nI 0) dX11_trench_12 (by decide) ?_
              refine g_iconst (v := nI 3) dX11_trench_13 (by decide) ?_
              refine p_callS (id') okX11_within lkX11_85 rfl dX11_trench_14 rfl (Nat.le_of_ble_eq_true rfl) (⟨by decide, by decide, by decide, by decide⟩) ?_
              refine n_if_eq 41 dX11_trench_17 (by decide) (by first | (with_reducible exact cB _) | ((with_reducible apply cN_eq0) <;> omega) | exact Iff.rfl) (fun c17 => by exfalso; first | omega | exact absurd trivial c17 | exact c17 | (simp at c17)) (fun c17 => ?_)
              refine g_iload_n dX11_trench_20 rfl ?_
              refine g_iconst (v := nI 1) dX11_trench_21 (by decide) ?_
              refine g_bipush (v := nI 8) dX11_trench_22 (by decide) ?_
              refine p_callS (inn) okX11_within lkX11_85 rfl dX11_trench_24 rfl (Nat.le_of_ble_eq_true rfl) (⟨by decide, by decide, by decide, by decide⟩) ?_
              refine n_if_eq 41 dX11_trench_27 (by decide) (by first | (with_reducible exact cB _) | ((with_reducible apply cN_eq0) <;> omega) | exact Iff.rfl) (fun c27 => by exfalso; first | omega | exact absurd trivial c27 | exact c27 | (simp at c27)) (fun c27 => ?_)
              refine g_iload dX11_trench_30 rfl ?_
              refine g_iconst (v := nI 1) dX11_trench_32 (by decide) ?_
              refine g_bipush (v := nI 8) dX11_trench_33 (by decide) ?_
              refine p_callS (ie) okX11_within lkX11_85 rfl dX11_trench_35 rfl (Nat.le_of_ble_eq_true rfl) (⟨by decide, by decide, by decide, by decide⟩) ?_
              refine n_if_ne 43 dX11_trench_38 (by decide) (by first | (with_reducible exact cB _) | ((with_reducible apply cN_eq0) <;> omega) | exact Iff.rfl) (fun c38 => ?_) (fun c38 => by exfalso; first | omega | exact absurd trivial c38 | exact c38 | (simp at c38))
              refine g_aload_n dX11_trench_43 rfl ?_
              refine g_getP dX11_trench_44 fdX11_21 rfl (by first | rfl | exact pv_shx) (by omega) (by omega) (by decide) rfl (hP _ _ _ rfl) ?_
              refine g_iload_n dX11_trench_47 rfl ?_
              refine g_iload_n dX11_trench_48 rfl ?_
              refine g_iload_n dX11_trench_49 rfl ?_
              refine p_callV (ho) okX2_holds lkX11_146 rfl (by first | rfl | exact pv_shx) rfl (by omega) (by omega) dX11_trench_50 rfl (Nat.le_of_ble_eq_true rfl) (⟨by decide, by decide, by decide, by decide⟩) ?_
              refine n_if_eq 83 dX11_trench_53 (by decide) (by first | (with_reducible exact cB _) | ((with_reducible apply cN_eq0) <;> omega) | exact Iff.rfl) (fun c53 => by exfalso; first | omega | exact absurd trivial c53 | exact c53 | (simp at c53)) (fun c53 => ?_)
              refine g_aload_n dX11_trench_56 rfl ?_
              refine g_getP dX11_trench_57 fdX11_32 rfl (by first | rfl | exact pv_shx) (by omega) (by omega) (by decide) rfl (hP _ _ _ rfl) ?_
              refine n_getI dX11_trench_60 fdX11_77 rfl (by first | rfl | exact pv_shx) (by omega) (by omega) (by decide) rfl (by repeat (first | exact r0 | (apply rd_s; done) | apply rd_n (by omega) | apply rp_s | apply rp_n (by omega) | (apply rdL_s; done) | apply rdL_n (by omega) | apply rpJ_s | apply rpJ_n (by omega) | rfl)) ?_
              refine g_bipush (v := nI 100) dX11_trench_63 (by decide) ?_
              refine n_icmp_ge 83 dX11_trench_65 (by decide) (by first | ((with_reducible apply cN_le) <;> omega) | ((with_reducible apply cI_len) <;> omega) | ((with_reducible apply cI_nle) <;> omega) | (with_reducible exact cI_le)) (fun c65 => ?_) (fun c65 => by exfalso; first | omega | exact absurd trivial c65 | exact c65 | (simp at c65))
              refine g_iconst (v := (-1)) dX11_trench_83 (by decide) ?_
              exact g_iret dX11_trench_84 rfl (⟨rfl, rfl, rfl, hb, mF2.rf, Or.inr ⟨rfl, sAl.rf⟩⟩)
            · by_cases v6 : cnt a 2 = 10
              · have ans : sp_trench w h a (nI cn) (nI dn) (nI nn) (nI en) = (-1, a) := by rw [sp_trench, if_neg (fun z => z.2.2.2.2.2.1 v6)]
                rw [ans]
                refine pvMet.of _ (by decide) rfl (Nat.le_of_ble_eq_true rfl) ?_
                refine g_aload_n dX11_trench_0 rfl ?_
                refine g_getP dX11_trench_1 fdX11_21 rfl (by first | rfl | exact pv_shx) (by omega) (by omega) (by decide) rfl (hP _ _ _ rfl) ?_
                refine g_iload_n dX11_trench_4 rfl ?_
                refine p_callV (ip) okX2_has lkX11_81 rfl (by first | rfl | exact pv_shx) rfl (by omega) (by omega) dX11_trench_5 rfl (Nat.le_of_ble_eq_true rfl) (⟨by decide, by decide, by decide, by decide⟩) ?_
                refine n_if_eq 41 dX11_trench_8 (by decide) (by first | (with_reducible exact cB _) | ((with_reducible apply cN_eq0) <;> omega) | exact Iff.rfl) (fun c8 => by exfalso; first | omega | exact absurd trivial c8 | exact c8 | (simp at c8)) (fun c8 => ?_)
                refine g_iload_n dX11_trench_11 rfl ?_
                refine g_iconst (v := nI 0) dX11_trench_12 (by decide) ?_
                refine g_iconst (v := nI 3) dX11_trench_13 (by decide) ?_
                refine p_callS (id') okX11_within lkX11_85 rfl dX11_trench_14 rfl (Nat.le_of_ble_eq_true rfl) (⟨by decide, by decide, by decide, by decide⟩) ?_
                refine n_if_eq 41 dX11_trench_17 (by decide) (by first | (with_reducible exact cB _) | ((with_reducible apply cN_eq0) <;> omega) | exact Iff.rfl) (fun c17 => by exfalso; first | omega | exact absurd trivial c17 | exact c17 | (simp at c17)) (fun c17 => ?_)
                refine g_iload_n dX11_trench_20 rfl ?_
                refine g_iconst (v := nI 1) dX11_trench_21 (by decide) ?_
                refine g_bipush (v := nI 8) dX11_trench_22 (by decide) ?_
                refine p_callS (inn) okX11_within lkX11_85 rfl dX11_trench_24 rfl (Nat.le_of_ble_eq_true rfl) (⟨by decide, by decide, by decide, by decide⟩) ?_
                refine n_if_eq 41 dX11_trench_27 (by decide) (by first | (with_reducible exact cB _) | ((with_reducible apply cN_eq0) <;> omega) | exact Iff.rfl) (fun c27 => by exfalso; first | omega | exact absurd trivial c27 | exact c27 | (simp at c27)) (fun c27 => ?_)
                refine g_iload dX11_trench_30 rfl ?_
                refine g_iconst (v := nI 1) dX11_trench_32 (by decide) ?_
                refine g_bipush (v := nI 8) dX11_trench_33 (by decide) ?_
                refine p_callS (ie) okX11_within lkX11_85 rfl dX11_trench_35 rfl (Nat.le_of_ble_eq_true rfl) (⟨by decide, by decide, by decide, by decide⟩) ?_
                refine n_if_ne 43 dX11_trench_38 (by decide) (by first | (with_reducible exact cB _) | ((with_reducible apply cN_eq0) <;> omega) | exact Iff.rfl) (fun c38 => ?_) (fun c38 => by exfalso; first | omega | exact absurd trivial c38 | exact c38 | (simp at c38))
                refine g_aload_n dX11_trench_43 rfl ?_
                refine g_getP dX11_trench_44 fdX11_21 rfl (by first | rfl | exact pv_shx) (by omega) (by omega) (by decide) rfl (hP _ _ _ rfl) ?_
                refine g_iload_n dX11_trench_47 rfl ?_
                refine g_iload_n dX11_trench_48 rfl ?_
                refine g_iload_n dX11_trench_49 rfl ?_
                refine p_callV (ho) okX2_holds lkX11_146 rfl (by first | rfl | exact pv_shx) rfl (by omega) (by omega) dX11_trench_50 rfl (Nat.le_of_ble_eq_true rfl) (⟨by decide, by decide, by decide, by decide⟩) ?_
                refine n_if_eq 83 dX11_trench_53 (by decide) (by first | (with_reducible exact cB _) | ((with_reducible apply cN_eq0) <;> omega) | exact Iff.rfl) (fun c53 => by exfalso; first | omega | exact absurd trivial c53 | exact c53 | (simp at c53)) (fun c53 => ?_)
                refine g_aload_n dX11_trench_56 rfl ?_
                refine g_getP dX11_trench_57 fdX11_32 rfl (by first | rfl | exact pv_shx) (by omega) (by omega) (by decide) rfl (hP _ _ _ rfl) ?_
                refine n_getI dX11_trench_60 fdX11_77 rfl (by first | rfl | exact pv_shx) (by omega) (by omega) (by decide) rfl (by repeat (first | exact r0 | exact r2 | (apply rd_s; done) | apply rd_n (by omega) | apply rp_s | apply rp_n (by omega) | (apply rdL_s; done) | apply rdL_n (by omega) | apply rpJ_s | apply rpJ_n (by omega) | rfl)) ?_
                refine g_bipush (v := nI 100) dX11_trench_63 (by decide) ?_
                refine n_icmp_ge 83 dX11_trench_65 (by decide) (by first | ((with_reducible apply cN_le) <;> omega) | ((with_reducible apply cI_len) <;> omega) | ((with_reducible apply cI_nle) <;> omega) | (with_reducible exact cI_le)) (fun c65 => by exfalso; first | omega | exact absurd trivial c65 | exact c65 | (simp at c65)) (fun c65 => ?_)
                refine g_aload_n dX11_trench_68 rfl ?_
                refine g_getP dX11_trench_69 fdX11_32 rfl (by first | rfl | exact pv_shx) (by omega) (by omega) (by decide) rfl (hP _ _ _ rfl) ?_
                refine g_getP dX11_trench_72 fdX11_112 rfl (by first | rfl | exact pv_shx) (by omega) (by omega) (by decide) rfl (hP _ _ _ rfl) ?_
                refine n_getI dX11_trench_75 fdX11_149 rfl (by first | rfl | exact pv_shx) (by omega) (by omega) (by decide) rfl (by repeat (first | exact r0 | exact r2 | (apply rd_s; done) | apply rd_n (by omega) | apply rp_s | apply rp_n (by omega) | (apply rdL_s; done) | apply rdL_n (by omega) | apply rpJ_s | apply rpJ_n (by omega) | rfl)) ?_
                refine g_bipush (v := nI 10) dX11_trench_78 (by decide) ?_
                refine n_icmp_lt 85 dX11_trench_80 (by decide) (by first | ((with_reducible apply cN_lt) <;> omega) | ((with_reducible apply cI_ltn) <;> omega) | ((with_reducible apply cI_nlt) <;> omega) | (with_reducible exact cI_lt)) (fun c80 => by exfalso; first | omega | exact absurd trivial c80 | exact c80 | (simp at c80)) (fun c80 => ?_)
                refine g_iconst (v := (-1)) dX11_trench_83 (by decide) ?_
                exact g_iret dX11_trench_84 rfl (⟨rfl, rfl, rfl, hb, mF2.rf, Or.inr ⟨rfl, sAl.rf⟩⟩)
              · have ha2 := (mG_eq hi.1.1 (i := 2) (by decide)).1
                have ha0 := (mG_eq hi.1.1 (i := 0) (by decide)).1
                have ans : sp_trench w h a (nI cn) (nI dn) (nI nn) (nI en) = (nI (cnt a 2), upd (upd (upd (upd (upd (upd a (210 + 5 * cnt a 2) (nI cn)) (210 + 5 * cnt a 2 + 1) (nI dn)) (210 + 5 * cnt a 2 + 2) (nI nn)) (210 + 5 * cnt a 2 + 3) (nI en)) (210 + 5 * cnt a 2 + 4) (nI (cnt a 0))) 2 (nI (cnt a 2 + 1))) := by rw [sp_trench, if_pos ⟨v1, by omega, v3, v4, v5, v6, by rw [nI_clamp (by omega), nI_clamp (by omega), nI_clamp (by omega)]; exact v7⟩, ← ha2, ← ha0]
                rw [ans]
                obtain ⟨x1, x2, x3, x4, x5, x6⟩ := hb.2.1.2.2.1
                have cf := c_changedFrom (k := cnt a 0) hP hb.2.2.1 (by omega)
                have htr := hi.1.2.2.2.1
                generalize hN : cnt a 2 = N at *
                generalize hK : cnt a 0 = clk at *
                generalize hA : upd (upd (upd (upd (upd (upd a (210 + 5 * N) (nI cn)) (210 + 5 * N + 1) (nI dn)) (210 + 5 * N + 2) (nI nn)) (210 + 5 * N + 3) (nI en)) (210 + 5 * N + 4) (nI clk)) 2 (nI (N + 1)) = A
                have u : ∀ {i}, i ≠ 2 → (i < 210 + 5 * N ∨ 210 + 5 * N + 4 < i) → A i = a i := fun z1 z2 => by rw [← hA, updI z1, updI (by omega), updI (by omega), updI (by omega), updI (by omega), updI (by omega)]
                have uc : ∀ {i}, i ≠ 2 → (i < 210 + 5 * N ∨ 210 + 5 * N + 4 < i) → cnt A i = cnt a i := fun z1 z2 => by unfold cnt; rw [u z1 z2]
                have u2 : A 2 = nI (N + 1) := by rw [← hA, updS]
                have c2 : cnt A 2 = N + 1 := cnt_of u2 (by omega)
                have w0 : A (210 + 5 * N) = nI cn := by rw [← hA, updI (by omega), updI (by omega), updI (by omega), updI (by omega), updI (by omega), updS]
                have w1 : A (210 + 5 * N + 1) = nI dn := by rw [← hA, updI (by omega), updI (by omega), updI (by omega), updI (by omega), updS]
                have w2 : A (210 + 5 * N + 2) = nI nn := by rw [← hA, updI (by omega), updI (by omega), updI (by omega), updS]
                have w3 : A (210 + 5 * N + 3) = nI en := by rw [← hA, updI (by omega), updI (by omega), updS]
                have w4 : A (210 + 5 * N + 4) = nI clk := by rw [← hA, updI (by omega), updS]
                have ga : ∀ lo hi', (hi' ≤ 2 ∨ (3 ≤ lo ∧ hi' ≤ 210) ∨ 260 ≤ lo) → ag lo hi' a A := fun lo hi' hz i z1 z2 => u (by omega) (by omega)
                have hg' : mG A := hi.1.1.one (i := 2) (v := N + 1) (by decide) (show N + 1 ≤ 10 by omega) u2 (fun j z1 z2 => u z2 (by omega))
                have hl : mTrench w h A := fun q hq => by
                  rw [c2] at hq
                  by_cases e : q = N
                  · subst e
                    rw [w0, w1, w2, w3, w4]
                    exact ⟨cn, dn, nn, en, clk, hcn, hdn, by omega, by omega, by omega, rfl, rfl, rfl, rfl, rfl, v7⟩
                  · rw [u (i := 210 + 5 * q) (by omega) (by omega), u (i := 210 + 5 * q + 1) (by omega) (by omega), u (i := 210 + 5 * q + 2) (by omega) (by omega), u (i := 210 + 5 * q + 3) (by omega) (by omega), u (i := 210 + 5 * q + 4) (by omega) (by omega)]
                    exact htr q (by omega)
                have tn : tr_n A N = nn := cnt_of w2 (by omega)
                have tw : ∀ i, tr_w A N i = clk + i / en := fun i => by unfold tr_w; rw [cnt_of w4 (by omega), cnt_of w3 (by omega)]
                have tc : ∀ i, tr_c w h A N i = sp_go w h dn i cn := fun i => by unfold tr_c; rw [cnt_of w1 (by omega), cnt_of w0 (by omega)]
                have cwn : ∀ {j x}, cutw w h A j x = (cutw w h a j x || anyB (fun i => decide (tr_w A N i = j ∧ tr_c w h A N i = some x)) (tr_n A N)) := fun {j x} => cutw_new c2 hN (fun t ht d hd => uc (by omega) (by omega))
                refine pvMet.of _ (by decide) rfl (Nat.le_of_ble_eq_true rfl) ?_
                refine g_aload_n dX11_trench_0 rfl ?_
                refine g_getP dX11_trench_1 fdX11_21 rfl (by first | rfl | exact pv_shx) (by omega) (by omega) (by decide) rfl (hP _ _ _ rfl) ?_
                refine g_iload_n dX11_trench_4 rfl ?_
                refine p_callV (ip) okX2_has lkX11_81 rfl (by first | rfl | exact pv_shx) rfl (by omega) (by omega) dX11_trench_5 rfl (Nat.le_of_ble_eq_true rfl) (⟨by decide, by decide, by decide, by decide⟩) ?_
                refine n_if_eq 41 dX11_trench_8 (by decide) (by first | (with_reducible exact cB _) | ((with_reducible apply cN_eq0) <;> omega) | exact Iff.rfl) (fun c8 => by exfalso; first | omega | exact absurd trivial c8 | exact c8 | (simp at c8)) (fun c8 => ?_)
                refine g_iload_n dX11_trench_11 rfl ?_
                refine g_iconst (v := nI 0) dX11_trench_12 (by decide) ?_
                refine g_iconst (v := nI 3) dX11_trench_13 (by decide) ?_
                refine p_callS (id') okX11_within lkX11_85 rfl dX11_trench_14 rfl (Nat.le_of_ble_eq_true rfl) (⟨by decide, by decide, by decide, by decide⟩) ?_
                refine n_if_eq 41 dX11_trench_17 (by decide) (by first | (with_reducible exact cB _) | ((with_reducible apply cN_eq0) <;> omega) | exact Iff.rfl) (fun c17 => by exfalso; first | omega | exact absurd trivial c17 | exact c17 | (simp at c17)) (fun c17 => ?_)
                refine g_iload_n dX11_trench_20 rfl ?_
                refine g_iconst (v := nI 1) dX11_trench_21 (by decide) ?_
                refine g_bipush (v := nI 8) dX11_trench_22 (by decide) ?_
                refine p_callS (inn) okX11_within lkX11_85 rfl dX11_trench_24 rfl (Nat.le_of_ble_eq_true rfl) (⟨by decide, by decide, by decide, by decide⟩) ?_
                refine n_if_eq 41 dX11_trench_27 (by decide) (by first | (with_reducible exact cB _) | ((with_reducible apply cN_eq0) <;> omega) | exact Iff.rfl) (fun c27 => by exfalso; first | omega | exact absurd trivial c27 | exact c27 | (simp at c27)) (fun c27 => ?_)
                refine g_iload dX11_trench_30 rfl ?_
                refine g_iconst (v := nI 1) dX11_trench_32 (by decide) ?_
                refine g_bipush (v := nI 8) dX11_trench_33 (by decide) ?_
                refine p_callS (ie) okX11_within lkX11_85 rfl dX11_trench_35 rfl (Nat.le_of_ble_eq_true rfl) (⟨by decide, by decide, by decide, by decide⟩) ?_
                refine n_if_ne 43 dX11_trench_38 (by decide) (by first | (with_reducible exact cB _) | ((with_reducible apply cN_eq0) <;> omega) | exact Iff.rfl) (fun c38 => ?_) (fun c38 => by exfalso; first | omega | exact absurd trivial c38 | exact c38 | (simp at c38))
                refine g_aload_n dX11_trench_43 rfl ?_
                refine g_getP dX11_trench_44 fdX11_21 rfl (by first | rfl | exact pv_shx) (by omega) (by omega) (by decide) rfl (hP _ _ _ rfl) ?_
                refine g_iload_n dX11_trench_47 rfl ?_
                refine g_iload_n dX11_trench_48 rfl ?_
                refine g_iload_n dX11_trench_49 rfl ?_
                refine p_callV (ho) okX2_holds lkX11_146 rfl (by first | rfl | exact pv_shx) rfl (by omega) (by omega) dX11_trench_50 rfl (Nat.le_of_ble_eq_true rfl) (⟨by decide, by decide, by decide, by decide⟩) ?_
                refine n_if_eq 83 dX11_trench_53 (by decide) (by first | (with_reducible exact cB _) | ((with_reducible apply cN_eq0) <;> omega) | exact Iff.rfl) (fun c53 => by exfalso; first | omega | exact absurd trivial c53 | exact c53 | (simp at c53)) (fun c53 => ?_)
                refine g_aload_n dX11_trench_56 rfl ?_
                refine g_getP dX11_trench_57 fdX11_32 rfl (by first | rfl | exact pv_shx) (by omega) (by omega) (by decide) rfl (hP _ _ _ rfl) ?_
                refine n_getI dX11_trench_60 fdX11_77 rfl (by first | rfl | exact pv_shx) (by omega) (by omega) (by decide) rfl (by repeat (first | exact r0 | exact r2 | (apply rd_s; done) | apply rd_n (by omega) | apply rp_s | apply rp_n (by omega) | (apply rdL_s; done) | apply rdL_n (by omega) | apply rpJ_s | apply rpJ_n (by omega) | rfl)) ?_
                refine g_bipush (v := nI 100) dX11_trench_63 (by decide) ?_
                refine n_icmp_ge 83 dX11_trench_65 (by decide) (by first | ((with_reducible apply cN_le) <;> omega) | ((with_reducible apply cI_len) <;> omega) | ((with_reducible apply cI_nle) <;> omega) | (with_reducible exact cI_le)) (fun c65 => by exfalso; first | omega | exact absurd trivial c65 | exact c65 | (simp at c65)) (fun c65 => ?_)
                refine g_aload_n dX11_trench_68 rfl ?_
                refine g_getP dX11_trench_69 fdX11_32 rfl (by first | rfl | exact pv_shx) (by omega) (by omega) (by decide) rfl (hP _ _ _ rfl) ?_
                refine g_getP dX11_trench_72 fdX11_112 rfl (by first | rfl | exact pv_shx) (by omega) (by omega) (by decide) rfl (hP _ _ _ rfl) ?_
                refine n_getI dX11_trench_75 fdX11_149 rfl (by first | rfl | exact pv_shx) (by omega) (by omega) (by decide) rfl (by repeat (first | exact r0 | exact r2 | (apply rd_s; done) | apply rd_n (by omega) | apply rp_s | apply rp_n (by omega) | (apply rdL_s; done) | apply rdL_n (by omega) | apply rpJ_s | apply rpJ_n (by omega) | rfl)) ?_
                refine g_bipush (v := nI 10) dX11_trench_78 (by decide) ?_
                refine n_icmp_lt 85 dX11_trench_80 (by decide) (by first | ((with_reducible apply cN_lt) <;> omega) | ((with_reducible apply cI_ltn) <;> omega) | ((with_reducible apply cI_nlt) <;> omega) | (with_reducible exact cI_lt)) (fun c80 => ?_) (fun c80 => by exfalso; first | omega | exact absurd trivial c80 | exact c80 | (simp at c80))
                refine g_aload_n dX11_trench_85 rfl ?_
                refine g_aload_n dX11_trench_86 rfl ?_
                refine g_getP dX11_trench_87 fdX11_32 rfl (by first | rfl | exact pv_shx) (by omega) (by omega) (by decide) rfl (hP _ _ _ rfl) ?_
                refine n_getI dX11_trench_90 fdX11_77 rfl (by first | rfl | exact pv_shx) (by omega) (by omega) (by decide) rfl (by repeat (first | exact r0 | exact r2 | (apply rd_s; done) | apply rd_n (by omega) | apply rp_s | apply rp_n (by omega) | (apply rdL_s; done) | apply rdL_n (by omega) | apply rpJ_s | apply rpJ_n (by omega) | rfl)) ?_
                refine g_callV (cf) okX11_changedFrom lkX11_99 rfl (by first | rfl | exact pv_shx) rfl (by omega) (by omega) dX11_trench_93 rfl (Nat.le_of_ble_eq_true rfl) (⟨by decide, by decide, by decide, by decide⟩) ?_
                rintro v nx' I1 J1 P' ⟨rfl, rfl, rfl, rfl, q1⟩
                have f9 : I1 9 5 = nI N := by rw [q1.o (x := 9) (by omega) (by omega)]; exact r2
                have f3 : I1 3 0 = nI clk := by rw [q1.o (x := 3) (by omega) (by omega)]; exact r0
                have gg := hb.1.mv (q1.o (x := 2) (by omega) (by omega)) (rfl : J1 2 = J1 2)
                have st := c_step (P := P') (d := dn) gg (by omega)
                have hw0 := hb.1.2.2.2.2.2.2.1
                have dg := c_dig (w := w) (h := h) (I := I1) (J := J1) (N := N) (c := cn) (d := dn) (n := nn) (e := en) (k := clk) (F := fun m => cutb w h a (m + 1)) hP f9 (by omega) hcn (by omega) hwh.2 (by omega) (by omega) (by omega) (by omega) (fun i hi' => by
                  cases hy : sp_go w h dn i cn with
                  | some y => exact ⟨y, rfl⟩
                  | none => exact absurd (sp_go_none hy (show i ≤ nn - 1 by omega)) v7) x6
                refine g_aload_n dX11_trench_96 rfl ?_
                refine g_getP dX11_trench_97 fdX11_32 rfl (by first | rfl | exact pv_shx) (by omega) (by omega) (by decide) rfl (hP _ _ _ rfl) ?_
                refine g_getP dX11_trench_100 fdX11_112 rfl (by first | rfl | exact pv_shx) (by omega) (by omega) (by decide) rfl (hP _ _ _ rfl) ?_
                refine g_iload_n dX11_trench_103 rfl ?_
                refine g_aload_n dX11_trench_104 rfl ?_
                refine g_getP dX11_trench_105 fdX11_21 rfl (by first | rfl | exact pv_shx) (by omega) (by omega) (by decide) rfl (hP _ _ _ rfl) ?_
                refine g_iload_n dX11_trench_108 rfl ?_
                refine p_callV (st) okX2_step lkX11_152 rfl (by first | rfl | exact pv_shx) rfl (by omega) (by omega) dX11_trench_109 rfl (Nat.le_of_ble_eq_true rfl) (⟨by decide, by decide, by decide, by decide⟩) ?_
                refine g_iload_n dX11_trench_112 rfl ?_
                refine g_iload dX11_trench_113 rfl ?_
                refine g_aload_n dX11_trench_115 rfl ?_
                refine g_getP dX11_trench_116 fdX11_32 rfl (by first | rfl | exact pv_shx) (by omega) (by omega) (by decide) rfl (hP _ _ _ rfl) ?_
                refine n_getI dX11_trench_119 fdX11_77 rfl (by first | rfl | exact pv_shx) (by omega) (by omega) (by decide) rfl (by repeat (first | exact f3 | (apply rd_s; done) | apply rd_n (by omega) | apply rp_s | apply rp_n (by omega) | (apply rdL_s; done) | apply rdL_n (by omega) | apply rpJ_s | apply rpJ_n (by omega) | rfl)) ?_
                refine g_callV (dg) okX9_dig lkX11_156 rfl (by first | rfl | exact pv_shx) rfl (by omega) (by omega) dX11_trench_122 rfl (Nat.le_of_ble_eq_true rfl) (⟨by decide, by decide, by decide, by decide⟩) ?_
                rintro v nx' I2 J2 P'' ⟨rfl, rfl, rfl, e14, e15, e16, e17, e18, e9, eo, ec, ej⟩
                have hw := hb.1.2.2.2.2.2.2.1
                have o : ∀ z, (z < 9 ∨ (9 < z ∧ z < 14) ∨ 18 < z) → z ≠ 43 → (z < 90 ∨ 138 ≤ z) → I2 z = I z := fun z z1 z2 z3 => (eo z z1).trans (q1.o z2 z3)
                have ht : rWrk w h 3 A I2 J2 := by
                  refine ⟨?_, ?_, ?_, ?_, ?_, ?_⟩
                  · show I2 9 0 = _
                    rw [e9, updI (by decide), q1.o (x := 9) (by omega) (by omega), u (by omega) (by omega)]; exact x1
                  · intro q hq
                    rw [uc (by omega) (by omega)] at hq
                    rw [o (3 + 7) (by omega) (by omega) (by omega), o (3 + 8) (by omega) (by omega) (by omega), o (3 + 9) (by omega) (by omega) (by omega), u (i := 150 + 3 * q) (by omega) (by omega), u (i := 150 + 3 * q + 1) (by omega) (by omega), u (i := 150 + 3 * q + 2) (by omega) (by omega)]
                    exact x2 q hq
                  · intro m hm
                    rw [ej (3 + 10) (by omega), hoB.fr hi.1.1 (ga _ _ (by omega)) (ga _ _ (by omega))]; exact x3 m hm
                  · show I2 9 5 = _
                    rw [e9, updS, u2]
                  · intro t ht
                    rw [c2] at ht
                    show I2 14 t = _ ∧ I2 15 t = _ ∧ I2 16 t = _ ∧ I2 17 t = _ ∧ I2 18 t = _
                    rw [e14, e15, e16, e17, e18, q1.o (x := 14) (by omega) (by omega), q1.o (x := 15) (by omega) (by omega), q1.o (x := 16) (by omega) (by omega), q1.o (x := 17) (by omega) (by omega), q1.o (x := 18) (by omega) (by omega)]
                    by_cases e : t = N
                    · subst e
                      rw [updS, updS, updS, updS, updS, w0, w2, w3, w4, cnt_of w1 (by omega)]
                      exact ⟨rfl, rfl, rfl, rfl, rfl⟩
                    · rw [updI e, updI e, updI e, updI e, updI e, u (i := 210 + 5 * t) (by omega) (by omega), uc (i := 210 + 5 * t + 1) (by omega) (by omega), u (i := 210 + 5 * t + 2) (by omega) (by omega), u (i := 210 + 5 * t + 3) (by omega) (by omega), u (i := 210 + 5 * t + 4) (by omega) (by omega)]
                      exact x5 t (by omega)
                  · intro m hm
                    show J2 19 m = _
                    rw [ec m hm]
                    apply mk_cong
                    intro x _
                    apply bool_eq
                    rw [cutb_iff]
                    unfold dgB
                    rw [Bool.or_eq_true, cutb_iff, anyB_iff]
                    constructor
                    · rintro (⟨j, z1, z2⟩ | ⟨i, z1, z2⟩)
                      · exact ⟨j, z1, by rw [cwn, z2]; rfl⟩
                      · rw [Bool.and_eq_true, decide_eq_true_iff, decide_eq_true_iff] at z2
                        have z3 : clk + i / en ≤ m := z2.1
                        refine ⟨clk + i / en, Nat.lt_succ_of_le z3, ?_⟩
                        rw [cwn, Bool.or_eq_true]
                        exact Or.inr (anyB_iff.mpr ⟨i, by rw [tn]; exact z1, decide_eq_true ⟨tw i, (tc i).trans z2.2⟩⟩)
                    · rintro ⟨j, z1, z2⟩
                      rw [cwn, Bool.or_eq_true] at z2
                      rcases z2 with z2 | z2
                      · exact Or.inl ⟨j, z1, z2⟩
                      · obtain ⟨i, y1, y2⟩ := anyB_iff.mp z2
                        rw [tn] at y1
                        have y3 := of_decide_eq_true y2
                        rw [tw i, tc i] at y3
                        refine Or.inr ⟨i, y1, ?_⟩
                        rw [Bool.and_eq_true, decide_eq_true_iff, decide_eq_true_iff]
                        have y4 := y3.1
                        exact ⟨show clk + i / en ≤ m by omega, y3.2⟩
                have hcw : ∀ j, j < clk → cutw w h A j = cutw w h a j := fun j hj => by
                  funext x
                  have : anyB (fun i => decide (tr_w A N i = j ∧ tr_c w h A N i = some x)) (tr_n A N) = false := Bool.eq_false_iff.mpr (fun z => by
                    obtain ⟨i, -, y2⟩ := anyB_iff.mp z
                    have := (of_decide_eq_true y2).1
                    rw [tw i] at this
                    have h0 := Nat.le_add_right clk (i / en)
                    omega)
                  rw [cwn, this, Bool.or_false]
                have hf' : rFir w h A I2 J2 := (hb.2.2.1.chg q1 (by omega) (uc (by omega) (by omega)) (fun s hs => ⟨u (by omega) (by omega), u (by omega) (by omega)⟩) (fun s j _ h8 hj hj2 => fwk_cong (by omega) hwh.2 ⟨fun c hc => uc (by omega) (by omega), fun c hc => uc (by omega) (by omega), uc (by omega) (by omega), uc (by omega) (by omega), uc (by omega) (by omega)⟩ ⟨uc (by omega) (by omega), uc (by omega) (by omega)⟩ (fun i z => hcw i (by omega)) (fun i z c hc => flw.fr (Or.inl rfl) (ga _ _ (by omega)) (i + 1) (by omega) c hc) (fun i _ => hoB.fr hi.1.1 (ga _ _ (by omega)) (ga _ _ (by omega))))).mv (fun x z1 z2 => eo x (by omega)) (fun x z1 z2 => ej x (by omega))
                have fin := hb.wrk (I' := I2) (J' := J2) (fun z z1 z2 z3 => o z (by omega) z2 z3) (fun z hz => ej z (by omega)) (by rw [eo 43 (by omega)]; exact q1.wk.1) (ga _ _ (by omega)) (ga _ _ (by omega)) (ga _ _ (by omega)) (ga _ _ (by omega)) ht hg' hl (hi.1.2.2.2.2.1.fr hi.1.1 (ga _ _ (by omega)) (ga _ _ (by omega))) hf'
                exact g_iret dX11_trench_125 rfl (⟨rfl, rfl, rfl, fin, fun z hz => ⟨o z (by omega) (by omega) (by omega), ej z (by omega)⟩, Or.inl (by rw [eo 43 (by omega)]; exact q1.wk.2)⟩)
        · rw [if_neg v4] at ie
          have ans : sp_trench w h a c d n e = (-1, a) := by rw [sp_trench, if_neg (fun z => v4 z.2.2.2.1)]
          rw [ans]
          refine pvMet.of _ (by decide) rfl (Nat.le_of_ble_eq_true rfl) ?_
          refine g_aload_n dX11_trench_0 rfl ?_
          refine g_getP dX11_trench_1 fdX11_21 rfl (by first | rfl | exact pv_shx) (by omega) (by omega) (by decide) rfl (hP _ _ _ rfl) ?_
          refine g_iload_n dX11_trench_4 rfl ?_
          refine p_callV (ip) okX2_has lkX11_81 rfl (by first | rfl | exact pv_shx) rfl (by omega) (by omega) dX11_trench_5 rfl (Nat.le_of_ble_eq_true rfl) (⟨by decide, by decide, by decide, by decide⟩) ?_
          refine n_if_eq 41 dX11_trench_8 (by decide) (by first | (with_reducible exact cB _) | ((with_reducible apply cN_eq0) <;> omega) | exact Iff.rfl) (fun c8 => by exfalso; first | omega | exact absurd trivial c8 | exact c8 | (simp at c8)) (fun c8 => ?_)
          refine g_iload_n dX11_trench_11 rfl ?_
          refine g_iconst (v := nI 0) dX11_trench_12 (by decide) ?_
          refine g_iconst (v := nI 3) dX11_trench_13 (by decide) ?_
          refine p_callS (id') okX11_within lkX11_85 rfl dX11_trench_14 rfl (Nat.le_of_ble_eq_true rfl) (⟨by decide, by decide, by decide, by decide⟩) ?_
          refine n_if_eq 41 dX11_trench_17 (by decide) (by first | (with_reducible exact cB _) | ((with_reducible apply cN_eq0) <;> omega) | exact Iff.rfl) (fun c17 => by exfalso; first | omega | exact absurd trivial c17 | exact c17 | (simp at c17)) (fun c17 => ?_)
          refine g_iload_n dX11_trench_20 rfl ?_
          refine g_iconst (v := nI 1) dX11_trench_21 (by decide) ?_
          refine g_bipush (v := nI 8) dX11_trench_22 (by decide) ?_
          refine p_callS (inn) okX11_within lkX11_85 rfl dX11_trench_24 rfl (Nat.le_of_ble_eq_true rfl) (⟨by decide, by decide, by decide, by decide⟩) ?_
          refine n_if_eq 41 dX11_trench_27 (by decide) (by first | (with_reducible exact cB _) | ((with_reducible apply cN_eq0) <;> omega) | exact Iff.rfl) (fun c27 => by exfalso; first | omega | exact absurd trivial c27 | exact c27 | (simp at c27)) (fun c27 => ?_)
          refine g_iload dX11_trench_30 rfl ?_
          refine g_iconst (v := nI 1) dX11_trench_32 (by decide) ?_
          refine g_bipush (v := nI 8) dX11_trench_33 (by decide) ?_
          refine p_callS (ie) okX11_within lkX11_85 rfl dX11_trench_35 rfl (Nat.le_of_ble_eq_true rfl) (⟨by decide, by decide, by decide, by decide⟩) ?_
          refine n_if_ne 43 dX11_trench_38 (by decide) (by first | (with_reducible exact cB _) | ((with_reducible apply cN_eq0) <;> omega) | exact Iff.rfl) (fun c38 => by exfalso; first | omega | exact absurd trivial c38 | exact c38 | (simp at c38)) (fun c38 => ?_)
          refine g_iconst (v := (-1)) dX11_trench_41 (by decide) ?_
          exact g_iret dX11_trench_42 rfl (⟨rfl, rfl, rfl, hb, mF2.rf, Or.inr ⟨rfl, sAl.rf⟩⟩)
      · rw [if_neg v3] at inn
        have ans : sp_trench w h a c d n e = (-1, a) := by rw [sp_trench, if_neg (fun z => v3 z.2.2.1)]
        rw [ans]
        refine pvMet.of _ (by decide) rfl (Nat.le_of_ble_eq_true rfl) ?_
        refine g_aload_n dX11_trench_0 rfl ?_
        refine g_getP dX11_trench_1 fdX11_21 rfl (by first | rfl | exact pv_shx) (by omega) (by omega) (by decide) rfl (hP _ _ _ rfl) ?_
        refine g_iload_n dX11_trench_4 rfl ?_
        refine p_callV (ip) okX2_has lkX11_81 rfl (by first | rfl | exact pv_shx) rfl (by omega) (by omega) dX11_trench_5 rfl (Nat.le_of_ble_eq_true rfl) (⟨by decide, by decide, by decide, by decide⟩) ?_
        refine n_if_eq 41 dX11_trench_8 (by decide) (by first | (with_reducible exact cB _) | ((with_reducible apply cN_eq0) <;> omega) | exact Iff.rfl) (fun c8 => by exfalso; first | omega | exact absurd trivial c8 | exact c8 | (simp at c8)) (fun c8 => ?_)
        refine g_iload_n dX11_trench_11 rfl ?_
        refine g_iconst (v := nI 0) dX11_trench_12 (by decide) ?_
        refine g_iconst (v := nI 3) dX11_trench_13 (by decide) ?_
        refine p_callS (id') okX11_within lkX11_85 rfl dX11_trench_14 rfl (Nat.le_of_ble_eq_true rfl) (⟨by decide, by decide, by decide, by decide⟩) ?_
        refine n_if_eq 41 dX11_trench_17 (by decide) (by first | (with_reducible exact cB _) | ((with_reducible apply cN_eq0) <;> omega) | exact Iff.rfl) (fun c17 => by exfalso; first | omega | exact absurd trivial c17 | exact c17 | (simp at c17)) (fun c17 => ?_)
        refine g_iload_n dX11_trench_20 rfl ?_
        refine g_iconst (v := nI 1) dX11_trench_21 (by decide) ?_
        refine g_bipush (v := nI 8) dX11_trench_22 (by decide) ?_
        refine p_callS (inn) okX11_within lkX11_85 rfl dX11_trench_24 rfl (Nat.le_of_ble_eq_true rfl) (⟨by decide, by decide, by decide, by decide⟩) ?_
        refine n_if_eq 41 dX11_trench_27 (by decide) (by first | (with_reducible exact cB _) | ((with_reducible apply cN_eq0) <;> omega) | exact Iff.rfl) (fun c27 => ?_) (fun c27 => by exfalso; first | omega | exact absurd trivial c27 | exact c27 | (simp at c27))
        refine g_iconst (v := (-1)) dX11_trench_41 (by decide) ?_
        exact g_iret dX11_trench_42 rfl (⟨rfl, rfl, rfl, hb, mF2.rf, Or.inr ⟨rfl, sAl.rf⟩⟩)
    · rw [if_neg v2] at id'
      have ans : sp_trench w h a c d n e = (-1, a) := by rw [sp_trench, if_neg (fun z => v2 z.2.1)]
      rw [ans]
      refine pvMet.of _ (by decide) rfl (Nat.le_of_ble_eq_true rfl) ?_
      refine g_aload_n dX11_trench_0 rfl ?_
      refine g_getP dX11_trench_1 fdX11_21 rfl (by first | rfl | exact pv_shx) (by omega) (by omega) (by decide) rfl (hP _ _ _ rfl) ?_
      refine g_iload_n dX11_trench_4 rfl ?_
      refine p_callV (ip) okX2_has lkX11_81 rfl (by first | rfl | exact pv_shx) rfl (by omega) (by omega) dX11_trench_5 rfl (Nat.le_of_ble_eq_true rfl) (⟨by decide, by decide, by decide, by decide⟩) ?_
      refine n_if_eq 41 dX11_trench_8 (by decide) (by first | (with_reducible exact cB _) | ((with_reducible apply cN_eq0) <;> omega) | exact Iff.rfl) (fun c8 => by exfalso; first | omega | exact absurd trivial c8 | exact c8 | (simp at c8)) (fun c8 => ?_)
      refine g_iload_n dX11_trench_11 rfl ?_
      refine g_iconst (v := nI 0) dX11_trench_12 (by decide) ?_
      refine g_iconst (v := nI 3) dX11_trench_13 (by decide) ?_
      refine p_callS (id') okX11_within lkX11_85 rfl dX11_trench_14 rfl (Nat.le_of_ble_eq_true rfl) (⟨by decide, by decide, by decide, by decide⟩) ?_
      refine n_if_eq 41 dX11_trench_17 (by decide) (by first | (with_reducible exact cB _) | ((with_reducible apply cN_eq0) <;> omega) | exact Iff.rfl) (fun c17 => ?_) (fun c17 => by exfalso; first | omega | exact absurd trivial c17 | exact c17 | (simp at c17))
      refine g_iconst (v := (-1)) dX11_trench_41 (by decide) ?_
      exact g_iret dX11_trench_42 rfl (⟨rfl, rfl, rfl, hb, mF2.rf, Or.inr ⟨rfl, sAl.rf⟩⟩)
  · rw [if_neg v1] at ip
    have ans : sp_trench w h a c d n e = (-1, a) := by rw [sp_trench, if_neg (fun z => v1 z.1)]
    rw [ans]
    refine pvMet.of _ (by decide) rfl (Nat.le_of_ble_eq_true rfl) ?_
    refine g_aload_n dX11_trench_0 rfl ?_
    refine g_getP dX11_trench_1 fdX11_21 rfl (by first | rfl | exact pv_shx) (by omega) (by omega) (by decide) rfl (hP _ _ _ rfl) ?_
    refine g_iload_n dX11_trench_4 rfl ?_
    refine p_callV (ip) okX2_has lkX11_81 rfl (by first | rfl | exact pv_shx) rfl (by omega) (by omega) dX11_trench_5 rfl (Nat.le_of_ble_eq_true rfl) (⟨by decide, by decide, by decide, by decide⟩) ?_
    refine n_if_eq 41 dX11_trench_8 (by decide) (by first | (with_reducible exact cB _) | ((with_reducible apply cN_eq0) <;> omega) | exact Iff.rfl) (fun c8 => ?_) (fun c8 => by exfalso; first | omega | exact absurd trivial c8 | exact c8 | (simp at c8))
    refine g_iconst (v := (-1)) dX11_trench_41 (by decide) ?_
    exact g_iret dX11_trench_42 rfl (⟨rfl, rfl, rfl, hb, mF2.rf, Or.inr ⟨rfl, sAl.rf⟩⟩)
end TRN
