/-! class: trench: holds -/
section HLD
variable {w h : Nat} {I : pvI} {J : pvJ} {P : pvP}
theorem c_holds {c d n : Nat} (hg : gridOk w h I J) (hd : d < 4) (hc : c < w * h) (hn : 1 ≤ n ∧ n ≤ 8) : pvMet mX2_holds 1 0 0 [.ref 2, .int (nI c), .int (nI d), .int (nI n)] 224 I J P (pvpu (.int (if ¬ sp_go w h d (n - 1) c = none then 1 else 0)) 224 I J P) := by
  obtain ⟨g0, g1, -⟩ := id hg
  have hw := hg.2.2.2.2.2.2.1
  have hh := hg.2.2.2.2.2.2.2
  have hwh := hg.wh
  have gi := go_iff (h := h) (d := d) (by omega : 0 < w) hd hc (n - 1)
  have e := Nat.div_add_mod c w
  have hm := Nat.mod_lt c (show 0 < w by omega)
  have hq : c / w < h := Nat.div_lt_of_lt_mul hc
  have hsub : nI c - nI (c / w * w) = nI (c % w) := by
    rw [pk_sub (by rw [Nat.mul_comm]; omega)]
    congr 1
    rw [Nat.mul_comm]; omega
  have hlt : ∀ f, f < 64 → ((nI f - nI n < -1) ↔ f + 1 < n) := fun f hf => by
    rw [Int32.lt_iff_toInt_lt, pk_sub_toInt (by omega) (by omega), show ((-1 : Int32)).toInt = -1 from rfl]
    omega
  have mx : (if nI 1 < nI w then nI w else nI 1) = nI w := (mm_max (by omega) (by omega)).trans (by rw [show max 1 w = w by omega])
  unfold goP at gi
  have hcy : c / w ≤ c := Nat.div_le_self _ _
  rcases (show d = 0 ∨ d = 1 ∨ d = 2 ∨ d = 3 by omega) with rfl | rfl | rfl | rfl
  · by_cases z : c % w + (n - 1) < w
    · rw [if_pos (gi.mpr ⟨fun _ => z, fun q => (by cases q), fun q => (by cases q), fun q => (by cases q)⟩)]
      refine pvMet.of _ (by decide) rfl (Nat.le_of_ble_eq_true rfl) ?_
      refine g_iload_n dX2_holds_0 rfl ?_
      refine g_iconst (v := nI 1) dX2_holds_1 (by decide) ?_
      refine g_aload_n dX2_holds_2 rfl ?_
      refine n_getI dX2_holds_3 fdX2_7 rfl (by first | rfl | exact pv_shx) (by omega) (by omega) (by decide) rfl (by repeat (first | exact g0 | exact g1 | (apply rd_s; done) | apply rd_n (by omega) | apply rp_s | apply rp_n (by omega) | (apply rdL_s; done) | apply rdL_n (by omega) | apply rpJ_s | apply rpJ_n (by omega) | rfl)) ?_
      refine g_mmax dX2_holds_6 lkX2_31 (by decide) (Nat.le_of_ble_eq_true rfl) (by decide) (by decide) (mx) ?_
      refine n_idiv dX2_holds_9 (by first | decide | ((with_reducible apply nI_ne0) <;> omega)) (by first | ((with_reducible apply pk_div) <;> omega) | rfl) ?_
      refine g_istore dX2_holds_10 (by decide) rfl ?_
      refine g_iload_n dX2_holds_12 rfl ?_
      refine g_iconst (v := nI 2) dX2_holds_13 (by decide) ?_
      refine n_icmp_ge 29 dX2_holds_14 (by decide) (by first | ((with_reducible apply cN_le) <;> omega) | ((with_reducible apply cI_len) <;> omega) | ((with_reducible apply cI_nle) <;> omega) | (with_reducible exact cI_le)) (fun c14 => by exfalso; first | omega | exact absurd trivial c14 | exact c14 | (simp at c14)) (fun c14 => ?_)
      refine g_iload_n dX2_holds_17 rfl ?_
      refine g_iload dX2_holds_18 rfl ?_
      refine g_aload_n dX2_holds_20 rfl ?_
      refine n_getI dX2_holds_21 fdX2_7 rfl (by first | rfl | exact pv_shx) (by omega) (by omega) (by decide) rfl (by repeat (first | exact g0 | exact g1 | (apply rd_s; done) | apply rd_n (by omega) | apply rp_s | apply rp_n (by omega) | (apply rdL_s; done) | apply rdL_n (by omega) | apply rpJ_s | apply rpJ_n (by omega) | rfl)) ?_
      refine n_imul dX2_holds_24 (pk_mul _ _) ?_
      refine n_isub dX2_holds_25 (hsub) ?_
      refine g_goto 31 dX2_holds_26 (by decide) ?_
      refine g_istore dX2_holds_31 (by decide) rfl ?_
      refine g_iload_n dX2_holds_33 rfl ?_
      refine g_iconst (v := nI 2) dX2_holds_34 (by decide) ?_
      refine n_icmp_ge 45 dX2_holds_35 (by decide) (by first | ((with_reducible apply cN_le) <;> omega) | ((with_reducible apply cI_len) <;> omega) | ((with_reducible apply cI_nle) <;> omega) | (with_reducible exact cI_le)) (fun c35 => by exfalso; first | omega | exact absurd trivial c35 | exact c35 | (simp at c35)) (fun c35 => ?_)
      refine g_aload_n dX2_holds_38 rfl ?_
      refine n_getI dX2_holds_39 fdX2_7 rfl (by first | rfl | exact pv_shx) (by omega) (by omega) (by decide) rfl (by repeat (first | exact g0 | exact g1 | (apply rd_s; done) | apply rd_n (by omega) | apply rp_s | apply rp_n (by omega) | (apply rdL_s; done) | apply rdL_n (by omega) | apply rpJ_s | apply rpJ_n (by omega) | rfl)) ?_
      refine g_goto 49 dX2_holds_42 (by decide) ?_
      refine g_istore dX2_holds_49 (by decide) rfl ?_
      refine g_iload_n dX2_holds_51 rfl ?_
      refine g_iconst (v := nI 1) dX2_holds_52 (by decide) ?_
      refine n_iand dX2_holds_53 (show nI 0 &&& nI 1 = nI 0 from rfl) ?_
      refine n_if_ne 74 dX2_holds_54 (by decide) (by first | (with_reducible exact cB _) | ((with_reducible apply cN_eq0) <;> omega) | exact Iff.rfl) (fun c54 => by exfalso; first | omega | exact absurd trivial c54 | exact c54 | (simp at c54)) (fun c54 => ?_)
      refine g_iload dX2_holds_57 rfl ?_
      refine g_iload_n dX2_holds_59 rfl ?_
      refine n_iadd dX2_holds_60 (by first | (with_reducible exact nI_add _ _) | rfl) ?_
      refine g_iload dX2_holds_61 rfl ?_
      refine n_icmp_gt 70 dX2_holds_63 (by decide) (by first | ((with_reducible apply cN_lt) <;> omega) | ((with_reducible apply cI_ltn) <;> omega) | ((with_reducible apply cI_nlt) <;> omega) | (with_reducible exact cI_lt)) (fun c63 => by exfalso; first | omega | exact absurd trivial c63 | exact c63 | (simp at c63)) (fun c63 => ?_)
      refine g_iconst (v := nI 1) dX2_holds_66 (by decide) ?_
      refine g_goto 87 dX2_holds_67 (by decide) ?_
      exact g_zret (by first | exact Or.inl rfl | exact Or.inr rfl | exact cB01 _) dX2_holds_87 rfl (⟨rfl, rfl, rfl, rfl, rfl⟩)
    · rw [if_neg (fun q => z ((gi.mp q).1 rfl))]
      refine pvMet.of _ (by decide) rfl (Nat.le_of_ble_eq_true rfl) ?_
      refine g_iload_n dX2_holds_0 rfl ?_
      refine g_iconst (v := nI 1) dX2_holds_1 (by decide) ?_
      refine g_aload_n dX2_holds_2 rfl ?_
      refine n_getI dX2_holds_3 fdX2_7 rfl (by first | rfl | exact pv_shx) (by omega) (by omega) (by decide) rfl (by repeat (first | exact g0 | exact g1 | (apply rd_s; done) | apply rd_n (by omega) | apply rp_s | apply rp_n (by omega) | (apply rdL_s; done) | apply rdL_n (by omega) | apply rpJ_s | apply rpJ_n (by omega) | rfl)) ?_
      refine g_mmax dX2_holds_6 lkX2_31 (by decide) (Nat.le_of_ble_eq_true rfl) (by decide) (by decide) (mx) ?_
      refine n_idiv dX2_holds_9 (by first | decide | ((with_reducible apply nI_ne0) <;> omega)) (by first | ((with_reducible apply pk_div) <;> omega) | rfl) ?_
      refine g_istore dX2_holds_10 (by decide) rfl ?_
      refine g_iload_n dX2_holds_12 rfl ?_
      refine g_iconst (v := nI 2) dX2_holds_13 (by decide) ?_
      refine n_icmp_ge 29 dX2_holds_14 (by decide) (by first | ((with_reducible apply cN_le) <;> omega) | ((with_reducible apply cI_len) <;> omega) | ((with_reducible apply cI_nle) <;> omega) | (with_reducible exact cI_le)) (fun c14 => by exfalso; first | omega | exact absurd trivial c14 | exact c14 | (simp at c14)) (fun c14 => ?_)
      refine g_iload_n dX2_holds_17 rfl ?_
      refine g_iload dX2_holds_18 rfl ?_
      refine g_aload_n dX2_holds_20 rfl ?_
      refine n_getI dX2_holds_21 fdX2_7 rfl (by first | rfl | exact pv_shx) (by omega) (by omega) (by decide) rfl (by repeat (first | exact g0 | exact g1 | (apply rd_s; done) | apply rd_n (by omega) | apply rp_s | apply rp_n (by omega) | (apply rdL_s; done) | apply rdL_n (by omega) | apply rpJ_s | apply rpJ_n (by omega) | rfl)) ?_
      refine n_imul dX2_holds_24 (pk_mul _ _) ?_
      refine n_isub dX2_holds_25 (hsub) ?_
      refine g_goto 31 dX2_holds_26 (by decide) ?_
      refine g_istore dX2_holds_31 (by decide) rfl ?_
      refine g_iload_n dX2_holds_33 rfl ?_
      refine g_iconst (v := nI 2) dX2_holds_34 (by decide) ?_
      refine n_icmp_ge 45 dX2_holds_35 (by decide) (by first | ((with_reducible apply cN_le) <;> omega) | ((with_reducible apply cI_len) <;> omega) | ((with_reducible apply cI_nle) <;> omega) | (with_reducible exact cI_le)) (fun c35 => by exfalso; first | omega | exact absurd trivial c35 | exact c35 | (simp at c35)) (fun c35 => ?_)
      refine g_aload_n dX2_holds_38 rfl ?_
      refine n_getI dX2_holds_39 fdX2_7 rfl (by first | rfl | exact pv_shx) (by omega) (by omega) (by decide) rfl (by repeat (first | exact g0 | exact g1 | (apply rd_s; done) | apply rd_n (by omega) | apply rp_s | apply rp_n (by omega) | (apply rdL_s; done) | apply rdL_n (by omega) | apply rpJ_s | apply rpJ_n (by omega) | rfl)) ?_
      refine g_goto 49 dX2_holds_42 (by decide) ?_
      refine g_istore dX2_holds_49 (by decide) rfl ?_
      refine g_iload_n dX2_holds_51 rfl ?_
      refine g_iconst (v := nI 1) dX2_holds_52 (by decide) ?_
      refine n_iand dX2_holds_53 (show nI 0 &&& nI 1 = nI 0 from rfl) ?_
      refine n_if_ne 74 dX2_holds_54 (by decide) (by first | (with_reducible exact cB _) | ((with_reducible apply cN_eq0) <;> omega) | exact Iff.rfl) (fun c54 => by exfalso; first | omega | exact absurd trivial c54 | exact c54 | (simp at c54)) (fun c54 => ?_)
      refine g_iload dX2_holds_57 rfl ?_
      refine g_iload_n dX2_holds_59 rfl ?_
      refine n_iadd dX2_holds_60 (by first | (with_reducible exact nI_add _ _) | rfl) ?_
      refine g_iload dX2_holds_61 rfl ?_
      refine n_icmp_gt 70 dX2_holds_63 (by decide) (by first | ((with_reducible apply cN_lt) <;> omega) | ((with_reducible apply cI_ltn) <;> omega) | ((with_reducible apply cI_nlt) <;> omega) | (with_reducible exact cI_lt)) (fun c63 => ?_) (fun c63 => by exfalso; first | omega | exact absurd trivial c63 | exact c63 | (simp at c63))
      refine g_iconst (v := nI 0) dX2_holds_70 (by decide) ?_
      refine g_goto 87 dX2_holds_71 (by decide) ?_
      exact g_zret (by first | exact Or.inl rfl | exact Or.inr rfl | exact cB01 _) dX2_holds_87 rfl (⟨rfl, rfl, rfl, rfl, rfl⟩)
  · by_cases z : n - 1 ≤ c % w
    · rw [if_pos (gi.mpr ⟨fun q => (by cases q), fun _ => z, fun q => (by cases q), fun q => (by cases q)⟩)]
      refine pvMet.of _ (by decide) rfl (Nat.le_of_ble_eq_true rfl) ?_
      refine g_iload_n dX2_holds_0 rfl ?_
      refine g_iconst (v := nI 1) dX2_holds_1 (by decide) ?_
      refine g_aload_n dX2_holds_2 rfl ?_
      refine n_getI dX2_holds_3 fdX2_7 rfl (by first | rfl | exact pv_shx) (by omega) (by omega) (by decide) rfl (by repeat (first | exact g0 | exact g1 | (apply rd_s; done) | apply rd_n (by omega) | apply rp_s | apply rp_n (by omega) | (apply rdL_s; done) | apply rdL_n (by omega) | apply rpJ_s | apply rpJ_n (by omega) | rfl)) ?_
      refine g_mmax dX2_holds_6 lkX2_31 (by decide) (Nat.le_of_ble_eq_true rfl) (by decide) (by decide) (mx) ?_
      refine n_idiv dX2_holds_9 (by first | decide | ((with_reducible apply nI_ne0) <;> omega)) (by first | ((with_reducible apply pk_div) <;> omega) | rfl) ?_
      refine g_istore dX2_holds_10 (by decide) rfl ?_
      refine g_iload_n dX2_holds_12 rfl ?_
      refine g_iconst (v := nI 2) dX2_holds_13 (by decide) ?_
      refine n_icmp_ge 29 dX2_holds_14 (by decide) (by first | ((with_reducible apply cN_le) <;> omega) | ((with_reducible apply cI_len) <;> omega) | ((with_reducible apply cI_nle) <;> omega) | (with_reducible exact cI_le)) (fun c14 => by exfalso; first | omega | exact absurd trivial c14 | exact c14 | (simp at c14)) (fun c14 => ?_)
      refine g_iload_n dX2_holds_17 rfl ?_
      refine g_iload dX2_holds_18 rfl ?_
      refine g_aload_n dX2_holds_20 rfl ?_
      refine n_getI dX2_holds_21 fdX2_7 rfl (by first | rfl | exact pv_shx) (by omega) (by omega) (by decide) rfl (by repeat (first | exact g0 | exact g1 | (apply rd_s; done) | apply rd_n (by omega) | apply rp_s | apply rp_n (by omega) | (apply rdL_s; done) | apply rdL_n (by omega) | apply rpJ_s | apply rpJ_n (by omega) | rfl)) ?_
      refine n_imul dX2_holds_24 (pk_mul _ _) ?_
      refine n_isub dX2_holds_25 (hsub) ?_
      refine g_goto 31 dX2_holds_26 (by decide) ?_
      refine g_istore dX2_holds_31 (by decide) rfl ?_
      refine g_iload_n dX2_holds_33 rfl ?_
      refine g_iconst (v := nI 2) dX2_holds_34 (by decide) ?_
      refine n_icmp_ge 45 dX2_holds_35 (by decide) (by first | ((with_reducible apply cN_le) <;> omega) | ((with_reducible apply cI_len) <;> omega) | ((with_reducible apply cI_nle) <;> omega) | (with_reducible exact cI_le)) (fun c35 => by exfalso; first | omega | exact absurd trivial c35 | exact c35 | (simp at c35)) (fun c35 => ?_)
      refine g_aload_n dX2_holds_38 rfl ?_
      refine n_getI dX2_holds_39 fdX2_7 rfl (by first | rfl | exact pv_shx) (by omega) (by omega) (by decide) rfl (by repeat (first | exact g0 | exact g1 | (apply rd_s; done) | apply rd_n (by omega) | apply rp_s | apply rp_n (by omega) | (apply rdL_s; done) | apply rdL_n (by omega) | apply rpJ_s | apply rpJ_n (by omega) | rfl)) ?_
      refine g_goto 49 dX2_holds_42 (by decide) ?_
      refine g_istore dX2_holds_49 (by decide) rfl ?_
      refine g_iload_n dX2_holds_51 rfl ?_
      refine g_iconst (v := nI 1) dX2_holds_52 (by decide) ?_
      refine n_iand dX2_holds_53 (show nI 1 &&& nI 1 = nI 1 from rfl) ?_
      refine n_if_ne 74 dX2_holds_54 (by decide) (by first | (with_reducible exact cB _) | ((with_reducible apply cN_eq0) <;> omega) | exact Iff.rfl) (fun c54 => ?_) (fun c54 => by exfalso; first | omega | exact absurd trivial c54 | exact c54 | (simp at c54))
      refine g_iload dX2_holds_74 rfl ?_
      refine g_iload_n dX2_holds_76 rfl ?_
      refine n_isub dX2_holds_77 (rfl) ?_
      refine g_iconst (v := (-1)) dX2_holds_78 (by decide) ?_
      refine n_icmp_lt 86 dX2_holds_79 (by decide) (hlt _ (by omega)) (fun c79 => by exfalso; first | omega | exact absurd trivial c79 | exact c79 | (simp at c79)) (fun c79 => ?_)
      refine g_iconst (v := nI 1) dX2_holds_82 (by decide) ?_
      refine g_goto 87 dX2_holds_83 (by decide) ?_
      exact g_zret (by first | exact Or.inl rfl | exact Or.inr rfl | exact cB01 _) dX2_holds_87 rfl (⟨rfl, rfl, rfl, rfl, rfl⟩)
    · rw [if_neg (fun q => z ((gi.mp q).2.1 rfl))]
      refine pvMet.of _ (by decide) rfl (Nat.le_of_ble_eq_true rfl) ?_
      refine g_iload_n dX2_holds_0 rfl ?_
      refine g_iconst (v := nI 1) dX2_holds_1 (by decide) ?_
      refine g_aload_n dX2_holds_2 rfl ?_
      refine n_getI dX2_holds_3 fdX2_7 rfl (by first | rfl | exact pv_shx) (by omega) (by omega) (by decide) rfl (by repeat (first | exact g0 | exact g1 | (apply rd_s; done) | apply rd_n (by omega) | apply rp_s | apply rp_n (by omega) | (apply rdL_s; done) | apply rdL_n (by omega) | apply rpJ_s | apply rpJ_n (by omega) | rfl)) ?_
      refine g_mmax dX2_holds_6 lkX2_31 (by decide) (Nat.le_of_ble_eq_true rfl) (by decide) (by decide) (mx) ?_
      refine n_idiv dX2_holds_9 (by first | decide | ((with_reducible apply nI_ne0) <;> omega)) (by first | ((with_reducible apply pk_div) <;> omega) | rfl) ?_
      refine g_istore dX2_holds_10 (by decide) rfl ?_
      refine g_iload_n dX2_holds_12 rfl ?_
      refine g_iconst (v := nI 2) dX2_holds_13 (by decide) ?_
      refine n_icmp_ge 29 dX2_holds_14 (by decide) (by first | ((with_reducible apply cN_le) <;> omega) | ((with_reducible apply cI_len) <;> omega) | ((with_reducible apply cI_nle) <;> omega) | (with_reducible exact cI_le)) (fun c14 => by exfalso; first | omega | exact absurd trivial c14 | exact c14 | (simp at c14)) (fun c14 => ?_)
      refine g_iload_n dX2_holds_17 rfl ?_
      refine g_iload dX2_holds_18 rfl ?_
      refine g_aload_n dX2_holds_20 rfl ?_
      refine n_getI dX2_holds_21 fdX2_7 rfl (by first | rfl | exact pv_shx) (by omega) (by omega) (by decide) rfl (by repeat (first | exact g0 | exact g1 | (apply rd_s; done) | apply rd_n (by omega) | apply rp_s | apply rp_n (by omega) | (apply rdL_s; done) | apply rdL_n (by omega) | apply rpJ_s | apply rpJ_n (by omega) | rfl)) ?_
      refine n_imul dX2_holds_24 (pk_mul _ _) ?_
      refine n_isub dX2_holds_25 (hsub) ?_
      refine g_goto 31 dX2_holds_26 (by decide) ?_
      refine g_istore dX2_holds_31 (by decide) rfl ?_
      refine g_iload_n dX2_holds_33 rfl ?_
      refine g_iconst (v := nI 2) dX2_holds_34 (by decide) ?_
      refine n_icmp_ge 45 dX2_holds_35 (by decide) (by first | ((with_reducible apply cN_le) <;> omega) | ((with_reducible apply cI_len) <;> omega) | ((with_reducible apply cI_nle) <;> omega) | (with_reducible exact cI_le)) (fun c35 => by exfalso; first | omega | exact absurd trivial c35 | exact c35 | (simp at c35)) (fun c35 => ?_)
      refine g_aload_n dX2_holds_38 rfl ?_
      refine n_getI dX2_holds_39 fdX2_7 rfl (by first | rfl | exact pv_shx) (by omega) (by omega) (by decide) rfl (by repeat (first | exact g0 | exact g1 | (apply rd_s; done) | apply rd_n (by omega) | apply rp_s | apply rp_n (by omega) | (apply rdL_s; done) | apply rdL_n (by omega) | apply rpJ_s | apply rpJ_n (by omega) | rfl)) ?_
      refine g_goto 49 dX2_holds_42 (by decide) ?_
      refine g_istore dX2_holds_49 (by decide) rfl ?_
      refine g_iload_n dX2_holds_51 rfl ?_
      refine g_iconst (v := nI 1) dX2_holds_52 (by decide) ?_
      refine n_iand dX2_holds_53 (show nI 1 &&& nI 1 = nI 1 from rfl) ?_
      refine n_if_ne 74 dX2_holds_54 (by decide) (by first | (with_reducible exact cB _) | ((with_reducible apply cN_eq0) <;> omega) | exact Iff.rfl) (fun c54 => ?_) (fun c54 => by exfalso; first | omega | exact absurd trivial c54 | exact c54 | (simp at c54))
      refine g_iload dX2_holds_74 rfl ?_
      refine g_iload_n dX2_holds_76 rfl ?_
      refine n_isub dX2_holds_77 (rfl) ?_
      refine g_iconst (v := (-1)) dX2_holds_78 (by decide) ?_
      refine n_icmp_lt 86 dX2_holds_79 (by decide) (hlt _ (by omega)) (fun c79 => ?_) (fun c79 => by exfalso; first | omega | exact absurd trivial c79 | exact c79 | (simp at c79))
      refine g_iconst (v := nI 0) dX2_holds_86 (by decide) ?_
      exact g_zret (by first | exact Or.inl rfl | exact Or.inr rfl | exact cB01 _) dX2_holds_87 rfl (⟨rfl, rfl, rfl, rfl, rfl⟩)
  · by_cases z : c / w + (n - 1) < h
    · rw [if_pos (gi.mpr ⟨fun q => (by cases q), fun q => (by cases q), fun _ => z, fun q => (by cases q)⟩)]
      refine pvMet.of _ (by decide) rfl (Nat.le_of_ble_eq_true rfl) ?_
      refine g_iload_n dX2_holds_0 rfl ?_
      refine g_iconst (v := nI 1) dX2_holds_1 (by decide) ?_
      refine g_aload_n dX2_holds_2 rfl ?_
      refine n_getI dX2_holds_3 fdX2_7 rfl (by first | rfl | exact pv_shx) (by omega) (by omega) (by decide) rfl (by repeat (first | exact g0 | exact g1 | (apply rd_s; done) | apply rd_n (by omega) | apply rp_s | apply rp_n (by omega) | (apply rdL_s; done) | apply rdL_n (by omega) | apply rpJ_s | apply rpJ_n (by omega) | rfl)) ?_
      refine g_mmax dX2_holds_6 lkX2_31 (by decide) (Nat.le_of_ble_eq_true rfl) (by decide) (by decide) (mx) ?_
      refine n_idiv dX2_holds_9 (by first | decide | ((with_reducible apply nI_ne0) <;> omega)) (by first | ((with_reducible apply pk_div) <;> omega) | rfl) ?_
      refine g_istore dX2_holds_10 (by decide) rfl ?_
      refine g_iload_n dX2_holds_12 rfl ?_
      refine g_iconst (v := nI 2) dX2_holds_13 (by decide) ?_
      refine n_icmp_ge 29 dX2_holds_14 (by decide) (by first | ((with_reducible apply cN_le) <;> omega) | ((with_reducible apply cI_len) <;> omega) | ((with_reducible apply cI_nle) <;> omega) | (with_reducible exact cI_le)) (fun c14 => ?_) (fun c14 => by exfalso; first | omega | exact absurd trivial c14 | exact c14 | (simp at c14))
      refine g_iload dX2_holds_29 rfl ?_
      refine g_istore dX2_holds_31 (by decide) rfl ?_
      refine g_iload_n dX2_holds_33 rfl ?_
      refine g_iconst (v := nI 2) dX2_holds_34 (by decide) ?_
      refine n_icmp_ge 45 dX2_holds_35 (by decide) (by first | ((with_reducible apply cN_le) <;> omega) | ((with_reducible apply cI_len) <;> omega) | ((with_reducible apply cI_nle) <;> omega) | (with_reducible exact cI_le)) (fun c35 => ?_) (fun c35 => by exfalso; first | omega | exact absurd trivial c35 | exact c35 | (simp at c35))
      refine g_aload_n dX2_holds_45 rfl ?_
      refine n_getI dX2_holds_46 fdX2_13 rfl (by first | rfl | exact pv_shx) (by omega) (by omega) (by decide) rfl (by repeat (first | exact g0 | exact g1 | (apply rd_s; done) | apply rd_n (by omega) | apply rp_s | apply rp_n (by omega) | (apply rdL_s; done) | apply rdL_n (by omega) | apply rpJ_s | apply rpJ_n (by omega) | rfl)) ?_
      refine g_istore dX2_holds_49 (by decide) rfl ?_
      refine g_iload_n dX2_holds_51 rfl ?_
      refine g_iconst (v := nI 1) dX2_holds_52 (by decide) ?_
      refine n_iand dX2_holds_53 (show nI 2 &&& nI 1 = nI 0 from rfl) ?_
      refine n_if_ne 74 dX2_holds_54 (by decide) (by first | (with_reducible exact cB _) | ((with_reducible apply cN_eq0) <;> omega) | exact Iff.rfl) (fun c54 => by exfalso; first | omega | exact absurd trivial c54 | exact c54 | (simp at c54)) (fun c54 => ?_)
      refine g_iload dX2_holds_57 rfl ?_
      refine g_iload_n dX2_holds_59 rfl ?_
      refine n_iadd dX2_holds_60 (by first | (with_reducible exact nI_add _ _) | rfl) ?_
      refine g_iload dX2_holds_61 rfl ?_
      refine n_icmp_gt 70 dX2_holds_63 (by decide) (by first | ((with_reducible apply cN_lt) <;> omega) | ((with_reducible apply cI_ltn) <;> omega) | ((with_reducible apply cI_nlt) <;> omega) | (with_reducible exact cI_lt)) (fun c63 => by exfalso; first | omega | exact absurd trivial c63 | exact c63 | (simp at c63)) (fun c63 => ?_)
      refine g_iconst (v := nI 1) dX2_holds_66 (by decide) ?_
      refine g_goto 87 dX2_holds_67 (by decide) ?_
      exact g_zret (by first | exact Or.inl rfl | exact Or.inr rfl | exact cB01 _) dX2_holds_87 rfl (⟨rfl, rfl, rfl, rfl, rfl⟩)
    · rw [if_neg (fun q => z ((gi.mp q).2.2.1 rfl))]
      refine pvMet.of _ (by decide) rfl (Nat.le_of_ble_eq_true rfl) ?_
      refine g_iload_n dX2_holds_0 rfl ?_
      refine g_iconst (v := nI 1) dX2_holds_1 (by decide) ?_
      refine g_aload_n dX2_holds_2 rfl ?_
      refine n_getI dX2_holds_3 fdX2_7 rfl (by first | rfl | exact pv_shx) (by omega) (by omega) (by decide) rfl (by repeat (first | exact g0 | exact g1 | (apply rd_s; done) | apply rd_n (by omega) | apply rp_s | apply rp_n (by omega) | (apply rdL_s; done) | apply rdL_n (by omega) | apply rpJ_s | apply rpJ_n (by omega) | rfl)) ?_
      refine g_mmax dX2_holds_6 lkX2_31 (by decide) (Nat.le_of_ble_eq_true rfl) (by decide) (by decide) (mx) ?_
      refine n_idiv dX2_holds_9 (by first | decide | ((with_reducible apply nI_ne0) <;> omega)) (by first | ((with_reducible apply pk_div) <;> omega) | rfl) ?_
      refine g_istore dX2_holds_10 (by decide) rfl ?_
      refine g_iload_n dX2_holds_12 rfl ?_
      refine g_iconst (v := nI 2) dX2_holds_13 (by decide) ?_
      refine n_icmp_ge 29 dX2_holds_14 (by decide) (by first | ((with_reducible apply cN_le) <;> omega) | ((with_reducible apply cI_len) <;> omega) | ((with_reducible apply cI_nle) <;> omega) | (with_reducible exact cI_le)) (fun c14 => ?_) (fun c14 => by exfalso; first | omega | exact absurd trivial c14 | exact c14 | (simp at c14))
      refine g_iload dX2_holds_29 rfl ?_
      refine g_istore dX2_holds_31 (by decide) rfl ?_
      refine g_iload_n dX2_holds_33 rfl ?_
      refine g_iconst (v := nI 2) dX2_holds_34 (by decide) ?_
      refine n_icmp_ge 45 dX2_holds_35 (by decide) (by first | ((with_reducible apply cN_le) <;> omega) | ((with_reducible apply cI_len) <;> omega) | ((with_reducible apply cI_nle) <;> omega) | (with_reducible exact cI_le)) (fun c35 => ?_) (fun c35 => by exfalso; first | omega | exact absurd trivial c35 | exact c35 | (simp at c35))
      refine g_aload_n dX2_holds_45 rfl ?_
      refine n_getI dX2_holds_46 fdX2_13 rfl (by first | rfl | exact pv_shx) (by omega) (by omega) (by decide) rfl (by repeat (first | exact g0 | exact g1 | (apply rd_s; done) | apply rd_n (by omega) | apply rp_s | apply rp_n (by omega) | (apply rdL_s; done) | apply rdL_n (by omega) | apply rpJ_s | apply rpJ_n (by omega) | rfl)) ?_
      refine g_istore dX2_holds_49 (by decide) rfl ?_
      refine g_iload_n dX2_holds_51 rfl ?_
      refine g_iconst (v := nI 1) dX2_holds_52 (by decide) ?_
      refine n_iand dX2_holds_53 (show nI 2 &&& nI 1 = nI 0 from rfl) ?_
      refine n_if_ne 74 dX2_holds_54 (by decide) (by first | (with_reducible exact cB _) | ((with_reducible apply cN_eq0) <;> omega) | exact Iff.rfl) (fun c54 => by exfalso; first | omega | exact absurd trivial c54 | exact c54 | (simp at c54)) (fun c54 => ?_)
      refine g_iload dX2_holds_57 rfl ?_
      refine g_iload_n dX2_holds_59 rfl ?_
      refine n_iadd dX2_holds_60 (by first | (with_reducible exact nI_add _ _) | rfl) ?_
      refine g_iload dX2_holds_61 rfl ?_
      refine n_icmp_gt 70 dX2_holds_63 (by decide) (by first | ((with_reducible apply cN_lt) <;> omega) | ((with_reducible apply cI_ltn) <;> omega) | ((with_reducible apply cI_nlt) <;> omega) | (with_reducible exact cI_lt)) (fun c63 => ?_) (fun c63 => by exfalso; first | omega | exact absurd trivial c63 | exact c63 | (simp at c63))
      refine g_iconst (v := nI 0) dX2_holds_70 (by decide) ?_
      refine g_goto 87 dX2_holds_71 (by decide) ?_
      exact g_zret (by first | exact Or.inl rfl | exact Or.inr rfl | exact cB01 _) dX2_holds_87 rfl (⟨rfl, rfl, rfl, rfl, rfl⟩)
  · by_cases z : n - 1 ≤ c / w
    · rw [if_pos (gi.mpr ⟨fun q => (by cases q), fun q => (by cases q), fun q => (by cases q), fun _ => z⟩)]
      have h0 : 0 ≤ c / w := Nat.zero_le _
      refine pvMet.of _ (by decide) rfl (Nat.le_of_ble_eq_true rfl) ?_
      refine g_iload_n dX2_holds_0 rfl ?_
      refine g_iconst (v := nI 1) dX2_holds_1 (by decide) ?_
      refine g_aload_n dX2_holds_2 rfl ?_
      refine n_getI dX2_holds_3 fdX2_7 rfl (by first | rfl | exact pv_shx) (by omega) (by omega) (by decide) rfl (by repeat (first | exact g0 | exact g1 | (apply rd_s; done) | apply rd_n (by omega) | apply rp_s | apply rp_n (by omega) | (apply rdL_s; done) | apply rdL_n (by omega) | apply rpJ_s | apply rpJ_n (by omega) | rfl)) ?_
      refine g_mmax dX2_holds_6 lkX2_31 (by decide) (Nat.le_of_ble_eq_true rfl) (by decide) (by decide) (mx) ?_
      refine n_idiv dX2_holds_9 (by first | decide | ((with_reducible apply nI_ne0) <;> omega)) (by first | ((with_reducible apply pk_div) <;> omega) | rfl) ?_
      refine g_istore dX2_holds_10 (by decide) rfl ?_
      refine g_iload_n dX2_holds_12 rfl ?_
      refine g_iconst (v := nI 2) dX2_holds_13 (by decide) ?_
      refine n_icmp_ge 29 dX2_holds_14 (by decide) (by first | ((with_reducible apply cN_le) <;> omega) | ((with_reducible apply cI_len) <;> omega) | ((with_reducible apply cI_nle) <;> omega) | (with_reducible exact cI_le)) (fun c14 => ?_) (fun c14 => by exfalso; first | omega | exact absurd trivial c14 | exact c14 | (simp at c14))
      refine g_iload dX2_holds_29 rfl ?_
      refine g_istore dX2_holds_31 (by decide) rfl ?_
      refine g_iload_n dX2_holds_33 rfl ?_
      refine g_iconst (v := nI 2) dX2_holds_34 (by decide) ?_
      refine n_icmp_ge 45 dX2_holds_35 (by decide) (by first | ((with_reducible apply cN_le) <;> omega) | ((with_reducible apply cI_len) <;> omega) | ((with_reducible apply cI_nle) <;> omega) | (with_reducible exact cI_le)) (fun c35 => ?_) (fun c35 => by exfalso; first | omega | exact absurd trivial c35 | exact c35 | (simp at c35))
      refine g_aload_n dX2_holds_45 rfl ?_
      refine n_getI dX2_holds_46 fdX2_13 rfl (by first | rfl | exact pv_shx) (by omega) (by omega) (by decide) rfl (by repeat (first | exact g0 | exact g1 | (apply rd_s; done) | apply rd_n (by omega) | apply rp_s | apply rp_n (by omega) | (apply rdL_s; done) | apply rdL_n (by omega) | apply rpJ_s | apply rpJ_n (by omega) | rfl)) ?_
      refine g_istore dX2_holds_49 (by decide) rfl ?_
      refine g_iload_n dX2_holds_51 rfl ?_
      refine g_iconst (v := nI 1) dX2_holds_52 (by decide) ?_
      refine n_iand dX2_holds_53 (show nI 3 &&& nI 1 = nI 1 from rfl) ?_
      refine n_if_ne 74 dX2_holds_54 (by decide) (by first | (with_reducible exact cB _) | ((with_reducible apply cN_eq0) <;> omega) | exact Iff.rfl) (fun c54 => ?_) (fun c54 => by exfalso; first | omega | exact absurd trivial c54 | exact c54 | (simp at c54))
      refine g_iload dX2_holds_74 rfl ?_
      refine g_iload_n dX2_holds_76 rfl ?_
      refine n_isub dX2_holds_77 (rfl) ?_
      refine g_iconst (v := (-1)) dX2_holds_78 (by decide) ?_
      refine n_icmp_lt 86 dX2_holds_79 (by decide) (hlt _ (by omega)) (fun c79 => by exfalso; first | omega | exact absurd trivial c79 | exact c79 | (simp at c79)) (fun c79 => ?_)
      refine g_iconst (v := nI 1) dX2_holds_82 (by decide) ?_
      refine g_goto 87 dX2_holds_83 (by decide) ?_
      exact g_zret (by first | exact Or.inl rfl | exact Or.inr rfl | exact cB01 _) dX2_holds_87 rfl (⟨rfl, rfl, rfl, rfl, rfl⟩)
    · rw [if_neg (fun q => z ((gi.mp q).2.2.2 rfl))]
      have h0 : 0 ≤ c / w := Nat.zero_le _
      refine pvMet.of _ (by decide) rfl (Nat.le_of_ble_eq_true rfl) ?_
      refine g_iload_n dX2_holds_0 rfl ?_
      refine g_iconst (v := nI 1) dX2_holds_1 (by decide) ?_
      refine g_aload_n dX2_holds_2 rfl ?_
      refine n_getI dX2_holds_3 fdX2_7 rfl (by first | rfl | exact pv_shx) (by omega) (by omega) (by decide) rfl (by repeat (first | exact g0 | exact g1 | (apply rd_s; done) | apply rd_n (by omega) | apply rp_s | apply rp_n (by omega) | (apply rdL_s; done) | apply rdL_n (by omega) | apply rpJ_s | apply rpJ_n (by omega) | rfl)) ?_
      refine g_mmax dX2_holds_6 lkX2_31 (by decide) (Nat.le_of_ble_eq_true rfl) (by decide) (by decide) (mx) ?_
      refine n_idiv dX2_holds_9 (by first | decide | ((with_reducible apply nI_ne0) <;> omega)) (by first | ((with_reducible apply pk_div) <;> omega) | rfl) ?_
      refine g_istore dX2_holds_10 (by decide) rfl ?_
      refine g_iload_n dX2_holds_12 rfl ?_
      refine g_iconst (v := nI 2) dX2_holds_13 (by decide) ?_
      refine n_icmp_ge 29 dX2_holds_14 (by decide) (by first | ((with_reducible apply cN_le) <;> omega) | ((with_reducible apply cI_len) <;> omega) | ((with_reducible apply cI_nle) <;> omega) | (with_reducible exact cI_le)) (fun c14 => ?_) (fun c14 => by exfalso; first | omega | exact absurd trivial c14 | exact c14 | (simp at c14))
      refine g_iload dX2_holds_29 rfl ?_
      refine g_istore dX2_holds_31 (by decide) rfl ?_
      refine g_iload_n dX2_holds_33 rfl ?_
      refine g_iconst (v := nI 2) dX2_holds_34 (by decide) ?_
      refine n_icmp_ge 45 dX2_holds_35 (by decide) (by first | ((with_reducible apply cN_le) <;> omega) | ((with_reducible apply cI_len) <;> omega) | ((with_reducible apply cI_nle) <;> omega) | (with_reducible exact cI_le)) (fun c35 => ?_) (fun c35 => by exfalso; first | omega | exact absurd trivial c35 | exact c35 | (simp at c35))
      refine g_aload_n dX2_holds_45 rfl ?_
      refine n_getI dX2_holds_46 fdX2_13 rfl (by first | rfl | exact pv_shx) (by omega) (by omega) (by decide) rfl (by repeat (first | exact g0 | exact g1 | (apply rd_s; done) | apply rd_n (by omega) | apply rp_s | apply rp_n (by omega) | (apply rdL_s; done) | apply rdL_n (by omega) | apply rpJ_s | apply rpJ_n (by omega) | rfl)) ?_
      refine g_istore dX2_holds_49 (by decide) rfl ?_
      refine g_iload_n dX2_holds_51 rfl ?_
      refine g_iconst (v := nI 1) dX2_holds_52 (by decide) ?_
      refine n_iand dX2_holds_53 (show nI 3 &&& nI 1 = nI 1 from rfl) ?_
      refine n_if_ne 74 dX2_holds_54 (by decide) (by first | (with_reducible exact cB _) | ((with_reducible apply cN_eq0) <;> omega) | exact Iff.rfl) (fun c54 => ?_) (fun c54 => by exfalso; first | omega | exact absurd trivial c54 | exact c54 | (simp at c54))
      refine g_iload dX2_holds_74 rfl ?_
      refine g_iload_n dX2_holds_76 rfl ?_
      refine n_isub dX2_holds_77 (rfl) ?_
      refine g_iconst (v := (-1)) dX2_holds_78 (by decide) ?_
      refine n_icmp_lt 86 dX2_holds_79 (by decide) (hlt _ (by omega)) (fun c79 => ?_) (fun c79 => by exfalso; first | omega | exact absurd trivial c79 | exact c79 | (simp at c79))
      refine g_iconst (v := nI 0) dX2_holds_86 (by decide) ?_
      exact g_zret (by first | exact Or.inl rfl | exact Or.inr rfl | exact cB01 _) dX2_holds_87 rfl (⟨rfl, rfl, rfl, rfl, rfl⟩)
end HLD
