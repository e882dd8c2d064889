/-! class: trench: dig -/
section DIG
variable {w h : Nat} {a : Nat → Int32} {I : pvI} {J : pvJ} {P : pvP}
theorem c_week' {t i e m : Nat} (hP : pvOkP P) (ht : t < 10) (hi : i ≤ 8) (he : 1 ≤ e ∧ e ≤ 8) (hm : m ≤ 99) (x4 : I 17 t = nI e) (x5 : I 18 t = nI m) : pvMet mX9_weekOfCut 1 0 0 [.ref 9, .int (nI t), .int (nI i)] 224 I J P (pvpu (.int (nI (m + i / e))) 224 I J P) := by
  have hdv : i / e ≤ i := Nat.div_le_self _ _
  refine pvMet.of _ (by decide) rfl (Nat.le_of_ble_eq_true rfl) ?_
  refine g_aload_n dX9_weekOfCut_0 rfl ?_
  refine g_getP dX9_weekOfCut_1 fdX9_37 rfl (by first | rfl | exact pv_shx) (by omega) (by omega) (by decide) rfl (hP _ _ _ rfl) ?_
  refine g_iload_n dX9_weekOfCut_4 rfl ?_
  refine n_iald dX9_weekOfCut_5 (by first | rfl | exact pv_shx) (by omega) (by omega) (by decide) (rfl) (by omega) (by repeat (first | exact x4 | exact x5 | (apply rd_s; done) | apply rd_n (by omega) | apply rp_s | apply rp_n (by omega) | (apply rdL_s; done) | apply rdL_n (by omega) | apply rpJ_s | apply rpJ_n (by omega) | rfl)) ?_
  refine g_iload_n dX9_weekOfCut_6 rfl ?_
  refine g_iconst (v := nI 1) dX9_weekOfCut_7 (by decide) ?_
  refine g_aload_n dX9_weekOfCut_8 rfl ?_
  refine g_getP dX9_weekOfCut_9 fdX9_34 rfl (by first | rfl | exact pv_shx) (by omega) (by omega) (by decide) rfl (hP _ _ _ rfl) ?_
  refine g_iload_n dX9_weekOfCut_12 rfl ?_
  refine n_iald dX9_weekOfCut_13 (by first | rfl | exact pv_shx) (by omega) (by omega) (by decide) (rfl) (by omega) (by repeat (first | exact x4 | exact x5 | (apply rd_s; done) | apply rd_n (by omega) | apply rp_s | apply rp_n (by omega) | (apply rdL_s; done) | apply rdL_n (by omega) | apply rpJ_s | apply rpJ_n (by omega) | rfl)) ?_
  refine g_mmax dX9_weekOfCut_14 lkX9_75 (by decide) (Nat.le_of_ble_eq_true rfl) (by decide) (by decide) ((mm_max (by omega) (by omega)).trans (by rw [show max 1 e = e by omega])) ?_
  refine n_idiv dX9_weekOfCut_17 (by first | decide | ((with_reducible apply nI_ne0) <;> omega)) (by first | ((with_reducible apply pk_div) <;> omega) | rfl) ?_
  refine n_iadd dX9_weekOfCut_18 (by first | (with_reducible exact nI_add _ _) | rfl) ?_
  exact g_iret dX9_weekOfCut_19 rfl (⟨rfl, rfl, rfl, rfl, rfl⟩)
theorem c_cell' {t i y c d : Nat} (hP : pvOkP P) (ht : t < 10) (hd : d < 4) (x1 : I 14 t = nI c) (x2 : I 15 t = stpI w d) (hy : sp_go w h d i c = some y) : pvMet mX9_cellOfCut 0 0 0 [.ref 9, .int (nI t), .int (nI i)] 224 I J P (pvpu (.int (nI y)) 224 I J P) := by
  have e := stp_go hd i y hy
  refine pvMet.of _ (by decide) rfl (Nat.le_of_ble_eq_true rfl) ?_
  refine g_aload_n dX9_cellOfCut_0 rfl ?_
  refine g_getP dX9_cellOfCut_1 fdX9_25 rfl (by first | rfl | exact pv_shx) (by omega) (by omega) (by decide) rfl (hP _ _ _ rfl) ?_
  refine g_iload_n dX9_cellOfCut_4 rfl ?_
  refine n_iald dX9_cellOfCut_5 (by first | rfl | exact pv_shx) (by omega) (by omega) (by decide) (rfl) (by omega) (by repeat (first | exact x1 | exact x2 | (apply rd_s; done) | apply rd_n (by omega) | apply rp_s | apply rp_n (by omega) | (apply rdL_s; done) | apply rdL_n (by omega) | apply rpJ_s | apply rpJ_n (by omega) | rfl)) ?_
  refine g_aload_n dX9_cellOfCut_6 rfl ?_
  refine g_getP dX9_cellOfCut_7 fdX9_28 rfl (by first | rfl | exact pv_shx) (by omega) (by omega) (by decide) rfl (hP _ _ _ rfl) ?_
  refine g_iload_n dX9_cellOfCut_10 rfl ?_
  refine n_iald dX9_cellOfCut_11 (by first | rfl | exact pv_shx) (by omega) (by omega) (by decide) (rfl) (by omega) (by repeat (first | exact x1 | exact x2 | (apply rd_s; done) | apply rd_n (by omega) | apply rp_s | apply rp_n (by omega) | (apply rdL_s; done) | apply rdL_n (by omega) | apply rpJ_s | apply rpJ_n (by omega) | rfl)) ?_
  refine g_iload_n dX9_cellOfCut_12 rfl ?_
  refine n_imul dX9_cellOfCut_13 (rfl) ?_
  refine n_iadd dX9_cellOfCut_14 (e) ?_
  exact g_iret dX9_cellOfCut_15 rfl (⟨rfl, rfl, rfl, rfl, rfl⟩)
/-- what is cut by a week, with the first cuts of a new trench -/
def dgB (F : Nat → Nat → Bool) (W : Nat → Nat) (C : Nat → Option Nat) (i m : Nat) : Nat → Bool := fun x => F m x || anyB (fun q => decide (W q ≤ m) && decide (C q = some x)) i
theorem dgB_s {F : Nat → Nat → Bool} {W : Nat → Nat} {C : Nat → Option Nat} {i m x : Nat} : dgB F W C (i + 1) m x = (dgB F W C i m x || (decide (W i ≤ m) && decide (C i = some x))) := by
  unfold dgB
  rw [anyB_s, Bool.or_assoc]
def digQ (N : Nat) (c st n e k : Int32) (G : Nat → Nat → Bool) (I : pvI) (J : pvJ) (P : pvP) : pvQT := pvq P (fun v I' J' => v = some (.int (nI N)) ∧ I' 14 = upd (I 14) N c ∧ I' 15 = upd (I 15) N st ∧ I' 16 = upd (I 16) N n ∧ I' 17 = upd (I 17) N e ∧ I' 18 = upd (I 18) N k ∧ I' 9 = upd (I 9) 5 (nI (N + 1)) ∧ (∀ z, z < 9 ∨ (9 < z ∧ z < 14) ∨ 18 < z → I' z = I z) ∧ (∀ m, m < 100 → J' 19 m = mk (G m)) ∧ ∀ z, z ≠ 19 → J' z = J z)
theorem c_dig {N c d n e k : Nat} {F : Nat → Nat → Bool} (hP : pvOkP P) (h5 : I 9 5 = nI N) (hN : N < 10) (hc : c < w * h) (hw : 0 < w) (hwh : w * h ≤ 64) (hd : d < 4) (hn : 1 ≤ n ∧ n ≤ 8) (he : 1 ≤ e ∧ e ≤ 8) (hk : k ≤ 99) (hgo : ∀ i, i < n → ∃ y, sp_go w h d i c = some y) (hF : ∀ m, m < 100 → J 19 m = mk (F m)) : pvMet mX9_dig 2 0 0 [.ref 9, .int (nI c), .int (stpI w d), .int (nI n), .int (nI e), .int (nI k)] 224 I J P (digQ N (nI c) (stpI w d) (nI n) (nI e) (nI k) (dgB F (fun i => k + i / e) (fun i => sp_go w h d i c) n) I J P) := by
  generalize hW : (fun i => k + i / e) = W
  generalize hC : (fun i => sp_go w h d i c) = C
  have hWv : ∀ i, W i = k + i / e := fun i => by rw [← hW]
  have hCv : ∀ i, C i = sp_go w h d i c := fun i => by rw [← hC]
  have lp : ∀ I1, I1 14 = upd (I 14) N (nI c) → I1 15 = upd (I 15) N (stpI w d) → I1 16 = upd (I 16) N (nI n) → I1 17 = upd (I 17) N (nI e) → I1 18 = upd (I 18) N (nI k) → I1 9 = upd (I 9) 5 (nI (N + 1)) → (∀ z, z < 9 ∨ (9 < z ∧ z < 14) ∨ 18 < z → I1 z = I z) → ∀ q i J1, i + q = n → (∀ m, m < 100 → J1 19 m = mk (dgB F W C i m)) → (∀ z, z ≠ 19 → J1 z = J z) → pvG mX9_dig (pvR 2 0 0) (pvZ (digQ N (nI c) (stpI w d) (nI n) (nI e) (nI k) (dgB F W C n) I J P) 0 0) 61 [.ref 9, .int (nI c), .int (stpI w d), .int (nI n), .int (nI e), .int (nI k), .int (nI N), .int (nI i), .retAddr 0] [] 0 0 224 I1 J1 P := by
    intro I1 e14 e15 e16 e17 e18 e9 eo q
    induction q with
    | zero =>
      intro i J1 hi h1 h2
      obtain rfl : i = n := by omega
      refine g_iload dX9_dig_61 rfl ?_
      refine g_iload_n dX9_dig_63 rfl ?_
      refine n_icmp_ge 117 dX9_dig_64 (by decide) (by first | ((with_reducible apply cN_le) <;> omega) | ((with_reducible apply cI_len) <;> omega) | ((with_reducible apply cI_nle) <;> omega) | (with_reducible exact cI_le)) (fun c64 => ?_) (fun c64 => by exfalso; first | omega | exact absurd trivial c64 | exact c64 | (simp at c64))
      refine g_iload dX9_dig_117 rfl ?_
      exact g_iret dX9_dig_119 rfl (⟨rfl, rfl, rfl, e14, e15, e16, e17, e18, e9, eo, h1, h2⟩)
    | succ q ih =>
      intro i J1 hi h1 h2
      obtain ⟨y, hy⟩ := hgo i (by omega)
      have hyl : y < w * h := sp_go_lt hw hc hy
      have hdv : i / e ≤ i := Nat.div_le_self _ _
      have wkc := c_week' (I := I1) (J := J1) (i := i) hP hN (by omega) he hk (by rw [e17, updS]) (by rw [e18, updS])
      rw [← hWv i] at wkc
      have hWi : W i ≤ 110 := by rw [hWv]; omega
      have inn : ∀ r m J2, m + r = max 100 (W i) → W i ≤ m → (∀ j, j < 100 → j < m → J2 19 j = mk (dgB F W C (i + 1) j)) → (∀ j, j < 100 → m ≤ j → J2 19 j = mk (dgB F W C i j)) → (∀ z, z ≠ 19 → J2 z = J z) → pvG mX9_dig (pvR 2 0 0) (pvZ (digQ N (nI c) (stpI w d) (nI n) (nI e) (nI k) (dgB F W C n) I J P) 0 0) 77 [.ref 9, .int (nI c), .int (stpI w d), .int (nI n), .int (nI e), .int (nI k), .int (nI N), .int (nI i), .int (nI m)] [] 0 0 224 I1 J2 P := by
        intro r
        induction r with
        | zero =>
          intro m J2 hm h3 h4 h5 h6
          have nx := ih (i + 1) J2 (by omega) (fun j hj => h4 j hj (by omega)) h6
          refine g_iload dX9_dig_77 rfl ?_
          refine g_bipush (v := nI 100) dX9_dig_79 (by decide) ?_
          refine n_icmp_ge 111 dX9_dig_81 (by decide) (by first | ((with_reducible apply cN_le) <;> omega) | ((with_reducible apply cI_len) <;> omega) | ((with_reducible apply cI_nle) <;> omega) | (with_reducible exact cI_le)) (fun c81 => ?_) (fun c81 => by exfalso; first | omega | exact absurd trivial c81 | exact c81 | (simp at c81))
          refine g_iinc dX9_dig_111 rfl (by first | (with_reducible exact nI_1 _) | exact nI_1 _ | exact pk_m1 _ | rfl) (by decide) rfl ?_
          refine g_goto 61 dX9_dig_114 (by decide) ?_
          exact g_drop _ (by repeat (first | exact trivial | refine ⟨Or.inr ⟨_, rfl⟩, ?_⟩ | refine ⟨Or.inl rfl, ?_⟩)) nx
        | succ r ih2 =>
          intro m J2 hm h3 h4 h5 h6
          by_cases c1 : m < 100
          · have hc2 := c_cell' (w := w) (h := h) (I := I1) (J := J2) hP hN hd (by rw [e14, updS]) (by rw [e15, updS]) hy
            have bt := t_bit (nx := 224) (k := y) (I := I1) (J := J2) (P := P) (by omega)
            have f19 := h5 m c1 (Nat.le_refl _)
            have eor : mk (dgB F W C i m) ||| mk (fun x => decide (x = y)) = mk (dgB F W C (i + 1) m) := mk_or.trans (mk_cong (fun x _ => by
              rw [dgB_s, decide_eq_true h3, Bool.true_and, hCv, hy]
              congr 1
              apply decide_eq_decide.mpr
              exact ⟨fun z => by rw [z], fun z => (Option.some.inj z).symm⟩))
            refine g_iload dX9_dig_77 rfl ?_
            refine g_bipush (v := nI 100) dX9_dig_79 (by decide) ?_
            refine n_icmp_ge 111 dX9_dig_81 (by decide) (by first | ((with_reducible apply cN_le) <;> omega) | ((with_reducible apply cI_len) <;> omega) | ((with_reducible apply cI_nle) <;> omega) | (with_reducible exact cI_le)) (fun c81 => by exfalso; first | omega | exact absurd trivial c81 | exact c81 | (simp at c81)) (fun c81 => ?_)
            refine g_aload_n dX9_dig_84 rfl ?_
            refine g_getP dX9_dig_85 fdX9_40 rfl (by first | rfl | exact pv_shx) (by omega) (by omega) (by decide) rfl (hP _ _ _ rfl) ?_
            refine g_iload dX9_dig_88 rfl ?_
            refine g_dup2 dX9_dig_90 rfl rfl ?_
            refine n_lald dX9_dig_91 (by first | rfl | exact pv_shx) (by omega) (by omega) (by decide) (rfl) (by omega) (by repeat (first | exact f19 | (apply rd_s; done) | apply rd_n (by omega) | apply rp_s | apply rp_n (by omega) | (apply rdL_s; done) | apply rdL_n (by omega) | apply rpJ_s | apply rpJ_n (by omega) | rfl)) ?_
            refine g_aload_n dX9_dig_92 rfl ?_
            refine g_iload dX9_dig_93 rfl ?_
            refine g_iload dX9_dig_95 rfl ?_
            refine p_callV (hc2) okX9_cellOfCut lkX9_72 rfl (by first | rfl | exact pv_shx) rfl (by omega) (by omega) dX9_dig_97 rfl (Nat.le_of_ble_eq_true rfl) (⟨by decide, by decide, by decide, by decide⟩) ?_
            refine p_callNS (bt) okX11_bit lkX9_64 rfl dX9_dig_100 rfl (Nat.le_of_ble_eq_true rfl) (⟨by decide, by decide, by decide, by decide⟩) ?_
            refine n_lor dX9_dig_103 (eor) ?_
            refine n_last dX9_dig_104 (by first | rfl | exact pv_shx) (by omega) (by omega) (by omega) (by decide) (rfl) (by omega) (by repeat (first | exact pvu_s | exact pvuJ_s | apply pvu_in (by omega) | apply pvuJ_in (by omega) | exact pvu_pvs | exact pvuJ_pvs)) ?_
            refine g_iinc dX9_dig_105 rfl (by first | (with_reducible exact nI_1 _) | exact nI_1 _ | exact pk_m1 _ | rfl) (by decide) rfl ?_
            refine g_goto 77 dX9_dig_108 (by decide) ?_
            refine ih2 (m + 1) _ (by omega) (by omega) (fun j z1 z2 => ?_) (fun j z1 z2 => ?_) (fun z hz => ?_)
            · by_cases e : j = m
              · subst e; simp [pvsJ, vp_updL]
              · simp [pvsJ, vp_updL, e]; exact h4 j z1 (by omega)
            · have e : j ≠ m := by omega
              simp [pvsJ, vp_updL, e]; exact h5 j z1 (by omega)
            · simp [pvsJ, hz]; exact h6 z hz
          · exfalso; omega
      have go := inn (max 100 (W i) - W i) (W i) J1 (by omega) (Nat.le_refl _) (fun j z1 z2 => by
        rw [h1 j z1]
        apply mk_cong
        intro x _
        rw [dgB_s, decide_eq_false (by omega), Bool.false_and, Bool.or_false]) (fun j z1 _ => h1 j z1) h2
      refine g_iload dX9_dig_61 rfl ?_
      refine g_iload_n dX9_dig_63 rfl ?_
      refine n_icmp_ge 117 dX9_dig_64 (by decide) (by first | ((with_reducible apply cN_le) <;> omega) | ((with_reducible apply cI_len) <;> omega) | ((with_reducible apply cI_nle) <;> omega) | (with_reducible exact cI_le)) (fun c64 => by exfalso; first | omega | exact absurd trivial c64 | exact c64 | (simp at c64)) (fun c64 => ?_)
      refine g_aload_n dX9_dig_67 rfl ?_
      refine g_iload dX9_dig_68 rfl ?_
      refine g_iload dX9_dig_70 rfl ?_
      refine p_callV (wkc) okX9_weekOfCut lkX9_68 rfl (by first | rfl | exact pv_shx) rfl (by omega) (by omega) dX9_dig_72 rfl (Nat.le_of_ble_eq_true rfl) (⟨by decide, by decide, by decide, by decide⟩) ?_
      refine g_istore dX9_dig_75 (by decide) rfl ?_
      exact go
  refine pvMet.of _ (by decide) rfl (Nat.le_of_ble_eq_true rfl) ?_
  refine g_aload_n dX9_dig_0 rfl ?_
  refine n_getI dX9_dig_1 fdX9_53 rfl (by first | rfl | exact pv_shx) (by omega) (by omega) (by decide) rfl (by repeat (first | exact h5 | (apply rd_s; done) | apply rd_n (by omega) | apply rp_s | apply rp_n (by omega) | (apply rdL_s; done) | apply rdL_n (by omega) | apply rpJ_s | apply rpJ_n (by omega) | rfl)) ?_
  refine g_istore dX9_dig_4 (by decide) rfl ?_
  refine g_aload_n dX9_dig_6 rfl ?_
  refine g_getP dX9_dig_7 fdX9_25 rfl (by first | rfl | exact pv_shx) (by omega) (by omega) (by decide) rfl (hP _ _ _ rfl) ?_
  refine g_iload dX9_dig_10 rfl ?_
  refine g_iload_n dX9_dig_12 rfl ?_
  refine n_iast dX9_dig_13 (by first | rfl | exact pv_shx) (by omega) (by omega) (by omega) (by decide) (rfl) (by omega) (by repeat (first | exact pvu_s | exact pvuJ_s | apply pvu_in (by omega) | apply pvuJ_in (by omega) | exact pvu_pvs | exact pvuJ_pvs)) ?_
  refine g_aload_n dX9_dig_14 rfl ?_
  refine g_getP dX9_dig_15 fdX9_28 rfl (by first | rfl | exact pv_shx) (by omega) (by omega) (by decide) rfl (hP _ _ _ rfl) ?_
  refine g_iload dX9_dig_18 rfl ?_
  refine g_iload_n dX9_dig_20 rfl ?_
  refine n_iast dX9_dig_21 (by first | rfl | exact pv_shx) (by omega) (by omega) (by omega) (by decide) (rfl) (by omega) (by repeat (first | exact pvu_s | exact pvuJ_s | apply pvu_in (by omega) | apply pvuJ_in (by omega) | exact pvu_pvs | exact pvuJ_pvs)) ?_
  refine g_aload_n dX9_dig_22 rfl ?_
  refine g_getP dX9_dig_23 fdX9_31 rfl (by first | rfl | exact pv_shx) (by omega) (by omega) (by decide) rfl (hP _ _ _ rfl) ?_
  refine g_iload dX9_dig_26 rfl ?_
  refine g_iload_n dX9_dig_28 rfl ?_
  refine n_iast dX9_dig_29 (by first | rfl | exact pv_shx) (by omega) (by omega) (by omega) (by decide) (rfl) (by omega) (by repeat (first | exact pvu_s | exact pvuJ_s | apply pvu_in (by omega) | apply pvuJ_in (by omega) | exact pvu_pvs | exact pvuJ_pvs)) ?_
  refine g_aload_n dX9_dig_30 rfl ?_
  refine g_getP dX9_dig_31 fdX9_34 rfl (by first | rfl | exact pv_shx) (by omega) (by omega) (by decide) rfl (hP _ _ _ rfl) ?_
  refine g_iload dX9_dig_34 rfl ?_
  refine g_iload dX9_dig_36 rfl ?_
  refine n_iast dX9_dig_38 (by first | rfl | exact pv_shx) (by omega) (by omega) (by omega) (by decide) (rfl) (by omega) (by repeat (first | exact pvu_s | exact pvuJ_s | apply pvu_in (by omega) | apply pvuJ_in (by omega) | exact pvu_pvs | exact pvuJ_pvs)) ?_
  refine g_aload_n dX9_dig_39 rfl ?_
  refine g_getP dX9_dig_40 fdX9_37 rfl (by first | rfl | exact pv_shx) (by omega) (by omega) (by decide) rfl (hP _ _ _ rfl) ?_
  refine g_iload dX9_dig_43 rfl ?_
  refine g_iload dX9_dig_45 rfl ?_
  refine n_iast dX9_dig_47 (by first | rfl | exact pv_shx) (by omega) (by omega) (by omega) (by decide) (rfl) (by omega) (by repeat (first | exact pvu_s | exact pvuJ_s | apply pvu_in (by omega) | apply pvuJ_in (by omega) | exact pvu_pvs | exact pvuJ_pvs)) ?_
  refine g_aload_n dX9_dig_48 rfl ?_
  refine g_dup dX9_dig_49 rfl ?_
  refine n_getI dX9_dig_50 fdX9_53 rfl (by first | rfl | exact pv_shx) (by omega) (by omega) (by decide) rfl (by repeat (first | exact h5 | (apply rd_s; done) | apply rd_n (by omega) | apply rp_s | apply rp_n (by omega) | (apply rdL_s; done) | apply rdL_n (by omega) | apply rpJ_s | apply rpJ_n (by omega) | rfl)) ?_
  refine g_iconst (v := nI 1) dX9_dig_53 (by decide) ?_
  refine n_iadd dX9_dig_54 (by first | (with_reducible exact nI_add _ _) | rfl) ?_
  refine n_putI dX9_dig_55 fdX9_53 rfl (fun h => absurd h (by decide)) (by first | rfl | exact pv_shx) (by omega) (by omega) (by decide) rfl (by repeat (first | exact pvu_s | exact pvuJ_s | apply pvu_in (by omega) | apply pvuJ_in (by omega) | exact pvu_pvs | exact pvuJ_pvs)) ?_
  refine g_iconst (v := nI 0) dX9_dig_58 (by decide) ?_
  refine g_istore dX9_dig_59 (by decide) rfl ?_
  refine g_drop _ (by repeat (first | exact trivial | refine ⟨Or.inr ⟨_, rfl⟩, ?_⟩ | refine ⟨Or.inl rfl, ?_⟩)) (lp _ (by simp [pvs]) (by simp [pvs]) (by simp [pvs]) (by simp [pvs]) (by simp [pvs]) (by simp [pvs]) (fun z hz => by repeat (rw [pvs_ne (by omega)])) n 0 J (by omega) (fun m hm => ?_) (fun _ _ => rfl))
  rw [hF m hm]
  apply mk_cong
  intro x _
  unfold dgB
  show F m x = (F m x || false)
  rw [Bool.or_false]
end DIG
