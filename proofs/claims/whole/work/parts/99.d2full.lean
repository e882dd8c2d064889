/-! class: pour: what is full -/
section FUL
variable {w h : Nat} {I : pvI} {J : pvJ} {P : pvP} {F : Nat → Nat}
def nfQ (w h : Nat) (F : Nat → Nat) (k : Nat) (I : pvI) (J : pvJ) (P : pvP) : pvQT := pvq P (fun v I' J' => v = none ∧ I' = I ∧ (∀ m, k < m → m < 100 → J' 8 m = mk (fun c => decide (c < w * h ∧ 20 ≤ F c))) ∧ (∀ m, m ≤ k → J' 8 m = J 8 m) ∧ ∀ z, z ≠ 8 → J' z = J z)
theorem c_noteFull {k : Nat} (hP : pvOkP P) (hg : gridOk w h I J) (hk : k < 100) (hF : ∀ c, c < 64 → F c ≤ 1000) (h7 : ∀ c, c < 64 → I 7 c = nI (F c)) : pvMet mX3_noteFull 1 0 0 [.ref 4, .int (nI k)] 224 I J P (nfQ w h F k I J P) := by
  have hwh := hg.wh
  have g2 : I 2 2 = nI (w * h) := hg.2.2.1
  have l2 : ∀ q m J1, m + q = 100 → k < m → (∀ j, k < j → j < m → J1 8 j = mk (fun c => decide (c < w * h ∧ 20 ≤ F c))) → (∀ j, j ≤ k → J1 8 j = J 8 j) → (∀ z, z ≠ 8 → J1 z = J z) → pvG mX3_noteFull (pvR 1 0 0) (pvZ (nfQ w h F k I J P) 0 0) 48 [.ref 4, .int (nI k), .long (mk (fun c => decide (c < w * h ∧ 20 ≤ F c))), .retAddr 0, .int (nI m)] [] 0 0 224 I J1 P := by
    intro q
    induction q with
    | zero =>
      intro m J1 hm h1 h2 h3 h4
      obtain rfl : m = 100 := by omega
      refine g_iload dX3_noteFull_48 rfl ?_
      refine g_bipush (v := nI 100) dX3_noteFull_50 (by decide) ?_
      refine n_icmp_ge 69 dX3_noteFull_52 (by decide) (by first | ((with_reducible apply cN_le) <;> omega) | ((with_reducible apply cI_len) <;> omega) | ((with_reducible apply cI_nle) <;> omega) | (with_reducible exact cI_le)) (fun c52 => ?_) (fun c52 => by exfalso; first | omega | exact absurd trivial c52 | exact c52 | (simp at c52))
      exact g_vret dX3_noteFull_69 rfl (⟨rfl, rfl, rfl, rfl, h2, h3, h4⟩)
    | succ q ih =>
      intro m J1 hm h1 h2 h3 h4
      refine g_iload dX3_noteFull_48 rfl ?_
      refine g_bipush (v := nI 100) dX3_noteFull_50 (by decide) ?_
      refine n_icmp_ge 69 dX3_noteFull_52 (by decide) (by first | ((with_reducible apply cN_le) <;> omega) | ((with_reducible apply cI_len) <;> omega) | ((with_reducible apply cI_nle) <;> omega) | (with_reducible exact cI_le)) (fun c52 => by exfalso; first | omega | exact absurd trivial c52 | exact c52 | (simp at c52)) (fun c52 => ?_)
      refine g_aload_n dX3_noteFull_55 rfl ?_
      refine g_getP dX3_noteFull_56 fdX3_21 rfl (by first | rfl | exact pv_shx) (by omega) (by omega) (by decide) rfl (hP _ _ _ rfl) ?_
      refine g_iload dX3_noteFull_59 rfl ?_
      refine g_lload_n dX3_noteFull_61 rfl ?_
      refine n_last dX3_noteFull_62 (by first | rfl | exact pv_shx) (by omega) (by omega) (by omega) (by decide) (rfl) (by omega) (by repeat (first | exact pvu_s | exact pvuJ_s | apply pvu_in (by omega) | apply pvuJ_in (by omega) | exact pvu_pvs | exact pvuJ_pvs)) ?_
      refine g_iinc dX3_noteFull_63 rfl (by first | (with_reducible exact nI_1 _) | exact nI_1 _ | exact pk_m1 _ | rfl) (by decide) rfl ?_
      refine g_goto 48 dX3_noteFull_66 (by decide) ?_
      refine ih (m + 1) _ (by omega) (by omega) (fun j z1 z2 => ?_) (fun j z1 => ?_) (fun z hz => ?_)
      · by_cases e : j = m
        · subst e; simp [pvsJ, vp_updL]
        · simp [pvsJ, vp_updL, e]; have := h2 j z1 (by omega); simpa using this
      · have e : j ≠ m := by omega
        simp [pvsJ, vp_updL, e]; exact h3 j z1
      · simp [pvsJ, hz]; exact h4 z hz
  have l1 : ∀ q c, c + q = w * h → pvG mX3_noteFull (pvR 1 0 0) (pvZ (nfQ w h F k I J P) 0 0) 5 [.ref 4, .int (nI k), .long (mk (fun x => decide (x < c ∧ 20 ≤ F x))), .retAddr 0, .int (nI c)] [] 0 0 224 I J P := by
    intro q
    induction q with
    | zero =>
      intro c hc
      obtain rfl : c = w * h := by omega
      refine g_iload dX3_noteFull_5 rfl ?_
      refine g_aload_n dX3_noteFull_7 rfl ?_
      refine g_getP dX3_noteFull_8 fdX3_35 rfl (by first | rfl | exact pv_shx) (by omega) (by omega) (by decide) rfl (hP _ _ _ rfl) ?_
      refine n_getI dX3_noteFull_11 fdX3_85 rfl (by first | rfl | exact pv_shx) (by omega) (by omega) (by decide) rfl (by repeat (first | exact g2 | (apply rd_s; done) | apply rd_n (by omega) | apply rp_s | apply rp_n (by omega) | (apply rdL_s; done) | apply rdL_n (by omega) | apply rpJ_s | apply rpJ_n (by omega) | rfl)) ?_
      refine n_icmp_ge 43 dX3_noteFull_14 (by decide) (by first | ((with_reducible apply cN_le) <;> omega) | ((with_reducible apply cI_len) <;> omega) | ((with_reducible apply cI_nle) <;> omega) | (with_reducible exact cI_le)) (fun c14 => ?_) (fun c14 => by exfalso; first | omega | exact absurd trivial c14 | exact c14 | (simp at c14))
      refine g_iload_n dX3_noteFull_43 rfl ?_
      refine g_iconst (v := nI 1) dX3_noteFull_44 (by decide) ?_
      refine n_iadd dX3_noteFull_45 (by first | (with_reducible exact nI_add _ _) | rfl) ?_
      refine g_istore dX3_noteFull_46 (by decide) rfl ?_
      exact l2 (99 - k) (k + 1) J (by omega) (by omega) (fun j z1 z2 => by omega) (fun _ _ => rfl) (fun _ _ => rfl)
    | succ q ih =>
      intro c hc
      have nx := ih (c + 1) (by omega)
      have r := h7 c (by omega)
      have hb := hF c (by omega)
      have bt := t_bit (nx := 224) (k := c) (I := I) (J := J) (P := P) (by omega)
      by_cases v : 20 ≤ F c
      · have e : mk (fun x => decide (x < c ∧ 20 ≤ F x)) ||| mk (fun x => decide (x = c)) = mk (fun x => decide (x < c + 1 ∧ 20 ≤ F x)) := mk_or.trans (mk_cong (fun x _ => by
          apply bool_eq
          rw [Bool.or_eq_true, decide_eq_true_iff, decide_eq_true_iff, decide_eq_true_iff]
          constructor
          · rintro (z | z)
            · exact ⟨by omega, z.2⟩
            · subst z; exact ⟨by omega, v⟩
          · rintro ⟨z1, z2⟩
            by_cases z3 : x = c
            · exact Or.inr z3
            · exact Or.inl ⟨by omega, z2⟩))
        refine g_iload dX3_noteFull_5 rfl ?_
        refine g_aload_n dX3_noteFull_7 rfl ?_
        refine g_getP dX3_noteFull_8 fdX3_35 rfl (by first | rfl | exact pv_shx) (by omega) (by omega) (by decide) rfl (hP _ _ _ rfl) ?_
        refine n_getI dX3_noteFull_11 fdX3_85 rfl (by first | rfl | exact pv_shx) (by omega) (by omega) (by decide) rfl (by repeat (first | exact g2 | exact r | (apply rd_s; done) | apply rd_n (by omega) | apply rp_s | apply rp_n (by omega) | (apply rdL_s; done) | apply rdL_n (by omega) | apply rpJ_s | apply rpJ_n (by omega) | rfl)) ?_
        refine n_icmp_ge 43 dX3_noteFull_14 (by decide) (by first | ((with_reducible apply cN_le) <;> omega) | ((with_reducible apply cI_len) <;> omega) | ((with_reducible apply cI_nle) <;> omega) | (with_reducible exact cI_le)) (fun c14 => by exfalso; first | omega | exact absurd trivial c14 | exact c14 | (simp at c14)) (fun c14 => ?_)
        refine g_aload_n dX3_noteFull_17 rfl ?_
        refine g_getP dX3_noteFull_18 fdX3_18 rfl (by first | rfl | exact pv_shx) (by omega) (by omega) (by decide) rfl (hP _ _ _ rfl) ?_
        refine g_iload dX3_noteFull_21 rfl ?_
        refine n_iald dX3_noteFull_23 (by first | rfl | exact pv_shx) (by omega) (by omega) (by decide) (rfl) (by omega) (by repeat (first | exact g2 | exact r | (apply rd_s; done) | apply rd_n (by omega) | apply rp_s | apply rp_n (by omega) | (apply rdL_s; done) | apply rdL_n (by omega) | apply rpJ_s | apply rpJ_n (by omega) | rfl)) ?_
        refine g_bipush (v := nI 20) dX3_noteFull_24 (by decide) ?_
        refine n_icmp_lt 37 dX3_noteFull_26 (by decide) (by first | ((with_reducible apply cN_lt) <;> omega) | ((with_reducible apply cI_ltn) <;> omega) | ((with_reducible apply cI_nlt) <;> omega) | (with_reducible exact cI_lt)) (fun c26 => by exfalso; first | omega | exact absurd trivial c26 | exact c26 | (simp at c26)) (fun c26 => ?_)
        refine g_lload_n dX3_noteFull_29 rfl ?_
        refine g_iload dX3_noteFull_30 rfl ?_
        refine p_callNS (bt) okX11_bit lkX3_55 rfl dX3_noteFull_32 rfl (Nat.le_of_ble_eq_true rfl) (⟨by decide, by decide, by decide, by decide⟩) ?_
        refine n_lor dX3_noteFull_35 (e) ?_
        refine g_lstore_n dX3_noteFull_36 (by decide) rfl ?_
        refine g_iinc dX3_noteFull_37 rfl (by first | (with_reducible exact nI_1 _) | exact nI_1 _ | exact pk_m1 _ | rfl) (by decide) rfl ?_
        refine g_goto 5 dX3_noteFull_40 (by decide) ?_
        exact nx
      · have e : mk (fun x => decide (x < c + 1 ∧ 20 ≤ F x)) = mk (fun x => decide (x < c ∧ 20 ≤ F x)) := mk_cong (fun x _ => by
          apply bool_eq
          rw [decide_eq_true_iff, decide_eq_true_iff]
          constructor
          · rintro ⟨z1, z2⟩
            have : x ≠ c := fun y => v (by rw [← y]; exact z2)
            exact ⟨by omega, z2⟩
          · rintro ⟨z1, z2⟩
            exact ⟨by omega, z2⟩)
        rw [e] at nx
        refine g_iload dX3_noteFull_5 rfl ?_
        refine g_aload_n dX3_noteFull_7 rfl ?_
        refine g_getP dX3_noteFull_8 fdX3_35 rfl (by first | rfl | exact pv_shx) (by omega) (by omega) (by decide) rfl (hP _ _ _ rfl) ?_
        refine n_getI dX3_noteFull_11 fdX3_85 rfl (by first | rfl | exact pv_shx) (by omega) (by omega) (by decide) rfl (by repeat (first | exact g2 | exact r | (apply rd_s; done) | apply rd_n (by omega) | apply rp_s | apply rp_n (by omega) | (apply rdL_s; done) | apply rdL_n (by omega) | apply rpJ_s | apply rpJ_n (by omega) | rfl)) ?_
        refine n_icmp_ge 43 dX3_noteFull_14 (by decide) (by first | ((with_reducible apply cN_le) <;> omega) | ((with_reducible apply cI_len) <;> omega) | ((with_reducible apply cI_nle) <;> omega) | (with_reducible exact cI_le)) (fun c14 => by exfalso; first | omega | exact absurd trivial c14 | exact c14 | (simp at c14)) (fun c14 => ?_)
        refine g_aload_n dX3_noteFull_17 rfl ?_
        refine g_getP dX3_noteFull_18 fdX3_18 rfl (by first | rfl | exact pv_shx) (by omega) (by omega) (by decide) rfl (hP _ _ _ rfl) ?_
        refine g_iload dX3_noteFull_21 rfl ?_
        refine n_iald dX3_noteFull_23 (by first | rfl | exact pv_shx) (by omega) (by omega) (by decide) (rfl) (by omega) (by repeat (first | exact g2 | exact r | (apply rd_s; done) | apply rd_n (by omega) | apply rp_s | apply rp_n (by omega) | (apply rdL_s; done) | apply rdL_n (by omega) | apply rpJ_s | apply rpJ_n (by omega) | rfl)) ?_
        refine g_bipush (v := nI 20) dX3_noteFull_24 (by decide) ?_
        refine n_icmp_lt 37 dX3_noteFull_26 (by decide) (by first | ((with_reducible apply cN_lt) <;> omega) | ((with_reducible apply cI_ltn) <;> omega) | ((with_reducible apply cI_nlt) <;> omega) | (with_reducible exact cI_lt)) (fun c26 => ?_) (fun c26 => by exfalso; first | omega | exact absurd trivial c26 | exact c26 | (simp at c26))
        refine g_iinc dX3_noteFull_37 rfl (by first | (with_reducible exact nI_1 _) | exact nI_1 _ | exact pk_m1 _ | rfl) (by decide) rfl ?_
        refine g_goto 5 dX3_noteFull_40 (by decide) ?_
        exact nx
  have e0 : mk (fun x => decide (x < 0 ∧ 20 ≤ F x)) = 0 := mk_eq0.mpr (fun c _ => decide_eq_false (by omega))
  have go := l1 (w * h) 0 (by omega)
  rw [e0] at go
  refine pvMet.of _ (by decide) rfl (Nat.le_of_ble_eq_true rfl) ?_
  refine g_lconst (v := 0) dX3_noteFull_0 (by decide) ?_
  refine g_lstore_n dX3_noteFull_1 (by decide) rfl ?_
  refine g_iconst (v := nI 0) dX3_noteFull_2 (by decide) ?_
  refine g_istore dX3_noteFull_3 (by decide) rfl ?_
  exact go
end FUL
