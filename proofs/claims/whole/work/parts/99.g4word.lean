/-! class: the reader: words, tokens, the text split -/
def wdB : List Nat := [115, 104, 117, 116, 32, 119, 111, 114, 116, 104, 32, 119, 104, 111, 115, 101, 32, 121, 101, 115, 32, 111, 114, 32, 97, 110, 100, 32, 110, 111, 116, 32, 103, 97, 115, 32, 99, 114, 97, 99, 107, 115, 32, 115, 105, 122, 101, 32, 119, 101, 101, 107, 32, 112, 101, 111, 112, 108, 101, 32, 104, 101, 97, 114, 100, 32, 97, 115, 107, 32, 107, 105, 110, 32]
def stW (w : Nat) : Nat := [0, 5, 11, 17, 21, 24, 28, 32, 36, 43, 48, 53, 60, 66, 70, 74].getD w 0
def enW (w : Nat) : Nat := [4, 10, 16, 20, 23, 27, 31, 35, 42, 47, 52, 59, 65, 69, 73].getD w 0
theorem wdB_ok : ∀ i, i < 74 → pv_bytes.getD i 0 = nI (wdB.getD i 0) ∧ wdB.getD i 0 ≤ 255 := by decide +kernel
theorem wW_ok : ∀ w, w < 15 → stW w < enW w ∧ enW w < 74 ∧ stW (w + 1) = enW w + 1 ∧ enW w - stW w = (wdO w).length ∧ wdB.getD (enW w) 0 = 32 := by decide
theorem wW_in : ∀ w, w < 15 → ∀ i, i < 74 → stW w ≤ i → i < enW w → wdB.getD i 0 ≠ 32 ∧ wdB.getD i 0 = (wdO w).getD (i - stW w) 0 := by decide +kernel
theorem wdO_inj : ∀ i, i < 15 → ∀ j, j < 15 → (wdO i).length = (wdO j).length → (∀ k, k < 6 → k < (wdO i).length → (wdO i).getD k 0 = (wdO j).getD k 0) → i = j := by decide +kernel
theorem wdF_no {tx : Nat → Nat} {p len : Nat} : ∀ i, (∀ j, j < i → ¬ isWd tx p len j = true) → wdF tx p len i = 1
  | 0, _ => rfl
  | i + 1, h => by
    show (if isWd tx p len i = true then 200 + i else wdF tx p len i) = 1
    rw [if_neg (h i (by omega))]
    exact wdF_no i (fun j hj => h j (by omega))
theorem isWd_iff {tx : Nat → Nat} {p len i : Nat} : isWd tx p len i = true ↔ (len = (wdO i).length ∧ ∀ j, j < (wdO i).length → tx (p + j) = (wdO i).getD j 0) := by
  unfold isWd
  rw [Bool.and_eq_true, decide_eq_true_iff, decide_eq_true_iff]
theorem wdF_one {tx : Nat → Nat} {p len w : Nat} (hw : isWd tx p len w = true) (h15 : w < 15) : wdT tx p len = 200 + w := by
  have key : ∀ i, i ≤ 15 → w < i → wdF tx p len i = 200 + w := by
    intro i
    induction i with
    | zero => intro _ h; omega
    | succ i ih =>
      intro h1 h2
      show (if isWd tx p len i = true then 200 + i else wdF tx p len i) = 200 + w
      by_cases c : isWd tx p len i = true
      · rw [if_pos c]
        obtain ⟨a1, a2⟩ := isWd_iff.mp hw
        obtain ⟨b1, b2⟩ := isWd_iff.mp c
        have := wdO_inj w h15 i (by omega) (by omega) (fun k _ hk => by rw [← a2 k hk, ← b2 k (by omega)])
        omega
      · rw [if_neg c]
        exact ih (by omega) (by
          rcases Nat.lt_or_ge w i with z | z
          · exact z
          · exact absurd (by rw [show i = w by omega]; exact hw) c)
  exact key 15 (Nat.le_refl _) h15
theorem sub_l2 {a b : Nat} (h : a + b < 2 ^ 31) : nI (a + b) - nI a = nI b := by
  have h1 : nI (a + b) - nI a = nI (a + b - a) := by (with_reducible apply pk_sub) <;> omega
  rw [h1, Nat.add_sub_cancel_left]
section WRD
variable {tx : Nat → Nat} {n p : Nat} {I : pvI} {J : pvJ} {P : pvP}
theorem c_isWord {w : Nat} (hP : pvOkP P) (ht : cTx tx n I) (hw : w < 15) (hp : p + (enW w - stW w) ≤ n) : pvMet mX6_isWord 4 0 0 [.ref 144, .int (nI (stW w)), .int (nI (enW w)), .int (nI p)] 224 I J P (pvpu (.int (if isWd tx p (enW w - stW w) w = true then 1 else 0)) 224 I J P) := by
  obtain ⟨t1, t2, t3⟩ := ht
  obtain ⟨w1, w2, w3, w4, w5⟩ := wW_ok w hw
  have ei : isWd tx p (enW w - stW w) w = true ↔ ∀ j, j < enW w - stW w → tx (p + j) = (wdO w).getD j 0 := by
    rw [isWd_iff, ← w4]
    exact ⟨fun z => z.2, fun z => ⟨rfl, z⟩⟩
  have lp : ∀ q j, j + q = enW w - stW w → (∀ k, k < j → tx (p + k) = (wdO w).getD k 0) → pvG mX6_isWord (pvR 4 0 0) (pvZ (pvpu (.int (if isWd tx p (enW w - stW w) w = true then 1 else 0)) 224 I J P) 0 0) 3 [.ref 144, .int (nI (stW w)), .int (nI (enW w)), .int (nI p), .int (nI (stW w + j))] [] 0 0 224 I J P := by
    intro q
    induction q with
    | zero =>
      intro j hj h
      rw [if_pos (ei.mpr (fun k hk => h k (by omega)))]
      refine g_iload dX6_isWord_3 rfl ?_
      refine g_iload_n dX6_isWord_5 rfl ?_
      refine n_icmp_ge 38 dX6_isWord_6 (by decide) (by first | ((with_reducible apply cN_le) <;> omega) | ((with_reducible apply cI_len) <;> omega) | ((with_reducible apply cI_nle) <;> omega) | (with_reducible exact cI_le)) (fun c6 => ?_) (fun c6 => by exfalso; first | omega | exact absurd trivial c6 | exact c6 | (simp at c6))
      refine g_iconst (v := nI 1) dX6_isWord_38 (by decide) ?_
      exact g_zret (by first | exact Or.inl rfl | exact Or.inr rfl | exact cB01 _) dX6_isWord_39 rfl (⟨rfl, rfl, rfl, rfl, rfl⟩)
    | succ q ih =>
      intro j hj h
      obtain ⟨b1, b2⟩ := wdB_ok (stW w + j) (by omega)
      obtain ⟨d1, d2⟩ := wW_in w hw (stW w + j) (by omega) (by omega) (by omega)
      rw [Nat.add_sub_cancel_left] at d2
      have ca := c_charAt (i := stW w + j) (nx := 224) (I := I) (J := J) (P := P) (by omega)
      rw [b1] at ca
      obtain ⟨u1, u2⟩ := t3 (p + j) (by omega)
      have e25 : nI (p + (stW w + j)) - nI (stW w) = nI (p + j) := by
        rw [show p + (stW w + j) = stW w + (p + j) by omega]
        exact sub_l2 (by omega)
      by_cases c : tx (p + j) = (wdO w).getD j 0
      · have nx := ih (j + 1) (by omega) (fun k hk => by
          by_cases e : k = j
          · subst e; exact c
          · exact h k (by omega))
        rw [← Nat.add_assoc] at nx
        refine g_iload dX6_isWord_3 rfl ?_
        refine g_iload_n dX6_isWord_5 rfl ?_
        refine n_icmp_ge 38 dX6_isWord_6 (by decide) (by first | ((with_reducible apply cN_le) <;> omega) | ((with_reducible apply cI_len) <;> omega) | ((with_reducible apply cI_nle) <;> omega) | (with_reducible exact cI_le)) (fun c6 => by exfalso; first | omega | exact absurd trivial c6 | exact c6 | (simp at c6)) (fun c6 => ?_)
        refine g_ldcS rfl dX6_isWord_9 ?_
        refine g_iload dX6_isWord_11 rfl ?_
        refine p_callStr (ca) okJ0_charAt_5068e lkX6_87 rfl rfl dX6_isWord_13 rfl (Nat.le_of_ble_eq_true rfl) (⟨by decide, by decide, by decide, by decide⟩) ?_
        refine g_aload_n dX6_isWord_16 rfl ?_
        refine g_getP dX6_isWord_17 fdX6_9 rfl (by first | rfl | exact pv_shx) (by omega) (by omega) (by decide) rfl (hP _ _ _ rfl) ?_
        refine g_iload_n dX6_isWord_20 rfl ?_
        refine g_iload dX6_isWord_21 rfl ?_
        refine n_iadd dX6_isWord_23 (by first | (with_reducible exact nI_add _ _) | rfl) ?_
        refine g_iload_n dX6_isWord_24 rfl ?_
        refine n_isub dX6_isWord_25 (e25) ?_
        refine n_iald dX6_isWord_26 (by first | rfl | exact pv_shx) (by omega) (by omega) (by decide) (rfl) (by omega) (by repeat (first | exact u1 | (apply rd_s; done) | apply rd_n (by omega) | apply rp_s | apply rp_n (by omega) | (apply rdL_s; done) | apply rdL_n (by omega) | apply rpJ_s | apply rpJ_n (by omega) | rfl)) ?_
        refine n_icmp_eq 32 dX6_isWord_27 (by decide) (by first | ((with_reducible apply cN_eq) <;> omega) | ((with_reducible apply cI_eqn) <;> omega) | exact Iff.rfl) (fun c27 => ?_) (fun c27 => by exfalso; first | omega | exact absurd trivial c27 | exact c27 | (simp at c27))
        refine g_iinc dX6_isWord_32 rfl (by first | (with_reducible exact nI_1 _) | exact nI_1 _ | exact pk_m1 _ | rfl) (by decide) rfl ?_
        refine g_goto 3 dX6_isWord_35 (by decide) ?_
        exact nx
      · rw [if_neg (fun z => c (ei.mp z j (by omega)))]
        refine g_iload dX6_isWord_3 rfl ?_
        refine g_iload_n dX6_isWord_5 rfl ?_
        refine n_icmp_ge 38 dX6_isWord_6 (by decide) (by first | ((with_reducible apply cN_le) <;> omega) | ((with_reducible apply cI_len) <;> omega) | ((with_reducible apply cI_nle) <;> omega) | (with_reducible exact cI_le)) (fun c6 => by exfalso; first | omega | exact absurd trivial c6 | exact c6 | (simp at c6)) (fun c6 => ?_)
        refine g_ldcS rfl dX6_isWord_9 ?_
        refine g_iload dX6_isWord_11 rfl ?_
        refine p_callStr (ca) okJ0_charAt_5068e lkX6_87 rfl rfl dX6_isWord_13 rfl (Nat.le_of_ble_eq_true rfl) (⟨by decide, by decide, by decide, by decide⟩) ?_
        refine g_aload_n dX6_isWord_16 rfl ?_
        refine g_getP dX6_isWord_17 fdX6_9 rfl (by first | rfl | exact pv_shx) (by omega) (by omega) (by decide) rfl (hP _ _ _ rfl) ?_
        refine g_iload_n dX6_isWord_20 rfl ?_
        refine g_iload dX6_isWord_21 rfl ?_
        refine n_iadd dX6_isWord_23 (by first | (with_reducible exact nI_add _ _) | rfl) ?_
        refine g_iload_n dX6_isWord_24 rfl ?_
        refine n_isub dX6_isWord_25 (e25) ?_
        refine n_iald dX6_isWord_26 (by first | rfl | exact pv_shx) (by omega) (by omega) (by decide) (rfl) (by omega) (by repeat (first | exact u1 | (apply rd_s; done) | apply rd_n (by omega) | apply rp_s | apply rp_n (by omega) | (apply rdL_s; done) | apply rdL_n (by omega) | apply rpJ_s | apply rpJ_n (by omega) | rfl)) ?_
        refine n_icmp_eq 32 dX6_isWord_27 (by decide) (by first | ((with_reducible apply cN_eq) <;> omega) | ((with_reducible apply cI_eqn) <;> omega) | exact Iff.rfl) (fun c27 => by exfalso; first | omega | exact absurd trivial c27 | exact c27 | (simp at c27)) (fun c27 => ?_)
        refine g_iconst (v := nI 0) dX6_isWord_30 (by decide) ?_
        exact g_zret (by first | exact Or.inl rfl | exact Or.inr rfl | exact cB01 _) dX6_isWord_31 rfl (⟨rfl, rfl, rfl, rfl, rfl⟩)
  refine pvMet.of _ (by decide) rfl (Nat.le_of_ble_eq_true rfl) ?_
  refine g_iload_n dX6_isWord_0 rfl ?_
  refine g_istore dX6_isWord_1 (by decide) rfl ?_
  exact lp (enW w - stW w) 0 (by omega) (fun k hk => absurd hk (Nat.not_lt_zero k))
theorem c_wordOf {m : Nat} (hP : pvOkP P) (ht : cTx tx n I) (hm : p + m ≤ n) : pvMet mX6_wordOf 5 0 0 [.ref 144, .int (nI p), .int (nI (p + m))] 224 I J P (pvpu (.int (nI (wdT tx p m))) 224 I J P) := by
  have ht' := ht
  obtain ⟨t1, t2, t3⟩ := ht
  have sl := c_strLength (nx := 224) (I := I) (J := J) (P := P)
  have em : nI (p + m) - nI p = nI m := sub_l2 (by omega)
  have lp : ∀ q i w, i + q = 74 → w ≤ 15 → stW w ≤ i → (w < 15 → i ≤ enW w) → (∀ j, j < w → ¬ isWd tx p m j = true) → pvG mX6_wordOf (pvR 5 0 0) (pvZ (pvpu (.int (nI (wdT tx p m))) 224 I J P) 0 0) 8 [.ref 144, .int (nI p), .int (nI (p + m)), .int (nI w), .int (nI (stW w)), .int (nI i)] [] 0 0 224 I J P := by
    intro q
    induction q with
    | zero =>
      intro i w hi h1 h2 h3 h4
      have hw : w = 15 := by
        rcases Nat.lt_or_ge w 15 with z | z
        · have := wW_ok w z
          have := h3 z
          omega
        · omega
      subst hw
      rw [show wdT tx p m = 1 from wdF_no 15 h4]
      refine g_iload dX6_wordOf_8 rfl ?_
      refine g_ldcS rfl dX6_wordOf_10 ?_
      refine p_callStr (sl) okJ0_length_8abf5 lkX6_82 rfl rfl dX6_wordOf_12 rfl (Nat.le_of_ble_eq_true rfl) (⟨by decide, by decide, by decide, by decide⟩) ?_
      refine n_icmp_ge 74 dX6_wordOf_15 (by decide) (by first | ((with_reducible apply cN_le) <;> omega) | ((with_reducible apply cI_len) <;> omega) | ((with_reducible apply cI_nle) <;> omega) | (with_reducible exact cI_le)) (fun c15 => ?_) (fun c15 => by exfalso; first | omega | exact absurd trivial c15 | exact c15 | (simp at c15))
      refine g_iconst (v := nI 1) dX6_wordOf_74 (by decide) ?_
      exact g_iret dX6_wordOf_75 rfl (⟨rfl, rfl, rfl, rfl, rfl⟩)
    | succ q ih =>
      intro i w hi h1 h2 h3 h4
      have hw : w < 15 := by
        rcases Nat.lt_or_ge w 15 with z | z
        · exact z
        · have : stW 15 = 74 := rfl
          rw [show w = 15 by omega] at h2
          omega
      obtain ⟨w1, w2, w3, w4, w5⟩ := wW_ok w hw
      obtain ⟨b1, b2⟩ := wdB_ok i (by omega)
      have ca := c_charAt (i := i) (nx := 224) (I := I) (J := J) (P := P) (by omega)
      rw [b1] at ca
      have hle := h3 hw
      by_cases c : i = enW w
      · have nx := ih (i + 1) (w + 1) (by omega) (by omega) (by omega) (fun z => by have := wW_ok (w + 1) z; omega)
        rw [show stW (w + 1) = i + 1 by omega] at nx
        have e34 : nI i - nI (stW w) = nI (enW w - stW w) := by
          rw [c]; (with_reducible apply pk_sub) <;> omega
        subst c
        rw [w5] at ca
        by_cases c2 : enW w - stW w = m
        · have iw := c_isWord (J := J) hP ht' hw (p := p) (by omega)
          rw [c2] at iw
          by_cases c3 : isWd tx p m w = true
          · rw [if_pos c3] at iw
            rw [wdF_one c3 hw]
            refine g_iload dX6_wordOf_8 rfl ?_
            refine g_ldcS rfl dX6_wordOf_10 ?_
            refine p_callStr (sl) okJ0_length_8abf5 lkX6_82 rfl rfl dX6_wordOf_12 rfl (Nat.le_of_ble_eq_true rfl) (⟨by decide, by decide, by decide, by decide⟩) ?_
            refine n_icmp_ge 74 dX6_wordOf_15 (by decide) (by first | ((with_reducible apply cN_le) <;> omega) | ((with_reducible apply cI_len) <;> omega) | ((with_reducible apply cI_nle) <;> omega) | (with_reducible exact cI_le)) (fun c15 => by exfalso; first | omega | exact absurd trivial c15 | exact c15 | (simp at c15)) (fun c15 => ?_)
            refine g_ldcS rfl dX6_wordOf_18 ?_
            refine g_iload dX6_wordOf_20 rfl ?_
            refine p_callStr (ca) okJ0_charAt_5068e lkX6_87 rfl rfl dX6_wordOf_22 rfl (Nat.le_of_ble_eq_true rfl) (⟨by decide, by decide, by decide, by decide⟩) ?_
            refine g_bipush (v := nI 32) dX6_wordOf_25 (by decide) ?_
            refine n_icmp_ne 68 dX6_wordOf_27 (by decide) (by first | ((with_reducible apply cN_eq) <;> omega) | ((with_reducible apply cI_eqn) <;> omega) | exact Iff.rfl) (fun c27 => by exfalso; first | omega | exact absurd trivial c27 | exact c27 | (simp at c27)) (fun c27 => ?_)
            refine g_iload dX6_wordOf_30 rfl ?_
            refine g_iload dX6_wordOf_32 rfl ?_
            refine n_isub dX6_wordOf_34 (e34) ?_
            refine g_iload_n dX6_wordOf_35 rfl ?_
            refine g_iload_n dX6_wordOf_36 rfl ?_
            refine n_isub dX6_wordOf_37 (em) ?_
            refine n_icmp_ne 59 dX6_wordOf_38 (by decide) (by first | ((with_reducible apply cN_eq) <;> omega) | ((with_reducible apply cI_eqn) <;> omega) | exact Iff.rfl) (fun c38 => by exfalso; first | omega | exact absurd trivial c38 | exact c38 | (simp at c38)) (fun c38 => ?_)
            refine g_aload_n dX6_wordOf_41 rfl ?_
            refine g_iload dX6_wordOf_42 rfl ?_
            refine g_iload dX6_wordOf_44 rfl ?_
            refine g_iload_n dX6_wordOf_46 rfl ?_
            refine p_callV (iw) okX6_isWord lkX6_91 rfl (by first | rfl | exact pv_shx) rfl (by omega) (by omega) dX6_wordOf_47 rfl (Nat.le_of_ble_eq_true rfl) (⟨by decide, by decide, by decide, by decide⟩) ?_
            refine n_if_eq 59 dX6_wordOf_50 (by decide) (by first | (with_reducible exact cB _) | ((with_reducible apply cN_eq0) <;> omega) | exact Iff.rfl) (fun c50 => by exfalso; first | omega | exact absurd trivial c50 | exact c50 | (simp at c50)) (fun c50 => ?_)
            refine g_sipush (v := nI 200) dX6_wordOf_53 (by decide) ?_
            refine g_iload_n dX6_wordOf_56 rfl ?_
            refine n_iadd dX6_wordOf_57 (by first | (with_reducible exact nI_add _ _) | rfl) ?_
            exact g_iret dX6_wordOf_58 rfl (⟨rfl, rfl, rfl, rfl, rfl⟩)
          · rw [if_neg c3] at iw
            have nx2 := nx (fun j hj => by
              by_cases e : j = w
              · subst e; exact c3
              · exact h4 j (by omega))
            refine g_iload dX6_wordOf_8 rfl ?_
            refine g_ldcS rfl dX6_wordOf_10 ?_
            refine p_callStr (sl) okJ0_length_8abf5 lkX6_82 rfl rfl dX6_wordOf_12 rfl (Nat.le_of_ble_eq_true rfl) (⟨by decide, by decide, by decide, by decide⟩) ?_
            refine n_icmp_ge 74 dX6_wordOf_15 (by decide) (by first | ((with_reducible apply cN_le) <;> omega) | ((with_reducible apply cI_len) <;> omega) | ((with_reducible apply cI_nle) <;> omega) | (with_reducible exact cI_le)) (fun c15 => by exfalso; first | omega | exact absurd trivial c15 | exact c15 | (simp at c15)) (fun c15 => ?_)
            refine g_ldcS rfl dX6_wordOf_18 ?_
            refine g_iload dX6_wordOf_20 rfl ?_
            refine p_callStr (ca) okJ0_charAt_5068e lkX6_87 rfl rfl dX6_wordOf_22 rfl (Nat.le_of_ble_eq_true rfl) (⟨by decide, by decide, by decide, by decide⟩) ?_
            refine g_bipush (v := nI 32) dX6_wordOf_25 (by decide) ?_
            refine n_icmp_ne 68 dX6_wordOf_27 (by decide) (by first | ((with_reducible apply cN_eq) <;> omega) | ((with_reducible apply cI_eqn) <;> omega) | exact Iff.rfl) (fun c27 => by exfalso; first | omega | exact absurd trivial c27 | exact c27 | (simp at c27)) (fun c27 => ?_)
            refine g_iload dX6_wordOf_30 rfl ?_
            refine g_iload dX6_wordOf_32 rfl ?_
            refine n_isub dX6_wordOf_34 (e34) ?_
            refine g_iload_n dX6_wordOf_35 rfl ?_
            refine g_iload_n dX6_wordOf_36 rfl ?_
            refine n_isub dX6_wordOf_37 (em) ?_
            refine n_icmp_ne 59 dX6_wordOf_38 (by decide) (by first | ((with_reducible apply cN_eq) <;> omega) | ((with_reducible apply cI_eqn) <;> omega) | exact Iff.rfl) (fun c38 => by exfalso; first | omega | exact absurd trivial c38 | exact c38 | (simp at c38)) (fun c38 => ?_)
            refine g_aload_n dX6_wordOf_41 rfl ?_
            refine g_iload dX6_wordOf_42 rfl ?_
            refine g_iload dX6_wordOf_44 rfl ?_
            refine g_iload_n dX6_wordOf_46 rfl ?_
            refine p_callV (iw) okX6_isWord lkX6_91 rfl (by first | rfl | exact pv_shx) rfl (by omega) (by omega) dX6_wordOf_47 rfl (Nat.le_of_ble_eq_true rfl) (⟨by decide, by decide, by decide, by decide⟩) ?_
            refine n_if_eq 59 dX6_wordOf_50 (by decide) (by first | (with_reducible exact cB _) | ((with_reducible apply cN_eq0) <;> omega) | exact Iff.rfl) (fun c50 => ?_) (fun c50 => by exfalso; first | omega | exact absurd trivial c50 | exact c50 | (simp at c50))
            refine g_iinc dX6_wordOf_59 rfl (by first | (with_reducible exact nI_1 _) | exact nI_1 _ | exact pk_m1 _ | rfl) (by decide) rfl ?_
            refine g_iload dX6_wordOf_62 rfl ?_
            refine g_iconst (v := nI 1) dX6_wordOf_64 (by decide) ?_
            refine n_iadd dX6_wordOf_65 (by first | (with_reducible exact nI_add _ _) | rfl) ?_
            refine g_istore dX6_wordOf_66 (by decide) rfl ?_
            refine g_iinc dX6_wordOf_68 rfl (by first | (with_reducible exact nI_1 _) | exact nI_1 _ | exact pk_m1 _ | rfl) (by decide) rfl ?_
            refine g_goto 8 dX6_wordOf_71 (by decide) ?_
            exact nx2
        · have nx2 := nx (fun j hj => by
            by_cases e : j = w
            · subst e; exact fun z => c2 (by rw [w4]; exact (isWd_iff.mp z).1.symm)
            · exact h4 j (by omega))
          refine g_iload dX6_wordOf_8 rfl ?_
          refine g_ldcS rfl dX6_wordOf_10 ?_
          refine p_callStr (sl) okJ0_length_8abf5 lkX6_82 rfl rfl dX6_wordOf_12 rfl (Nat.le_of_ble_eq_true rfl) (⟨by decide, by decide, by decide, by decide⟩) ?_
          refine n_icmp_ge 74 dX6_wordOf_15 (by decide) (by first | ((with_reducible apply cN_le) <;> omega) | ((with_reducible apply cI_len) <;> omega) | ((with_reducible apply cI_nle) <;> omega) | (with_reducible exact cI_le)) (fun c15 => by exfalso; first | omega | exact absurd trivial c15 | exact c15 | (simp at c15)) (fun c15 => ?_)
          refine g_ldcS rfl dX6_wordOf_18 ?_
          refine g_iload dX6_wordOf_20 rfl ?_
          refine p_callStr (ca) okJ0_charAt_5068e lkX6_87 rfl rfl dX6_wordOf_22 rfl (Nat.le_of_ble_eq_true rfl) (⟨by decide, by decide, by decide, by decide⟩) ?_
          refine g_bipush (v := nI 32) dX6_wordOf_25 (by decide) ?_
          refine n_icmp_ne 68 dX6_wordOf_27 (by decide) (by first | ((with_reducible apply cN_eq) <;> omega) | ((with_reducible apply cI_eqn) <;> omega) | exact Iff.rfl) (fun c27 => by exfalso; first | omega | exact absurd trivial c27 | exact c27 | (simp at c27)) (fun c27 => ?_)
          refine g_iload dX6_wordOf_30 rfl ?_
          refine g_iload dX6_wordOf_32 rfl ?_
          refine n_isub dX6_wordOf_34 (e34) ?_
          refine g_iload_n dX6_wordOf_35 rfl ?_
          refine g_iload_n dX6_wordOf_36 rfl ?_
          refine n_isub dX6_wordOf_37 (em) ?_
          refine n_icmp_ne 59 dX6_wordOf_38 (by decide) (by first | ((with_reducible apply cN_eq) <;> omega) | ((with_reducible apply cI_eqn) <;> omega) | exact Iff.rfl) (fun c38 => ?_) (fun c38 => by exfalso; first | omega | exact absurd trivial c38 | exact c38 | (simp at c38))
          refine g_iinc dX6_wordOf_59 rfl (by first | (with_reducible exact nI_1 _) | exact nI_1 _ | exact pk_m1 _ | rfl) (by decide) rfl ?_
          refine g_iload dX6_wordOf_62 rfl ?_
          refine g_iconst (v := nI 1) dX6_wordOf_64 (by decide) ?_
          refine n_iadd dX6_wordOf_65 (by first | (with_reducible exact nI_add _ _) | rfl) ?_
          refine g_istore dX6_wordOf_66 (by decide) rfl ?_
          refine g_iinc dX6_wordOf_68 rfl (by first | (with_reducible exact nI_1 _) | exact nI_1 _ | exact pk_m1 _ | rfl) (by decide) rfl ?_
          refine g_goto 8 dX6_wordOf_71 (by decide) ?_
          exact nx2
      · have nx := ih (i + 1) w (by omega) h1 (by omega) (fun _ => by omega) h4
        obtain ⟨d1, -⟩ := wW_in w hw i (by omega) h2 (by omega)
        refine g_iload dX6_wordOf_8 rfl ?_
        refine g_ldcS rfl dX6_wordOf_10 ?_
        refine p_callStr (sl) okJ0_length_8abf5 lkX6_82 rfl rfl dX6_wordOf_12 rfl (Nat.le_of_ble_eq_true rfl) (⟨by decide, by decide, by decide, by decide⟩) ?_
        refine n_icmp_ge 74 dX6_wordOf_15 (by decide) (by first | ((with_reducible apply cN_le) <;> omega) | ((with_reducible apply cI_len) <;> omega) | ((with_reducible apply cI_nle) <;> omega) | (with_reducible exact cI_le)) (fun c15 => by exfalso; first | omega | exact absurd trivial c15 | exact c15 | (simp at c15)) (fun c15 => ?_)
        refine g_ldcS rfl dX6_wordOf_18 ?_
        refine g_iload dX6_wordOf_20 rfl ?_
        refine p_callStr (ca) okJ0_charAt_5068e lkX6_87 rfl rfl dX6_wordOf_22 rfl (Nat.le_of_ble_eq_true rfl) (⟨by decide, by decide, by decide, by decide⟩) ?_
        refine g_bipush (v := nI 32) dX6_wordOf_25 (by decide) ?_
        refine n_icmp_ne 68 dX6_wordOf_27 (by decide) (by first | ((with_reducible apply cN_eq) <;> omega) | ((with_reducible apply cI_eqn) <;> omega) | exact Iff.rfl) (fun c27 => ?_) (fun c27 => by exfalso; first | omega | exact absurd trivial c27 | exact c27 | (simp at c27))
        refine g_iinc dX6_wordOf_68 rfl (by first | (with_reducible exact nI_1 _) | exact nI_1 _ | exact pk_m1 _ | rfl) (by decide) rfl ?_
        refine g_goto 8 dX6_wordOf_71 (by decide) ?_
        exact nx
  refine pvMet.of _ (by decide) rfl (Nat.le_of_ble_eq_true rfl) ?_
  refine g_iconst (v := nI 0) dX6_wordOf_0 (by decide) ?_
  refine g_istore_n dX6_wordOf_1 (by decide) rfl ?_
  refine g_iconst (v := nI 0) dX6_wordOf_2 (by decide) ?_
  refine g_istore dX6_wordOf_3 (by decide) rfl ?_
  refine g_iconst (v := nI 0) dX6_wordOf_5 (by decide) ?_
  refine g_istore dX6_wordOf_6 (by decide) rfl ?_
  exact lp 74 0 0 (by omega) (by omega) (Nat.zero_le _) (fun _ => Nat.zero_le _) (fun j hj => absurd hj (Nat.not_lt_zero j))
theorem c_tokenOf (hP : pvOkP P) (ht : cTx tx n I) (hp : p < n) : pvMet mX6_tokenOf 6 0 0 [.ref 144, .int (nI p), .int (nI (tkE tx n p))] 224 I J P (pvpu (.int (nI (tkT tx n p))) 224 I J P) := by
  have ht' := ht
  obtain ⟨t1, t2, t3⟩ := ht
  obtain ⟨u1, u2⟩ := t3 p hp
  have fo := c_familyOf (b := tx p) (nx := 224) (I := I) (J := J) (P := P) u2
  have hb := tkE_b (tx := tx) (n := n) (p := p) (by omega)
  by_cases c1 : isDg (tx p) = true
  · have hE : tkE tx n p = rn isDg tx n p := by unfold tkE; rw [if_neg (by omega), if_pos c1]
    have hT : tkT tx n p = 1000 + nuC tx p (rn isDg tx n p - p) := by unfold tkT; rw [if_neg (by omega), if_pos c1]
    obtain ⟨r1, r2, -, r4⟩ := rn_b (q := isDg) (tx := tx) (n := n) (p := p) (by omega)
    have nu := c_numberOf (J := J) (m := rn isDg tx n p - p) hP ht' (p := p) (by omega) (fun j hj => r4 (p + j) (by omega) (by omega))
    rw [show p + (rn isDg tx n p - p) = rn isDg tx n p by omega] at nu
    rw [fam_0.mpr c1] at fo
    rw [hE, hT]
    refine pvMet.of _ (by decide) rfl (Nat.le_of_ble_eq_true rfl) ?_
    refine g_aload_n dX6_tokenOf_0 rfl ?_
    refine g_getP dX6_tokenOf_1 fdX6_9 rfl (by first | rfl | exact pv_shx) (by omega) (by omega) (by decide) rfl (hP _ _ _ rfl) ?_
    refine g_iload_n dX6_tokenOf_4 rfl ?_
    refine n_iald dX6_tokenOf_5 (by first | rfl | exact pv_shx) (by omega) (by omega) (by decide) (rfl) (by omega) (by repeat (first | exact u1 | (apply rd_s; done) | apply rd_n (by omega) | apply rp_s | apply rp_n (by omega) | (apply rdL_s; done) | apply rdL_n (by omega) | apply rpJ_s | apply rpJ_n (by omega) | rfl)) ?_
    refine p_callS (fo) okX6_familyOf lkX6_66 rfl dX6_tokenOf_6 rfl (Nat.le_of_ble_eq_true rfl) (⟨by decide, by decide, by decide, by decide⟩) ?_
    refine g_lookup 59 dX6_tokenOf_9 (by decide) (off := 50) (by decide) (by decide) ?_
    refine g_sipush (v := nI 1000) dX6_tokenOf_59 (by decide) ?_
    refine g_aload_n dX6_tokenOf_62 rfl ?_
    refine g_iload_n dX6_tokenOf_63 rfl ?_
    refine g_iload_n dX6_tokenOf_64 rfl ?_
    refine p_callV (nu) okX6_numberOf lkX6_72 rfl (by first | rfl | exact pv_shx) rfl (by omega) (by omega) dX6_tokenOf_65 rfl (Nat.le_of_ble_eq_true rfl) (⟨by decide, by decide, by decide, by decide⟩) ?_
    refine n_iadd dX6_tokenOf_68 (by first | (with_reducible exact nI_add _ _) | rfl) ?_
    exact g_iret dX6_tokenOf_69 rfl (⟨rfl, rfl, rfl, rfl, rfl⟩)
  · by_cases c2 : isLt (tx p) = true
    · have hE : tkE tx n p = rn isLt tx n p := by unfold tkE; rw [if_neg (by omega), if_neg c1, if_pos c2]
      have hT : tkT tx n p = wdT tx p (rn isLt tx n p - p) := by unfold tkT; rw [if_neg (by omega), if_neg c1, if_pos c2]
      obtain ⟨r1, r2, -, r4⟩ := rn_b (q := isLt) (tx := tx) (n := n) (p := p) (by omega)
      have wo := c_wordOf (J := J) (m := rn isLt tx n p - p) hP ht' (p := p) (by omega)
      rw [show p + (rn isLt tx n p - p) = rn isLt tx n p by omega] at wo
      rw [fam_a.mpr c2] at fo
      rw [hE, hT]
      refine pvMet.of _ (by decide) rfl (Nat.le_of_ble_eq_true rfl) ?_
      refine g_aload_n dX6_tokenOf_0 rfl ?_
      refine g_getP dX6_tokenOf_1 fdX6_9 rfl (by first | rfl | exact pv_shx) (by omega) (by omega) (by decide) rfl (hP _ _ _ rfl) ?_
      refine g_iload_n dX6_tokenOf_4 rfl ?_
      refine n_iald dX6_tokenOf_5 (by first | rfl | exact pv_shx) (by omega) (by omega) (by decide) (rfl) (by omega) (by repeat (first | exact u1 | (apply rd_s; done) | apply rd_n (by omega) | apply rp_s | apply rp_n (by omega) | (apply rdL_s; done) | apply rdL_n (by omega) | apply rpJ_s | apply rpJ_n (by omega) | rfl)) ?_
      refine p_callS (fo) okX6_familyOf lkX6_66 rfl dX6_tokenOf_6 rfl (Nat.le_of_ble_eq_true rfl) (⟨by decide, by decide, by decide, by decide⟩) ?_
      refine g_lookup 52 dX6_tokenOf_9 (by decide) (off := 43) (by decide) (by decide) ?_
      refine g_aload_n dX6_tokenOf_52 rfl ?_
      refine g_iload_n dX6_tokenOf_53 rfl ?_
      refine g_iload_n dX6_tokenOf_54 rfl ?_
      refine p_callV (wo) okX6_wordOf lkX6_69 rfl (by first | rfl | exact pv_shx) rfl (by omega) (by omega) dX6_tokenOf_55 rfl (Nat.le_of_ble_eq_true rfl) (⟨by decide, by decide, by decide, by decide⟩) ?_
      exact g_iret dX6_tokenOf_58 rfl (⟨rfl, rfl, rfl, rfl, rfl⟩)
    · have hE : tkE tx n p = if (tx p = 60 ∨ tx p = 62) ∧ p + 1 < n ∧ tx (p + 1) = 61 then p + 2 else p + 1 := by unfold tkE; rw [if_neg (by omega), if_neg c1, if_neg c2]
      have hT : tkT tx n p = if (tx p = 60 ∨ tx p = 62) ∧ p + 1 < n ∧ tx (p + 1) = 61 then (if tx p = 60 then 2 else 3) else if isSg (tx p) = true then tx p else 1 := by unfold tkT; rw [if_neg (by omega), if_neg c1, if_neg c2]
      have ef : fam (tx p) = if tx p = 60 ∨ tx p = 62 then 60 else if isSg (tx p) = true then 59 else 1 := by unfold fam; rw [if_neg c2, if_neg c1]
      rw [hE, hT]
      by_cases c3 : tx p = 60 ∨ tx p = 62
      · rw [ef, if_pos c3] at fo
        have hsg : isSg (tx p) = true := decide_eq_true (by omega)
        by_cases c4 : p + 1 < n ∧ tx (p + 1) = 61
        · rw [if_pos ⟨c3, c4⟩, if_pos ⟨c3, c4⟩]
          have e72 : nI (p + 2) - nI p = nI 2 := sub_l2 (by omega)
          by_cases c5 : tx p = 60
          · rw [if_pos c5]
            refine pvMet.of _ (by decide) rfl (Nat.le_of_ble_eq_true rfl) ?_
            refine g_aload_n dX6_tokenOf_0 rfl ?_
            refine g_getP dX6_tokenOf_1 fdX6_9 rfl (by first | rfl | exact pv_shx) (by omega) (by omega) (by decide) rfl (hP _ _ _ rfl) ?_
            refine g_iload_n dX6_tokenOf_4 rfl ?_
            refine n_iald dX6_tokenOf_5 (by first | rfl | exact pv_shx) (by omega) (by omega) (by decide) (rfl) (by omega) (by repeat (first | exact u1 | (apply rd_s; done) | apply rd_n (by omega) | apply rp_s | apply rp_n (by omega) | (apply rdL_s; done) | apply rdL_n (by omega) | apply rpJ_s | apply rpJ_n (by omega) | rfl)) ?_
            refine p_callS (fo) okX6_familyOf lkX6_66 rfl dX6_tokenOf_6 rfl (Nat.le_of_ble_eq_true rfl) (⟨by decide, by decide, by decide, by decide⟩) ?_
            refine g_lookup 70 dX6_tokenOf_9 (by decide) (off := 61) (by decide) (by decide) ?_
            refine g_iload_n dX6_tokenOf_70 rfl ?_
            refine g_iload_n dX6_tokenOf_71 rfl ?_
            refine n_isub dX6_tokenOf_72 (e72) ?_
            refine g_iconst (v := nI 1) dX6_tokenOf_73 (by decide) ?_
            refine n_icmp_ne 84 dX6_tokenOf_74 (by decide) (by first | ((with_reducible apply cN_eq) <;> omega) | ((with_reducible apply cI_eqn) <;> omega) | exact Iff.rfl) (fun c74 => ?_) (fun c74 => by exfalso; first | omega | exact absurd trivial c74 | exact c74 | (simp at c74))
            refine g_aload_n dX6_tokenOf_84 rfl ?_
            refine g_getP dX6_tokenOf_85 fdX6_9 rfl (by first | rfl | exact pv_shx) (by omega) (by omega) (by decide) rfl (hP _ _ _ rfl) ?_
            refine g_iload_n dX6_tokenOf_88 rfl ?_
            refine n_iald dX6_tokenOf_89 (by first | rfl | exact pv_shx) (by omega) (by omega) (by decide) (rfl) (by omega) (by repeat (first | exact u1 | (apply rd_s; done) | apply rd_n (by omega) | apply rp_s | apply rp_n (by omega) | (apply rdL_s; done) | apply rdL_n (by omega) | apply rpJ_s | apply rpJ_n (by omega) | rfl)) ?_
            refine g_bipush (v := nI 60) dX6_tokenOf_90 (by decide) ?_
            refine n_icmp_ne 99 dX6_tokenOf_92 (by decide) (by first | ((with_reducible apply cN_eq) <;> omega) | ((with_reducible apply cI_eqn) <;> omega) | exact Iff.rfl) (fun c92 => by exfalso; first | omega | exact absurd trivial c92 | exact c92 | (simp at c92)) (fun c92 => ?_)
            refine g_iconst (v := nI 2) dX6_tokenOf_95 (by decide) ?_
            refine g_goto 100 dX6_tokenOf_96 (by decide) ?_
            exact g_iret dX6_tokenOf_100 rfl (⟨rfl, rfl, rfl, rfl, rfl⟩)
          · rw [if_neg c5]
            refine pvMet.of _ (by decide) rfl (Nat.le_of_ble_eq_true rfl) ?_
            refine g_aload_n dX6_tokenOf_0 rfl ?_
            refine g_getP dX6_tokenOf_1 fdX6_9 rfl (by first | rfl | exact pv_shx) (by omega) (by omega) (by decide) rfl (hP _ _ _ rfl) ?_
            refine g_iload_n dX6_tokenOf_4 rfl ?_
            refine n_iald dX6_tokenOf_5 (by first | rfl | exact pv_shx) (by omega) (by omega) (by decide) (rfl) (by omega) (by repeat (first | exact u1 | (apply rd_s; done) | apply rd_n (by omega) | apply rp_s | apply rp_n (by omega) | (apply rdL_s; done) | apply rdL_n (by omega) | apply rpJ_s | apply rpJ_n (by omega) | rfl)) ?_
            refine p_callS (fo) okX6_familyOf lkX6_66 rfl dX6_tokenOf_6 rfl (Nat.le_of_ble_eq_true rfl) (⟨by decide, by decide, by decide, by decide⟩) ?_
            refine g_lookup 70 dX6_tokenOf_9 (by decide) (off := 61) (by decide) (by decide) ?_
            refine g_iload_n dX6_tokenOf_70 rfl ?_
            refine g_iload_n dX6_tokenOf_71 rfl ?_
            refine n_isub dX6_tokenOf_72 (e72) ?_
            refine g_iconst (v := nI 1) dX6_tokenOf_73 (by decide) ?_
            refine n_icmp_ne 84 dX6_tokenOf_74 (by decide) (by first | ((with_reducible apply cN_eq) <;> omega) | ((with_reducible apply cI_eqn) <;> omega) | exact Iff.rfl) (fun c74 => ?_) (fun c74 => by exfalso; first | omega | exact absurd trivial c74 | exact c74 | (simp at c74))
            refine g_aload_n dX6_tokenOf_84 rfl ?_
            refine g_getP dX6_tokenOf_85 fdX6_9 rfl (by first | rfl | exact pv_shx) (by omega) (by omega) (by decide) rfl (hP _ _ _ rfl) ?_
            refine g_iload_n dX6_tokenOf_88 rfl ?_
            refine n_iald dX6_tokenOf_89 (by first | rfl | exact pv_shx) (by omega) (by omega) (by decide) (rfl) (by omega) (by repeat (first | exact u1 | (apply rd_s; done) | apply rd_n (by omega) | apply rp_s | apply rp_n (by omega) | (apply rdL_s; done) | apply rdL_n (by omega) | apply rpJ_s | apply rpJ_n (by omega) | rfl)) ?_
            refine g_bipush (v := nI 60) dX6_tokenOf_90 (by decide) ?_
            refine n_icmp_ne 99 dX6_tokenOf_92 (by decide) (by first | ((with_reducible apply cN_eq) <;> omega) | ((with_reducible apply cI_eqn) <;> omega) | exact Iff.rfl) (fun c92 => ?_) (fun c92 => by exfalso; first | omega | exact absurd trivial c92 | exact c92 | (simp at c92))
            refine g_iconst (v := nI 3) dX6_tokenOf_99 (by decide) ?_
            exact g_iret dX6_tokenOf_100 rfl (⟨rfl, rfl, rfl, rfl, rfl⟩)
        · rw [if_neg (fun z => c4 z.2), if_neg (fun z => c4 z.2), if_pos hsg]
          have e72 : nI (p + 1) - nI p = nI 1 := sub_l2 (by omega)
          refine pvMet.of _ (by decide) rfl (Nat.le_of_ble_eq_true rfl) ?_
          refine g_aload_n dX6_tokenOf_0 rfl ?_
          refine g_getP dX6_tokenOf_1 fdX6_9 rfl (by first | rfl | exact pv_shx) (by omega) (by omega) (by decide) rfl (hP _ _ _ rfl) ?_
          refine g_iload_n dX6_tokenOf_4 rfl ?_
          refine n_iald dX6_tokenOf_5 (by first | rfl | exact pv_shx) (by omega) (by omega) (by decide) (rfl) (by omega) (by repeat (first | exact u1 | (apply rd_s; done) | apply rd_n (by omega) | apply rp_s | apply rp_n (by omega) | (apply rdL_s; done) | apply rdL_n (by omega) | apply rpJ_s | apply rpJ_n (by omega) | rfl)) ?_
          refine p_callS (fo) okX6_familyOf lkX6_66 rfl dX6_tokenOf_6 rfl (Nat.le_of_ble_eq_true rfl) (⟨by decide, by decide, by decide, by decide⟩) ?_
          refine g_lookup 70 dX6_tokenOf_9 (by decide) (off := 61) (by decide) (by decide) ?_
          refine g_iload_n dX6_tokenOf_70 rfl ?_
          refine g_iload_n dX6_tokenOf_71 rfl ?_
          refine n_isub dX6_tokenOf_72 (e72) ?_
          refine g_iconst (v := nI 1) dX6_tokenOf_73 (by decide) ?_
          refine n_icmp_ne 84 dX6_tokenOf_74 (by decide) (by first | ((with_reducible apply cN_eq) <;> omega) | ((with_reducible apply cI_eqn) <;> omega) | exact Iff.rfl) (fun c74 => by exfalso; first | omega | exact absurd trivial c74 | exact c74 | (simp at c74)) (fun c74 => ?_)
          refine g_aload_n dX6_tokenOf_77 rfl ?_
          refine g_getP dX6_tokenOf_78 fdX6_9 rfl (by first | rfl | exact pv_shx) (by omega) (by omega) (by decide) rfl (hP _ _ _ rfl) ?_
          refine g_iload_n dX6_tokenOf_81 rfl ?_
          refine n_iald dX6_tokenOf_82 (by first | rfl | exact pv_shx) (by omega) (by omega) (by decide) (rfl) (by omega) (by repeat (first | exact u1 | (apply rd_s; done) | apply rd_n (by omega) | apply rp_s | apply rp_n (by omega) | (apply rdL_s; done) | apply rdL_n (by omega) | apply rpJ_s | apply rpJ_n (by omega) | rfl)) ?_
          exact g_iret dX6_tokenOf_83 rfl (⟨rfl, rfl, rfl, rfl, rfl⟩)
      · rw [if_neg (fun z => c3 z.1), if_neg (fun z => c3 z.1)]
        rw [ef, if_neg c3] at fo
        by_cases c4 : isSg (tx p) = true
        · rw [if_pos c4] at fo ⊢
          refine pvMet.of _ (by decide) rfl (Nat.le_of_ble_eq_true rfl) ?_
          refine g_aload_n dX6_tokenOf_0 rfl ?_
          refine g_getP dX6_tokenOf_1 fdX6_9 rfl (by first | rfl | exact pv_shx) (by omega) (by omega) (by decide) rfl (hP _ _ _ rfl) ?_
          refine g_iload_n dX6_tokenOf_4 rfl ?_
          refine n_iald dX6_tokenOf_5 (by first | rfl | exact pv_shx) (by omega) (by omega) (by decide) (rfl) (by omega) (by repeat (first | exact u1 | (apply rd_s; done) | apply rd_n (by omega) | apply rp_s | apply rp_n (by omega) | (apply rdL_s; done) | apply rdL_n (by omega) | apply rpJ_s | apply rpJ_n (by omega) | rfl)) ?_
          refine p_callS (fo) okX6_familyOf lkX6_66 rfl dX6_tokenOf_6 rfl (Nat.le_of_ble_eq_true rfl) (⟨by decide, by decide, by decide, by decide⟩) ?_
          refine g_lookup 101 dX6_tokenOf_9 (by decide) (off := 92) (by decide) (by decide) ?_
          refine g_aload_n dX6_tokenOf_101 rfl ?_
          refine g_getP dX6_tokenOf_102 fdX6_9 rfl (by first | rfl | exact pv_shx) (by omega) (by omega) (by decide) rfl (hP _ _ _ rfl) ?_
          refine g_iload_n dX6_tokenOf_105 rfl ?_
          refine n_iald dX6_tokenOf_106 (by first | rfl | exact pv_shx) (by omega) (by omega) (by decide) (rfl) (by omega) (by repeat (first | exact u1 | (apply rd_s; done) | apply rd_n (by omega) | apply rp_s | apply rp_n (by omega) | (apply rdL_s; done) | apply rdL_n (by omega) | apply rpJ_s | apply rpJ_n (by omega) | rfl)) ?_
          exact g_iret dX6_tokenOf_107 rfl (⟨rfl, rfl, rfl, rfl, rfl⟩)
        · rw [if_neg c4] at fo ⊢
          refine pvMet.of _ (by decide) rfl (Nat.le_of_ble_eq_true rfl) ?_
          refine g_aload_n dX6_tokenOf_0 rfl ?_
          refine g_getP dX6_tokenOf_1 fdX6_9 rfl (by first | rfl | exact pv_shx) (by omega) (by omega) (by decide) rfl (hP _ _ _ rfl) ?_
          refine g_iload_n dX6_tokenOf_4 rfl ?_
          refine n_iald dX6_tokenOf_5 (by first | rfl | exact pv_shx) (by omega) (by omega) (by decide) (rfl) (by omega) (by repeat (first | exact u1 | (apply rd_s; done) | apply rd_n (by omega) | apply rp_s | apply rp_n (by omega) | (apply rdL_s; done) | apply rdL_n (by omega) | apply rpJ_s | apply rpJ_n (by omega) | rfl)) ?_
          refine p_callS (fo) okX6_familyOf lkX6_66 rfl dX6_tokenOf_6 rfl (Nat.le_of_ble_eq_true rfl) (⟨by decide, by decide, by decide, by decide⟩) ?_
          refine g_lookup 108 dX6_tokenOf_9 (by decide) (off := 99) (by decide) (by decide) ?_
          refine g_iconst (v := nI 1) dX6_tokenOf_108 (by decide) ?_
          exact g_iret dX6_tokenOf_109 rfl (⟨rfl, rfl, rfl, rfl, rfl⟩)
end WRD
