/-! class: the reader: the text split, an act read -/
theorem wdT_ne {tx : Nat → Nat} {p len : Nat} : wdT tx p len ≠ 0 := by
  unfold wdT
  rcases wdF_lt (tx := tx) (p := p) (len := len) 15 with h | ⟨j, j1, j2, -⟩ <;> omega
theorem tkT_ne {tx : Nat → Nat} {n p : Nat} (hp : p < n) : tkT tx n p ≠ 0 := by
  have h1 := wdT_ne (tx := tx) (p := p) (len := rn isLt tx n p - p)
  have h3 : isSg (tx p) = true → tx p ≠ 0 := fun z y => by
    rw [y] at z; exact absurd z (by decide)
  unfold tkT
  rw [if_neg (by omega)]
  split
  · omega
  · split
    · exact h1
    · split
      · split <;> omega
      · split
        · rename_i z; exact h3 z
        · omega
section SPL
variable {tx : Nat → Nat} {n A : Nat} {I : pvI} {J : pvJ} {P : pvP}
/-- what the splitting may change -/
def sF (I I' : pvI) : Prop := (∀ x, x ≠ 144 → x ≠ 146 → x ≠ 147 → I' x = I x) ∧ (∀ j, j ≠ 6 → I' 144 j = I 144 j)
def sI (tx : Nat → Nat) (n : Nat) (I : pvI) (p c : Nat) (I1 : pvI) : Prop := sF I I1 ∧ p ≤ n ∧ c ≤ p ∧ I1 144 6 = nI c ∧ rn isBl tx n p = tkP tx n c ∧ ∀ j, j < c → I1 146 j = nI (tkK tx n j) ∧ tkK tx n j ≠ 0 ∧ I1 147 j = nI (tkP tx n j)
def splQ (tx : Nat → Nat) (n : Nat) (I : pvI) (J : pvJ) (P : pvP) : pvQT := pvq P (fun v I' J' => v = none ∧ J' = J ∧ sF I I' ∧ ∃ cT, rB0 tx n cT I')
theorem isBl_iff {c : Nat} : isBl c = true ↔ (c = 32 ∨ c = 10) := decide_eq_true_iff
theorem c_split (hP : pvOkP P) (ht : cTx tx n I) : pvMet mX6_split 7 0 0 [.ref 144] 224 I J P (splQ tx n I J P) := by
  obtain ⟨t1, t2, t3⟩ := id ht
  have lp : ∀ q p c i I1, p + q = n → i ≤ p → sI tx n I p c I1 → pvG mX6_split (pvR 7 0 0) (pvZ (splQ tx n I J P) 0 0) 9 [.ref 144, .int (nI p), .int (nI i), .retAddr 0] [] 0 0 224 I1 J P := by
    intro q
    induction q using Nat.strongRecOn with
    | ind q ih =>
      intro p c i I1 hq hi hs
      have hs' := hs
      obtain ⟨⟨f1, f2⟩, g1, g2, g3, g4, g5⟩ := hs
      have l1 : I1 144 1 = nI n := by rw [f2 1 (by decide)]; exact t1
      by_cases c1 : p < n
      · obtain ⟨u1, u2⟩ := t3 p c1
        have v1 : I1 145 p = nI (tx p) := by rw [f1 145 (by decide) (by decide) (by decide)]; exact u1
        have ht1 : cTx tx n I1 := ⟨l1, t2, fun j hj => by rw [f1 145 (by decide) (by decide) (by decide)]; exact t3 j hj⟩
        by_cases c2 : isBl (tx p) = true
        · have c2' := isBl_iff.mp c2
          have nx := ih (q - 1) (by omega) (p + 1) c (i + 1) I1 (by omega) (by omega) ⟨⟨f1, f2⟩, by omega, by omega, g3, by rw [← rn_yes c1 c2]; exact g4, g5⟩
          by_cases c3 : tx p = 32
          · skip
            refine g_iload_n dX6_split_9 rfl ?_
            refine g_sipush (v := nI 300) dX6_split_10 (by decide) ?_
            refine n_icmp_ge 101 dX6_split_13 (by decide) (by first | ((with_reducible apply cN_le) <;> omega) | ((with_reducible apply cI_len) <;> omega) | ((with_reducible apply cI_nle) <;> omega) | (with_reducible exact cI_le)) (fun c13 => by exfalso; first | omega | exact absurd trivial c13 | exact c13 | (simp at c13)) (fun c13 => ?_)
            refine g_iload_n dX6_split_16 rfl ?_
            refine g_aload_n dX6_split_17 rfl ?_
            refine n_getI dX6_split_18 fdX6_28 rfl (by first | rfl | exact pv_shx) (by omega) (by omega) (by decide) rfl (by repeat (first | exact l1 | exact v1 | (apply rd_s; done) | apply rd_n (by omega) | apply rp_s | apply rp_n (by omega) | (apply rdL_s; done) | apply rdL_n (by omega) | apply rpJ_s | apply rpJ_n (by omega) | rfl)) ?_
            refine n_icmp_ge 101 dX6_split_21 (by decide) (by first | ((with_reducible apply cN_le) <;> omega) | ((with_reducible apply cI_len) <;> omega) | ((with_reducible apply cI_nle) <;> omega) | (with_reducible exact cI_le)) (fun c21 => by exfalso; first | omega | exact absurd trivial c21 | exact c21 | (simp at c21)) (fun c21 => ?_)
            refine g_aload_n dX6_split_24 rfl ?_
            refine g_getP dX6_split_25 fdX6_9 rfl (by first | rfl | exact pv_shx) (by omega) (by omega) (by decide) rfl (hP _ _ _ rfl) ?_
            refine g_iload_n dX6_split_28 rfl ?_
            refine n_iald dX6_split_29 (by first | rfl | exact pv_shx) (by omega) (by omega) (by decide) (rfl) (by omega) (by repeat (first | exact l1 | exact v1 | (apply rd_s; done) | apply rd_n (by omega) | apply rp_s | apply rp_n (by omega) | (apply rdL_s; done) | apply rdL_n (by omega) | apply rpJ_s | apply rpJ_n (by omega) | rfl)) ?_
            refine g_bipush (v := nI 32) dX6_split_30 (by decide) ?_
            refine n_icmp_eq 46 dX6_split_32 (by decide) (by first | ((with_reducible apply cN_eq) <;> omega) | ((with_reducible apply cI_eqn) <;> omega) | exact Iff.rfl) (fun c32 => ?_) (fun c32 => by exfalso; first | omega | exact absurd trivial c32 | exact c32 | (simp at c32))
            refine g_iinc dX6_split_46 rfl (by first | (with_reducible exact nI_1 _) | exact nI_1 _ | exact pk_m1 _ | rfl) (by decide) rfl ?_
            refine g_goto 95 dX6_split_49 (by decide) ?_
            refine g_iinc dX6_split_95 rfl (by first | (with_reducible exact nI_1 _) | exact nI_1 _ | exact pk_m1 _ | rfl) (by decide) rfl ?_
            refine g_goto 9 dX6_split_98 (by decide) ?_
            exact g_drop _ (by repeat (first | exact trivial | refine ⟨Or.inr ⟨_, rfl⟩, ?_⟩ | refine ⟨Or.inl rfl, ?_⟩)) nx
          · skip
            refine g_iload_n dX6_split_9 rfl ?_
            refine g_sipush (v := nI 300) dX6_split_10 (by decide) ?_
            refine n_icmp_ge 101 dX6_split_13 (by decide) (by first | ((with_reducible apply cN_le) <;> omega) | ((with_reducible apply cI_len) <;> omega) | ((with_reducible apply cI_nle) <;> omega) | (with_reducible exact cI_le)) (fun c13 => by exfalso; first | omega | exact absurd trivial c13 | exact c13 | (simp at c13)) (fun c13 => ?_)
            refine g_iload_n dX6_split_16 rfl ?_
            refine g_aload_n dX6_split_17 rfl ?_
            refine n_getI dX6_split_18 fdX6_28 rfl (by first | rfl | exact pv_shx) (by omega) (by omega) (by decide) rfl (by repeat (first | exact l1 | exact v1 | (apply rd_s; done) | apply rd_n (by omega) | apply rp_s | apply rp_n (by omega) | (apply rdL_s; done) | apply rdL_n (by omega) | apply rpJ_s | apply rpJ_n (by omega) | rfl)) ?_
            refine n_icmp_ge 101 dX6_split_21 (by decide) (by first | ((with_reducible apply cN_le) <;> omega) | ((with_reducible apply cI_len) <;> omega) | ((with_reducible apply cI_nle) <;> omega) | (with_reducible exact cI_le)) (fun c21 => by exfalso; first | omega | exact absurd trivial c21 | exact c21 | (simp at c21)) (fun c21 => ?_)
            refine g_aload_n dX6_split_24 rfl ?_
            refine g_getP dX6_split_25 fdX6_9 rfl (by first | rfl | exact pv_shx) (by omega) (by omega) (by decide) rfl (hP _ _ _ rfl) ?_
            refine g_iload_n dX6_split_28 rfl ?_
            refine n_iald dX6_split_29 (by first | rfl | exact pv_shx) (by omega) (by omega) (by decide) (rfl) (by omega) (by repeat (first | exact l1 | exact v1 | (apply rd_s; done) | apply rd_n (by omega) | apply rp_s | apply rp_n (by omega) | (apply rdL_s; done) | apply rdL_n (by omega) | apply rpJ_s | apply rpJ_n (by omega) | rfl)) ?_
            refine g_bipush (v := nI 32) dX6_split_30 (by decide) ?_
            refine n_icmp_eq 46 dX6_split_32 (by decide) (by first | ((with_reducible apply cN_eq) <;> omega) | ((with_reducible apply cI_eqn) <;> omega) | exact Iff.rfl) (fun c32 => by exfalso; first | omega | exact absurd trivial c32 | exact c32 | (simp at c32)) (fun c32 => ?_)
            refine g_aload_n dX6_split_35 rfl ?_
            refine g_getP dX6_split_36 fdX6_9 rfl (by first | rfl | exact pv_shx) (by omega) (by omega) (by decide) rfl (hP _ _ _ rfl) ?_
            refine g_iload_n dX6_split_39 rfl ?_
            refine n_iald dX6_split_40 (by first | rfl | exact pv_shx) (by omega) (by omega) (by decide) (rfl) (by omega) (by repeat (first | exact l1 | exact v1 | (apply rd_s; done) | apply rd_n (by omega) | apply rp_s | apply rp_n (by omega) | (apply rdL_s; done) | apply rdL_n (by omega) | apply rpJ_s | apply rpJ_n (by omega) | rfl)) ?_
            refine g_bipush (v := nI 10) dX6_split_41 (by decide) ?_
            refine n_icmp_ne 52 dX6_split_43 (by decide) (by first | ((with_reducible apply cN_eq) <;> omega) | ((with_reducible apply cI_eqn) <;> omega) | exact Iff.rfl) (fun c43 => by exfalso; first | omega | exact absurd trivial c43 | exact c43 | (simp at c43)) (fun c43 => ?_)
            refine g_iinc dX6_split_46 rfl (by first | (with_reducible exact nI_1 _) | exact nI_1 _ | exact pk_m1 _ | rfl) (by decide) rfl ?_
            refine g_goto 95 dX6_split_49 (by decide) ?_
            refine g_iinc dX6_split_95 rfl (by first | (with_reducible exact nI_1 _) | exact nI_1 _ | exact pk_m1 _ | rfl) (by decide) rfl ?_
            refine g_goto 9 dX6_split_98 (by decide) ?_
            exact g_drop _ (by repeat (first | exact trivial | refine ⟨Or.inr ⟨_, rfl⟩, ?_⟩ | refine ⟨Or.inl rfl, ?_⟩)) nx
        · have c2' : ¬ (tx p = 32 ∨ tx p = 10) := fun z => c2 (isBl_iff.mpr z)
          have ep : tkP tx n c = p := by rw [← g4, rn_no c2]
          have eb := tkE_b (tx := tx) (n := n) (p := p) (by omega)
          have en := c_endOfToken (J := J) hP ht1 c1
          have tk := c_tokenOf (J := J) hP ht1 c1
          have hE := tkE_b (tx := tx) (n := n) (p := p) (by omega)
          have nx := ih (n - tkE tx n p) (by omega) (tkE tx n p) (c + 1) (i + 1) (pvs (pvs (pvs I1 144 (upd (I1 144) 6 (nI (c + 1)))) 147 (upd (I1 147) c (nI p))) 146 (upd (I1 146) c (nI (tkT tx n p)))) (by omega) (by omega) ⟨⟨fun x z1 z2 z3 => by rw [pvs_ne z2, pvs_ne z3, pvs_ne z1]; exact f1 x z1 z2 z3, fun j hj => by rw [pvs_ne (by decide), pvs_ne (by decide), pvs_eq, updI hj]; exact f2 j hj⟩, by omega, by omega, by rw [pvs_ne (by decide), pvs_ne (by decide), pvs_eq, updS], by show _ = rn isBl tx n (tkE tx n (tkP tx n c)); rw [ep], fun j hj => by
            rw [pvs_eq, pvs_ne (by decide : (147 : Nat) ≠ 146), pvs_eq]
            by_cases e : j = c
            · subst e
              rw [updS, updS]
              exact ⟨by unfold tkK; rw [ep], by unfold tkK; rw [ep]; exact tkT_ne c1, by rw [ep]⟩
            · rw [updI e, updI e]
              exact g5 j (by omega)⟩
          refine g_iload_n dX6_split_9 rfl ?_
          refine g_sipush (v := nI 300) dX6_split_10 (by decide) ?_
          refine n_icmp_ge 101 dX6_split_13 (by decide) (by first | ((with_reducible apply cN_le) <;> omega) | ((with_reducible apply cI_len) <;> omega) | ((with_reducible apply cI_nle) <;> omega) | (with_reducible exact cI_le)) (fun c13 => by exfalso; first | omega | exact absurd trivial c13 | exact c13 | (simp at c13)) (fun c13 => ?_)
          refine g_iload_n dX6_split_16 rfl ?_
          refine g_aload_n dX6_split_17 rfl ?_
          refine n_getI dX6_split_18 fdX6_28 rfl (by first | rfl | exact pv_shx) (by omega) (by omega) (by decide) rfl (by repeat (first | exact l1 | exact v1 | exact g3 | (apply rd_s; done) | apply rd_n (by omega) | apply rp_s | apply rp_n (by omega) | (apply rdL_s; done) | apply rdL_n (by omega) | apply rpJ_s | apply rpJ_n (by omega) | rfl)) ?_
          refine n_icmp_ge 101 dX6_split_21 (by decide) (by first | ((with_reducible apply cN_le) <;> omega) | ((with_reducible apply cI_len) <;> omega) | ((with_reducible apply cI_nle) <;> omega) | (with_reducible exact cI_le)) (fun c21 => by exfalso; first | omega | exact absurd trivial c21 | exact c21 | (simp at c21)) (fun c21 => ?_)
          refine g_aload_n dX6_split_24 rfl ?_
          refine g_getP dX6_split_25 fdX6_9 rfl (by first | rfl | exact pv_shx) (by omega) (by omega) (by decide) rfl (hP _ _ _ rfl) ?_
          refine g_iload_n dX6_split_28 rfl ?_
          refine n_iald dX6_split_29 (by first | rfl | exact pv_shx) (by omega) (by omega) (by decide) (rfl) (by omega) (by repeat (first | exact l1 | exact v1 | exact g3 | (apply rd_s; done) | apply rd_n (by omega) | apply rp_s | apply rp_n (by omega) | (apply rdL_s; done) | apply rdL_n (by omega) | apply rpJ_s | apply rpJ_n (by omega) | rfl)) ?_
          refine g_bipush (v := nI 32) dX6_split_30 (by decide) ?_
          refine n_icmp_eq 46 dX6_split_32 (by decide) (by first | ((with_reducible apply cN_eq) <;> omega) | ((with_reducible apply cI_eqn) <;> omega) | exact Iff.rfl) (fun c32 => by exfalso; first | omega | exact absurd trivial c32 | exact c32 | (simp at c32)) (fun c32 => ?_)
          refine g_aload_n dX6_split_35 rfl ?_
          refine g_getP dX6_split_36 fdX6_9 rfl (by first | rfl | exact pv_shx) (by omega) (by omega) (by decide) rfl (hP _ _ _ rfl) ?_
          refine g_iload_n dX6_split_39 rfl ?_
          refine n_iald dX6_split_40 (by first | rfl | exact pv_shx) (by omega) (by omega) (by decide) (rfl) (by omega) (by repeat (first | exact l1 | exact v1 | exact g3 | (apply rd_s; done) | apply rd_n (by omega) | apply rp_s | apply rp_n (by omega) | (apply rdL_s; done) | apply rdL_n (by omega) | apply rpJ_s | apply rpJ_n (by omega) | rfl)) ?_
          refine g_bipush (v := nI 10) dX6_split_41 (by decide) ?_
          refine n_icmp_ne 52 dX6_split_43 (by decide) (by first | ((with_reducible apply cN_eq) <;> omega) | ((with_reducible apply cI_eqn) <;> omega) | exact Iff.rfl) (fun c43 => ?_) (fun c43 => by exfalso; first | omega | exact absurd trivial c43 | exact c43 | (simp at c43))
          refine g_aload_n dX6_split_52 rfl ?_
          refine g_iload_n dX6_split_53 rfl ?_
          refine p_callV (en) okX6_endOfToken lkX6_58 rfl (by first | rfl | exact pv_shx) rfl (by omega) (by omega) dX6_split_54 rfl (Nat.le_of_ble_eq_true rfl) (⟨by decide, by decide, by decide, by decide⟩) ?_
          refine g_istore_n dX6_split_57 (by decide) rfl ?_
          refine g_aload_n dX6_split_58 rfl ?_
          refine g_getP dX6_split_59 fdX6_22 rfl (by first | rfl | exact pv_shx) (by omega) (by omega) (by decide) rfl (hP _ _ _ rfl) ?_
          refine g_aload_n dX6_split_62 rfl ?_
          refine n_getI dX6_split_63 fdX6_55 rfl (by first | rfl | exact pv_shx) (by omega) (by omega) (by decide) rfl (by repeat (first | exact l1 | exact v1 | exact g3 | (apply rd_s; done) | apply rd_n (by omega) | apply rp_s | apply rp_n (by omega) | (apply rdL_s; done) | apply rdL_n (by omega) | apply rpJ_s | apply rpJ_n (by omega) | rfl)) ?_
          refine g_aload_n dX6_split_66 rfl ?_
          refine g_iload_n dX6_split_67 rfl ?_
          refine g_iload_n dX6_split_68 rfl ?_
          refine p_callV (tk) okX6_tokenOf lkX6_62 rfl (by first | rfl | exact pv_shx) rfl (by omega) (by omega) dX6_split_69 rfl (Nat.le_of_ble_eq_true rfl) (⟨by decide, by decide, by decide, by decide⟩) ?_
          refine n_iast dX6_split_72 (by first | rfl | exact pv_shx) (by omega) (by omega) (by omega) (by decide) (rfl) (by omega) (by repeat (first | exact pvu_s | exact pvuJ_s | apply pvu_in (by omega) | apply pvuJ_in (by omega) | exact pvu_pvs | exact pvuJ_pvs)) ?_
          refine g_aload_n dX6_split_73 rfl ?_
          refine g_getP dX6_split_74 fdX6_25 rfl (by first | rfl | exact pv_shx) (by omega) (by omega) (by decide) rfl (hP _ _ _ rfl) ?_
          refine g_aload_n dX6_split_77 rfl ?_
          refine n_getI dX6_split_78 fdX6_55 rfl (by first | rfl | exact pv_shx) (by omega) (by omega) (by decide) rfl (by repeat (first | exact l1 | exact v1 | exact g3 | (apply rd_s; done) | apply rd_n (by omega) | apply rp_s | apply rp_n (by omega) | (apply rdL_s; done) | apply rdL_n (by omega) | apply rpJ_s | apply rpJ_n (by omega) | rfl)) ?_
          refine g_iload_n dX6_split_81 rfl ?_
          refine n_iast dX6_split_82 (by first | rfl | exact pv_shx) (by omega) (by omega) (by omega) (by decide) (rfl) (by omega) (by repeat (first | exact pvu_s | exact pvuJ_s | apply pvu_in (by omega) | apply pvuJ_in (by omega) | exact pvu_pvs | exact pvuJ_pvs)) ?_
          refine g_aload_n dX6_split_83 rfl ?_
          refine g_dup dX6_split_84 rfl ?_
          refine n_getI dX6_split_85 fdX6_55 rfl (by first | rfl | exact pv_shx) (by omega) (by omega) (by decide) rfl (by repeat (first | exact l1 | exact v1 | exact g3 | (apply rd_s; done) | apply rd_n (by omega) | apply rp_s | apply rp_n (by omega) | (apply rdL_s; done) | apply rdL_n (by omega) | apply rpJ_s | apply rpJ_n (by omega) | rfl)) ?_
          refine g_iconst (v := nI 1) dX6_split_88 (by decide) ?_
          refine n_iadd dX6_split_89 (by first | (with_reducible exact nI_add _ _) | rfl) ?_
          refine n_putI dX6_split_90 fdX6_55 rfl (fun h => absurd h (by decide)) (by first | rfl | exact pv_shx) (by omega) (by omega) (by decide) rfl (by repeat (first | exact pvu_s | exact pvuJ_s | apply pvu_in (by omega) | apply pvuJ_in (by omega) | exact pvu_pvs | exact pvuJ_pvs)) ?_
          refine g_iload_n dX6_split_93 rfl ?_
          refine g_istore_n dX6_split_94 (by decide) rfl ?_
          refine g_iinc dX6_split_95 rfl (by first | (with_reducible exact nI_1 _) | exact nI_1 _ | exact pk_m1 _ | rfl) (by decide) rfl ?_
          refine g_goto 9 dX6_split_98 (by decide) ?_
          exact g_drop _ (by repeat (first | exact trivial | refine ⟨Or.inr ⟨_, rfl⟩, ?_⟩ | refine ⟨Or.inl rfl, ?_⟩)) nx
      · obtain rfl : p = n := by omega
        have ep : tkP tx p c = p := by rw [← g4, rn_end (by omega)]
        have fin : splQ tx p I J P none 224 (pvs (pvs I1 147 (upd (I1 147) c (nI p))) 146 (upd (I1 146) c (nI 0))) J P := by
          refine ⟨rfl, rfl, rfl, rfl, ⟨fun x z1 z2 z3 => by rw [pvs_ne z2, pvs_ne z3]; exact f1 x z1 z2 z3, fun j hj => by rw [pvs_ne (by decide), pvs_ne (by decide)]; exact f2 j hj⟩, c, ⟨by rw [pvs_ne (by decide), pvs_ne (by decide)]; exact g3, by omega⟩, fun j hj => ?_, ⟨fun j hj => (g5 j hj).2.1, by unfold tkK tkT; rw [ep, if_pos (Nat.le_refl _)]⟩, t2⟩
          rw [pvs_eq, pvs_ne (by decide : (147 : Nat) ≠ 146), pvs_eq]
          by_cases e : j = c
          · subst e
            rw [updS, updS, ep]
            exact ⟨by unfold tkK tkT; rw [ep, if_pos (Nat.le_refl _)], rfl⟩
          · rw [updI e, updI e]
            exact ⟨(g5 j (by omega)).1, (g5 j (by omega)).2.2⟩
        by_cases c3 : i < 300
        · skip
          refine g_iload_n dX6_split_9 rfl ?_
          refine g_sipush (v := nI 300) dX6_split_10 (by decide) ?_
          refine n_icmp_ge 101 dX6_split_13 (by decide) (by first | ((with_reducible apply cN_le) <;> omega) | ((with_reducible apply cI_len) <;> omega) | ((with_reducible apply cI_nle) <;> omega) | (with_reducible exact cI_le)) (fun c13 => by exfalso; first | omega | exact absurd trivial c13 | exact c13 | (simp at c13)) (fun c13 => ?_)
          refine g_iload_n dX6_split_16 rfl ?_
          refine g_aload_n dX6_split_17 rfl ?_
          refine n_getI dX6_split_18 fdX6_28 rfl (by first | rfl | exact pv_shx) (by omega) (by omega) (by decide) rfl (by repeat (first | exact l1 | exact g3 | (apply rd_s; done) | apply rd_n (by omega) | apply rp_s | apply rp_n (by omega) | (apply rdL_s; done) | apply rdL_n (by omega) | apply rpJ_s | apply rpJ_n (by omega) | rfl)) ?_
          refine n_icmp_ge 101 dX6_split_21 (by decide) (by first | ((with_reducible apply cN_le) <;> omega) | ((with_reducible apply cI_len) <;> omega) | ((with_reducible apply cI_nle) <;> omega) | (with_reducible exact cI_le)) (fun c21 => ?_) (fun c21 => by exfalso; first | omega | exact absurd trivial c21 | exact c21 | (simp at c21))
          refine g_aload_n dX6_split_101 rfl ?_
          refine g_getP dX6_split_102 fdX6_22 rfl (by first | rfl | exact pv_shx) (by omega) (by omega) (by decide) rfl (hP _ _ _ rfl) ?_
          refine g_aload_n dX6_split_105 rfl ?_
          refine n_getI dX6_split_106 fdX6_55 rfl (by first | rfl | exact pv_shx) (by omega) (by omega) (by decide) rfl (by repeat (first | exact l1 | exact g3 | (apply rd_s; done) | apply rd_n (by omega) | apply rp_s | apply rp_n (by omega) | (apply rdL_s; done) | apply rdL_n (by omega) | apply rpJ_s | apply rpJ_n (by omega) | rfl)) ?_
          refine g_iconst (v := nI 0) dX6_split_109 (by decide) ?_
          refine n_iast dX6_split_110 (by first | rfl | exact pv_shx) (by omega) (by omega) (by omega) (by decide) (rfl) (by omega) (by repeat (first | exact pvu_s | exact pvuJ_s | apply pvu_in (by omega) | apply pvuJ_in (by omega) | exact pvu_pvs | exact pvuJ_pvs)) ?_
          refine g_aload_n dX6_split_111 rfl ?_
          refine g_getP dX6_split_112 fdX6_25 rfl (by first | rfl | exact pv_shx) (by omega) (by omega) (by decide) rfl (hP _ _ _ rfl) ?_
          refine g_aload_n dX6_split_115 rfl ?_
          refine n_getI dX6_split_116 fdX6_55 rfl (by first | rfl | exact pv_shx) (by omega) (by omega) (by decide) rfl (by repeat (first | exact l1 | exact g3 | (apply rd_s; done) | apply rd_n (by omega) | apply rp_s | apply rp_n (by omega) | (apply rdL_s; done) | apply rdL_n (by omega) | apply rpJ_s | apply rpJ_n (by omega) | rfl)) ?_
          refine g_aload_n dX6_split_119 rfl ?_
          refine n_getI dX6_split_120 fdX6_28 rfl (by first | rfl | exact pv_shx) (by omega) (by omega) (by decide) rfl (by repeat (first | exact l1 | exact g3 | (apply rd_s; done) | apply rd_n (by omega) | apply rp_s | apply rp_n (by omega) | (apply rdL_s; done) | apply rdL_n (by omega) | apply rpJ_s | apply rpJ_n (by omega) | rfl)) ?_
          refine n_iast dX6_split_123 (by first | rfl | exact pv_shx) (by omega) (by omega) (by omega) (by decide) (rfl) (by omega) (by repeat (first | exact pvu_s | exact pvuJ_s | apply pvu_in (by omega) | apply pvuJ_in (by omega) | exact pvu_pvs | exact pvuJ_pvs)) ?_
          exact g_vret dX6_split_124 rfl (fin)
        · skip
          refine g_iload_n dX6_split_9 rfl ?_
          refine g_sipush (v := nI 300) dX6_split_10 (by decide) ?_
          refine n_icmp_ge 101 dX6_split_13 (by decide) (by first | ((with_reducible apply cN_le) <;> omega) | ((with_reducible apply cI_len) <;> omega) | ((with_reducible apply cI_nle) <;> omega) | (with_reducible exact cI_le)) (fun c13 => ?_) (fun c13 => by exfalso; first | omega | exact absurd trivial c13 | exact c13 | (simp at c13))
          refine g_aload_n dX6_split_101 rfl ?_
          refine g_getP dX6_split_102 fdX6_22 rfl (by first | rfl | exact pv_shx) (by omega) (by omega) (by decide) rfl (hP _ _ _ rfl) ?_
          refine g_aload_n dX6_split_105 rfl ?_
          refine n_getI dX6_split_106 fdX6_55 rfl (by first | rfl | exact pv_shx) (by omega) (by omega) (by decide) rfl (by repeat (first | exact l1 | exact g3 | (apply rd_s; done) | apply rd_n (by omega) | apply rp_s | apply rp_n (by omega) | (apply rdL_s; done) | apply rdL_n (by omega) | apply rpJ_s | apply rpJ_n (by omega) | rfl)) ?_
          refine g_iconst (v := nI 0) dX6_split_109 (by decide) ?_
          refine n_iast dX6_split_110 (by first | rfl | exact pv_shx) (by omega) (by omega) (by omega) (by decide) (rfl) (by omega) (by repeat (first | exact pvu_s | exact pvuJ_s | apply pvu_in (by omega) | apply pvuJ_in (by omega) | exact pvu_pvs | exact pvuJ_pvs)) ?_
          refine g_aload_n dX6_split_111 rfl ?_
          refine g_getP dX6_split_112 fdX6_25 rfl (by first | rfl | exact pv_shx) (by omega) (by omega) (by decide) rfl (hP _ _ _ rfl) ?_
          refine g_aload_n dX6_split_115 rfl ?_
          refine n_getI dX6_split_116 fdX6_55 rfl (by first | rfl | exact pv_shx) (by omega) (by omega) (by decide) rfl (by repeat (first | exact l1 | exact g3 | (apply rd_s; done) | apply rd_n (by omega) | apply rp_s | apply rp_n (by omega) | (apply rdL_s; done) | apply rdL_n (by omega) | apply rpJ_s | apply rpJ_n (by omega) | rfl)) ?_
          refine g_aload_n dX6_split_119 rfl ?_
          refine n_getI dX6_split_120 fdX6_28 rfl (by first | rfl | exact pv_shx) (by omega) (by omega) (by decide) rfl (by repeat (first | exact l1 | exact g3 | (apply rd_s; done) | apply rd_n (by omega) | apply rp_s | apply rp_n (by omega) | (apply rdL_s; done) | apply rdL_n (by omega) | apply rpJ_s | apply rpJ_n (by omega) | rfl)) ?_
          refine n_iast dX6_split_123 (by first | rfl | exact pv_shx) (by omega) (by omega) (by omega) (by decide) (rfl) (by omega) (by repeat (first | exact pvu_s | exact pvuJ_s | apply pvu_in (by omega) | apply pvuJ_in (by omega) | exact pvu_pvs | exact pvuJ_pvs)) ?_
          exact g_vret dX6_split_124 rfl (fin)
  have go := lp n 0 0 0 (pvs I 144 (upd (I 144) 6 (nI 0))) (by omega) (Nat.le_refl _) ⟨⟨fun x z1 z2 z3 => pvs_ne z1, fun j hj => by rw [pvs_eq, updI hj]⟩, Nat.zero_le _, Nat.le_refl _, by rw [pvs_eq, updS], rfl, fun j hj => absurd hj (Nat.not_lt_zero j)⟩
  refine pvMet.of _ (by decide) rfl (Nat.le_of_ble_eq_true rfl) ?_
  refine g_aload_n dX6_split_0 rfl ?_
  refine g_iconst (v := nI 0) dX6_split_1 (by decide) ?_
  refine n_putI dX6_split_2 fdX6_55 rfl (fun h => absurd h (by decide)) (by first | rfl | exact pv_shx) (by omega) (by omega) (by decide) rfl (by repeat (first | exact pvu_s | exact pvuJ_s | apply pvu_in (by omega) | apply pvuJ_in (by omega) | exact pvu_pvs | exact pvuJ_pvs)) ?_
  refine g_iconst (v := nI 0) dX6_split_5 (by decide) ?_
  refine g_istore_n dX6_split_6 (by decide) rfl ?_
  refine g_iconst (v := nI 0) dX6_split_7 (by decide) ?_
  refine g_istore_n dX6_split_8 (by decide) rfl ?_
  exact g_drop _ (by repeat (first | exact trivial | refine ⟨Or.inr ⟨_, rfl⟩, ?_⟩ | refine ⟨Or.inl rfl, ?_⟩)) go
theorem c_clear (hA : aAd A) : pvMet mX0_clear 0 0 0 [.ref A] 224 I J P (pvq P (fun v I' J' => v = none ∧ J' = J ∧ I' = pvs I A (upd (upd (I A) 0 (nI 0)) 1 (nI 0)))) := by
  obtain ⟨⟨s0, s1, s2, s3, s4⟩, h149, h194⟩ := hA.sh
  refine pvMet.of _ (by decide) rfl (Nat.le_of_ble_eq_true rfl) ?_
  refine g_aload_n dX0_clear_0 rfl ?_
  refine g_iconst (v := nI 0) dX0_clear_1 (by decide) ?_
  refine n_putI dX0_clear_2 fdX0_24 rfl (fun h => absurd h (by decide)) (s0) (by omega) (by omega) (by decide) rfl (by repeat (first | exact pvu_s | exact pvuJ_s | apply pvu_in (by omega) | apply pvuJ_in (by omega) | exact pvu_pvs | exact pvuJ_pvs)) ?_
  refine g_aload_n dX0_clear_5 rfl ?_
  refine g_iconst (v := nI 0) dX0_clear_6 (by decide) ?_
  refine n_putI dX0_clear_7 fdX0_28 rfl (fun h => absurd h (by decide)) (s0) (by omega) (by omega) (by decide) rfl (by repeat (first | exact pvu_s | exact pvuJ_s | apply pvu_in (by omega) | apply pvuJ_in (by omega) | exact pvu_pvs | exact pvuJ_pvs)) ?_
  exact g_vret dX0_clear_10 rfl (⟨rfl, rfl, rfl, rfl, rfl⟩)
/-- what a reading may change -/
def riF (A : Nat) (I I' : pvI) : Prop := (∀ x, x ≠ 144 → x ≠ 146 → x ≠ 147 → (x < A ∨ A + 4 < x) → I' x = I x) ∧ I' 144 1 = nI 0
def riP (tx : Nat → Nat) (n A : Nat) (I : pvI) (v : Option Value) (I' : pvI) : Prop := riF A I I' ∧ match rdAll (tkK tx n) n with
  | .ok (cs, _) => v = some (.int 1) ∧ I' 144 2 = nI 0 ∧ I' 144 3 = -1 ∧ ∃ cd, cd.length ≤ 300 ∧ cAct A I' cs cd
  | .error (f, kf) => v = some (.int 0) ∧ I' 144 2 = nI f ∧ I' 144 3 = nI (tkP tx n kf)
theorem gtC {cs : List pC} {k : Nat} {c : pC} {k2 : Nat} (h : rdC (tkK tx n) n cs k = .ok (c, k2)) : k < k2 := by
  have key : ∀ s o j c k2, rdB (tkK tx n) n s o j = .ok (c, k2) → j < k2 := by
    intro s o j c k2 h
    simp only [rdB] at h
    cases hx : rdY (tkK tx n) n s j with
    | error x => rw [hx] at h; cases h
    | ok v =>
      obtain ⟨e, k3⟩ := v
      rw [hx] at h
      have := lenY (T := tkK tx n) (n := n) (s := s) j e k3 hx
      simp only at h
      split at h
      · cases h; omega
      · cases h
  unfold rdC at h
  split at h
  · cases h
  · split at h
    · cases h
    · split at h
      · cases h
      · split at h
        · split at h
          · cases h
          · split at h
            · cases h
            · have := key _ _ _ _ _ h; omega
        · have := key _ _ _ _ _ h; omega
theorem c_clauses (hP : pvOkP P) (hPA : P 144 11 = some A) (hA : aAd A) {cT : Nat} {Q : pvQT} : ∀ f cs k cd i I1, n < k + f → i ≤ k → cX tx n cT A I1 k cs cd → (∀ v I', frC A I1 I' → (match rdX (tkK tx n) n f cs k with
      | .ok (cs', _) => v = some (.int 1) ∧ I' 144 2 = nI 0 ∧ I' 144 3 = -1 ∧ ∃ cd, cd.length ≤ 300 ∧ cAct A I' cs' cd
      | .error (g, kf) => v = some (.int 0) ∧ I' 144 2 = nI g ∧ I' 144 3 = nI (tkP tx n kf)) → Q v 224 I' J P) → pvG mX6_readInto (pvR 22 0 0) (pvZ Q 0 0) 53 [.ref 144, .ref A, .int (nI i)] [] 0 0 224 I1 J P := by
  obtain ⟨-, h149, h194⟩ := hA.sh
  intro f
  induction f with
  | zero =>
    intro cs k cd i I1 hf hi hX K
    exfalso
    have h1 : k ≤ cT := hX.2.1.2.2.1
    have h2 := hX.1.2.2.1
    have h3 := hX.1.1.2
    rcases Nat.lt_or_ge k cT with z | z
    · have := tkK_lt (h2.1 k z); omega
    · have hk : k = cT := by omega
      rcases Nat.eq_zero_or_pos cT with z0 | z0
      · omega
      · have := tkK_lt (h2.1 (cT - 1) (by omega)); omega
  | succ f ih =>
    intro cs k cd i I1 hf hi hX K
    obtain ⟨x0, ⟨x1, x2, x3, x4, x5, x6⟩, x7, xa⟩ := id hX
    have ht : tkK tx n k ≤ 11000 := tkT_le
    have h300 := x0.1.2
    by_cases c0 : tkK tx n k = 0
    · have fin := K (some (.int 1)) I1 ⟨fun _ _ _ => rfl, fun _ _ => rfl⟩ (by
        rw [show rdX (tkK tx n) n (f + 1) cs k = .ok (cs, k) by simp only [rdX]; rw [if_pos c0]]
        exact ⟨rfl, x1, x2, cd, by omega, xa⟩)
      by_cases c3 : i < 300
      · skip
        refine g_iload_n dX6_readInto_53 rfl ?_
        refine g_sipush (v := nI 300) dX6_readInto_54 (by decide) ?_
        refine n_icmp_ge 77 dX6_readInto_57 (by decide) (by first | ((with_reducible apply cN_le) <;> omega) | ((with_reducible apply cI_len) <;> omega) | ((with_reducible apply cI_nle) <;> omega) | (with_reducible exact cI_le)) (fun c57 => by exfalso; first | omega | exact absurd trivial c57 | exact c57 | (simp at c57)) (fun c57 => ?_)
        refine g_aload_n dX6_readInto_60 rfl ?_
        refine n_getI dX6_readInto_61 fdX6_49 rfl (by first | rfl | exact pv_shx) (by omega) (by omega) (by decide) rfl (by repeat (first | exact x5 | exact x1 | (apply rd_s; done) | apply rd_n (by omega) | apply rp_s | apply rp_n (by omega) | (apply rdL_s; done) | apply rdL_n (by omega) | apply rpJ_s | apply rpJ_n (by omega) | rfl)) ?_
        refine n_if_eq 77 dX6_readInto_64 (by decide) (by first | (with_reducible exact cB _) | ((with_reducible apply cN_eq0) <;> omega) | exact Iff.rfl) (fun c64 => ?_) (fun c64 => by exfalso; first | omega | exact absurd trivial c64 | exact c64 | (simp at c64))
        refine g_aload_n dX6_readInto_77 rfl ?_
        refine n_getI dX6_readInto_78 fdX6_15 rfl (by first | rfl | exact pv_shx) (by omega) (by omega) (by decide) rfl (by repeat (first | exact x5 | exact x1 | (apply rd_s; done) | apply rd_n (by omega) | apply rp_s | apply rp_n (by omega) | (apply rdL_s; done) | apply rdL_n (by omega) | apply rpJ_s | apply rpJ_n (by omega) | rfl)) ?_
        refine n_if_ne 88 dX6_readInto_81 (by decide) (by first | (with_reducible exact cB _) | ((with_reducible apply cN_eq0) <;> omega) | exact Iff.rfl) (fun c81 => by exfalso; first | omega | exact absurd trivial c81 | exact c81 | (simp at c81)) (fun c81 => ?_)
        refine g_iconst (v := nI 1) dX6_readInto_84 (by decide) ?_
        refine g_goto 89 dX6_readInto_85 (by decide) ?_
        exact g_zret (by first | exact Or.inl rfl | exact Or.inr rfl | exact cB01 _) dX6_readInto_89 rfl (fin)
      · skip
        refine g_iload_n dX6_readInto_53 rfl ?_
        refine g_sipush (v := nI 300) dX6_readInto_54 (by decide) ?_
        refine n_icmp_ge 77 dX6_readInto_57 (by decide) (by first | ((with_reducible apply cN_le) <;> omega) | ((with_reducible apply cI_len) <;> omega) | ((with_reducible apply cI_nle) <;> omega) | (with_reducible exact cI_le)) (fun c57 => ?_) (fun c57 => by exfalso; first | omega | exact absurd trivial c57 | exact c57 | (simp at c57))
        refine g_aload_n dX6_readInto_77 rfl ?_
        refine n_getI dX6_readInto_78 fdX6_15 rfl (by first | rfl | exact pv_shx) (by omega) (by omega) (by decide) rfl (by repeat (first | exact x5 | exact x1 | (apply rd_s; done) | apply rd_n (by omega) | apply rp_s | apply rp_n (by omega) | (apply rdL_s; done) | apply rdL_n (by omega) | apply rpJ_s | apply rpJ_n (by omega) | rfl)) ?_
        refine n_if_ne 88 dX6_readInto_81 (by decide) (by first | (with_reducible exact cB _) | ((with_reducible apply cN_eq0) <;> omega) | exact Iff.rfl) (fun c81 => by exfalso; first | omega | exact absurd trivial c81 | exact c81 | (simp at c81)) (fun c81 => ?_)
        refine g_iconst (v := nI 1) dX6_readInto_84 (by decide) ?_
        refine g_goto 89 dX6_readInto_85 (by decide) ?_
        exact g_zret (by first | exact Or.inl rfl | exact Or.inr rfl | exact cB01 _) dX6_readInto_89 rfl (fin)
    · have rc := c_readClause (J := J) hP hPA hA hX c0
      have hk : k < cT := by
        rcases Nat.lt_or_ge k cT with z | z
        · exact z
        · exact absurd (by rw [show k = cT by omega]; exact x0.2.2.1.2) c0
      have go : ∀ I2, clP tx n cT A I1 k cs cd I2 → pvG mX6_readInto (pvR 22 0 0) (pvZ Q 0 0) 53 [.ref 144, .ref A, .int (nI (i + 1))] [] 0 0 224 I2 J P := by
        intro I2 hq
        unfold clP at hq
        obtain ⟨hq1, hq2⟩ := hq
        cases hr : rdC (tkK tx n) n cs k with
        | error v =>
          obtain ⟨g, kf⟩ := v
          rw [hr] at hq2
          obtain ⟨⟨b0, b1⟩, b2, b3, b4⟩ := hq2
          have fin := K (some (.int 0)) I2 hq1 (by
            rw [show rdX (tkK tx n) n (f + 1) cs k = .error (g, kf) by simp only [rdX]; rw [if_neg c0, hr]]
            exact ⟨rfl, b2, b3⟩)
          by_cases c3 : i + 1 < 300
          · skip
            refine g_iload_n dX6_readInto_53 rfl ?_
            refine g_sipush (v := nI 300) dX6_readInto_54 (by decide) ?_
            refine n_icmp_ge 77 dX6_readInto_57 (by decide) (by first | ((with_reducible apply cN_le) <;> omega) | ((with_reducible apply cI_len) <;> omega) | ((with_reducible apply cI_nle) <;> omega) | (with_reducible exact cI_le)) (fun c57 => by exfalso; first | omega | exact absurd trivial c57 | exact c57 | (simp at c57)) (fun c57 => ?_)
            refine g_aload_n dX6_readInto_60 rfl ?_
            refine n_getI dX6_readInto_61 fdX6_49 rfl (by first | rfl | exact pv_shx) (by omega) (by omega) (by decide) rfl (by repeat (first | exact b4 | exact b2 | (apply rd_s; done) | apply rd_n (by omega) | apply rp_s | apply rp_n (by omega) | (apply rdL_s; done) | apply rdL_n (by omega) | apply rpJ_s | apply rpJ_n (by omega) | rfl)) ?_
            refine n_if_eq 77 dX6_readInto_64 (by decide) (by first | (with_reducible exact cB _) | ((with_reducible apply cN_eq0) <;> omega) | exact Iff.rfl) (fun c64 => ?_) (fun c64 => by exfalso; first | omega | exact absurd trivial c64 | exact c64 | (simp at c64))
            refine g_aload_n dX6_readInto_77 rfl ?_
            refine n_getI dX6_readInto_78 fdX6_15 rfl (by first | rfl | exact pv_shx) (by omega) (by omega) (by decide) rfl (by repeat (first | exact b4 | exact b2 | (apply rd_s; done) | apply rd_n (by omega) | apply rp_s | apply rp_n (by omega) | (apply rdL_s; done) | apply rdL_n (by omega) | apply rpJ_s | apply rpJ_n (by omega) | rfl)) ?_
            refine n_if_ne 88 dX6_readInto_81 (by decide) (by first | (with_reducible exact cB _) | ((with_reducible apply cN_eq0) <;> omega) | exact Iff.rfl) (fun c81 => ?_) (fun c81 => by exfalso; first | omega | exact absurd trivial c81 | exact c81 | (simp at c81))
            refine g_iconst (v := nI 0) dX6_readInto_88 (by decide) ?_
            exact g_zret (by first | exact Or.inl rfl | exact Or.inr rfl | exact cB01 _) dX6_readInto_89 rfl (fin)
          · skip
            refine g_iload_n dX6_readInto_53 rfl ?_
            refine g_sipush (v := nI 300) dX6_readInto_54 (by decide) ?_
            refine n_icmp_ge 77 dX6_readInto_57 (by decide) (by first | ((with_reducible apply cN_le) <;> omega) | ((with_reducible apply cI_len) <;> omega) | ((with_reducible apply cI_nle) <;> omega) | (with_reducible exact cI_le)) (fun c57 => ?_) (fun c57 => by exfalso; first | omega | exact absurd trivial c57 | exact c57 | (simp at c57))
            refine g_aload_n dX6_readInto_77 rfl ?_
            refine n_getI dX6_readInto_78 fdX6_15 rfl (by first | rfl | exact pv_shx) (by omega) (by omega) (by decide) rfl (by repeat (first | exact b4 | exact b2 | (apply rd_s; done) | apply rd_n (by omega) | apply rp_s | apply rp_n (by omega) | (apply rdL_s; done) | apply rdL_n (by omega) | apply rpJ_s | apply rpJ_n (by omega) | rfl)) ?_
            refine n_if_ne 88 dX6_readInto_81 (by decide) (by first | (with_reducible exact cB _) | ((with_reducible apply cN_eq0) <;> omega) | exact Iff.rfl) (fun c81 => ?_) (fun c81 => by exfalso; first | omega | exact absurd trivial c81 | exact c81 | (simp at c81))
            refine g_iconst (v := nI 0) dX6_readInto_88 (by decide) ?_
            exact g_zret (by first | exact Or.inl rfl | exact Or.inr rfl | exact cB01 _) dX6_readInto_89 rfl (fin)
        | ok v =>
          obtain ⟨c, k2⟩ := v
          rw [hr] at hq2
          have hgt := gtC hr
          refine ih (cs ++ [c]) k2 _ (i + 1) I2 (by omega) (by omega) hq2 (fun v I' h1 h2 => K v I' ⟨fun x z1 z2 => (h1.1 x z1 z2).trans (hq1.1 x z1 z2), fun j hj => (h1.2 j hj).trans (hq1.2 j hj)⟩ ?_)
          rw [show rdX (tkK tx n) n (f + 1) cs k = rdX (tkK tx n) n f (cs ++ [c]) k2 by simp only [rdX]; rw [if_neg c0, hr]]
          exact h2
      refine g_iload_n dX6_readInto_53 rfl ?_
      refine g_sipush (v := nI 300) dX6_readInto_54 (by decide) ?_
      refine n_icmp_ge 77 dX6_readInto_57 (by decide) (by first | ((with_reducible apply cN_le) <;> omega) | ((with_reducible apply cI_len) <;> omega) | ((with_reducible apply cI_nle) <;> omega) | (with_reducible exact cI_le)) (fun c57 => by exfalso; first | omega | exact absurd trivial c57 | exact c57 | (simp at c57)) (fun c57 => ?_)
      refine g_aload_n dX6_readInto_60 rfl ?_
      refine n_getI dX6_readInto_61 fdX6_49 rfl (by first | rfl | exact pv_shx) (by omega) (by omega) (by decide) rfl (by repeat (first | exact x5 | (apply rd_s; done) | apply rd_n (by omega) | apply rp_s | apply rp_n (by omega) | (apply rdL_s; done) | apply rdL_n (by omega) | apply rpJ_s | apply rpJ_n (by omega) | rfl)) ?_
      refine n_if_eq 77 dX6_readInto_64 (by decide) (by first | (with_reducible exact cB _) | ((with_reducible apply cN_eq0) <;> omega) | exact Iff.rfl) (fun c64 => by exfalso; first | omega | exact absurd trivial c64 | exact c64 | (simp at c64)) (fun c64 => ?_)
      refine g_aload_n dX6_readInto_67 rfl ?_
      refine g_callV (rc) okX6_readClause lkX6_52 rfl (by first | rfl | exact pv_shx) rfl (by omega) (by omega) dX6_readInto_68 rfl (Nat.le_of_ble_eq_true rfl) (⟨by decide, by decide, by decide, by decide⟩) ?_
      rintro v nx' I2 J2 P2 ⟨rfl, rfl, rfl, rfl, hq⟩
      refine g_iinc dX6_readInto_71 rfl (by first | (with_reducible exact nI_1 _) | exact nI_1 _ | exact pk_m1 _ | rfl) (by decide) rfl ?_
      refine g_goto 53 dX6_readInto_74 (by decide) ?_
      exact go I2 hq
theorem okP_act (hP : pvOkP P) : pvOkP (pvuP P 144 11 (some A)) := by
  intro k j a h
  unfold pvuP
  by_cases e : k = 144
  · subst e
    by_cases e2 : j = 11
    · subst e2; cases h
    · have := hP 144 j a h
      simp [va_up, e2, this]
  · have := hP k j a h
    simp [e, this]
def riQ (tx : Nat → Nat) (n A : Nat) (I : pvI) (J : pvJ) (P : pvP) : pvQT := fun v nx' I' J' P' => nx' = 224 ∧ (pvOkP P' ∧ P' 0 = P 0) ∧ J' = J ∧ riP tx n A I v I'
theorem c_readInto (hP : pvOkP P) (hA : aAd A) (ht : cTx tx n I) : pvMet mX6_readInto 22 0 0 [.ref 144, .ref A] 224 I J P (riQ tx n A I J P) := by
  obtain ⟨⟨s0, s1, s2, s3, s4⟩, h149, h194⟩ := hA.sh
  have sp := c_split (J := J) hP ht
  have hP2 := okP_act (A := A) hP
  have hPA2 : pvuP P 144 11 (some A) 144 11 = some A := by simp [pvuP, va_up]
  refine pvMet.of _ (by decide) rfl (Nat.le_of_ble_eq_true rfl) ?_
  refine g_aload_n dX6_readInto_0 rfl ?_
  refine g_callV (sp) okX6_split lkX6_31 rfl (by first | rfl | exact pv_shx) rfl (by omega) (by omega) dX6_readInto_1 rfl (Nat.le_of_ble_eq_true rfl) (⟨by decide, by decide, by decide, by decide⟩) ?_
  rintro v nx' I1 J1 P1 ⟨rfl, rfl, rfl, rfl, ⟨f1, f2⟩, cT, hB⟩
  have cl := c_clear (I := pvs I1 144 (upd (upd (upd (upd (I1 144) 1 (nI 0)) 2 (nI 0)) 3 (-1)) 10 (nI 0))) (J := J1) (P := pvuP P1 144 11 (some A)) hA
  have tk0 : I1 146 0 = nI (tkK tx n 0) := (hB.2.1 0 (Nat.zero_le _)).1
  refine g_aload_n dX6_readInto_4 rfl ?_
  refine g_iconst (v := nI 0) dX6_readInto_5 (by decide) ?_
  refine n_putI dX6_readInto_6 fdX6_28 rfl (fun h => absurd h (by decide)) (by first | rfl | exact pv_shx) (by omega) (by omega) (by decide) rfl (by repeat (first | exact pvu_s | exact pvuJ_s | apply pvu_in (by omega) | apply pvuJ_in (by omega) | exact pvu_pvs | exact pvuJ_pvs)) ?_
  refine g_aload_n dX6_readInto_9 rfl ?_
  refine g_iconst (v := nI 0) dX6_readInto_10 (by decide) ?_
  refine n_putI dX6_readInto_11 fdX6_15 rfl (fun h => absurd h (by decide)) (by first | rfl | exact pv_shx) (by omega) (by omega) (by decide) rfl (by repeat (first | exact pvu_s | exact pvuJ_s | apply pvu_in (by omega) | apply pvuJ_in (by omega) | exact pvu_pvs | exact pvuJ_pvs)) ?_
  refine g_aload_n dX6_readInto_14 rfl ?_
  refine g_iconst (v := (-1)) dX6_readInto_15 (by decide) ?_
  refine n_putI dX6_readInto_16 fdX6_19 rfl (fun h => absurd h (by decide)) (by first | rfl | exact pv_shx) (by omega) (by omega) (by decide) rfl (by repeat (first | exact pvu_s | exact pvuJ_s | apply pvu_in (by omega) | apply pvuJ_in (by omega) | exact pvu_pvs | exact pvuJ_pvs)) ?_
  refine g_aload_n dX6_readInto_19 rfl ?_
  refine g_iconst (v := nI 0) dX6_readInto_20 (by decide) ?_
  refine n_putI dX6_readInto_21 fdX6_34 rfl (fun h => absurd h (by decide)) (by first | rfl | exact pv_shx) (by omega) (by omega) (by decide) rfl (by repeat (first | exact pvu_s | exact pvuJ_s | apply pvu_in (by omega) | apply pvuJ_in (by omega) | exact pvu_pvs | exact pvuJ_pvs)) ?_
  refine g_aload_n dX6_readInto_24 rfl ?_
  refine g_aload_n dX6_readInto_25 rfl ?_
  refine g_putP dX6_readInto_26 fdX6_37 rfl (fun h => absurd h (by decide)) (by first | rfl | exact pv_shx) (by omega) (by omega) (by decide) rfl (by first | exact Or.inl ⟨_, rfl⟩ | exact Or.inr ⟨_, rfl⟩) ?_
  refine g_aload_n dX6_readInto_29 rfl ?_
  refine g_getP dX6_readInto_30 fdX6_37 rfl (by first | rfl | exact pv_shx) (by omega) (by omega) (by decide) rfl (hPA2) ?_
  refine g_callV (cl) okX0_clear lkX6_41 rfl (s0) rfl (by omega) (by omega) dX6_readInto_33 rfl (Nat.le_of_ble_eq_true rfl) (⟨by decide, by decide, by decide, by decide⟩) ?_
  rintro v nx' I2 J2 P2 ⟨rfl, rfl, rfl, rfl, rfl⟩
  refine g_aload_n dX6_readInto_36 rfl ?_
  refine g_iconst (v := nI 0) dX6_readInto_37 (by decide) ?_
  refine n_putI dX6_readInto_38 fdX6_46 rfl (fun h => absurd h (by decide)) (by first | rfl | exact pv_shx) (by omega) (by omega) (by decide) rfl (by repeat (first | exact pvu_s | exact pvuJ_s | apply pvu_in (by omega) | apply pvuJ_in (by omega) | exact pvu_pvs | exact pvuJ_pvs)) ?_
  refine g_aload_n dX6_readInto_41 rfl ?_
  refine g_aload_n dX6_readInto_42 rfl ?_
  refine g_getP dX6_readInto_43 fdX6_22 rfl (by first | rfl | exact pv_shx) (by omega) (by omega) (by decide) rfl (hP2 _ _ _ rfl) ?_
  refine g_iconst (v := nI 0) dX6_readInto_46 (by decide) ?_
  refine n_iald dX6_readInto_47 (by first | rfl | exact pv_shx) (by omega) (by omega) (by decide) (rfl) (by omega) (by repeat (first | exact tk0 | (apply rd_s; done) | apply rd_n (by omega) | apply rp_s | apply rp_n (by omega) | (apply rdL_s; done) | apply rdL_n (by omega) | apply rpJ_s | apply rpJ_n (by omega) | rfl)) ?_
  refine n_putI dX6_readInto_48 fdX6_49 rfl (fun h => absurd h (by decide)) (by first | rfl | exact pv_shx) (by omega) (by omega) (by decide) rfl (by repeat (first | exact pvu_s | exact pvuJ_s | apply pvu_in (by omega) | apply pvuJ_in (by omega) | exact pvu_pvs | exact pvuJ_pvs)) ?_
  refine g_iconst (v := nI 0) dX6_readInto_51 (by decide) ?_
  refine g_istore_n dX6_readInto_52 (by decide) rfl ?_
  refine c_clauses (tx := tx) (n := n) (cT := cT) hP2 hPA2 hA (n + 1) [] 0 [] 0 _ (by omega) (Nat.le_refl _) ?_ (fun v I' h1 h2 => ⟨rfl, ⟨hP2, pvuP_ne (by decide)⟩, rfl, ?_, h2⟩)
  · refine ⟨hB.mv ?_ ?_ ?_, ⟨?_, ?_, Nat.zero_le _, ?_, ?_, ?_⟩, Nat.zero_le _, ?_, Nat.zero_le _, ?_, fun i hi => absurd hi (Nat.not_lt_zero i), fun j hj => absurd hj (Nat.not_lt_zero j), fun c hc => absurd hc List.not_mem_nil⟩ <;> simp [pvs, upd, show A ≠ 144 by omega, show ¬ (144 = A) by omega, show ¬ (146 = A) by omega, show ¬ (147 = A) by omega, seenN]
  · refine ⟨fun x z1 z2 z3 z4 => ?_, ?_⟩
    · rw [h1.1 x z1 z4]
      simp [pvs, z1, show ¬ (x = A) by omega]
      exact f1 x z1 z2 z3
    · rw [h1.2 1 (by decide)]
      simp [pvs, upd, show ¬ (144 = A) by omega]
theorem cAct.mv {I' : pvI} {cs : List pC} {cd : List Nat} (h : cAct A I cs cd) (hI : ∀ x, A ≤ x → x ≤ A + 4 → I' x = I x) : cAct A I' cs cd := by
  unfold cAct clC at h ⊢
  rw [hI A (by omega) (by omega), hI (A + 1) (by omega) (by omega), hI (A + 2) (by omega) (by omega), hI (A + 3) (by omega) (by omega), hI (A + 4) (by omega) (by omega)]
  exact h
def actC (tx : Nat → Nat) (n : Nat) (I : pvI) (J : pvJ) (P : pvP) (na : Nat) : pvQT := fun v nx' I' J' P' => nx' = 224 ∧ (pvOkP P' ∧ P' 0 = P 0) ∧ J' = J ∧ if na = 10 then v = some (.int (-1)) ∧ I' = I else riF (149 + 5 * na) (pvs I 39 (I' 39)) I' ∧ match rdAll (tkK tx n) n with
    | .ok (cs, _) => v = some (.int (nI na)) ∧ I' 39 = upd (I 39) 0 (nI (na + 1)) ∧ I' 144 2 = nI 0 ∧ I' 144 3 = -1 ∧ ∃ cd, cd.length ≤ 300 ∧ cAct (149 + 5 * na) I' cs cd
    | .error (f, kf) => v = some (.int (-1)) ∧ I' 39 = I 39 ∧ I' 144 2 = nI f ∧ I' 144 3 = nI (tkP tx n kf)
theorem book_P (hP : pvOkP P) {t : Nat} (ht : t < 10) : P 148 t = some (149 + 5 * t) := by
  have : ∀ t, t < 10 → pvPP 148 t = some (149 + 5 * t) := by decide
  exact hP _ _ _ (this t ht)
theorem c_act {na : Nat} (hP : pvOkP P) (ht : cTx tx n I) (hna : I 39 0 = nI na) (hn : na ≤ 10) : pvMet mX11_act 23 0 0 [.ref 1] 224 I J P (actC tx n I J P na) := by
  have iw := c_within (nx := 224) (v := nI na) (lo := nI 0) (hi := nI 9) (L := 0) (H := 9) (I := I) (J := J) (P := P) (by decide) (by decide)
  have en : (nI na).toInt = na := nI_toInt (by omega)
  by_cases c : na = 10
  · rw [if_neg (by omega)] at iw
    refine pvMet.of _ (by decide) rfl (Nat.le_of_ble_eq_true rfl) ?_
    refine g_aload_n dX11_act_0 rfl ?_
    refine g_getP dX11_act_1 fdX11_32 rfl (by first | rfl | exact pv_shx) (by omega) (by omega) (by decide) rfl (hP _ _ _ rfl) ?_
    refine g_getP dX11_act_4 fdX11_333 rfl (by first | rfl | exact pv_shx) (by omega) (by omega) (by decide) rfl (hP _ _ _ rfl) ?_
    refine n_getI dX11_act_7 fdX11_337 rfl (by first | rfl | exact pv_shx) (by omega) (by omega) (by decide) rfl (by repeat (first | exact hna | (apply rd_s; done) | apply rd_n (by omega) | apply rp_s | apply rp_n (by omega) | (apply rdL_s; done) | apply rdL_n (by omega) | apply rpJ_s | apply rpJ_n (by omega) | rfl)) ?_
    refine g_istore_n dX11_act_10 (by decide) rfl ?_
    refine g_iload_n dX11_act_11 rfl ?_
    refine g_iconst (v := nI 0) dX11_act_12 (by decide) ?_
    refine g_bipush (v := nI 9) dX11_act_13 (by decide) ?_
    refine p_callS (iw) okX11_within lkX11_85 rfl dX11_act_15 rfl (Nat.le_of_ble_eq_true rfl) (⟨by decide, by decide, by decide, by decide⟩) ?_
    refine n_if_eq 37 dX11_act_18 (by decide) (by first | (with_reducible exact cB _) | ((with_reducible apply cN_eq0) <;> omega) | exact Iff.rfl) (fun c18 => ?_) (fun c18 => by exfalso; first | omega | exact absurd trivial c18 | exact c18 | (simp at c18))
    refine g_iconst (v := (-1)) dX11_act_37 (by decide) ?_
    exact g_iret dX11_act_38 rfl (⟨rfl, ⟨hP, rfl⟩, rfl, by rw [if_pos c]; exact ⟨rfl, rfl⟩⟩)
  · rw [if_pos (by omega)] at iw
    have hA : aAd (149 + 5 * na) := ⟨na, by omega, rfl⟩
    have ri := c_readInto (J := J) hP hA ht
    have nb := book_P hP (t := na) (by omega)
    refine pvMet.of _ (by decide) rfl (Nat.le_of_ble_eq_true rfl) ?_
    refine g_aload_n dX11_act_0 rfl ?_
    refine g_getP dX11_act_1 fdX11_32 rfl (by first | rfl | exact pv_shx) (by omega) (by omega) (by decide) rfl (hP _ _ _ rfl) ?_
    refine g_getP dX11_act_4 fdX11_333 rfl (by first | rfl | exact pv_shx) (by omega) (by omega) (by decide) rfl (hP _ _ _ rfl) ?_
    refine n_getI dX11_act_7 fdX11_337 rfl (by first | rfl | exact pv_shx) (by omega) (by omega) (by decide) rfl (by repeat (first | exact hna | (apply rd_s; done) | apply rd_n (by omega) | apply rp_s | apply rp_n (by omega) | (apply rdL_s; done) | apply rdL_n (by omega) | apply rpJ_s | apply rpJ_n (by omega) | rfl)) ?_
    refine g_istore_n dX11_act_10 (by decide) rfl ?_
    refine g_iload_n dX11_act_11 rfl ?_
    refine g_iconst (v := nI 0) dX11_act_12 (by decide) ?_
    refine g_bipush (v := nI 9) dX11_act_13 (by decide) ?_
    refine p_callS (iw) okX11_within lkX11_85 rfl dX11_act_15 rfl (Nat.le_of_ble_eq_true rfl) (⟨by decide, by decide, by decide, by decide⟩) ?_
    refine n_if_eq 37 dX11_act_18 (by decide) (by first | (with_reducible exact cB _) | ((with_reducible apply cN_eq0) <;> omega) | exact Iff.rfl) (fun c18 => by exfalso; first | omega | exact absurd trivial c18 | exact c18 | (simp at c18)) (fun c18 => ?_)
    refine g_aload_n dX11_act_21 rfl ?_
    refine g_getP dX11_act_22 fdX11_53 rfl (by first | rfl | exact pv_shx) (by omega) (by omega) (by decide) rfl (hP _ _ _ rfl) ?_
    refine g_aload_n dX11_act_25 rfl ?_
    refine g_getP dX11_act_26 fdX11_59 rfl (by first | rfl | exact pv_shx) (by omega) (by omega) (by decide) rfl (hP _ _ _ rfl) ?_
    refine g_iload_n dX11_act_29 rfl ?_
    refine g_aald _ dX11_act_30 (by first | exact Or.inl rfl | exact Or.inr rfl) (by omega) (by omega) (by decide) (rfl) (by omega) (nb) ?_
    refine g_callV (ri) okX6_readInto lkX11_342 rfl (by first | rfl | exact pv_shx) rfl (by omega) (by omega) dX11_act_31 rfl (Nat.le_of_ble_eq_true rfl) (⟨by decide, by decide, by decide, by decide⟩) ?_
    rintro v nx' I1 J1 P1 ⟨rfl, ⟨hP1, e0⟩, rfl, ⟨hf1, hf2⟩, hm⟩
    have e39 : I1 39 = I 39 := hf1 39 (by decide) (by decide) (by decide) (by omega)
    have n39 : I1 39 0 = nI na := by rw [e39]; exact hna
    cases hr : rdAll (tkK tx n) n with
    | error x =>
      obtain ⟨f, kf⟩ := x
      rw [hr] at hm
      obtain ⟨rfl, m2, m3⟩ := hm
      refine n_if_ne 39 dX11_act_34 (by decide) (by first | (with_reducible exact cB _) | ((with_reducible apply cN_eq0) <;> omega) | exact Iff.rfl) (fun c34 => by exfalso; first | omega | exact absurd trivial c34 | exact c34 | (simp at c34)) (fun c34 => ?_)
      refine g_iconst (v := (-1)) dX11_act_37 (by decide) ?_
      exact g_iret dX11_act_38 rfl (⟨rfl, ⟨hP1, e0⟩, rfl, by rw [if_neg c, hr]; exact ⟨⟨fun x z1 z2 z3 z4 => by rw [e39]; rw [show pvs I 39 (I 39) = I from pvs_self]; exact hf1 x z1 z2 z3 z4, hf2⟩, rfl, e39, m2, m3⟩⟩)
    | ok x =>
      obtain ⟨cs, k⟩ := x
      rw [hr] at hm
      obtain ⟨rfl, m2, m3, cd, m4, m5⟩ := hm
      have fin : actC tx n I J1 P na (some (.int (nI na))) 224 (pvs I1 39 (upd (I1 39) 0 (nI (na + 1)))) J1 P1 := by
        refine ⟨rfl, ⟨hP1, e0⟩, rfl, ?_⟩
        rw [if_neg c, hr]
        refine ⟨⟨fun x z1 z2 z3 z4 => ?_, by rw [pvs_ne (by decide)]; exact hf2⟩, rfl, by rw [pvs_eq, e39], by rw [pvs_ne (by decide)]; exact m2, by rw [pvs_ne (by decide)]; exact m3, cd, m4, cAct.mv m5 (fun x z1 z2 => pvs_ne (by omega))⟩
        by_cases e : x = 39
        · subst e; rw [pvs_eq, pvs_eq]
        · rw [pvs_ne e, pvs_ne e]; exact hf1 x z1 z2 z3 z4
      refine n_if_ne 39 dX11_act_34 (by decide) (by first | (with_reducible exact cB _) | ((with_reducible apply cN_eq0) <;> omega) | exact Iff.rfl) (fun c34 => ?_) (fun c34 => by exfalso; first | omega | exact absurd trivial c34 | exact c34 | (simp at c34))
      refine g_aload_n dX11_act_39 rfl ?_
      refine g_getP dX11_act_40 fdX11_32 rfl (by first | rfl | exact pv_shx) (by omega) (by omega) (by decide) rfl (hP1 _ _ _ rfl) ?_
      refine g_getP dX11_act_43 fdX11_333 rfl (by first | rfl | exact pv_shx) (by omega) (by omega) (by decide) rfl (hP1 _ _ _ rfl) ?_
      refine g_dup dX11_act_46 rfl ?_
      refine n_getI dX11_act_47 fdX11_337 rfl (by first | rfl | exact pv_shx) (by omega) (by omega) (by decide) rfl (by repeat (first | exact n39 | (apply rd_s; done) | apply rd_n (by omega) | apply rp_s | apply rp_n (by omega) | (apply rdL_s; done) | apply rdL_n (by omega) | apply rpJ_s | apply rpJ_n (by omega) | rfl)) ?_
      refine g_iconst (v := nI 1) dX11_act_50 (by decide) ?_
      refine n_iadd dX11_act_51 (by first | (with_reducible exact nI_add _ _) | rfl) ?_
      refine n_putI dX11_act_52 fdX11_337 rfl (fun h => absurd h (by decide)) (by first | rfl | exact pv_shx) (by omega) (by omega) (by decide) rfl (by repeat (first | exact pvu_s | exact pvuJ_s | apply pvu_in (by omega) | apply pvuJ_in (by omega) | exact pvu_pvs | exact pvuJ_pvs)) ?_
      refine g_iload_n dX11_act_55 rfl ?_
      exact g_iret dX11_act_56 rfl (fin)
    skip
end SPL
