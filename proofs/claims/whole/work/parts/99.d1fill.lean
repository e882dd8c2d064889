/-! class: pour: a layer is filled -/
theorem pFl_skip {f0 : Nat → Nat} {ly : Nat → Bool} {st : (Nat → Nat) × Nat} {p : Nat} : ∀ k, (∀ c, p ≤ c → c < p + k → ly c = false) → pFl f0 ly st (p + k) = pFl f0 ly st p
  | 0, _ => rfl
  | k + 1, h => by
    have ih := pFl_skip (f0 := f0) (st := st) (p := p) k (fun c z1 z2 => h c z1 (by omega))
    show (if ly (p + k) = true then _ else pFl f0 ly st (p + k)) = _
    rw [if_neg (by rw [h (p + k) (by omega) (by omega)]; decide)]
    exact ih
theorem pFl_s {f0 : Nat → Nat} {ly : Nat → Bool} {st : (Nat → Nat) × Nat} {c : Nat} (h : ly c = true) : pFl f0 ly st (c + 1) = (updN (pFl f0 ly st c).1 c ((pFl f0 ly st c).1 c + min (pFl f0 ly st c).2 (20 - (f0 c + (pFl f0 ly st c).1 c))), (pFl f0 ly st c).2 - min (pFl f0 ly st c).2 (20 - (f0 c + (pFl f0 ly st c).1 c))) := by
  show (if ly c = true then _ else _) = _
  rw [if_pos h]
theorem pFl_zero {f0 : Nat → Nat} {ly : Nat → Bool} {st : (Nat → Nat) × Nat} {p : Nat} (h : (pFl f0 ly st p).2 = 0) : ∀ k, pFl f0 ly st (p + k) = pFl f0 ly st p
  | 0 => rfl
  | k + 1 => by
    have ih := pFl_zero h k
    by_cases hl : ly (p + k) = true
    · show pFl f0 ly st (p + k + 1) = _
      rw [pFl_s hl, ih, h, Nat.zero_min, Nat.add_zero, Nat.sub_zero]
      apply Prod.ext
      · funext x
        simp only [updN]
        split
        · rename_i e; rw [e]
        · rfl
      · exact h.symm
    · show (if ly (p + k) = true then _ else pFl f0 ly st (p + k)) = _
      rw [if_neg hl]
      exact ih
section FIL
variable {I : pvI} {J : pvJ} {P : pvP} {f0 : Nat → Nat} {ly : Nat → Bool} {st : (Nat → Nat) × Nat}
def filQ (f0 : Nat → Nat) (r : (Nat → Nat) × Nat) (I : pvI) (J : pvJ) (P : pvP) : pvQT := pvq P (fun v I' J' => v = some (.int (nI r.2)) ∧ J' = J ∧ (∀ c, c < 64 → I' 7 c = nI (f0 c + r.1 c)) ∧ ∀ z, z ≠ 7 → I' z = I z)
theorem c_fillLayer {t : Nat} (hP : pvOkP P) (hok : pOk f0 t st) (ht : t ≤ 1000) (h7 : ∀ c, c < 64 → I 7 c = nI (f0 c + st.1 c)) : pvMet mX3_fillLayer 2 0 0 [.ref 4, .long (mk ly), .int (nI st.2)] 224 I J P (filQ f0 (pFl f0 ly st 64) I J P) := by
  have lp : ∀ q p i I1, 64 - p ≤ q → p ≤ 64 → i ≤ p → (∀ c, c < 64 → I1 7 c = nI (f0 c + (pFl f0 ly st p).1 c)) → (∀ z, z ≠ 7 → I1 z = I z) → pvG mX3_fillLayer (pvR 2 0 0) (pvZ (filQ f0 (pFl f0 ly st 64) I J P) 0 0) 9 [.ref 4, .long (mk ly), .retAddr 0, .int (nI st.2), .int (nI (pFl f0 ly st p).2), .long (mk (rst ly p)), .retAddr 0, .int (nI i), .retAddr 0, .retAddr 0] [] 0 0 224 I1 J P := by
    intro q
    induction q with
    | zero =>
      intro p i I1 hq hp hi h1 h2
      obtain rfl : p = 64 := by omega
      have hz : mk (rst ly 64) = 0 := rst_zero (fun c z1 z2 => by omega)
      have ok := (pFl_ok (ly := ly) hok 64).2
      by_cases c1 : i < 64
      · skip
        refine g_iload dX3_fillLayer_9 rfl ?_
        refine g_bipush (v := nI 64) dX3_fillLayer_11 (by decide) ?_
        refine n_icmp_ge 86 dX3_fillLayer_13 (by decide) (by first | ((with_reducible apply cN_le) <;> omega) | ((with_reducible apply cI_len) <;> omega) | ((with_reducible apply cI_nle) <;> omega) | (with_reducible exact cI_le)) (fun c13 => by exfalso; first | omega | exact absurd trivial c13 | exact c13 | (simp at c13)) (fun c13 => ?_)
        refine g_lload dX3_fillLayer_16 rfl ?_
        refine g_lconst (v := 0) dX3_fillLayer_18 (by decide) ?_
        refine g_lcmp dX3_fillLayer_19 ?_
        refine n_if_eq 86 dX3_fillLayer_20 (by decide) (lg_cmp_eq _ _) (fun c20 => ?_) (fun c20 => by exfalso; exact c20 hz)
        refine g_iload dX3_fillLayer_86 rfl ?_
        exact g_iret dX3_fillLayer_88 rfl (⟨rfl, rfl, rfl, rfl, h1, h2⟩)
      · skip
        refine g_iload dX3_fillLayer_9 rfl ?_
        refine g_bipush (v := nI 64) dX3_fillLayer_11 (by decide) ?_
        refine n_icmp_ge 86 dX3_fillLayer_13 (by decide) (by first | ((with_reducible apply cN_le) <;> omega) | ((with_reducible apply cI_len) <;> omega) | ((with_reducible apply cI_nle) <;> omega) | (with_reducible exact cI_le)) (fun c13 => ?_) (fun c13 => by exfalso; first | omega | exact absurd trivial c13 | exact c13 | (simp at c13))
        refine g_iload dX3_fillLayer_86 rfl ?_
        exact g_iret dX3_fillLayer_88 rfl (⟨rfl, rfl, rfl, rfl, h1, h2⟩)
    | succ q ih =>
      intro p i I1 hq hp hi h1 h2
      have ok := (pFl_ok (ly := ly) hok p).2
      rcases rst_or (f := ly) (64 - p) p (by omega) with ⟨l, z1, z2, z3, z4⟩ | z
      · have hne : ¬ mk (rst ly p) = 0 := rst_ne z1 z2 z3
        by_cases c1 : (pFl f0 ly st p).2 = 0
        · have e64 : pFl f0 ly st 64 = pFl f0 ly st p := by
            have := pFl_zero c1 (64 - p)
            rw [show p + (64 - p) = 64 by omega] at this
            exact this
          rw [e64]
          refine g_iload dX3_fillLayer_9 rfl ?_
          refine g_bipush (v := nI 64) dX3_fillLayer_11 (by decide) ?_
          refine n_icmp_ge 86 dX3_fillLayer_13 (by decide) (by first | ((with_reducible apply cN_le) <;> omega) | ((with_reducible apply cI_len) <;> omega) | ((with_reducible apply cI_nle) <;> omega) | (with_reducible exact cI_le)) (fun c13 => by exfalso; first | omega | exact absurd trivial c13 | exact c13 | (simp at c13)) (fun c13 => ?_)
          refine g_lload dX3_fillLayer_16 rfl ?_
          refine g_lconst (v := 0) dX3_fillLayer_18 (by decide) ?_
          refine g_lcmp dX3_fillLayer_19 ?_
          refine n_if_eq 86 dX3_fillLayer_20 (by decide) (lg_cmp_eq _ _) (fun c20 => by exfalso; exact hne c20) (fun c20 => ?_)
          refine g_iload dX3_fillLayer_23 rfl ?_
          refine n_if_le 86 dX3_fillLayer_25 (by decide) (by first | ((with_reducible apply cN_le0) <;> omega) | (with_reducible exact cI_le0)) (fun c25 => ?_) (fun c25 => by exfalso; first | omega | exact absurd trivial c25 | exact c25 | (simp at c25))
          refine g_iload dX3_fillLayer_86 rfl ?_
          exact g_iret dX3_fillLayer_88 rfl (⟨rfl, rfl, rfl, rfl, h1, h2⟩)
        · have el : pFl f0 ly st l = pFl f0 ly st p := by
            have := pFl_skip (f0 := f0) (ly := ly) (st := st) (p := p) (l - p) (fun c y1 y2 => z4 c y1 (by omega))
            rw [show p + (l - p) = l by omega] at this
            exact this
          have lo := t_lowest (nx := 224) (I := I1) (J := J) (P := P) z2 (rst_hit z1 z3) (rst_bel z4)
          have nxt := rst_next z1 z2 z3 z4
          have ol := (pFl_ok (ly := ly) hok p).1 l z2
          have r7 := h1 l z2
          have nx := ih (l + 1) (i + 1)
          have es := pFl_s (f0 := f0) (st := st) z3
          rw [el] at es
          rw [es] at nx
          have esub : nI 20 - nI (f0 l + (pFl f0 ly st p).1 l) = nI (20 - (f0 l + (pFl f0 ly st p).1 l)) := pk_sub (by omega)
          have hmn : min (pFl f0 ly st p).2 (20 - (f0 l + (pFl f0 ly st p).1 l)) ≤ (pFl f0 ly st p).2 := Nat.min_le_left _ _
          have hmn2 : min (pFl f0 ly st p).2 (20 - (f0 l + (pFl f0 ly st p).1 l)) ≤ 20 := Nat.le_trans (Nat.min_le_right _ _) (by omega)
          have emin : (if nI (20 - (f0 l + (pFl f0 ly st p).1 l)) < nI (pFl f0 ly st p).2 then nI (20 - (f0 l + (pFl f0 ly st p).1 l)) else nI (pFl f0 ly st p).2) = nI (min (pFl f0 ly st p).2 (20 - (f0 l + (pFl f0 ly st p).1 l))) := mm_min (by omega) (by omega)
          generalize hg : min (pFl f0 ly st p).2 (20 - (f0 l + (pFl f0 ly st p).1 l)) = gv at *
          refine g_iload dX3_fillLayer_9 rfl ?_
          refine g_bipush (v := nI 64) dX3_fillLayer_11 (by decide) ?_
          refine n_icmp_ge 86 dX3_fillLayer_13 (by decide) (by first | ((with_reducible apply cN_le) <;> omega) | ((with_reducible apply cI_len) <;> omega) | ((with_reducible apply cI_nle) <;> omega) | (with_reducible exact cI_le)) (fun c13 => by exfalso; first | omega | exact absurd trivial c13 | exact c13 | (simp at c13)) (fun c13 => ?_)
          refine g_lload dX3_fillLayer_16 rfl ?_
          refine g_lconst (v := 0) dX3_fillLayer_18 (by decide) ?_
          refine g_lcmp dX3_fillLayer_19 ?_
          refine n_if_eq 86 dX3_fillLayer_20 (by decide) (lg_cmp_eq _ _) (fun c20 => by exfalso; exact hne c20) (fun c20 => ?_)
          refine g_iload dX3_fillLayer_23 rfl ?_
          refine n_if_le 86 dX3_fillLayer_25 (by decide) (by first | ((with_reducible apply cN_le0) <;> omega) | (with_reducible exact cI_le0)) (fun c25 => by exfalso; first | omega | exact absurd trivial c25 | exact c25 | (simp at c25)) (fun c25 => ?_)
          refine g_lload dX3_fillLayer_28 rfl ?_
          refine p_callNS (lo) okX11_lowest lkX3_75 rfl dX3_fillLayer_30 rfl (Nat.le_of_ble_eq_true rfl) (⟨by decide, by decide, by decide, by decide⟩) ?_
          refine g_istore dX3_fillLayer_33 (by decide) rfl ?_
          refine g_lload dX3_fillLayer_35 rfl ?_
          refine g_lload dX3_fillLayer_37 rfl ?_
          refine g_lconst (v := 1) dX3_fillLayer_39 (by decide) ?_
          refine n_lsub dX3_fillLayer_40 (rfl) ?_
          refine n_land dX3_fillLayer_41 (nxt) ?_
          refine g_lstore dX3_fillLayer_42 (by decide) rfl ?_
          refine g_iload dX3_fillLayer_44 rfl ?_
          refine g_bipush (v := nI 20) dX3_fillLayer_46 (by decide) ?_
          refine g_aload_n dX3_fillLayer_48 rfl ?_
          refine g_getP dX3_fillLayer_49 fdX3_18 rfl (by first | rfl | exact pv_shx) (by omega) (by omega) (by decide) rfl (hP _ _ _ rfl) ?_
          refine g_iload dX3_fillLayer_52 rfl ?_
          refine n_iald dX3_fillLayer_54 (by first | rfl | exact pv_shx) (by omega) (by omega) (by decide) (rfl) (by omega) (by repeat (first | exact r7 | (apply rd_s; done) | apply rd_n (by omega) | apply rp_s | apply rp_n (by omega) | (apply rdL_s; done) | apply rdL_n (by omega) | apply rpJ_s | apply rpJ_n (by omega) | rfl)) ?_
          refine n_isub dX3_fillLayer_55 (esub) ?_
          refine g_mmin dX3_fillLayer_56 lkX3_79 (by decide) (Nat.le_of_ble_eq_true rfl) (by decide) (by decide) (emin) ?_
          refine g_istore dX3_fillLayer_59 (by decide) rfl ?_
          refine g_aload_n dX3_fillLayer_61 rfl ?_
          refine g_getP dX3_fillLayer_62 fdX3_18 rfl (by first | rfl | exact pv_shx) (by omega) (by omega) (by decide) rfl (hP _ _ _ rfl) ?_
          refine g_iload dX3_fillLayer_65 rfl ?_
          refine g_dup2 dX3_fillLayer_67 rfl rfl ?_
          refine n_iald dX3_fillLayer_68 (by first | rfl | exact pv_shx) (by omega) (by omega) (by decide) (rfl) (by omega) (by repeat (first | exact r7 | (apply rd_s; done) | apply rd_n (by omega) | apply rp_s | apply rp_n (by omega) | (apply rdL_s; done) | apply rdL_n (by omega) | apply rpJ_s | apply rpJ_n (by omega) | rfl)) ?_
          refine g_iload dX3_fillLayer_69 rfl ?_
          refine n_iadd dX3_fillLayer_71 (by first | (with_reducible exact nI_add _ _) | rfl) ?_
          refine n_iast dX3_fillLayer_72 (by first | rfl | exact pv_shx) (by omega) (by omega) (by omega) (by decide) (rfl) (by omega) (by repeat (first | exact pvu_s | exact pvuJ_s | apply pvu_in (by omega) | apply pvuJ_in (by omega) | exact pvu_pvs | exact pvuJ_pvs)) ?_
          refine g_iload dX3_fillLayer_73 rfl ?_
          refine g_iload dX3_fillLayer_75 rfl ?_
          refine n_isub dX3_fillLayer_77 (by first | ((with_reducible apply pk_sub) <;> omega) | rfl) ?_
          refine g_istore dX3_fillLayer_78 (by decide) rfl ?_
          refine g_iinc dX3_fillLayer_80 rfl (by first | (with_reducible exact nI_1 _) | exact nI_1 _ | exact pk_m1 _ | rfl) (by decide) rfl ?_
          refine g_goto 9 dX3_fillLayer_83 (by decide) ?_
          refine g_drop _ (by repeat (first | exact trivial | refine ⟨Or.inr ⟨_, rfl⟩, ?_⟩ | refine ⟨Or.inl rfl, ?_⟩)) (nx _ (by omega) (by omega) (by omega) (fun c hc => ?_) (fun z hz => ?_))
          · by_cases e : c = l
            · subst e; simp [pvs, upd, updN, Nat.add_assoc]
            · simp [pvs, upd, updN, e]; exact h1 c hc
          · rw [pvs_ne hz]; exact h2 z hz
      · have hz : mk (rst ly p) = 0 := rst_zero z
        have e64 : pFl f0 ly st 64 = pFl f0 ly st p := by
          have := pFl_skip (f0 := f0) (ly := ly) (st := st) (p := p) (64 - p) (fun c y1 y2 => z c y1 (by omega))
          rw [show p + (64 - p) = 64 by omega] at this
          exact this
        rw [e64]
        by_cases c1 : i < 64
        · skip
          refine g_iload dX3_fillLayer_9 rfl ?_
          refine g_bipush (v := nI 64) dX3_fillLayer_11 (by decide) ?_
          refine n_icmp_ge 86 dX3_fillLayer_13 (by decide) (by first | ((with_reducible apply cN_le) <;> omega) | ((with_reducible apply cI_len) <;> omega) | ((with_reducible apply cI_nle) <;> omega) | (with_reducible exact cI_le)) (fun c13 => by exfalso; first | omega | exact absurd trivial c13 | exact c13 | (simp at c13)) (fun c13 => ?_)
          refine g_lload dX3_fillLayer_16 rfl ?_
          refine g_lconst (v := 0) dX3_fillLayer_18 (by decide) ?_
          refine g_lcmp dX3_fillLayer_19 ?_
          refine n_if_eq 86 dX3_fillLayer_20 (by decide) (lg_cmp_eq _ _) (fun c20 => ?_) (fun c20 => by exfalso; exact c20 hz)
          refine g_iload dX3_fillLayer_86 rfl ?_
          exact g_iret dX3_fillLayer_88 rfl (⟨rfl, rfl, rfl, rfl, h1, h2⟩)
        · skip
          refine g_iload dX3_fillLayer_9 rfl ?_
          refine g_bipush (v := nI 64) dX3_fillLayer_11 (by decide) ?_
          refine n_icmp_ge 86 dX3_fillLayer_13 (by decide) (by first | ((with_reducible apply cN_le) <;> omega) | ((with_reducible apply cI_len) <;> omega) | ((with_reducible apply cI_nle) <;> omega) | (with_reducible exact cI_le)) (fun c13 => ?_) (fun c13 => by exfalso; first | omega | exact absurd trivial c13 | exact c13 | (simp at c13))
          refine g_iload dX3_fillLayer_86 rfl ?_
          exact g_iret dX3_fillLayer_88 rfl (⟨rfl, rfl, rfl, rfl, h1, h2⟩)
  have e0 : mk (rst ly 0) = mk ly := rst_0
  have go := lp 64 0 0 I (by omega) (by omega) (by omega) h7 (fun _ _ => rfl)
  rw [e0] at go
  refine pvMet.of _ (by decide) rfl (Nat.le_of_ble_eq_true rfl) ?_
  refine g_iload_n dX3_fillLayer_0 rfl ?_
  refine g_istore dX3_fillLayer_1 (by decide) rfl ?_
  refine g_lload_n dX3_fillLayer_3 rfl ?_
  refine g_lstore dX3_fillLayer_4 (by decide) rfl ?_
  refine g_iconst (v := nI 0) dX3_fillLayer_6 (by decide) ?_
  refine g_istore dX3_fillLayer_7 (by decide) rfl ?_
  exact g_drop _ (by repeat (first | exact trivial | refine ⟨Or.inr ⟨_, rfl⟩, ?_⟩ | refine ⟨Or.inl rfl, ?_⟩)) go
end FIL
