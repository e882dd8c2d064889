/-! class: cooling, burning down -/
section COO
variable {F : Nat} {I : pvI} {J : pvJ} {P : pvP}
theorem k_cool {Z : pvZT} {a2 : Int64} {f wm : Nat → Bool} {h1 : Nat → Nat} (hP : pvOkP P) (hA : fAd F) (v2 : ∀ c, c < 64 → I (F + 2) c = nI (h1 c)) (hht : ∀ c, h1 c ≤ 2000)
    (kk : pvG mX1_coolDown (pvR 2 0 0) Z 110 [.ref F, .long a2, .retAddr 0, .retAddr 0, .retAddr 0, .retAddr 0, .retAddr 0, .retAddr 0, .retAddr 0] [] 0 0 224 (pvs I (F + 2) (fun c => if c < 64 ∧ f c = true then nI (h1 c - 1) else I (F + 2) c)) (pvsJ J F (vp_updL (J F) 9 (mk (fun c => wm c && !(f c && decide (h1 c - 1 = 0)))))) P) : ∀ q p i, 64 - p ≤ q → i ≤ p → p ≤ 64 → pvG mX1_coolDown (pvR 2 0 0) Z 28 [.ref F, .long a2, .retAddr 0, .long (mk (rst f p)), .retAddr 0, .int (nI i), .retAddr 0, .retAddr 0, .retAddr 0] [] 0 0 224 (pvs I (F + 2) (fun c => if c < p ∧ f c = true then nI (h1 c - 1) else I (F + 2) c)) (pvsJ J F (vp_updL (J F) 9 (mk (fun c => wm c && !(decide (c < p) && (f c && decide (h1 c - 1 = 0))))))) P := by
  obtain ⟨⟨s0, s1, s2, s3, s4, s5⟩, h90, h138⟩ := hA.sh
  obtain ⟨p10, p11, p12, p13, p14⟩ := hA.pp hP
  have ex : ∀ p i, i ≤ p → p ≤ 64 → (∀ c, p ≤ c → c < 64 → f c = false) → pvG mX1_coolDown (pvR 2 0 0) Z 28 [.ref F, .long a2, .retAddr 0, .long (mk (rst f p)), .retAddr 0, .int (nI i), .retAddr 0, .retAddr 0, .retAddr 0] [] 0 0 224 (pvs I (F + 2) (fun c => if c < p ∧ f c = true then nI (h1 c - 1) else I (F + 2) c)) (pvsJ J F (vp_updL (J F) 9 (mk (fun c => wm c && !(decide (c < p) && (f c && decide (h1 c - 1 = 0))))))) P := by
    intro p i h2 h3 h0
    have e : (fun c => if c < p ∧ f c = true then nI (h1 c - 1) else I (F + 2) c) = (fun c => if c < 64 ∧ f c = true then nI (h1 c - 1) else I (F + 2) c) := by
      funext c
      by_cases z2 : f c = true
      · by_cases z3 : c < p
        · rw [if_pos (show c < p ∧ f c = true from ⟨z3, z2⟩), if_pos (show c < 64 ∧ f c = true from ⟨by omega, z2⟩)]
        · by_cases z4 : c < 64
          · have := h0 c (by omega) z4; rw [z2] at this; cases this
          · rw [if_neg (by omega), if_neg (by omega)]
      · rw [if_neg (fun y => z2 y.2), if_neg (fun y => z2 y.2)]
    have e2 : mk (fun c => wm c && !(decide (c < p) && (f c && decide (h1 c - 1 = 0)))) = mk (fun c => wm c && !(f c && decide (h1 c - 1 = 0))) := mk_cong (fun c hc => by
      by_cases z3 : c < p
      · simp [z3]
      · rw [h0 c (by omega) hc]; simp)
    rw [e, e2]
    have hz : mk (rst f p) = 0 := rst_zero h0
    by_cases c76 : i < 64
    · skip
      refine g_iload dX1_coolDown_28 rfl ?_
      refine g_bipush (v := nI 64) dX1_coolDown_30 (by decide) ?_
      refine n_icmp_ge 110 dX1_coolDown_32 (by decide) (by first | ((with_reducible apply cN_le) <;> omega) | ((with_reducible apply cI_len) <;> omega) | ((with_reducible apply cI_nle) <;> omega) | (with_reducible exact cI_le)) (fun c32 => by exfalso; first | omega | exact absurd trivial c32 | exact c32 | (simp at c32)) (fun c32 => ?_)
      refine g_lload_n dX1_coolDown_35 rfl ?_
      refine g_lconst (v := 0) dX1_coolDown_36 (by decide) ?_
      refine g_lcmp dX1_coolDown_37 ?_
      refine n_if_eq 110 dX1_coolDown_38 (by decide) (lg_cmp_eq _ _) (fun c38 => ?_) (fun c38 => by exfalso; exact c38 hz)
      exact g_drop _ (by repeat (first | exact trivial | refine ⟨Or.inr ⟨_, rfl⟩, ?_⟩ | refine ⟨Or.inl rfl, ?_⟩)) kk
    · skip
      refine g_iload dX1_coolDown_28 rfl ?_
      refine g_bipush (v := nI 64) dX1_coolDown_30 (by decide) ?_
      refine n_icmp_ge 110 dX1_coolDown_32 (by decide) (by first | ((with_reducible apply cN_le) <;> omega) | ((with_reducible apply cI_len) <;> omega) | ((with_reducible apply cI_nle) <;> omega) | (with_reducible exact cI_le)) (fun c32 => ?_) (fun c32 => by exfalso; first | omega | exact absurd trivial c32 | exact c32 | (simp at c32))
      exact g_drop _ (by repeat (first | exact trivial | refine ⟨Or.inr ⟨_, rfl⟩, ?_⟩ | refine ⟨Or.inl rfl, ?_⟩)) kk
  intro q
  induction q with
  | zero =>
    intro p i h1 h2 h3
    exact ex p i h2 h3 (fun c z1 z2 => by omega)
  | succ q ih =>
    intro p i hq h2 h3
    rcases rst_or (f := f) (64 - p) p (by omega) with ⟨l, l1, l2, l3, l4⟩ | h0
    · have nx := ih (l + 1) (i + 1) (by omega) (by omega) (by omega)
      have e : (fun c => if c < l + 1 ∧ f c = true then nI (h1 c - 1) else I (F + 2) c) = upd (fun c => if c < p ∧ f c = true then nI (h1 c - 1) else I (F + 2) c) l (nI (h1 l - 1)) := by
        funext c
        by_cases z : c = l
        · subst z; simp [upd, l3]
        · simp only [upd, if_neg z]
          by_cases z2 : f c = true
          · by_cases z3 : c < p
            · rw [if_pos (show c < l + 1 ∧ f c = true from ⟨by omega, z2⟩), if_pos (show c < p ∧ f c = true from ⟨z3, z2⟩)]
            · by_cases z4 : c < l
              · have := l4 c (by omega) z4; rw [z2] at this; cases this
              · rw [if_neg (by omega), if_neg (by omega)]
          · rw [if_neg (fun y => z2 y.2), if_neg (fun y => z2 y.2)]
      generalize hI1 : pvs I (F + 2) (fun c => if c < p ∧ f c = true then nI (h1 c - 1) else I (F + 2) c) = I1
      generalize hJ1 : pvsJ J F (vp_updL (J F) 9 (mk (fun c => wm c && !(decide (c < p) && (f c && decide (h1 c - 1 = 0)))))) = J1
      have hm : pvs I (F + 2) (fun c => if c < l + 1 ∧ f c = true then nI (h1 c - 1) else I (F + 2) c) = pvs I1 (F + 2) (upd (I1 (F + 2)) l (nI (h1 l - 1))) := by
        rw [e, ← hI1, pvs_eq, pvs_pvs]
      rw [hm] at nx
      have lo := t_lowest (nx := 224) (f := rst f p) (I := I1) (J := J1) (P := P) l2 (rst_hit l1 l3) (rst_bel l4)
      have hhl := hht l
      have r2 : I1 (F + 2) l = nI (h1 l) := by rw [← hI1, pvs_eq]; rw [if_neg (by omega)]; exact v2 l l2
      have r9 : J1 F 9 = mk (fun c => wm c && !(decide (c < p) && (f c && decide (h1 c - 1 = 0)))) := by rw [← hJ1, pvsJ_eq]; simp [vp_updL]
      have cN : ∀ c, p ≤ c → c < l → (f c && decide (h1 c - 1 = 0)) = false := fun c z1 z2 => by rw [l4 c z1 z2, Bool.false_and]
      by_cases hcg : h1 l - 1 = 0
      · have eg : mk (fun c => wm c && !(decide (c < p) && (f c && decide (h1 c - 1 = 0)))) &&& mk (fun c => !decide (c = l)) = mk (fun c => wm c && !(decide (c < l + 1) && (f c && decide (h1 c - 1 = 0)))) := by
          rw [mk_and]
          refine mk_cong (fun c hc => ?_)
          by_cases z : c = l
          · subst z; simp [hcg, l3]
          · by_cases z3 : c < p
            · simp [z, z3, show c < l + 1 by omega]
            · by_cases z4 : c < l
              · rw [cN c (by omega) z4]; simp [z]
              · simp [z, z3, show ¬ c < l + 1 by omega]
        have hmJ : pvsJ J F (vp_updL (J F) 9 (mk (fun c => wm c && !(decide (c < l + 1) && (f c && decide (h1 c - 1 = 0)))))) = pvsJ J1 F (vp_updL (J1 F) 9 (mk (fun c => wm c && !(decide (c < l + 1) && (f c && decide (h1 c - 1 = 0)))))) := by
          rw [← hJ1, pvsJ_eq, pvsJ_pvsJ]
          congr 1
          funext k
          by_cases z : k = 9 <;> simp [vp_updL, z]
        rw [hmJ] at nx
        refine g_iload dX1_coolDown_28 rfl ?_
        refine g_bipush (v := nI 64) dX1_coolDown_30 (by decide) ?_
        refine n_icmp_ge 110 dX1_coolDown_32 (by decide) (by first | ((with_reducible apply cN_le) <;> omega) | ((with_reducible apply cI_len) <;> omega) | ((with_reducible apply cI_nle) <;> omega) | (with_reducible exact cI_le)) (fun c32 => by exfalso; first | omega | exact absurd trivial c32 | exact c32 | (simp at c32)) (fun c32 => ?_)
        refine g_lload_n dX1_coolDown_35 rfl ?_
        refine g_lconst (v := 0) dX1_coolDown_36 (by decide) ?_
        refine g_lcmp dX1_coolDown_37 ?_
        refine n_if_eq 110 dX1_coolDown_38 (by decide) (lg_cmp_eq _ _) (fun c38 => by exfalso; exact rst_ne l1 l2 l3 c38) (fun c38 => ?_)
        refine g_lload_n dX1_coolDown_41 rfl ?_
        refine g_lload_n dX1_coolDown_42 rfl ?_
        refine n_lneg dX1_coolDown_43 (rfl) ?_
        refine n_land dX1_coolDown_44 (rst_one l1 l2 l3 l4) ?_
        refine g_lstore dX1_coolDown_45 (by decide) rfl ?_
        refine g_lload_n dX1_coolDown_47 rfl ?_
        refine p_callNS (lo) okX11_lowest lkX1_115 rfl dX1_coolDown_48 rfl (Nat.le_of_ble_eq_true rfl) (⟨by decide, by decide, by decide, by decide⟩) ?_
        refine g_istore dX1_coolDown_51 (by decide) rfl ?_
        refine g_lload_n dX1_coolDown_53 rfl ?_
        refine g_lload_n dX1_coolDown_54 rfl ?_
        refine g_lconst (v := 1) dX1_coolDown_55 (by decide) ?_
        refine n_lsub dX1_coolDown_56 (rfl) ?_
        refine n_land dX1_coolDown_57 (rst_next l1 l2 l3 l4) ?_
        refine g_lstore_n dX1_coolDown_58 (by decide) rfl ?_
        refine g_aload_n dX1_coolDown_59 rfl ?_
        refine g_getP dX1_coolDown_60 fdX1_22 rfl (by first | exact s0 | exact s2) (by omega) (by omega) (by decide) rfl (p11) ?_
        refine g_iload dX1_coolDown_63 rfl ?_
        refine g_iconst (v := nI 0) dX1_coolDown_65 (by decide) ?_
        refine g_aload_n dX1_coolDown_66 rfl ?_
        refine g_getP dX1_coolDown_67 fdX1_22 rfl (by first | exact s0 | exact s2) (by omega) (by omega) (by decide) rfl (p11) ?_
        refine g_iload dX1_coolDown_70 rfl ?_
        refine n_iald dX1_coolDown_72 (by first | exact s0 | exact s2) (by omega) (by omega) (by decide) (rfl) (by omega) (by repeat (first | exact r2 | exact r9 | (apply rd_s; done) | apply rd_n (by omega) | apply rp_s | apply rp_n (by omega) | (apply rdL_s; done) | apply rdL_n (by omega) | apply rpJ_s | apply rpJ_n (by omega) | rfl)) ?_
        refine g_iconst (v := nI 1) dX1_coolDown_73 (by decide) ?_
        refine n_isub dX1_coolDown_74 (rfl) ?_
        refine g_mmax dX1_coolDown_75 lkX1_121 (by decide) (Nat.le_of_ble_eq_true rfl) (by decide) (by decide) (mm_sub (by omega) (by decide)) ?_
        refine n_iast dX1_coolDown_78 (by first | exact s0 | exact s2) (by omega) (by omega) (by omega) (by decide) (rfl) (by omega) (by repeat (first | exact pvu_s | exact pvuJ_s | apply pvu_in (by omega) | apply pvuJ_in (by omega) | exact pvu_pvs | exact pvuJ_pvs)) ?_
        refine g_aload_n dX1_coolDown_79 rfl ?_
        refine g_getP dX1_coolDown_80 fdX1_22 rfl (by first | exact s0 | exact s2) (by omega) (by omega) (by decide) rfl (p11) ?_
        refine g_iload dX1_coolDown_83 rfl ?_
        refine n_iald dX1_coolDown_85 (by first | exact s0 | exact s2) (by omega) (by omega) (by decide) (rfl) (by omega) (by repeat (first | exact r2 | exact r9 | (apply rd_s; done) | apply rd_n (by omega) | apply rp_s | apply rp_n (by omega) | (apply rdL_s; done) | apply rdL_n (by omega) | apply rpJ_s | apply rpJ_n (by omega) | rfl)) ?_
        refine n_if_ne 104 dX1_coolDown_86 (by decide) (by first | (with_reducible exact cB _) | ((with_reducible apply cN_eq0) <;> omega) | exact Iff.rfl) (fun c86 => by exfalso; first | omega | exact absurd trivial c86 | exact c86 | (simp at c86)) (fun c86 => ?_)
        refine g_aload_n dX1_coolDown_89 rfl ?_
        refine g_dup dX1_coolDown_90 rfl ?_
        refine n_getJ dX1_coolDown_91 fdX1_64 rfl (by first | exact s0 | exact s2) (by omega) (by omega) (by decide) rfl (by repeat (first | exact r2 | exact r9 | (apply rd_s; done) | apply rd_n (by omega) | apply rp_s | apply rp_n (by omega) | (apply rdL_s; done) | apply rdL_n (by omega) | apply rpJ_s | apply rpJ_n (by omega) | rfl)) ?_
        refine g_lload dX1_coolDown_94 rfl ?_
        refine g_ldc2 (v := (-1 : Int64)) dX1_coolDown_96 kcX1_119 ?_
        refine n_lxor dX1_coolDown_99 (mk_not) ?_
        refine n_land dX1_coolDown_100 (eg) ?_
        refine n_putJ dX1_coolDown_101 fdX1_64 rfl (fun h => absurd h (by decide)) (by first | exact s0 | exact s2) (by omega) (by omega) (by decide) rfl (by repeat (first | exact pvu_s | exact pvuJ_s | apply pvu_in (by omega) | apply pvuJ_in (by omega) | exact pvu_pvs | exact pvuJ_pvs)) ?_
        refine g_iinc dX1_coolDown_104 rfl (by first | (with_reducible exact nI_1 _) | exact nI_1 _ | exact pk_m1 _ | rfl) (by decide) rfl ?_
        refine g_goto 28 dX1_coolDown_107 (by decide) ?_
        exact g_drop _ (by repeat (first | exact trivial | refine ⟨Or.inr ⟨_, rfl⟩, ?_⟩ | refine ⟨Or.inl rfl, ?_⟩)) nx
      · have eg : mk (fun c => wm c && !(decide (c < p) && (f c && decide (h1 c - 1 = 0)))) = mk (fun c => wm c && !(decide (c < l + 1) && (f c && decide (h1 c - 1 = 0)))) := by
          refine mk_cong (fun c hc => ?_)
          by_cases z : c = l
          · subst z; simp [hcg]
          · by_cases z3 : c < p
            · simp [z3, show c < l + 1 by omega]
            · by_cases z4 : c < l
              · rw [cN c (by omega) z4]; simp
              · simp [z3, show ¬ c < l + 1 by omega]
        rw [← eg, hJ1] at nx
        refine g_iload dX1_coolDown_28 rfl ?_
        refine g_bipush (v := nI 64) dX1_coolDown_30 (by decide) ?_
        refine n_icmp_ge 110 dX1_coolDown_32 (by decide) (by first | ((with_reducible apply cN_le) <;> omega) | ((with_reducible apply cI_len) <;> omega) | ((with_reducible apply cI_nle) <;> omega) | (with_reducible exact cI_le)) (fun c32 => by exfalso; first | omega | exact absurd trivial c32 | exact c32 | (simp at c32)) (fun c32 => ?_)
        refine g_lload_n dX1_coolDown_35 rfl ?_
        refine g_lconst (v := 0) dX1_coolDown_36 (by decide) ?_
        refine g_lcmp dX1_coolDown_37 ?_
        refine n_if_eq 110 dX1_coolDown_38 (by decide) (lg_cmp_eq _ _) (fun c38 => by exfalso; exact rst_ne l1 l2 l3 c38) (fun c38 => ?_)
        refine g_lload_n dX1_coolDown_41 rfl ?_
        refine g_lload_n dX1_coolDown_42 rfl ?_
        refine n_lneg dX1_coolDown_43 (rfl) ?_
        refine n_land dX1_coolDown_44 (rst_one l1 l2 l3 l4) ?_
        refine g_lstore dX1_coolDown_45 (by decide) rfl ?_
        refine g_lload_n dX1_coolDown_47 rfl ?_
        refine p_callNS (lo) okX11_lowest lkX1_115 rfl dX1_coolDown_48 rfl (Nat.le_of_ble_eq_true rfl) (⟨by decide, by decide, by decide, by decide⟩) ?_
        refine g_istore dX1_coolDown_51 (by decide) rfl ?_
        refine g_lload_n dX1_coolDown_53 rfl ?_
        refine g_lload_n dX1_coolDown_54 rfl ?_
        refine g_lconst (v := 1) dX1_coolDown_55 (by decide) ?_
        refine n_lsub dX1_coolDown_56 (rfl) ?_
        refine n_land dX1_coolDown_57 (rst_next l1 l2 l3 l4) ?_
        refine g_lstore_n dX1_coolDown_58 (by decide) rfl ?_
        refine g_aload_n dX1_coolDown_59 rfl ?_
        refine g_getP dX1_coolDown_60 fdX1_22 rfl (by first | exact s0 | exact s2) (by omega) (by omega) (by decide) rfl (p11) ?_
        refine g_iload dX1_coolDown_63 rfl ?_
        refine g_iconst (v := nI 0) dX1_coolDown_65 (by decide) ?_
        refine g_aload_n dX1_coolDown_66 rfl ?_
        refine g_getP dX1_coolDown_67 fdX1_22 rfl (by first | exact s0 | exact s2) (by omega) (by omega) (by decide) rfl (p11) ?_
        refine g_iload dX1_coolDown_70 rfl ?_
        refine n_iald dX1_coolDown_72 (by first | exact s0 | exact s2) (by omega) (by omega) (by decide) (rfl) (by omega) (by repeat (first | exact r2 | exact r9 | (apply rd_s; done) | apply rd_n (by omega) | apply rp_s | apply rp_n (by omega) | (apply rdL_s; done) | apply rdL_n (by omega) | apply rpJ_s | apply rpJ_n (by omega) | rfl)) ?_
        refine g_iconst (v := nI 1) dX1_coolDown_73 (by decide) ?_
        refine n_isub dX1_coolDown_74 (rfl) ?_
        refine g_mmax dX1_coolDown_75 lkX1_121 (by decide) (Nat.le_of_ble_eq_true rfl) (by decide) (by decide) (mm_sub (by omega) (by decide)) ?_
        refine n_iast dX1_coolDown_78 (by first | exact s0 | exact s2) (by omega) (by omega) (by omega) (by decide) (rfl) (by omega) (by repeat (first | exact pvu_s | exact pvuJ_s | apply pvu_in (by omega) | apply pvuJ_in (by omega) | exact pvu_pvs | exact pvuJ_pvs)) ?_
        refine g_aload_n dX1_coolDown_79 rfl ?_
        refine g_getP dX1_coolDown_80 fdX1_22 rfl (by first | exact s0 | exact s2) (by omega) (by omega) (by decide) rfl (p11) ?_
        refine g_iload dX1_coolDown_83 rfl ?_
        refine n_iald dX1_coolDown_85 (by first | exact s0 | exact s2) (by omega) (by omega) (by decide) (rfl) (by omega) (by repeat (first | exact r2 | exact r9 | (apply rd_s; done) | apply rd_n (by omega) | apply rp_s | apply rp_n (by omega) | (apply rdL_s; done) | apply rdL_n (by omega) | apply rpJ_s | apply rpJ_n (by omega) | rfl)) ?_
        refine n_if_ne 104 dX1_coolDown_86 (by decide) (by first | (with_reducible exact cB _) | ((with_reducible apply cN_eq0) <;> omega) | exact Iff.rfl) (fun c86 => ?_) (fun c86 => by exfalso; first | omega | exact absurd trivial c86 | exact c86 | (simp at c86))
        refine g_iinc dX1_coolDown_104 rfl (by first | (with_reducible exact nI_1 _) | exact nI_1 _ | exact pk_m1 _ | rfl) (by decide) rfl ?_
        refine g_goto 28 dX1_coolDown_107 (by decide) ?_
        exact g_drop _ (by repeat (first | exact trivial | refine ⟨Or.inr ⟨_, rfl⟩, ?_⟩ | refine ⟨Or.inl rfl, ?_⟩)) nx
    · exact ex p i h2 h3 h0
/-- the cells that may cool -/
def coF (wm : Nat → Bool) (b : fS) (au : Nat → Bool) (c : Nat) : Bool := ((wm c && mU b c) && !mB b c) && !au c
theorem f_coolDown {wm au : Nat → Bool} {h1 : Nat → Nat} {b : fS} (hP : pvOkP P) (hA : fAd F) (v6 : J F 6 = mk (mB b)) (v8 : J F 8 = mk (mU b)) (v9 : J F 9 = mk wm) (v2 : ∀ c, c < 64 → I (F + 2) c = nI (h1 c)) (hht : ∀ c, h1 c ≤ 2000) : pvMet mX1_coolDown 2 0 0 [.ref F, .long (mk au)] 224 I J P (pvq P (fun v I' J' => v = none ∧ I' = pvs I (F + 2) (fun c => if c < 64 ∧ coF wm b au c = true then nI (h1 c - 1) else I (F + 2) c) ∧ J' = pvsJ J F (vp_updL (J F) 9 (mk (fun c => wm c && !(coF wm b au c && decide (h1 c - 1 = 0))))))) := by
  obtain ⟨⟨s0, s1, s2, s3, s4, s5⟩, h90, h138⟩ := hA.sh
  have lp := k_cool (J := J) (a2 := mk au) (f := coF wm b au) (wm := wm) (Z := pvZ (pvq P (fun v I' J' => v = none ∧ I' = pvs I (F + 2) (fun c => if c < 64 ∧ coF wm b au c = true then nI (h1 c - 1) else I (F + 2) c) ∧ J' = pvsJ J F (vp_updL (J F) 9 (mk (fun c => wm c && !(coF wm b au c && decide (h1 c - 1 = 0))))))) 0 0) hP hA v2 hht ?_ 64 0 0 (by omega) (by omega) (by omega)
  · rw [show (fun c => if c < 0 ∧ coF wm b au c = true then nI (h1 c - 1) else I (F + 2) c) = I (F + 2) from by funext c; rw [if_neg (by omega)], pvs_self, show mk (fun c => wm c && !(decide (c < 0) && (coF wm b au c && decide (h1 c - 1 = 0)))) = mk wm from mk_cong (fun c _ => by simp), updL_self v9, pvsJ_self] at lp
    have e4 : mk (fun c => (wm c && mU b c) && !mB b c) &&& mk (fun c => !au c) = mk (rst (coF wm b au) 0) := mk_and.trans rst_0.symm
    refine pvMet.of _ (by decide) rfl (Nat.le_of_ble_eq_true rfl) ?_
    refine g_aload_n dX1_coolDown_0 rfl ?_
    refine n_getJ dX1_coolDown_1 fdX1_64 rfl (by first | exact s0) (by omega) (by omega) (by decide) rfl (by repeat (first | exact v6 | exact v8 | exact v9 | (apply rd_s; done) | apply rd_n (by omega) | apply rp_s | apply rp_n (by omega) | (apply rdL_s; done) | apply rdL_n (by omega) | apply rpJ_s | apply rpJ_n (by omega) | rfl)) ?_
    refine g_aload_n dX1_coolDown_4 rfl ?_
    refine n_getJ dX1_coolDown_5 fdX1_61 rfl (by first | exact s0) (by omega) (by omega) (by decide) rfl (by repeat (first | exact v6 | exact v8 | exact v9 | (apply rd_s; done) | apply rd_n (by omega) | apply rp_s | apply rp_n (by omega) | (apply rdL_s; done) | apply rdL_n (by omega) | apply rpJ_s | apply rpJ_n (by omega) | rfl)) ?_
    refine n_land dX1_coolDown_8 (mk_and) ?_
    refine g_aload_n dX1_coolDown_9 rfl ?_
    refine n_getJ dX1_coolDown_10 fdX1_54 rfl (by first | exact s0) (by omega) (by omega) (by decide) rfl (by repeat (first | exact v6 | exact v8 | exact v9 | (apply rd_s; done) | apply rd_n (by omega) | apply rp_s | apply rp_n (by omega) | (apply rdL_s; done) | apply rdL_n (by omega) | apply rpJ_s | apply rpJ_n (by omega) | rfl)) ?_
    refine g_ldc2 (v := (-1 : Int64)) dX1_coolDown_13 kcX1_119 ?_
    refine n_lxor dX1_coolDown_16 (mk_not) ?_
    refine n_land dX1_coolDown_17 (mk_and) ?_
    refine g_lload_n dX1_coolDown_18 rfl ?_
    refine g_ldc2 (v := (-1 : Int64)) dX1_coolDown_19 kcX1_119 ?_
    refine n_lxor dX1_coolDown_22 (mk_not) ?_
    refine n_land dX1_coolDown_23 (e4) ?_
    refine g_lstore_n dX1_coolDown_24 (by decide) rfl ?_
    refine g_iconst (v := nI 0) dX1_coolDown_25 (by decide) ?_
    refine g_istore dX1_coolDown_26 (by decide) rfl ?_
    exact g_drop _ (by repeat (first | exact trivial | refine ⟨Or.inr ⟨_, rfl⟩, ?_⟩ | refine ⟨Or.inl rfl, ?_⟩)) lp
  · skip
    exact g_vret dX1_coolDown_110 rfl (⟨rfl, rfl, rfl, rfl, rfl⟩)
theorem k_burn {Z : pvZT} {rt : Nat} {au f : Nat → Bool} {tn : Nat → Nat} (hP : pvOkP P) (hA : fAd F) (hrt : rt ≤ 99) (v1 : ∀ c, c < 64 → I (F + 1) c = nI (tn c)) (htn : ∀ c, tn c ≤ 999)
    (kk : pvG mX1_burnDown (pvR 2 0 0) Z 112 [.ref F, .int (nI rt), .long (mk au), .retAddr 0, .retAddr 0, .retAddr 0, .long (mk (fun c => f c && decide (tn c ≤ if au c = true then rt else rt / 2))), .retAddr 0, .retAddr 0, .retAddr 0, .retAddr 0, .retAddr 0, .retAddr 0] [] 0 0 224 (pvs I (F + 1) (fun c => if c < 64 ∧ f c = true then nI (tn c - if au c = true then rt else rt / 2) else I (F + 1) c)) J P) : ∀ q p i, 64 - p ≤ q → i ≤ p → p ≤ 64 → pvG mX1_burnDown (pvR 2 0 0) Z 12 [.ref F, .int (nI rt), .long (mk au), .retAddr 0, .long (mk (rst f p)), .retAddr 0, .long (mk (fun c => decide (c < p) && (f c && decide (tn c ≤ if au c = true then rt else rt / 2)))), .retAddr 0, .int (nI i), .retAddr 0, .retAddr 0, .retAddr 0, .retAddr 0] [] 0 0 224 (pvs I (F + 1) (fun c => if c < p ∧ f c = true then nI (tn c - if au c = true then rt else rt / 2) else I (F + 1) c)) J P := by
  obtain ⟨⟨s0, s1, s2, s3, s4, s5⟩, h90, h138⟩ := hA.sh
  obtain ⟨p10, p11, p12, p13, p14⟩ := hA.pp hP
  have ex : ∀ p i, i ≤ p → p ≤ 64 → (∀ c, p ≤ c → c < 64 → f c = false) → pvG mX1_burnDown (pvR 2 0 0) Z 12 [.ref F, .int (nI rt), .long (mk au), .retAddr 0, .long (mk (rst f p)), .retAddr 0, .long (mk (fun c => decide (c < p) && (f c && decide (tn c ≤ if au c = true then rt else rt / 2)))), .retAddr 0, .int (nI i), .retAddr 0, .retAddr 0, .retAddr 0, .retAddr 0] [] 0 0 224 (pvs I (F + 1) (fun c => if c < p ∧ f c = true then nI (tn c - if au c = true then rt else rt / 2) else I (F + 1) c)) J P := by
    intro p i h2 h3 h0
    have e : (fun c => if c < p ∧ f c = true then nI (tn c - if au c = true then rt else rt / 2) else I (F + 1) c) = (fun c => if c < 64 ∧ f c = true then nI (tn c - if au c = true then rt else rt / 2) else I (F + 1) c) := by
      funext c
      by_cases z2 : f c = true
      · by_cases z3 : c < p
        · rw [if_pos (show c < p ∧ f c = true from ⟨z3, z2⟩), if_pos (show c < 64 ∧ f c = true from ⟨by omega, z2⟩)]
        · by_cases z4 : c < 64
          · have := h0 c (by omega) z4; rw [z2] at this; cases this
          · rw [if_neg (by omega), if_neg (by omega)]
      · rw [if_neg (fun y => z2 y.2), if_neg (fun y => z2 y.2)]
    have e2 : mk (fun c => decide (c < p) && (f c && decide (tn c ≤ if au c = true then rt else rt / 2))) = mk (fun c => f c && decide (tn c ≤ if au c = true then rt else rt / 2)) := mk_cong (fun c hc => by
      by_cases z3 : c < p
      · simp [z3]
      · rw [h0 c (by omega) hc]; simp)
    rw [e, e2]
    have hz : mk (rst f p) = 0 := rst_zero h0
    by_cases c76 : i < 64
    · skip
      refine g_iload dX1_burnDown_12 rfl ?_
      refine g_bipush (v := nI 64) dX1_burnDown_14 (by decide) ?_
      refine n_icmp_ge 112 dX1_burnDown_16 (by decide) (by first | ((with_reducible apply cN_le) <;> omega) | ((with_reducible apply cI_len) <;> omega) | ((with_reducible apply cI_nle) <;> omega) | (with_reducible exact cI_le)) (fun c16 => by exfalso; first | omega | exact absurd trivial c16 | exact c16 | (simp at c16)) (fun c16 => ?_)
      refine g_lload dX1_burnDown_19 rfl ?_
      refine g_lconst (v := 0) dX1_burnDown_21 (by decide) ?_
      refine g_lcmp dX1_burnDown_22 ?_
      refine n_if_eq 112 dX1_burnDown_23 (by decide) (lg_cmp_eq _ _) (fun c23 => ?_) (fun c23 => by exfalso; exact c23 hz)
      exact g_drop _ (by repeat (first | exact trivial | refine ⟨Or.inr ⟨_, rfl⟩, ?_⟩ | refine ⟨Or.inl rfl, ?_⟩)) kk
    · skip
      refine g_iload dX1_burnDown_12 rfl ?_
      refine g_bipush (v := nI 64) dX1_burnDown_14 (by decide) ?_
      refine n_icmp_ge 112 dX1_burnDown_16 (by decide) (by first | ((with_reducible apply cN_le) <;> omega) | ((with_reducible apply cI_len) <;> omega) | ((with_reducible apply cI_nle) <;> omega) | (with_reducible exact cI_le)) (fun c16 => ?_) (fun c16 => by exfalso; first | omega | exact absurd trivial c16 | exact c16 | (simp at c16))
      exact g_drop _ (by repeat (first | exact trivial | refine ⟨Or.inr ⟨_, rfl⟩, ?_⟩ | refine ⟨Or.inl rfl, ?_⟩)) kk
  intro q
  induction q with
  | zero =>
    intro p i h1 h2 h3
    exact ex p i h2 h3 (fun c z1 z2 => by omega)
  | succ q ih =>
    intro p i hq h2 h3
    rcases rst_or (f := f) (64 - p) p (by omega) with ⟨l, l1, l2, l3, l4⟩ | h0
    · have nx := ih (l + 1) (i + 1) (by omega) (by omega) (by omega)
      generalize hls : (if au l = true then rt else rt / 2) = ls
      have hls2 : ls ≤ 99 := by rw [← hls]; split <;> omega
      have e : (fun c => if c < l + 1 ∧ f c = true then nI (tn c - if au c = true then rt else rt / 2) else I (F + 1) c) = upd (fun c => if c < p ∧ f c = true then nI (tn c - if au c = true then rt else rt / 2) else I (F + 1) c) l (nI (tn l - ls)) := by
        funext c
        by_cases z : c = l
        · subst z; simp [upd, l3, hls]
        · simp only [upd, if_neg z]
          by_cases z2 : f c = true
          · by_cases z3 : c < p
            · rw [if_pos (show c < l + 1 ∧ f c = true from ⟨by omega, z2⟩), if_pos (show c < p ∧ f c = true from ⟨z3, z2⟩)]
            · by_cases z4 : c < l
              · have := l4 c (by omega) z4; rw [z2] at this; cases this
              · rw [if_neg (by omega), if_neg (by omega)]
          · rw [if_neg (fun y => z2 y.2), if_neg (fun y => z2 y.2)]
      generalize hI1 : pvs I (F + 1) (fun c => if c < p ∧ f c = true then nI (tn c - if au c = true then rt else rt / 2) else I (F + 1) c) = I1
      have hm : pvs I (F + 1) (fun c => if c < l + 1 ∧ f c = true then nI (tn c - if au c = true then rt else rt / 2) else I (F + 1) c) = pvs I1 (F + 1) (upd (I1 (F + 1)) l (nI (tn l - ls))) := by
        rw [e, ← hI1, pvs_eq, pvs_pvs]
      rw [hm] at nx
      have lo := t_lowest (nx := 224) (f := rst f p) (I := I1) (J := J) (P := P) l2 (rst_hit l1 l3) (rst_bel l4)
      have htl := htn l
      have r1 : I1 (F + 1) l = nI (tn l) := by rw [← hI1, pvs_eq]; rw [if_neg (by omega)]; exact v1 l l2
      have cN : ∀ c, p ≤ c → c < l → (f c && decide (tn c ≤ if au c = true then rt else rt / 2)) = false := fun c z1 z2 => by rw [l4 c z1 z2, Bool.false_and]
      have cL : (f l && decide (tn l ≤ if au l = true then rt else rt / 2)) = decide (tn l ≤ ls) := by rw [l3, Bool.true_and, hls]
      -- from the loss on
      have f66 : pvG mX1_burnDown (pvR 2 0 0) Z 66 [.ref F, .int (nI rt), .long (mk au), .retAddr 0, .long (mk (rst f (l + 1))), .retAddr 0, .long (mk (fun c => decide (c < p) && (f c && decide (tn c ≤ if au c = true then rt else rt / 2)))), .retAddr 0, .int (nI i), .long (mk (fun c => decide (c = l))), .retAddr 0, .int (nI l), .retAddr 0] [.int (nI ls)] 0 0 224 I1 J P := by
        by_cases hcg : tn l ≤ ls
        · have eg : mk (fun c => decide (c < p) && (f c && decide (tn c ≤ if au c = true then rt else rt / 2))) ||| mk (fun c => decide (c = l)) = mk (fun c => decide (c < l + 1) && (f c && decide (tn c ≤ if au c = true then rt else rt / 2))) := by
            rw [mk_or]
            refine mk_cong (fun c hc => ?_)
            by_cases z : c = l
            · subst z; rw [cL]; simp [hcg]
            · by_cases z3 : c < p
              · simp [z, z3, show c < l + 1 by omega]
              · by_cases z4 : c < l
                · rw [cN c (by omega) z4]; simp [z]
                · simp [z, z3, show ¬ c < l + 1 by omega]
          refine g_istore dX1_burnDown_66 (by decide) rfl ?_
          refine g_aload_n dX1_burnDown_68 rfl ?_
          refine g_getP dX1_burnDown_69 fdX1_18 rfl (by first | exact s0 | exact s1) (by omega) (by omega) (by decide) rfl (p10) ?_
          refine g_iload dX1_burnDown_72 rfl ?_
          refine g_iconst (v := nI 0) dX1_burnDown_74 (by decide) ?_
          refine g_aload_n dX1_burnDown_75 rfl ?_
          refine g_getP dX1_burnDown_76 fdX1_18 rfl (by first | exact s0 | exact s1) (by omega) (by omega) (by decide) rfl (p10) ?_
          refine g_iload dX1_burnDown_79 rfl ?_
          refine n_iald dX1_burnDown_81 (by first | exact s0 | exact s1) (by omega) (by omega) (by decide) (rfl) (by omega) (by repeat (first | exact r1 | (apply rd_s; done) | apply rd_n (by omega) | apply rp_s | apply rp_n (by omega) | (apply rdL_s; done) | apply rdL_n (by omega) | apply rpJ_s | apply rpJ_n (by omega) | rfl)) ?_
          refine g_iload dX1_burnDown_82 rfl ?_
          refine n_isub dX1_burnDown_84 (rfl) ?_
          refine g_mmax dX1_burnDown_85 lkX1_121 (by decide) (Nat.le_of_ble_eq_true rfl) (by decide) (by decide) (mm_sub (by omega) (by omega)) ?_
          refine n_iast dX1_burnDown_88 (by first | exact s0 | exact s1) (by omega) (by omega) (by omega) (by decide) (rfl) (by omega) (by repeat (first | exact pvu_s | exact pvuJ_s | apply pvu_in (by omega) | apply pvuJ_in (by omega) | exact pvu_pvs | exact pvuJ_pvs)) ?_
          refine g_aload_n dX1_burnDown_89 rfl ?_
          refine g_getP dX1_burnDown_90 fdX1_18 rfl (by first | exact s0 | exact s1) (by omega) (by omega) (by decide) rfl (p10) ?_
          refine g_iload dX1_burnDown_93 rfl ?_
          refine n_iald dX1_burnDown_95 (by first | exact s0 | exact s1) (by omega) (by omega) (by decide) (rfl) (by omega) (by repeat (first | exact r1 | (apply rd_s; done) | apply rd_n (by omega) | apply rp_s | apply rp_n (by omega) | (apply rdL_s; done) | apply rdL_n (by omega) | apply rpJ_s | apply rpJ_n (by omega) | rfl)) ?_
          refine n_if_ne 106 dX1_burnDown_96 (by decide) (by first | (with_reducible exact cB _) | ((with_reducible apply cN_eq0) <;> omega) | exact Iff.rfl) (fun c96 => by exfalso; first | omega | exact absurd trivial c96 | exact c96 | (simp at c96)) (fun c96 => ?_)
          refine g_lload dX1_burnDown_99 rfl ?_
          refine g_lload dX1_burnDown_101 rfl ?_
          refine n_lor dX1_burnDown_103 (eg) ?_
          refine g_lstore dX1_burnDown_104 (by decide) rfl ?_
          refine g_iinc dX1_burnDown_106 rfl (by first | (with_reducible exact nI_1 _) | exact nI_1 _ | exact pk_m1 _ | rfl) (by decide) rfl ?_
          refine g_goto 12 dX1_burnDown_109 (by decide) ?_
          exact g_drop _ (by repeat (first | exact trivial | refine ⟨Or.inr ⟨_, rfl⟩, ?_⟩ | refine ⟨Or.inl rfl, ?_⟩)) nx
        · have eg : mk (fun c => decide (c < p) && (f c && decide (tn c ≤ if au c = true then rt else rt / 2))) = mk (fun c => decide (c < l + 1) && (f c && decide (tn c ≤ if au c = true then rt else rt / 2))) := by
            refine mk_cong (fun c hc => ?_)
            by_cases z : c = l
            · subst z; rw [cL]; simp [hcg]
            · by_cases z3 : c < p
              · simp [z3, show c < l + 1 by omega]
              · by_cases z4 : c < l
                · rw [cN c (by omega) z4]; simp
                · simp [z3, show ¬ c < l + 1 by omega]
          rw [← eg] at nx
          refine g_istore dX1_burnDown_66 (by decide) rfl ?_
          refine g_aload_n dX1_burnDown_68 rfl ?_
          refine g_getP dX1_burnDown_69 fdX1_18 rfl (by first | exact s0 | exact s1) (by omega) (by omega) (by decide) rfl (p10) ?_
          refine g_iload dX1_burnDown_72 rfl ?_
          refine g_iconst (v := nI 0) dX1_burnDown_74 (by decide) ?_
          refine g_aload_n dX1_burnDown_75 rfl ?_
          refine g_getP dX1_burnDown_76 fdX1_18 rfl (by first | exact s0 | exact s1) (by omega) (by omega) (by decide) rfl (p10) ?_
          refine g_iload dX1_burnDown_79 rfl ?_
          refine n_iald dX1_burnDown_81 (by first | exact s0 | exact s1) (by omega) (by omega) (by decide) (rfl) (by omega) (by repeat (first | exact r1 | (apply rd_s; done) | apply rd_n (by omega) | apply rp_s | apply rp_n (by omega) | (apply rdL_s; done) | apply rdL_n (by omega) | apply rpJ_s | apply rpJ_n (by omega) | rfl)) ?_
          refine g_iload dX1_burnDown_82 rfl ?_
          refine n_isub dX1_burnDown_84 (rfl) ?_
          refine g_mmax dX1_burnDown_85 lkX1_121 (by decide) (Nat.le_of_ble_eq_true rfl) (by decide) (by decide) (mm_sub (by omega) (by omega)) ?_
          refine n_iast dX1_burnDown_88 (by first | exact s0 | exact s1) (by omega) (by omega) (by omega) (by decide) (rfl) (by omega) (by repeat (first | exact pvu_s | exact pvuJ_s | apply pvu_in (by omega) | apply pvuJ_in (by omega) | exact pvu_pvs | exact pvuJ_pvs)) ?_
          refine g_aload_n dX1_burnDown_89 rfl ?_
          refine g_getP dX1_burnDown_90 fdX1_18 rfl (by first | exact s0 | exact s1) (by omega) (by omega) (by decide) rfl (p10) ?_
          refine g_iload dX1_burnDown_93 rfl ?_
          refine n_iald dX1_burnDown_95 (by first | exact s0 | exact s1) (by omega) (by omega) (by decide) (rfl) (by omega) (by repeat (first | exact r1 | (apply rd_s; done) | apply rd_n (by omega) | apply rp_s | apply rp_n (by omega) | (apply rdL_s; done) | apply rdL_n (by omega) | apply rpJ_s | apply rpJ_n (by omega) | rfl)) ?_
          refine n_if_ne 106 dX1_burnDown_96 (by decide) (by first | (with_reducible exact cB _) | ((with_reducible apply cN_eq0) <;> omega) | exact Iff.rfl) (fun c96 => ?_) (fun c96 => by exfalso; first | omega | exact absurd trivial c96 | exact c96 | (simp at c96))
          refine g_iinc dX1_burnDown_106 rfl (by first | (with_reducible exact nI_1 _) | exact nI_1 _ | exact pk_m1 _ | rfl) (by decide) rfl ?_
          refine g_goto 12 dX1_burnDown_109 (by decide) ?_
          exact g_drop _ (by repeat (first | exact trivial | refine ⟨Or.inr ⟨_, rfl⟩, ?_⟩ | refine ⟨Or.inl rfl, ?_⟩)) nx
      have hz : mk (fun c => au c && decide (c = l)) = 0 ↔ au l = false := by
        rw [mk_eq0]
        constructor
        · intro z; have := z l l2; simpa using this
        · intro z c hc
          by_cases e : c = l
          · subst e; simp [z]
          · simp [e]
      by_cases hau : au l = true
      · rw [if_pos hau] at hls
        subst hls
        refine g_iload dX1_burnDown_12 rfl ?_
        refine g_bipush (v := nI 64) dX1_burnDown_14 (by decide) ?_
        refine n_icmp_ge 112 dX1_burnDown_16 (by decide) (by first | ((with_reducible apply cN_le) <;> omega) | ((with_reducible apply cI_len) <;> omega) | ((with_reducible apply cI_nle) <;> omega) | (with_reducible exact cI_le)) (fun c16 => by exfalso; first | omega | exact absurd trivial c16 | exact c16 | (simp at c16)) (fun c16 => ?_)
        refine g_lload dX1_burnDown_19 rfl ?_
        refine g_lconst (v := 0) dX1_burnDown_21 (by decide) ?_
        refine g_lcmp dX1_burnDown_22 ?_
        refine n_if_eq 112 dX1_burnDown_23 (by decide) (lg_cmp_eq _ _) (fun c23 => by exfalso; exact rst_ne l1 l2 l3 c23) (fun c23 => ?_)
        refine g_lload dX1_burnDown_26 rfl ?_
        refine g_lload dX1_burnDown_28 rfl ?_
        refine n_lneg dX1_burnDown_30 (rfl) ?_
        refine n_land dX1_burnDown_31 (rst_one l1 l2 l3 l4) ?_
        refine g_lstore dX1_burnDown_32 (by decide) rfl ?_
        refine g_lload dX1_burnDown_34 rfl ?_
        refine p_callNS (lo) okX11_lowest lkX1_115 rfl dX1_burnDown_36 rfl (Nat.le_of_ble_eq_true rfl) (⟨by decide, by decide, by decide, by decide⟩) ?_
        refine g_istore dX1_burnDown_39 (by decide) rfl ?_
        refine g_lload dX1_burnDown_41 rfl ?_
        refine g_lload dX1_burnDown_43 rfl ?_
        refine g_lconst (v := 1) dX1_burnDown_45 (by decide) ?_
        refine n_lsub dX1_burnDown_46 (rfl) ?_
        refine n_land dX1_burnDown_47 (rst_next l1 l2 l3 l4) ?_
        refine g_lstore dX1_burnDown_48 (by decide) rfl ?_
        refine g_lload_n dX1_burnDown_50 rfl ?_
        refine g_lload dX1_burnDown_51 rfl ?_
        refine n_land dX1_burnDown_53 (mk_and) ?_
        refine g_lconst (v := 0) dX1_burnDown_54 (by decide) ?_
        refine g_lcmp dX1_burnDown_55 ?_
        refine n_if_eq 63 dX1_burnDown_56 (by decide) ((lg_cmp_eq _ _).trans hz) (fun c56 => by exfalso; (rw [hau] at c56; cases c56)) (fun c56 => ?_)
        refine g_iload_n dX1_burnDown_59 rfl ?_
        refine g_goto 66 dX1_burnDown_60 (by decide) ?_
        exact g_drop _ (by repeat (first | exact trivial | refine ⟨Or.inr ⟨_, rfl⟩, ?_⟩ | refine ⟨Or.inl rfl, ?_⟩)) f66
      · rw [if_neg hau] at hls
        subst hls
        have hau' : au l = false := by simpa using hau
        refine g_iload dX1_burnDown_12 rfl ?_
        refine g_bipush (v := nI 64) dX1_burnDown_14 (by decide) ?_
        refine n_icmp_ge 112 dX1_burnDown_16 (by decide) (by first | ((with_reducible apply cN_le) <;> omega) | ((with_reducible apply cI_len) <;> omega) | ((with_reducible apply cI_nle) <;> omega) | (with_reducible exact cI_le)) (fun c16 => by exfalso; first | omega | exact absurd trivial c16 | exact c16 | (simp at c16)) (fun c16 => ?_)
        refine g_lload dX1_burnDown_19 rfl ?_
        refine g_lconst (v := 0) dX1_burnDown_21 (by decide) ?_
        refine g_lcmp dX1_burnDown_22 ?_
        refine n_if_eq 112 dX1_burnDown_23 (by decide) (lg_cmp_eq _ _) (fun c23 => by exfalso; exact rst_ne l1 l2 l3 c23) (fun c23 => ?_)
        refine g_lload dX1_burnDown_26 rfl ?_
        refine g_lload dX1_burnDown_28 rfl ?_
        refine n_lneg dX1_burnDown_30 (rfl) ?_
        refine n_land dX1_burnDown_31 (rst_one l1 l2 l3 l4) ?_
        refine g_lstore dX1_burnDown_32 (by decide) rfl ?_
        refine g_lload dX1_burnDown_34 rfl ?_
        refine p_callNS (lo) okX11_lowest lkX1_115 rfl dX1_burnDown_36 rfl (Nat.le_of_ble_eq_true rfl) (⟨by decide, by decide, by decide, by decide⟩) ?_
        refine g_istore dX1_burnDown_39 (by decide) rfl ?_
        refine g_lload dX1_burnDown_41 rfl ?_
        refine g_lload dX1_burnDown_43 rfl ?_
        refine g_lconst (v := 1) dX1_burnDown_45 (by decide) ?_
        refine n_lsub dX1_burnDown_46 (rfl) ?_
        refine n_land dX1_burnDown_47 (rst_next l1 l2 l3 l4) ?_
        refine g_lstore dX1_burnDown_48 (by decide) rfl ?_
        refine g_lload_n dX1_burnDown_50 rfl ?_
        refine g_lload dX1_burnDown_51 rfl ?_
        refine n_land dX1_burnDown_53 (mk_and) ?_
        refine g_lconst (v := 0) dX1_burnDown_54 (by decide) ?_
        refine g_lcmp dX1_burnDown_55 ?_
        refine n_if_eq 63 dX1_burnDown_56 (by decide) ((lg_cmp_eq _ _).trans hz) (fun c56 => ?_) (fun c56 => by exfalso; exact c56 hau')
        refine g_iload_n dX1_burnDown_63 rfl ?_
        refine g_iconst (v := nI 2) dX1_burnDown_64 (by decide) ?_
        refine n_idiv dX1_burnDown_65 (by first | decide | ((with_reducible apply nI_ne0) <;> omega)) (by first | ((with_reducible apply pk_div) <;> omega) | rfl) ?_
        exact g_drop _ (by repeat (first | exact trivial | refine ⟨Or.inr ⟨_, rfl⟩, ?_⟩ | refine ⟨Or.inl rfl, ?_⟩)) f66
    · exact ex p i h2 h3 h0
theorem f_burnDown {rt : Nat} {au f : Nat → Bool} {tn : Nat → Nat} (hP : pvOkP P) (hA : fAd F) (hrt : rt ≤ 99) (v6 : J F 6 = mk f) (v1 : ∀ c, c < 64 → I (F + 1) c = nI (tn c)) (htn : ∀ c, tn c ≤ 999) : pvMet mX1_burnDown 2 0 0 [.ref F, .int (nI rt), .long (mk au)] 224 I J P (pvq P (fun v I' J' => v = some (.long (mk (fun c => f c && decide (tn c ≤ if au c = true then rt else rt / 2)))) ∧ I' = pvs I (F + 1) (fun c => if c < 64 ∧ f c = true then nI (tn c - if au c = true then rt else rt / 2) else I (F + 1) c) ∧ J' = J)) := by
  obtain ⟨⟨s0, s1, s2, s3, s4, s5⟩, h90, h138⟩ := hA.sh
  have lp := k_burn (J := J) (au := au) (f := f) (Z := pvZ (pvq P (fun v I' J' => v = some (.long (mk (fun c => f c && decide (tn c ≤ if au c = true then rt else rt / 2)))) ∧ I' = pvs I (F + 1) (fun c => if c < 64 ∧ f c = true then nI (tn c - if au c = true then rt else rt / 2) else I (F + 1) c) ∧ J' = J)) 0 0) hP hA hrt v1 htn ?_ 64 0 0 (by omega) (by omega) (by omega)
  · rw [show (fun c => if c < 0 ∧ f c = true then nI (tn c - if au c = true then rt else rt / 2) else I (F + 1) c) = I (F + 1) from by funext c; rw [if_neg (by omega)], pvs_self, show mk (fun c => decide (c < 0) && (f c && decide (tn c ≤ if au c = true then rt else rt / 2))) = 0 from mk_eq0.mpr (fun c _ => by simp), rst_0] at lp
    refine pvMet.of _ (by decide) rfl (Nat.le_of_ble_eq_true rfl) ?_
    refine g_aload_n dX1_burnDown_0 rfl ?_
    refine n_getJ dX1_burnDown_1 fdX1_54 rfl (by first | exact s0) (by omega) (by omega) (by decide) rfl (by repeat (first | exact v6 | (apply rd_s; done) | apply rd_n (by omega) | apply rp_s | apply rp_n (by omega) | (apply rdL_s; done) | apply rdL_n (by omega) | apply rpJ_s | apply rpJ_n (by omega) | rfl)) ?_
    refine g_lstore dX1_burnDown_4 (by decide) rfl ?_
    refine g_lconst (v := 0) dX1_burnDown_6 (by decide) ?_
    refine g_lstore dX1_burnDown_7 (by decide) rfl ?_
    refine g_iconst (v := nI 0) dX1_burnDown_9 (by decide) ?_
    refine g_istore dX1_burnDown_10 (by decide) rfl ?_
    exact g_drop _ (by repeat (first | exact trivial | refine ⟨Or.inr ⟨_, rfl⟩, ?_⟩ | refine ⟨Or.inl rfl, ?_⟩)) lp
  · skip
    refine g_lload dX1_burnDown_112 rfl ?_
    exact g_lret dX1_burnDown_114 rfl (⟨rfl, rfl, rfl, rfl, rfl⟩)
end COO
