/-! class: weeks: who takes an offer -/
section TKS
variable {n : Nat} {a : Nat → Int32} {I I' : pvI} {J : pvJ} {P : pvP}
/-- the numbers that decide on an offer -/
theorem tk_nums (hr : rTwn 3 a I) (hl : mLv n a) {p : Nat} (hp : p < cnt a 6) : ∃ hm kn ak hd pr pu, (p < 60 ∧ hm < 20 ∧ hm < cnt a 5 ∧ kn ≤ 9 ∧ ak ≤ 9999 ∧ hd ≤ 9 ∧ pr ≤ 9999 ∧ pu ≤ 999) ∧ I 33 p = nI hm ∧ I 34 p = nI kn ∧ I 35 p = nI ak ∧ I 36 p = nI hd ∧ I 31 hm = nI pr ∧ I 27 13 = nI pu ∧ cnt a (1200 + 5 * p) = hm ∧ a (1200 + 5 * p + 1) = nI kn ∧ cnt a (1200 + 5 * p + 2) = ak ∧ cnt a (1200 + 5 * p + 3) = hd ∧ cnt a (1080 + 5 * hm + 3) = pr ∧ cnt a 14 = pu ∧ I 38 kn = nI (sp_ct (sp_kgP a (nI kn)) (cnt a 6)) ∧ I 32 hm = a (1080 + 5 * hm + 4) ∧ I 37 p = a (1200 + 5 * p + 4) := by
  obtain ⟨x1, x2, x3, x4, x5, x6⟩ := hr
  obtain ⟨l1, l2, l3, l4⟩ := hl
  have n6 : cnt a 6 ≤ 60 := l4.le (by decide)
  have n5 : cnt a 5 ≤ 20 := l4.le (by decide)
  obtain ⟨⟨hm, m1, m2⟩, ⟨kn, k1, k2⟩, ⟨ak, a1, a2⟩, ⟨hd, d1, d2⟩, -⟩ := l1 p hp
  obtain ⟨-, -, -, ⟨pr, p1, p2⟩, -⟩ := l2 hm m1
  obtain ⟨pu, u1, u2⟩ := l4 14 (by decide)
  replace u1 : pu ≤ 999 := u1
  obtain ⟨y1, y2, y3, y4, y5⟩ := x4 p hp
  obtain ⟨z1, z2, z3, z4, z5⟩ := x2 hm m1
  exact ⟨hm, kn, ak, hd, pr, pu, ⟨by omega, by omega, m1, k1, a1, d1, p1, u1⟩, y1.trans m2, y2.trans k2, y3.trans a2, y4.trans d2, z4.trans p2, x6.trans u2, cnt_of m2 (by omega), k2, cnt_of a2 (by omega), cnt_of d2 (by omega), cnt_of p2 (by omega), cnt_of u2 (by omega), x5 kn (by omega), z5, y5⟩
theorem c_takes {p : Nat} (hP : pvOkP P) (hr : rTwn 3 a I) (hl : mLv n a) (hp : p < cnt a 6) : pvMet mX7_takes 0 0 0 [.ref 27, .int (nI p)] 224 I J P (pvpu (.int (if cnt a (1200 + 5 * p + 2) ≤ cnt a (1080 + 5 * cnt a (1200 + 5 * p) + 3) + 100 * cnt a (1200 + 5 * p + 3) + cnt a 14 * sp_ct (sp_kgP a (a (1200 + 5 * p + 1))) (cnt a 6) then 1 else 0)) 224 I J P) := by
  obtain ⟨hm, kn, ak, hd, pr, pu, ⟨b1, b2, b3, b4, b5, b6, b7, b8⟩, f1, f2, f3, f4, f5, f6, g1, g2, g3, g4, g5, g6, f7, -⟩ := tk_nums hr hl hp
  have n6 : cnt a 6 ≤ 60 := hl.2.2.2.le (by decide)
  have hct : sp_ct (sp_kgP a (nI kn)) (cnt a 6) ≤ 60 := Nat.le_trans (sp_ct_le _) n6
  rw [g1, g2, g3, g4, g5, g6]
  generalize sp_ct (sp_kgP a (nI kn)) (cnt a 6) = ct at *
  have hm1 : pu * ct ≤ 999 * 60 := Nat.mul_le_mul b8 hct
  have e2 : nI hd * nI 100 = nI (100 * hd) := by rw [pk_mul, Nat.mul_comm]
  have e3 : nI (pr + 100 * hd) + nI (pu * ct) = nI (pr + 100 * hd + pu * ct) := nI_add _ _
  by_cases c : ak ≤ pr + 100 * hd + pu * ct
  · rw [if_pos c]
    refine pvMet.of _ (by decide) rfl (Nat.le_of_ble_eq_true rfl) ?_
    refine g_aload_n dX7_takes_0 rfl ?_
    refine n_getI dX7_takes_1 fdX7_58 rfl (by first | rfl | exact pv_shx) (by omega) (by omega) (by decide) rfl (by repeat (first | exact f1 | exact f2 | exact f3 | exact f4 | exact f5 | exact f6 | exact f7 | (apply rd_s; done) | apply rd_n (by omega) | apply rp_s | apply rp_n (by omega) | (apply rdL_s; done) | apply rdL_n (by omega) | apply rpJ_s | apply rpJ_n (by omega) | rfl)) ?_
    refine g_aload_n dX7_takes_4 rfl ?_
    refine g_getP dX7_takes_5 fdX7_42 rfl (by first | rfl | exact pv_shx) (by omega) (by omega) (by decide) rfl (hP _ _ _ rfl) ?_
    refine g_aload_n dX7_takes_8 rfl ?_
    refine g_getP dX7_takes_9 fdX7_30 rfl (by first | rfl | exact pv_shx) (by omega) (by omega) (by decide) rfl (hP _ _ _ rfl) ?_
    refine g_iload_n dX7_takes_12 rfl ?_
    refine n_iald dX7_takes_13 (by first | rfl | exact pv_shx) (by omega) (by omega) (by decide) (rfl) (by omega) (by repeat (first | exact f1 | exact f2 | exact f3 | exact f4 | exact f5 | exact f6 | exact f7 | (apply rd_s; done) | apply rd_n (by omega) | apply rp_s | apply rp_n (by omega) | (apply rdL_s; done) | apply rdL_n (by omega) | apply rpJ_s | apply rpJ_n (by omega) | rfl)) ?_
    refine n_iald dX7_takes_14 (by first | rfl | exact pv_shx) (by omega) (by omega) (by decide) (rfl) (by omega) (by repeat (first | exact f1 | exact f2 | exact f3 | exact f4 | exact f5 | exact f6 | exact f7 | (apply rd_s; done) | apply rd_n (by omega) | apply rp_s | apply rp_n (by omega) | (apply rdL_s; done) | apply rdL_n (by omega) | apply rpJ_s | apply rpJ_n (by omega) | rfl)) ?_
    refine n_imul dX7_takes_15 (pk_mul _ _) ?_
    refine g_istore_n dX7_takes_16 (by decide) rfl ?_
    refine g_aload_n dX7_takes_17 rfl ?_
    refine g_getP dX7_takes_18 fdX7_21 rfl (by first | rfl | exact pv_shx) (by omega) (by omega) (by decide) rfl (hP _ _ _ rfl) ?_
    refine g_aload_n dX7_takes_21 rfl ?_
    refine g_getP dX7_takes_22 fdX7_27 rfl (by first | rfl | exact pv_shx) (by omega) (by omega) (by decide) rfl (hP _ _ _ rfl) ?_
    refine g_iload_n dX7_takes_25 rfl ?_
    refine n_iald dX7_takes_26 (by first | rfl | exact pv_shx) (by omega) (by omega) (by decide) (rfl) (by omega) (by repeat (first | exact f1 | exact f2 | exact f3 | exact f4 | exact f5 | exact f6 | exact f7 | (apply rd_s; done) | apply rd_n (by omega) | apply rp_s | apply rp_n (by omega) | (apply rdL_s; done) | apply rdL_n (by omega) | apply rpJ_s | apply rpJ_n (by omega) | rfl)) ?_
    refine n_iald dX7_takes_27 (by first | rfl | exact pv_shx) (by omega) (by omega) (by decide) (rfl) (by omega) (by repeat (first | exact f1 | exact f2 | exact f3 | exact f4 | exact f5 | exact f6 | exact f7 | (apply rd_s; done) | apply rd_n (by omega) | apply rp_s | apply rp_n (by omega) | (apply rdL_s; done) | apply rdL_n (by omega) | apply rpJ_s | apply rpJ_n (by omega) | rfl)) ?_
    refine g_aload_n dX7_takes_28 rfl ?_
    refine g_getP dX7_takes_29 fdX7_36 rfl (by first | rfl | exact pv_shx) (by omega) (by omega) (by decide) rfl (hP _ _ _ rfl) ?_
    refine g_iload_n dX7_takes_32 rfl ?_
    refine n_iald dX7_takes_33 (by first | rfl | exact pv_shx) (by omega) (by omega) (by decide) (rfl) (by omega) (by repeat (first | exact f1 | exact f2 | exact f3 | exact f4 | exact f5 | exact f6 | exact f7 | (apply rd_s; done) | apply rd_n (by omega) | apply rp_s | apply rp_n (by omega) | (apply rdL_s; done) | apply rdL_n (by omega) | apply rpJ_s | apply rpJ_n (by omega) | rfl)) ?_
    refine g_bipush (v := nI 100) dX7_takes_34 (by decide) ?_
    refine n_imul dX7_takes_36 (e2) ?_
    refine n_iadd dX7_takes_37 (nI_add _ _) ?_
    refine g_iload_n dX7_takes_38 rfl ?_
    refine n_iadd dX7_takes_39 (nI_add _ _) ?_
    refine g_aload_n dX7_takes_40 rfl ?_
    refine g_getP dX7_takes_41 fdX7_33 rfl (by first | rfl | exact pv_shx) (by omega) (by omega) (by decide) rfl (hP _ _ _ rfl) ?_
    refine g_iload_n dX7_takes_44 rfl ?_
    refine n_iald dX7_takes_45 (by first | rfl | exact pv_shx) (by omega) (by omega) (by decide) (rfl) (by omega) (by repeat (first | exact f1 | exact f2 | exact f3 | exact f4 | exact f5 | exact f6 | exact f7 | (apply rd_s; done) | apply rd_n (by omega) | apply rp_s | apply rp_n (by omega) | (apply rdL_s; done) | apply rdL_n (by omega) | apply rpJ_s | apply rpJ_n (by omega) | rfl)) ?_
    refine n_icmp_lt 53 dX7_takes_46 (by decide) (by first | ((with_reducible apply cN_lt) <;> omega) | ((with_reducible apply cI_ltn) <;> omega) | ((with_reducible apply cI_nlt) <;> omega) | (with_reducible exact cI_lt)) (fun c46 => by exfalso; first | omega | exact absurd trivial c46 | exact c46 | (simp at c46)) (fun c46 => ?_)
    refine g_iconst (v := nI 1) dX7_takes_49 (by decide) ?_
    refine g_goto 54 dX7_takes_50 (by decide) ?_
    exact g_zret (by first | exact Or.inl rfl | exact Or.inr rfl | exact cB01 _) dX7_takes_54 rfl (⟨rfl, rfl, rfl, rfl, rfl⟩)
  · rw [if_neg c]
    refine pvMet.of _ (by decide) rfl (Nat.le_of_ble_eq_true rfl) ?_
    refine g_aload_n dX7_takes_0 rfl ?_
    refine n_getI dX7_takes_1 fdX7_58 rfl (by first | rfl | exact pv_shx) (by omega) (by omega) (by decide) rfl (by repeat (first | exact f1 | exact f2 | exact f3 | exact f4 | exact f5 | exact f6 | exact f7 | (apply rd_s; done) | apply rd_n (by omega) | apply rp_s | apply rp_n (by omega) | (apply rdL_s; done) | apply rdL_n (by omega) | apply rpJ_s | apply rpJ_n (by omega) | rfl)) ?_
    refine g_aload_n dX7_takes_4 rfl ?_
    refine g_getP dX7_takes_5 fdX7_42 rfl (by first | rfl | exact pv_shx) (by omega) (by omega) (by decide) rfl (hP _ _ _ rfl) ?_
    refine g_aload_n dX7_takes_8 rfl ?_
    refine g_getP dX7_takes_9 fdX7_30 rfl (by first | rfl | exact pv_shx) (by omega) (by omega) (by decide) rfl (hP _ _ _ rfl) ?_
    refine g_iload_n dX7_takes_12 rfl ?_
    refine n_iald dX7_takes_13 (by first | rfl | exact pv_shx) (by omega) (by omega) (by decide) (rfl) (by omega) (by repeat (first | exact f1 | exact f2 | exact f3 | exact f4 | exact f5 | exact f6 | exact f7 | (apply rd_s; done) | apply rd_n (by omega) | apply rp_s | apply rp_n (by omega) | (apply rdL_s; done) | apply rdL_n (by omega) | apply rpJ_s | apply rpJ_n (by omega) | rfl)) ?_
    refine n_iald dX7_takes_14 (by first | rfl | exact pv_shx) (by omega) (by omega) (by decide) (rfl) (by omega) (by repeat (first | exact f1 | exact f2 | exact f3 | exact f4 | exact f5 | exact f6 | exact f7 | (apply rd_s; done) | apply rd_n (by omega) | apply rp_s | apply rp_n (by omega) | (apply rdL_s; done) | apply rdL_n (by omega) | apply rpJ_s | apply rpJ_n (by omega) | rfl)) ?_
    refine n_imul dX7_takes_15 (pk_mul _ _) ?_
    refine g_istore_n dX7_takes_16 (by decide) rfl ?_
    refine g_aload_n dX7_takes_17 rfl ?_
    refine g_getP dX7_takes_18 fdX7_21 rfl (by first | rfl | exact pv_shx) (by omega) (by omega) (by decide) rfl (hP _ _ _ rfl) ?_
    refine g_aload_n dX7_takes_21 rfl ?_
    refine g_getP dX7_takes_22 fdX7_27 rfl (by first | rfl | exact pv_shx) (by omega) (by omega) (by decide) rfl (hP _ _ _ rfl) ?_
    refine g_iload_n dX7_takes_25 rfl ?_
    refine n_iald dX7_takes_26 (by first | rfl | exact pv_shx) (by omega) (by omega) (by decide) (rfl) (by omega) (by repeat (first | exact f1 | exact f2 | exact f3 | exact f4 | exact f5 | exact f6 | exact f7 | (apply rd_s; done) | apply rd_n (by omega) | apply rp_s | apply rp_n (by omega) | (apply rdL_s; done) | apply rdL_n (by omega) | apply rpJ_s | apply rpJ_n (by omega) | rfl)) ?_
    refine n_iald dX7_takes_27 (by first | rfl | exact pv_shx) (by omega) (by omega) (by decide) (rfl) (by omega) (by repeat (first | exact f1 | exact f2 | exact f3 | exact f4 | exact f5 | exact f6 | exact f7 | (apply rd_s; done) | apply rd_n (by omega) | apply rp_s | apply rp_n (by omega) | (apply rdL_s; done) | apply rdL_n (by omega) | apply rpJ_s | apply rpJ_n (by omega) | rfl)) ?_
    refine g_aload_n dX7_takes_28 rfl ?_
    refine g_getP dX7_takes_29 fdX7_36 rfl (by first | rfl | exact pv_shx) (by omega) (by omega) (by decide) rfl (hP _ _ _ rfl) ?_
    refine g_iload_n dX7_takes_32 rfl ?_
    refine n_iald dX7_takes_33 (by first | rfl | exact pv_shx) (by omega) (by omega) (by decide) (rfl) (by omega) (by repeat (first | exact f1 | exact f2 | exact f3 | exact f4 | exact f5 | exact f6 | exact f7 | (apply rd_s; done) | apply rd_n (by omega) | apply rp_s | apply rp_n (by omega) | (apply rdL_s; done) | apply rdL_n (by omega) | apply rpJ_s | apply rpJ_n (by omega) | rfl)) ?_
    refine g_bipush (v := nI 100) dX7_takes_34 (by decide) ?_
    refine n_imul dX7_takes_36 (e2) ?_
    refine n_iadd dX7_takes_37 (nI_add _ _) ?_
    refine g_iload_n dX7_takes_38 rfl ?_
    refine n_iadd dX7_takes_39 (nI_add _ _) ?_
    refine g_aload_n dX7_takes_40 rfl ?_
    refine g_getP dX7_takes_41 fdX7_33 rfl (by first | rfl | exact pv_shx) (by omega) (by omega) (by decide) rfl (hP _ _ _ rfl) ?_
    refine g_iload_n dX7_takes_44 rfl ?_
    refine n_iald dX7_takes_45 (by first | rfl | exact pv_shx) (by omega) (by omega) (by decide) (rfl) (by omega) (by repeat (first | exact f1 | exact f2 | exact f3 | exact f4 | exact f5 | exact f6 | exact f7 | (apply rd_s; done) | apply rd_n (by omega) | apply rp_s | apply rp_n (by omega) | (apply rdL_s; done) | apply rdL_n (by omega) | apply rpJ_s | apply rpJ_n (by omega) | rfl)) ?_
    refine n_icmp_lt 53 dX7_takes_46 (by decide) (by first | ((with_reducible apply cN_lt) <;> omega) | ((with_reducible apply cI_ltn) <;> omega) | ((with_reducible apply cI_nlt) <;> omega) | (with_reducible exact cI_lt)) (fun c46 => ?_) (fun c46 => by exfalso; first | omega | exact absurd trivial c46 | exact c46 | (simp at c46))
    refine g_iconst (v := nI 0) dX7_takes_53 (by decide) ?_
    exact g_zret (by first | exact Or.inl rfl | exact Or.inr rfl | exact cB01 _) dX7_takes_54 rfl (⟨rfl, rfl, rfl, rfl, rfl⟩)
/-- one goes -/
theorem rTwn.go {p kn : Nat} (hr : rTwn 3 a I) (hl : mLv n a) (hp : p < cnt a 6) (ht : sp_tk a p) (hk : a (1200 + 5 * p + 1) = nI kn) (hk9 : kn ≤ 9) (e37 : I' 37 = upd (I 37) p (nI (cnt a 0))) (e38 : I' 38 = upd (I 38) kn (nI (sp_ct (sp_kgP a (nI kn)) (cnt a 6) + 1))) (eo : ∀ z, z ≠ 37 → z ≠ 38 → I' z = I z) : rTwn 3 (sp_step a p) I' := by
  obtain ⟨x1, x2, x3, x4, x5, x6⟩ := hr
  obtain ⟨l1, l2, l3, l4⟩ := hl
  have n6 : cnt a 6 ≤ 60 := l4.le (by decide)
  have n5 : cnt a 5 ≤ 20 := l4.le (by decide)
  have n0 : cnt a 0 ≤ 100 := l4.le (by decide)
  have k := sp_step_keep (a := a) (p := p) (by omega)
  have c5 : cnt (sp_step a p) 5 = cnt a 5 := sp_keep_cnt k (by decide) (by omega)
  have c6 : cnt (sp_step a p) 6 = cnt a 6 := sp_keep_cnt k (by decide) (by omega)
  have ha0 := (mG_eq l4 (i := 0) (by decide)).1
  have w4 : sp_step a p (1200 + 5 * p + 4) = a 0 := by
    unfold sp_step
    rw [if_pos ht, updI (by omega), updS]
  have o4 : ∀ q, q ≠ p → sp_step a p (1200 + 5 * q + 4) = a (1200 + 5 * q + 4) := fun q hq => by
    unfold sp_step
    rw [if_pos ht, updI (by omega), updI (by omega)]
  refine ⟨?_, ?_, ?_, ?_, ?_, ?_⟩
  · rw [eo (3 + 24) (by omega) (by omega), k 5 (by decide) (by omega)]; exact x1
  · intro q hq
    rw [c5] at hq
    rw [eo (3 + 25) (by omega) (by omega), eo (3 + 26) (by omega) (by omega), eo (3 + 27) (by omega) (by omega), eo (3 + 28) (by omega) (by omega), eo (3 + 29) (by omega) (by omega), k (1080 + 5 * q) (by omega) (by omega), k (1080 + 5 * q + 1) (by omega) (by omega), k (1080 + 5 * q + 2) (by omega) (by omega), k (1080 + 5 * q + 3) (by omega) (by omega), k (1080 + 5 * q + 4) (by omega) (by omega)]
    exact x2 q hq
  · rw [eo (3 + 24) (by omega) (by omega), k 6 (by decide) (by omega)]; exact x3
  · intro q hq
    rw [c6] at hq
    obtain ⟨y1, y2, y3, y4, y5⟩ := x4 q hq
    rw [eo (3 + 30) (by omega) (by omega), eo (3 + 31) (by omega) (by omega), eo (3 + 32) (by omega) (by omega), eo (3 + 33) (by omega) (by omega), k (1200 + 5 * q) (by omega) (by omega), k (1200 + 5 * q + 1) (by omega) (by omega), k (1200 + 5 * q + 2) (by omega) (by omega), k (1200 + 5 * q + 3) (by omega) (by omega)]
    refine ⟨y1, y2, y3, y4, ?_⟩
    show I' 37 q = _
    rw [e37]
    by_cases e : q = p
    · subst e; rw [updS, w4]; exact ha0.symm
    · rw [updI e, o4 q e]; exact y5
  · intro q hq
    rw [c6]
    show I' 38 q = _
    rw [e38]
    have kk : ∀ r, r < cnt a 6 → sp_step a p (1200 + 5 * r + 1) = a (1200 + 5 * r + 1) := fun r hr => k _ (by omega) (by omega)
    have a0n : ¬ (a 0).toInt < 0 := by rw [ha0, nI_toInt (by omega)]; omega
    by_cases e : q = kn
    · subst e
      rw [updS]
      congr 1
      have e1 : sp_ct (sp_kgP (sp_step a p) (nI q)) (cnt a 6) = sp_ct (fun r => sp_kgP a (nI q) r ∨ r = p) (cnt a 6) := sp_ct_cong (fun r hr => by
        show (sp_step a p (1200 + 5 * r + 1) = nI q ∧ ¬ (sp_step a p (1200 + 5 * r + 4)).toInt < 0) ↔ _
        rw [kk r hr]
        by_cases er : r = p
        · subst er
          rw [w4]
          exact ⟨fun _ => Or.inr rfl, fun _ => ⟨hk, a0n⟩⟩
        · rw [o4 r er]
          exact ⟨fun z => Or.inl z, fun z => z.elim id (fun y => absurd y er)⟩)
      rw [e1]
      exact (sp_ct_one (p := sp_kgP a (nI q)) (i := p) (fun z => z.2 ht.1) (Or.inr rfl) (fun r hr => ⟨fun z => z.elim id (fun y => absurd y hr), Or.inl⟩) hp).symm
    · rw [updI e, x5 q hq]
      congr 1
      apply sp_ct_cong
      intro r hr
      show _ ↔ (sp_step a p (1200 + 5 * r + 1) = nI q ∧ ¬ (sp_step a p (1200 + 5 * r + 4)).toInt < 0)
      rw [kk r hr]
      by_cases er : r = p
      · subst er
        constructor
        · intro z; exact absurd ht.1 z.2
        · rintro ⟨z1, -⟩
          exfalso
          rw [hk, nI_eq (by omega) (by omega)] at z1
          exact e z1.symm
      · rw [o4 r er]
  · rw [eo (3 + 24) (by omega) (by omega), k 14 (by decide) (by omega)]; exact x6
end TKS
