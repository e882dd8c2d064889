/-! class: gone, fill, how many went -/
theorem kg_sum {a : Nat → Int32} (hp : mPer a) : ∀ n, n ≤ cnt a 6 → sumN (fun k => sp_ct (sp_kgP a (nI k)) n) 10 = sp_ct (fun p => ¬ sp_here a p) n
  | 0, _ => rfl
  | n + 1, hn => by
    have ih := kg_sum hp n (by omega)
    obtain ⟨-, ⟨kn, k1, k2⟩, -⟩ := hp n (by omega)
    by_cases g : sp_here a n
    · have e1 : sp_ct (fun p => ¬ sp_here a p) (n + 1) = sp_ct (fun p => ¬ sp_here a p) n := by
        show sp_ct _ n + (if ¬ sp_here a n then 1 else 0) = _
        rw [if_neg (fun z => z g), Nat.add_zero]
      rw [e1, ← ih]
      apply sumN_cong
      intro k hk
      show sp_ct _ n + (if sp_kgP a (nI k) n then 1 else 0) = _
      rw [if_neg (fun z => z.2 g), Nat.add_zero]
    · have e1 : sp_ct (fun p => ¬ sp_here a p) (n + 1) = sp_ct (fun p => ¬ sp_here a p) n + 1 := by
        show sp_ct _ n + (if ¬ sp_here a n then 1 else 0) = _
        rw [if_pos g]
      rw [e1, ← ih, sumN_cong (g := fun k => sp_ct (sp_kgP a (nI k)) n + if k = kn then 1 else 0) 10 (fun k hk => ?_), sumN_at, if_pos (by omega)]
      show sp_ct _ n + (if sp_kgP a (nI k) n then 1 else 0) = _
      by_cases e : k = kn
      · subst e
        rw [if_pos rfl, if_pos ⟨k2, g⟩]
      · rw [if_neg e, if_neg (fun z => e (by
          have := z.1
          rw [k2, nI_eq (by omega) (by omega)] at this
          exact this.symm))]
section ABO
variable {w h : Nat} {a : Nat → Int32} {I : pvI} {J : pvJ} {P : pvP}
theorem sumN_mono {f : Nat → Nat} {b : Nat} (hf : ∀ k, f k ≤ b) : ∀ n, sumN f n ≤ n * b
  | 0 => by show 0 ≤ _; omega
  | n + 1 => by
    have := sumN_mono hf n
    have := hf n
    show sumN f n + f n ≤ _
    rw [Nat.succ_mul]
    omega
theorem c_went (hP : pvOkP P) (hb : kB w h a I J) : pvMet mX7_howManyWent 0 0 0 [.ref 27] 224 I J P (pvpu (.int (a 7)) 224 I J P) := by
  have n6 := hb.n6.1
  have x5 := hb.2.1.2.2.2.2.1.2.2.2.2.1
  obtain ⟨l1, l2, l3, l4⟩ := hb.2.2.2.2.2.2.1
  have ha : a 7 = nI (sumN (fun k => sp_ct (sp_kgP a (nI k)) (cnt a 6)) 10) := by rw [kg_sum l1 _ (Nat.le_refl _)]; exact l3
  rw [ha]
  have hle : ∀ k, sp_ct (sp_kgP a (nI k)) (cnt a 6) ≤ 60 := fun k => Nat.le_trans (sp_ct_le _) n6
  generalize hf : (fun k => sp_ct (sp_kgP a (nI k)) (cnt a 6)) = f at *
  have hfk : ∀ k, sp_ct (sp_kgP a (nI k)) (cnt a 6) = f k := fun k => by rw [← hf]
  have lp : ∀ q i, i + q = 10 → pvG mX7_howManyWent (pvR 0 0 0) (pvZ (pvpu (.int (nI (sumN f 10))) 224 I J P) 0 0) 4 [.ref 27, .int (nI (sumN f i)), .int (nI i)] [] 0 0 224 I J P := by
    intro q
    induction q with
    | zero =>
      intro i hi
      obtain rfl : i = 10 := by omega
      refine g_iload_n dX7_howManyWent_4 rfl ?_
      refine g_bipush (v := nI 10) dX7_howManyWent_5 (by decide) ?_
      refine n_icmp_ge 25 dX7_howManyWent_7 (by decide) (by first | ((with_reducible apply cN_le) <;> omega) | ((with_reducible apply cI_len) <;> omega) | ((with_reducible apply cI_nle) <;> omega) | (with_reducible exact cI_le)) (fun c7 => ?_) (fun c7 => by exfalso; first | omega | exact absurd trivial c7 | exact c7 | (simp at c7))
      refine g_iload_n dX7_howManyWent_25 rfl ?_
      exact g_iret dX7_howManyWent_26 rfl (⟨rfl, rfl, rfl, rfl, rfl⟩)
    | succ q ih =>
      intro i hi
      have nx := ih (i + 1) (by omega)
      have es : sumN f (i + 1) = sumN f i + f i := rfl
      rw [es] at nx
      have r := x5 i (by omega)
      rw [hfk i] at r
      have b1 := hle i
      rw [hfk i] at b1
      have b2 := sumN_mono (f := f) (b := 60) (fun k => by rw [← hfk]; exact hle k) i
      have b3 : i * 60 ≤ 600 := by omega
      have r' : I 38 i = nI (f i) := r
      refine g_iload_n dX7_howManyWent_4 rfl ?_
      refine g_bipush (v := nI 10) dX7_howManyWent_5 (by decide) ?_
      refine n_icmp_ge 25 dX7_howManyWent_7 (by decide) (by first | ((with_reducible apply cN_le) <;> omega) | ((with_reducible apply cI_len) <;> omega) | ((with_reducible apply cI_nle) <;> omega) | (with_reducible exact cI_le)) (fun c7 => by exfalso; first | omega | exact absurd trivial c7 | exact c7 | (simp at c7)) (fun c7 => ?_)
      refine g_iload_n dX7_howManyWent_10 rfl ?_
      refine g_aload_n dX7_howManyWent_11 rfl ?_
      refine g_getP dX7_howManyWent_12 fdX7_42 rfl (by first | rfl | exact pv_shx) (by omega) (by omega) (by decide) rfl (hP _ _ _ rfl) ?_
      refine g_iload_n dX7_howManyWent_15 rfl ?_
      refine n_iald dX7_howManyWent_16 (by first | rfl | exact pv_shx) (by omega) (by omega) (by decide) (rfl) (by omega) (by repeat (first | exact r' | (apply rd_s; done) | apply rd_n (by omega) | apply rp_s | apply rp_n (by omega) | (apply rdL_s; done) | apply rdL_n (by omega) | apply rpJ_s | apply rpJ_n (by omega) | rfl)) ?_
      refine n_iadd dX7_howManyWent_17 (by first | (with_reducible exact nI_add _ _) | rfl) ?_
      refine g_istore_n dX7_howManyWent_18 (by decide) rfl ?_
      refine g_iinc dX7_howManyWent_19 rfl (by first | (with_reducible exact nI_1 _) | exact nI_1 _ | exact pk_m1 _ | rfl) (by decide) rfl ?_
      refine g_goto 4 dX7_howManyWent_22 (by decide) ?_
      exact nx
  refine pvMet.of _ (by decide) rfl (Nat.le_of_ble_eq_true rfl) ?_
  refine g_iconst (v := nI 0) dX7_howManyWent_0 (by decide) ?_
  refine g_istore_n dX7_howManyWent_1 (by decide) rfl ?_
  refine g_iconst (v := nI 0) dX7_howManyWent_2 (by decide) ?_
  refine g_istore_n dX7_howManyWent_3 (by decide) rfl ?_
  exact lp 10 0 rfl
theorem c_gone {p : Int32} (hP : pvOkP P) (hb : kB w h a I J) : pvMet mX11_gone 1 0 0 [.ref 1, .int p] 224 I J P (pvpu (.int (sp_gone a p)) 224 I J P) := by
  obtain ⟨n6, r6⟩ := hb.n6
  have ip := c_hasPerson (v := p) (J := J) (P := P) r6 (by omega)
  by_cases v1 : 0 ≤ p.toInt ∧ p.toInt < cnt a 6
  · rw [if_pos v1] at ip
    obtain ⟨pn, hpn, rfl⟩ := cI_of (x := p) (n := cnt a 6) (by omega) (by omega) (by omega)
    have r : I 37 pn = a (1200 + 5 * pn + 4) := (hb.2.1.2.2.2.2.1.2.2.2.1 pn hpn).2.2.2.2
    rw [sp_gone, if_pos v1, nI_clamp (by omega)]
    refine pvMet.of _ (by decide) rfl (Nat.le_of_ble_eq_true rfl) ?_
    refine g_aload_n dX11_gone_0 rfl ?_
    refine g_getP dX11_gone_1 fdX11_32 rfl (by first | rfl | exact pv_shx) (by omega) (by omega) (by decide) rfl (hP _ _ _ rfl) ?_
    refine g_getP dX11_gone_4 fdX11_277 rfl (by first | rfl | exact pv_shx) (by omega) (by omega) (by decide) rfl (hP _ _ _ rfl) ?_
    refine g_iload_n dX11_gone_7 rfl ?_
    refine p_callV (ip) okX7_hasPerson lkX11_300 rfl (by first | rfl | exact pv_shx) rfl (by omega) (by omega) dX11_gone_8 rfl (Nat.le_of_ble_eq_true rfl) (⟨by decide, by decide, by decide, by decide⟩) ?_
    refine n_if_eq 29 dX11_gone_11 (by decide) (by first | (with_reducible exact cB _) | ((with_reducible apply cN_eq0) <;> omega) | exact Iff.rfl) (fun c11 => by exfalso; first | omega | exact absurd trivial c11 | exact c11 | (simp at c11)) (fun c11 => ?_)
    refine g_aload_n dX11_gone_14 rfl ?_
    refine g_getP dX11_gone_15 fdX11_32 rfl (by first | rfl | exact pv_shx) (by omega) (by omega) (by decide) rfl (hP _ _ _ rfl) ?_
    refine g_getP dX11_gone_18 fdX11_277 rfl (by first | rfl | exact pv_shx) (by omega) (by omega) (by decide) rfl (hP _ _ _ rfl) ?_
    refine g_getP dX11_gone_21 fdX11_318 rfl (by first | rfl | exact pv_shx) (by omega) (by omega) (by decide) rfl (hP _ _ _ rfl) ?_
    refine g_iload_n dX11_gone_24 rfl ?_
    refine n_iald dX11_gone_25 (by first | rfl | exact pv_shx) (by omega) (by omega) (by decide) (rfl) (by omega) (by repeat (first | exact r | (apply rd_s; done) | apply rd_n (by omega) | apply rp_s | apply rp_n (by omega) | (apply rdL_s; done) | apply rdL_n (by omega) | apply rpJ_s | apply rpJ_n (by omega) | rfl)) ?_
    refine g_goto 30 dX11_gone_26 (by decide) ?_
    exact g_iret dX11_gone_30 rfl (⟨rfl, rfl, rfl, rfl, rfl⟩)
  · rw [if_neg v1] at ip
    rw [sp_gone, if_neg v1]
    refine pvMet.of _ (by decide) rfl (Nat.le_of_ble_eq_true rfl) ?_
    refine g_aload_n dX11_gone_0 rfl ?_
    refine g_getP dX11_gone_1 fdX11_32 rfl (by first | rfl | exact pv_shx) (by omega) (by omega) (by decide) rfl (hP _ _ _ rfl) ?_
    refine g_getP dX11_gone_4 fdX11_277 rfl (by first | rfl | exact pv_shx) (by omega) (by omega) (by decide) rfl (hP _ _ _ rfl) ?_
    refine g_iload_n dX11_gone_7 rfl ?_
    refine p_callV (ip) okX7_hasPerson lkX11_300 rfl (by first | rfl | exact pv_shx) rfl (by omega) (by omega) dX11_gone_8 rfl (Nat.le_of_ble_eq_true rfl) (⟨by decide, by decide, by decide, by decide⟩) ?_
    refine n_if_eq 29 dX11_gone_11 (by decide) (by first | (with_reducible exact cB _) | ((with_reducible apply cN_eq0) <;> omega) | exact Iff.rfl) (fun c11 => ?_) (fun c11 => by exfalso; first | omega | exact absurd trivial c11 | exact c11 | (simp at c11))
    refine g_iconst (v := (-1)) dX11_gone_29 (by decide) ?_
    exact g_iret dX11_gone_30 rfl (⟨rfl, rfl, rfl, rfl, rfl⟩)
theorem c_fill {c : Int32} (hP : pvOkP P) (hb : kB w h a I J) : pvMet mX11_fill 1 0 0 [.ref 1, .int c] 224 I J P (pvpu (.int (if 0 ≤ c.toInt ∧ c.toInt < w * h then nI (fN a c.toNatClampNeg) else -1)) 224 I J P) := by
  have hwh := hb.1.wh
  have ip := c_has (v := c) (P := P) hb.1
  by_cases v1 : 0 ≤ c.toInt ∧ c.toInt < w * h
  · rw [if_pos v1] at ip
    obtain ⟨cn, hcn, rfl⟩ := cI_of (x := c) (n := w * h) (by omega) (by omega) (by omega)
    have r : I 7 cn = nI (fN a cn) := hb.2.1.2.1.2.2.1 cn (by omega)
    rw [if_pos v1, nI_clamp (by omega)]
    refine pvMet.of _ (by decide) rfl (Nat.le_of_ble_eq_true rfl) ?_
    refine g_aload_n dX11_fill_0 rfl ?_
    refine g_getP dX11_fill_1 fdX11_21 rfl (by first | rfl | exact pv_shx) (by omega) (by omega) (by decide) rfl (hP _ _ _ rfl) ?_
    refine g_iload_n dX11_fill_4 rfl ?_
    refine p_callV (ip) okX2_has lkX11_81 rfl (by first | rfl | exact pv_shx) rfl (by omega) (by omega) dX11_fill_5 rfl (Nat.le_of_ble_eq_true rfl) (⟨by decide, by decide, by decide, by decide⟩) ?_
    refine n_if_eq 26 dX11_fill_8 (by decide) (by first | (with_reducible exact cB _) | ((with_reducible apply cN_eq0) <;> omega) | exact Iff.rfl) (fun c8 => by exfalso; first | omega | exact absurd trivial c8 | exact c8 | (simp at c8)) (fun c8 => ?_)
    refine g_aload_n dX11_fill_11 rfl ?_
    refine g_getP dX11_fill_12 fdX11_32 rfl (by first | rfl | exact pv_shx) (by omega) (by omega) (by decide) rfl (hP _ _ _ rfl) ?_
    refine g_getP dX11_fill_15 fdX11_89 rfl (by first | rfl | exact pv_shx) (by omega) (by omega) (by decide) rfl (hP _ _ _ rfl) ?_
    refine g_getP dX11_fill_18 fdX11_143 rfl (by first | rfl | exact pv_shx) (by omega) (by omega) (by decide) rfl (hP _ _ _ rfl) ?_
    refine g_iload_n dX11_fill_21 rfl ?_
    refine n_iald dX11_fill_22 (by first | rfl | exact pv_shx) (by omega) (by omega) (by decide) (rfl) (by omega) (by repeat (first | exact r | (apply rd_s; done) | apply rd_n (by omega) | apply rp_s | apply rp_n (by omega) | (apply rdL_s; done) | apply rdL_n (by omega) | apply rpJ_s | apply rpJ_n (by omega) | rfl)) ?_
    refine g_goto 27 dX11_fill_23 (by decide) ?_
    exact g_iret dX11_fill_27 rfl (⟨rfl, rfl, rfl, rfl, rfl⟩)
  · rw [if_neg v1] at ip
    rw [if_neg v1]
    refine pvMet.of _ (by decide) rfl (Nat.le_of_ble_eq_true rfl) ?_
    refine g_aload_n dX11_fill_0 rfl ?_
    refine g_getP dX11_fill_1 fdX11_21 rfl (by first | rfl | exact pv_shx) (by omega) (by omega) (by decide) rfl (hP _ _ _ rfl) ?_
    refine g_iload_n dX11_fill_4 rfl ?_
    refine p_callV (ip) okX2_has lkX11_81 rfl (by first | rfl | exact pv_shx) rfl (by omega) (by omega) dX11_fill_5 rfl (Nat.le_of_ble_eq_true rfl) (⟨by decide, by decide, by decide, by decide⟩) ?_
    refine n_if_eq 26 dX11_fill_8 (by decide) (by first | (with_reducible exact cB _) | ((with_reducible apply cN_eq0) <;> omega) | exact Iff.rfl) (fun c8 => ?_) (fun c8 => by exfalso; first | omega | exact absurd trivial c8 | exact c8 | (simp at c8))
    refine g_iconst (v := (-1)) dX11_fill_26 (by decide) ?_
    exact g_iret dX11_fill_27 rfl (⟨rfl, rfl, rfl, rfl, rfl⟩)
end ABO
