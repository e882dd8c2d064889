/-! class: acts in force; by -/
/-- the acts, as the class keeps them -/
def cActs (n : Nat) (cl : Nat → List pC) (I : pvI) : Prop := ∀ t, t < n → csOk (cl t) ∧ ∃ cd, cd.length ≤ 300 ∧ cAct (149 + 5 * t) I (cl t) cd
theorem cActs.mv {n : Nat} {cl : Nat → List pC} {I I' : pvI} (h : cActs n cl I) (hn : n ≤ 10) (hI : ∀ x, 149 ≤ x → x < 199 → I' x = I x) : cActs n cl I' := fun t ht => by
  obtain ⟨h1, cd, h2, h3⟩ := h t ht
  exact ⟨h1, cd, h2, h3.mv (fun x z1 z2 => hI x (by omega) (by omega))⟩
def actV (o : Option Nat) : Value := match o with
  | some t => .ref (149 + 5 * t)
  | none => .null
def dI (f : Nat) : Int32 := nI f - nI 1
theorem dI_s {f : Nat} (h : f + 1 < 2 ^ 31) : dI (f + 1) = nI f := sub1 h
theorem dI_dec {f : Nat} : nI f + Int32.ofInt (-1) = dI f := by
  unfold dI
  rw [Int32.sub_eq_add_neg, show -(nI 1) = Int32.ofInt (-1) by decide]
/-- what by, whose and vote may change -/
def byF (I : pvI) (J : pvJ) (I' : pvI) (J' : pvJ) : Prop := ∀ x, (x < 90 ∨ (144 ≤ x ∧ x ≠ 199 ∧ x ≠ 200 ∧ x ≠ 201)) → I' x = I x ∧ J' x = J x
theorem byF.rf {I : pvI} {J : pvJ} : byF I J I J := fun _ _ => ⟨rfl, rfl⟩
theorem byF.tr {I I' I2 : pvI} {J J' J2 : pvJ} (h1 : byF I J I' J') (h2 : byF I' J' I2 J2) : byF I J I2 J2 := fun x hx => ⟨(h2 x hx).1.trans (h1 x hx).1, (h2 x hx).2.trans (h1 x hx).2⟩
theorem qF.by {I I' : pvI} {J J' : pvJ} (h : qF I J I' J') : byF I J I' J' := fun x hx => h x (by omega)
section BYC
variable {w h : Nat} {a : Nat → Int32} {cl : Nat → List pC} {I I' : pvI} {J J' : pvJ} {P : pvP}
theorem kB.far (hb : kB w h a I J) (hI : ∀ x, x < 144 → I' x = I x) (hJ : ∀ x, x < 144 → J' x = J x) : kB w h a I' J' := by
  obtain ⟨hg, hr, hf, ht, hi⟩ := hb
  exact ⟨hg.mv (hI 2 (by decide)) (hJ 2 (by decide)), hr.mv (fun x _ z => hI x (by omega)) (fun x _ z => hJ x (by omega)), hf.mv (fun x _ z => hI x (by omega)) (fun x _ z => hJ x (by omega)), ht.mv (hI 138 (by decide)) (hJ 138 (by decide)), hi⟩
theorem seenT.far {g : Nat} (hs : seenT w h a g I J) (h3 : cnt a 3 ≤ 8) (hI : ∀ x, x < 144 → I' x = I x) (hJ : ∀ x, x < 144 → J' x = J x) : seenT w h a g I' J' := fun s z => by
  obtain ⟨sn, s1, s2⟩ := hs s z
  have bs := fad_lt (show s < 8 by omega)
  exact ⟨sn, s1, s2.mv (fun x _ z2 => hI x (by omega)) (fun x _ z2 => hJ x (by omega))⟩
theorem c_first {A s : Nat} {cs : List pC} {cd : List Nat} (hP : pvOkP P) (hA : aAd A) (hc : cAct A I cs cd) (hs : s ≤ 3) : pvMet mX0_first 0 0 0 [.ref A, .int (nI s)] 224 I J P (pvpu (.int (stv (fstC cs s))) 224 I J P) := by
  obtain ⟨⟨s0, s1, s2, s3, s4⟩, h149, h194⟩ := hA.sh
  obtain ⟨p2, p3, p4, p5⟩ := hA.pp hP
  obtain ⟨a0, a20, a1, a4, ac, a5⟩ := hc
  have lp : ∀ q i, i + q = cs.length → fdF (fun j => decide ((cs.getD j (0, 0, [])).1 = s)) q i = fstC cs s → pvG mX0_first (pvR 0 0 0) (pvZ (pvpu (.int (stv (fstC cs s))) 224 I J P) 0 0) 2 [.ref A, .int (nI s), .int (nI i)] [] 0 0 224 I J P := by
    intro q
    induction q with
    | zero =>
      intro i hi he
      obtain rfl : i = cs.length := by omega
      have he : (none : Option Nat) = fstC cs s := he
      rw [← he]
      refine g_iload_n dX0_first_2 rfl ?_
      refine g_aload_n dX0_first_3 rfl ?_
      refine n_getI dX0_first_4 fdX0_24 rfl (s0) (by omega) (by omega) (by decide) rfl (by repeat (first | exact a0 | (apply rd_s; done) | apply rd_n (by omega) | apply rp_s | apply rp_n (by omega) | (apply rdL_s; done) | apply rdL_n (by omega) | apply rpJ_s | apply rpJ_n (by omega) | rfl)) ?_
      refine n_icmp_ge 28 dX0_first_7 (by decide) (by first | ((with_reducible apply cN_le) <;> omega) | ((with_reducible apply cI_len) <;> omega) | ((with_reducible apply cI_nle) <;> omega) | (with_reducible exact cI_le)) (fun c7 => ?_) (fun c7 => by exfalso; first | omega | exact absurd trivial c7 | exact c7 | (simp at c7))
      refine g_iconst (v := (-1)) dX0_first_28 (by decide) ?_
      exact g_iret dX0_first_29 rfl (⟨rfl, rfl, rfl, rfl, rfl⟩)
    | succ q ih =>
      intro i hi he
      have hc := (ac i (by omega)).1
      have hc3 := a5 (cs.getD i (0, 0, [])) (getD_mem (by omega))
      have es : fdF (fun j => decide ((cs.getD j (0, 0, [])).1 = s)) (q + 1) i = if decide ((cs.getD i (0, 0, [])).1 = s) = true then some i else fdF (fun j => decide ((cs.getD j (0, 0, [])).1 = s)) q (i + 1) := rfl
      rw [es] at he
      by_cases c : (cs.getD i (0, 0, [])).1 = s
      · rw [if_pos (decide_eq_true c)] at he
        rw [← he]
        refine g_iload_n dX0_first_2 rfl ?_
        refine g_aload_n dX0_first_3 rfl ?_
        refine n_getI dX0_first_4 fdX0_24 rfl (by first | exact s0 | exact s1) (by omega) (by omega) (by decide) rfl (by repeat (first | exact a0 | exact hc | (apply rd_s; done) | apply rd_n (by omega) | apply rp_s | apply rp_n (by omega) | (apply rdL_s; done) | apply rdL_n (by omega) | apply rpJ_s | apply rpJ_n (by omega) | rfl)) ?_
        refine n_icmp_ge 28 dX0_first_7 (by decide) (by first | ((with_reducible apply cN_le) <;> omega) | ((with_reducible apply cI_len) <;> omega) | ((with_reducible apply cI_nle) <;> omega) | (with_reducible exact cI_le)) (fun c7 => by exfalso; first | omega | exact absurd trivial c7 | exact c7 | (simp at c7)) (fun c7 => ?_)
        refine g_aload_n dX0_first_10 rfl ?_
        refine g_getP dX0_first_11 fdX0_11 rfl (by first | exact s0 | exact s1) (by omega) (by omega) (by decide) rfl (p2) ?_
        refine g_iload_n dX0_first_14 rfl ?_
        refine n_iald dX0_first_15 (by first | exact s0 | exact s1) (by omega) (by omega) (by decide) (rfl) (by omega) (by repeat (first | exact a0 | exact hc | (apply rd_s; done) | apply rd_n (by omega) | apply rp_s | apply rp_n (by omega) | (apply rdL_s; done) | apply rdL_n (by omega) | apply rpJ_s | apply rpJ_n (by omega) | rfl)) ?_
        refine g_iload_n dX0_first_16 rfl ?_
        refine n_icmp_ne 22 dX0_first_17 (by decide) (by first | ((with_reducible apply cN_eq) <;> omega) | ((with_reducible apply cI_eqn) <;> omega) | exact Iff.rfl) (fun c17 => by exfalso; first | omega | exact absurd trivial c17 | exact c17 | (simp at c17)) (fun c17 => ?_)
        refine g_iload_n dX0_first_20 rfl ?_
        exact g_iret dX0_first_21 rfl (⟨rfl, rfl, rfl, rfl, rfl⟩)
      · rw [if_neg (by rw [decide_eq_true_iff]; exact c)] at he
        have nx := ih (i + 1) (by omega) he
        refine g_iload_n dX0_first_2 rfl ?_
        refine g_aload_n dX0_first_3 rfl ?_
        refine n_getI dX0_first_4 fdX0_24 rfl (by first | exact s0 | exact s1) (by omega) (by omega) (by decide) rfl (by repeat (first | exact a0 | exact hc | (apply rd_s; done) | apply rd_n (by omega) | apply rp_s | apply rp_n (by omega) | (apply rdL_s; done) | apply rdL_n (by omega) | apply rpJ_s | apply rpJ_n (by omega) | rfl)) ?_
        refine n_icmp_ge 28 dX0_first_7 (by decide) (by first | ((with_reducible apply cN_le) <;> omega) | ((with_reducible apply cI_len) <;> omega) | ((with_reducible apply cI_nle) <;> omega) | (with_reducible exact cI_le)) (fun c7 => by exfalso; first | omega | exact absurd trivial c7 | exact c7 | (simp at c7)) (fun c7 => ?_)
        refine g_aload_n dX0_first_10 rfl ?_
        refine g_getP dX0_first_11 fdX0_11 rfl (by first | exact s0 | exact s1) (by omega) (by omega) (by decide) rfl (p2) ?_
        refine g_iload_n dX0_first_14 rfl ?_
        refine n_iald dX0_first_15 (by first | exact s0 | exact s1) (by omega) (by omega) (by decide) (rfl) (by omega) (by repeat (first | exact a0 | exact hc | (apply rd_s; done) | apply rd_n (by omega) | apply rp_s | apply rp_n (by omega) | (apply rdL_s; done) | apply rdL_n (by omega) | apply rpJ_s | apply rpJ_n (by omega) | rfl)) ?_
        refine g_iload_n dX0_first_16 rfl ?_
        refine n_icmp_ne 22 dX0_first_17 (by decide) (by first | ((with_reducible apply cN_eq) <;> omega) | ((with_reducible apply cI_eqn) <;> omega) | exact Iff.rfl) (fun c17 => ?_) (fun c17 => by exfalso; first | omega | exact absurd trivial c17 | exact c17 | (simp at c17))
        refine g_iinc dX0_first_22 rfl (by first | (with_reducible exact nI_1 _) | exact nI_1 _ | exact pk_m1 _ | rfl) (by decide) rfl ?_
        refine g_goto 2 dX0_first_25 (by decide) ?_
        exact nx
  refine pvMet.of _ (by decide) rfl (Nat.le_of_ble_eq_true rfl) ?_
  refine g_iconst (v := nI 0) dX0_first_0 (by decide) ?_
  refine g_istore_n dX0_first_1 (by decide) rfl ?_
  exact lp cs.length 0 (by omega) rfl
theorem kB.n9 (hb : kB w h a I J) : cnt a 9 ≤ 30 ∧ I 39 1 = nI (cnt a 9) ∧ cnt a 8 ≤ 10 ∧ ∀ f, f < cnt a 9 → cnt a (1500 + 3 * f) < cnt a 8 ∧ I 40 f = nI (cnt a (1500 + 3 * f)) ∧ cnt a (1500 + 3 * f + 1) ≤ 99 ∧ I 41 f = nI (cnt a (1500 + 3 * f + 1)) ∧ cnt a (1500 + 3 * f + 2) ≤ 99 ∧ I 42 f = nI (cnt a (1500 + 3 * f + 2)) := by
  have hi := hb.2.2.2.2
  obtain ⟨x1, x2, x3⟩ := hb.2.1.2.2.2.2.2.1
  obtain ⟨e9, b9, -⟩ := mG_eq hi.1.1 (i := 9) (by decide)
  obtain ⟨e8, b8, -⟩ := mG_eq hi.1.1 (i := 8) (by decide)
  replace b9 : cnt a 9 ≤ 30 := b9
  replace b8 : cnt a 8 ≤ 10 := b8
  refine ⟨b9, x2.trans e9, b8, fun f hf => ?_⟩
  obtain ⟨⟨t, t1, t2⟩, ⟨m, m1, m2⟩, ⟨l, l1, l2⟩⟩ := hi.2.2.2.2.1 f hf
  obtain ⟨y1, y2, y3⟩ := x3 f hf
  rw [cnt_of t2 (by omega), cnt_of m2 (by omega), cnt_of l2 (by omega)]
  exact ⟨t1, y1.trans t2, m1, y2.trans m2, l1, y3.trans l2⟩
theorem c_actFor {s m : Nat} (hP : pvOkP P) (hb : kB w h a I J) (hA : cActs (cnt a 8) cl I) (hs : s ≤ 3) (hm : m ≤ 99) : pvMet mX11_actFor 1 0 0 [.ref 1, .int (nI s), .int (nI m)] 224 I J P (pvpu (actV (afN a cl s m (cnt a 9))) 224 I J P) := by
  obtain ⟨n9, r9, n8, rf⟩ := hb.n9
  have em : (nI m).toInt = m := nI_toInt (by omega)
  have lp : ∀ f, f ≤ cnt a 9 → afN a cl s m f = afN a cl s m (cnt a 9) → pvG mX11_actFor (pvR 1 0 0) (pvZ (pvpu (actV (afN a cl s m (cnt a 9))) 224 I J P) 0 0) 13 [.ref 1, .int (nI s), .int (nI m), .int (dI f), .retAddr 0] [] 0 0 224 I J P := by
    intro f
    induction f with
    | zero =>
      intro hf he
      have e0 : (dI 0 < 0) ↔ True := by decide
      have he : (none : Option Nat) = _ := he
      rw [← he]
      refine g_iload_n dX11_actFor_13 rfl ?_
      refine n_if_lt 86 dX11_actFor_14 (by decide) (e0) (fun c14 => ?_) (fun c14 => by exfalso; first | omega | exact absurd trivial c14 | exact c14 | (simp at c14))
      refine g_null dX11_actFor_86 ?_
      exact g_aretN dX11_actFor_87 rfl (⟨rfl, rfl, rfl, rfl, rfl⟩)
    | succ f ih =>
      intro hf he
      obtain ⟨y1, y2, y3, y4, y5, y6⟩ := rf f (by omega)
      obtain ⟨k1, cd, k2, k3⟩ := hA _ y1
      rw [dI_s (by omega)]
      have es : afN a cl s m (f + 1) = if (cnt a (1500 + 3 * f + 1) ≤ m ∧ m ≤ cnt a (1500 + 3 * f + 2)) ∧ fstC (cl (cnt a (1500 + 3 * f))) s ≠ none then some (cnt a (1500 + 3 * f)) else afN a cl s m f := rfl
      rw [es] at he
      have iw := c_within (nx := 224) (v := nI m) (lo := nI (cnt a (1500 + 3 * f + 1))) (hi := nI (cnt a (1500 + 3 * f + 2))) (L := cnt a (1500 + 3 * f + 1)) (H := cnt a (1500 + 3 * f + 2)) (I := I) (J := J) (P := P) (nI_toInt (by omega)) (nI_toInt (by omega))
      rw [em] at iw
      have hAd : aAd (149 + 5 * cnt a (1500 + 3 * f)) := ⟨_, by omega, rfl⟩
      have fi := c_first (J := J) hP hAd k3 hs
      have bp := book_P hP (t := cnt a (1500 + 3 * f)) (by omega)
      have sh := hAd.sh.1.1
      by_cases c1 : cnt a (1500 + 3 * f + 1) ≤ m ∧ m ≤ cnt a (1500 + 3 * f + 2)
      · rw [if_pos (by omega)] at iw
        cases hf1 : fstC (cl (cnt a (1500 + 3 * f))) s with
        | none =>
          rw [if_neg (fun z => z.2 hf1)] at he
          rw [hf1] at fi
          have nx := ih (by omega) he
          have e74 : ((stv none) = -1) ↔ True := by decide
          refine g_iload_n dX11_actFor_13 rfl ?_
          refine n_if_lt 86 dX11_actFor_14 (by decide) (by first | ((with_reducible apply cN_lt0) <;> omega) | (with_reducible exact cI_lt0)) (fun c14 => by exfalso; first | omega | exact absurd trivial c14 | exact c14 | (simp at c14)) (fun c14 => ?_)
          refine g_iload_n dX11_actFor_17 rfl ?_
          refine g_aload_n dX11_actFor_18 rfl ?_
          refine g_getP dX11_actFor_19 fdX11_32 rfl (by first | rfl | exact pv_shx) (by omega) (by omega) (by decide) rfl (hP _ _ _ rfl) ?_
          refine g_getP dX11_actFor_22 fdX11_333 rfl (by first | rfl | exact pv_shx) (by omega) (by omega) (by decide) rfl (hP _ _ _ rfl) ?_
          refine g_getP dX11_actFor_25 fdX11_476 rfl (by first | rfl | exact pv_shx) (by omega) (by omega) (by decide) rfl (hP _ _ _ rfl) ?_
          refine g_iload_n dX11_actFor_28 rfl ?_
          refine n_iald dX11_actFor_29 (by first | rfl | exact pv_shx) (by omega) (by omega) (by decide) (rfl) (by omega) (by repeat (first | exact y2 | exact y4 | exact y6 | (apply rd_s; done) | apply rd_n (by omega) | apply rp_s | apply rp_n (by omega) | (apply rdL_s; done) | apply rdL_n (by omega) | apply rpJ_s | apply rpJ_n (by omega) | rfl)) ?_
          refine g_aload_n dX11_actFor_30 rfl ?_
          refine g_getP dX11_actFor_31 fdX11_32 rfl (by first | rfl | exact pv_shx) (by omega) (by omega) (by decide) rfl (hP _ _ _ rfl) ?_
          refine g_getP dX11_actFor_34 fdX11_333 rfl (by first | rfl | exact pv_shx) (by omega) (by omega) (by decide) rfl (hP _ _ _ rfl) ?_
          refine g_getP dX11_actFor_37 fdX11_479 rfl (by first | rfl | exact pv_shx) (by omega) (by omega) (by decide) rfl (hP _ _ _ rfl) ?_
          refine g_iload_n dX11_actFor_40 rfl ?_
          refine n_iald dX11_actFor_41 (by first | rfl | exact pv_shx) (by omega) (by omega) (by decide) (rfl) (by omega) (by repeat (first | exact y2 | exact y4 | exact y6 | (apply rd_s; done) | apply rd_n (by omega) | apply rp_s | apply rp_n (by omega) | (apply rdL_s; done) | apply rdL_n (by omega) | apply rpJ_s | apply rpJ_n (by omega) | rfl)) ?_
          refine p_callS (iw) okX11_within lkX11_85 rfl dX11_actFor_42 rfl (Nat.le_of_ble_eq_true rfl) (⟨by decide, by decide, by decide, by decide⟩) ?_
          refine n_if_eq 80 dX11_actFor_45 (by decide) (by first | (with_reducible exact cB _) | ((with_reducible apply cN_eq0) <;> omega) | exact Iff.rfl) (fun c45 => by exfalso; first | omega | exact absurd trivial c45 | exact c45 | (simp at c45)) (fun c45 => ?_)
          refine g_aload_n dX11_actFor_48 rfl ?_
          refine g_getP dX11_actFor_49 fdX11_59 rfl (by first | rfl | exact pv_shx) (by omega) (by omega) (by decide) rfl (hP _ _ _ rfl) ?_
          refine g_aload_n dX11_actFor_52 rfl ?_
          refine g_getP dX11_actFor_53 fdX11_32 rfl (by first | rfl | exact pv_shx) (by omega) (by omega) (by decide) rfl (hP _ _ _ rfl) ?_
          refine g_getP dX11_actFor_56 fdX11_333 rfl (by first | rfl | exact pv_shx) (by omega) (by omega) (by decide) rfl (hP _ _ _ rfl) ?_
          refine g_getP dX11_actFor_59 fdX11_482 rfl (by first | rfl | exact pv_shx) (by omega) (by omega) (by decide) rfl (hP _ _ _ rfl) ?_
          refine g_iload_n dX11_actFor_62 rfl ?_
          refine n_iald dX11_actFor_63 (by first | rfl | exact pv_shx) (by omega) (by omega) (by decide) (rfl) (by omega) (by repeat (first | exact y2 | exact y4 | exact y6 | (apply rd_s; done) | apply rd_n (by omega) | apply rp_s | apply rp_n (by omega) | (apply rdL_s; done) | apply rdL_n (by omega) | apply rpJ_s | apply rpJ_n (by omega) | rfl)) ?_
          refine g_aald _ dX11_actFor_64 (by first | exact Or.inl rfl | exact Or.inr rfl) (by omega) (by omega) (by decide) (rfl) (by omega) (bp) ?_
          refine g_astore dX11_actFor_65 (by decide) rfl ?_
          refine g_aload dX11_actFor_67 rfl ?_
          refine g_iload_n dX11_actFor_69 rfl ?_
          refine p_callV (fi) okX0_first lkX11_485 rfl (sh) rfl (by omega) (by omega) dX11_actFor_70 rfl (Nat.le_of_ble_eq_true rfl) (⟨by decide, by decide, by decide, by decide⟩) ?_
          refine g_iconst (v := (-1)) dX11_actFor_73 (by decide) ?_
          refine n_icmp_eq 80 dX11_actFor_74 (by decide) (e74) (fun c74 => ?_) (fun c74 => by exfalso; first | omega | exact absurd trivial c74 | exact c74 | (simp at c74))
          refine g_iinc dX11_actFor_80 rfl (dI_dec) (by decide) rfl ?_
          refine g_goto 13 dX11_actFor_83 (by decide) ?_
          exact g_drop _ (by repeat (first | exact trivial | refine ⟨Or.inr ⟨_, rfl⟩, ?_⟩ | refine ⟨Or.inl rfl, ?_⟩)) nx
        | some j =>
          rw [if_pos ⟨c1, by rw [hf1]; exact Option.some_ne_none _⟩] at he
          rw [hf1] at fi
          have hj := fstC_some hf1
          have hj2 := k3.2.1
          have e74 : ((stv (some j)) = -1) ↔ False := by
            show nI j = -1 ↔ False
            rw [cI_m1, nI_toInt (by omega)]
            exact ⟨fun z => by omega, False.elim⟩
          rw [← he]
          refine g_iload_n dX11_actFor_13 rfl ?_
          refine n_if_lt 86 dX11_actFor_14 (by decide) (by first | ((with_reducible apply cN_lt0) <;> omega) | (with_reducible exact cI_lt0)) (fun c14 => by exfalso; first | omega | exact absurd trivial c14 | exact c14 | (simp at c14)) (fun c14 => ?_)
          refine g_iload_n dX11_actFor_17 rfl ?_
          refine g_aload_n dX11_actFor_18 rfl ?_
          refine g_getP dX11_actFor_19 fdX11_32 rfl (by first | rfl | exact pv_shx) (by omega) (by omega) (by decide) rfl (hP _ _ _ rfl) ?_
          refine g_getP dX11_actFor_22 fdX11_333 rfl (by first | rfl | exact pv_shx) (by omega) (by omega) (by decide) rfl (hP _ _ _ rfl) ?_
          refine g_getP dX11_actFor_25 fdX11_476 rfl (by first | rfl | exact pv_shx) (by omega) (by omega) (by decide) rfl (hP _ _ _ rfl) ?_
          refine g_iload_n dX11_actFor_28 rfl ?_
          refine n_iald dX11_actFor_29 (by first | rfl | exact pv_shx) (by omega) (by omega) (by decide) (rfl) (by omega) (by repeat (first | exact y2 | exact y4 | exact y6 | (apply rd_s; done) | apply rd_n (by omega) | apply rp_s | apply rp_n (by omega) | (apply rdL_s; done) | apply rdL_n (by omega) | apply rpJ_s | apply rpJ_n (by omega) | rfl)) ?_
          refine g_aload_n dX11_actFor_30 rfl ?_
          refine g_getP dX11_actFor_31 fdX11_32 rfl (by first | rfl | exact pv_shx) (by omega) (by omega) (by decide) rfl (hP _ _ _ rfl) ?_
          refine g_getP dX11_actFor_34 fdX11_333 rfl (by first | rfl | exact pv_shx) (by omega) (by omega) (by decide) rfl (hP _ _ _ rfl) ?_
          refine g_getP dX11_actFor_37 fdX11_479 rfl (by first | rfl | exact pv_shx) (by omega) (by omega) (by decide) rfl (hP _ _ _ rfl) ?_
          refine g_iload_n dX11_actFor_40 rfl ?_
          refine n_iald dX11_actFor_41 (by first | rfl | exact pv_shx) (by omega) (by omega) (by decide) (rfl) (by omega) (by repeat (first | exact y2 | exact y4 | exact y6 | (apply rd_s; done) | apply rd_n (by omega) | apply rp_s | apply rp_n (by omega) | (apply rdL_s; done) | apply rdL_n (by omega) | apply rpJ_s | apply rpJ_n (by omega) | rfl)) ?_
          refine p_callS (iw) okX11_within lkX11_85 rfl dX11_actFor_42 rfl (Nat.le_of_ble_eq_true rfl) (⟨by decide, by decide, by decide, by decide⟩) ?_
          refine n_if_eq 80 dX11_actFor_45 (by decide) (by first | (with_reducible exact cB _) | ((with_reducible apply cN_eq0) <;> omega) | exact Iff.rfl) (fun c45 => by exfalso; first | omega | exact absurd trivial c45 | exact c45 | (simp at c45)) (fun c45 => ?_)
          refine g_aload_n dX11_actFor_48 rfl ?_
          refine g_getP dX11_actFor_49 fdX11_59 rfl (by first | rfl | exact pv_shx) (by omega) (by omega) (by decide) rfl (hP _ _ _ rfl) ?_
          refine g_aload_n dX11_actFor_52 rfl ?_
          refine g_getP dX11_actFor_53 fdX11_32 rfl (by first | rfl | exact pv_shx) (by omega) (by omega) (by decide) rfl (hP _ _ _ rfl) ?_
          refine g_getP dX11_actFor_56 fdX11_333 rfl (by first | rfl | exact pv_shx) (by omega) (by omega) (by decide) rfl (hP _ _ _ rfl) ?_
          refine g_getP dX11_actFor_59 fdX11_482 rfl (by first | rfl | exact pv_shx) (by omega) (by omega) (by decide) rfl (hP _ _ _ rfl) ?_
          refine g_iload_n dX11_actFor_62 rfl ?_
          refine n_iald dX11_actFor_63 (by first | rfl | exact pv_shx) (by omega) (by omega) (by decide) (rfl) (by omega) (by repeat (first | exact y2 | exact y4 | exact y6 | (apply rd_s; done) | apply rd_n (by omega) | apply rp_s | apply rp_n (by omega) | (apply rdL_s; done) | apply rdL_n (by omega) | apply rpJ_s | apply rpJ_n (by omega) | rfl)) ?_
          refine g_aald _ dX11_actFor_64 (by first | exact Or.inl rfl | exact Or.inr rfl) (by omega) (by omega) (by decide) (rfl) (by omega) (bp) ?_
          refine g_astore dX11_actFor_65 (by decide) rfl ?_
          refine g_aload dX11_actFor_67 rfl ?_
          refine g_iload_n dX11_actFor_69 rfl ?_
          refine p_callV (fi) okX0_first lkX11_485 rfl (sh) rfl (by omega) (by omega) dX11_actFor_70 rfl (Nat.le_of_ble_eq_true rfl) (⟨by decide, by decide, by decide, by decide⟩) ?_
          refine g_iconst (v := (-1)) dX11_actFor_73 (by decide) ?_
          refine n_icmp_eq 80 dX11_actFor_74 (by decide) (e74) (fun c74 => by exfalso; first | omega | exact absurd trivial c74 | exact c74 | (simp at c74)) (fun c74 => ?_)
          refine g_aload dX11_actFor_77 rfl ?_
          exact g_aret dX11_actFor_79 rfl (⟨rfl, rfl, rfl, rfl, rfl⟩)
      · rw [if_neg (by omega)] at iw
        rw [if_neg (fun z => c1 z.1)] at he
        have nx := ih (by omega) he
        refine g_iload_n dX11_actFor_13 rfl ?_
        refine n_if_lt 86 dX11_actFor_14 (by decide) (by first | ((with_reducible apply cN_lt0) <;> omega) | (with_reducible exact cI_lt0)) (fun c14 => by exfalso; first | omega | exact absurd trivial c14 | exact c14 | (simp at c14)) (fun c14 => ?_)
        refine g_iload_n dX11_actFor_17 rfl ?_
        refine g_aload_n dX11_actFor_18 rfl ?_
        refine g_getP dX11_actFor_19 fdX11_32 rfl (by first | rfl | exact pv_shx) (by omega) (by omega) (by decide) rfl (hP _ _ _ rfl) ?_
        refine g_getP dX11_actFor_22 fdX11_333 rfl (by first | rfl | exact pv_shx) (by omega) (by omega) (by decide) rfl (hP _ _ _ rfl) ?_
        refine g_getP dX11_actFor_25 fdX11_476 rfl (by first | rfl | exact pv_shx) (by omega) (by omega) (by decide) rfl (hP _ _ _ rfl) ?_
        refine g_iload_n dX11_actFor_28 rfl ?_
        refine n_iald dX11_actFor_29 (by first | rfl | exact pv_shx) (by omega) (by omega) (by decide) (rfl) (by omega) (by repeat (first | exact y2 | exact y4 | exact y6 | (apply rd_s; done) | apply rd_n (by omega) | apply rp_s | apply rp_n (by omega) | (apply rdL_s; done) | apply rdL_n (by omega) | apply rpJ_s | apply rpJ_n (by omega) | rfl)) ?_
        refine g_aload_n dX11_actFor_30 rfl ?_
        refine g_getP dX11_actFor_31 fdX11_32 rfl (by first | rfl | exact pv_shx) (by omega) (by omega) (by decide) rfl (hP _ _ _ rfl) ?_
        refine g_getP dX11_actFor_34 fdX11_333 rfl (by first | rfl | exact pv_shx) (by omega) (by omega) (by decide) rfl (hP _ _ _ rfl) ?_
        refine g_getP dX11_actFor_37 fdX11_479 rfl (by first | rfl | exact pv_shx) (by omega) (by omega) (by decide) rfl (hP _ _ _ rfl) ?_
        refine g_iload_n dX11_actFor_40 rfl ?_
        refine n_iald dX11_actFor_41 (by first | rfl | exact pv_shx) (by omega) (by omega) (by decide) (rfl) (by omega) (by repeat (first | exact y2 | exact y4 | exact y6 | (apply rd_s; done) | apply rd_n (by omega) | apply rp_s | apply rp_n (by omega) | (apply rdL_s; done) | apply rdL_n (by omega) | apply rpJ_s | apply rpJ_n (by omega) | rfl)) ?_
        refine p_callS (iw) okX11_within lkX11_85 rfl dX11_actFor_42 rfl (Nat.le_of_ble_eq_true rfl) (⟨by decide, by decide, by decide, by decide⟩) ?_
        refine n_if_eq 80 dX11_actFor_45 (by decide) (by first | (with_reducible exact cB _) | ((with_reducible apply cN_eq0) <;> omega) | exact Iff.rfl) (fun c45 => ?_) (fun c45 => by exfalso; first | omega | exact absurd trivial c45 | exact c45 | (simp at c45))
        refine g_iinc dX11_actFor_80 rfl (dI_dec) (by decide) rfl ?_
        refine g_goto 13 dX11_actFor_83 (by decide) ?_
        exact g_drop _ (by repeat (first | exact trivial | refine ⟨Or.inr ⟨_, rfl⟩, ?_⟩ | refine ⟨Or.inl rfl, ?_⟩)) nx
  have go := lp (cnt a 9) (Nat.le_refl _) rfl
  refine pvMet.of _ (by decide) rfl (Nat.le_of_ble_eq_true rfl) ?_
  refine g_aload_n dX11_actFor_0 rfl ?_
  refine g_getP dX11_actFor_1 fdX11_32 rfl (by first | rfl | exact pv_shx) (by omega) (by omega) (by decide) rfl (hP _ _ _ rfl) ?_
  refine g_getP dX11_actFor_4 fdX11_333 rfl (by first | rfl | exact pv_shx) (by omega) (by omega) (by decide) rfl (hP _ _ _ rfl) ?_
  refine n_getI dX11_actFor_7 fdX11_352 rfl (by first | rfl | exact pv_shx) (by omega) (by omega) (by decide) rfl (by repeat (first | exact r9 | (apply rd_s; done) | apply rd_n (by omega) | apply rp_s | apply rp_n (by omega) | (apply rdL_s; done) | apply rdL_n (by omega) | apply rpJ_s | apply rpJ_n (by omega) | rfl)) ?_
  refine g_iconst (v := nI 1) dX11_actFor_10 (by decide) ?_
  refine n_isub dX11_actFor_11 (rfl) ?_
  refine g_istore_n dX11_actFor_12 (by decide) rfl ?_
  exact g_drop _ (by repeat (first | exact trivial | refine ⟨Or.inr ⟨_, rfl⟩, ?_⟩ | refine ⟨Or.inl rfl, ?_⟩)) go
theorem kB.hou {k : Nat} (hb : kB w h a I J) (hk : k < cnt a 5) : k < 20 ∧ cnt a (1080 + 5 * k + 1) ≤ 9 ∧ cnt a (1080 + 5 * k + 2) ≤ 9 ∧ I 29 k = nI (cnt a (1080 + 5 * k + 1)) ∧ I 30 k = nI (cnt a (1080 + 5 * k + 2)) := by
  have n5 := hb.n5.1
  have hi := hb.2.2.2.2
  obtain ⟨-, x2, -⟩ := hb.2.1.2.2.2.2.1
  obtain ⟨-, z2, z3, -⟩ := x2 k hk
  obtain ⟨-, ⟨x, y1, y2⟩, ⟨y, y3, y4⟩, -⟩ := hi.2.2.1.2.1 k hk
  rw [cnt_of y2 (by omega), cnt_of y4 (by omega)]
  exact ⟨by omega, y1, y3, z2.trans y2, z3.trans y4⟩
theorem hsP_eq {k : Nat} (hk : k < 1000) : sp_ct (fun p => a (1200 + 5 * p) = nI k ∧ sp_here a p) (cnt a 6) = hsP a k := by
  unfold hsP
  apply sp_ct_cong
  intro p _
  unfold poP sp_here
  have hne : ¬ nI k = -1 := fun z => by
    have := cI_m1.mp z
    rw [nI_toInt (by omega)] at this
    omega
  constructor
  · rintro ⟨z1, z2⟩; exact ⟨Or.inr z1, z2⟩
  · rintro ⟨z1, z2⟩; exact ⟨z1.resolve_left hne, z2⟩
def nmF (f : Nat → Int32) (a : Nat → Int32) (k m g : Nat) : Nat → Int32 := upd (upd (upd (upd (upd f 0 (nI g)) 1 (nI (cnt a (1080 + 5 * k + 1)))) 2 (nI (cnt a (1080 + 5 * k + 2)))) 3 (nI m)) 4 (nI (hsP a k))
theorem c_nameHouse {k m g : Nat} (hP : pvOkP P) (hb : kB w h a I J) (hk : k < cnt a 5) : pvMet mX11_nameHouse 2 0 0 [.ref 1, .int (nI k), .int (nI m), .int (nI g)] 224 I J P (pvq P (fun v I' J' => v = none ∧ J' = J ∧ I' = pvs I 199 (nmF (I 199) a k m g))) := by
  obtain ⟨k20, -, -, r1, r2⟩ := hb.hou hk
  have th : ∀ f, pvMet mX7_thereIn 1 0 0 [.ref 27, .int (nI k)] 224 (pvs I 199 f) J P (pvpu (.int (nI (hsP a k))) 224 (pvs I 199 f) J P) := fun f => by
    have := c_thereIn (P := P) hP (hb.far (I' := pvs I 199 f) (J' := J) (fun x hx => pvs_ne (by omega)) (fun _ _ => rfl)) (k := k) k20
    rw [hsP_eq (by omega)] at this
    exact this
  refine pvMet.of _ (by decide) rfl (Nat.le_of_ble_eq_true rfl) ?_
  refine g_aload_n dX11_nameHouse_0 rfl ?_
  refine g_getP dX11_nameHouse_1 fdX11_64 rfl (by first | rfl | exact pv_shx) (by omega) (by omega) (by decide) rfl (hP _ _ _ rfl) ?_
  refine g_iconst (v := nI 0) dX11_nameHouse_4 (by decide) ?_
  refine g_iload_n dX11_nameHouse_5 rfl ?_
  refine n_iast dX11_nameHouse_6 (by first | rfl | exact pv_shx) (by omega) (by omega) (by omega) (by decide) (rfl) (by omega) (by repeat (first | exact pvu_s | exact pvuJ_s | apply pvu_in (by omega) | apply pvuJ_in (by omega) | exact pvu_pvs | exact pvuJ_pvs)) ?_
  refine g_aload_n dX11_nameHouse_7 rfl ?_
  refine g_getP dX11_nameHouse_8 fdX11_64 rfl (by first | rfl | exact pv_shx) (by omega) (by omega) (by decide) rfl (hP _ _ _ rfl) ?_
  refine g_iconst (v := nI 1) dX11_nameHouse_11 (by decide) ?_
  refine g_aload_n dX11_nameHouse_12 rfl ?_
  refine g_getP dX11_nameHouse_13 fdX11_32 rfl (by first | rfl | exact pv_shx) (by omega) (by omega) (by decide) rfl (hP _ _ _ rfl) ?_
  refine g_getP dX11_nameHouse_16 fdX11_277 rfl (by first | rfl | exact pv_shx) (by omega) (by omega) (by decide) rfl (hP _ _ _ rfl) ?_
  refine g_getP dX11_nameHouse_19 fdX11_458 rfl (by first | rfl | exact pv_shx) (by omega) (by omega) (by decide) rfl (hP _ _ _ rfl) ?_
  refine g_iload_n dX11_nameHouse_22 rfl ?_
  refine n_iald dX11_nameHouse_23 (by first | rfl | exact pv_shx) (by omega) (by omega) (by decide) (rfl) (by omega) (by repeat (first | exact r1 | exact r2 | (apply rd_s; done) | apply rd_n (by omega) | apply rp_s | apply rp_n (by omega) | (apply rdL_s; done) | apply rdL_n (by omega) | apply rpJ_s | apply rpJ_n (by omega) | rfl)) ?_
  refine n_iast dX11_nameHouse_24 (by first | rfl | exact pv_shx) (by omega) (by omega) (by omega) (by decide) (rfl) (by omega) (by repeat (first | exact pvu_s | exact pvuJ_s | apply pvu_in (by omega) | apply pvuJ_in (by omega) | exact pvu_pvs | exact pvuJ_pvs)) ?_
  refine g_aload_n dX11_nameHouse_25 rfl ?_
  refine g_getP dX11_nameHouse_26 fdX11_64 rfl (by first | rfl | exact pv_shx) (by omega) (by omega) (by decide) rfl (hP _ _ _ rfl) ?_
  refine g_iconst (v := nI 2) dX11_nameHouse_29 (by decide) ?_
  refine g_aload_n dX11_nameHouse_30 rfl ?_
  refine g_getP dX11_nameHouse_31 fdX11_32 rfl (by first | rfl | exact pv_shx) (by omega) (by omega) (by decide) rfl (hP _ _ _ rfl) ?_
  refine g_getP dX11_nameHouse_34 fdX11_277 rfl (by first | rfl | exact pv_shx) (by omega) (by omega) (by decide) rfl (hP _ _ _ rfl) ?_
  refine g_getP dX11_nameHouse_37 fdX11_488 rfl (by first | rfl | exact pv_shx) (by omega) (by omega) (by decide) rfl (hP _ _ _ rfl) ?_
  refine g_iload_n dX11_nameHouse_40 rfl ?_
  refine n_iald dX11_nameHouse_41 (by first | rfl | exact pv_shx) (by omega) (by omega) (by decide) (rfl) (by omega) (by repeat (first | exact r1 | exact r2 | (apply rd_s; done) | apply rd_n (by omega) | apply rp_s | apply rp_n (by omega) | (apply rdL_s; done) | apply rdL_n (by omega) | apply rpJ_s | apply rpJ_n (by omega) | rfl)) ?_
  refine n_iast dX11_nameHouse_42 (by first | rfl | exact pv_shx) (by omega) (by omega) (by omega) (by decide) (rfl) (by omega) (by repeat (first | exact pvu_s | exact pvuJ_s | apply pvu_in (by omega) | apply pvuJ_in (by omega) | exact pvu_pvs | exact pvuJ_pvs)) ?_
  refine g_aload_n dX11_nameHouse_43 rfl ?_
  refine g_getP dX11_nameHouse_44 fdX11_64 rfl (by first | rfl | exact pv_shx) (by omega) (by omega) (by decide) rfl (hP _ _ _ rfl) ?_
  refine g_iconst (v := nI 3) dX11_nameHouse_47 (by decide) ?_
  refine g_iload_n dX11_nameHouse_48 rfl ?_
  refine n_iast dX11_nameHouse_49 (by first | rfl | exact pv_shx) (by omega) (by omega) (by omega) (by decide) (rfl) (by omega) (by repeat (first | exact pvu_s | exact pvuJ_s | apply pvu_in (by omega) | apply pvuJ_in (by omega) | exact pvu_pvs | exact pvuJ_pvs)) ?_
  refine g_aload_n dX11_nameHouse_50 rfl ?_
  refine g_getP dX11_nameHouse_51 fdX11_64 rfl (by first | rfl | exact pv_shx) (by omega) (by omega) (by decide) rfl (hP _ _ _ rfl) ?_
  refine g_iconst (v := nI 4) dX11_nameHouse_54 (by decide) ?_
  refine g_aload_n dX11_nameHouse_55 rfl ?_
  refine g_getP dX11_nameHouse_56 fdX11_32 rfl (by first | rfl | exact pv_shx) (by omega) (by omega) (by decide) rfl (hP _ _ _ rfl) ?_
  refine g_getP dX11_nameHouse_59 fdX11_277 rfl (by first | rfl | exact pv_shx) (by omega) (by omega) (by decide) rfl (hP _ _ _ rfl) ?_
  refine g_iload_n dX11_nameHouse_62 rfl ?_
  refine p_callV (th _) okX7_thereIn lkX11_491 rfl (by first | rfl | exact pv_shx) rfl (by omega) (by omega) dX11_nameHouse_63 rfl (Nat.le_of_ble_eq_true rfl) (⟨by decide, by decide, by decide, by decide⟩) ?_
  refine n_iast dX11_nameHouse_66 (by first | rfl | exact pv_shx) (by omega) (by omega) (by omega) (by decide) (rfl) (by omega) (by repeat (first | exact pvu_s | exact pvuJ_s | apply pvu_in (by omega) | apply pvuJ_in (by omega) | exact pvu_pvs | exact pvuJ_pvs)) ?_
  exact g_vret dX11_nameHouse_67 rfl (⟨rfl, rfl, rfl, rfl, rfl⟩)
theorem nmF_ok {f : Nat → Int32} {k m g srt : Nat} (hsr : srt ≤ 1) (hm : m ≤ 99) (hg : g ≤ 100000) (h1 : cnt a (1080 + 5 * k + 1) ≤ 9) (h2 : cnt a (1080 + 5 * k + 2) ≤ 9) (h6 : cnt a 6 ≤ 60) : nmC (nmF f a k m g) srt (nmH a k g m 0 0 0) := fun i hi hbr => by
  have := bar_hou srt i hsr hi hbr
  have hs : hsP a k ≤ cnt a 6 := sp_ct_le _
  rcases (show i = 0 ∨ i = 1 ∨ i = 2 ∨ i = 3 ∨ i = 4 by omega) with rfl | rfl | rfl | rfl | rfl
  · exact ⟨nI_iI _, by show smI ((g : Nat) : Int); unfold smI; omega⟩
  · exact ⟨nI_iI _, by show smI ((cnt a (1080 + 5 * k + 1) : Nat) : Int); unfold smI; omega⟩
  · exact ⟨nI_iI _, by show smI ((cnt a (1080 + 5 * k + 2) : Nat) : Int); unfold smI; omega⟩
  · exact ⟨nI_iI _, by show smI ((m : Nat) : Int); unfold smI; omega⟩
  · exact ⟨nI_iI _, by show smI ((hsP a k : Nat) : Int); unfold smI; omega⟩
/-- a clause that asks -/
theorem c_valT {A j srt : Nat} {nm : Nat → Int} {cs : List pC} {cd : List Nat} (hP : pvOkP P) (hA : aAd A) (hc : cAct A I cs cd) (hcd : cd.length ≤ 300) (hj : j < cs.length) (hn : nmC (I 199) srt nm) (ho : okT srt (cs.getD j (0, 0, [])).2.2) : pvMet mX0_value 3 0 0 [.ref A, .int (nI j), .ref 199, .ref 200] 224 I J P (pvq P (fun v I' J' => v = some (.int (nI (if evT nm (cs.getD j (0, 0, [])).2.2 = true then 1 else 0))) ∧ J' = J ∧ ∃ f, I' = pvs I 200 f)) := by
  have va := c_value (J := J) hP hA hc hcd hj rfl hn ho.1 (ho.2 0)
  rw [evT_eq (nm := nm) ho] at va
  refine va.weaken ?_
  rintro v nx I' J' P' ⟨rfl, rfl, rfl, rfl, hf⟩
  refine ⟨rfl, rfl, ?_, rfl, hf⟩
  show some (Value.int (iI (bI (evT nm (cs.getD j (0, 0, [])).2.2)))) = _
  cases evT nm (cs.getD j (0, 0, [])).2.2 <;> rfl
theorem kB.n6' (hb : kB w h a I J) : cnt a 6 ≤ 60 := hb.n6.1
def byC (w h : Nat) (a : Nat → Int32) (I : pvI) (J : pvJ) (P : pvP) (r : Int32) : pvQT := pvq P (fun v I' J' => v = some (.int r) ∧ kB w h a I' J' ∧ byF I J I' J')
theorem c_shutOf {k m g : Nat} (hP : pvOkP P) (hb : kB w h a I J) (hA : cActs (cnt a 8) cl I) (hse : seenT w h a g I J) (hmg : m ≤ g) (hg : g ≤ 99) (hc0 : min 99 (cnt a 0) ≤ g) (hk : k < cnt a 5) : pvMet mX11_shutOf 4 0 0 [.ref 1, .int (nI k), .int (nI m)] 224 I J P (byC w h a I J P (nI (shutN w h a cl k m))) := by
  have hi := hb.2.2.2.2
  obtain ⟨k20, k1, k2, -, -⟩ := hb.hou hk
  have n8 := hb.n9.2.2.1
  have n3 := hb.n3.1
  have hwh := hb.1.wh
  have af := c_actFor (s := 0) (m := m) hP hb hA (by decide) (by omega)
  unfold shutN
  unfold cfN
  cases hp : afN a cl 0 m (cnt a 9) with
  | none =>
    rw [hp] at af
    refine pvMet.of _ (by decide) rfl (Nat.le_of_ble_eq_true rfl) ?_
    refine g_aload_n dX11_shutOf_0 rfl ?_
    refine g_iconst (v := nI 0) dX11_shutOf_1 (by decide) ?_
    refine g_iload_n dX11_shutOf_2 rfl ?_
    refine p_callV (af) okX11_actFor lkX11_365 rfl (by first | rfl | exact pv_shx) rfl (by omega) (by omega) dX11_shutOf_3 rfl (Nat.le_of_ble_eq_true rfl) (⟨by decide, by decide, by decide, by decide⟩) ?_
    refine g_astore_nN dX11_shutOf_6 (by decide) rfl ?_
    refine g_aload_nN dX11_shutOf_7 rfl ?_
    refine g_ifnonnullN dX11_shutOf_8 ?_
    refine g_iconst (v := nI 0) dX11_shutOf_11 (by decide) ?_
    exact g_iret dX11_shutOf_12 rfl (⟨rfl, rfl, rfl, hb, byF.rf⟩)
  | some t =>
    rw [hp] at af
    obtain ⟨t1, t2⟩ := afN_some hi.2.2.2.2.1 n8 (Nat.le_refl _) hp
    obtain ⟨o1, cd, o2, o3⟩ := hA t t1
    have hAd : aAd (149 + 5 * t) := ⟨t, by omega, rfl⟩
    have fi := c_first (J := J) hP hAd o3 (s := 0) (by decide)
    have sh := hAd.sh.1.1
    cases hf1 : fstC (cl t) 0 with
    | none => exact absurd hf1 t2
    | some j =>
      rw [hf1] at fi
      obtain ⟨j1, j2⟩ := fstC_some hf1
      have j20 := o3.2.1
      have ok : okT 0 ((cl t).getD j (0, 0, [])).2.2 := by
        have := (o1 _ (getD_mem j1)).2.2.2
        rw [j2] at this
        exact this (by decide)
      have ln := c_letNow hP hb hse hc0
      have g1 := c_gasOf (hi := nI 0) (high := false) hP hb hse hmg hg hk (by decide)
      have gl := gasN_le (w := w) (h := h) (a := a) (k := k) (m := m) (high := false) hwh.2 k1
      have gh := gasN_le (w := w) (h := h) (a := a) (k := k) (m := m) (high := true) hwh.2 k1
      have nh := c_nameHouse (m := m) (g := gasN w h a k m false) hP hb hk
      have hb1 : ∀ f f2, kB w h a (pvs (pvs I 199 f) 200 f2) J := fun f f2 => hb.far (fun x hx => by rw [pvs_ne (by omega), pvs_ne (by omega)]) (fun _ _ => rfl)
      have hs1 : ∀ f f2, seenT w h a g (pvs (pvs I 199 f) 200 f2) J := fun f f2 => hse.far n3 (fun x hx => by rw [pvs_ne (by omega), pvs_ne (by omega)]) (fun _ _ => rfl)
      have g2 := fun f f2 => c_gasOf (hi := nI 1) (high := true) hP (hb1 f f2) (hs1 f f2) hmg hg hk (by decide)
      have v1 := c_valT (J := J) (I := pvs I 199 (nmF (I 199) a k m (gasN w h a k m false))) hP hAd (o3.mv (fun x z1 z2 => pvs_ne (by omega))) o2 j1 (by rw [pvs_eq]; exact nmF_ok (srt := 0) (by decide) (by omega) gl k1 k2 hb.n6') ok
      have v2 := fun f2 => c_valT (J := J) (I := pvs (pvs I 199 (upd (nmF (I 199) a k m (gasN w h a k m false)) 0 (nI (gasN w h a k m true)))) 200 f2) (nm := nmH a k (gasN w h a k m true) m 0 0 0) hP hAd (o3.mv (fun x z1 z2 => by rw [pvs_ne (by omega), pvs_ne (by omega)])) o2 j1 (by
        rw [pvs_ne (by decide), pvs_eq]
        have e : upd (nmF (I 199) a k m (gasN w h a k m false)) 0 (nI (gasN w h a k m true)) = nmF (I 199) a k m (gasN w h a k m true) := by
          funext z
          unfold nmF
          by_cases z0 : z = 0
          · subst z0; simp [upd]
          · simp [upd, z0]
        rw [e]
        exact nmF_ok (srt := 0) (by decide) (by omega) gh k1 k2 hb.n6') ok
      have ecf : (some t).bind (fun t => (fstC (cl t) 0).map (fun j => (t, j))) = some (t, j) := by show (fstC (cl t) 0).map _ = _; rw [hf1]; rfl
      rw [ecf]
      show pvMet _ _ _ _ _ _ _ _ _ (byC w h a I J P (nI ((if evT (nmH a k (gasN w h a k m false) m 0 0 0) ((cl t).getD j (0, 0, [])).2.2 = true then 1 else 0) + (if evT (nmH a k (gasN w h a k m true) m 0 0 0) ((cl t).getD j (0, 0, [])).2.2 = true then 1 else 0))))
      generalize (if evT (nmH a k (gasN w h a k m false) m 0 0 0) ((cl t).getD j (0, 0, [])).2.2 = true then 1 else 0) = r1 at *
      generalize (if evT (nmH a k (gasN w h a k m true) m 0 0 0) ((cl t).getD j (0, 0, [])).2.2 = true then 1 else 0) = r2 at *
      refine pvMet.of _ (by decide) rfl (Nat.le_of_ble_eq_true rfl) ?_
      refine g_aload_n dX11_shutOf_0 rfl ?_
      refine g_iconst (v := nI 0) dX11_shutOf_1 (by decide) ?_
      refine g_iload_n dX11_shutOf_2 rfl ?_
      refine p_callV (af) okX11_actFor lkX11_365 rfl (by first | rfl | exact pv_shx) rfl (by omega) (by omega) dX11_shutOf_3 rfl (Nat.le_of_ble_eq_true rfl) (⟨by decide, by decide, by decide, by decide⟩) ?_
      refine g_astore_n dX11_shutOf_6 (by decide) rfl ?_
      refine g_aload_n dX11_shutOf_7 rfl ?_
      refine g_ifnonnull 13 dX11_shutOf_8 (by decide) ?_
      refine g_aload_n dX11_shutOf_13 rfl ?_
      refine g_iconst (v := nI 0) dX11_shutOf_14 (by decide) ?_
      refine p_callV (fi) okX0_first lkX11_485 rfl (sh) rfl (by omega) (by omega) dX11_shutOf_15 rfl (Nat.le_of_ble_eq_true rfl) (⟨by decide, by decide, by decide, by decide⟩) ?_
      refine g_istore dX11_shutOf_18 (by decide) rfl ?_
      refine g_aload_n dX11_shutOf_20 rfl ?_
      refine p_callV (ln) okX11_letNow lkX11_239 rfl (by first | rfl | exact pv_shx) rfl (by omega) (by omega) dX11_shutOf_21 rfl (Nat.le_of_ble_eq_true rfl) (⟨by decide, by decide, by decide, by decide⟩) ?_
      refine g_istore dX11_shutOf_24 (by decide) rfl ?_
      refine g_aload_n dX11_shutOf_26 rfl ?_
      refine g_iload_n dX11_shutOf_27 rfl ?_
      refine g_iload_n dX11_shutOf_28 rfl ?_
      refine g_aload_n dX11_shutOf_29 rfl ?_
      refine g_iload_n dX11_shutOf_30 rfl ?_
      refine g_iload_n dX11_shutOf_31 rfl ?_
      refine g_iconst (v := nI 0) dX11_shutOf_32 (by decide) ?_
      refine g_iload dX11_shutOf_33 rfl ?_
      refine p_callV (g1) okX11_gasOf lkX11_290 rfl (by first | rfl | exact pv_shx) rfl (by omega) (by omega) dX11_shutOf_35 rfl (Nat.le_of_ble_eq_true rfl) (⟨by decide, by decide, by decide, by decide⟩) ?_
      refine g_callV (nh) okX11_nameHouse lkX11_494 rfl (by first | rfl | exact pv_shx) rfl (by omega) (by omega) dX11_shutOf_38 rfl (Nat.le_of_ble_eq_true rfl) (⟨by decide, by decide, by decide, by decide⟩) ?_
      rintro v nx' I1 J1 P1 ⟨rfl, rfl, rfl, rfl, rfl⟩
      refine g_aload_n dX11_shutOf_41 rfl ?_
      refine g_iload dX11_shutOf_42 rfl ?_
      refine g_aload_n dX11_shutOf_44 rfl ?_
      refine g_getP dX11_shutOf_45 fdX11_64 rfl (by first | rfl | exact pv_shx) (by omega) (by omega) (by decide) rfl (hP _ _ _ rfl) ?_
      refine g_aload_n dX11_shutOf_48 rfl ?_
      refine g_getP dX11_shutOf_49 fdX11_68 rfl (by first | rfl | exact pv_shx) (by omega) (by omega) (by decide) rfl (hP _ _ _ rfl) ?_
      refine g_callV (v1) okX0_value lkX11_378 rfl (sh) rfl (by omega) (by omega) dX11_shutOf_52 rfl (Nat.le_of_ble_eq_true rfl) (⟨by decide, by decide, by decide, by decide⟩) ?_
      rintro v nx' I2 J2 P2 ⟨rfl, rfl, rfl, rfl, f2, rfl⟩
      refine g_istore dX11_shutOf_55 (by decide) rfl ?_
      refine g_aload_n dX11_shutOf_57 rfl ?_
      refine g_getP dX11_shutOf_58 fdX11_64 rfl (by first | rfl | exact pv_shx) (by omega) (by omega) (by decide) rfl (hP _ _ _ rfl) ?_
      refine g_iconst (v := nI 0) dX11_shutOf_61 (by decide) ?_
      refine g_aload_n dX11_shutOf_62 rfl ?_
      refine g_iload_n dX11_shutOf_63 rfl ?_
      refine g_iload_n dX11_shutOf_64 rfl ?_
      refine g_iconst (v := nI 1) dX11_shutOf_65 (by decide) ?_
      refine g_iload dX11_shutOf_66 rfl ?_
      refine p_callV (g2 _ _) okX11_gasOf lkX11_290 rfl (by first | rfl | exact pv_shx) rfl (by omega) (by omega) dX11_shutOf_68 rfl (Nat.le_of_ble_eq_true rfl) (⟨by decide, by decide, by decide, by decide⟩) ?_
      refine n_iast dX11_shutOf_71 (by first | rfl | exact pv_shx) (by omega) (by omega) (by omega) (by decide) (rfl) (by omega) (by repeat (first | exact pvu_s | exact pvuJ_s | apply pvu_in (by omega) | apply pvuJ_in (by omega) | exact pvu_pvs | exact pvuJ_pvs)) ?_
      refine g_iload dX11_shutOf_72 rfl ?_
      refine g_aload_n dX11_shutOf_74 rfl ?_
      refine g_iload dX11_shutOf_75 rfl ?_
      refine g_aload_n dX11_shutOf_77 rfl ?_
      refine g_getP dX11_shutOf_78 fdX11_64 rfl (by first | rfl | exact pv_shx) (by omega) (by omega) (by decide) rfl (hP _ _ _ rfl) ?_
      refine g_aload_n dX11_shutOf_81 rfl ?_
      refine g_getP dX11_shutOf_82 fdX11_68 rfl (by first | rfl | exact pv_shx) (by omega) (by omega) (by decide) rfl (hP _ _ _ rfl) ?_
      refine g_callV (v2 f2) okX0_value lkX11_378 rfl (sh) rfl (by omega) (by omega) dX11_shutOf_85 rfl (Nat.le_of_ble_eq_true rfl) (⟨by decide, by decide, by decide, by decide⟩) ?_
      rintro v nx' I2 J2 P2 ⟨rfl, rfl, rfl, rfl, f3, rfl⟩
      refine n_iadd dX11_shutOf_88 (by first | (with_reducible exact nI_add _ _) | rfl) ?_
      exact g_iret dX11_shutOf_89 rfl (⟨rfl, rfl, rfl, hb.far (fun x hx => by rw [pvs_ne (by omega), pvs_ne (by omega), pvs_ne (by omega)]) (fun _ _ => rfl), fun x hx => ⟨by rw [pvs_ne (by omega), pvs_ne (by omega), pvs_ne (by omega)], rfl⟩⟩)
theorem c_worthOf {k m g : Nat} {wg : Bool} (hP : pvOkP P) (hb : kB w h a I J) (hA : cActs (cnt a 8) cl I) (hse : seenT w h a g I J) (hmg : m ≤ g) (hg : g ≤ 99) (hc0 : min 99 (cnt a 0) ≤ g) (hk : k < cnt a 5) : pvMet mX11_worthOf 4 0 0 [.ref 1, .int (nI k), .int (nI m), .int (if wg = true then nI 1 else nI 0)] 224 I J P (byC w h a I J P (nI (worthN a cl k m (if wg = true then gasN w h a k m true else 0)))) := by
  have hi := hb.2.2.2.2
  obtain ⟨k20, k1, k2, -, r30⟩ := hb.hou hk
  have n8 := hb.n9.2.2.1
  have hwh := hb.1.wh
  have af := c_actFor (s := 1) (m := m) hP hb hA (by decide) (by omega)
  unfold worthN
  unfold cfN
  cases hp : afN a cl 1 m (cnt a 9) with
  | none =>
    rw [hp] at af
    refine pvMet.of _ (by decide) rfl (Nat.le_of_ble_eq_true rfl) ?_
    refine g_aload_n dX11_worthOf_0 rfl ?_
    refine g_iconst (v := nI 1) dX11_worthOf_1 (by decide) ?_
    refine g_iload_n dX11_worthOf_2 rfl ?_
    refine p_callV (af) okX11_actFor lkX11_365 rfl (by first | rfl | exact pv_shx) rfl (by omega) (by omega) dX11_worthOf_3 rfl (Nat.le_of_ble_eq_true rfl) (⟨by decide, by decide, by decide, by decide⟩) ?_
    refine g_astoreN dX11_worthOf_6 (by decide) rfl ?_
    refine g_aloadN dX11_worthOf_8 rfl ?_
    refine g_ifnonnullN dX11_worthOf_10 ?_
    refine g_aload_n dX11_worthOf_13 rfl ?_
    refine g_getP dX11_worthOf_14 fdX11_32 rfl (by first | rfl | exact pv_shx) (by omega) (by omega) (by decide) rfl (hP _ _ _ rfl) ?_
    refine g_getP dX11_worthOf_17 fdX11_277 rfl (by first | rfl | exact pv_shx) (by omega) (by omega) (by decide) rfl (hP _ _ _ rfl) ?_
    refine g_getP dX11_worthOf_20 fdX11_488 rfl (by first | rfl | exact pv_shx) (by omega) (by omega) (by decide) rfl (hP _ _ _ rfl) ?_
    refine g_iload_n dX11_worthOf_23 rfl ?_
    refine n_iald dX11_worthOf_24 (by first | rfl | exact pv_shx) (by omega) (by omega) (by decide) (rfl) (by omega) (by repeat (first | exact r30 | (apply rd_s; done) | apply rd_n (by omega) | apply rp_s | apply rp_n (by omega) | (apply rdL_s; done) | apply rdL_n (by omega) | apply rpJ_s | apply rpJ_n (by omega) | rfl)) ?_
    refine g_bipush (v := nI 100) dX11_worthOf_25 (by decide) ?_
    refine n_imul dX11_worthOf_27 ((pk_mul _ _).trans (congrArg nI (Nat.mul_comm _ _))) ?_
    exact g_iret dX11_worthOf_28 rfl (⟨rfl, rfl, rfl, hb, byF.rf⟩)
  | some t =>
    rw [hp] at af
    obtain ⟨t1, t2⟩ := afN_some hi.2.2.2.2.1 n8 (Nat.le_refl _) hp
    obtain ⟨o1, cd, o2, o3⟩ := hA t t1
    have hAd : aAd (149 + 5 * t) := ⟨t, by omega, rfl⟩
    have sh := hAd.sh.1.1
    cases hf1 : fstC (cl t) 1 with
    | none => exact absurd hf1 t2
    | some j =>
      obtain ⟨j1, j2⟩ := fstC_some hf1
      have j20 := o3.2.1
      have ok : okV 1 ((cl t).getD j (0, 0, [])).2.2 := by
        have := (o1 _ (getD_mem j1)).2.2.1
        rw [j2] at this
        exact this rfl
      have fi := fun f => c_first (I := pvs I 199 f) (J := J) hP hAd (o3.mv (fun x z1 z2 => pvs_ne (by omega))) (s := 1) (by decide)
      rw [hf1] at fi
      have ln := c_letNow hP hb hse hc0
      have g1 := c_gasOf (hi := nI 1) (high := true) hP hb hse hmg hg hk (by decide)
      have gh := gasN_le (w := w) (h := h) (a := a) (k := k) (m := m) (high := true) hwh.2 k1
      generalize hgv : (if wg = true then gasN w h a k m true else 0) = gv
      have gvl : gv ≤ 100000 := by rw [← hgv]; split <;> omega
      have nh := c_nameHouse (m := m) (g := gv) hP hb hk
      have hnm := nmF_ok (f := I 199) (srt := 1) (a := a) (k := k) (m := m) (g := gv) (by decide) (by omega) gvl k1 k2 hb.n6'
      have va := c_value (J := J) (P := P) (I := pvs I 199 (nmF (I 199) a k m gv)) hP hAd (o3.mv (fun x z1 z2 => pvs_ne (by omega))) o2 j1 rfl (by rw [pvs_eq]; exact hnm) ok.1 (ok.2 0 0)
      have hev := evV_eq (nm := nmH a k gv m 0 0 0) ok
      have sv : smI (evV (nmH a k gv m 0 0 0) ((cl t).getD j (0, 0, [])).2.2) := evL_sm (srt := 1) (nm := nmH a k gv m 0 0 0) (fun i hi hbr => (hnm i hi hbr).2) (st := ([], [])) ok.1 (fun v hv => absurd hv List.not_mem_nil) _ (by rw [hev]; exact List.mem_cons_self)
      rw [hev] at va
      replace va : pvMet mX0_value 3 0 0 [.ref (149 + 5 * t), .int (nI j), .ref 199, .ref 200] 224 (pvs I 199 (nmF (I 199) a k m gv)) J P (vaQ (pvs I 199 (nmF (I 199) a k m gv)) J P (evV (nmH a k gv m 0 0 0) ((cl t).getD j (0, 0, [])).2.2)) := va
      have ecf : (some t).bind (fun t => (fstC (cl t) 1).map (fun j => (t, j))) = some (t, j) := by show (fstC (cl t) 1).map _ = _; rw [hf1]; rfl
      rw [ecf]
      show pvMet _ _ _ _ _ _ _ _ _ (byC w h a I J P (nI (evV (nmH a k gv m 0 0 0) ((cl t).getD j (0, 0, [])).2.2).toNat))
      generalize evV (nmH a k gv m 0 0 0) ((cl t).getD j (0, 0, [])).2.2 = v at *
      have ev := iI_toInt sv
      have e74 : (if nI 0 < iI v then iI v else nI 0) = nI v.toNat := by
        have hlt : nI 0 < iI v ↔ 0 < v := cI_lt.trans (by rw [ev]; exact Iff.rfl)
        by_cases c : 0 < v
        · rw [if_pos (hlt.mpr c), nI_iI, Int.toNat_of_nonneg (by omega)]
        · rw [if_neg (fun z => c (hlt.mp z)), show v.toNat = 0 by omega]
      have fin : ∀ f3, byC w h a I J P (nI v.toNat) (some (.int (nI v.toNat))) 224 (pvs (pvs I 199 (nmF (I 199) a k m gv)) 200 f3) J P := fun f3 => ⟨rfl, rfl, rfl, hb.far (fun x hx => by rw [pvs_ne (by omega), pvs_ne (by omega)]) (fun _ _ => rfl), fun x hx => ⟨by rw [pvs_ne (by omega), pvs_ne (by omega)], rfl⟩⟩
      cases wg with
      | true =>
        replace hgv : gasN w h a k m true = gv := hgv
        rw [hgv] at g1
        refine pvMet.of _ (by decide) rfl (Nat.le_of_ble_eq_true rfl) ?_
        refine g_aload_n dX11_worthOf_0 rfl ?_
        refine g_iconst (v := nI 1) dX11_worthOf_1 (by decide) ?_
        refine g_iload_n dX11_worthOf_2 rfl ?_
        refine p_callV (af) okX11_actFor lkX11_365 rfl (by first | rfl | exact pv_shx) rfl (by omega) (by omega) dX11_worthOf_3 rfl (Nat.le_of_ble_eq_true rfl) (⟨by decide, by decide, by decide, by decide⟩) ?_
        refine g_astore dX11_worthOf_6 (by decide) rfl ?_
        refine g_aload dX11_worthOf_8 rfl ?_
        refine g_ifnonnull 29 dX11_worthOf_10 (by decide) ?_
        refine g_aload_n dX11_worthOf_29 rfl ?_
        refine g_iload_n dX11_worthOf_30 rfl ?_
        refine g_iload_n dX11_worthOf_31 rfl ?_
        refine g_iload_n dX11_worthOf_32 rfl ?_
        refine n_if_eq 50 dX11_worthOf_33 (by decide) ((by decide : ((if true = true then nI 1 else nI 0 : Int32) = 0) ↔ False)) (fun c33 => by exfalso; first | omega | exact absurd trivial c33 | exact c33 | (simp at c33)) (fun c33 => ?_)
        refine g_aload_n dX11_worthOf_36 rfl ?_
        refine g_iload_n dX11_worthOf_37 rfl ?_
        refine g_iload_n dX11_worthOf_38 rfl ?_
        refine g_iconst (v := nI 1) dX11_worthOf_39 (by decide) ?_
        refine g_aload_n dX11_worthOf_40 rfl ?_
        refine p_callV (ln) okX11_letNow lkX11_239 rfl (by first | rfl | exact pv_shx) rfl (by omega) (by omega) dX11_worthOf_41 rfl (Nat.le_of_ble_eq_true rfl) (⟨by decide, by decide, by decide, by decide⟩) ?_
        refine p_callV (g1) okX11_gasOf lkX11_290 rfl (by first | rfl | exact pv_shx) rfl (by omega) (by omega) dX11_worthOf_44 rfl (Nat.le_of_ble_eq_true rfl) (⟨by decide, by decide, by decide, by decide⟩) ?_
        refine g_goto 51 dX11_worthOf_47 (by decide) ?_
        refine g_callV (nh) okX11_nameHouse lkX11_494 rfl (by first | rfl | exact pv_shx) rfl (by omega) (by omega) dX11_worthOf_51 rfl (Nat.le_of_ble_eq_true rfl) (⟨by decide, by decide, by decide, by decide⟩) ?_
        rintro v' nx' I1 J1 P1 ⟨rfl, rfl, rfl, rfl, rfl⟩
        refine g_iconst (v := nI 0) dX11_worthOf_54 (by decide) ?_
        refine g_aload dX11_worthOf_55 rfl ?_
        refine g_aload dX11_worthOf_57 rfl ?_
        refine g_iconst (v := nI 1) dX11_worthOf_59 (by decide) ?_
        refine p_callV (fi _) okX0_first lkX11_485 rfl (sh) rfl (by omega) (by omega) dX11_worthOf_60 rfl (Nat.le_of_ble_eq_true rfl) (⟨by decide, by decide, by decide, by decide⟩) ?_
        refine g_aload_n dX11_worthOf_63 rfl ?_
        refine g_getP dX11_worthOf_64 fdX11_64 rfl (by first | rfl | exact pv_shx) (by omega) (by omega) (by decide) rfl (hP _ _ _ rfl) ?_
        refine g_aload_n dX11_worthOf_67 rfl ?_
        refine g_getP dX11_worthOf_68 fdX11_68 rfl (by first | rfl | exact pv_shx) (by omega) (by omega) (by decide) rfl (hP _ _ _ rfl) ?_
        refine g_callV (va) okX0_value lkX11_378 rfl (sh) rfl (by omega) (by omega) dX11_worthOf_71 rfl (Nat.le_of_ble_eq_true rfl) (⟨by decide, by decide, by decide, by decide⟩) ?_
        rintro v' nx' I2 J2 P2 ⟨rfl, rfl, rfl, rfl, f3, rfl⟩
        refine g_mmax dX11_worthOf_74 lkX11_15 (by decide) (Nat.le_of_ble_eq_true rfl) (by decide) (by decide) (e74) ?_
        exact g_iret dX11_worthOf_77 rfl (fin f3)
      | false =>
        replace hgv : 0 = gv := hgv
        subst hgv
        refine pvMet.of _ (by decide) rfl (Nat.le_of_ble_eq_true rfl) ?_
        refine g_aload_n dX11_worthOf_0 rfl ?_
        refine g_iconst (v := nI 1) dX11_worthOf_1 (by decide) ?_
        refine g_iload_n dX11_worthOf_2 rfl ?_
        refine p_callV (af) okX11_actFor lkX11_365 rfl (by first | rfl | exact pv_shx) rfl (by omega) (by omega) dX11_worthOf_3 rfl (Nat.le_of_ble_eq_true rfl) (⟨by decide, by decide, by decide, by decide⟩) ?_
        refine g_astore dX11_worthOf_6 (by decide) rfl ?_
        refine g_aload dX11_worthOf_8 rfl ?_
        refine g_ifnonnull 29 dX11_worthOf_10 (by decide) ?_
        refine g_aload_n dX11_worthOf_29 rfl ?_
        refine g_iload_n dX11_worthOf_30 rfl ?_
        refine g_iload_n dX11_worthOf_31 rfl ?_
        refine g_iload_n dX11_worthOf_32 rfl ?_
        refine n_if_eq 50 dX11_worthOf_33 (by decide) ((by decide : ((if false = true then nI 1 else nI 0 : Int32) = 0) ↔ True)) (fun c33 => ?_) (fun c33 => by exfalso; first | omega | exact absurd trivial c33 | exact c33 | (simp at c33))
        refine g_iconst (v := nI 0) dX11_worthOf_50 (by decide) ?_
        refine g_callV (nh) okX11_nameHouse lkX11_494 rfl (by first | rfl | exact pv_shx) rfl (by omega) (by omega) dX11_worthOf_51 rfl (Nat.le_of_ble_eq_true rfl) (⟨by decide, by decide, by decide, by decide⟩) ?_
        rintro v' nx' I1 J1 P1 ⟨rfl, rfl, rfl, rfl, rfl⟩
        refine g_iconst (v := nI 0) dX11_worthOf_54 (by decide) ?_
        refine g_aload dX11_worthOf_55 rfl ?_
        refine g_aload dX11_worthOf_57 rfl ?_
        refine g_iconst (v := nI 1) dX11_worthOf_59 (by decide) ?_
        refine p_callV (fi _) okX0_first lkX11_485 rfl (sh) rfl (by omega) (by omega) dX11_worthOf_60 rfl (Nat.le_of_ble_eq_true rfl) (⟨by decide, by decide, by decide, by decide⟩) ?_
        refine g_aload_n dX11_worthOf_63 rfl ?_
        refine g_getP dX11_worthOf_64 fdX11_64 rfl (by first | rfl | exact pv_shx) (by omega) (by omega) (by decide) rfl (hP _ _ _ rfl) ?_
        refine g_aload_n dX11_worthOf_67 rfl ?_
        refine g_getP dX11_worthOf_68 fdX11_68 rfl (by first | rfl | exact pv_shx) (by omega) (by omega) (by decide) rfl (hP _ _ _ rfl) ?_
        refine g_callV (va) okX0_value lkX11_378 rfl (sh) rfl (by omega) (by omega) dX11_worthOf_71 rfl (Nat.le_of_ble_eq_true rfl) (⟨by decide, by decide, by decide, by decide⟩) ?_
        rintro v' nx' I2 J2 P2 ⟨rfl, rfl, rfl, rfl, f3, rfl⟩
        refine g_mmax dX11_worthOf_74 lkX11_15 (by decide) (Nat.le_of_ble_eq_true rfl) (by decide) (by decide) (e74) ?_
        exact g_iret dX11_worthOf_77 rfl (fin f3)
end BYC
