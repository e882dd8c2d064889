/-! class: whose -/
section WHO
variable {w h : Nat} {a : Nat → Int32} {cl : Nat → List pC} {I : pvI} {J : pvJ} {P : pvP}
theorem nmW_ok {f : Nat → Int32} {m T : Nat} (h3 : f 3 = nI m) (h4 : f 4 = nI T) (hT : T = sp_ct (poP a (-1)) (cnt a 6)) (hm : m ≤ 99) (hl : T ≤ 60) : nmC f 2 (nmW a m) := fun i hi hbr => by
  rcases bar_who i hi hbr with rfl | rfl
  · exact ⟨h3.trans (nI_iI _), by show smI ((m : Nat) : Int); unfold smI; omega⟩
  · refine ⟨h4.trans ?_, ?_⟩
    · rw [hT]; exact nI_iI _
    · show smI ((sp_ct (poP a (-1)) (cnt a 6) : Nat) : Int)
      rw [← hT]; unfold smI; omega
theorem c_whose {m : Int32} (hP : pvOkP P) (hb : kB w h a I J) (hA : cActs (cnt a 8) cl I) : pvMet mX11_whose 4 0 0 [.ref 1, .int m] 224 I J P (byC w h a I J P (sp_whose a cl m)) := by
  have hi := hb.2.2.2.2
  have n8 := hb.n9.2.2.1
  have n6 := hb.n6.1
  obtain ⟨hTl, r6, hsub⟩ := people_there hb
  have iw := c_isWeek (nx := 224) (v := m) (I := I) (J := J) (P := P)
  by_cases hm : 0 ≤ m.toInt ∧ m.toInt ≤ 99
  · rw [if_pos hm] at iw
    obtain ⟨mn, hmn, rfl⟩ := cI_of (x := m) (n := 100) (by omega) (by omega) (by omega)
    have af := c_actFor (s := 2) (m := mn) hP hb hA (by decide) (by omega)
    rw [sp_whose, if_pos hm, nI_clamp (by omega)]
    unfold whoN
    generalize hT : sp_ct (poP a (-1)) (cnt a 6) = T at *
    cases hp : afN a cl 2 mn (cnt a 9) with
    | none =>
      rw [hp] at af
      refine pvMet.of _ (by decide) rfl (Nat.le_of_ble_eq_true rfl) ?_
      refine g_iload_n dX11_whose_0 rfl ?_
      refine p_callS (iw) okX11_isWeek lkX11_160 rfl dX11_whose_1 rfl (Nat.le_of_ble_eq_true rfl) (⟨by decide, by decide, by decide, by decide⟩) ?_
      refine n_if_eq 16 dX11_whose_4 (by decide) (by first | (with_reducible exact cB _) | ((with_reducible apply cN_eq0) <;> omega) | exact Iff.rfl) (fun c4 => by exfalso; first | omega | exact absurd trivial c4 | exact c4 | (simp at c4)) (fun c4 => ?_)
      refine g_aload_n dX11_whose_7 rfl ?_
      refine g_iconst (v := nI 2) dX11_whose_8 (by decide) ?_
      refine g_iload_n dX11_whose_9 rfl ?_
      refine p_callV (af) okX11_actFor lkX11_365 rfl (by first | rfl | exact pv_shx) rfl (by omega) (by omega) dX11_whose_10 rfl (Nat.le_of_ble_eq_true rfl) (⟨by decide, by decide, by decide, by decide⟩) ?_
      refine g_goto 17 dX11_whose_13 (by decide) ?_
      refine g_astore_nN dX11_whose_17 (by decide) rfl ?_
      refine g_aload_nN dX11_whose_18 rfl ?_
      refine g_ifnonnullN dX11_whose_19 ?_
      refine g_iconst (v := (-1)) dX11_whose_22 (by decide) ?_
      exact g_iret dX11_whose_23 rfl (⟨rfl, rfl, rfl, hb, byF.rf⟩)
    | some t =>
      rw [hp] at af
      refine pvMet.of _ (by decide) rfl (Nat.le_of_ble_eq_true rfl) ?_
      refine g_iload_n dX11_whose_0 rfl ?_
      refine p_callS (iw) okX11_isWeek lkX11_160 rfl dX11_whose_1 rfl (Nat.le_of_ble_eq_true rfl) (⟨by decide, by decide, by decide, by decide⟩) ?_
      refine n_if_eq 16 dX11_whose_4 (by decide) (by first | (with_reducible exact cB _) | ((with_reducible apply cN_eq0) <;> omega) | exact Iff.rfl) (fun c4 => by exfalso; first | omega | exact absurd trivial c4 | exact c4 | (simp at c4)) (fun c4 => ?_)
      refine g_aload_n dX11_whose_7 rfl ?_
      refine g_iconst (v := nI 2) dX11_whose_8 (by decide) ?_
      refine g_iload_n dX11_whose_9 rfl ?_
      refine p_callV (af) okX11_actFor lkX11_365 rfl (by first | rfl | exact pv_shx) rfl (by omega) (by omega) dX11_whose_10 rfl (Nat.le_of_ble_eq_true rfl) (⟨by decide, by decide, by decide, by decide⟩) ?_
      refine g_goto 17 dX11_whose_13 (by decide) ?_
      refine g_astore_n dX11_whose_17 (by decide) rfl ?_
      refine g_aload_n dX11_whose_18 rfl ?_
      refine g_ifnonnull 24 dX11_whose_19 (by decide) ?_
      obtain ⟨t1, t2⟩ := afN_some hi.2.2.2.2.1 n8 (Nat.le_refl _) hp
      obtain ⟨o1, cd, o2, o3⟩ := hA t t1
      have hAd : aAd (149 + 5 * t) := ⟨t, by omega, rfl⟩
      obtain ⟨⟨s0, s1, s2, s3, s4⟩, h149, h194⟩ := hAd.sh
      obtain ⟨p2, p3, p4, p5⟩ := hAd.pp hP
      have w27 := fun f => c_went (P := P) hP (hb.far (I' := pvs I 199 f) (J' := J) (fun x hx => pvs_ne (by omega)) (fun _ _ => rfl))
      have a20 := o3.2.1
      generalize hf : upd (upd (I 199) 3 (nI mn)) 4 (nI T) = fn
      have hnm : nmC fn 2 (nmW a mn) := nmW_ok (T := T) (by rw [← hf]; simp [upd]) (by rw [← hf]; simp [upd]) hT.symm (by omega) (by omega)
      have lp : ∀ q i f2, i + q = (cl t).length → fdF (whB a mn (cl t)) q i = fdF (whB a mn (cl t)) (cl t).length 0 → pvG mX11_whose (pvR 4 0 0) (pvZ (byC w h a I J P (stv ((fdF (whB a mn (cl t)) (cl t).length 0).map (fun j => ((cl t).getD j (0, 0, [])).2.1)))) 0 0) 60 [.ref 1, .int (nI mn), .ref (149 + 5 * t), .int (nI i)] [] 0 0 224 (pvs (pvs I 199 fn) 200 f2) J P := by
        intro q
        induction q with
        | zero =>
          intro i f2 hi he
          obtain rfl : i = (cl t).length := by omega
          have he : (none : Option Nat) = fdF (whB a mn (cl t)) (cl t).length 0 := he
          rw [← he]
          have c0 : pvs (pvs I 199 fn) 200 f2 (149 + 5 * t) 0 = nI (cl t).length := by rw [pvs_ne (by omega), pvs_ne (by omega)]; exact o3.1
          refine g_iload_n dX11_whose_60 rfl ?_
          refine g_aload_n dX11_whose_61 rfl ?_
          refine n_getI dX11_whose_62 fdX11_372 rfl (by first | exact s0 | rfl) (by omega) (by omega) (by decide) rfl (by repeat (first | exact c0 | (apply rd_s; done) | apply rd_n (by omega) | apply rp_s | apply rp_n (by omega) | (apply rdL_s; done) | apply rdL_n (by omega) | apply rpJ_s | apply rpJ_n (by omega) | rfl)) ?_
          refine n_icmp_ge 107 dX11_whose_65 (by decide) (by first | ((with_reducible apply cN_le) <;> omega) | ((with_reducible apply cI_len) <;> omega) | ((with_reducible apply cI_nle) <;> omega) | (with_reducible exact cI_le)) (fun c65 => ?_) (fun c65 => by exfalso; first | omega | exact absurd trivial c65 | exact c65 | (simp at c65))
          refine g_iconst (v := (-1)) dX11_whose_107 (by decide) ?_
          exact g_iret dX11_whose_108 rfl (⟨rfl, rfl, rfl, hb.far (fun x hx => by rw [pvs_ne (by omega), pvs_ne (by omega)]) (fun _ _ => rfl), fun x hx => ⟨by rw [pvs_ne (by omega), pvs_ne (by omega)], rfl⟩⟩)
        | succ q ih =>
          intro i f2 hi he
          have es : fdF (whB a mn (cl t)) (q + 1) i = if whB a mn (cl t) i = true then some i else fdF (whB a mn (cl t)) q (i + 1) := rfl
          rw [es] at he
          have hmv : ∀ x, x ≠ 199 → x ≠ 200 → pvs (pvs I 199 fn) 200 f2 x = I x := fun x z1 z2 => by rw [pvs_ne z2, pvs_ne z1]
          have c0 : pvs (pvs I 199 fn) 200 f2 (149 + 5 * t) 0 = nI (cl t).length := by rw [hmv _ (by omega) (by omega)]; exact o3.1
          have cc := o3.2.2.2.2.1 i (by omega)
          have c1 : pvs (pvs I 199 fn) 200 f2 (149 + 5 * t + 1) i = nI ((cl t).getD i (0, 0, [])).1 := by rw [hmv _ (by omega) (by omega)]; exact cc.1
          have hc3 := o3.2.2.2.2.2 _ (getD_mem (show i < (cl t).length by omega))
          by_cases c : ((cl t).getD i (0, 0, [])).1 = 2
          · have ok : okT 2 ((cl t).getD i (0, 0, [])).2.2 := by
              have := (o1 _ (getD_mem (show i < (cl t).length by omega))).2.2.2
              rw [c] at this
              exact this (by decide)
            have va := c_valT (J := J) (P := P) (I := pvs (pvs I 199 fn) 200 f2) hP hAd (o3.mv (fun x z1 z2 => hmv x (by omega) (by omega))) o2 (show i < (cl t).length by omega) (by rw [pvs_ne (by decide), pvs_eq]; exact hnm) ok
            cases hev : evT (nmW a mn) ((cl t).getD i (0, 0, [])).2.2 with
            | true =>
              rw [hev, if_pos rfl] at va
              rw [if_pos (show whB a mn (cl t) i = true by unfold whB; rw [hev, decide_eq_true c]; rfl)] at he
              rw [← he]
              have ow : ∀ f3, pvs (pvs I 199 fn) 200 f3 (149 + 5 * t + 2) i = nI ((cl t).getD i (0, 0, [])).2.1 := fun f3 => by rw [pvs_ne (by omega), pvs_ne (by omega)]; exact cc.2.1 c
              refine g_iload_n dX11_whose_60 rfl ?_
              refine g_aload_n dX11_whose_61 rfl ?_
              refine n_getI dX11_whose_62 fdX11_372 rfl (by first | exact s0 | exact s1 | exact s2 | rfl) (by omega) (by omega) (by decide) rfl (by repeat (first | exact c0 | exact c1 | exact ow _ | (apply rd_s; done) | apply rd_n (by omega) | apply rp_s | apply rp_n (by omega) | (apply rdL_s; done) | apply rdL_n (by omega) | apply rpJ_s | apply rpJ_n (by omega) | rfl)) ?_
              refine n_icmp_ge 107 dX11_whose_65 (by decide) (by first | ((with_reducible apply cN_le) <;> omega) | ((with_reducible apply cI_len) <;> omega) | ((with_reducible apply cI_nle) <;> omega) | (with_reducible exact cI_le)) (fun c65 => by exfalso; first | omega | exact absurd trivial c65 | exact c65 | (simp at c65)) (fun c65 => ?_)
              refine g_aload_n dX11_whose_68 rfl ?_
              refine g_getP dX11_whose_69 fdX11_375 rfl (by first | exact s0 | exact s1 | exact s2 | rfl) (by omega) (by omega) (by decide) rfl (p2) ?_
              refine g_iload_n dX11_whose_72 rfl ?_
              refine n_iald dX11_whose_73 (by first | exact s0 | exact s1 | exact s2 | rfl) (by omega) (by omega) (by decide) (rfl) (by omega) (by repeat (first | exact c0 | exact c1 | exact ow _ | (apply rd_s; done) | apply rd_n (by omega) | apply rp_s | apply rp_n (by omega) | (apply rdL_s; done) | apply rdL_n (by omega) | apply rpJ_s | apply rpJ_n (by omega) | rfl)) ?_
              refine g_iconst (v := nI 2) dX11_whose_74 (by decide) ?_
              refine n_icmp_ne 101 dX11_whose_75 (by decide) (by first | ((with_reducible apply cN_eq) <;> omega) | ((with_reducible apply cI_eqn) <;> omega) | exact Iff.rfl) (fun c75 => by exfalso; first | omega | exact absurd trivial c75 | exact c75 | (simp at c75)) (fun c75 => ?_)
              refine g_aload_n dX11_whose_78 rfl ?_
              refine g_iload_n dX11_whose_79 rfl ?_
              refine g_aload_n dX11_whose_80 rfl ?_
              refine g_getP dX11_whose_81 fdX11_64 rfl (by first | exact s0 | exact s1 | exact s2 | rfl) (by omega) (by omega) (by decide) rfl (hP _ _ _ rfl) ?_
              refine g_aload_n dX11_whose_84 rfl ?_
              refine g_getP dX11_whose_85 fdX11_68 rfl (by first | exact s0 | exact s1 | exact s2 | rfl) (by omega) (by omega) (by decide) rfl (hP _ _ _ rfl) ?_
              refine g_callV (va) okX0_value lkX11_378 rfl (s0) rfl (by omega) (by omega) dX11_whose_88 rfl (Nat.le_of_ble_eq_true rfl) (⟨by decide, by decide, by decide, by decide⟩) ?_
              rintro v nx' I2 J2 P2 ⟨rfl, rfl, rfl, rfl, f3, rfl⟩
              rw [pvs_pvs]
              refine n_if_eq 101 dX11_whose_91 (by decide) (by first | (with_reducible exact cB _) | ((with_reducible apply cN_eq0) <;> omega) | exact Iff.rfl) (fun c91 => by exfalso; first | omega | exact absurd trivial c91 | exact c91 | (simp at c91)) (fun c91 => ?_)
              refine g_aload_n dX11_whose_94 rfl ?_
              refine g_getP dX11_whose_95 fdX11_382 rfl (by first | exact s0 | exact s1 | exact s2 | rfl) (by omega) (by omega) (by decide) rfl (p3) ?_
              refine g_iload_n dX11_whose_98 rfl ?_
              refine n_iald dX11_whose_99 (by first | exact s0 | exact s1 | exact s2 | rfl) (by omega) (by omega) (by decide) (rfl) (by omega) (by repeat (first | exact c0 | exact c1 | exact ow _ | (apply rd_s; done) | apply rd_n (by omega) | apply rp_s | apply rp_n (by omega) | (apply rdL_s; done) | apply rdL_n (by omega) | apply rpJ_s | apply rpJ_n (by omega) | rfl)) ?_
              exact g_iret dX11_whose_100 rfl (⟨rfl, rfl, rfl, hb.far (fun x hx => by rw [pvs_ne (by omega), pvs_ne (by omega)]) (fun _ _ => rfl), fun x hx => ⟨by rw [pvs_ne (by omega), pvs_ne (by omega)], rfl⟩⟩)
            | false =>
              rw [hev, if_neg (by decide)] at va
              rw [if_neg (show ¬ whB a mn (cl t) i = true by unfold whB; rw [hev, Bool.and_false]; decide)] at he
              have nx := fun f3 => ih (i + 1) f3 (by omega) he
              refine g_iload_n dX11_whose_60 rfl ?_
              refine g_aload_n dX11_whose_61 rfl ?_
              refine n_getI dX11_whose_62 fdX11_372 rfl (by first | exact s0 | exact s1 | rfl) (by omega) (by omega) (by decide) rfl (by repeat (first | exact c0 | exact c1 | (apply rd_s; done) | apply rd_n (by omega) | apply rp_s | apply rp_n (by omega) | (apply rdL_s; done) | apply rdL_n (by omega) | apply rpJ_s | apply rpJ_n (by omega) | rfl)) ?_
              refine n_icmp_ge 107 dX11_whose_65 (by decide) (by first | ((with_reducible apply cN_le) <;> omega) | ((with_reducible apply cI_len) <;> omega) | ((with_reducible apply cI_nle) <;> omega) | (with_reducible exact cI_le)) (fun c65 => by exfalso; first | omega | exact absurd trivial c65 | exact c65 | (simp at c65)) (fun c65 => ?_)
              refine g_aload_n dX11_whose_68 rfl ?_
              refine g_getP dX11_whose_69 fdX11_375 rfl (by first | exact s0 | exact s1 | rfl) (by omega) (by omega) (by decide) rfl (p2) ?_
              refine g_iload_n dX11_whose_72 rfl ?_
              refine n_iald dX11_whose_73 (by first | exact s0 | exact s1 | rfl) (by omega) (by omega) (by decide) (rfl) (by omega) (by repeat (first | exact c0 | exact c1 | (apply rd_s; done) | apply rd_n (by omega) | apply rp_s | apply rp_n (by omega) | (apply rdL_s; done) | apply rdL_n (by omega) | apply rpJ_s | apply rpJ_n (by omega) | rfl)) ?_
              refine g_iconst (v := nI 2) dX11_whose_74 (by decide) ?_
              refine n_icmp_ne 101 dX11_whose_75 (by decide) (by first | ((with_reducible apply cN_eq) <;> omega) | ((with_reducible apply cI_eqn) <;> omega) | exact Iff.rfl) (fun c75 => by exfalso; first | omega | exact absurd trivial c75 | exact c75 | (simp at c75)) (fun c75 => ?_)
              refine g_aload_n dX11_whose_78 rfl ?_
              refine g_iload_n dX11_whose_79 rfl ?_
              refine g_aload_n dX11_whose_80 rfl ?_
              refine g_getP dX11_whose_81 fdX11_64 rfl (by first | exact s0 | exact s1 | rfl) (by omega) (by omega) (by decide) rfl (hP _ _ _ rfl) ?_
              refine g_aload_n dX11_whose_84 rfl ?_
              refine g_getP dX11_whose_85 fdX11_68 rfl (by first | exact s0 | exact s1 | rfl) (by omega) (by omega) (by decide) rfl (hP _ _ _ rfl) ?_
              refine g_callV (va) okX0_value lkX11_378 rfl (s0) rfl (by omega) (by omega) dX11_whose_88 rfl (Nat.le_of_ble_eq_true rfl) (⟨by decide, by decide, by decide, by decide⟩) ?_
              rintro v nx' I2 J2 P2 ⟨rfl, rfl, rfl, rfl, f3, rfl⟩
              rw [pvs_pvs]
              refine n_if_eq 101 dX11_whose_91 (by decide) (by first | (with_reducible exact cB _) | ((with_reducible apply cN_eq0) <;> omega) | exact Iff.rfl) (fun c91 => ?_) (fun c91 => by exfalso; first | omega | exact absurd trivial c91 | exact c91 | (simp at c91))
              refine g_iinc dX11_whose_101 rfl (by first | (with_reducible exact nI_1 _) | exact nI_1 _ | exact pk_m1 _ | rfl) (by decide) rfl ?_
              refine g_goto 60 dX11_whose_104 (by decide) ?_
              exact nx f3
          · rw [if_neg (show ¬ whB a mn (cl t) i = true by unfold whB; rw [decide_eq_false c, Bool.false_and]; decide)] at he
            have nx := ih (i + 1) f2 (by omega) he
            refine g_iload_n dX11_whose_60 rfl ?_
            refine g_aload_n dX11_whose_61 rfl ?_
            refine n_getI dX11_whose_62 fdX11_372 rfl (by first | exact s0 | exact s1 | rfl) (by omega) (by omega) (by decide) rfl (by repeat (first | exact c0 | exact c1 | (apply rd_s; done) | apply rd_n (by omega) | apply rp_s | apply rp_n (by omega) | (apply rdL_s; done) | apply rdL_n (by omega) | apply rpJ_s | apply rpJ_n (by omega) | rfl)) ?_
            refine n_icmp_ge 107 dX11_whose_65 (by decide) (by first | ((with_reducible apply cN_le) <;> omega) | ((with_reducible apply cI_len) <;> omega) | ((with_reducible apply cI_nle) <;> omega) | (with_reducible exact cI_le)) (fun c65 => by exfalso; first | omega | exact absurd trivial c65 | exact c65 | (simp at c65)) (fun c65 => ?_)
            refine g_aload_n dX11_whose_68 rfl ?_
            refine g_getP dX11_whose_69 fdX11_375 rfl (by first | exact s0 | exact s1 | rfl) (by omega) (by omega) (by decide) rfl (p2) ?_
            refine g_iload_n dX11_whose_72 rfl ?_
            refine n_iald dX11_whose_73 (by first | exact s0 | exact s1 | rfl) (by omega) (by omega) (by decide) (rfl) (by omega) (by repeat (first | exact c0 | exact c1 | (apply rd_s; done) | apply rd_n (by omega) | apply rp_s | apply rp_n (by omega) | (apply rdL_s; done) | apply rdL_n (by omega) | apply rpJ_s | apply rpJ_n (by omega) | rfl)) ?_
            refine g_iconst (v := nI 2) dX11_whose_74 (by decide) ?_
            refine n_icmp_ne 101 dX11_whose_75 (by decide) (by first | ((with_reducible apply cN_eq) <;> omega) | ((with_reducible apply cI_eqn) <;> omega) | exact Iff.rfl) (fun c75 => ?_) (fun c75 => by exfalso; first | omega | exact absurd trivial c75 | exact c75 | (simp at c75))
            refine g_iinc dX11_whose_101 rfl (by first | (with_reducible exact nI_1 _) | exact nI_1 _ | exact pk_m1 _ | rfl) (by decide) rfl ?_
            refine g_goto 60 dX11_whose_104 (by decide) ?_
            exact nx
      have go := lp (cl t).length 0 ((pvs I 199 fn) 200) (by omega) rfl
      rw [pvs_self] at go
      subst hf
      show pvG _ _ (pvZ (byC w h a I J P (stv ((fdF (whB a mn (cl t)) (cl t).length 0).map (fun j => ((cl t).getD j (0, 0, [])).2.1)))) 0 0) _ _ _ _ _ _ _ _ _
      refine g_aload_n dX11_whose_24 rfl ?_
      refine g_getP dX11_whose_25 fdX11_64 rfl (by first | rfl | exact pv_shx) (by omega) (by omega) (by decide) rfl (hP _ _ _ rfl) ?_
      refine g_iconst (v := nI 3) dX11_whose_28 (by decide) ?_
      refine g_iload_n dX11_whose_29 rfl ?_
      refine n_iast dX11_whose_30 (by first | rfl | exact pv_shx) (by omega) (by omega) (by omega) (by decide) (rfl) (by omega) (by repeat (first | exact pvu_s | exact pvuJ_s | apply pvu_in (by omega) | apply pvuJ_in (by omega) | exact pvu_pvs | exact pvuJ_pvs)) ?_
      refine g_aload_n dX11_whose_31 rfl ?_
      refine g_getP dX11_whose_32 fdX11_64 rfl (by first | rfl | exact pv_shx) (by omega) (by omega) (by decide) rfl (hP _ _ _ rfl) ?_
      refine g_iconst (v := nI 4) dX11_whose_35 (by decide) ?_
      refine g_aload_n dX11_whose_36 rfl ?_
      refine g_getP dX11_whose_37 fdX11_32 rfl (by first | rfl | exact pv_shx) (by omega) (by omega) (by decide) rfl (hP _ _ _ rfl) ?_
      refine g_getP dX11_whose_40 fdX11_277 rfl (by first | rfl | exact pv_shx) (by omega) (by omega) (by decide) rfl (hP _ _ _ rfl) ?_
      refine n_getI dX11_whose_43 fdX11_294 rfl (by first | rfl | exact pv_shx) (by omega) (by omega) (by decide) rfl (by repeat (first | exact r6 | (apply rd_s; done) | apply rd_n (by omega) | apply rp_s | apply rp_n (by omega) | (apply rdL_s; done) | apply rdL_n (by omega) | apply rpJ_s | apply rpJ_n (by omega) | rfl)) ?_
      refine g_aload_n dX11_whose_46 rfl ?_
      refine g_getP dX11_whose_47 fdX11_32 rfl (by first | rfl | exact pv_shx) (by omega) (by omega) (by decide) rfl (hP _ _ _ rfl) ?_
      refine g_getP dX11_whose_50 fdX11_277 rfl (by first | rfl | exact pv_shx) (by omega) (by omega) (by decide) rfl (hP _ _ _ rfl) ?_
      refine p_callV (w27 _) okX7_howManyWent lkX11_369 rfl (by first | rfl | exact pv_shx) rfl (by omega) (by omega) dX11_whose_53 rfl (Nat.le_of_ble_eq_true rfl) (⟨by decide, by decide, by decide, by decide⟩) ?_
      refine n_isub dX11_whose_56 (hsub) ?_
      refine n_iast dX11_whose_57 (by first | rfl | exact pv_shx) (by omega) (by omega) (by omega) (by decide) (rfl) (by omega) (by repeat (first | exact pvu_s | exact pvuJ_s | apply pvu_in (by omega) | apply pvuJ_in (by omega) | exact pvu_pvs | exact pvuJ_pvs)) ?_
      refine g_iconst (v := nI 0) dX11_whose_58 (by decide) ?_
      refine g_istore_n dX11_whose_59 (by decide) rfl ?_
      exact go
  · rw [if_neg hm] at iw
    refine pvMet.of _ (by decide) rfl (Nat.le_of_ble_eq_true rfl) ?_
    refine g_iload_n dX11_whose_0 rfl ?_
    refine p_callS (iw) okX11_isWeek lkX11_160 rfl dX11_whose_1 rfl (Nat.le_of_ble_eq_true rfl) (⟨by decide, by decide, by decide, by decide⟩) ?_
    refine n_if_eq 16 dX11_whose_4 (by decide) (by first | (with_reducible exact cB _) | ((with_reducible apply cN_eq0) <;> omega) | exact Iff.rfl) (fun c4 => ?_) (fun c4 => by exfalso; first | omega | exact absurd trivial c4 | exact c4 | (simp at c4))
    refine g_null dX11_whose_16 ?_
    refine g_astore_nN dX11_whose_17 (by decide) rfl ?_
    refine g_aload_nN dX11_whose_18 rfl ?_
    refine g_ifnonnullN dX11_whose_19 ?_
    refine g_iconst (v := (-1)) dX11_whose_22 (by decide) ?_
    exact g_iret dX11_whose_23 rfl (⟨rfl, rfl, by rw [sp_whose, if_neg hm], hb, byF.rf⟩)
end WHO
