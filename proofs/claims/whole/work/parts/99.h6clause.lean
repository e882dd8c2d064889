/-! class: the reader: a clause -/
section CL6
variable {tx : Nat → Nat} {n cT A : Nat} {I : pvI} {J : pvJ} {P : pvP}
theorem clP.bad {f k kf : Nat} {cs : List pC} {cd : List Nat} {I1 I' : pvI} (hA : aAd A) (hr : rdC (tkK tx n) n cs k = .error (f, kf)) (h1 : ∀ x, x ≠ 144 → I1 x = I x) (h2 : ∀ j, j ≠ 9 → j ≠ 10 → I1 144 j = I 144 j) (q : psS tx n cT A I1 (.error (f, kf)) I') : clP tx n cT A I k cs cd I' := by
  obtain ⟨⟨f1, f2, f3⟩, f4, g1, g2, g3, g4, -⟩ := q
  unfold clP
  rw [hr]
  refine ⟨⟨fun x z1 z2 => (f1 x z1 (by omega) (by omega)).trans (h1 x z1), fun j hj => ?_⟩, ⟨g1, g2⟩, g3, g4, f4⟩
  simp at hj
  exact (f2 j (by omega) (by omega) (by omega) (by omega)).trans (h2 j (by omega) (by omega))
theorem clP.good {s o k k' : Nat} {cs : List pC} {cd : List Nat} {Ib I' : pvI} (hA : aAd A) (hX : cX tx n cT A I k cs cd) (hcs : cs.length < 20) (hs : s ≤ 3) (hr : rdC (tkK tx n) n cs k = rdB (tkK tx n) n s o k') (hb : cBase A I s o cs cd Ib) (q : psS tx n cT A Ib (finR (tkK tx n) n s (.ok (cd, k'))) I') : clP tx n cT A I k cs cd I' := by
  unfold clP
  rw [hr]
  exact cl_fin hA hX hcs hs hb q
theorem c_readClause {k : Nat} {cs : List pC} {cd : List Nat} (hP : pvOkP P) (hPA : P 144 11 = some A) (hA : aAd A) (hX : cX tx n cT A I k cs cd) (hT0 : tkK tx n k ≠ 0) : pvMet mX6_readClause 21 0 0 [.ref 144] 224 I J P (clQc tx n cT A I J P k cs cd) := by
  obtain ⟨⟨s0, s1, s2, s3, s4⟩, h149, h194⟩ := hA.sh
  obtain ⟨x0, ⟨x1, x2, x3, x4, x5, x6⟩, x7, y0, y1, y2, y3, y4, y5⟩ := id hX
  have ht : tkK tx n k ≤ 11000 := tkT_le
  have hps : ∀ v, psS tx n cT A (pvs I 144 (upd (I 144) 9 v)) (.ok (cd, k)) (pvs I 144 (upd (I 144) 9 v)) := fun v => hX.ps (by rw [pvs_eq, updI (by decide)]) (by rw [pvs_eq, updI (by decide)]) (by rw [pvs_eq, updI (by decide)]) (by rw [pvs_eq, updI (by decide)]) (by rw [pvs_ne (by omega)]) (by rw [pvs_ne (by omega)])
  have hB0 : ∀ v, rB0 tx n cT (pvs I 144 (upd (I 144) 9 v)) := fun v => x0.mv (by rw [pvs_eq, updI (by decide)]) (by rw [pvs_ne (by decide)]) (by rw [pvs_ne (by decide)])
  have bad : ∀ v f I', rdC (tkK tx n) n cs k = .error (f, k) → psS tx n cT A (pvs I 144 (upd (I 144) 9 v)) (refR f (.ok (cd, k))) I' → clP tx n cT A I k cs cd I' := fun v f I' hr q => clP.bad hA hr (fun x hx => pvs_ne hx) (fun j z1 z2 => by rw [pvs_eq, updI z1]) q
  have rlt_b : ∀ {k' s}, k < k' → rlt (bindR (rdY (tkK tx n) n s) (.ok (cd, k'))) := fun {k' s} hk' cd' k2 e => by
    simp only [bindR] at e
    cases hx : rdY (tkK tx n) n s k' with
    | error x => rw [hx] at e; cases e
    | ok v =>
      obtain ⟨e2, k3⟩ := v
      rw [hx] at e
      cases e
      have := lenY (T := tkK tx n) (n := n) (s := s) k' e2 k2 hx
      rw [List.length_append]
      omega
  by_cases c0 : 200 ≤ tkK tx n k ∧ tkK tx n k ≤ 203
  · obtain ⟨s, hs3, hts⟩ : ∃ s, s ≤ 3 ∧ tkK tx n k = 200 + s := ⟨tkK tx n k - 200, by omega, by omega⟩
    have f8 : I 144 8 = nI (200 + s) := by rw [x5, hts]
    have hk200 : tkK tx n k - 200 = s := by omega
    have sl := seenN_lt cs y5
    have p4 : 2 ^ s ≤ 8 := Nat.pow_le_pow_right (n := 2) (by decide) hs3
    have g65 : (s ≠ 2 → seenB cs s ≠ true) → pvG mX6_readClause (pvR 21 0 0) (pvZ (clQc tx n cT A I J P k cs cd) 0 0) 65 [.ref 144] [] 0 0 224 (pvs I 144 (upd (I 144) 9 (nI s))) J P := by
      intro hseen
      by_cases c20 : cs.length = 20
      · have hr : rdC (tkK tx n) n cs k = .error (6, k) := by
          unfold rdC
          rw [if_neg (by omega), if_neg (by rintro ⟨z1, z2⟩; exact hseen (by omega) (by rw [← hk200]; exact z2)), if_pos c20]
        have rf := c_refuse (f := 6) (J := J) (P := P) hP hA (hB0 _) (hps (nI s)) (by omega)
        refine g_aload_n dX6_readClause_65 rfl ?_
        refine g_getP dX6_readClause_66 fdX6_37 rfl (by first | rfl | exact pv_shx) (by omega) (by omega) (by decide) rfl (hPA) ?_
        refine n_getI dX6_readClause_69 fdX6_106 rfl (s0) (by omega) (by omega) (by decide) rfl (by repeat (first | exact y0 | (apply rd_s; done) | apply rd_n (by omega) | apply rp_s | apply rp_n (by omega) | (apply rdL_s; done) | apply rdL_n (by omega) | apply rpJ_s | apply rpJ_n (by omega) | rfl)) ?_
        refine g_bipush (v := nI 20) dX6_readClause_72 (by decide) ?_
        refine n_icmp_lt 86 dX6_readClause_74 (by decide) (by first | ((with_reducible apply cN_lt) <;> omega) | ((with_reducible apply cI_ltn) <;> omega) | ((with_reducible apply cI_nlt) <;> omega) | (with_reducible exact cI_lt)) (fun c74 => by exfalso; first | omega | exact absurd trivial c74 | exact c74 | (simp at c74)) (fun c74 => ?_)
        refine g_aload_n dX6_readClause_77 rfl ?_
        refine g_bipush (v := nI 6) dX6_readClause_78 (by decide) ?_
        refine g_callV (rf) okX6_refuse lkX6_98 rfl (by first | rfl | exact pv_shx) rfl (by omega) (by omega) dX6_readClause_80 rfl (Nat.le_of_ble_eq_true rfl) (⟨by decide, by decide, by decide, by decide⟩) ?_
        rintro v nx' I1 J1 P1 ⟨rfl, rfl, rfl, rfl, q1⟩
        refine g_goto 179 dX6_readClause_83 (by decide) ?_
        exact g_vret dX6_readClause_179 rfl (⟨rfl, rfl, rfl, rfl, bad _ _ _ hr q1⟩)
      · have hcs : cs.length < 20 := by omega
        have ac := c_addClause (s := s) (I := pvs I 144 (upd (upd (I 144) 9 (nI s)) 10 (nI (seenN cs ||| 2 ^ s)))) (J := J) (P := P) hP hA (nc := cs.length) (l := cd.length) (by rw [pvs_ne (by omega)]; exact y0) hcs (by rw [pvs_ne (by omega)]; exact y2)
        refine g_aload_n dX6_readClause_65 rfl ?_
        refine g_getP dX6_readClause_66 fdX6_37 rfl (by first | rfl | exact pv_shx) (by omega) (by omega) (by decide) rfl (hPA) ?_
        refine n_getI dX6_readClause_69 fdX6_106 rfl (s0) (by omega) (by omega) (by decide) rfl (by repeat (first | exact y0 | exact x6 | (apply rd_s; done) | apply rd_n (by omega) | apply rp_s | apply rp_n (by omega) | (apply rdL_s; done) | apply rdL_n (by omega) | apply rpJ_s | apply rpJ_n (by omega) | rfl)) ?_
        refine g_bipush (v := nI 20) dX6_readClause_72 (by decide) ?_
        refine n_icmp_lt 86 dX6_readClause_74 (by decide) (by first | ((with_reducible apply cN_lt) <;> omega) | ((with_reducible apply cI_ltn) <;> omega) | ((with_reducible apply cI_nlt) <;> omega) | (with_reducible exact cI_lt)) (fun c74 => ?_) (fun c74 => by exfalso; first | omega | exact absurd trivial c74 | exact c74 | (simp at c74))
        refine g_aload_n dX6_readClause_86 rfl ?_
        refine g_dup dX6_readClause_87 rfl ?_
        refine n_getI dX6_readClause_88 fdX6_34 rfl (by first | rfl | exact pv_shx) (by omega) (by omega) (by decide) rfl (by repeat (first | exact y0 | exact x6 | (apply rd_s; done) | apply rd_n (by omega) | apply rp_s | apply rp_n (by omega) | (apply rdL_s; done) | apply rdL_n (by omega) | apply rpJ_s | apply rpJ_n (by omega) | rfl)) ?_
        refine g_iconst (v := nI 1) dX6_readClause_91 (by decide) ?_
        refine g_aload_n dX6_readClause_92 rfl ?_
        refine n_getI dX6_readClause_93 fdX6_95 rfl (by first | rfl | exact pv_shx) (by omega) (by omega) (by decide) rfl (by repeat (first | exact y0 | exact x6 | (apply rd_s; done) | apply rd_n (by omega) | apply rp_s | apply rp_n (by omega) | (apply rdL_s; done) | apply rdL_n (by omega) | apply rpJ_s | apply rpJ_n (by omega) | rfl)) ?_
        refine n_ishl dX6_readClause_96 (nI_shl1 (by omega)) ?_
        refine n_ior dX6_readClause_97 (nI_or _ _) ?_
        refine n_putI dX6_readClause_98 fdX6_34 rfl (fun h => absurd h (by decide)) (by first | rfl | exact pv_shx) (by omega) (by omega) (by decide) rfl (by repeat (first | exact pvu_s | exact pvuJ_s | apply pvu_in (by omega) | apply pvuJ_in (by omega) | exact pvu_pvs | exact pvuJ_pvs)) ?_
        refine g_aload_n dX6_readClause_101 rfl ?_
        refine g_getP dX6_readClause_102 fdX6_37 rfl (by first | rfl | exact pv_shx) (by omega) (by omega) (by decide) rfl (hPA) ?_
        refine g_aload_n dX6_readClause_105 rfl ?_
        refine n_getI dX6_readClause_106 fdX6_95 rfl (by first | rfl | exact pv_shx) (by omega) (by omega) (by decide) rfl (by repeat (first | exact y0 | exact x6 | (apply rd_s; done) | apply rd_n (by omega) | apply rp_s | apply rp_n (by omega) | (apply rdL_s; done) | apply rdL_n (by omega) | apply rpJ_s | apply rpJ_n (by omega) | rfl)) ?_
        refine g_callV (ac) okX0_addClause lkX6_109 rfl (s0) rfl (by omega) (by omega) dX6_readClause_109 rfl (Nat.le_of_ble_eq_true rfl) (⟨by decide, by decide, by decide, by decide⟩) ?_
        rintro v nx' I1 J1 P1 ⟨rfl, rfl, rfl, rfl, u1, u2, u3, u4, u5⟩
        have hor : ∀ x, x ≠ 144 → pvs I 144 (upd (upd (I 144) 9 (nI s)) 10 (nI (seenN cs ||| 2 ^ s))) x = I x := fun x hx => pvs_ne hx
        have i144 : I1 144 = upd (upd (I 144) 9 (nI s)) 10 (nI (seenN cs ||| 2 ^ s)) := by rw [u5 144 (by omega) (by omega) (by omega) (by omega), pvs_eq]
        have hbp : (∀ x, x ≠ 144 → (x < A ∨ A + 4 < x) → I1 x = I x) ∧ (∀ j, j ≠ 9 → j ≠ 10 → I1 144 j = I 144 j) ∧ I1 144 10 = nI (seenN cs ||| 2 ^ s) ∧ I1 A 0 = nI (cs.length + 1) ∧ (∀ j, j < cs.length → I1 (A + 1) j = I (A + 1) j ∧ I1 (A + 2) j = I (A + 2) j ∧ I1 (A + 3) j = I (A + 3) j) ∧ I1 (A + 1) cs.length = nI s ∧ I1 (A + 3) cs.length = nI cd.length := ⟨fun x z1 z2 => by rw [u5 x (by omega) (by omega) (by omega) (by omega)]; exact hor x z1, fun j z1 z2 => by rw [i144, updI z2, updI z1], by rw [i144, updS], by rw [u4, updS], fun j hj => ⟨by rw [u1, updI (by omega), hor _ (by omega)], by rw [u2, updI (by omega), hor _ (by omega)], by rw [u3, updI (by omega), hor _ (by omega)]⟩, by rw [u1, updS], by rw [u3, updS]⟩
        have hB1 : rB tx n cT s I1 := ⟨hX.1.mv (by rw [i144, updI (by decide), updI (by decide)]) (by rw [u5 146 (by omega) (by omega) (by omega) (by omega)]; exact hor _ (by omega)) (by rw [u5 147 (by omega) (by omega) (by omega) (by omega)]; exact hor _ (by omega)), by rw [i144, updI (by decide), updS], hs3⟩
        have ps1 : psS tx n cT A I1 (.ok (cd, k)) I1 := hX.ps (by rw [i144, updI (by decide), updI (by decide)]) (by rw [i144, updI (by decide), updI (by decide)]) (by rw [i144, updI (by decide), updI (by decide)]) (by rw [i144, updI (by decide), updI (by decide)]) (by rw [u4, updI (by decide), hor _ (by omega)]) (by rw [u5 _ (by omega) (by omega) (by omega) (by omega)]; exact hor _ (by omega))
        have pz : ∀ f kf, rdC (tkK tx n) n cs k = .error (f, kf) → ∀ I', psS tx n cT A I1 (.error (f, kf)) I' → clP tx n cT A I k cs cd I' := by
          intro f kf hr I' q
          obtain ⟨⟨f1, f2, f3⟩, f4, g1, g2, g3, g4, -⟩ := q
          unfold clP
          rw [hr]
          refine ⟨⟨fun x z1 z2 => (f1 x z1 (by omega) (by omega)).trans (by rw [u5 x (by omega) (by omega) (by omega) (by omega)]; exact hor x z1), fun j hj => ?_⟩, ⟨g1, g2⟩, g3, g4, f4⟩
          simp at hj
          rw [f2 j (by omega) (by omega) (by omega) (by omega), i144, updI (by omega), updI (by omega)]
        have ad := c_advance (J := J1) (P := P1) hP hA hB1.1 ps1 (Or.inr hT0)
        refine g_aload_n dX6_readClause_112 rfl ?_
        refine g_callV (ad) okX6_advance lkX6_112 rfl (by first | rfl | exact pv_shx) rfl (by omega) (by omega) dX6_readClause_113 rfl (Nat.le_of_ble_eq_true rfl) (⟨by decide, by decide, by decide, by decide⟩) ?_
        rintro v nx' I2 J2 P2 ⟨rfl, rfl, rfl, rfl, q2⟩
        have f9 : I2 144 9 = nI s := by rw [q2.1.2.1 9 (by decide) (by decide) (by decide) (by decide)]; exact hB1.2.1
        by_cases c2 : s = 2
        · subst c2
          have ow := c_readOwner (J := J2) (P := P2) hP hPA hA hB1.1 q2 hbp.2.2.2.1 hcs
          refine g_aload_n dX6_readClause_116 rfl ?_
          refine n_getI dX6_readClause_117 fdX6_95 rfl (by first | rfl | exact pv_shx) (by omega) (by omega) (by decide) rfl (by repeat (first | exact f9 | (apply rd_s; done) | apply rd_n (by omega) | apply rp_s | apply rp_n (by omega) | (apply rdL_s; done) | apply rdL_n (by omega) | apply rpJ_s | apply rpJ_n (by omega) | rfl)) ?_
          refine g_iconst (v := nI 2) dX6_readClause_120 (by decide) ?_
          refine n_icmp_ne 128 dX6_readClause_121 (by decide) (by first | ((with_reducible apply cN_eq) <;> omega) | ((with_reducible apply cI_eqn) <;> omega) | exact Iff.rfl) (fun c121 => by exfalso; first | omega | exact absurd trivial c121 | exact c121 | (simp at c121)) (fun c121 => ?_)
          refine g_aload_n dX6_readClause_124 rfl ?_
          refine g_callV (ow) okX6_readOwner lkX6_115 rfl (by first | rfl | exact pv_shx) rfl (by omega) (by omega) dX6_readClause_125 rfl (Nat.le_of_ble_eq_true rfl) (⟨by decide, by decide, by decide, by decide⟩) ?_
          rintro v nx' I3 J3 P3 ⟨rfl, rfl, rfl, rfl, q3⟩
          by_cases e1 : tkK tx n (k + 1) < 1000
          · rw [if_pos e1] at q3
            have hr : rdC (tkK tx n) n cs k = .error (1, k + 1) := by
              unfold rdC
              rw [if_neg (by omega), if_neg (fun z => z.1 (by omega)), if_neg (by omega), if_pos (by omega), if_pos e1]
            refine cl_tail hP hPA hA hB1 q3 (fun cd k e => by cases e) (fun I' q' => ⟨rfl, rfl, rfl, rfl, ?_⟩)
            rw [fin_err] at q'
            exact pz _ _ hr _ q'
          · rw [if_neg e1] at q3
            by_cases e2 : 1009 < tkK tx n (k + 1)
            · rw [if_pos e2] at q3
              have hr : rdC (tkK tx n) n cs k = .error (2, k + 1) := by
                unfold rdC
                rw [if_neg (by omega), if_neg (fun z => z.1 (by omega)), if_neg (by omega), if_pos (by omega), if_neg e1, if_pos e2]
              refine cl_tail hP hPA hA hB1 q3 (fun cd k e => by cases e) (fun I' q' => ⟨rfl, rfl, rfl, rfl, ?_⟩)
              rw [fin_err] at q'
              exact pz _ _ hr _ q'
            · rw [if_neg e2] at q3
              have hr : rdC (tkK tx n) n cs k = rdB (tkK tx n) n 2 (tkK tx n (k + 1) - 1000) (k + 1 + 1) := by
                unfold rdC
                rw [if_neg (by omega), if_neg (fun z => z.1 (by omega)), if_neg (by omega), if_pos (by omega), if_neg e1, if_neg e2]
              have hb2 : cBase A I 2 (tkK tx n (k + 1) - 1000) cs cd (pvs I1 (A + 2) (upd (I1 (A + 2)) cs.length (nI (tkK tx n (k + 1) - 1000)))) := by
                obtain ⟨b1, b2, b3, b4, b5, b6, b8⟩ := hbp
                refine ⟨fun x z1 z2 => by rw [pvs_ne (by omega)]; exact b1 x z1 z2, fun j z1 z2 => by rw [pvs_ne (by omega)]; exact b2 j z1 z2, by rw [pvs_ne (by omega)]; exact b3, by rw [pvs_ne (by omega)]; exact b4, fun j hj => ⟨by rw [pvs_ne (by omega)]; exact (b5 j hj).1, by rw [pvs_eq, updI (by omega)]; exact (b5 j hj).2.1, by rw [pvs_ne (by omega)]; exact (b5 j hj).2.2⟩, by rw [pvs_ne (by omega)]; exact b6, fun _ => by rw [pvs_eq, updS], by rw [pvs_ne (by omega)]; exact b8⟩
              have hB2 : rB tx n cT 2 (pvs I1 (A + 2) (upd (I1 (A + 2)) cs.length (nI (tkK tx n (k + 1) - 1000)))) := ⟨hB1.1.mv (by rw [pvs_ne (by omega)]) (by rw [pvs_ne (by omega)]) (by rw [pvs_ne (by omega)]), by rw [pvs_ne (by omega)]; exact hB1.2.1, hB1.2.2⟩
              refine cl_tail hP hPA hA hB2 q3 (rlt_b (by omega)) (fun I' q' => ⟨rfl, rfl, rfl, rfl, ?_⟩)
              exact clP.good hA hX hcs (by omega) hr hb2 q'
        · have hr : rdC (tkK tx n) n cs k = rdB (tkK tx n) n s 0 (k + 1) := by
            unfold rdC
            rw [if_neg (by omega), if_neg (by rintro ⟨z1, z2⟩; exact hseen c2 (by rw [← hk200]; exact z2)), if_neg (by omega), if_neg (by omega), hk200]
          have g128 : pvG mX6_readClause (pvR 21 0 0) (pvZ (clQc tx n cT A I J2 P2 k cs cd) 0 0) 128 [.ref 144] [] 0 0 224 I2 J2 P2 := cl_tail hP hPA hA hB1 q2 (rlt_b (by omega)) (fun I' q' => ⟨rfl, rfl, rfl, rfl, clP.good hA hX hcs hs3 hr (o := 0) ⟨hbp.1, hbp.2.1, hbp.2.2.1, hbp.2.2.2.1, hbp.2.2.2.2.1, hbp.2.2.2.2.2.1, fun z => absurd z c2, hbp.2.2.2.2.2.2⟩ q'⟩)
          refine g_aload_n dX6_readClause_116 rfl ?_
          refine n_getI dX6_readClause_117 fdX6_95 rfl (by first | rfl | exact pv_shx) (by omega) (by omega) (by decide) rfl (by repeat (first | exact f9 | (apply rd_s; done) | apply rd_n (by omega) | apply rp_s | apply rp_n (by omega) | (apply rdL_s; done) | apply rdL_n (by omega) | apply rpJ_s | apply rpJ_n (by omega) | rfl)) ?_
          refine g_iconst (v := nI 2) dX6_readClause_120 (by decide) ?_
          refine n_icmp_ne 128 dX6_readClause_121 (by decide) (by first | ((with_reducible apply cN_eq) <;> omega) | ((with_reducible apply cI_eqn) <;> omega) | exact Iff.rfl) (fun c121 => ?_) (fun c121 => by exfalso; first | omega | exact absurd trivial c121 | exact c121 | (simp at c121))
          exact g128
    by_cases c2 : s = 2
    · have g := g65 (fun z => absurd c2 z)
      refine pvMet.of _ (by decide) rfl (Nat.le_of_ble_eq_true rfl) ?_
      refine g_aload_n dX6_readClause_0 rfl ?_
      refine g_aload_n dX6_readClause_1 rfl ?_
      refine n_getI dX6_readClause_2 fdX6_49 rfl (by first | rfl | exact pv_shx) (by omega) (by omega) (by decide) rfl (by repeat (first | exact f8 | (apply rd_s; done) | apply rd_n (by omega) | apply rp_s | apply rp_n (by omega) | (apply rdL_s; done) | apply rdL_n (by omega) | apply rpJ_s | apply rpJ_n (by omega) | rfl)) ?_
      refine g_sipush (v := nI 200) dX6_readClause_5 (by decide) ?_
      refine n_isub dX6_readClause_8 (sub_l (by omega)) ?_
      refine n_putI dX6_readClause_9 fdX6_95 rfl (fun h => absurd h (by decide)) (by first | rfl | exact pv_shx) (by omega) (by omega) (by decide) rfl (by repeat (first | exact pvu_s | exact pvuJ_s | apply pvu_in (by omega) | apply pvuJ_in (by omega) | exact pvu_pvs | exact pvuJ_pvs)) ?_
      refine g_aload_n dX6_readClause_12 rfl ?_
      refine n_getI dX6_readClause_13 fdX6_95 rfl (by first | rfl | exact pv_shx) (by omega) (by omega) (by decide) rfl (by repeat (first | exact f8 | (apply rd_s; done) | apply rd_n (by omega) | apply rp_s | apply rp_n (by omega) | (apply rdL_s; done) | apply rdL_n (by omega) | apply rpJ_s | apply rpJ_n (by omega) | rfl)) ?_
      refine n_if_lt 27 dX6_readClause_16 (by decide) (by first | ((with_reducible apply cN_lt0) <;> omega) | (with_reducible exact cI_lt0)) (fun c16 => by exfalso; first | omega | exact absurd trivial c16 | exact c16 | (simp at c16)) (fun c16 => ?_)
      refine g_aload_n dX6_readClause_19 rfl ?_
      refine n_getI dX6_readClause_20 fdX6_95 rfl (by first | rfl | exact pv_shx) (by omega) (by omega) (by decide) rfl (by repeat (first | exact f8 | (apply rd_s; done) | apply rd_n (by omega) | apply rp_s | apply rp_n (by omega) | (apply rdL_s; done) | apply rdL_n (by omega) | apply rpJ_s | apply rpJ_n (by omega) | rfl)) ?_
      refine g_iconst (v := nI 3) dX6_readClause_23 (by decide) ?_
      refine n_icmp_le 35 dX6_readClause_24 (by decide) (by first | ((with_reducible apply cN_le) <;> omega) | ((with_reducible apply cI_len) <;> omega) | ((with_reducible apply cI_nle) <;> omega) | (with_reducible exact cI_le)) (fun c24 => ?_) (fun c24 => by exfalso; first | omega | exact absurd trivial c24 | exact c24 | (simp at c24))
      refine g_aload_n dX6_readClause_35 rfl ?_
      refine n_getI dX6_readClause_36 fdX6_95 rfl (by first | rfl | exact pv_shx) (by omega) (by omega) (by decide) rfl (by repeat (first | exact f8 | (apply rd_s; done) | apply rd_n (by omega) | apply rp_s | apply rp_n (by omega) | (apply rdL_s; done) | apply rdL_n (by omega) | apply rpJ_s | apply rpJ_n (by omega) | rfl)) ?_
      refine g_iconst (v := nI 2) dX6_readClause_39 (by decide) ?_
      refine n_icmp_eq 65 dX6_readClause_40 (by decide) (by first | ((with_reducible apply cN_eq) <;> omega) | ((with_reducible apply cI_eqn) <;> omega) | exact Iff.rfl) (fun c40 => ?_) (fun c40 => by exfalso; first | omega | exact absurd trivial c40 | exact c40 | (simp at c40))
      exact g
    · have ii := c_isIn (nx := 224) (n := seenN cs) (k := s) (I := pvs I 144 (upd (I 144) 9 (nI s))) (J := J) (P := P) (by omega) (by omega)
      by_cases c3 : seenB cs s = true
      · rw [if_pos ((seenN_bit cs).mpr c3)] at ii
        have hr : rdC (tkK tx n) n cs k = .error (4, k) := by
          unfold rdC
          rw [if_neg (by omega), if_pos ⟨by omega, by rw [hts, Nat.add_sub_cancel_left]; exact c3⟩]
        have rf := c_refuse (f := 4) (J := J) (P := P) hP hA (hB0 _) (hps (nI s)) (by omega)
        refine pvMet.of _ (by decide) rfl (Nat.le_of_ble_eq_true rfl) ?_
        refine g_aload_n dX6_readClause_0 rfl ?_
        refine g_aload_n dX6_readClause_1 rfl ?_
        refine n_getI dX6_readClause_2 fdX6_49 rfl (by first | rfl | exact pv_shx) (by omega) (by omega) (by decide) rfl (by repeat (first | exact f8 | exact x6 | (apply rd_s; done) | apply rd_n (by omega) | apply rp_s | apply rp_n (by omega) | (apply rdL_s; done) | apply rdL_n (by omega) | apply rpJ_s | apply rpJ_n (by omega) | rfl)) ?_
        refine g_sipush (v := nI 200) dX6_readClause_5 (by decide) ?_
        refine n_isub dX6_readClause_8 (sub_l (by omega)) ?_
        refine n_putI dX6_readClause_9 fdX6_95 rfl (fun h => absurd h (by decide)) (by first | rfl | exact pv_shx) (by omega) (by omega) (by decide) rfl (by repeat (first | exact pvu_s | exact pvuJ_s | apply pvu_in (by omega) | apply pvuJ_in (by omega) | exact pvu_pvs | exact pvuJ_pvs)) ?_
        refine g_aload_n dX6_readClause_12 rfl ?_
        refine n_getI dX6_readClause_13 fdX6_95 rfl (by first | rfl | exact pv_shx) (by omega) (by omega) (by decide) rfl (by repeat (first | exact f8 | exact x6 | (apply rd_s; done) | apply rd_n (by omega) | apply rp_s | apply rp_n (by omega) | (apply rdL_s; done) | apply rdL_n (by omega) | apply rpJ_s | apply rpJ_n (by omega) | rfl)) ?_
        refine n_if_lt 27 dX6_readClause_16 (by decide) (by first | ((with_reducible apply cN_lt0) <;> omega) | (with_reducible exact cI_lt0)) (fun c16 => by exfalso; first | omega | exact absurd trivial c16 | exact c16 | (simp at c16)) (fun c16 => ?_)
        refine g_aload_n dX6_readClause_19 rfl ?_
        refine n_getI dX6_readClause_20 fdX6_95 rfl (by first | rfl | exact pv_shx) (by omega) (by omega) (by decide) rfl (by repeat (first | exact f8 | exact x6 | (apply rd_s; done) | apply rd_n (by omega) | apply rp_s | apply rp_n (by omega) | (apply rdL_s; done) | apply rdL_n (by omega) | apply rpJ_s | apply rpJ_n (by omega) | rfl)) ?_
        refine g_iconst (v := nI 3) dX6_readClause_23 (by decide) ?_
        refine n_icmp_le 35 dX6_readClause_24 (by decide) (by first | ((with_reducible apply cN_le) <;> omega) | ((with_reducible apply cI_len) <;> omega) | ((with_reducible apply cI_nle) <;> omega) | (with_reducible exact cI_le)) (fun c24 => ?_) (fun c24 => by exfalso; first | omega | exact absurd trivial c24 | exact c24 | (simp at c24))
        refine g_aload_n dX6_readClause_35 rfl ?_
        refine n_getI dX6_readClause_36 fdX6_95 rfl (by first | rfl | exact pv_shx) (by omega) (by omega) (by decide) rfl (by repeat (first | exact f8 | exact x6 | (apply rd_s; done) | apply rd_n (by omega) | apply rp_s | apply rp_n (by omega) | (apply rdL_s; done) | apply rdL_n (by omega) | apply rpJ_s | apply rpJ_n (by omega) | rfl)) ?_
        refine g_iconst (v := nI 2) dX6_readClause_39 (by decide) ?_
        refine n_icmp_eq 65 dX6_readClause_40 (by decide) (by first | ((with_reducible apply cN_eq) <;> omega) | ((with_reducible apply cI_eqn) <;> omega) | exact Iff.rfl) (fun c40 => by exfalso; first | omega | exact absurd trivial c40 | exact c40 | (simp at c40)) (fun c40 => ?_)
        refine g_aload_n dX6_readClause_43 rfl ?_
        refine n_getI dX6_readClause_44 fdX6_34 rfl (by first | rfl | exact pv_shx) (by omega) (by omega) (by decide) rfl (by repeat (first | exact f8 | exact x6 | (apply rd_s; done) | apply rd_n (by omega) | apply rp_s | apply rp_n (by omega) | (apply rdL_s; done) | apply rdL_n (by omega) | apply rpJ_s | apply rpJ_n (by omega) | rfl)) ?_
        refine g_aload_n dX6_readClause_47 rfl ?_
        refine n_getI dX6_readClause_48 fdX6_95 rfl (by first | rfl | exact pv_shx) (by omega) (by omega) (by decide) rfl (by repeat (first | exact f8 | exact x6 | (apply rd_s; done) | apply rd_n (by omega) | apply rp_s | apply rp_n (by omega) | (apply rdL_s; done) | apply rdL_n (by omega) | apply rpJ_s | apply rpJ_n (by omega) | rfl)) ?_
        refine p_callNS (ii) okX11_isIn lkX6_102 rfl dX6_readClause_51 rfl (Nat.le_of_ble_eq_true rfl) (⟨by decide, by decide, by decide, by decide⟩) ?_
        refine n_if_eq 65 dX6_readClause_54 (by decide) (by first | (with_reducible exact cB _) | ((with_reducible apply cN_eq0) <;> omega) | exact Iff.rfl) (fun c54 => by exfalso; first | omega | exact absurd trivial c54 | exact c54 | (simp at c54)) (fun c54 => ?_)
        refine g_aload_n dX6_readClause_57 rfl ?_
        refine g_iconst (v := nI 4) dX6_readClause_58 (by decide) ?_
        refine g_callV (rf) okX6_refuse lkX6_98 rfl (by first | rfl | exact pv_shx) rfl (by omega) (by omega) dX6_readClause_59 rfl (Nat.le_of_ble_eq_true rfl) (⟨by decide, by decide, by decide, by decide⟩) ?_
        rintro v nx' I1 J1 P1 ⟨rfl, rfl, rfl, rfl, q1⟩
        refine g_goto 179 dX6_readClause_62 (by decide) ?_
        exact g_vret dX6_readClause_179 rfl (⟨rfl, rfl, rfl, rfl, bad _ _ _ hr q1⟩)
      · rw [if_neg (fun z => c3 ((seenN_bit cs).mp z))] at ii
        have g := g65 (fun _ => c3)
        refine pvMet.of _ (by decide) rfl (Nat.le_of_ble_eq_true rfl) ?_
        refine g_aload_n dX6_readClause_0 rfl ?_
        refine g_aload_n dX6_readClause_1 rfl ?_
        refine n_getI dX6_readClause_2 fdX6_49 rfl (by first | rfl | exact pv_shx) (by omega) (by omega) (by decide) rfl (by repeat (first | exact f8 | exact x6 | (apply rd_s; done) | apply rd_n (by omega) | apply rp_s | apply rp_n (by omega) | (apply rdL_s; done) | apply rdL_n (by omega) | apply rpJ_s | apply rpJ_n (by omega) | rfl)) ?_
        refine g_sipush (v := nI 200) dX6_readClause_5 (by decide) ?_
        refine n_isub dX6_readClause_8 (sub_l (by omega)) ?_
        refine n_putI dX6_readClause_9 fdX6_95 rfl (fun h => absurd h (by decide)) (by first | rfl | exact pv_shx) (by omega) (by omega) (by decide) rfl (by repeat (first | exact pvu_s | exact pvuJ_s | apply pvu_in (by omega) | apply pvuJ_in (by omega) | exact pvu_pvs | exact pvuJ_pvs)) ?_
        refine g_aload_n dX6_readClause_12 rfl ?_
        refine n_getI dX6_readClause_13 fdX6_95 rfl (by first | rfl | exact pv_shx) (by omega) (by omega) (by decide) rfl (by repeat (first | exact f8 | exact x6 | (apply rd_s; done) | apply rd_n (by omega) | apply rp_s | apply rp_n (by omega) | (apply rdL_s; done) | apply rdL_n (by omega) | apply rpJ_s | apply rpJ_n (by omega) | rfl)) ?_
        refine n_if_lt 27 dX6_readClause_16 (by decide) (by first | ((with_reducible apply cN_lt0) <;> omega) | (with_reducible exact cI_lt0)) (fun c16 => by exfalso; first | omega | exact absurd trivial c16 | exact c16 | (simp at c16)) (fun c16 => ?_)
        refine g_aload_n dX6_readClause_19 rfl ?_
        refine n_getI dX6_readClause_20 fdX6_95 rfl (by first | rfl | exact pv_shx) (by omega) (by omega) (by decide) rfl (by repeat (first | exact f8 | exact x6 | (apply rd_s; done) | apply rd_n (by omega) | apply rp_s | apply rp_n (by omega) | (apply rdL_s; done) | apply rdL_n (by omega) | apply rpJ_s | apply rpJ_n (by omega) | rfl)) ?_
        refine g_iconst (v := nI 3) dX6_readClause_23 (by decide) ?_
        refine n_icmp_le 35 dX6_readClause_24 (by decide) (by first | ((with_reducible apply cN_le) <;> omega) | ((with_reducible apply cI_len) <;> omega) | ((with_reducible apply cI_nle) <;> omega) | (with_reducible exact cI_le)) (fun c24 => ?_) (fun c24 => by exfalso; first | omega | exact absurd trivial c24 | exact c24 | (simp at c24))
        refine g_aload_n dX6_readClause_35 rfl ?_
        refine n_getI dX6_readClause_36 fdX6_95 rfl (by first | rfl | exact pv_shx) (by omega) (by omega) (by decide) rfl (by repeat (first | exact f8 | exact x6 | (apply rd_s; done) | apply rd_n (by omega) | apply rp_s | apply rp_n (by omega) | (apply rdL_s; done) | apply rdL_n (by omega) | apply rpJ_s | apply rpJ_n (by omega) | rfl)) ?_
        refine g_iconst (v := nI 2) dX6_readClause_39 (by decide) ?_
        refine n_icmp_eq 65 dX6_readClause_40 (by decide) (by first | ((with_reducible apply cN_eq) <;> omega) | ((with_reducible apply cI_eqn) <;> omega) | exact Iff.rfl) (fun c40 => by exfalso; first | omega | exact absurd trivial c40 | exact c40 | (simp at c40)) (fun c40 => ?_)
        refine g_aload_n dX6_readClause_43 rfl ?_
        refine n_getI dX6_readClause_44 fdX6_34 rfl (by first | rfl | exact pv_shx) (by omega) (by omega) (by decide) rfl (by repeat (first | exact f8 | exact x6 | (apply rd_s; done) | apply rd_n (by omega) | apply rp_s | apply rp_n (by omega) | (apply rdL_s; done) | apply rdL_n (by omega) | apply rpJ_s | apply rpJ_n (by omega) | rfl)) ?_
        refine g_aload_n dX6_readClause_47 rfl ?_
        refine n_getI dX6_readClause_48 fdX6_95 rfl (by first | rfl | exact pv_shx) (by omega) (by omega) (by decide) rfl (by repeat (first | exact f8 | exact x6 | (apply rd_s; done) | apply rd_n (by omega) | apply rp_s | apply rp_n (by omega) | (apply rdL_s; done) | apply rdL_n (by omega) | apply rpJ_s | apply rpJ_n (by omega) | rfl)) ?_
        refine p_callNS (ii) okX11_isIn lkX6_102 rfl dX6_readClause_51 rfl (Nat.le_of_ble_eq_true rfl) (⟨by decide, by decide, by decide, by decide⟩) ?_
        refine n_if_eq 65 dX6_readClause_54 (by decide) (by first | (with_reducible exact cB _) | ((with_reducible apply cN_eq0) <;> omega) | exact Iff.rfl) (fun c54 => ?_) (fun c54 => by exfalso; first | omega | exact absurd trivial c54 | exact c54 | (simp at c54))
        exact g
  · have hr : rdC (tkK tx n) n cs k = .error (1, k) := by
      unfold rdC
      rw [if_pos c0]
    by_cases c1 : tkK tx n k < 200
    · have rf := c_refuse (f := 1) (J := J) (P := P) hP hA (hB0 _) (hps (nI (tkK tx n k) - nI 200)) (by omega)
      generalize htk : tkK tx n k = t at *
      refine pvMet.of _ (by decide) rfl (Nat.le_of_ble_eq_true rfl) ?_
      refine g_aload_n dX6_readClause_0 rfl ?_
      refine g_aload_n dX6_readClause_1 rfl ?_
      refine n_getI dX6_readClause_2 fdX6_49 rfl (by first | rfl | exact pv_shx) (by omega) (by omega) (by decide) rfl (by repeat (first | exact x5 | (apply rd_s; done) | apply rd_n (by omega) | apply rp_s | apply rp_n (by omega) | (apply rdL_s; done) | apply rdL_n (by omega) | apply rpJ_s | apply rpJ_n (by omega) | rfl)) ?_
      refine g_sipush (v := nI 200) dX6_readClause_5 (by decide) ?_
      refine n_isub dX6_readClause_8 (rfl) ?_
      refine n_putI dX6_readClause_9 fdX6_95 rfl (fun h => absurd h (by decide)) (by first | rfl | exact pv_shx) (by omega) (by omega) (by decide) rfl (by repeat (first | exact pvu_s | exact pvuJ_s | apply pvu_in (by omega) | apply pvuJ_in (by omega) | exact pvu_pvs | exact pvuJ_pvs)) ?_
      refine g_aload_n dX6_readClause_12 rfl ?_
      refine n_getI dX6_readClause_13 fdX6_95 rfl (by first | rfl | exact pv_shx) (by omega) (by omega) (by decide) rfl ((congrFun pvs_eq 9).trans updS) ?_
      refine n_if_lt 27 dX6_readClause_16 (by decide) (cI_lt0.trans (by rw [pk_sub_toInt (by omega) (by omega)])) (fun c16 => ?_) (fun c16 => by exfalso; first | omega | exact absurd trivial c16 | exact c16 | (simp at c16))
      refine g_aload_n dX6_readClause_27 rfl ?_
      refine g_iconst (v := nI 1) dX6_readClause_28 (by decide) ?_
      refine g_callV (rf) okX6_refuse lkX6_98 rfl (by first | rfl | exact pv_shx) rfl (by omega) (by omega) dX6_readClause_29 rfl (Nat.le_of_ble_eq_true rfl) (⟨by decide, by decide, by decide, by decide⟩) ?_
      rintro v nx' I1 J1 P1 ⟨rfl, rfl, rfl, rfl, q1⟩
      refine g_goto 179 dX6_readClause_32 (by decide) ?_
      exact g_vret dX6_readClause_179 rfl (⟨rfl, rfl, rfl, rfl, bad _ _ _ hr q1⟩)
    · have rf := c_refuse (f := 1) (J := J) (P := P) hP hA (hB0 _) (hps (nI (tkK tx n k - 200))) (by omega)
      refine pvMet.of _ (by decide) rfl (Nat.le_of_ble_eq_true rfl) ?_
      refine g_aload_n dX6_readClause_0 rfl ?_
      refine g_aload_n dX6_readClause_1 rfl ?_
      refine n_getI dX6_readClause_2 fdX6_49 rfl (by first | rfl | exact pv_shx) (by omega) (by omega) (by decide) rfl (by repeat (first | exact x5 | (apply rd_s; done) | apply rd_n (by omega) | apply rp_s | apply rp_n (by omega) | (apply rdL_s; done) | apply rdL_n (by omega) | apply rpJ_s | apply rpJ_n (by omega) | rfl)) ?_
      refine g_sipush (v := nI 200) dX6_readClause_5 (by decide) ?_
      refine n_isub dX6_readClause_8 (by first | ((with_reducible apply pk_sub) <;> omega) | rfl) ?_
      refine n_putI dX6_readClause_9 fdX6_95 rfl (fun h => absurd h (by decide)) (by first | rfl | exact pv_shx) (by omega) (by omega) (by decide) rfl (by repeat (first | exact pvu_s | exact pvuJ_s | apply pvu_in (by omega) | apply pvuJ_in (by omega) | exact pvu_pvs | exact pvuJ_pvs)) ?_
      refine g_aload_n dX6_readClause_12 rfl ?_
      refine n_getI dX6_readClause_13 fdX6_95 rfl (by first | rfl | exact pv_shx) (by omega) (by omega) (by decide) rfl ((congrFun pvs_eq 9).trans updS) ?_
      refine n_if_lt 27 dX6_readClause_16 (by decide) (by first | ((with_reducible apply cN_lt0) <;> omega) | (with_reducible exact cI_lt0)) (fun c16 => by exfalso; first | omega | exact absurd trivial c16 | exact c16 | (simp at c16)) (fun c16 => ?_)
      refine g_aload_n dX6_readClause_19 rfl ?_
      refine n_getI dX6_readClause_20 fdX6_95 rfl (by first | rfl | exact pv_shx) (by omega) (by omega) (by decide) rfl ((congrFun pvs_eq 9).trans updS) ?_
      refine g_iconst (v := nI 3) dX6_readClause_23 (by decide) ?_
      refine n_icmp_le 35 dX6_readClause_24 (by decide) (by first | ((with_reducible apply cN_le) <;> omega) | ((with_reducible apply cI_len) <;> omega) | ((with_reducible apply cI_nle) <;> omega) | (with_reducible exact cI_le)) (fun c24 => by exfalso; first | omega | exact absurd trivial c24 | exact c24 | (simp at c24)) (fun c24 => ?_)
      refine g_aload_n dX6_readClause_27 rfl ?_
      refine g_iconst (v := nI 1) dX6_readClause_28 (by decide) ?_
      refine g_callV (rf) okX6_refuse lkX6_98 rfl (by first | rfl | exact pv_shx) rfl (by omega) (by omega) dX6_readClause_29 rfl (Nat.le_of_ble_eq_true rfl) (⟨by decide, by decide, by decide, by decide⟩) ?_
      rintro v nx' I1 J1 P1 ⟨rfl, rfl, rfl, rfl, q1⟩
      refine g_goto 179 dX6_readClause_32 (by decide) ?_
      exact g_vret dX6_readClause_179 rfl (⟨rfl, rfl, rfl, rfl, bad _ _ _ hr q1⟩)
end CL6
