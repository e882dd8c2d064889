/-! class: vote -/
section VO7
variable {w h : Nat} {a : Nat → Int32} {cl : Nat → List pC} {I : pvI} {J : pvJ} {P : pvP}
def nmV (f : Nat → Int32) (a : Nat → Int32) (p m g : Nat) : Nat → Int32 := upd (upd (upd (nmF f a (cnt a (1200 + 5 * p)) m g) 5 (nI (cnt a (1200 + 5 * p + 3)))) 6 (nI (cnt a (1200 + 5 * p + 2)))) 7 (nI (cnt a (1200 + 5 * p + 1)))
theorem nmV_ok {f : Nat → Int32} {p m g : Nat} (hm : m ≤ 99) (hg : g ≤ 100000) (h1 : cnt a (1080 + 5 * cnt a (1200 + 5 * p) + 1) ≤ 9) (h2 : cnt a (1080 + 5 * cnt a (1200 + 5 * p) + 2) ≤ 9) (h6 : cnt a 6 ≤ 60) (p1 : cnt a (1200 + 5 * p + 1) ≤ 9) (p2 : cnt a (1200 + 5 * p + 2) ≤ 9999) (p3 : cnt a (1200 + 5 * p + 3) ≤ 9999) : nmC (nmV f a p m g) 3 (nmH a (cnt a (1200 + 5 * p)) g m (cnt a (1200 + 5 * p + 3)) (cnt a (1200 + 5 * p + 2)) (cnt a (1200 + 5 * p + 1))) := fun i hi _ => by
  have hs : hsP a (cnt a (1200 + 5 * p)) ≤ cnt a 6 := sp_ct_le _
  rcases (show i = 0 ∨ i = 1 ∨ i = 2 ∨ i = 3 ∨ i = 4 ∨ i = 5 ∨ i = 6 ∨ i = 7 by omega) with rfl | rfl | rfl | rfl | rfl | rfl | rfl | rfl
  · exact ⟨nI_iI _, by show smI ((g : Nat) : Int); unfold smI; omega⟩
  · exact ⟨nI_iI _, by show smI ((cnt a (1080 + 5 * cnt a (1200 + 5 * p) + 1) : Nat) : Int); unfold smI; omega⟩
  · exact ⟨nI_iI _, by show smI ((cnt a (1080 + 5 * cnt a (1200 + 5 * p) + 2) : Nat) : Int); unfold smI; omega⟩
  · exact ⟨nI_iI _, by show smI ((m : Nat) : Int); unfold smI; omega⟩
  · exact ⟨nI_iI _, by show smI ((hsP a (cnt a (1200 + 5 * p)) : Nat) : Int); unfold smI; omega⟩
  · exact ⟨nI_iI _, by show smI ((cnt a (1200 + 5 * p + 3) : Nat) : Int); unfold smI; omega⟩
  · exact ⟨nI_iI _, by show smI ((cnt a (1200 + 5 * p + 2) : Nat) : Int); unfold smI; omega⟩
  · exact ⟨nI_iI _, by show smI ((cnt a (1200 + 5 * p + 1) : Nat) : Int); unfold smI; omega⟩
theorem c_votesYes {p m g t j : Nat} {cd : List Nat} (hP : pvOkP P) (hb : kB w h a I J) (hse : seenT w h a g I J) (hmg : m ≤ g) (hg : g ≤ 99) (hp : p < cnt a 6) (ht : t < 10) (o1 : csOk (cl t)) (o2 : cd.length ≤ 300) (o3 : cAct (149 + 5 * t) I (cl t) cd) (hf1 : fstC (cl t) 3 = some j) : pvMet mX11_votesYes 4 0 0 [.ref 1, .int (nI p), .int (nI m), .ref (149 + 5 * t), .int (nI (ltN w h a (cnt a 0)))] 224 I J P (pvq P (fun v I' J' => v = some (.int (if evT (nmH a (cnt a (1200 + 5 * p)) (gasN w h a (cnt a (1200 + 5 * p)) m true) m (cnt a (1200 + 5 * p + 3)) (cnt a (1200 + 5 * p + 2)) (cnt a (1200 + 5 * p + 1))) ((cl t).getD j (0, 0, [])).2.2 = true then 1 else 0)) ∧ J' = J ∧ ∃ f f2, I' = pvs (pvs I 199 f) 200 f2)) := by
  have n6 := hb.n6.1
  have hwh := hb.1.wh
  obtain ⟨⟨q1, q2⟩, ⟨q3, q4⟩, ⟨q5, q6⟩, ⟨q7, q8⟩⟩ := hb.per hp
  obtain ⟨k20, k1, k2, -, -⟩ := hb.hou q1
  have n5 := hb.n5.1
  have g1 := c_gasOf (hi := nI 1) (high := true) hP hb hse hmg hg q1 (by decide)
  have gh := gasN_le (w := w) (h := h) (a := a) (k := cnt a (1200 + 5 * p)) (m := m) (high := true) hwh.2 k1
  have nh := c_nameHouse (m := m) (g := gasN w h a (cnt a (1200 + 5 * p)) m true) hP hb q1
  have hAd : aAd (149 + 5 * t) := ⟨t, ht, rfl⟩
  have sh := hAd.sh.1.1
  have hA1 := hAd.sh.2
  obtain ⟨j1, j2⟩ := fstC_some hf1
  have j20 := o3.2.1
  have ok : okT 3 ((cl t).getD j (0, 0, [])).2.2 := by
    have := (o1 _ (getD_mem j1)).2.2.2
    rw [j2] at this
    exact this (by decide)
  have fi := fun f => c_first (I := pvs I 199 f) (J := J) hP hAd (o3.mv (fun x z1 z2 => pvs_ne (by omega))) (s := 3) (by decide)
  rw [hf1] at fi
  generalize hgv : gasN w h a (cnt a (1200 + 5 * p)) m true = gv at *
  have va := c_valT (J := J) (P := P) (I := pvs I 199 (nmV (I 199) a p m gv)) hP hAd (o3.mv (fun x z1 z2 => pvs_ne (by omega))) o2 j1 (by rw [pvs_eq]; exact nmV_ok (by omega) gh k1 k2 n6 q3 q5 q7) ok
  generalize hev : evT (nmH a (cnt a (1200 + 5 * p)) gv m (cnt a (1200 + 5 * p + 3)) (cnt a (1200 + 5 * p + 2)) (cnt a (1200 + 5 * p + 1))) ((cl t).getD j (0, 0, [])).2.2 = ev at *
  cases ev with
  | true =>
    rw [if_pos rfl] at va
    refine pvMet.of _ (by decide) rfl (Nat.le_of_ble_eq_true rfl) ?_
    refine g_aload_n dX11_votesYes_0 rfl ?_
    refine g_getP dX11_votesYes_1 fdX11_32 rfl (by first | rfl | exact pv_shx) (by omega) (by omega) (by decide) rfl (hP _ _ _ rfl) ?_
    refine g_getP dX11_votesYes_4 fdX11_277 rfl (by first | rfl | exact pv_shx) (by omega) (by omega) (by decide) rfl (hP _ _ _ rfl) ?_
    refine g_astore dX11_votesYes_7 (by decide) rfl ?_
    refine g_aload dX11_votesYes_9 rfl ?_
    refine g_getP dX11_votesYes_11 fdX11_504 rfl (by first | rfl | exact pv_shx) (by omega) (by omega) (by decide) rfl (hP _ _ _ rfl) ?_
    refine g_iload_n dX11_votesYes_14 rfl ?_
    refine n_iald dX11_votesYes_15 (by first | rfl | exact pv_shx) (by omega) (by omega) (by decide) (rfl) (by omega) (by repeat (first | exact q2 | exact q4 | exact q6 | exact q8 | (apply rd_s; done) | apply rd_n (by omega) | apply rp_s | apply rp_n (by omega) | (apply rdL_s; done) | apply rdL_n (by omega) | apply rpJ_s | apply rpJ_n (by omega) | rfl)) ?_
    refine g_istore dX11_votesYes_16 (by decide) rfl ?_
    refine g_aload_n dX11_votesYes_18 rfl ?_
    refine g_iload dX11_votesYes_19 rfl ?_
    refine g_iload_n dX11_votesYes_21 rfl ?_
    refine g_aload_n dX11_votesYes_22 rfl ?_
    refine g_iload dX11_votesYes_23 rfl ?_
    refine g_iload_n dX11_votesYes_25 rfl ?_
    refine g_iconst (v := nI 1) dX11_votesYes_26 (by decide) ?_
    refine g_iload dX11_votesYes_27 rfl ?_
    refine p_callV (g1) okX11_gasOf lkX11_290 rfl (by first | rfl | exact pv_shx) rfl (by omega) (by omega) dX11_votesYes_29 rfl (Nat.le_of_ble_eq_true rfl) (⟨by decide, by decide, by decide, by decide⟩) ?_
    refine g_callV (nh) okX11_nameHouse lkX11_494 rfl (by first | rfl | exact pv_shx) rfl (by omega) (by omega) dX11_votesYes_32 rfl (Nat.le_of_ble_eq_true rfl) (⟨by decide, by decide, by decide, by decide⟩) ?_
    rintro v' nx' I1 J1 P1 ⟨rfl, rfl, rfl, rfl, rfl⟩
    refine g_aload_n dX11_votesYes_35 rfl ?_
    refine g_getP dX11_votesYes_36 fdX11_64 rfl (by first | rfl | exact pv_shx) (by omega) (by omega) (by decide) rfl (hP _ _ _ rfl) ?_
    refine g_iconst (v := nI 5) dX11_votesYes_39 (by decide) ?_
    refine g_aload dX11_votesYes_40 rfl ?_
    refine g_getP dX11_votesYes_42 fdX11_303 rfl (by first | rfl | exact pv_shx) (by omega) (by omega) (by decide) rfl (hP _ _ _ rfl) ?_
    refine g_iload_n dX11_votesYes_45 rfl ?_
    refine n_iald dX11_votesYes_46 (by first | rfl | exact pv_shx) (by omega) (by omega) (by decide) (rfl) (by omega) (by repeat (first | exact q2 | exact q4 | exact q6 | exact q8 | (apply rd_s; done) | apply rd_n (by omega) | apply rp_s | apply rp_n (by omega) | (apply rdL_s; done) | apply rdL_n (by omega) | apply rpJ_s | apply rpJ_n (by omega) | rfl)) ?_
    refine n_iast dX11_votesYes_47 (by first | rfl | exact pv_shx) (by omega) (by omega) (by omega) (by decide) (rfl) (by omega) (by repeat (first | exact pvu_s | exact pvuJ_s | apply pvu_in (by omega) | apply pvuJ_in (by omega) | exact pvu_pvs | exact pvuJ_pvs)) ?_
    refine g_aload_n dX11_votesYes_48 rfl ?_
    refine g_getP dX11_votesYes_49 fdX11_64 rfl (by first | rfl | exact pv_shx) (by omega) (by omega) (by decide) rfl (hP _ _ _ rfl) ?_
    refine g_bipush (v := nI 6) dX11_votesYes_52 (by decide) ?_
    refine g_aload dX11_votesYes_54 rfl ?_
    refine g_getP dX11_votesYes_56 fdX11_507 rfl (by first | rfl | exact pv_shx) (by omega) (by omega) (by decide) rfl (hP _ _ _ rfl) ?_
    refine g_iload_n dX11_votesYes_59 rfl ?_
    refine n_iald dX11_votesYes_60 (by first | rfl | exact pv_shx) (by omega) (by omega) (by decide) (rfl) (by omega) (by repeat (first | exact q2 | exact q4 | exact q6 | exact q8 | (apply rd_s; done) | apply rd_n (by omega) | apply rp_s | apply rp_n (by omega) | (apply rdL_s; done) | apply rdL_n (by omega) | apply rpJ_s | apply rpJ_n (by omega) | rfl)) ?_
    refine n_iast dX11_votesYes_61 (by first | rfl | exact pv_shx) (by omega) (by omega) (by omega) (by decide) (rfl) (by omega) (by repeat (first | exact pvu_s | exact pvuJ_s | apply pvu_in (by omega) | apply pvuJ_in (by omega) | exact pvu_pvs | exact pvuJ_pvs)) ?_
    refine g_aload_n dX11_votesYes_62 rfl ?_
    refine g_getP dX11_votesYes_63 fdX11_64 rfl (by first | rfl | exact pv_shx) (by omega) (by omega) (by decide) rfl (hP _ _ _ rfl) ?_
    refine g_bipush (v := nI 7) dX11_votesYes_66 (by decide) ?_
    refine g_aload dX11_votesYes_68 rfl ?_
    refine g_getP dX11_votesYes_70 fdX11_510 rfl (by first | rfl | exact pv_shx) (by omega) (by omega) (by decide) rfl (hP _ _ _ rfl) ?_
    refine g_iload_n dX11_votesYes_73 rfl ?_
    refine n_iald dX11_votesYes_74 (by first | rfl | exact pv_shx) (by omega) (by omega) (by decide) (rfl) (by omega) (by repeat (first | exact q2 | exact q4 | exact q6 | exact q8 | (apply rd_s; done) | apply rd_n (by omega) | apply rp_s | apply rp_n (by omega) | (apply rdL_s; done) | apply rdL_n (by omega) | apply rpJ_s | apply rpJ_n (by omega) | rfl)) ?_
    refine n_iast dX11_votesYes_75 (by first | rfl | exact pv_shx) (by omega) (by omega) (by omega) (by decide) (rfl) (by omega) (by repeat (first | exact pvu_s | exact pvuJ_s | apply pvu_in (by omega) | apply pvuJ_in (by omega) | exact pvu_pvs | exact pvuJ_pvs)) ?_
    refine g_aload_n dX11_votesYes_76 rfl ?_
    refine g_aload_n dX11_votesYes_77 rfl ?_
    refine g_iconst (v := nI 3) dX11_votesYes_78 (by decide) ?_
    refine p_callV (fi _) okX0_first lkX11_485 rfl (sh) rfl (by omega) (by omega) dX11_votesYes_79 rfl (Nat.le_of_ble_eq_true rfl) (⟨by decide, by decide, by decide, by decide⟩) ?_
    refine g_aload_n dX11_votesYes_82 rfl ?_
    refine g_getP dX11_votesYes_83 fdX11_64 rfl (by first | rfl | exact pv_shx) (by omega) (by omega) (by decide) rfl (hP _ _ _ rfl) ?_
    refine g_aload_n dX11_votesYes_86 rfl ?_
    refine g_getP dX11_votesYes_87 fdX11_68 rfl (by first | rfl | exact pv_shx) (by omega) (by omega) (by decide) rfl (hP _ _ _ rfl) ?_
    refine g_callV (va) okX0_value lkX11_378 rfl (sh) rfl (by omega) (by omega) dX11_votesYes_90 rfl (Nat.le_of_ble_eq_true rfl) (⟨by decide, by decide, by decide, by decide⟩) ?_
    rintro v' nx' I2 J2 P2 ⟨rfl, rfl, rfl, rfl, f3, rfl⟩
    refine n_if_eq 100 dX11_votesYes_93 (by decide) (by first | (with_reducible exact cB _) | ((with_reducible apply cN_eq0) <;> omega) | exact Iff.rfl) (fun c93 => by exfalso; first | omega | exact absurd trivial c93 | exact c93 | (simp at c93)) (fun c93 => ?_)
    refine g_iconst (v := nI 1) dX11_votesYes_96 (by decide) ?_
    refine g_goto 101 dX11_votesYes_97 (by decide) ?_
    exact g_zret (by first | exact Or.inl rfl | exact Or.inr rfl | exact cB01 _) dX11_votesYes_101 rfl (⟨rfl, rfl, rfl, rfl, _, f3, rfl⟩)
  | false =>
    rw [if_neg (by decide)] at va
    refine pvMet.of _ (by decide) rfl (Nat.le_of_ble_eq_true rfl) ?_
    refine g_aload_n dX11_votesYes_0 rfl ?_
    refine g_getP dX11_votesYes_1 fdX11_32 rfl (by first | rfl | exact pv_shx) (by omega) (by omega) (by decide) rfl (hP _ _ _ rfl) ?_
    refine g_getP dX11_votesYes_4 fdX11_277 rfl (by first | rfl | exact pv_shx) (by omega) (by omega) (by decide) rfl (hP _ _ _ rfl) ?_
    refine g_astore dX11_votesYes_7 (by decide) rfl ?_
    refine g_aload dX11_votesYes_9 rfl ?_
    refine g_getP dX11_votesYes_11 fdX11_504 rfl (by first | rfl | exact pv_shx) (by omega) (by omega) (by decide) rfl (hP _ _ _ rfl) ?_
    refine g_iload_n dX11_votesYes_14 rfl ?_
    refine n_iald dX11_votesYes_15 (by first | rfl | exact pv_shx) (by omega) (by omega) (by decide) (rfl) (by omega) (by repeat (first | exact q2 | exact q4 | exact q6 | exact q8 | (apply rd_s; done) | apply rd_n (by omega) | apply rp_s | apply rp_n (by omega) | (apply rdL_s; done) | apply rdL_n (by omega) | apply rpJ_s | apply rpJ_n (by omega) | rfl)) ?_
    refine g_istore dX11_votesYes_16 (by decide) rfl ?_
    refine g_aload_n dX11_votesYes_18 rfl ?_
    refine g_iload dX11_votesYes_19 rfl ?_
    refine g_iload_n dX11_votesYes_21 rfl ?_
    refine g_aload_n dX11_votesYes_22 rfl ?_
    refine g_iload dX11_votesYes_23 rfl ?_
    refine g_iload_n dX11_votesYes_25 rfl ?_
    refine g_iconst (v := nI 1) dX11_votesYes_26 (by decide) ?_
    refine g_iload dX11_votesYes_27 rfl ?_
    refine p_callV (g1) okX11_gasOf lkX11_290 rfl (by first | rfl | exact pv_shx) rfl (by omega) (by omega) dX11_votesYes_29 rfl (Nat.le_of_ble_eq_true rfl) (⟨by decide, by decide, by decide, by decide⟩) ?_
    refine g_callV (nh) okX11_nameHouse lkX11_494 rfl (by first | rfl | exact pv_shx) rfl (by omega) (by omega) dX11_votesYes_32 rfl (Nat.le_of_ble_eq_true rfl) (⟨by decide, by decide, by decide, by decide⟩) ?_
    rintro v' nx' I1 J1 P1 ⟨rfl, rfl, rfl, rfl, rfl⟩
    refine g_aload_n dX11_votesYes_35 rfl ?_
    refine g_getP dX11_votesYes_36 fdX11_64 rfl (by first | rfl | exact pv_shx) (by omega) (by omega) (by decide) rfl (hP _ _ _ rfl) ?_
    refine g_iconst (v := nI 5) dX11_votesYes_39 (by decide) ?_
    refine g_aload dX11_votesYes_40 rfl ?_
    refine g_getP dX11_votesYes_42 fdX11_303 rfl (by first | rfl | exact pv_shx) (by omega) (by omega) (by decide) rfl (hP _ _ _ rfl) ?_
    refine g_iload_n dX11_votesYes_45 rfl ?_
    refine n_iald dX11_votesYes_46 (by first | rfl | exact pv_shx) (by omega) (by omega) (by decide) (rfl) (by omega) (by repeat (first | exact q2 | exact q4 | exact q6 | exact q8 | (apply rd_s; done) | apply rd_n (by omega) | apply rp_s | apply rp_n (by omega) | (apply rdL_s; done) | apply rdL_n (by omega) | apply rpJ_s | apply rpJ_n (by omega) | rfl)) ?_
    refine n_iast dX11_votesYes_47 (by first | rfl | exact pv_shx) (by omega) (by omega) (by omega) (by decide) (rfl) (by omega) (by repeat (first | exact pvu_s | exact pvuJ_s | apply pvu_in (by omega) | apply pvuJ_in (by omega) | exact pvu_pvs | exact pvuJ_pvs)) ?_
    refine g_aload_n dX11_votesYes_48 rfl ?_
    refine g_getP dX11_votesYes_49 fdX11_64 rfl (by first | rfl | exact pv_shx) (by omega) (by omega) (by decide) rfl (hP _ _ _ rfl) ?_
    refine g_bipush (v := nI 6) dX11_votesYes_52 (by decide) ?_
    refine g_aload dX11_votesYes_54 rfl ?_
    refine g_getP dX11_votesYes_56 fdX11_507 rfl (by first | rfl | exact pv_shx) (by omega) (by omega) (by decide) rfl (hP _ _ _ rfl) ?_
    refine g_iload_n dX11_votesYes_59 rfl ?_
    refine n_iald dX11_votesYes_60 (by first | rfl | exact pv_shx) (by omega) (by omega) (by decide) (rfl) (by omega) (by repeat (first | exact q2 | exact q4 | exact q6 | exact q8 | (apply rd_s; done) | apply rd_n (by omega) | apply rp_s | apply rp_n (by omega) | (apply rdL_s; done) | apply rdL_n (by omega) | apply rpJ_s | apply rpJ_n (by omega) | rfl)) ?_
    refine n_iast dX11_votesYes_61 (by first | rfl | exact pv_shx) (by omega) (by omega) (by omega) (by decide) (rfl) (by omega) (by repeat (first | exact pvu_s | exact pvuJ_s | apply pvu_in (by omega) | apply pvuJ_in (by omega) | exact pvu_pvs | exact pvuJ_pvs)) ?_
    refine g_aload_n dX11_votesYes_62 rfl ?_
    refine g_getP dX11_votesYes_63 fdX11_64 rfl (by first | rfl | exact pv_shx) (by omega) (by omega) (by decide) rfl (hP _ _ _ rfl) ?_
    refine g_bipush (v := nI 7) dX11_votesYes_66 (by decide) ?_
    refine g_aload dX11_votesYes_68 rfl ?_
    refine g_getP dX11_votesYes_70 fdX11_510 rfl (by first | rfl | exact pv_shx) (by omega) (by omega) (by decide) rfl (hP _ _ _ rfl) ?_
    refine g_iload_n dX11_votesYes_73 rfl ?_
    refine n_iald dX11_votesYes_74 (by first | rfl | exact pv_shx) (by omega) (by omega) (by decide) (rfl) (by omega) (by repeat (first | exact q2 | exact q4 | exact q6 | exact q8 | (apply rd_s; done) | apply rd_n (by omega) | apply rp_s | apply rp_n (by omega) | (apply rdL_s; done) | apply rdL_n (by omega) | apply rpJ_s | apply rpJ_n (by omega) | rfl)) ?_
    refine n_iast dX11_votesYes_75 (by first | rfl | exact pv_shx) (by omega) (by omega) (by omega) (by decide) (rfl) (by omega) (by repeat (first | exact pvu_s | exact pvuJ_s | apply pvu_in (by omega) | apply pvuJ_in (by omega) | exact pvu_pvs | exact pvuJ_pvs)) ?_
    refine g_aload_n dX11_votesYes_76 rfl ?_
    refine g_aload_n dX11_votesYes_77 rfl ?_
    refine g_iconst (v := nI 3) dX11_votesYes_78 (by decide) ?_
    refine p_callV (fi _) okX0_first lkX11_485 rfl (sh) rfl (by omega) (by omega) dX11_votesYes_79 rfl (Nat.le_of_ble_eq_true rfl) (⟨by decide, by decide, by decide, by decide⟩) ?_
    refine g_aload_n dX11_votesYes_82 rfl ?_
    refine g_getP dX11_votesYes_83 fdX11_64 rfl (by first | rfl | exact pv_shx) (by omega) (by omega) (by decide) rfl (hP _ _ _ rfl) ?_
    refine g_aload_n dX11_votesYes_86 rfl ?_
    refine g_getP dX11_votesYes_87 fdX11_68 rfl (by first | rfl | exact pv_shx) (by omega) (by omega) (by decide) rfl (hP _ _ _ rfl) ?_
    refine g_callV (va) okX0_value lkX11_378 rfl (sh) rfl (by omega) (by omega) dX11_votesYes_90 rfl (Nat.le_of_ble_eq_true rfl) (⟨by decide, by decide, by decide, by decide⟩) ?_
    rintro v' nx' I2 J2 P2 ⟨rfl, rfl, rfl, rfl, f3, rfl⟩
    refine n_if_eq 100 dX11_votesYes_93 (by decide) (by first | (with_reducible exact cB _) | ((with_reducible apply cN_eq0) <;> omega) | exact Iff.rfl) (fun c93 => ?_) (fun c93 => by exfalso; first | omega | exact absurd trivial c93 | exact c93 | (simp at c93))
    refine g_iconst (v := nI 0) dX11_votesYes_100 (by decide) ?_
    exact g_zret (by first | exact Or.inl rfl | exact Or.inr rfl | exact cB01 _) dX11_votesYes_101 rfl (⟨rfl, rfl, rfl, rfl, _, f3, rfl⟩)
/-- the truths of who says yes -/
def syA (f : Nat → Int32) (yb : Nat → Bool) (n : Nat) : Prop := ∀ p, p < n → f p = if yb p = true then 1 else 0
def cvI (a : Nat → Int32) (yb : Nat → Bool) (I : pvI) (p : Nat) (I1 : pvI) : Prop := (∀ x, x ≠ 199 → x ≠ 200 → x ≠ 201 → I1 x = I x) ∧ ∀ q, q < p → I1 201 q = if (decide (sp_here a q) && yb q) = true then 1 else 0
def cvQ (w h : Nat) (a : Nat → Int32) (cl : Nat → List pC) (m : Nat) (I : pvI) (J : pvJ) (P : pvP) : pvQT := pvq P (fun v I' J' => v = some (.int (nI (sp_ct (yeP a (yesB w h a cl m)) (cnt a 6)))) ∧ J' = J ∧ cvI a (yesB w h a cl m) I (cnt a 6) I')
theorem kB.there {p : Nat} (hP : pvOkP P) (hb : kB w h a I J) (hp : p < cnt a 6) : pvMet mX7_isThere 0 0 0 [.ref 27, .int (nI p)] 224 I J P (pvpu (.int (if sp_here a p then 1 else 0)) 224 I J P) := by
  have n6 := hb.n6.1
  have f37 : I 37 p = a (1200 + 5 * p + 4) := (hb.2.1.2.2.2.2.1.2.2.2.1 p hp).2.2.2.2
  obtain ⟨-, -, -, -, wor⟩ := hb.2.2.2.2.2.2.1.1 p hp
  have is := c_isThere (p := p) (a := a) (I := I) (J := J) (P := P) hP (by omega) (by rw [f37]; exact wor)
  rw [f37] at is
  exact is
theorem c_countVotes {m g : Nat} (hP : pvOkP P) (hb : kB w h a I J) (hA : cActs (cnt a 8) cl I) (hse : seenT w h a g I J) (hmg : m ≤ g) (hg : g ≤ 99) (hc0 : min 99 (cnt a 0) ≤ g) : pvMet mX11_countVotes 5 0 0 [.ref 1, .int (nI m)] 224 I J P (cvQ w h a cl m I J P) := by
  have hi := hb.2.2.2.2
  obtain ⟨n6, r6⟩ := hb.n6
  have n8 := hb.n9.2.2.1
  have n3 := hb.n3.1
  have af := c_actFor (s := 3) (m := m) hP hb hA (by decide) (by omega)
  have es : ∀ p, sp_ct (yeP a (yesB w h a cl m)) (p + 1) = sp_ct (yeP a (yesB w h a cl m)) p + (if yeP a (yesB w h a cl m) p then 1 else 0) := fun _ => rfl
  have kb1 : ∀ p I1, cvI a (yesB w h a cl m) I p I1 → kB w h a I1 J := fun p I1 q => hb.far (fun x hx => q.1 x (by omega) (by omega) (by omega)) (fun _ _ => rfl)
  have r61 : ∀ p I1, cvI a (yesB w h a cl m) I p I1 → I1 27 6 = nI (cnt a 6) := fun p I1 q => by rw [q.1 27 (by decide) (by decide) (by decide)]; exact r6
  have step : ∀ p I1 b (u : Nat → Int32) f f2, cvI a (yesB w h a cl m) I p I1 → b = (if (decide (sp_here a p) && yesB w h a cl m p) = true then (1 : Int32) else 0) → u = upd (I1 201) p b → cvI a (yesB w h a cl m) I (p + 1) (pvs (pvs (pvs I1 201 u) 199 f) 200 f2) := by
    intro p I1 b u f f2 q hbv hu
    refine ⟨fun x z1 z2 z3 => by rw [pvs_ne z2, pvs_ne z1, pvs_ne z3]; exact q.1 x z1 z2 z3, fun r hr => ?_⟩
    rw [pvs_ne (by decide), pvs_ne (by decide), pvs_eq, hu]
    by_cases e : r = p
    · subst e; rw [updS, hbv]
    · rw [updI e]; exact q.2 r (by omega)
  have step0 : ∀ p I1 b (u : Nat → Int32), cvI a (yesB w h a cl m) I p I1 → b = (if (decide (sp_here a p) && yesB w h a cl m p) = true then (1 : Int32) else 0) → u = upd (I1 201) p b → cvI a (yesB w h a cl m) I (p + 1) (pvs I1 201 u) := by
    intro p I1 b u q hbv hu
    refine ⟨fun x z1 z2 z3 => by rw [pvs_ne z3]; exact q.1 x z1 z2 z3, fun r hr => ?_⟩
    rw [pvs_eq, hu]
    by_cases e : r = p
    · subst e; rw [updS, hbv]
    · rw [updI e]; exact q.2 r (by omega)
  have hyl : ∀ p, sp_ct (yeP a (yesB w h a cl m)) p ≤ p := fun p => sp_ct_le p
  cases hp : afN a cl 3 m (cnt a 9) with
  | none =>
    rw [hp] at af
    have yn : ∀ p, yesB w h a cl m p = false := fun p => by unfold yesB cfN; rw [hp]; rfl
    have lp : ∀ q p I1, p + q = cnt a 6 → cvI a (yesB w h a cl m) I p I1 → pvG mX11_countVotes (pvR 5 0 0) (pvZ (cvQ w h a cl m I J P) 0 0) 35 [.ref 1, .int (nI m), .ref 27, .null, .int (nI 0), .int (nI (sp_ct (yeP a (yesB w h a cl m)) p)), .int (nI p)] [] 0 0 224 I1 J P := by
      intro q
      induction q with
      | zero =>
        intro p I1 hq hs
        obtain rfl : p = cnt a 6 := by omega
        have r := r61 _ _ hs
        refine g_iload dX11_countVotes_35 rfl ?_
        refine g_aload_n dX11_countVotes_37 rfl ?_
        refine n_getI dX11_countVotes_38 fdX11_294 rfl (by first | rfl | exact pv_shx) (by omega) (by omega) (by decide) rfl (by repeat (first | exact r | (apply rd_s; done) | apply rd_n (by omega) | apply rp_s | apply rp_n (by omega) | (apply rdL_s; done) | apply rdL_n (by omega) | apply rpJ_s | apply rpJ_n (by omega) | rfl)) ?_
        refine n_icmp_ge 101 dX11_countVotes_41 (by decide) (by first | ((with_reducible apply cN_le) <;> omega) | ((with_reducible apply cI_len) <;> omega) | ((with_reducible apply cI_nle) <;> omega) | (with_reducible exact cI_le)) (fun c41 => ?_) (fun c41 => by exfalso; first | omega | exact absurd trivial c41 | exact c41 | (simp at c41))
        refine g_iload dX11_countVotes_101 rfl ?_
        exact g_iret dX11_countVotes_103 rfl (⟨rfl, rfl, rfl, rfl, hs⟩)
      | succ q ih =>
        intro p I1 hq hs
        have r := r61 _ _ hs
        have nx := ih (p + 1) (pvs I1 201 (upd (I1 201) p (nI 0))) (by omega) (step0 p I1 (nI 0) _ hs (by rw [yn, Bool.and_false]; rfl) rfl)
        rw [es p, if_neg (fun z => by have y := z.2; rw [yn] at y; cases y), Nat.add_zero] at nx
        have v88 : pvs I1 201 (upd (I1 201) p (nI 0)) 201 p = nI 0 := by rw [pvs_eq, updS]
        refine g_iload dX11_countVotes_35 rfl ?_
        refine g_aload_n dX11_countVotes_37 rfl ?_
        refine n_getI dX11_countVotes_38 fdX11_294 rfl (by first | rfl | exact pv_shx) (by omega) (by omega) (by decide) rfl (by repeat (first | exact r | exact v88 | (apply rd_s; done) | apply rd_n (by omega) | apply rp_s | apply rp_n (by omega) | (apply rdL_s; done) | apply rdL_n (by omega) | apply rpJ_s | apply rpJ_n (by omega) | rfl)) ?_
        refine n_icmp_ge 101 dX11_countVotes_41 (by decide) (by first | ((with_reducible apply cN_le) <;> omega) | ((with_reducible apply cI_len) <;> omega) | ((with_reducible apply cI_nle) <;> omega) | (with_reducible exact cI_le)) (fun c41 => by exfalso; first | omega | exact absurd trivial c41 | exact c41 | (simp at c41)) (fun c41 => ?_)
        refine g_aload_n dX11_countVotes_44 rfl ?_
        refine g_getP dX11_countVotes_45 fdX11_73 rfl (by first | rfl | exact pv_shx) (by omega) (by omega) (by decide) rfl (hP _ _ _ rfl) ?_
        refine g_iload dX11_countVotes_48 rfl ?_
        refine g_aload_nN dX11_countVotes_50 rfl ?_
        refine g_ifnullN 80 dX11_countVotes_51 (by decide) ?_
        refine g_iconst (v := nI 0) dX11_countVotes_80 (by decide) ?_
        refine n_zast (by first | exact Or.inl rfl | exact Or.inr rfl | exact cB01 _) dX11_countVotes_81 (by first | rfl | exact pv_shx) (by omega) (by omega) (by omega) (by decide) (rfl) (by omega) (by repeat (first | exact pvu_s | exact pvuJ_s | apply pvu_in (by omega) | apply pvuJ_in (by omega) | exact pvu_pvs | exact pvuJ_pvs)) ?_
        refine g_aload_n dX11_countVotes_82 rfl ?_
        refine g_getP dX11_countVotes_83 fdX11_73 rfl (by first | rfl | exact pv_shx) (by omega) (by omega) (by decide) rfl (hP _ _ _ rfl) ?_
        refine g_iload dX11_countVotes_86 rfl ?_
        refine n_zald dX11_countVotes_88 (by first | rfl | exact pv_shx) (by omega) (by omega) (by decide) (rfl) (by omega) (by repeat (first | exact r | exact v88 | (apply rd_s; done) | apply rd_n (by omega) | apply rp_s | apply rp_n (by omega) | (apply rdL_s; done) | apply rdL_n (by omega) | apply rpJ_s | apply rpJ_n (by omega) | rfl)) ?_
        refine n_if_eq 95 dX11_countVotes_89 (by decide) (by first | (with_reducible exact cB _) | ((with_reducible apply cN_eq0) <;> omega) | exact Iff.rfl) (fun c89 => ?_) (fun c89 => by exfalso; first | omega | exact absurd trivial c89 | exact c89 | (simp at c89))
        refine g_iinc dX11_countVotes_95 rfl (by first | (with_reducible exact nI_1 _) | exact nI_1 _ | exact pk_m1 _ | rfl) (by decide) rfl ?_
        refine g_goto 35 dX11_countVotes_98 (by decide) ?_
        exact nx
    have go := lp (cnt a 6) 0 I (by omega) ⟨fun _ _ _ _ => rfl, fun q hq => absurd hq (Nat.not_lt_zero q)⟩
    refine pvMet.of _ (by decide) rfl (Nat.le_of_ble_eq_true rfl) ?_
    refine g_aload_n dX11_countVotes_0 rfl ?_
    refine g_getP dX11_countVotes_1 fdX11_32 rfl (by first | rfl | exact pv_shx) (by omega) (by omega) (by decide) rfl (hP _ _ _ rfl) ?_
    refine g_getP dX11_countVotes_4 fdX11_277 rfl (by first | rfl | exact pv_shx) (by omega) (by omega) (by decide) rfl (hP _ _ _ rfl) ?_
    refine g_astore_n dX11_countVotes_7 (by decide) rfl ?_
    refine g_aload_n dX11_countVotes_8 rfl ?_
    refine g_iconst (v := nI 3) dX11_countVotes_9 (by decide) ?_
    refine g_iload_n dX11_countVotes_10 rfl ?_
    refine p_callV (af) okX11_actFor lkX11_365 rfl (by first | rfl | exact pv_shx) rfl (by omega) (by omega) dX11_countVotes_11 rfl (Nat.le_of_ble_eq_true rfl) (⟨by decide, by decide, by decide, by decide⟩) ?_
    refine g_astore_nN dX11_countVotes_14 (by decide) rfl ?_
    refine g_aload_nN dX11_countVotes_15 rfl ?_
    refine g_ifnonnullN dX11_countVotes_16 ?_
    refine g_iconst (v := nI 0) dX11_countVotes_19 (by decide) ?_
    refine g_goto 27 dX11_countVotes_20 (by decide) ?_
    refine g_istore dX11_countVotes_27 (by decide) rfl ?_
    refine g_iconst (v := nI 0) dX11_countVotes_29 (by decide) ?_
    refine g_istore dX11_countVotes_30 (by decide) rfl ?_
    refine g_iconst (v := nI 0) dX11_countVotes_32 (by decide) ?_
    refine g_istore dX11_countVotes_33 (by decide) rfl ?_
    exact go
  | some t =>
    rw [hp] at af
    obtain ⟨t1, t2⟩ := afN_some hi.2.2.2.2.1 n8 (Nat.le_refl _) hp
    obtain ⟨o1, cd, o2, o3⟩ := hA t t1
    have hAd : aAd (149 + 5 * t) := ⟨t, by omega, rfl⟩
    have hA1 := hAd.sh.2
    cases hf1 : fstC (cl t) 3 with
    | none => exact absurd hf1 t2
    | some j =>
      have ln := c_letNow hP hb hse hc0
      have hll := ltN_lt (w := w) (h := h) (a := a) (kn := cnt a 0) n3
      have ye : ∀ p, yesB w h a cl m p = evT (nmH a (cnt a (1200 + 5 * p)) (gasN w h a (cnt a (1200 + 5 * p)) m true) m (cnt a (1200 + 5 * p + 3)) (cnt a (1200 + 5 * p + 2)) (cnt a (1200 + 5 * p + 1))) ((cl t).getD j (0, 0, [])).2.2 := fun p => by
        have ecf : cfN a cl 3 m = some (t, j) := by unfold cfN; rw [hp]; show (fstC (cl t) 3).map _ = _; rw [hf1]; rfl
        unfold yesB
        rw [ecf]
        rfl
      have lp : ∀ q p I1, p + q = cnt a 6 → cvI a (yesB w h a cl m) I p I1 → pvG mX11_countVotes (pvR 5 0 0) (pvZ (cvQ w h a cl m I J P) 0 0) 35 [.ref 1, .int (nI m), .ref 27, .ref (149 + 5 * t), .int (nI (ltN w h a (cnt a 0))), .int (nI (sp_ct (yeP a (yesB w h a cl m)) p)), .int (nI p)] [] 0 0 224 I1 J P := by
        intro q
        induction q with
        | zero =>
          intro p I1 hq hs
          obtain rfl : p = cnt a 6 := by omega
          have r := r61 _ _ hs
          refine g_iload dX11_countVotes_35 rfl ?_
          refine g_aload_n dX11_countVotes_37 rfl ?_
          refine n_getI dX11_countVotes_38 fdX11_294 rfl (by first | rfl | exact pv_shx) (by omega) (by omega) (by decide) rfl (by repeat (first | exact r | (apply rd_s; done) | apply rd_n (by omega) | apply rp_s | apply rp_n (by omega) | (apply rdL_s; done) | apply rdL_n (by omega) | apply rpJ_s | apply rpJ_n (by omega) | rfl)) ?_
          refine n_icmp_ge 101 dX11_countVotes_41 (by decide) (by first | ((with_reducible apply cN_le) <;> omega) | ((with_reducible apply cI_len) <;> omega) | ((with_reducible apply cI_nle) <;> omega) | (with_reducible exact cI_le)) (fun c41 => ?_) (fun c41 => by exfalso; first | omega | exact absurd trivial c41 | exact c41 | (simp at c41))
          refine g_iload dX11_countVotes_101 rfl ?_
          exact g_iret dX11_countVotes_103 rfl (⟨rfl, rfl, rfl, rfl, hs⟩)
        | succ q ih =>
          intro p I1 hq hs
          have r := r61 _ _ hs
          have hk1 := kb1 _ _ hs
          have is := hk1.there hP (p := p) (by omega)
          have hyp := hyl p
          by_cases c : sp_here a p
          · rw [if_pos c] at is
            have vy := c_votesYes (cl := cl) (t := t) (j := j) (p := p) (m := m) (g := g) hP hk1 (hse.far n3 (fun x hx => hs.1 x (by omega) (by omega) (by omega)) (fun _ _ => rfl)) hmg hg (by omega) (by omega) o1 o2 (o3.mv (fun x z1 z2 => hs.1 x (by omega) (by omega) (by omega))) hf1
            rw [← ye p] at vy
            cases hy : yesB w h a cl m p with
            | true =>
              rw [hy, if_pos rfl] at vy
              have nx := fun f f2 => ih (p + 1) (pvs (pvs (pvs I1 201 (upd (I1 201) p (nI 1))) 199 f) 200 f2) (by omega) (step p I1 (nI 1) _ f f2 hs (by rw [hy, decide_eq_true c]; rfl) rfl)
              rw [es p, if_pos (show yeP a (yesB w h a cl m) p from ⟨c, hy⟩)] at nx
              refine g_iload dX11_countVotes_35 rfl ?_
              refine g_aload_n dX11_countVotes_37 rfl ?_
              refine n_getI dX11_countVotes_38 fdX11_294 rfl (by first | rfl | exact pv_shx) (by omega) (by omega) (by decide) rfl (by repeat (first | exact r | (apply rd_s; done) | apply rd_n (by omega) | apply rp_s | apply rp_n (by omega) | (apply rdL_s; done) | apply rdL_n (by omega) | apply rpJ_s | apply rpJ_n (by omega) | rfl)) ?_
              refine n_icmp_ge 101 dX11_countVotes_41 (by decide) (by first | ((with_reducible apply cN_le) <;> omega) | ((with_reducible apply cI_len) <;> omega) | ((with_reducible apply cI_nle) <;> omega) | (with_reducible exact cI_le)) (fun c41 => by exfalso; first | omega | exact absurd trivial c41 | exact c41 | (simp at c41)) (fun c41 => ?_)
              refine g_aload_n dX11_countVotes_44 rfl ?_
              refine g_getP dX11_countVotes_45 fdX11_73 rfl (by first | rfl | exact pv_shx) (by omega) (by omega) (by decide) rfl (hP _ _ _ rfl) ?_
              refine g_iload dX11_countVotes_48 rfl ?_
              refine g_aload_n dX11_countVotes_50 rfl ?_
              refine g_ifnull dX11_countVotes_51 ?_
              refine g_aload_n dX11_countVotes_54 rfl ?_
              refine g_iload dX11_countVotes_55 rfl ?_
              refine p_callV (is) okX7_isThere lkX11_497 rfl (by first | rfl | exact pv_shx) rfl (by omega) (by omega) dX11_countVotes_57 rfl (Nat.le_of_ble_eq_true rfl) (⟨by decide, by decide, by decide, by decide⟩) ?_
              refine n_if_eq 80 dX11_countVotes_60 (by decide) (by first | (with_reducible exact cB _) | ((with_reducible apply cN_eq0) <;> omega) | exact Iff.rfl) (fun c60 => by exfalso; first | omega | exact absurd trivial c60 | exact c60 | (simp at c60)) (fun c60 => ?_)
              refine g_aload_n dX11_countVotes_63 rfl ?_
              refine g_iload dX11_countVotes_64 rfl ?_
              refine g_iload_n dX11_countVotes_66 rfl ?_
              refine g_aload_n dX11_countVotes_67 rfl ?_
              refine g_iload dX11_countVotes_68 rfl ?_
              refine g_callV (vy) okX11_votesYes lkX11_500 rfl (by first | rfl | exact pv_shx) rfl (by omega) (by omega) dX11_countVotes_70 rfl (Nat.le_of_ble_eq_true rfl) (⟨by decide, by decide, by decide, by decide⟩) ?_
              rintro v' nx' I2 J2 P2 ⟨rfl, rfl, rfl, rfl, f, f2, rfl⟩
              refine n_if_eq 80 dX11_countVotes_73 (by decide) (by first | (with_reducible exact cB _) | ((with_reducible apply cN_eq0) <;> omega) | exact Iff.rfl) (fun c73 => by exfalso; first | omega | exact absurd trivial c73 | exact c73 | (simp at c73)) (fun c73 => ?_)
              refine g_iconst (v := nI 1) dX11_countVotes_76 (by decide) ?_
              refine g_goto 81 dX11_countVotes_77 (by decide) ?_
              refine n_zast (by first | exact Or.inl rfl | exact Or.inr rfl | exact cB01 _) dX11_countVotes_81 (by first | rfl | exact pv_shx) (by omega) (by omega) (by omega) (by decide) (rfl) (by omega) (by repeat (first | exact pvu_s | exact pvuJ_s | apply pvu_in (by omega) | apply pvuJ_in (by omega) | exact pvu_pvs | exact pvuJ_pvs)) ?_
              refine g_aload_n dX11_countVotes_82 rfl ?_
              refine g_getP dX11_countVotes_83 fdX11_73 rfl (by first | rfl | exact pv_shx) (by omega) (by omega) (by decide) rfl (hP _ _ _ rfl) ?_
              refine g_iload dX11_countVotes_86 rfl ?_
              refine n_zald dX11_countVotes_88 (by first | rfl | exact pv_shx) (by omega) (by omega) (by decide) (rfl) (by omega) (by repeat (first | exact r | (apply rd_s; done) | apply rd_n (by omega) | apply rp_s | apply rp_n (by omega) | (apply rdL_s; done) | apply rdL_n (by omega) | apply rpJ_s | apply rpJ_n (by omega) | rfl)) ?_
              refine n_if_eq 95 dX11_countVotes_89 (by decide) (by first | (with_reducible exact cB _) | ((with_reducible apply cN_eq0) <;> omega) | exact Iff.rfl) (fun c89 => by exfalso; first | omega | exact absurd trivial c89 | exact c89 | (simp at c89)) (fun c89 => ?_)
              refine g_iinc dX11_countVotes_92 rfl (by first | (with_reducible exact nI_1 _) | exact nI_1 _ | exact pk_m1 _ | rfl) (by decide) rfl ?_
              refine g_iinc dX11_countVotes_95 rfl (by first | (with_reducible exact nI_1 _) | exact nI_1 _ | exact pk_m1 _ | rfl) (by decide) rfl ?_
              refine g_goto 35 dX11_countVotes_98 (by decide) ?_
              exact nx f f2
            | false =>
              rw [hy, if_neg (by decide)] at vy
              have nx := fun f f2 => ih (p + 1) (pvs (pvs (pvs I1 201 (upd (I1 201) p (nI 0))) 199 f) 200 f2) (by omega) (step p I1 (nI 0) _ f f2 hs (by rw [hy, Bool.and_false]; rfl) rfl)
              rw [es p, if_neg (fun z => by have y := z.2; rw [hy] at y; cases y), Nat.add_zero] at nx
              refine g_iload dX11_countVotes_35 rfl ?_
              refine g_aload_n dX11_countVotes_37 rfl ?_
              refine n_getI dX11_countVotes_38 fdX11_294 rfl (by first | rfl | exact pv_shx) (by omega) (by omega) (by decide) rfl (by repeat (first | exact r | (apply rd_s; done) | apply rd_n (by omega) | apply rp_s | apply rp_n (by omega) | (apply rdL_s; done) | apply rdL_n (by omega) | apply rpJ_s | apply rpJ_n (by omega) | rfl)) ?_
              refine n_icmp_ge 101 dX11_countVotes_41 (by decide) (by first | ((with_reducible apply cN_le) <;> omega) | ((with_reducible apply cI_len) <;> omega) | ((with_reducible apply cI_nle) <;> omega) | (with_reducible exact cI_le)) (fun c41 => by exfalso; first | omega | exact absurd trivial c41 | exact c41 | (simp at c41)) (fun c41 => ?_)
              refine g_aload_n dX11_countVotes_44 rfl ?_
              refine g_getP dX11_countVotes_45 fdX11_73 rfl (by first | rfl | exact pv_shx) (by omega) (by omega) (by decide) rfl (hP _ _ _ rfl) ?_
              refine g_iload dX11_countVotes_48 rfl ?_
              refine g_aload_n dX11_countVotes_50 rfl ?_
              refine g_ifnull dX11_countVotes_51 ?_
              refine g_aload_n dX11_countVotes_54 rfl ?_
              refine g_iload dX11_countVotes_55 rfl ?_
              refine p_callV (is) okX7_isThere lkX11_497 rfl (by first | rfl | exact pv_shx) rfl (by omega) (by omega) dX11_countVotes_57 rfl (Nat.le_of_ble_eq_true rfl) (⟨by decide, by decide, by decide, by decide⟩) ?_
              refine n_if_eq 80 dX11_countVotes_60 (by decide) (by first | (with_reducible exact cB _) | ((with_reducible apply cN_eq0) <;> omega) | exact Iff.rfl) (fun c60 => by exfalso; first | omega | exact absurd trivial c60 | exact c60 | (simp at c60)) (fun c60 => ?_)
              refine g_aload_n dX11_countVotes_63 rfl ?_
              refine g_iload dX11_countVotes_64 rfl ?_
              refine g_iload_n dX11_countVotes_66 rfl ?_
              refine g_aload_n dX11_countVotes_67 rfl ?_
              refine g_iload dX11_countVotes_68 rfl ?_
              refine g_callV (vy) okX11_votesYes lkX11_500 rfl (by first | rfl | exact pv_shx) rfl (by omega) (by omega) dX11_countVotes_70 rfl (Nat.le_of_ble_eq_true rfl) (⟨by decide, by decide, by decide, by decide⟩) ?_
              rintro v' nx' I2 J2 P2 ⟨rfl, rfl, rfl, rfl, f, f2, rfl⟩
              refine n_if_eq 80 dX11_countVotes_73 (by decide) (by first | (with_reducible exact cB _) | ((with_reducible apply cN_eq0) <;> omega) | exact Iff.rfl) (fun c73 => ?_) (fun c73 => by exfalso; first | omega | exact absurd trivial c73 | exact c73 | (simp at c73))
              refine g_iconst (v := nI 0) dX11_countVotes_80 (by decide) ?_
              refine n_zast (by first | exact Or.inl rfl | exact Or.inr rfl | exact cB01 _) dX11_countVotes_81 (by first | rfl | exact pv_shx) (by omega) (by omega) (by omega) (by decide) (rfl) (by omega) (by repeat (first | exact pvu_s | exact pvuJ_s | apply pvu_in (by omega) | apply pvuJ_in (by omega) | exact pvu_pvs | exact pvuJ_pvs)) ?_
              refine g_aload_n dX11_countVotes_82 rfl ?_
              refine g_getP dX11_countVotes_83 fdX11_73 rfl (by first | rfl | exact pv_shx) (by omega) (by omega) (by decide) rfl (hP _ _ _ rfl) ?_
              refine g_iload dX11_countVotes_86 rfl ?_
              refine n_zald dX11_countVotes_88 (by first | rfl | exact pv_shx) (by omega) (by omega) (by decide) (rfl) (by omega) (by repeat (first | exact r | (apply rd_s; done) | apply rd_n (by omega) | apply rp_s | apply rp_n (by omega) | (apply rdL_s; done) | apply rdL_n (by omega) | apply rpJ_s | apply rpJ_n (by omega) | rfl)) ?_
              refine n_if_eq 95 dX11_countVotes_89 (by decide) (by first | (with_reducible exact cB _) | ((with_reducible apply cN_eq0) <;> omega) | exact Iff.rfl) (fun c89 => ?_) (fun c89 => by exfalso; first | omega | exact absurd trivial c89 | exact c89 | (simp at c89))
              refine g_iinc dX11_countVotes_95 rfl (by first | (with_reducible exact nI_1 _) | exact nI_1 _ | exact pk_m1 _ | rfl) (by decide) rfl ?_
              refine g_goto 35 dX11_countVotes_98 (by decide) ?_
              exact nx f f2
          · rw [if_neg c] at is
            have nx := ih (p + 1) (pvs I1 201 (upd (I1 201) p (nI 0))) (by omega) (step0 p I1 (nI 0) _ hs (by rw [decide_eq_false c, Bool.false_and]; rfl) rfl)
            rw [es p, if_neg (fun z => c z.1), Nat.add_zero] at nx
            have v88 : pvs I1 201 (upd (I1 201) p (nI 0)) 201 p = nI 0 := by rw [pvs_eq, updS]
            refine g_iload dX11_countVotes_35 rfl ?_
            refine g_aload_n dX11_countVotes_37 rfl ?_
            refine n_getI dX11_countVotes_38 fdX11_294 rfl (by first | rfl | exact pv_shx) (by omega) (by omega) (by decide) rfl (by repeat (first | exact r | exact v88 | (apply rd_s; done) | apply rd_n (by omega) | apply rp_s | apply rp_n (by omega) | (apply rdL_s; done) | apply rdL_n (by omega) | apply rpJ_s | apply rpJ_n (by omega) | rfl)) ?_
            refine n_icmp_ge 101 dX11_countVotes_41 (by decide) (by first | ((with_reducible apply cN_le) <;> omega) | ((with_reducible apply cI_len) <;> omega) | ((with_reducible apply cI_nle) <;> omega) | (with_reducible exact cI_le)) (fun c41 => by exfalso; first | omega | exact absurd trivial c41 | exact c41 | (simp at c41)) (fun c41 => ?_)
            refine g_aload_n dX11_countVotes_44 rfl ?_
            refine g_getP dX11_countVotes_45 fdX11_73 rfl (by first | rfl | exact pv_shx) (by omega) (by omega) (by decide) rfl (hP _ _ _ rfl) ?_
            refine g_iload dX11_countVotes_48 rfl ?_
            refine g_aload_n dX11_countVotes_50 rfl ?_
            refine g_ifnull dX11_countVotes_51 ?_
            refine g_aload_n dX11_countVotes_54 rfl ?_
            refine g_iload dX11_countVotes_55 rfl ?_
            refine p_callV (is) okX7_isThere lkX11_497 rfl (by first | rfl | exact pv_shx) rfl (by omega) (by omega) dX11_countVotes_57 rfl (Nat.le_of_ble_eq_true rfl) (⟨by decide, by decide, by decide, by decide⟩) ?_
            refine n_if_eq 80 dX11_countVotes_60 (by decide) (by first | (with_reducible exact cB _) | ((with_reducible apply cN_eq0) <;> omega) | exact Iff.rfl) (fun c60 => ?_) (fun c60 => by exfalso; first | omega | exact absurd trivial c60 | exact c60 | (simp at c60))
            refine g_iconst (v := nI 0) dX11_countVotes_80 (by decide) ?_
            refine n_zast (by first | exact Or.inl rfl | exact Or.inr rfl | exact cB01 _) dX11_countVotes_81 (by first | rfl | exact pv_shx) (by omega) (by omega) (by omega) (by decide) (rfl) (by omega) (by repeat (first | exact pvu_s | exact pvuJ_s | apply pvu_in (by omega) | apply pvuJ_in (by omega) | exact pvu_pvs | exact pvuJ_pvs)) ?_
            refine g_aload_n dX11_countVotes_82 rfl ?_
            refine g_getP dX11_countVotes_83 fdX11_73 rfl (by first | rfl | exact pv_shx) (by omega) (by omega) (by decide) rfl (hP _ _ _ rfl) ?_
            refine g_iload dX11_countVotes_86 rfl ?_
            refine n_zald dX11_countVotes_88 (by first | rfl | exact pv_shx) (by omega) (by omega) (by decide) (rfl) (by omega) (by repeat (first | exact r | exact v88 | (apply rd_s; done) | apply rd_n (by omega) | apply rp_s | apply rp_n (by omega) | (apply rdL_s; done) | apply rdL_n (by omega) | apply rpJ_s | apply rpJ_n (by omega) | rfl)) ?_
            refine n_if_eq 95 dX11_countVotes_89 (by decide) (by first | (with_reducible exact cB _) | ((with_reducible apply cN_eq0) <;> omega) | exact Iff.rfl) (fun c89 => ?_) (fun c89 => by exfalso; first | omega | exact absurd trivial c89 | exact c89 | (simp at c89))
            refine g_iinc dX11_countVotes_95 rfl (by first | (with_reducible exact nI_1 _) | exact nI_1 _ | exact pk_m1 _ | rfl) (by decide) rfl ?_
            refine g_goto 35 dX11_countVotes_98 (by decide) ?_
            exact nx
      have go := lp (cnt a 6) 0 I (by omega) ⟨fun _ _ _ _ => rfl, fun q hq => absurd hq (Nat.not_lt_zero q)⟩
      refine pvMet.of _ (by decide) rfl (Nat.le_of_ble_eq_true rfl) ?_
      refine g_aload_n dX11_countVotes_0 rfl ?_
      refine g_getP dX11_countVotes_1 fdX11_32 rfl (by first | rfl | exact pv_shx) (by omega) (by omega) (by decide) rfl (hP _ _ _ rfl) ?_
      refine g_getP dX11_countVotes_4 fdX11_277 rfl (by first | rfl | exact pv_shx) (by omega) (by omega) (by decide) rfl (hP _ _ _ rfl) ?_
      refine g_astore_n dX11_countVotes_7 (by decide) rfl ?_
      refine g_aload_n dX11_countVotes_8 rfl ?_
      refine g_iconst (v := nI 3) dX11_countVotes_9 (by decide) ?_
      refine g_iload_n dX11_countVotes_10 rfl ?_
      refine p_callV (af) okX11_actFor lkX11_365 rfl (by first | rfl | exact pv_shx) rfl (by omega) (by omega) dX11_countVotes_11 rfl (Nat.le_of_ble_eq_true rfl) (⟨by decide, by decide, by decide, by decide⟩) ?_
      refine g_astore_n dX11_countVotes_14 (by decide) rfl ?_
      refine g_aload_n dX11_countVotes_15 rfl ?_
      refine g_ifnonnull 23 dX11_countVotes_16 (by decide) ?_
      refine g_aload_n dX11_countVotes_23 rfl ?_
      refine p_callV (ln) okX11_letNow lkX11_239 rfl (by first | rfl | exact pv_shx) rfl (by omega) (by omega) dX11_countVotes_24 rfl (Nat.le_of_ble_eq_true rfl) (⟨by decide, by decide, by decide, by decide⟩) ?_
      refine g_istore dX11_countVotes_27 (by decide) rfl ?_
      refine g_iconst (v := nI 0) dX11_countVotes_29 (by decide) ?_
      refine g_istore dX11_countVotes_30 (by decide) rfl ?_
      refine g_iconst (v := nI 0) dX11_countVotes_32 (by decide) ?_
      refine g_istore dX11_countVotes_33 (by decide) rfl ?_
      exact go
end VO7
