/-! class: parts, lost, burns, fed -/
theorem lost_ct {r : fS} (hr : ∀ c, r.1 c ≤ 2) (n : Nat) : sp_ct (fun c => (mB r c || mT r c) = true) n = sp_ct (fun c => 0 < r.1 c) n := sp_ct_cong (fun c _ => by
  have := hr c
  unfold mB mT
  rw [Bool.or_eq_true, decide_eq_true_iff, decide_eq_true_iff]
  constructor
  · omega
  · omega)
section AS2
variable {w h : Nat} {a : Nat → Int32} {I : pvI} {J : pvJ} {P : pvP}
theorem c_parts {m : Int32} (hP : pvOkP P) (hb : kB w h a I J) : pvMet mX11_parts 7 0 0 [.ref 1, .int m] 224 I J P (kQ w h a I J P (sp_parts w h a m)) := by
  obtain ⟨n3, r3⟩ := hb.n3
  obtain ⟨n0, r0⟩ := hb.n0
  have hwh := hb.1.wh
  have iw := c_isWeek (nx := 224) (v := m) (I := I) (J := J) (P := P)
  by_cases hm : 0 ≤ m.toInt ∧ m.toInt ≤ 99
  · rw [if_pos hm] at iw
    obtain ⟨mn, hmn, rfl⟩ := cI_of (x := m) (n := 100) (by omega) (by omega) (by omega)
    have ans : sp_parts w h a (nI mn) = stv (ptB (fun c => nBurn w h a c mn (cnt a 0)) (nLet w h a (cnt a 0)) (w * h)).1 := by
      rw [sp_parts, if_pos hm, nI_clamp (by omega)]
    rw [ans]
    have se := c_see (m := mn) hP hb (by omega)
    refine pvMet.of _ (by decide) rfl (Nat.le_of_ble_eq_true rfl) ?_
    refine g_iload_n dX11_parts_0 rfl ?_
    refine p_callS (iw) okX11_isWeek lkX11_160 rfl dX11_parts_1 rfl (Nat.le_of_ble_eq_true rfl) (⟨by decide, by decide, by decide, by decide⟩) ?_
    refine n_if_ne 9 dX11_parts_4 (by decide) (by first | (with_reducible exact cB _) | ((with_reducible apply cN_eq0) <;> omega) | exact Iff.rfl) (fun c4 => ?_) (fun c4 => by exfalso; first | omega | exact absurd trivial c4 | exact c4 | (simp at c4))
    refine g_aload_n dX11_parts_9 rfl ?_
    refine g_iload_n dX11_parts_10 rfl ?_
    refine g_callV (se) okX11_see lkX11_236 rfl (by first | rfl | exact pv_shx) rfl (by omega) (by omega) dX11_parts_11 rfl (Nat.le_of_ble_eq_true rfl) (⟨by decide, by decide, by decide, by decide⟩) ?_
    rintro v nx' I1 J1 P' ⟨rfl, rfl, rfl, q1, q2, q3, q4⟩
    have la := c_letNow hP q1 q3 (by omega)
    have bc := t_bitCount8 (nx := 224) (I := I1) (J := J1) (P := P') (ltN_lt (w := w) (h := h) (a := a) (kn := cnt a 0) n3)
    rw [ltN_ct n3] at bc
    have mb : ∀ c, c < 64 → pvMet mX11_howManyBurn 1 0 0 [.ref 1, .int (nI (ltN w h a (cnt a 0))), .int (nI c), .int (nI mn)] 224 I1 J1 P' (pvpu (.int (nI (nBurn w h a c mn (cnt a 0)))) 224 I1 J1 P') := fun c hc => c_howManyBurn (kn := cnt a 0) (c := c) (m := mn) hP q1 q3 (by omega) (by omega) hc
    have hle : ∀ c, nBurn w h a c mn (cnt a 0) ≤ nLet w h a (cnt a 0) := fun c => nBurn_le
    have hl3 : nLet w h a (cnt a 0) ≤ cnt a 3 := sp_ct_le _
    have r1 : I1 2 2 = nI (w * h) := q1.1.2.2.1
    generalize hall : nLet w h a (cnt a 0) = all at *
    generalize hfB : (fun c => nBurn w h a c mn (cnt a 0)) = fB at *
    have hfc : ∀ c, nBurn w h a c mn (cnt a 0) = fB c := fun c => by rw [← hfB]
    have hll := ltN_lt (w := w) (h := h) (a := a) (kn := cnt a 0) n3
    generalize ltN w h a (cnt a 0) = lt at *
    have lp : ∀ q i, i + q = w * h → pvG mX11_parts (pvR 7 0 0) (pvZ (kQ w h a I J P' (stv (ptB fB all (w * h)).1)) 0 0) 33 [.ref 1, .int (nI mn), .int (nI lt), .int (nI all), .int (stv (ptB fB all i).1), .int (nI (ptB fB all i).2), .int (nI i), .retAddr 0, .retAddr 0] [] 0 0 224 I1 J1 P' := by
      intro q
      induction q with
      | zero =>
        intro i hi
        obtain rfl : i = w * h := by omega
        refine g_iload dX11_parts_33 rfl ?_
        refine g_aload_n dX11_parts_35 rfl ?_
        refine g_getP dX11_parts_36 fdX11_21 rfl (by first | rfl | exact pv_shx) (by omega) (by omega) (by decide) rfl (hP _ _ _ rfl) ?_
        refine n_getI dX11_parts_39 fdX11_274 rfl (by first | rfl | exact pv_shx) (by omega) (by omega) (by decide) rfl (by repeat (first | exact r1 | (apply rd_s; done) | apply rd_n (by omega) | apply rp_s | apply rp_n (by omega) | (apply rdL_s; done) | apply rdL_n (by omega) | apply rpJ_s | apply rpJ_n (by omega) | rfl)) ?_
        refine n_icmp_ge 87 dX11_parts_42 (by decide) (by first | ((with_reducible apply cN_le) <;> omega) | ((with_reducible apply cI_len) <;> omega) | ((with_reducible apply cI_nle) <;> omega) | (with_reducible exact cI_le)) (fun c42 => ?_) (fun c42 => by exfalso; first | omega | exact absurd trivial c42 | exact c42 | (simp at c42))
        refine g_iload dX11_parts_87 rfl ?_
        exact g_iret dX11_parts_89 rfl (⟨rfl, rfl, rfl, q1, q2⟩)
      | succ q ih =>
        intro i hi
        have b1 := hle i
        rw [hfc i] at b1
        have mbi := mb i (by omega)
        rw [hfc i] at mbi
        have hpl := (ptB_le (f := fB) (all := all) i).1
        have h4 := ih (i + 1) (by omega)
        have es : ptB fB all (i + 1) = if min (fB i) (all - fB i) ≤ (ptB fB all i).2 then ptB fB all i else (some i, min (fB i) (all - fB i)) := rfl
        by_cases c1 : min (fB i) (all - fB i) ≤ (ptB fB all i).2
        · rw [es, if_pos c1] at h4
          refine g_iload dX11_parts_33 rfl ?_
          refine g_aload_n dX11_parts_35 rfl ?_
          refine g_getP dX11_parts_36 fdX11_21 rfl (by first | rfl | exact pv_shx) (by omega) (by omega) (by decide) rfl (hP _ _ _ rfl) ?_
          refine n_getI dX11_parts_39 fdX11_274 rfl (by first | rfl | exact pv_shx) (by omega) (by omega) (by decide) rfl (by repeat (first | exact r1 | (apply rd_s; done) | apply rd_n (by omega) | apply rp_s | apply rp_n (by omega) | (apply rdL_s; done) | apply rdL_n (by omega) | apply rpJ_s | apply rpJ_n (by omega) | rfl)) ?_
          refine n_icmp_ge 87 dX11_parts_42 (by decide) (by first | ((with_reducible apply cN_le) <;> omega) | ((with_reducible apply cI_len) <;> omega) | ((with_reducible apply cI_nle) <;> omega) | (with_reducible exact cI_le)) (fun c42 => by exfalso; first | omega | exact absurd trivial c42 | exact c42 | (simp at c42)) (fun c42 => ?_)
          refine g_aload_n dX11_parts_45 rfl ?_
          refine g_iload_n dX11_parts_46 rfl ?_
          refine g_iload dX11_parts_47 rfl ?_
          refine g_iload_n dX11_parts_49 rfl ?_
          refine p_callV (mbi) okX11_howManyBurn lkX11_271 rfl (by first | rfl | exact pv_shx) rfl (by omega) (by omega) dX11_parts_50 rfl (Nat.le_of_ble_eq_true rfl) (⟨by decide, by decide, by decide, by decide⟩) ?_
          refine g_istore dX11_parts_53 (by decide) rfl ?_
          refine g_iload dX11_parts_55 rfl ?_
          refine g_iload_n dX11_parts_57 rfl ?_
          refine g_iload dX11_parts_58 rfl ?_
          refine n_isub dX11_parts_60 (by first | ((with_reducible apply pk_sub) <;> omega) | rfl) ?_
          refine g_mmin dX11_parts_61 lkX11_9 (by decide) (Nat.le_of_ble_eq_true rfl) (by decide) (by decide) (mm_min (by omega) (by omega)) ?_
          refine g_istore dX11_parts_64 (by decide) rfl ?_
          refine g_iload dX11_parts_66 rfl ?_
          refine g_iload dX11_parts_68 rfl ?_
          refine n_icmp_le 81 dX11_parts_70 (by decide) (by first | ((with_reducible apply cN_le) <;> omega) | ((with_reducible apply cI_len) <;> omega) | ((with_reducible apply cI_nle) <;> omega) | (with_reducible exact cI_le)) (fun c70 => ?_) (fun c70 => by exfalso; first | omega | exact absurd trivial c70 | exact c70 | (simp at c70))
          refine g_iinc dX11_parts_81 rfl (by first | (with_reducible exact nI_1 _) | exact nI_1 _ | exact pk_m1 _ | rfl) (by decide) rfl ?_
          refine g_goto 33 dX11_parts_84 (by decide) ?_
          exact g_drop _ (by repeat (first | exact trivial | refine ⟨Or.inr ⟨_, rfl⟩, ?_⟩ | refine ⟨Or.inl rfl, ?_⟩)) h4
        · rw [es, if_neg c1] at h4
          refine g_iload dX11_parts_33 rfl ?_
          refine g_aload_n dX11_parts_35 rfl ?_
          refine g_getP dX11_parts_36 fdX11_21 rfl (by first | rfl | exact pv_shx) (by omega) (by omega) (by decide) rfl (hP _ _ _ rfl) ?_
          refine n_getI dX11_parts_39 fdX11_274 rfl (by first | rfl | exact pv_shx) (by omega) (by omega) (by decide) rfl (by repeat (first | exact r1 | (apply rd_s; done) | apply rd_n (by omega) | apply rp_s | apply rp_n (by omega) | (apply rdL_s; done) | apply rdL_n (by omega) | apply rpJ_s | apply rpJ_n (by omega) | rfl)) ?_
          refine n_icmp_ge 87 dX11_parts_42 (by decide) (by first | ((with_reducible apply cN_le) <;> omega) | ((with_reducible apply cI_len) <;> omega) | ((with_reducible apply cI_nle) <;> omega) | (with_reducible exact cI_le)) (fun c42 => by exfalso; first | omega | exact absurd trivial c42 | exact c42 | (simp at c42)) (fun c42 => ?_)
          refine g_aload_n dX11_parts_45 rfl ?_
          refine g_iload_n dX11_parts_46 rfl ?_
          refine g_iload dX11_parts_47 rfl ?_
          refine g_iload_n dX11_parts_49 rfl ?_
          refine p_callV (mbi) okX11_howManyBurn lkX11_271 rfl (by first | rfl | exact pv_shx) rfl (by omega) (by omega) dX11_parts_50 rfl (Nat.le_of_ble_eq_true rfl) (⟨by decide, by decide, by decide, by decide⟩) ?_
          refine g_istore dX11_parts_53 (by decide) rfl ?_
          refine g_iload dX11_parts_55 rfl ?_
          refine g_iload_n dX11_parts_57 rfl ?_
          refine g_iload dX11_parts_58 rfl ?_
          refine n_isub dX11_parts_60 (by first | ((with_reducible apply pk_sub) <;> omega) | rfl) ?_
          refine g_mmin dX11_parts_61 lkX11_9 (by decide) (Nat.le_of_ble_eq_true rfl) (by decide) (by decide) (mm_min (by omega) (by omega)) ?_
          refine g_istore dX11_parts_64 (by decide) rfl ?_
          refine g_iload dX11_parts_66 rfl ?_
          refine g_iload dX11_parts_68 rfl ?_
          refine n_icmp_le 81 dX11_parts_70 (by decide) (by first | ((with_reducible apply cN_le) <;> omega) | ((with_reducible apply cI_len) <;> omega) | ((with_reducible apply cI_nle) <;> omega) | (with_reducible exact cI_le)) (fun c70 => by exfalso; first | omega | exact absurd trivial c70 | exact c70 | (simp at c70)) (fun c70 => ?_)
          refine g_iload dX11_parts_73 rfl ?_
          refine g_istore dX11_parts_75 (by decide) rfl ?_
          refine g_iload dX11_parts_77 rfl ?_
          refine g_istore dX11_parts_79 (by decide) rfl ?_
          refine g_iinc dX11_parts_81 rfl (by first | (with_reducible exact nI_1 _) | exact nI_1 _ | exact pk_m1 _ | rfl) (by decide) rfl ?_
          refine g_goto 33 dX11_parts_84 (by decide) ?_
          exact g_drop _ (by repeat (first | exact trivial | refine ⟨Or.inr ⟨_, rfl⟩, ?_⟩ | refine ⟨Or.inl rfl, ?_⟩)) h4
    have go := lp (w * h) 0 (by omega)
    refine g_aload_n dX11_parts_14 rfl ?_
    refine p_callV (la) okX11_letNow lkX11_239 rfl (by first | rfl | exact pv_shx) rfl (by omega) (by omega) dX11_parts_15 rfl (Nat.le_of_ble_eq_true rfl) (⟨by decide, by decide, by decide, by decide⟩) ?_
    refine g_istore_n dX11_parts_18 (by decide) rfl ?_
    refine g_iload_n dX11_parts_19 rfl ?_
    refine p_callS (bc) okJ6_bitCount_0f7a4 lkX11_247 rfl dX11_parts_20 rfl (Nat.le_of_ble_eq_true rfl) (⟨by decide, by decide, by decide, by decide⟩) ?_
    refine g_istore_n dX11_parts_23 (by decide) rfl ?_
    refine g_iconst (v := (-1)) dX11_parts_24 (by decide) ?_
    refine g_istore dX11_parts_25 (by decide) rfl ?_
    refine g_iconst (v := nI 0) dX11_parts_27 (by decide) ?_
    refine g_istore dX11_parts_28 (by decide) rfl ?_
    refine g_iconst (v := nI 0) dX11_parts_30 (by decide) ?_
    refine g_istore dX11_parts_31 (by decide) rfl ?_
    exact g_drop _ (by repeat (first | exact trivial | refine ⟨Or.inr ⟨_, rfl⟩, ?_⟩ | refine ⟨Or.inl rfl, ?_⟩)) go
  · rw [if_neg hm] at iw
    refine pvMet.of _ (by decide) rfl (Nat.le_of_ble_eq_true rfl) ?_
    refine g_iload_n dX11_parts_0 rfl ?_
    refine p_callS (iw) okX11_isWeek lkX11_160 rfl dX11_parts_1 rfl (Nat.le_of_ble_eq_true rfl) (⟨by decide, by decide, by decide, by decide⟩) ?_
    refine n_if_ne 9 dX11_parts_4 (by decide) (by first | (with_reducible exact cB _) | ((with_reducible apply cN_eq0) <;> omega) | exact Iff.rfl) (fun c4 => by exfalso; first | omega | exact absurd trivial c4 | exact c4 | (simp at c4)) (fun c4 => ?_)
    refine g_iconst (v := (-1)) dX11_parts_7 (by decide) ?_
    exact g_iret dX11_parts_8 rfl (⟨rfl, rfl, by rw [sp_parts, if_neg hm], hb, qF.rf⟩)
theorem c_lostBy {F m : Nat} {r : fS} {met : Nat → Bool} (hP : pvOkP P) (hA : fAd F) (hm : m ≤ 99) (hr : ∀ c, r.1 c ≤ 2) (hv : fWk F m r met J) : pvMet mX11_lostBy 0 0 0 [.ref F, .int (nI m)] 224 I J P (pvpu (.int (nI (sp_ct (fun c => 0 < r.1 c) 64))) 224 I J P) := by
  obtain ⟨⟨s0, s1, s2, s3, s4, s5⟩, h90, h138⟩ := hA.sh
  obtain ⟨p10, p11, p12, p13, p14⟩ := hA.pp hP
  obtain ⟨v1, v2, v3⟩ := hv
  have bc := t_bitCount (nx := 224) (f := fun c => mB r c || mT r c) (I := I) (J := J) (P := P)
  rw [lost_ct hr, ← mk_or] at bc
  refine pvMet.of _ (by decide) rfl (Nat.le_of_ble_eq_true rfl) ?_
  refine g_aload_n dX11_lostBy_0 rfl ?_
  refine g_getP dX11_lostBy_1 fdX11_212 rfl (by first | exact s0 | exact s3 | exact s4) (by omega) (by omega) (by decide) rfl (by first | exact p12 | exact p13) ?_
  refine g_iload_n dX11_lostBy_4 rfl ?_
  refine n_lald dX11_lostBy_5 (by first | exact s0 | exact s3 | exact s4) (by omega) (by omega) (by decide) (rfl) (by omega) (by repeat (first | exact v1 | exact v2 | (apply rd_s; done) | apply rd_n (by omega) | apply rp_s | apply rp_n (by omega) | (apply rdL_s; done) | apply rdL_n (by omega) | apply rpJ_s | apply rpJ_n (by omega) | rfl)) ?_
  refine g_aload_n dX11_lostBy_6 rfl ?_
  refine g_getP dX11_lostBy_7 fdX11_216 rfl (by first | exact s0 | exact s3 | exact s4) (by omega) (by omega) (by decide) rfl (by first | exact p12 | exact p13) ?_
  refine g_iload_n dX11_lostBy_10 rfl ?_
  refine n_lald dX11_lostBy_11 (by first | exact s0 | exact s3 | exact s4) (by omega) (by omega) (by decide) (rfl) (by omega) (by repeat (first | exact v1 | exact v2 | (apply rd_s; done) | apply rd_n (by omega) | apply rp_s | apply rp_n (by omega) | (apply rdL_s; done) | apply rdL_n (by omega) | apply rpJ_s | apply rpJ_n (by omega) | rfl)) ?_
  refine n_lor dX11_lostBy_12 (rfl) ?_
  refine p_callS (bc) okJ13_bitCount_95d88 lkX11_426 rfl dX11_lostBy_13 rfl (Nat.le_of_ble_eq_true rfl) (⟨by decide, by decide, by decide, by decide⟩) ?_
  exact g_iret dX11_lostBy_16 rfl (⟨rfl, rfl, rfl, rfl, rfl⟩)
theorem c_lost {s m : Int32} (hP : pvOkP P) (hb : kB w h a I J) : pvMet mX11_lost 6 0 0 [.ref 1, .int s, .int m] 224 I J P (kQ w h a I J P (sp_lost w h a s m)) := by
  obtain ⟨n3, r3⟩ := hb.n3
  have hi := hb.2.2.2.2
  have hs := c_hasState (v := s) (J := J) hP r3 (by omega)
  have iw := c_isWeek (nx := 224) (v := m) (I := I) (J := J) (P := P)
  by_cases c1 : 0 ≤ s.toInt ∧ s.toInt < cnt a 3
  · rw [if_pos c1] at hs
    by_cases hm : 0 ≤ m.toInt ∧ m.toInt ≤ 99
    · rw [if_pos hm] at iw
      obtain ⟨sn, hsn, rfl⟩ := cI_of (x := s) (n := cnt a 3) (by omega) (by omega) (by omega)
      obtain ⟨mn, hmn, rfl⟩ := cI_of (x := m) (n := 100) (by omega) (by omega) (by omega)
      have ans : sp_lost w h a (nI sn) (nI mn) = nI (lostN w h a 0 none sn mn) := by
        rw [sp_lost, if_pos ⟨c1, hm⟩, nI_clamp (by omega), nI_clamp (by omega)]
      rw [ans]
      have lk := c_look (g := mn) hP hb (s := sn) hsn (by omega)
      have s0 := (fad_ok (show sn < 9 by omega)).sh.1.1
      have hce : cnt a (260 + 2 * sn) < w * h := by
        obtain ⟨⟨u, u1, u2⟩, -⟩ := hi.1.2.2.1 sn hsn
        have := hb.1.wh
        rw [cnt_of u2 (by omega)]; exact u1
      have hI := fI_wk (wl := 0) (wo := none) (s := sn) (m := mn) hi.2.2.2.2.2.1.1 hce
      refine pvMet.of _ (by decide) rfl (Nat.le_of_ble_eq_true rfl) ?_
      refine g_aload_n dX11_lost_0 rfl ?_
      refine g_iload_n dX11_lost_1 rfl ?_
      refine p_callV (hs) okX11_hasState lkX11_189 rfl (by first | rfl | exact pv_shx) rfl (by omega) (by omega) dX11_lost_2 rfl (Nat.le_of_ble_eq_true rfl) (⟨by decide, by decide, by decide, by decide⟩) ?_
      refine n_if_eq 15 dX11_lost_5 (by decide) (by first | (with_reducible exact cB _) | ((with_reducible apply cN_eq0) <;> omega) | exact Iff.rfl) (fun c5 => by exfalso; first | omega | exact absurd trivial c5 | exact c5 | (simp at c5)) (fun c5 => ?_)
      refine g_iload_n dX11_lost_8 rfl ?_
      refine p_callS (iw) okX11_isWeek lkX11_160 rfl dX11_lost_9 rfl (Nat.le_of_ble_eq_true rfl) (⟨by decide, by decide, by decide, by decide⟩) ?_
      refine n_if_ne 17 dX11_lost_12 (by decide) (by first | (with_reducible exact cB _) | ((with_reducible apply cN_eq0) <;> omega) | exact Iff.rfl) (fun c12 => ?_) (fun c12 => by exfalso; first | omega | exact absurd trivial c12 | exact c12 | (simp at c12))
      refine g_aload_n dX11_lost_17 rfl ?_
      refine g_getP dX11_lost_18 fdX11_41 rfl (by first | rfl | exact pv_shx) (by omega) (by omega) (by decide) rfl (hP _ _ _ rfl) ?_
      refine g_iload_n dX11_lost_21 rfl ?_
      refine g_aald _ dX11_lost_22 (by first | exact Or.inl rfl | exact Or.inr rfl) (by omega) (by omega) (by decide) (rfl) (by omega) (fires_P hP (by omega)) ?_
      refine g_aload_n dX11_lost_23 rfl ?_
      refine g_getP dX11_lost_24 fdX11_32 rfl (by first | rfl | exact pv_shx) (by omega) (by omega) (by decide) rfl (hP _ _ _ rfl) ?_
      refine g_iload_n dX11_lost_27 rfl ?_
      refine g_callV (lk) okX1_lookAt lkX11_202 rfl (s0) rfl (by omega) (by omega) dX11_lost_28 rfl (Nat.le_of_ble_eq_true rfl) (⟨by decide, by decide, by decide, by decide⟩) ?_
      rintro v nx' I1 J1 P' ⟨rfl, rfl, rfl, q1, q2, sv, q3, q4⟩
      have lb := c_lostBy (I := I1) (J := J1) hP (fad_ok (show sn < 9 by omega)) (by omega) (fun c => (hI c).2.2.1) (q4.2.2.1 mn (by omega))
      refine g_aload_n dX11_lost_31 rfl ?_
      refine g_getP dX11_lost_32 fdX11_41 rfl (by first | rfl | exact pv_shx) (by omega) (by omega) (by decide) rfl (hP _ _ _ rfl) ?_
      refine g_iload_n dX11_lost_35 rfl ?_
      refine g_aald _ dX11_lost_36 (by first | exact Or.inl rfl | exact Or.inr rfl) (by omega) (by omega) (by decide) (rfl) (by omega) (fires_P hP (by omega)) ?_
      refine g_iload_n dX11_lost_37 rfl ?_
      refine p_callS (lb) okX11_lostBy lkX11_219 rfl dX11_lost_38 rfl (Nat.le_of_ble_eq_true rfl) (⟨by decide, by decide, by decide, by decide⟩) ?_
      exact g_iret dX11_lost_41 rfl (⟨rfl, rfl, rfl, q1, q2.q (fad_ok (by omega))⟩)
    · rw [if_neg hm] at iw
      refine pvMet.of _ (by decide) rfl (Nat.le_of_ble_eq_true rfl) ?_
      refine g_aload_n dX11_lost_0 rfl ?_
      refine g_iload_n dX11_lost_1 rfl ?_
      refine p_callV (hs) okX11_hasState lkX11_189 rfl (by first | rfl | exact pv_shx) rfl (by omega) (by omega) dX11_lost_2 rfl (Nat.le_of_ble_eq_true rfl) (⟨by decide, by decide, by decide, by decide⟩) ?_
      refine n_if_eq 15 dX11_lost_5 (by decide) (by first | (with_reducible exact cB _) | ((with_reducible apply cN_eq0) <;> omega) | exact Iff.rfl) (fun c5 => by exfalso; first | omega | exact absurd trivial c5 | exact c5 | (simp at c5)) (fun c5 => ?_)
      refine g_iload_n dX11_lost_8 rfl ?_
      refine p_callS (iw) okX11_isWeek lkX11_160 rfl dX11_lost_9 rfl (Nat.le_of_ble_eq_true rfl) (⟨by decide, by decide, by decide, by decide⟩) ?_
      refine n_if_ne 17 dX11_lost_12 (by decide) (by first | (with_reducible exact cB _) | ((with_reducible apply cN_eq0) <;> omega) | exact Iff.rfl) (fun c12 => by exfalso; first | omega | exact absurd trivial c12 | exact c12 | (simp at c12)) (fun c12 => ?_)
      refine g_iconst (v := (-1)) dX11_lost_15 (by decide) ?_
      exact g_iret dX11_lost_16 rfl (⟨rfl, rfl, by rw [sp_lost, if_neg (fun z => hm z.2)], hb, qF.rf⟩)
  · rw [if_neg c1] at hs
    refine pvMet.of _ (by decide) rfl (Nat.le_of_ble_eq_true rfl) ?_
    refine g_aload_n dX11_lost_0 rfl ?_
    refine g_iload_n dX11_lost_1 rfl ?_
    refine p_callV (hs) okX11_hasState lkX11_189 rfl (by first | rfl | exact pv_shx) rfl (by omega) (by omega) dX11_lost_2 rfl (Nat.le_of_ble_eq_true rfl) (⟨by decide, by decide, by decide, by decide⟩) ?_
    refine n_if_eq 15 dX11_lost_5 (by decide) (by first | (with_reducible exact cB _) | ((with_reducible apply cN_eq0) <;> omega) | exact Iff.rfl) (fun c5 => ?_) (fun c5 => by exfalso; first | omega | exact absurd trivial c5 | exact c5 | (simp at c5))
    refine g_iconst (v := (-1)) dX11_lost_15 (by decide) ?_
    exact g_iret dX11_lost_16 rfl (⟨rfl, rfl, by rw [sp_lost, if_neg (fun z => c1 z.1)], hb, qF.rf⟩)
end AS2
