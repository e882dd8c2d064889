/-! class: parts, lost, burns, fed -/
theorem lost_ct {r : fS} (hr : ∀ c, r.1 c ≤ 2) (n : Nat) : sp_ct (fun c => (mB r c || mT r c) = true) n = sp_ct (fun c => 0 < r.1 c) n := sp_ct_cong (fun c _ => by
  have := hr c
  unfold mB mT
  rw [Bool.or_eq_true, decide_eq_true_iff, decide_eq_true_iff]
  constructor
  · omega
  · omega)
section AS2
variable {w h : Nat} {a : Nat → Int32} {I : pvI} {J : pvJ} {P : pvP}
theorem c_parts {m : Int32} (hP : pvOkP P) (hb : kB w h a I J) : pvMet mX11_parts 7 0 0 [.ref 1, .int m] 224 I J P (kQ w h a I J P (sp_parts w h a m)) := by
  obtain ⟨n3, r3⟩ := hb.n3
  obtain ⟨n0, r0⟩ := hb.n0
  have hwh := hb.1.wh
  have iw := c_isWeek (nx := 224) (v := m) (I := I) (J := J) (P := P)
  by_cases hm : 0 ≤ m.toInt ∧ m.toInt ≤ 99
  · rw [if_pos hm] at iw
    obtain ⟨mn, hmn, rfl⟩ := cI_of (x := m) (n := 100) (by omega) (by omega) (by omega)
    have ans : sp_parts w h a (nI mn) = stv (ptB (fun c => nBurn w h a c mn (cnt a 0)) (nLet w h a (cnt a 0)) (w * h)).1 := by
      rw [sp_parts, if_pos hm, nI_clamp (by omega)]
    rw [ans]
    have se := c_see (m := mn) hP hb (by omega)
    refine pvMet.of _ (by decide) rfl (Nat.le_of_ble_eq_true rfl) ?_
    refine g_iload_n dX11_parts_0 rfl ?_
    refine p_callS (iw) okX11_isWeek lkX11_160 rfl dX11_parts_1 rfl (Nat.le_of_ble_eq_true rfl) (⟨by decide, by decide, by decide, by decide⟩) ?_
    refine n_if_ne 9 dX11_parts_4 (by decide) (by first | (with_reducible exact cB _) | ((with_reducible apply cN_eq0) <;> omega) | exact Iff.rfl) (fun c4 => ?_) (fun c4 => by exfalso; first | omega | exact absurd trivial c4 | exact c4 | (simp at c4))
    refine g_aload_n dX11_parts_9 rfl ?_
    refine g_iload_n dX11_parts_10 rfl ?_
    refine g_callV (se) okX11_see lkX11_236 rfl (by first | rfl | exact pv_shx) rfl (by omega) (by omega) dX11_parts_11 rfl (Nat.le_of_ble_eq_true rfl) (⟨by decide, by decide, by decide, by decide⟩) ?_
    rintro v nx' I1 J1 P' ⟨rfl, rfl, rfl, q1, q2, q3, q4⟩
    have la := c_letNow hP q1 q3 (by omega)
    have bc := t_bitCount8 (nx := 224) (I := I1) (J := J1) (P := P') (ltN_lt (w := w) (h := h) (a := a) (kn := cnt a 0) n3)
    rw [ltN_ct n3] at bc
    have mb : ∀ c, c < 64 → pvMet mX11_howManyBurn 1 0 0 [.ref 1, .int (nI (ltN w h a (cnt a 0))), .int (nI c), .int (nI mn)] 224 I1 J1 P' (pvpu (.int (nI (nBurn w h a c mn (cnt a 0)))) 224 I1 J1 P') := fun c hc => c_howManyBurn (kn := cnt a 0) (c := c) (m := mn) hP q1 q3 (by omega) (by omega) hc
    have hle : ∀ c, nBurn w h a c mn (cnt a 0) ≤ nLet w h a (cnt a 0) := fun c => nBurn_le
    have hl3 : nLet w h a (cnt a 0) ≤ cnt a 3 := sp_ct_le _
    have r1 : I1 2 2 = nI (w * h) := q1.1.2.2.1
    generalize hall : nLet w h a (cnt a 0) = all at *
    generalize hfB : (fun c => nBurn w h a c mn (cnt a 0)) = fB at *
    have hfc : ∀ c, nBurn w h a c mn (cnt a 0) = fB c := fun c => by rw [← hfB]
    have hll := ltN_lt (w := w) (h := h) (a := a) (kn := cnt a 0) n3
    generalize ltN w h a (cnt a 0) = lt at *
    have lp : ∀ q i, i + q = w * h → pvG mX11_parts (pvR 7 0 0) (pvZ (kQ w h a I J P' (stv (ptB fB all (w * h)).1)) 0 0) 33 [.ref 1, .int (nI mn), .int (nI lt), .int (nI all), .int (stv (ptB fB all i).1), .int (nI (ptB fB all i).2), .int (nI i), .retAddr 0, .retAddr 0] [] 0 0 224 I1 J1 P' := by
      intro q
      induction q with
      | zero =>
        intro i hi
        obtain rfl : i = w * h := by omega
        refine g_iload dX11_parts_33 rfl ?_
        refine g_aload_n dX11_parts_35 rfl ?_
        refine g_getP dX11_parts_36 fdX11_21 rfl (by first | rfl | exact pv_shx) (by omega) (by omega) (by decide) rfl (hP _ _ _ rfl) ?_
        refine n_getI dX11_parts_39 fdX11_274 rfl (by first | rfl | exact pv_shx) (by omega) (by omega) (by decide) rfl (by repeat (first | exact r1 | (apply rd_s; done) | apply rd_n (by omega) | apply rp_s | apply rp_n (by omega) | (apply rdL_s; done) | apply rdL_n (by omega) | apply rpJ_s | apply rpJ_n (by omega) | rfl)) ?_
        refine n_icmp_ge 87 dX11_parts_42 (by decide) (by first | ((with_reducible apply cN_le) <;> omega) | ((with_reducible apply cI_len) <;> omega) | ((with_reducible apply cI_nle) <;> omega) | (with_reducible exact cI_le)) (fun c42 => ?_) (fun c42 => by exfalso; first | omega | exact absurd trivial c42 | exact c42 | (simp at c42))
        refine g_iload dX11_parts_87 rfl ?_
        exact g_iret dX11_parts_89 rfl (⟨rfl, rfl, rfl, q1, q2⟩)
      | succ q ih =>
        intro i hi
        have b1 := hle i
        rw [hfc i] at b1
        have mbi := mb i (by omega)
        rw [hfc i] at mbi
        have hpl := (ptB_le (f := fB) (all := all) i).1
        have h4 := ih (i + 1) (by omega)
        have es : ptB fB all (i + 1) = if min (fB i) (all - fB i) ≤ (ptB fB all i).2 then ptB fB all i else (some i, min (fB i) (all - fB i)) := rfl
        by_cases c1 : min (fB i) (all - fB i) ≤ (ptB fB all i).2
        · rw [es, if_pos c1] at h4
          refine g_iload dX11_parts_33 rfl ?_
          refine g_aload_n dX11_parts_35 rfl ?_
          refine g_getP dX11_parts_36 fdX11_21 rfl (by first | rfl | exact pv_shx) (by omega) (by omega) (by decide) rfl (hP _ _ _ rfl) ?_
          refine n_getI dX11_parts_39 fdX11_274 rfl (by first | rfl | exact pv_shx) (by omega) (by omega) (by decide) rfl (by repeat (first | exact r1 | (apply rd_s; done) | apply rd_n (by omega) | apply rp_s | apply rp_n (by omega) | (apply rdL_s; done) | apply rdL_n (by omega) | apply rpJ_s | apply rpJ_n (by omega) | rfl)) ?_
          refine n_icmp_ge 87 dX11_parts_42 (by decide) (by first | ((with_reducible apply cN_le) <;> omega) | ((with_reducible apply cI_len) <;> omega) | ((with_reducible apply cI_nle) <;> omega) | (with_reducible exact cI_le)) (fun c42 => by exfalso; first | omega | exact absurd trivial c42 | exact c42 | (simp at c42)) (fun c42 => ?_)
          refine g_aload_n dX11_parts_45 rfl ?_
          refine g_iload_n dX11_parts_46 rfl ?_
          refine g_iload dX11_parts_47 rfl ?_
          refine g_iload_n dX11_parts_49 rfl ?_
          refine p_callV (mbi) okX11_howManyBurn lkX11_271 rfl (by first | rfl | exact pv_shx) rfl (by omega) (by omega) dX11_parts_50 rfl (Nat.le_of_ble_eq_true rfl) (⟨by decide, by decide, by decide, by decide⟩) ?_
          refine g_istore dX11_parts_53 (by decide) rfl ?_
          refine g_iload dX11_parts_55 rfl ?_
          refine g_iload_n dX11_parts_57 rfl ?_
          refine g_iload dX11_parts_58 rfl ?_
          refine n_isub dX11_parts_60 (by first | ((with_reducible apply pk_sub) <;> omega) | rfl) ?_
          refine g_mmin dX11_parts_61 lkX11_9 (by decide) (Nat.le_of_ble_eq_true rfl) (by decide) (by decide) (mm_min (by omega) (by omega)) ?_
          refine g_istore dX11_parts_64 (by decide) rfl ?_
          refine g_iload dX11_parts_66 rfl ?_
          refine g_iload dX11_parts_68 rfl ?_
          refine n_icmp_le 81 dX11_parts_70 (by decide) (by first | ((with_reducible apply cN_le) <;> omega) | ((with_reducible apply cI_len) <;> omega) | ((with_reducible apply cI_nle) <;> omega) | (with_reducible exact cI_le)) (fun c70 => ?_) (fun c70 => by exfalso; first | omega | exact absurd trivial c70 | exact c70 | (simp at c70))
          refine g_iinc dX11_parts_81 rfl (by first | (with_reducible exact nI_1 _) | exact nI_1 _ | exact pk_m1 _ | rfl) (by decide) rfl ?_
          refine g_goto 33 dX11_parts_84 (by decide) ?_
          exact g_drop _ (by repeat (first | exact trivial | refine ⟨Or.inr ⟨_, rfl⟩, ?_⟩ | refine ⟨Or.inl rfl, ?_⟩)) h4
        · rw [es, if_neg c1] at h4
          refine g_iload dX11_parts_33 rfl ?_
          refine g_aload_n dX11_parts_35 rfl ?_
          refine g_getP dX11_parts_36 fdX11_21 rfl (by first | rfl | exact pv_shx) (by omega) (by omega) (by decide) rfl (hP _ _ _ rfl) ?_
          refine n_getI dX11_parts_39 fdX11_274 rfl (by first | rfl | exact pv_shx) (by omega) (by omega) (by decide) rfl (by repeat (first | exact r1 | (apply rd_s; done) | apply rd_n (by omega) | apply rp_s | apply rp_n (by omega) | (apply rdL_s; done) | apply rdL_n (by omega) | apply rpJ_s | apply rpJ_n (by omega) | rfl)) ?_
          refine n_icmp_ge 87 dX11_parts_42 (by decide) (by first | ((with_reducible apply cN_le) <;> omega) | ((with_reducible apply cI_len) <;> omega) | ((with_reducible apply cI_nle) <;> omega) | (with_reducible exact cI_le)) (fun c42 => by exfalso; first | omega | exact absurd trivial c42 | exact c42 | (simp at c42)) (fun c42 => ?_)
          refine g_aload_n dX11_parts_45 rfl ?_
          refine g_iload_n dX11_parts_46 rfl ?_
          refine g_iload dX11_parts_47 rfl ?_
          refine g_iload_n dX11_parts_49 rfl ?_
          refine p_callV (mbi) okX11_howManyBurn lkX11_271 rfl (by first | rfl | exact pv_shx) rfl (by omega) (by omega) dX11_parts_50 rfl (Nat.le_of_ble_eq_true rfl) (⟨by decide, by decide, by decide, by decide⟩) ?_
          refine g_istore dX11_parts_53 (by decide) rfl ?_
          refine g_iload dX11_parts_55 rfl ?_
          refine g_iload_n dX11_parts_57 rfl ?_
          refine g_iload dX11_parts_58 rfl ?_
          refine n_isub dX11_parts_60 (by first | ((with_reducible apply pk_sub) <;> omega) | rfl) ?_
          refine g_mmin dX11_parts_61 lkX11_9 (by decide) (Nat.le_of_ble_eq_true rfl) (by decide) (by decide) (mm_min (by omega) (by omega)) ?_
          refine g_istore dX11_parts_64 (by decide) rfl ?_
          refine g_iload dX11_parts_66 rfl ?_
          refine g_iload dX11_parts_68 rfl ?_
          refine n_icmp_le 81 dX11_parts_70 (by decide) (by first | ((with_reducible apply cN_le) <;> omega) | ((with_reducible apply cI_len) <;> omega) | ((with_reducible apply cI_nle) <;> omega) | (with_reducible exact cI_le)) (fun c70 => by exfalso; first | omega | exact absurd trivial c70 | exact c70 | (simp at c70)) (fun c70 => ?_)
          refine g_iload dX11_parts_73 rfl ?_
          refine g_istore dX11_parts_75 (by decide) rfl ?_
          refine g_iload dX11_parts_77 rfl ?_
          refine g_istore dX11_parts_79 (by decide) rfl ?_
          refine g_iinc dX11_parts_81 rfl (by first | (with_reducible exact nI_1 _) | exact nI_1 _ | exact pk_m1 _ | rfl) (by decide) rfl ?_
          refine g_goto 33 dX11_parts_84 (by decide) ?_
          exact g_drop _ (by repeat (first | exact trivial | refine ⟨Or.inr ⟨_, rfl⟩, ?_⟩ | refine ⟨Or.inl rfl, ?_⟩)) h4
    have go := lp (w * h) 0 (by omega)
    refine g_aload_n dX11_parts_14 rfl ?_
    refine p_callV (la) okX11_letNow lkX11_239 rfl (by first | rfl | exact pv_shx) rfl (by omega) (by omega) dX11_parts_15 rfl (Nat.le_of_ble_eq_true rfl) (⟨by decide, by decide, by decide, by decide⟩) ?_
    refine g_istore_n dX11_parts_18 (by decide) rfl ?_
    refine g_iload_n dX11_parts_19 rfl ?_
    refine p_callS (bc) okJ6_bitCount_0f7a4 lkX11_247 rfl dX11_parts_20 rfl (Nat.le_of_ble_eq_true rfl) (⟨by decide, by decide, by decide, by decide⟩) ?_
    refine g_istore_n dX11_parts_23 (by decide) rfl ?_
    refine g_iconst (v := (-1)) dX11_parts_24 (by decide) ?_
    refine g_istore dX11_parts_25 (by decide) rfl ?_
    refine g_iconst (v := nI 0) dX11_parts_27 (by decide) ?_
    refine g_istore dX11_parts_28 (by decide) rfl ?_
    refine g_iconst (v := nI 0) dX11_parts_30 (by decide) ?_
    refine g_istore dX11_parts_31 (by decide) rfl ?_
    exact g_drop _ (by repeat (first | exact trivial | refine ⟨Or.inr ⟨_, rfl⟩, ?_⟩ | refine ⟨Or.inl rfl, ?_⟩)) go
  · rw [if_neg hm] at iw
    refine pvMet.of _ (by decide) rfl (Nat.le_of_ble_eq_true rfl) ?_
    refine g_iload_n dX11_parts_0 rfl ?_
    refine p_callS (iw) okX11_isWeek lkX11_160 rfl dX11_parts_1 rfl (Nat.le_of_ble_eq_true rfl) (⟨by decide, by decide, by decide, by decide⟩) ?_
    refine n_if_ne 9 dX11_parts_4 (by decide) (by first | (with_reducible exact cB _) | ((with_reducible apply cN_eq0) <;> omega) | exact Iff.rfl) (fun c4 => by exfalso; first | omega | exact absurd trivial c4 | exact c4 | (simp at c4)) (fun c4 => ?_)
    refine g_iconst (v := (-1)) dX11_parts_7 (by decide) ?_
    exact g_iret dX11_parts_8 rfl (⟨rfl, rfl, by rw [sp_parts, if_neg hm], hb, qF.rf⟩)
theorem c_lostBy {F m : Nat} {r : fS} {met : Nat → Bool} (hP : pvOkP P) (hA : fAd F) (hm : m ≤ 99) (hr : ∀ c, r.1 c ≤ 2) (hv : fWk F m r met J) : pvMet mX11_lostBy 1 0 0 [.ref F, .int (nI m)] 224 I J P (pvpu (.int (nI (sp_ct (fun c => 0 < r.1 c) 64))) 224 I J P) := by
  obtain ⟨⟨s0, s1, s2, s3, s4, s5⟩, h90, h138⟩ := hA.sh
  obtain ⟨p10, p11, p12, p13, p14⟩ := hA.pp hP
  obtain ⟨v1, v2, v3⟩ := hv
  have bc := t_bitCount (nx := 224) (f := fun c => mB r c || mT r c) (I := I) (J := J) (P := P)
  rw [lost_ct hr, ← mk_or] at bc
  refine pvMet.of _ (by decide) rfl (Nat.le_of_ble_eq_true rfl) ?_
  refine g_aload_n dX11_lostBy_0 rfl ?_
  refine g_getP dX11_lostBy_1 fdX11_212 rfl (by first | exact s0 | exact s3 | exact s4) (by omega) (by omega) (by decide) rfl (by first | exact p12 | exact p13) ?_
  refine g_iload_n dX11_lostBy_4 rfl ?_
  refine n_lald dX11_lostBy_5 (by first | exact s0 | exact s3 | exact s4) (by omega) (by omega) (by decide) (rfl) (by omega) (by repeat (first | exact v1 | exact v2 | (apply rd_s; done) | apply rd_n (by omega) | apply rp_s | apply rp_n (by omega) | (apply rdL_s; done) | apply rdL_n (by omega) | apply rpJ_s | apply rpJ_n (by omega) | rfl)) ?_
  refine g_aload_n dX11_lostBy_6 rfl ?_
  refine g_getP dX11_lostBy_7 fdX11_216 rfl (by first | exact s0 | exact s3 | exact s4) (by omega) (by omega) (by decide) rfl (by first | exact p12 | exact p13) ?_
  refine g_iload_n dX11_lostBy_10 rfl ?_
  refine n_lald dX11_lostBy_11 (by first | exact s0 | exact s3 | exact s4) (by omega) (by omega) (by decide) (rfl) (by omega) (by repeat (first | exact v1 | exact v2 | (apply rd_s; done) | apply rd_n (by omega) | apply rp_s | apply rp_n (by omega) | (apply rdL_s; done) | apply rdL_n (by omega) | apply rpJ_s | apply rpJ_n (by omega) | rfl)) ?_
  refine n_lor dX11_lostBy_12 (rfl) ?_
  refine p_callS (bc) okJ13_bitCount_95d88 lkX11_426 rfl dX11_lostBy_13 rfl (Nat.le_of_ble_eq_true rfl) (⟨by decide, by decide, by decide, by decide⟩) ?_
  exact g_iret dX11_lostBy_16 rfl (⟨rfl, rfl, rfl, rfl, rfl⟩)
theorem c_lost {s m : Int32} (hP : pvOkP P) (hb : kB w h a I J) : pvMet mX11_lost 6 0 0 [.ref 1, .int s, .int m] 224 I J P (kQ w h a I J P (sp_lost w h a s m)) := by
  obtain ⟨n3, r3⟩ := hb.n3
  have hi := hb.2.2.2.2
  have hs := c_hasState (v := s) (J := J) hP r3 (by omega)
  have iw := c_isWeek (nx := 224) (v := m) (I := I) (J := J) (P := P)
  by_cases c1 : 0 ≤ s.toInt ∧ s.toInt < cnt a 3
  · rw [if_pos c1] at hs
    by_cases hm : 0 ≤ m.toInt ∧ m.toInt ≤ 99
    · rw [if_pos hm] at iw
      obtain ⟨sn, hsn, rfl⟩ := cI_of (x := s) (n := cnt a 3) (by omega) (by omega) (by omega)
      obtain ⟨mn, hmn, rfl⟩ := cI_of (x := m) (n := 100) (by omega) (by omega) (by omega)
      have ans : sp_lost w h a (nI sn) (nI mn) = nI (lostN w h a 0 none sn mn) := by
        rw [sp_lost, if_pos ⟨c1, hm⟩, nI_clamp (by omega), nI_clamp (by omega)]
      rw [ans]
      have lk := c_look (g := mn) hP hb (s := sn) hsn (by omega)
      have s0 := (fad_ok (show sn < 9 by omega)).sh.1.1
      have bs := fad_lt (show sn < 8 by omega)
      have hce : cnt a (260 + 2 * sn) < w * h := by
        obtain ⟨⟨u, u1, u2⟩, -⟩ := hi.1.2.2.1 sn hsn
        have := hb.1.wh
        rw [cnt_of u2 (by omega)]; exact u1
      have hI := fI_wk (wl := 0) (wo := none) (s := sn) (m := mn) hi.2.2.2.2.2.1.1 hce
      refine pvMet.of _ (by decide) rfl (Nat.le_of_ble_eq_true rfl) ?_
      refine g_aload_n dX11_lost_0 rfl ?_
      refine g_iload_n dX11_lost_1 rfl ?_
      refine p_callV (hs) okX11_hasState lkX11_189 rfl (by first | rfl | exact pv_shx) rfl (by omega) (by omega) dX11_lost_2 rfl (Nat.le_of_ble_eq_true rfl) (⟨by decide, by decide, by decide, by decide⟩) ?_
      refine n_if_eq 15 dX11_lost_5 (by decide) (by first | (with_reducible exact cB _) | ((with_reducible apply cN_eq0) <;> omega) | exact Iff.rfl) (fun c5 => by exfalso; first | omega | exact absurd trivial c5 | exact c5 | (simp at c5)) (fun c5 => ?_)
      refine g_iload_n dX11_lost_8 rfl ?_
      refine p_callS (iw) okX11_isWeek lkX11_160 rfl dX11_lost_9 rfl (Nat.le_of_ble_eq_true rfl) (⟨by decide, by decide, by decide, by decide⟩) ?_
      refine n_if_ne 17 dX11_lost_12 (by decide) (by first | (with_reducible exact cB _) | ((with_reducible apply cN_eq0) <;> omega) | exact Iff.rfl) (fun c12 => ?_) (fun c12 => by exfalso; first | omega | exact absurd trivial c12 | exact c12 | (simp at c12))
      refine g_aload_n dX11_lost_17 rfl ?_
      refine g_getP dX11_lost_18 fdX11_41 rfl (by first | rfl | exact pv_shx) (by omega) (by omega) (by decide) rfl (hP _ _ _ rfl) ?_
      refine g_iload_n dX11_lost_21 rfl ?_
      refine g_aald _ dX11_lost_22 (by first | exact Or.inl rfl | exact Or.inr rfl) (by omega) (by omega) (by decide) (rfl) (by omega) (fires_P hP (by omega)) ?_
      refine g_aload_n dX11_lost_23 rfl ?_
      refine g_getP dX11_lost_24 fdX11_32 rfl (by first | rfl | exact pv_shx) (by omega) (by omega) (by decide) rfl (hP _ _ _ rfl) ?_
      refine g_iload_n dX11_lost_27 rfl ?_
      refine g_callV (lk) okX1_lookAt lkX11_202 rfl (s0) rfl (by omega) (by omega) dX11_lost_28 rfl (Nat.le_of_ble_eq_true rfl) (⟨by decide, by decide, by decide, by decide⟩) ?_
      rintro v nx' I1 J1 P' ⟨rfl, rfl, rfl, q1, q2, sv, q3, q4⟩
      have lb := c_lostBy (I := I1) (J := J1) hP (fad_ok (show sn < 9 by omega)) (by omega) (fun c => (hI c).2.2.1) (q4.2.2.1 mn (by omega))
      refine g_aload_n dX11_lost_31 rfl ?_
      refine g_getP dX11_lost_32 fdX11_41 rfl (by first | rfl | exact pv_shx) (by omega) (by omega) (by decide) rfl (hP _ _ _ rfl) ?_
      refine g_iload_n dX11_lost_35 rfl ?_
      refine g_aald _ dX11_lost_36 (by first | exact Or.inl rfl | exact Or.inr rfl) (by omega) (by omega) (by decide) (rfl) (by omega) (fires_P hP (by omega)) ?_
      refine g_iload_n dX11_lost_37 rfl ?_
      refine p_callS (lb) okX11_lostBy lkX11_219 rfl dX11_lost_38 rfl (Nat.le_of_ble_eq_true rfl) (⟨by decide, by decide, by decide, by decide⟩) ?_
      exact g_iret dX11_lost_41 rfl (⟨rfl, rfl, rfl, q1, q2.q (fad_ok (by omega))⟩)
    · rw [if_neg hm] at iw
      refine pvMet.of _ (by decide) rfl (Nat.le_of_ble_eq_true rfl) ?_
      refine g_aload_n dX11_lost_0 rfl ?_
      refine g_iload_n dX11_lost_1 rfl ?_
      refine p_callV (hs) okX11_hasState lkX11_189 rfl (by first | rfl | exact pv_shx) rfl (by omega) (by omega) dX11_lost_2 rfl (Nat.le_of_ble_eq_true rfl) (⟨by decide, by decide, by decide, by decide⟩) ?_
      refine n_if_eq 15 dX11_lost_5 (by decide) (by first | (with_reducible exact cB _) | ((with_reducible apply cN_eq0) <;> omega) | exact Iff.rfl) (fun c5 => by exfalso; first | omega | exact absurd trivial c5 | exact c5 | (simp at c5)) (fun c5 => ?_)
      refine g_iload_n dX11_lost_8 rfl ?_
      refine p_callS (iw) okX11_isWeek lkX11_160 rfl dX11_lost_9 rfl (Nat.le_of_ble_eq_true rfl) (⟨by decide, by decide, by decide, by decide⟩) ?_
      refine n_if_ne 17 dX11_lost_12 (by decide) (by first | (with_reducible exact cB _) | ((with_reducible apply cN_eq0) <;> omega) | exact Iff.rfl) (fun c12 => by exfalso; first | omega | exact absurd trivial c12 | exact c12 | (simp at c12)) (fun c12 => ?_)
      refine g_iconst (v := (-1)) dX11_lost_15 (by decide) ?_
      exact g_iret dX11_lost_16 rfl (⟨rfl, rfl, by rw [sp_lost, if_neg (fun z => hm z.2)], hb, qF.rf⟩)
  · rw [if_neg c1] at hs
    refine pvMet.of _ (by decide) rfl (Nat.le_of_ble_eq_true rfl) ?_
    refine g_aload_n dX11_lost_0 rfl ?_
    refine g_iload_n dX11_lost_1 rfl ?_
    refine p_callV (hs) okX11_hasState lkX11_189 rfl (by first | rfl | exact pv_shx) rfl (by omega) (by omega) dX11_lost_2 rfl (Nat.le_of_ble_eq_true rfl) (⟨by decide, by decide, by decide, by decide⟩) ?_
    refine n_if_eq 15 dX11_lost_5 (by decide) (by first | (with_reducible exact cB _) | ((with_reducible apply cN_eq0) <;> omega) | exact Iff.rfl) (fun c5 => ?_) (fun c5 => by exfalso; first | omega | exact absurd trivial c5 | exact c5 | (simp at c5))
    refine g_iconst (v := (-1)) dX11_lost_15 (by decide) ?_
    exact g_iret dX11_lost_16 rfl (⟨rfl, rfl, by rw [sp_lost, if_neg (fun z => c1 z.1)], hb, qF.rf⟩)
theorem c_stand {s g : Nat} (hP : pvOkP P) (hb : kB w h a I J) (hs : s < cnt a 3) (hg : g ≤ 99) : pvMet mX1_standAt 4 0 0 [.ref (fad s), .ref 3, .int (nI g)] 224 I J P (pvq P (fun v I' J' => v = none ∧ kB w h a I' J' ∧ fFr (fad s) I J I' J' ∧ fCu (fad s) 0 (fwk w h a 0 none s g) I' J')) := by
  obtain ⟨h8, hE, hB, hw, sn, hV⟩ := hb.st hs
  refine (f_standAt (g := g) hP (fad_ok (by omega)) hE hw hB hg (fun k _ => walOk0) hV).weaken ?_
  rintro v nx I' J' P' ⟨rfl, rfl, rfl, q1, q2, q3, q4⟩
  exact ⟨rfl, rfl, rfl, hb.q (q2.q (fad_ok (by omega))) (hb.2.2.1.look h8 hs q2 q1) (hb.2.2.2.1.fr h8 q2), q2, q4⟩
theorem kB.ce {s : Nat} (hb : kB w h a I J) (hs : s < cnt a 3) : cnt a (260 + 2 * s) < w * h := by
  obtain ⟨⟨u, u1, u2⟩, -⟩ := hb.2.2.2.2.1.2.2.1 s hs
  have := hb.1.wh
  rw [cnt_of u2 (by omega)]; exact u1
theorem c_burns {s m c x : Int32} (hP : pvOkP P) (hb : kB w h a I J) : pvMet mX11_burns 6 0 0 [.ref 1, .int s, .int m, .int c, .int x] 224 I J P (kQ w h a I J P (sp_burns w h a s m c x)) := by
  obtain ⟨n3, r3⟩ := hb.n3
  have hi := hb.2.2.2.2
  have hwh := hb.1.wh
  have hs := c_hasState (v := s) (J := J) hP r3 (by omega)
  have iw := c_isWeek (nx := 224) (v := m) (I := I) (J := J) (P := P)
  have ih := c_has (v := c) (P := P) hb.1
  have ix := c_within (nx := 224) (v := x) (lo := nI 0) (hi := nI 3) (L := 0) (H := 3) (I := I) (J := J) (P := P) (by decide) (by decide)
  by_cases c1 : 0 ≤ s.toInt ∧ s.toInt < cnt a 3
  · rw [if_pos c1] at hs
    by_cases hm : 0 ≤ m.toInt ∧ m.toInt ≤ 99
    · rw [if_pos hm] at iw
      by_cases hc : 0 ≤ c.toInt ∧ c.toInt < w * h
      · rw [if_pos hc] at ih
        by_cases hx : 0 ≤ x.toInt ∧ x.toInt ≤ 3
        · rw [if_pos hx] at ix
          obtain ⟨sn, hsn, rfl⟩ := cI_of (x := s) (n := cnt a 3) (by omega) (by omega) (by omega)
          obtain ⟨mn, hmn, rfl⟩ := cI_of (x := m) (n := 100) (by omega) (by omega) (by omega)
          obtain ⟨cn, hcn, rfl⟩ := cI_of (x := c) (n := w * h) (by omega) (by omega) (by omega)
          obtain ⟨xn, hxn, rfl⟩ := cI_of (x := x) (n := 4) (by omega) (by omega) (by omega)
          refine pvMet.of _ (by decide) rfl (Nat.le_of_ble_eq_true rfl) ?_
          refine g_aload_n dX11_burns_0 rfl ?_
          refine g_iload_n dX11_burns_1 rfl ?_
          refine p_callV (hs) okX11_hasState lkX11_189 rfl (by first | rfl | exact pv_shx) rfl (by omega) (by omega) dX11_burns_2 rfl (Nat.le_of_ble_eq_true rfl) (⟨by decide, by decide, by decide, by decide⟩) ?_
          refine n_if_eq 36 dX11_burns_5 (by decide) (by first | (with_reducible exact cB _) | ((with_reducible apply cN_eq0) <;> omega) | exact Iff.rfl) (fun c5 => by exfalso; first | omega | exact absurd trivial c5 | exact c5 | (simp at c5)) (fun c5 => ?_)
          refine g_iload_n dX11_burns_8 rfl ?_
          refine p_callS (iw) okX11_isWeek lkX11_160 rfl dX11_burns_9 rfl (Nat.le_of_ble_eq_true rfl) (⟨by decide, by decide, by decide, by decide⟩) ?_
          refine n_if_eq 36 dX11_burns_12 (by decide) (by first | (with_reducible exact cB _) | ((with_reducible apply cN_eq0) <;> omega) | exact Iff.rfl) (fun c12 => by exfalso; first | omega | exact absurd trivial c12 | exact c12 | (simp at c12)) (fun c12 => ?_)
          refine g_aload_n dX11_burns_15 rfl ?_
          refine g_getP dX11_burns_16 fdX11_21 rfl (by first | rfl | exact pv_shx) (by omega) (by omega) (by decide) rfl (hP _ _ _ rfl) ?_
          refine g_iload_n dX11_burns_19 rfl ?_
          refine p_callV (ih) okX2_has lkX11_81 rfl (by first | rfl | exact pv_shx) rfl (by omega) (by omega) dX11_burns_20 rfl (Nat.le_of_ble_eq_true rfl) (⟨by decide, by decide, by decide, by decide⟩) ?_
          refine n_if_eq 36 dX11_burns_23 (by decide) (by first | (with_reducible exact cB _) | ((with_reducible apply cN_eq0) <;> omega) | exact Iff.rfl) (fun c23 => by exfalso; first | omega | exact absurd trivial c23 | exact c23 | (simp at c23)) (fun c23 => ?_)
          refine g_iload dX11_burns_26 rfl ?_
          refine g_iconst (v := nI 0) dX11_burns_28 (by decide) ?_
          refine g_iconst (v := nI 3) dX11_burns_29 (by decide) ?_
          refine p_callS (ix) okX11_within lkX11_85 rfl dX11_burns_30 rfl (Nat.le_of_ble_eq_true rfl) (⟨by decide, by decide, by decide, by decide⟩) ?_
          refine n_if_ne 38 dX11_burns_33 (by decide) (by first | (with_reducible exact cB _) | ((with_reducible apply cN_eq0) <;> omega) | exact Iff.rfl) (fun c33 => ?_) (fun c33 => by exfalso; first | omega | exact absurd trivial c33 | exact c33 | (simp at c33))
          have x' : (nI xn).toInt = xn := nI_toInt (by omega)
          have hans : sp_burns w h a (nI sn) (nI mn) (nI cn) (nI xn) = (if xn = 0 then nI ((fwk w h a 0 none sn mn).1 cn) else if xn = 1 then nI ((fwk w h a 0 none sn mn).2.1 cn) else if xn = 2 then nI ((fwk w h a 0 none sn mn).2.2 cn) else nI (if fair w h a 0 none mn (fwk w h a 0 none sn mn) cn = true then 1 else 0)) := by
            rw [sp_burns, if_pos ⟨c1, hm, hc, hx⟩, nI_clamp (by omega : sn < 2 ^ 31), nI_clamp (by omega : mn < 2 ^ 31), nI_clamp (by omega : cn < 2 ^ 31), x']
            simp only [show ((xn : Int) = 0) = (xn = 0) from propext (by omega), show ((xn : Int) = 1) = (xn = 1) from propext (by omega), show ((xn : Int) = 2) = (xn = 2) from propext (by omega)]
          rw [hans]
          have lk := c_look (g := mn) hP hb (s := sn) hsn (by omega)
          have sd := c_stand (g := mn) hP hb (s := sn) hsn (by omega)
          obtain ⟨⟨s0, s1, s2, s3, s4, s5⟩, -⟩ := (fad_ok (show sn < 9 by omega)).sh
          obtain ⟨p10, p11, p12, p13, p14⟩ := (fad_ok (show sn < 9 by omega)).pp hP
          have bs := fad_lt (show sn < 8 by omega)
          have hI := fI_wk (wl := 0) (wo := none) (s := sn) (m := mn) hi.2.2.2.2.2.1.1 (hb.ce hsn)
          rcases (show xn = 0 ∨ xn = 1 ∨ xn = 2 ∨ xn = 3 by omega) with rfl | rfl | rfl | rfl
          · skip
            refine g_aload_n dX11_burns_38 rfl ?_
            refine g_getP dX11_burns_39 fdX11_41 rfl (by first | rfl | exact pv_shx) (by omega) (by omega) (by decide) rfl (hP _ _ _ rfl) ?_
            refine g_iload_n dX11_burns_42 rfl ?_
            refine g_aald _ dX11_burns_43 (by first | exact Or.inl rfl | exact Or.inr rfl) (by omega) (by omega) (by decide) (rfl) (by omega) (fires_P hP (by omega)) ?_
            refine g_astore dX11_burns_44 (by decide) rfl ?_
            refine g_iload dX11_burns_46 rfl ?_
            refine g_iconst (v := nI 1) dX11_burns_48 (by decide) ?_
            refine n_icmp_eq 58 dX11_burns_49 (by decide) (by first | ((with_reducible apply cN_eq) <;> omega) | ((with_reducible apply cI_eqn) <;> omega) | exact Iff.rfl) (fun c49 => by exfalso; first | omega | exact absurd trivial c49 | exact c49 | (simp at c49)) (fun c49 => ?_)
            refine g_iload dX11_burns_52 rfl ?_
            refine g_iconst (v := nI 2) dX11_burns_54 (by decide) ?_
            refine n_icmp_ne 92 dX11_burns_55 (by decide) (by first | ((with_reducible apply cN_eq) <;> omega) | ((with_reducible apply cI_eqn) <;> omega) | exact Iff.rfl) (fun c55 => ?_) (fun c55 => by exfalso; first | omega | exact absurd trivial c55 | exact c55 | (simp at c55))
            refine g_aload dX11_burns_92 rfl ?_
            refine g_aload_n dX11_burns_94 rfl ?_
            refine g_getP dX11_burns_95 fdX11_32 rfl (by first | rfl | exact pv_shx) (by omega) (by omega) (by decide) rfl (hP _ _ _ rfl) ?_
            refine g_iload_n dX11_burns_98 rfl ?_
            refine g_callV (lk) okX1_lookAt lkX11_202 rfl (s0) rfl (by omega) (by omega) dX11_burns_99 rfl (Nat.le_of_ble_eq_true rfl) (⟨by decide, by decide, by decide, by decide⟩) ?_
            rintro v nx' I1 J1 P' ⟨rfl, rfl, rfl, q1, q2, sv, q3, q4⟩
            have hI0 := hI cn
            have hf0 := q4.2.2.1 mn (by omega)
            have y1 := hf0.1
            have y2 := hf0.2.1
            have h1 := t_hasM (nx := 224) (k := cn) (f := mB (fwk w h a 0 none sn mn)) (I := I1) (J := J1) (P := P') (by omega)
            have h2 := t_hasM (nx := 224) (k := cn) (f := mT (fwk w h a 0 none sn mn)) (I := I1) (J := J1) (P := P') (by omega)
            rw [if_pos rfl]
            rcases (show (fwk w h a 0 none sn mn).1 cn = 1 ∨ (fwk w h a 0 none sn mn).1 cn = 2 ∨ (fwk w h a 0 none sn mn).1 cn = 0 by omega) with e | e | e
            · rw [show mB (fwk w h a 0 none sn mn) cn = true from decide_eq_true e] at h1
              rw [e]
              refine g_iload dX11_burns_102 rfl ?_
              refine g_iconst (v := nI 3) dX11_burns_104 (by decide) ?_
              refine n_icmp_ne 131 dX11_burns_105 (by decide) (by first | ((with_reducible apply cN_eq) <;> omega) | ((with_reducible apply cI_eqn) <;> omega) | exact Iff.rfl) (fun c105 => ?_) (fun c105 => by exfalso; first | omega | exact absurd trivial c105 | exact c105 | (simp at c105))
              refine g_aload dX11_burns_131 rfl ?_
              refine g_getP dX11_burns_133 fdX11_212 rfl (by first | exact s0 | exact s3 | exact s4) (by omega) (by omega) (by decide) rfl (by first | exact p12 | exact p13) ?_
              refine g_iload_n dX11_burns_136 rfl ?_
              refine n_lald dX11_burns_137 (by first | exact s0 | exact s3 | exact s4) (by omega) (by omega) (by decide) (rfl) (by omega) (by repeat (first | exact y1 | exact y2 | (apply rd_s; done) | apply rd_n (by omega) | apply rp_s | apply rp_n (by omega) | (apply rdL_s; done) | apply rdL_n (by omega) | apply rpJ_s | apply rpJ_n (by omega) | rfl)) ?_
              refine g_iload_n dX11_burns_138 rfl ?_
              refine p_callS (h1) okX11_has lkX11_209 rfl dX11_burns_139 rfl (Nat.le_of_ble_eq_true rfl) (⟨by decide, by decide, by decide, by decide⟩) ?_
              refine n_if_eq 147 dX11_burns_142 (by decide) (by first | (with_reducible exact cB _) | ((with_reducible apply cN_eq0) <;> omega) | exact Iff.rfl) (fun c142 => by exfalso; first | omega | exact absurd trivial c142 | exact c142 | (simp at c142)) (fun c142 => ?_)
              refine g_iconst (v := nI 1) dX11_burns_145 (by decide) ?_
              exact g_iret dX11_burns_146 rfl (⟨rfl, rfl, rfl, q1, q2.q (fad_ok (by omega))⟩)
            · rw [show mB (fwk w h a 0 none sn mn) cn = false from decide_eq_false (by omega)] at h1
              rw [show mT (fwk w h a 0 none sn mn) cn = true from decide_eq_true e] at h2
              rw [e]
              refine g_iload dX11_burns_102 rfl ?_
              refine g_iconst (v := nI 3) dX11_burns_104 (by decide) ?_
              refine n_icmp_ne 131 dX11_burns_105 (by decide) (by first | ((with_reducible apply cN_eq) <;> omega) | ((with_reducible apply cI_eqn) <;> omega) | exact Iff.rfl) (fun c105 => ?_) (fun c105 => by exfalso; first | omega | exact absurd trivial c105 | exact c105 | (simp at c105))
              refine g_aload dX11_burns_131 rfl ?_
              refine g_getP dX11_burns_133 fdX11_212 rfl (by first | exact s0 | exact s3 | exact s4) (by omega) (by omega) (by decide) rfl (by first | exact p12 | exact p13) ?_
              refine g_iload_n dX11_burns_136 rfl ?_
              refine n_lald dX11_burns_137 (by first | exact s0 | exact s3 | exact s4) (by omega) (by omega) (by decide) (rfl) (by omega) (by repeat (first | exact y1 | exact y2 | (apply rd_s; done) | apply rd_n (by omega) | apply rp_s | apply rp_n (by omega) | (apply rdL_s; done) | apply rdL_n (by omega) | apply rpJ_s | apply rpJ_n (by omega) | rfl)) ?_
              refine g_iload_n dX11_burns_138 rfl ?_
              refine p_callS (h1) okX11_has lkX11_209 rfl dX11_burns_139 rfl (Nat.le_of_ble_eq_true rfl) (⟨by decide, by decide, by decide, by decide⟩) ?_
              refine n_if_eq 147 dX11_burns_142 (by decide) (by first | (with_reducible exact cB _) | ((with_reducible apply cN_eq0) <;> omega) | exact Iff.rfl) (fun c142 => ?_) (fun c142 => by exfalso; first | omega | exact absurd trivial c142 | exact c142 | (simp at c142))
              refine g_aload dX11_burns_147 rfl ?_
              refine g_getP dX11_burns_149 fdX11_216 rfl (by first | exact s0 | exact s3 | exact s4) (by omega) (by omega) (by decide) rfl (by first | exact p12 | exact p13) ?_
              refine g_iload_n dX11_burns_152 rfl ?_
              refine n_lald dX11_burns_153 (by first | exact s0 | exact s3 | exact s4) (by omega) (by omega) (by decide) (rfl) (by omega) (by repeat (first | exact y1 | exact y2 | (apply rd_s; done) | apply rd_n (by omega) | apply rp_s | apply rp_n (by omega) | (apply rdL_s; done) | apply rdL_n (by omega) | apply rpJ_s | apply rpJ_n (by omega) | rfl)) ?_
              refine g_iload_n dX11_burns_154 rfl ?_
              refine p_callS (h2) okX11_has lkX11_209 rfl dX11_burns_155 rfl (Nat.le_of_ble_eq_true rfl) (⟨by decide, by decide, by decide, by decide⟩) ?_
              refine n_if_eq 165 dX11_burns_158 (by decide) (by first | (with_reducible exact cB _) | ((with_reducible apply cN_eq0) <;> omega) | exact Iff.rfl) (fun c158 => by exfalso; first | omega | exact absurd trivial c158 | exact c158 | (simp at c158)) (fun c158 => ?_)
              refine g_iconst (v := nI 2) dX11_burns_161 (by decide) ?_
              refine g_goto 166 dX11_burns_162 (by decide) ?_
              exact g_iret dX11_burns_166 rfl (⟨rfl, rfl, rfl, q1, q2.q (fad_ok (by omega))⟩)
            · rw [show mB (fwk w h a 0 none sn mn) cn = false from decide_eq_false (by omega)] at h1
              rw [show mT (fwk w h a 0 none sn mn) cn = false from decide_eq_false (by omega)] at h2
              rw [e]
              refine g_iload dX11_burns_102 rfl ?_
              refine g_iconst (v := nI 3) dX11_burns_104 (by decide) ?_
              refine n_icmp_ne 131 dX11_burns_105 (by decide) (by first | ((with_reducible apply cN_eq) <;> omega) | ((with_reducible apply cI_eqn) <;> omega) | exact Iff.rfl) (fun c105 => ?_) (fun c105 => by exfalso; first | omega | exact absurd trivial c105 | exact c105 | (simp at c105))
              refine g_aload dX11_burns_131 rfl ?_
              refine g_getP dX11_burns_133 fdX11_212 rfl (by first | exact s0 | exact s3 | exact s4) (by omega) (by omega) (by decide) rfl (by first | exact p12 | exact p13) ?_
              refine g_iload_n dX11_burns_136 rfl ?_
              refine n_lald dX11_burns_137 (by first | exact s0 | exact s3 | exact s4) (by omega) (by omega) (by decide) (rfl) (by omega) (by repeat (first | exact y1 | exact y2 | (apply rd_s; done) | apply rd_n (by omega) | apply rp_s | apply rp_n (by omega) | (apply rdL_s; done) | apply rdL_n (by omega) | apply rpJ_s | apply rpJ_n (by omega) | rfl)) ?_
              refine g_iload_n dX11_burns_138 rfl ?_
              refine p_callS (h1) okX11_has lkX11_209 rfl dX11_burns_139 rfl (Nat.le_of_ble_eq_true rfl) (⟨by decide, by decide, by decide, by decide⟩) ?_
              refine n_if_eq 147 dX11_burns_142 (by decide) (by first | (with_reducible exact cB _) | ((with_reducible apply cN_eq0) <;> omega) | exact Iff.rfl) (fun c142 => ?_) (fun c142 => by exfalso; first | omega | exact absurd trivial c142 | exact c142 | (simp at c142))
              refine g_aload dX11_burns_147 rfl ?_
              refine g_getP dX11_burns_149 fdX11_216 rfl (by first | exact s0 | exact s3 | exact s4) (by omega) (by omega) (by decide) rfl (by first | exact p12 | exact p13) ?_
              refine g_iload_n dX11_burns_152 rfl ?_
              refine n_lald dX11_burns_153 (by first | exact s0 | exact s3 | exact s4) (by omega) (by omega) (by decide) (rfl) (by omega) (by repeat (first | exact y1 | exact y2 | (apply rd_s; done) | apply rd_n (by omega) | apply rp_s | apply rp_n (by omega) | (apply rdL_s; done) | apply rdL_n (by omega) | apply rpJ_s | apply rpJ_n (by omega) | rfl)) ?_
              refine g_iload_n dX11_burns_154 rfl ?_
              refine p_callS (h2) okX11_has lkX11_209 rfl dX11_burns_155 rfl (Nat.le_of_ble_eq_true rfl) (⟨by decide, by decide, by decide, by decide⟩) ?_
              refine n_if_eq 165 dX11_burns_158 (by decide) (by first | (with_reducible exact cB _) | ((with_reducible apply cN_eq0) <;> omega) | exact Iff.rfl) (fun c158 => ?_) (fun c158 => by exfalso; first | omega | exact absurd trivial c158 | exact c158 | (simp at c158))
              refine g_iconst (v := nI 0) dX11_burns_165 (by decide) ?_
              exact g_iret dX11_burns_166 rfl (⟨rfl, rfl, rfl, q1, q2.q (fad_ok (by omega))⟩)
          · skip
            refine g_aload_n dX11_burns_38 rfl ?_
            refine g_getP dX11_burns_39 fdX11_41 rfl (by first | rfl | exact pv_shx) (by omega) (by omega) (by decide) rfl (hP _ _ _ rfl) ?_
            refine g_iload_n dX11_burns_42 rfl ?_
            refine g_aald _ dX11_burns_43 (by first | exact Or.inl rfl | exact Or.inr rfl) (by omega) (by omega) (by decide) (rfl) (by omega) (fires_P hP (by omega)) ?_
            refine g_astore dX11_burns_44 (by decide) rfl ?_
            refine g_iload dX11_burns_46 rfl ?_
            refine g_iconst (v := nI 1) dX11_burns_48 (by decide) ?_
            refine n_icmp_eq 58 dX11_burns_49 (by decide) (by first | ((with_reducible apply cN_eq) <;> omega) | ((with_reducible apply cI_eqn) <;> omega) | exact Iff.rfl) (fun c49 => ?_) (fun c49 => by exfalso; first | omega | exact absurd trivial c49 | exact c49 | (simp at c49))
            refine g_aload dX11_burns_58 rfl ?_
            refine g_aload_n dX11_burns_60 rfl ?_
            refine g_getP dX11_burns_61 fdX11_32 rfl (by first | rfl | exact pv_shx) (by omega) (by omega) (by decide) rfl (hP _ _ _ rfl) ?_
            refine g_iload_n dX11_burns_64 rfl ?_
            refine g_callV (sd) okX1_standAt lkX11_192 rfl (s0) rfl (by omega) (by omega) dX11_burns_65 rfl (Nat.le_of_ble_eq_true rfl) (⟨by decide, by decide, by decide, by decide⟩) ?_
            rintro v nx' I1 J1 P' ⟨rfl, rfl, rfl, q1, q2, q3⟩
            have y1 := q3.2.2.2.1 cn (by omega)
            refine g_iload dX11_burns_68 rfl ?_
            refine g_iconst (v := nI 1) dX11_burns_70 (by decide) ?_
            refine n_icmp_ne 84 dX11_burns_71 (by decide) (by first | ((with_reducible apply cN_eq) <;> omega) | ((with_reducible apply cI_eqn) <;> omega) | exact Iff.rfl) (fun c71 => by exfalso; first | omega | exact absurd trivial c71 | exact c71 | (simp at c71)) (fun c71 => ?_)
            refine g_aload dX11_burns_74 rfl ?_
            refine g_getP dX11_burns_76 fdX11_196 rfl (s0) (by omega) (by omega) (by decide) rfl (p10) ?_
            refine g_iload_n dX11_burns_79 rfl ?_
            refine n_iald dX11_burns_80 (s1) (by omega) (by omega) (by decide) (rfl) (by omega) (by repeat (first | exact y1 | (apply rd_s; done) | apply rd_n (by omega) | apply rp_s | apply rp_n (by omega) | (apply rdL_s; done) | apply rdL_n (by omega) | apply rpJ_s | apply rpJ_n (by omega) | rfl)) ?_
            refine g_goto 91 dX11_burns_81 (by decide) ?_
            exact g_iret dX11_burns_91 rfl (⟨rfl, rfl, rfl, q1, q2.q (fad_ok (by omega))⟩)
          · skip
            refine g_aload_n dX11_burns_38 rfl ?_
            refine g_getP dX11_burns_39 fdX11_41 rfl (by first | rfl | exact pv_shx) (by omega) (by omega) (by decide) rfl (hP _ _ _ rfl) ?_
            refine g_iload_n dX11_burns_42 rfl ?_
            refine g_aald _ dX11_burns_43 (by first | exact Or.inl rfl | exact Or.inr rfl) (by omega) (by omega) (by decide) (rfl) (by omega) (fires_P hP (by omega)) ?_
            refine g_astore dX11_burns_44 (by decide) rfl ?_
            refine g_iload dX11_burns_46 rfl ?_
            refine g_iconst (v := nI 1) dX11_burns_48 (by decide) ?_
            refine n_icmp_eq 58 dX11_burns_49 (by decide) (by first | ((with_reducible apply cN_eq) <;> omega) | ((with_reducible apply cI_eqn) <;> omega) | exact Iff.rfl) (fun c49 => by exfalso; first | omega | exact absurd trivial c49 | exact c49 | (simp at c49)) (fun c49 => ?_)
            refine g_iload dX11_burns_52 rfl ?_
            refine g_iconst (v := nI 2) dX11_burns_54 (by decide) ?_
            refine n_icmp_ne 92 dX11_burns_55 (by decide) (by first | ((with_reducible apply cN_eq) <;> omega) | ((with_reducible apply cI_eqn) <;> omega) | exact Iff.rfl) (fun c55 => by exfalso; first | omega | exact absurd trivial c55 | exact c55 | (simp at c55)) (fun c55 => ?_)
            refine g_aload dX11_burns_58 rfl ?_
            refine g_aload_n dX11_burns_60 rfl ?_
            refine g_getP dX11_burns_61 fdX11_32 rfl (by first | rfl | exact pv_shx) (by omega) (by omega) (by decide) rfl (hP _ _ _ rfl) ?_
            refine g_iload_n dX11_burns_64 rfl ?_
            refine g_callV (sd) okX1_standAt lkX11_192 rfl (s0) rfl (by omega) (by omega) dX11_burns_65 rfl (Nat.le_of_ble_eq_true rfl) (⟨by decide, by decide, by decide, by decide⟩) ?_
            rintro v nx' I1 J1 P' ⟨rfl, rfl, rfl, q1, q2, q3⟩
            have y1 := q3.2.2.2.2.1 cn (by omega)
            refine g_iload dX11_burns_68 rfl ?_
            refine g_iconst (v := nI 1) dX11_burns_70 (by decide) ?_
            refine n_icmp_ne 84 dX11_burns_71 (by decide) (by first | ((with_reducible apply cN_eq) <;> omega) | ((with_reducible apply cI_eqn) <;> omega) | exact Iff.rfl) (fun c71 => ?_) (fun c71 => by exfalso; first | omega | exact absurd trivial c71 | exact c71 | (simp at c71))
            refine g_aload dX11_burns_84 rfl ?_
            refine g_getP dX11_burns_86 fdX11_199 rfl (s0) (by omega) (by omega) (by decide) rfl (p11) ?_
            refine g_iload_n dX11_burns_89 rfl ?_
            refine n_iald dX11_burns_90 (s2) (by omega) (by omega) (by decide) (rfl) (by omega) (by repeat (first | exact y1 | (apply rd_s; done) | apply rd_n (by omega) | apply rp_s | apply rp_n (by omega) | (apply rdL_s; done) | apply rdL_n (by omega) | apply rpJ_s | apply rpJ_n (by omega) | rfl)) ?_
            exact g_iret dX11_burns_91 rfl (⟨rfl, rfl, rfl, q1, q2.q (fad_ok (by omega))⟩)
          · skip
            refine g_aload_n dX11_burns_38 rfl ?_
            refine g_getP dX11_burns_39 fdX11_41 rfl (by first | rfl | exact pv_shx) (by omega) (by omega) (by decide) rfl (hP _ _ _ rfl) ?_
            refine g_iload_n dX11_burns_42 rfl ?_
            refine g_aald _ dX11_burns_43 (by first | exact Or.inl rfl | exact Or.inr rfl) (by omega) (by omega) (by decide) (rfl) (by omega) (fires_P hP (by omega)) ?_
            refine g_astore dX11_burns_44 (by decide) rfl ?_
            refine g_iload dX11_burns_46 rfl ?_
            refine g_iconst (v := nI 1) dX11_burns_48 (by decide) ?_
            refine n_icmp_eq 58 dX11_burns_49 (by decide) (by first | ((with_reducible apply cN_eq) <;> omega) | ((with_reducible apply cI_eqn) <;> omega) | exact Iff.rfl) (fun c49 => by exfalso; first | omega | exact absurd trivial c49 | exact c49 | (simp at c49)) (fun c49 => ?_)
            refine g_iload dX11_burns_52 rfl ?_
            refine g_iconst (v := nI 2) dX11_burns_54 (by decide) ?_
            refine n_icmp_ne 92 dX11_burns_55 (by decide) (by first | ((with_reducible apply cN_eq) <;> omega) | ((with_reducible apply cI_eqn) <;> omega) | exact Iff.rfl) (fun c55 => ?_) (fun c55 => by exfalso; first | omega | exact absurd trivial c55 | exact c55 | (simp at c55))
            refine g_aload dX11_burns_92 rfl ?_
            refine g_aload_n dX11_burns_94 rfl ?_
            refine g_getP dX11_burns_95 fdX11_32 rfl (by first | rfl | exact pv_shx) (by omega) (by omega) (by decide) rfl (hP _ _ _ rfl) ?_
            refine g_iload_n dX11_burns_98 rfl ?_
            refine g_callV (lk) okX1_lookAt lkX11_202 rfl (s0) rfl (by omega) (by omega) dX11_burns_99 rfl (Nat.le_of_ble_eq_true rfl) (⟨by decide, by decide, by decide, by decide⟩) ?_
            rintro v nx' I1 J1 P' ⟨rfl, rfl, rfl, q1, q2, sv, q3, q4⟩
            obtain ⟨h8, hE, hB, hw, -⟩ := q1.st hsn
            have ai := f_air (F := fad sn) (m := mn) (wl := 0) (wo := none) (b := fwk w h a 0 none sn mn) (wal := fun _ => false) hP (fad_ok (by omega)) hw hi.1.1 hi.1.2.2.2.2.1 hE.2.2.1 (by omega) hB.2.2.1 hE.2.2.2.2.2.1 hE.2.2.2.2.2.2 hB.2.2.2 walOk0 (q4.2.2.1 mn (by omega)).2.1 (fun c hc z => by have := ((hI c).2.2.2.2.2 hc).1; omega)
            have h1 := t_hasM (nx := 224) (k := cn) (f := fun c => decide (c < w * h) && fair w h a 0 none mn (fwk w h a 0 none sn mn) c) (I := I1) (J := J1) (P := P') (by omega)
            simp only [decide_eq_true hcn, Bool.true_and] at h1
            rw [if_neg (by decide), if_neg (by decide), if_neg (by decide)]
            by_cases e : fair w h a 0 none mn (fwk w h a 0 none sn mn) cn = true
            · rw [if_pos e] at h1
              rw [if_pos e]
              refine g_iload dX11_burns_102 rfl ?_
              refine g_iconst (v := nI 3) dX11_burns_104 (by decide) ?_
              refine n_icmp_ne 131 dX11_burns_105 (by decide) (by first | ((with_reducible apply cN_eq) <;> omega) | ((with_reducible apply cI_eqn) <;> omega) | exact Iff.rfl) (fun c105 => by exfalso; first | omega | exact absurd trivial c105 | exact c105 | (simp at c105)) (fun c105 => ?_)
              refine g_aload dX11_burns_108 rfl ?_
              refine g_aload_n dX11_burns_110 rfl ?_
              refine g_getP dX11_burns_111 fdX11_32 rfl (by first | rfl | exact pv_shx) (by omega) (by omega) (by decide) rfl (hP _ _ _ rfl) ?_
              refine g_iload_n dX11_burns_114 rfl ?_
              refine p_callV (ai) okX1_air lkX11_205 rfl (s0) rfl (by omega) (by omega) dX11_burns_115 rfl (Nat.le_of_ble_eq_true rfl) (⟨by decide, by decide, by decide, by decide⟩) ?_
              refine g_iload_n dX11_burns_118 rfl ?_
              refine p_callS (h1) okX11_has lkX11_209 rfl dX11_burns_119 rfl (Nat.le_of_ble_eq_true rfl) (⟨by decide, by decide, by decide, by decide⟩) ?_
              refine n_if_eq 129 dX11_burns_122 (by decide) (by first | (with_reducible exact cB _) | ((with_reducible apply cN_eq0) <;> omega) | exact Iff.rfl) (fun c122 => by exfalso; first | omega | exact absurd trivial c122 | exact c122 | (simp at c122)) (fun c122 => ?_)
              refine g_iconst (v := nI 1) dX11_burns_125 (by decide) ?_
              refine g_goto 130 dX11_burns_126 (by decide) ?_
              exact g_iret dX11_burns_130 rfl (⟨rfl, rfl, rfl, q1, q2.q (fad_ok (by omega))⟩)
            · rw [if_neg e] at h1
              rw [if_neg e]
              refine g_iload dX11_burns_102 rfl ?_
              refine g_iconst (v := nI 3) dX11_burns_104 (by decide) ?_
              refine n_icmp_ne 131 dX11_burns_105 (by decide) (by first | ((with_reducible apply cN_eq) <;> omega) | ((with_reducible apply cI_eqn) <;> omega) | exact Iff.rfl) (fun c105 => by exfalso; first | omega | exact absurd trivial c105 | exact c105 | (simp at c105)) (fun c105 => ?_)
              refine g_aload dX11_burns_108 rfl ?_
              refine g_aload_n dX11_burns_110 rfl ?_
              refine g_getP dX11_burns_111 fdX11_32 rfl (by first | rfl | exact pv_shx) (by omega) (by omega) (by decide) rfl (hP _ _ _ rfl) ?_
              refine g_iload_n dX11_burns_114 rfl ?_
              refine p_callV (ai) okX1_air lkX11_205 rfl (s0) rfl (by omega) (by omega) dX11_burns_115 rfl (Nat.le_of_ble_eq_true rfl) (⟨by decide, by decide, by decide, by decide⟩) ?_
              refine g_iload_n dX11_burns_118 rfl ?_
              refine p_callS (h1) okX11_has lkX11_209 rfl dX11_burns_119 rfl (Nat.le_of_ble_eq_true rfl) (⟨by decide, by decide, by decide, by decide⟩) ?_
              refine n_if_eq 129 dX11_burns_122 (by decide) (by first | (with_reducible exact cB _) | ((with_reducible apply cN_eq0) <;> omega) | exact Iff.rfl) (fun c122 => ?_) (fun c122 => by exfalso; first | omega | exact absurd trivial c122 | exact c122 | (simp at c122))
              refine g_iconst (v := nI 0) dX11_burns_129 (by decide) ?_
              exact g_iret dX11_burns_130 rfl (⟨rfl, rfl, rfl, q1, q2.q (fad_ok (by omega))⟩)
        · rw [if_neg hx] at ix
          refine pvMet.of _ (by decide) rfl (Nat.le_of_ble_eq_true rfl) ?_
          refine g_aload_n dX11_burns_0 rfl ?_
          refine g_iload_n dX11_burns_1 rfl ?_
          refine p_callV (hs) okX11_hasState lkX11_189 rfl (by first | rfl | exact pv_shx) rfl (by omega) (by omega) dX11_burns_2 rfl (Nat.le_of_ble_eq_true rfl) (⟨by decide, by decide, by decide, by decide⟩) ?_
          refine n_if_eq 36 dX11_burns_5 (by decide) (by first | (with_reducible exact cB _) | ((with_reducible apply cN_eq0) <;> omega) | exact Iff.rfl) (fun c5 => by exfalso; first | omega | exact absurd trivial c5 | exact c5 | (simp at c5)) (fun c5 => ?_)
          refine g_iload_n dX11_burns_8 rfl ?_
          refine p_callS (iw) okX11_isWeek lkX11_160 rfl dX11_burns_9 rfl (Nat.le_of_ble_eq_true rfl) (⟨by decide, by decide, by decide, by decide⟩) ?_
          refine n_if_eq 36 dX11_burns_12 (by decide) (by first | (with_reducible exact cB _) | ((with_reducible apply cN_eq0) <;> omega) | exact Iff.rfl) (fun c12 => by exfalso; first | omega | exact absurd trivial c12 | exact c12 | (simp at c12)) (fun c12 => ?_)
          refine g_aload_n dX11_burns_15 rfl ?_
          refine g_getP dX11_burns_16 fdX11_21 rfl (by first | rfl | exact pv_shx) (by omega) (by omega) (by decide) rfl (hP _ _ _ rfl) ?_
          refine g_iload_n dX11_burns_19 rfl ?_
          refine p_callV (ih) okX2_has lkX11_81 rfl (by first | rfl | exact pv_shx) rfl (by omega) (by omega) dX11_burns_20 rfl (Nat.le_of_ble_eq_true rfl) (⟨by decide, by decide, by decide, by decide⟩) ?_
          refine n_if_eq 36 dX11_burns_23 (by decide) (by first | (with_reducible exact cB _) | ((with_reducible apply cN_eq0) <;> omega) | exact Iff.rfl) (fun c23 => by exfalso; first | omega | exact absurd trivial c23 | exact c23 | (simp at c23)) (fun c23 => ?_)
          refine g_iload dX11_burns_26 rfl ?_
          refine g_iconst (v := nI 0) dX11_burns_28 (by decide) ?_
          refine g_iconst (v := nI 3) dX11_burns_29 (by decide) ?_
          refine p_callS (ix) okX11_within lkX11_85 rfl dX11_burns_30 rfl (Nat.le_of_ble_eq_true rfl) (⟨by decide, by decide, by decide, by decide⟩) ?_
          refine n_if_ne 38 dX11_burns_33 (by decide) (by first | (with_reducible exact cB _) | ((with_reducible apply cN_eq0) <;> omega) | exact Iff.rfl) (fun c33 => by exfalso; first | omega | exact absurd trivial c33 | exact c33 | (simp at c33)) (fun c33 => ?_)
          refine g_iconst (v := (-1)) dX11_burns_36 (by decide) ?_
          exact g_iret dX11_burns_37 rfl (⟨rfl, rfl, by rw [sp_burns, if_neg (fun z => hx z.2.2.2)], hb, qF.rf⟩)
      · rw [if_neg hc] at ih
        refine pvMet.of _ (by decide) rfl (Nat.le_of_ble_eq_true rfl) ?_
        refine g_aload_n dX11_burns_0 rfl ?_
        refine g_iload_n dX11_burns_1 rfl ?_
        refine p_callV (hs) okX11_hasState lkX11_189 rfl (by first | rfl | exact pv_shx) rfl (by omega) (by omega) dX11_burns_2 rfl (Nat.le_of_ble_eq_true rfl) (⟨by decide, by decide, by decide, by decide⟩) ?_
        refine n_if_eq 36 dX11_burns_5 (by decide) (by first | (with_reducible exact cB _) | ((with_reducible apply cN_eq0) <;> omega) | exact Iff.rfl) (fun c5 => by exfalso; first | omega | exact absurd trivial c5 | exact c5 | (simp at c5)) (fun c5 => ?_)
        refine g_iload_n dX11_burns_8 rfl ?_
        refine p_callS (iw) okX11_isWeek lkX11_160 rfl dX11_burns_9 rfl (Nat.le_of_ble_eq_true rfl) (⟨by decide, by decide, by decide, by decide⟩) ?_
        refine n_if_eq 36 dX11_burns_12 (by decide) (by first | (with_reducible exact cB _) | ((with_reducible apply cN_eq0) <;> omega) | exact Iff.rfl) (fun c12 => by exfalso; first | omega | exact absurd trivial c12 | exact c12 | (simp at c12)) (fun c12 => ?_)
        refine g_aload_n dX11_burns_15 rfl ?_
        refine g_getP dX11_burns_16 fdX11_21 rfl (by first | rfl | exact pv_shx) (by omega) (by omega) (by decide) rfl (hP _ _ _ rfl) ?_
        refine g_iload_n dX11_burns_19 rfl ?_
        refine p_callV (ih) okX2_has lkX11_81 rfl (by first | rfl | exact pv_shx) rfl (by omega) (by omega) dX11_burns_20 rfl (Nat.le_of_ble_eq_true rfl) (⟨by decide, by decide, by decide, by decide⟩) ?_
        refine n_if_eq 36 dX11_burns_23 (by decide) (by first | (with_reducible exact cB _) | ((with_reducible apply cN_eq0) <;> omega) | exact Iff.rfl) (fun c23 => ?_) (fun c23 => by exfalso; first | omega | exact absurd trivial c23 | exact c23 | (simp at c23))
        refine g_iconst (v := (-1)) dX11_burns_36 (by decide) ?_
        exact g_iret dX11_burns_37 rfl (⟨rfl, rfl, by rw [sp_burns, if_neg (fun z => hc z.2.2.1)], hb, qF.rf⟩)
    · rw [if_neg hm] at iw
      refine pvMet.of _ (by decide) rfl (Nat.le_of_ble_eq_true rfl) ?_
      refine g_aload_n dX11_burns_0 rfl ?_
      refine g_iload_n dX11_burns_1 rfl ?_
      refine p_callV (hs) okX11_hasState lkX11_189 rfl (by first | rfl | exact pv_shx) rfl (by omega) (by omega) dX11_burns_2 rfl (Nat.le_of_ble_eq_true rfl) (⟨by decide, by decide, by decide, by decide⟩) ?_
      refine n_if_eq 36 dX11_burns_5 (by decide) (by first | (with_reducible exact cB _) | ((with_reducible apply cN_eq0) <;> omega) | exact Iff.rfl) (fun c5 => by exfalso; first | omega | exact absurd trivial c5 | exact c5 | (simp at c5)) (fun c5 => ?_)
      refine g_iload_n dX11_burns_8 rfl ?_
      refine p_callS (iw) okX11_isWeek lkX11_160 rfl dX11_burns_9 rfl (Nat.le_of_ble_eq_true rfl) (⟨by decide, by decide, by decide, by decide⟩) ?_
      refine n_if_eq 36 dX11_burns_12 (by decide) (by first | (with_reducible exact cB _) | ((with_reducible apply cN_eq0) <;> omega) | exact Iff.rfl) (fun c12 => ?_) (fun c12 => by exfalso; first | omega | exact absurd trivial c12 | exact c12 | (simp at c12))
      refine g_iconst (v := (-1)) dX11_burns_36 (by decide) ?_
      exact g_iret dX11_burns_37 rfl (⟨rfl, rfl, by rw [sp_burns, if_neg (fun z => hm z.2.1)], hb, qF.rf⟩)
  · rw [if_neg c1] at hs
    refine pvMet.of _ (by decide) rfl (Nat.le_of_ble_eq_true rfl) ?_
    refine g_aload_n dX11_burns_0 rfl ?_
    refine g_iload_n dX11_burns_1 rfl ?_
    refine p_callV (hs) okX11_hasState lkX11_189 rfl (by first | rfl | exact pv_shx) rfl (by omega) (by omega) dX11_burns_2 rfl (Nat.le_of_ble_eq_true rfl) (⟨by decide, by decide, by decide, by decide⟩) ?_
    refine n_if_eq 36 dX11_burns_5 (by decide) (by first | (with_reducible exact cB _) | ((with_reducible apply cN_eq0) <;> omega) | exact Iff.rfl) (fun c5 => ?_) (fun c5 => by exfalso; first | omega | exact absurd trivial c5 | exact c5 | (simp at c5))
    refine g_iconst (v := (-1)) dX11_burns_36 (by decide) ?_
    exact g_iret dX11_burns_37 rfl (⟨rfl, rfl, by rw [sp_burns, if_neg (fun z => c1 z.1)], hb, qF.rf⟩)
end AS2
