/-! class: in time -/
theorem ltm_bit {w h : Nat} {a : Nat → Int32} {m L t : Nat} {nw : Nat → Nat} : ∀ T, (ltm w h a m nw L T).testBit t = (L.testBit t || (decide (t < T) && anyB (hitB w h a m nw t) (tr_n a t)))
  | 0 => by
    show L.testBit t = _
    simp
  | T + 1 => by
    show (ltm w h a m nw L T ||| (if anyB (hitB w h a m nw T) (tr_n a T) = true then 2 ^ T else 0)).testBit t = _
    rw [Nat.testBit_or, ltm_bit T]
    by_cases e : T = t
    · subst e
      rw [decide_eq_false (Nat.lt_irrefl T), decide_eq_true (Nat.lt_succ_self T), Bool.false_and, Bool.or_false, Bool.true_and]
      by_cases z : anyB (hitB w h a m nw T) (tr_n a T) = true
      · rw [if_pos z, z, Nat.testBit_two_pow_self]
      · rw [if_neg z, Nat.zero_testBit, Bool.eq_false_iff.mpr z]
    · have hb : (if anyB (hitB w h a m nw T) (tr_n a T) = true then 2 ^ T else 0).testBit t = false := by
        split
        · exact Nat.testBit_two_pow_of_ne e
        · exact Nat.zero_testBit t
      rw [hb, Bool.or_false]
      have : decide (t < T) = decide (t < T + 1) := decide_eq_decide.mpr (by omega)
      rw [this]
theorem flate_bit {w h : Nat} {a : Nat → Int32} {s t : Nat} (ht : t < cnt a 2) : ∀ n, (flate w h a 0 none s n).testBit t = true ↔ ∃ m, m < n ∧ ∃ i, i < tr_n a t ∧ hitB w h a m (nw1 a s m (fraw w h a 0 none s m).2.1 (cuB w h a m) (fraw w h a 0 none s m).1) t i = true
  | 0 => ⟨fun z => (by rw [show flate w h a 0 none s 0 = 0 from rfl, Nat.zero_testBit] at z; cases z), fun ⟨m, hm, _⟩ => absurd hm (Nat.not_lt_zero m)⟩
  | n + 1 => by
    show (ltm w h a n _ (flate w h a 0 none s n) (cnt a 2)).testBit t = true ↔ _
    rw [ltm_bit, Bool.or_eq_true, flate_bit ht n, decide_eq_true ht, Bool.true_and, anyB_iff]
    constructor
    · rintro (⟨m, hm, z⟩ | z)
      · exact ⟨m, by omega, z⟩
      · exact ⟨n, by omega, z⟩
    · rintro ⟨m, hm, z⟩
      by_cases e : m = n
      · subst e; exact Or.inr z
      · exact Or.inl ⟨m, by omega, z⟩
/-- the fire met the i-th cell of a trench ahead of the cut -/
def lateI (w h : Nat) (a : Nat → Int32) (s t i : Nat) : Bool := decide (tr_w a t i < 100) && (match tr_c w h a t i with
  | some y => metB w h a 0 none s (tr_w a t i) y
  | none => false)
theorem lateN_iff {w h : Nat} {a : Nat → Int32} {s t : Nat} (ht : t < cnt a 2) : lateN w h a s t = 1 ↔ anyB (lateI w h a s t) (tr_n a t) = true := by
  have h1 : lateN w h a s t = 1 ↔ (flate w h a 0 none s 100).testBit t = true := by
    rw [Nat.testBit_eq_decide_div_mod_eq, decide_eq_true_iff]
    exact Iff.rfl
  rw [h1, flate_bit ht, anyB_iff]
  have key : ∀ m i, m < 100 → (hitB w h a m (nw1 a s m (fraw w h a 0 none s m).2.1 (cuB w h a m) (fraw w h a 0 none s m).1) t i = true ↔ (tr_w a t i = m ∧ lateI w h a s t i = true)) := by
    intro m i hm
    unfold hitB lateI
    rw [Bool.and_eq_true, Bool.and_eq_true, decide_eq_true_iff, decide_eq_true_iff]
    constructor
    · rintro ⟨e, z⟩
      subst e
      refine ⟨rfl, hm, ?_⟩
      cases hy : tr_c w h a t i with
      | none => rw [hy] at z; exact z
      | some y => rw [hy] at z; exact z
    · rintro ⟨e, -, z⟩
      subst e
      refine ⟨rfl, ?_⟩
      cases hy : tr_c w h a t i with
      | none => rw [hy] at z; exact z
      | some y => rw [hy] at z; exact z
  constructor
  · rintro ⟨m, hm, i, hi, z⟩
    exact ⟨i, hi, ((key m i hm).mp z).2⟩
  · rintro ⟨i, hi, z⟩
    have hl : tr_w a t i < 100 := by
      unfold lateI at z
      rw [Bool.and_eq_true, decide_eq_true_iff] at z
      exact z.1
    exact ⟨tr_w a t i, hl, i, hi, (key _ i hl).mpr ⟨rfl, z⟩⟩
theorem lateN_lt {w h : Nat} {a : Nat → Int32} {s t : Nat} : lateN w h a s t < 2 := Nat.mod_lt _ (by decide)
theorem stp_nb {w h c d y : Nat} (hd : d < 4) (hy : sp_nb w h c d = some y) : nI c + stpI w d = nI y := by
  rcases (show d = 0 ∨ d = 1 ∨ d = 2 ∨ d = 3 by omega) with rfl | rfl | rfl | rfl
  · rw [sp_nb0] at hy
    by_cases z : c % w + 1 < w
    · rw [if_pos z] at hy; cases hy
      exact nI_add c 1
    · rw [if_neg z] at hy; cases hy
  · rw [sp_nb1] at hy
    by_cases z : 0 < c % w
    · rw [if_pos z] at hy; cases hy
      show nI c + -nI 1 = _
      have : c % w ≤ c := Nat.mod_le _ _
      rw [← Int32.sub_eq_add_neg, pk_sub (by omega)]
    · rw [if_neg z] at hy; cases hy
  · rw [sp_nb2] at hy
    by_cases z : c / w + 1 < h
    · rw [if_pos z] at hy; cases hy
      exact nI_add c w
    · rw [if_neg z] at hy; cases hy
  · rw [sp_nb3] at hy
    by_cases z : 0 < c / w
    · rw [if_pos z] at hy; cases hy
      show nI c + -nI w = _
      have : w ≤ c := by
        rcases Nat.lt_or_ge c w with q | q
        · rw [Nat.div_eq_of_lt q] at z; omega
        · exact q
      rw [← Int32.sub_eq_add_neg, pk_sub this]
    · rw [if_neg z] at hy; cases hy
theorem stp_go {w h d c : Nat} (hd : d < 4) : ∀ i y, sp_go w h d i c = some y → nI c + stpI w d * nI i = nI y
  | 0, y, hy => by
    cases hy
    rw [show (nI 0 : Int32) = 0 from rfl, Int32.mul_zero, Int32.add_zero]
  | i + 1, y, hy => by
    obtain ⟨x, h1, h2⟩ := Option.bind_eq_some_iff.mp hy
    have ih := stp_go hd i x h1
    rw [← nI_add i 1, Int32.mul_add, ← Int32.add_assoc, ih, show (nI 1 : Int32) = 1 from rfl, Int32.mul_one]
    exact stp_nb hd h2
section CIT
variable {w h : Nat} {a : Nat → Int32} {I : pvI} {J : pvJ} {P : pvP}
theorem kB.tr {t : Nat} (hb : kB w h a I J) (ht : t < cnt a 2) : t < 10 ∧ I 14 t = nI (cnt a (210 + 5 * t)) ∧ I 15 t = stpI w (cnt a (210 + 5 * t + 1)) ∧ I 16 t = nI (tr_n a t) ∧ I 17 t = nI (cnt a (210 + 5 * t + 3)) ∧ I 18 t = nI (cnt a (210 + 5 * t + 4)) := by
  obtain ⟨e1, e2, e3, e4, e5, -⟩ := mTr hb.2.2.2.2.1.2.2.2.1 hb.1.wh.2 ht
  obtain ⟨x1, x2, x3, x4, x5⟩ := hb.2.1.2.2.1.2.2.2.2.1 t ht
  have := (mG_eq hb.2.2.2.2.1.1 (i := 2) (by decide)).2.1
  have : sp_lim 2 = 10 := rfl
  exact ⟨by omega, x1.trans e1, x2, x3.trans e3, x4.trans e4, x5.trans e5⟩
theorem c_weekOfCut {t i : Nat} (hP : pvOkP P) (hb : kB w h a I J) (ht : t < cnt a 2) (hi : i ≤ 8) : pvMet mX9_weekOfCut 1 0 0 [.ref 9, .int (nI t), .int (nI i)] 224 I J P (pvpu (.int (nI (tr_w a t i))) 224 I J P) := by
  obtain ⟨t10, x1, x2, x3, x4, x5⟩ := hb.tr ht
  obtain ⟨-, -, -, -, -, h1, h2, h3, h4, h5, h6⟩ := mTr hb.2.2.2.2.1.2.2.2.1 hb.1.wh.2 ht
  have hdv : i / cnt a (210 + 5 * t + 3) ≤ i := Nat.div_le_self _ _
  unfold tr_w
  refine pvMet.of _ (by decide) rfl (Nat.le_of_ble_eq_true rfl) ?_
  refine g_aload_n dX9_weekOfCut_0 rfl ?_
  refine g_getP dX9_weekOfCut_1 fdX9_37 rfl (by first | rfl | exact pv_shx) (by omega) (by omega) (by decide) rfl (hP _ _ _ rfl) ?_
  refine g_iload_n dX9_weekOfCut_4 rfl ?_
  refine n_iald dX9_weekOfCut_5 (by first | rfl | exact pv_shx) (by omega) (by omega) (by decide) (rfl) (by omega) (by repeat (first | exact x4 | exact x5 | (apply rd_s; done) | apply rd_n (by omega) | apply rp_s | apply rp_n (by omega) | (apply rdL_s; done) | apply rdL_n (by omega) | apply rpJ_s | apply rpJ_n (by omega) | rfl)) ?_
  refine g_iload_n dX9_weekOfCut_6 rfl ?_
  refine g_iconst (v := nI 1) dX9_weekOfCut_7 (by decide) ?_
  refine g_aload_n dX9_weekOfCut_8 rfl ?_
  refine g_getP dX9_weekOfCut_9 fdX9_34 rfl (by first | rfl | exact pv_shx) (by omega) (by omega) (by decide) rfl (hP _ _ _ rfl) ?_
  refine g_iload_n dX9_weekOfCut_12 rfl ?_
  refine n_iald dX9_weekOfCut_13 (by first | rfl | exact pv_shx) (by omega) (by omega) (by decide) (rfl) (by omega) (by repeat (first | exact x4 | exact x5 | (apply rd_s; done) | apply rd_n (by omega) | apply rp_s | apply rp_n (by omega) | (apply rdL_s; done) | apply rdL_n (by omega) | apply rpJ_s | apply rpJ_n (by omega) | rfl)) ?_
  refine g_mmax dX9_weekOfCut_14 lkX9_75 (by decide) (Nat.le_of_ble_eq_true rfl) (by decide) (by decide) ((mm_max (by omega) (by omega)).trans (by rw [show max 1 (cnt a (210 + 5 * t + 3)) = cnt a (210 + 5 * t + 3) by omega])) ?_
  refine n_idiv dX9_weekOfCut_17 (by first | decide | ((with_reducible apply nI_ne0) <;> omega)) (by first | ((with_reducible apply pk_div) <;> omega) | rfl) ?_
  refine n_iadd dX9_weekOfCut_18 (by first | (with_reducible exact nI_add _ _) | rfl) ?_
  exact g_iret dX9_weekOfCut_19 rfl (⟨rfl, rfl, rfl, rfl, rfl⟩)
theorem c_cellOfCut {t i y : Nat} (hP : pvOkP P) (hb : kB w h a I J) (ht : t < cnt a 2) (hy : tr_c w h a t i = some y) : pvMet mX9_cellOfCut 0 0 0 [.ref 9, .int (nI t), .int (nI i)] 224 I J P (pvpu (.int (nI y)) 224 I J P) := by
  obtain ⟨t10, x1, x2, x3, x4, x5⟩ := hb.tr ht
  obtain ⟨-, -, -, -, -, h1, h2, h3, h4, h5, h6⟩ := mTr hb.2.2.2.2.1.2.2.2.1 hb.1.wh.2 ht
  have e := stp_go h2 i y hy
  refine pvMet.of _ (by decide) rfl (Nat.le_of_ble_eq_true rfl) ?_
  refine g_aload_n dX9_cellOfCut_0 rfl ?_
  refine g_getP dX9_cellOfCut_1 fdX9_25 rfl (by first | rfl | exact pv_shx) (by omega) (by omega) (by decide) rfl (hP _ _ _ rfl) ?_
  refine g_iload_n dX9_cellOfCut_4 rfl ?_
  refine n_iald dX9_cellOfCut_5 (by first | rfl | exact pv_shx) (by omega) (by omega) (by decide) (rfl) (by omega) (by repeat (first | exact x1 | exact x2 | (apply rd_s; done) | apply rd_n (by omega) | apply rp_s | apply rp_n (by omega) | (apply rdL_s; done) | apply rdL_n (by omega) | apply rpJ_s | apply rpJ_n (by omega) | rfl)) ?_
  refine g_aload_n dX9_cellOfCut_6 rfl ?_
  refine g_getP dX9_cellOfCut_7 fdX9_28 rfl (by first | rfl | exact pv_shx) (by omega) (by omega) (by decide) rfl (hP _ _ _ rfl) ?_
  refine g_iload_n dX9_cellOfCut_10 rfl ?_
  refine n_iald dX9_cellOfCut_11 (by first | rfl | exact pv_shx) (by omega) (by omega) (by decide) (rfl) (by omega) (by repeat (first | exact x1 | exact x2 | (apply rd_s; done) | apply rd_n (by omega) | apply rp_s | apply rp_n (by omega) | (apply rdL_s; done) | apply rdL_n (by omega) | apply rpJ_s | apply rpJ_n (by omega) | rfl)) ?_
  refine g_iload_n dX9_cellOfCut_12 rfl ?_
  refine n_imul dX9_cellOfCut_13 (rfl) ?_
  refine n_iadd dX9_cellOfCut_14 (e) ?_
  exact g_iret dX9_cellOfCut_15 rfl (⟨rfl, rfl, rfl, rfl, rfl⟩)
def citQ (w h : Nat) (a : Nat → Int32) (s t : Nat) (I : pvI) (J : pvJ) (P : pvP) : pvQT := pvq P (fun v I' J' => v = some (.int (if anyB (lateI w h a s t) (tr_n a t) = true then 0 else 1)) ∧ kB w h a I' J' ∧ fFr (fad s) I J I' J')
theorem c_cutsInTime {s t : Nat} (hP : pvOkP P) (hb : kB w h a I J) (hs : s < cnt a 3) (ht : t < cnt a 2) : pvMet mX11_cutsInTime 6 0 0 [.ref 1, .int (nI t), .ref (fad s)] 224 I J P (citQ w h a s t I J P) := by
  obtain ⟨-, -, -, -, -, h1, h2, h3, h4, h5, h6⟩ := mTr hb.2.2.2.2.1.2.2.2.1 hb.1.wh.2 ht
  have hwh := hb.1.wh
  have hw0 := hb.1.2.2.2.2.2.2.1
  obtain ⟨n3, -⟩ := hb.n3
  have bs := fad_lt (show s < 8 by omega)
  obtain ⟨⟨s0, s1, s2, s3, s4, s5⟩, -⟩ := (fad_ok (show s < 9 by omega)).sh
  obtain ⟨p10, p11, p12, p13, p14⟩ := (fad_ok (show s < 9 by omega)).pp hP
  have lp : ∀ q i I1 J1, i + q = tr_n a t → kB w h a I1 J1 → fFr (fad s) I J I1 J1 → anyB (lateI w h a s t) i = false → pvG mX11_cutsInTime (pvR 6 0 0) (pvZ (citQ w h a s t I J P) 0 0) 11 [.ref 1, .int (nI t), .ref (fad s), .ref 9, .int (nI i), .retAddr 0] [] 0 0 224 I1 J1 P := by
    intro q
    induction q with
    | zero =>
      intro i I1 J1 hi hb1 hr ha
      obtain rfl : i = tr_n a t := by omega
      obtain ⟨t10, x1, x2, x3, x4, x5⟩ := hb1.tr ht
      refine g_iload dX11_cutsInTime_11 rfl ?_
      refine g_aload_n dX11_cutsInTime_13 rfl ?_
      refine g_getP dX11_cutsInTime_14 fdX11_434 rfl (by first | rfl | exact pv_shx) (by omega) (by omega) (by decide) rfl (hP _ _ _ rfl) ?_
      refine g_iload_n dX11_cutsInTime_17 rfl ?_
      refine n_iald dX11_cutsInTime_18 (by first | rfl | exact pv_shx) (by omega) (by omega) (by decide) (rfl) (by omega) (by repeat (first | exact x3 | (apply rd_s; done) | apply rd_n (by omega) | apply rp_s | apply rp_n (by omega) | (apply rdL_s; done) | apply rdL_n (by omega) | apply rpJ_s | apply rpJ_n (by omega) | rfl)) ?_
      refine n_icmp_ge 76 dX11_cutsInTime_19 (by decide) (by first | ((with_reducible apply cN_le) <;> omega) | ((with_reducible apply cI_len) <;> omega) | ((with_reducible apply cI_nle) <;> omega) | (with_reducible exact cI_le)) (fun c19 => ?_) (fun c19 => by exfalso; first | omega | exact absurd trivial c19 | exact c19 | (simp at c19))
      refine g_iconst (v := nI 1) dX11_cutsInTime_76 (by decide) ?_
      exact g_zret (by first | exact Or.inl rfl | exact Or.inr rfl | exact cB01 _) dX11_cutsInTime_77 rfl (⟨rfl, rfl, by rw [ha]; rfl, hb1, hr⟩)
    | succ q ih =>
      intro i I1 J1 hi hb1 hr ha
      obtain ⟨t10, x1, x2, x3, x4, x5⟩ := hb1.tr ht
      have wk := c_weekOfCut (i := i) hP hb1 ht (by omega)
      obtain ⟨y, hy⟩ := tr_c_some h6 (i := i) (by omega)
      have hyl : y < w * h := sp_go_lt (by omega) h1 hy
      have hdv : i / cnt a (210 + 5 * t + 3) ≤ i := Nat.div_le_self _ _
      have hle : tr_w a t i ≤ 110 := by unfold tr_w; omega
      have hs1 : anyB (lateI w h a s t) (i + 1) = (anyB (lateI w h a s t) i || lateI w h a s t i) := rfl
      have hl : lateI w h a s t i = (decide (tr_w a t i < 100) && metB w h a 0 none s (tr_w a t i) y) := by unfold lateI; rw [hy]
      generalize tr_w a t i = wn at *
      by_cases c1 : wn < 100
      · have lk := c_look (g := wn) hP hb1 (s := s) hs (by omega)
        refine g_iload dX11_cutsInTime_11 rfl ?_
        refine g_aload_n dX11_cutsInTime_13 rfl ?_
        refine g_getP dX11_cutsInTime_14 fdX11_434 rfl (by first | rfl | exact pv_shx) (by omega) (by omega) (by decide) rfl (hP _ _ _ rfl) ?_
        refine g_iload_n dX11_cutsInTime_17 rfl ?_
        refine n_iald dX11_cutsInTime_18 (by first | rfl | exact pv_shx) (by omega) (by omega) (by decide) (rfl) (by omega) (by repeat (first | exact x3 | (apply rd_s; done) | apply rd_n (by omega) | apply rp_s | apply rp_n (by omega) | (apply rdL_s; done) | apply rdL_n (by omega) | apply rpJ_s | apply rpJ_n (by omega) | rfl)) ?_
        refine n_icmp_ge 76 dX11_cutsInTime_19 (by decide) (by first | ((with_reducible apply cN_le) <;> omega) | ((with_reducible apply cI_len) <;> omega) | ((with_reducible apply cI_nle) <;> omega) | (with_reducible exact cI_le)) (fun c19 => by exfalso; first | omega | exact absurd trivial c19 | exact c19 | (simp at c19)) (fun c19 => ?_)
        refine g_aload_n dX11_cutsInTime_22 rfl ?_
        refine g_iload_n dX11_cutsInTime_23 rfl ?_
        refine g_iload dX11_cutsInTime_24 rfl ?_
        refine p_callV (wk) okX9_weekOfCut lkX11_437 rfl (by first | rfl | exact pv_shx) rfl (by omega) (by omega) dX11_cutsInTime_26 rfl (Nat.le_of_ble_eq_true rfl) (⟨by decide, by decide, by decide, by decide⟩) ?_
        refine g_istore dX11_cutsInTime_29 (by decide) rfl ?_
        refine g_iload dX11_cutsInTime_31 rfl ?_
        refine g_bipush (v := nI 100) dX11_cutsInTime_33 (by decide) ?_
        refine n_icmp_ge 70 dX11_cutsInTime_35 (by decide) (by first | ((with_reducible apply cN_le) <;> omega) | ((with_reducible apply cI_len) <;> omega) | ((with_reducible apply cI_nle) <;> omega) | (with_reducible exact cI_le)) (fun c35 => by exfalso; first | omega | exact absurd trivial c35 | exact c35 | (simp at c35)) (fun c35 => ?_)
        refine g_aload_n dX11_cutsInTime_38 rfl ?_
        refine g_aload_n dX11_cutsInTime_39 rfl ?_
        refine g_getP dX11_cutsInTime_40 fdX11_32 rfl (by first | rfl | exact pv_shx) (by omega) (by omega) (by decide) rfl (hP _ _ _ rfl) ?_
        refine g_iload dX11_cutsInTime_43 rfl ?_
        refine g_callV (lk) okX1_lookAt lkX11_202 rfl (s0) rfl (by omega) (by omega) dX11_cutsInTime_45 rfl (Nat.le_of_ble_eq_true rfl) (⟨by decide, by decide, by decide, by decide⟩) ?_
        rintro v nx' I2 J2 P' ⟨rfl, rfl, rfl, q1, q2, sv, q3, q4⟩
        have ym := (q4.2.2.1 wn (by omega)).2.2
        have cc := c_cellOfCut (I := I2) (J := J2) hP q1 ht hy
        have hm := t_hasM (nx := 224) (k := y) (f := metB w h a 0 none s wn) (I := I2) (J := J2) (P := P') (by omega)
        rw [decide_eq_true c1, Bool.true_and] at hl
        by_cases c2 : metB w h a 0 none s wn y = true
        · rw [if_pos c2] at hm
          have hall : anyB (lateI w h a s t) (tr_n a t) = true := anyB_iff.mpr ⟨i, by omega, by rw [hl]; exact c2⟩
          refine g_aload_n dX11_cutsInTime_48 rfl ?_
          refine g_getP dX11_cutsInTime_49 fdX11_440 rfl (s0) (by omega) (by omega) (by decide) rfl (p14) ?_
          refine g_iload dX11_cutsInTime_52 rfl ?_
          refine n_lald dX11_cutsInTime_54 (s5) (by omega) (by omega) (by decide) (rfl) (by omega) (by repeat (first | exact ym | (apply rd_s; done) | apply rd_n (by omega) | apply rp_s | apply rp_n (by omega) | (apply rdL_s; done) | apply rdL_n (by omega) | apply rpJ_s | apply rpJ_n (by omega) | rfl)) ?_
          refine g_aload_n dX11_cutsInTime_55 rfl ?_
          refine g_iload_n dX11_cutsInTime_56 rfl ?_
          refine g_iload dX11_cutsInTime_57 rfl ?_
          refine p_callV (cc) okX9_cellOfCut lkX11_443 rfl (by first | rfl | exact pv_shx) rfl (by omega) (by omega) dX11_cutsInTime_59 rfl (Nat.le_of_ble_eq_true rfl) (⟨by decide, by decide, by decide, by decide⟩) ?_
          refine p_callS (hm) okX11_has lkX11_209 rfl dX11_cutsInTime_62 rfl (Nat.le_of_ble_eq_true rfl) (⟨by decide, by decide, by decide, by decide⟩) ?_
          refine n_if_eq 70 dX11_cutsInTime_65 (by decide) (by first | (with_reducible exact cB _) | ((with_reducible apply cN_eq0) <;> omega) | exact Iff.rfl) (fun c65 => by exfalso; first | omega | exact absurd trivial c65 | exact c65 | (simp at c65)) (fun c65 => ?_)
          refine g_iconst (v := nI 0) dX11_cutsInTime_68 (by decide) ?_
          exact g_zret (by first | exact Or.inl rfl | exact Or.inr rfl | exact cB01 _) dX11_cutsInTime_69 rfl (⟨rfl, rfl, by rw [hall]; rfl, q1, hr.tr q2⟩)
        · rw [if_neg c2] at hm
          have nx := ih (i + 1) I2 J2 (by omega) q1 (hr.tr q2) (by rw [hs1, ha, hl]; simpa using c2)
          refine g_aload_n dX11_cutsInTime_48 rfl ?_
          refine g_getP dX11_cutsInTime_49 fdX11_440 rfl (s0) (by omega) (by omega) (by decide) rfl (p14) ?_
          refine g_iload dX11_cutsInTime_52 rfl ?_
          refine n_lald dX11_cutsInTime_54 (s5) (by omega) (by omega) (by decide) (rfl) (by omega) (by repeat (first | exact ym | (apply rd_s; done) | apply rd_n (by omega) | apply rp_s | apply rp_n (by omega) | (apply rdL_s; done) | apply rdL_n (by omega) | apply rpJ_s | apply rpJ_n (by omega) | rfl)) ?_
          refine g_aload_n dX11_cutsInTime_55 rfl ?_
          refine g_iload_n dX11_cutsInTime_56 rfl ?_
          refine g_iload dX11_cutsInTime_57 rfl ?_
          refine p_callV (cc) okX9_cellOfCut lkX11_443 rfl (by first | rfl | exact pv_shx) rfl (by omega) (by omega) dX11_cutsInTime_59 rfl (Nat.le_of_ble_eq_true rfl) (⟨by decide, by decide, by decide, by decide⟩) ?_
          refine p_callS (hm) okX11_has lkX11_209 rfl dX11_cutsInTime_62 rfl (Nat.le_of_ble_eq_true rfl) (⟨by decide, by decide, by decide, by decide⟩) ?_
          refine n_if_eq 70 dX11_cutsInTime_65 (by decide) (by first | (with_reducible exact cB _) | ((with_reducible apply cN_eq0) <;> omega) | exact Iff.rfl) (fun c65 => ?_) (fun c65 => by exfalso; first | omega | exact absurd trivial c65 | exact c65 | (simp at c65))
          refine g_iinc dX11_cutsInTime_70 rfl (by first | (with_reducible exact nI_1 _) | exact nI_1 _ | exact pk_m1 _ | rfl) (by decide) rfl ?_
          refine g_goto 11 dX11_cutsInTime_73 (by decide) ?_
          exact g_drop _ (by repeat (first | exact trivial | refine ⟨Or.inr ⟨_, rfl⟩, ?_⟩ | refine ⟨Or.inl rfl, ?_⟩)) nx
      · rw [decide_eq_false c1, Bool.false_and] at hl
        have nx := ih (i + 1) I1 J1 (by omega) hb1 hr (by rw [hs1, ha, hl]; rfl)
        refine g_iload dX11_cutsInTime_11 rfl ?_
        refine g_aload_n dX11_cutsInTime_13 rfl ?_
        refine g_getP dX11_cutsInTime_14 fdX11_434 rfl (by first | rfl | exact pv_shx) (by omega) (by omega) (by decide) rfl (hP _ _ _ rfl) ?_
        refine g_iload_n dX11_cutsInTime_17 rfl ?_
        refine n_iald dX11_cutsInTime_18 (by first | rfl | exact pv_shx) (by omega) (by omega) (by decide) (rfl) (by omega) (by repeat (first | exact x3 | (apply rd_s; done) | apply rd_n (by omega) | apply rp_s | apply rp_n (by omega) | (apply rdL_s; done) | apply rdL_n (by omega) | apply rpJ_s | apply rpJ_n (by omega) | rfl)) ?_
        refine n_icmp_ge 76 dX11_cutsInTime_19 (by decide) (by first | ((with_reducible apply cN_le) <;> omega) | ((with_reducible apply cI_len) <;> omega) | ((with_reducible apply cI_nle) <;> omega) | (with_reducible exact cI_le)) (fun c19 => by exfalso; first | omega | exact absurd trivial c19 | exact c19 | (simp at c19)) (fun c19 => ?_)
        refine g_aload_n dX11_cutsInTime_22 rfl ?_
        refine g_iload_n dX11_cutsInTime_23 rfl ?_
        refine g_iload dX11_cutsInTime_24 rfl ?_
        refine p_callV (wk) okX9_weekOfCut lkX11_437 rfl (by first | rfl | exact pv_shx) rfl (by omega) (by omega) dX11_cutsInTime_26 rfl (Nat.le_of_ble_eq_true rfl) (⟨by decide, by decide, by decide, by decide⟩) ?_
        refine g_istore dX11_cutsInTime_29 (by decide) rfl ?_
        refine g_iload dX11_cutsInTime_31 rfl ?_
        refine g_bipush (v := nI 100) dX11_cutsInTime_33 (by decide) ?_
        refine n_icmp_ge 70 dX11_cutsInTime_35 (by decide) (by first | ((with_reducible apply cN_le) <;> omega) | ((with_reducible apply cI_len) <;> omega) | ((with_reducible apply cI_nle) <;> omega) | (with_reducible exact cI_le)) (fun c35 => ?_) (fun c35 => by exfalso; first | omega | exact absurd trivial c35 | exact c35 | (simp at c35))
        refine g_iinc dX11_cutsInTime_70 rfl (by first | (with_reducible exact nI_1 _) | exact nI_1 _ | exact pk_m1 _ | rfl) (by decide) rfl ?_
        refine g_goto 11 dX11_cutsInTime_73 (by decide) ?_
        exact g_drop _ (by repeat (first | exact trivial | refine ⟨Or.inr ⟨_, rfl⟩, ?_⟩ | refine ⟨Or.inl rfl, ?_⟩)) nx
  refine pvMet.of _ (by decide) rfl (Nat.le_of_ble_eq_true rfl) ?_
  refine g_aload_n dX11_cutsInTime_0 rfl ?_
  refine g_getP dX11_cutsInTime_1 fdX11_32 rfl (by first | rfl | exact pv_shx) (by omega) (by omega) (by decide) rfl (hP _ _ _ rfl) ?_
  refine g_getP dX11_cutsInTime_4 fdX11_112 rfl (by first | rfl | exact pv_shx) (by omega) (by omega) (by decide) rfl (hP _ _ _ rfl) ?_
  refine g_astore_n dX11_cutsInTime_7 (by decide) rfl ?_
  refine g_iconst (v := nI 0) dX11_cutsInTime_8 (by decide) ?_
  refine g_istore dX11_cutsInTime_9 (by decide) rfl ?_
  exact g_drop _ (by repeat (first | exact trivial | refine ⟨Or.inr ⟨_, rfl⟩, ?_⟩ | refine ⟨Or.inl rfl, ?_⟩)) (lp (tr_n a t) 0 I J (by omega) hb fFr.rf rfl)
end CIT
