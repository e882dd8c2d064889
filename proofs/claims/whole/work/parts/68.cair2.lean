/-! class: the air of a week -/
section AIR
variable {w h : Nat} {a : Nat → Int32} {wl m : Nat} {wo : Option Nat} {b : fS} {op : Nat → Bool}
theorem op_eq {wal : Nat → Bool} (hk : fHk w h a) (hb : ∀ c, w * h ≤ c → b.1 c ≠ 2) {c : Nat} (hc : c < 64) (hwal : wal c = true ↔ (cnt a 0 ≤ m ∧ wlB a wl c (cnt a 10) = true)) : ((decide (cnt a (20 + c) = 3) && !((fullB w h a m c || cutb w h a (m + 1) c) || wal c)) || mT b c) = opF a b.1 (cuB w h a (m + 1)) (fun c => if c < 64 then flw a wl (m + 1) c else 0) c := by
  unfold opF opP mT
  have hcu : cuB w h a (m + 1) c = 0 ↔ cutb w h a (m + 1) c = false := by
    unfold cuB
    by_cases z : cutb w h a (m + 1) c = true
    · rw [if_pos z, z]; simp
    · rw [if_neg z]; simp at z; simp [z]
  have e0 : (if c < 64 then flw a wl (m + 1) c else 0) = flw a wl (m + 1) c := if_pos hc
  apply bool_eq
  simp only [Bool.or_eq_true, Bool.and_eq_true, decide_eq_true_iff, Bool.not_eq_true', Bool.or_eq_false_iff]
  rw [hcu, e0]
  by_cases hcw : c < w * h
  · have hfl : (fullB w h a m c = false ∧ wal c = false) ↔ flw a wl (m + 1) c < 20 := by
      by_cases hw : cnt a 0 ≤ m ∧ wlB a wl c (cnt a 10) = true
      · rw [hwal.mpr hw, flw_20 hw]; simp
      · rw [flw_sum m hw]
        have : wal c = false := Bool.eq_false_iff.mpr (fun z => hw (hwal.mp z))
        unfold fullB
        rw [this, decide_eq_false_iff_not]
        simp
        omega
    constructor
    · rintro (⟨h1, ⟨h2, h3⟩, h4⟩ | h1)
      · exact Or.inr ⟨h1, h3, hfl.mp ⟨h2, h4⟩⟩
      · exact Or.inl h1
    · rintro (h1 | ⟨h1, h2, h3⟩)
      · exact Or.inr h1
      · exact Or.inl ⟨h1, ⟨(hfl.mpr h3).1, h2⟩, (hfl.mpr h3).2⟩
  · have h3 := hk c (by omega) hc
    constructor
    · rintro (⟨h1, -⟩ | h1)
      · exact absurd h1 h3
      · exact Or.inl h1
    · rintro (h1 | ⟨h1, -⟩)
      · exact Or.inr h1
      · exact absurd h1 h3
theorem hoB_lt (hho : mHoles (w * h) a) (hwh : w * h ≤ 64) {c : Nat} (hc : hoB a m wo c = true) : c < w * h := by
  obtain ⟨k, k1, k2⟩ := anyB_iff.mp hc
  unfold hoK at k2
  rw [Bool.and_eq_true, decide_eq_true_iff, decide_eq_true_iff] at k2
  obtain ⟨⟨x, x1, x2⟩, -⟩ := hho k k1
  rw [cnt_of x2 (by omega)] at k2
  omega
theorem airL_lt (hho : mHoles (w * h) a) (hwh : w * h ≤ 64) (hw : 0 < w) : ∀ j c, (airL w h a m wo op j).1 c = true → c < w * h
  | 0, c, hc => hoB_lt (m := m) (wo := wo) hho hwh hc
  | j + 1, c, hc => by
    obtain ⟨-, -, x, x1, x2, x3⟩ := bfs_L.mp hc
    obtain ⟨d, d1, d2⟩ := anyB_iff.mp x3
    exact sp_nb_lt hw x1 (of_decide_eq_true d2)
theorem airS_lt (hho : mHoles (w * h) a) (hwh : w * h ≤ 64) (hw : 0 < w) {j c : Nat} (hc : (airL w h a m wo op j).2 c = true) : c < w * h := by
  obtain ⟨i, -, h2⟩ := bfs_seen.mp hc
  exact airL_lt hho hwh hw i c h2
theorem airL_next {j c : Nat} : ((spr w h (airL w h a m wo op j).1 c && op c) && !(airL w h a m wo op j).2 c) = (airL w h a m wo op (j + 1)).1 c := by
  have e : (airL w h a m wo op (j + 1)).1 c = (op c && !(airL w h a m wo op j).2 c && spr w h (airL w h a m wo op j).1 c) := rfl
  rw [e]
  cases spr w h (airL w h a m wo op j).1 c <;> cases op c <;> cases (airL w h a m wo op j).2 c <;> rfl
def gvB (w h : Nat) (a : Nat → Int32) (m : Nat) (wo : Option Nat) (op : Nat → Bool) (j c : Nat) : Bool := anyB (fun i => (airL w h a m wo op i).1 c && op c) j
theorem air_empty {j : Nat} (h0 : ∀ c, (airL w h a m wo op j).1 c = false) : ∀ k, (∀ c, (airL w h a m wo op (j + k)).1 c = false) ∧ (∀ c, (airL w h a m wo op (j + k)).2 c = (airL w h a m wo op j).2 c) ∧ ∀ c, gvB w h a m wo op (j + k) c = gvB w h a m wo op j c
  | 0 => ⟨h0, fun _ => rfl, fun _ => rfl⟩
  | k + 1 => by
    obtain ⟨g1, g2, g3⟩ := air_empty h0 k
    have n1 : ∀ c, (airL w h a m wo op (j + (k + 1))).1 c = false := fun c => by
      apply Bool.eq_false_iff.mpr
      intro z
      obtain ⟨-, -, x, -, x2, -⟩ := bfs_L.mp z
      exact Bool.noConfusion (x2.symm.trans (g1 x))
    refine ⟨n1, fun c => ?_, fun c => ?_⟩
    · have : (airL w h a m wo op (j + (k + 1))).2 c = ((airL w h a m wo op (j + k)).2 c || (airL w h a m wo op (j + (k + 1))).1 c) := rfl
      rw [this, n1 c, Bool.or_false, g2 c]
    · have : gvB w h a m wo op (j + (k + 1)) c = (gvB w h a m wo op (j + k) c || ((airL w h a m wo op (j + k)).1 c && op c)) := rfl
      rw [this, g1 c, Bool.false_and, Bool.or_false, g3 c]
theorem gvB_iff {D x : Nat} : gvB w h a m wo op D x = true ↔ op x = true ∧ 1 ≤ D ∧ (airL w h a m wo op (D - 1)).2 x = true := by
  unfold gvB
  rw [anyB_iff, bfs_seen]
  constructor
  · rintro ⟨i, h1, h2⟩
    rw [Bool.and_eq_true] at h2
    exact ⟨h2.2, by omega, i, by omega, h2.1⟩
  · rintro ⟨h1, h2, i, h3, h4⟩
    exact ⟨i, by omega, by rw [Bool.and_eq_true]; exact ⟨h4, h1⟩⟩
theorem air_fin (hho : mHoles (w * h) a) (hwh : w * h ≤ 64) (hw : 2 ≤ w) (c : Nat) : ((airL w h a m wo op (cnt a 13)).2 c || (spr w h (gvB w h a m wo op (cnt a 13)) c && !op c)) = (decide (c < w * h) && auF w h a m wo op c) := by
  apply bool_eq
  unfold auF
  rw [Bool.or_eq_true, Bool.and_eq_true, Bool.and_eq_true, Bool.or_eq_true, Bool.and_eq_true, decide_eq_true_iff, spr_iff, anyB_iff]
  constructor
  · rintro (h1 | ⟨⟨x, x1, x2, d, d1, d2⟩, h2⟩)
    · exact ⟨airS_lt hho hwh (by omega) h1, Or.inl h1⟩
    · refine ⟨sp_nb_lt (by omega) x1 d2, Or.inr ⟨h2, ?_⟩⟩
      obtain ⟨e, e1, e2⟩ := nb_sym hw x1 d1 d2
      obtain ⟨g1, g2, g3⟩ := gvB_iff.mp x2
      refine ⟨e, e1, ?_⟩
      rw [e2]
      simp [g1, g2, g3]
  · rintro ⟨hc, h1 | ⟨h1, d, d1, d2⟩⟩
    · exact Or.inl h1
    · refine Or.inr ⟨?_, h1⟩
      cases hn : sp_nb w h c d with
      | none => rw [hn] at d2; cases d2
      | some x =>
        rw [hn] at d2
        simp only [Bool.and_eq_true, decide_eq_true_iff] at d2
        obtain ⟨e, e1, e2⟩ := nb_sym hw hc d1 hn
        exact ⟨x, sp_nb_lt (by omega) hc hn, gvB_iff.mpr ⟨d2.1, d2.2.1, d2.2.2⟩, e, e1, e2⟩
end AIR
section AIR2
variable {w h : Nat} {a : Nat → Int32} {wl m F : Nat} {wo : Option Nat} {b : fS} {I : pvI} {J : pvJ} {P : pvP} {u2 : Int32} {wal : Nat → Bool}
theorem k_air {op : Nat → Bool} {D : Nat} {Z : pvZT} {v4 : Value} (hP : pvOkP P) (hg : gridOk w h I J) (hho : mHoles (w * h) a) (hD : cnt a 13 = D) (hD2 : D ≤ 30) (h10 : I 4 10 = nI D) (hA : fAd F) (hv4 : v4 = .retAddr 0)
    (kk : pvG mX1_air (pvR 2 0 0) Z 158 [.ref F, .ref 3, .int (nI m), .ref 2, v4, .retAddr 0, .long (mk op), .retAddr 0, .long (mk (airL w h a m wo op D).2), .retAddr 0, .retAddr 0, .retAddr 0, .long (mk (gvB w h a m wo op D)), .retAddr 0, .retAddr 0] [] 0 0 224 I J P) : ∀ q j, j + q = D → pvG mX1_air (pvR 2 0 0) Z 98 [.ref F, .ref 3, .int (nI m), .ref 2, v4, .retAddr 0, .long (mk op), .retAddr 0, .long (mk (airL w h a m wo op j).2), .retAddr 0, .long (mk (airL w h a m wo op j).1), .retAddr 0, .long (mk (gvB w h a m wo op j)), .retAddr 0, .int (nI j)] [] 0 0 224 I J P := by
  have hwh := hg.wh
  have hw := hg.2.2.2.2.2.2.1
  subst hv4
  intro q
  induction q with
  | zero =>
    intro j hj
    obtain rfl : j = D := by omega
    refine g_iload dX1_air_98 rfl ?_
    refine g_aload_n dX1_air_100 rfl ?_
    refine g_getP dX1_air_101 fdX1_87 rfl (by first | rfl | exact pv_shx) (by omega) (by omega) (by decide) rfl (hP _ _ _ rfl) ?_
    refine n_getI dX1_air_104 fdX1_144 rfl (by first | rfl | exact pv_shx) (by omega) (by omega) (by decide) rfl (by repeat (first | exact h10 | (apply rd_s; done) | apply rd_n (by omega) | apply rp_s | apply rp_n (by omega) | (apply rdL_s; done) | apply rdL_n (by omega) | apply rpJ_s | apply rpJ_n (by omega) | rfl)) ?_
    refine n_icmp_ge 158 dX1_air_107 (by decide) (by first | ((with_reducible apply cN_le) <;> omega) | ((with_reducible apply cI_len) <;> omega) | ((with_reducible apply cI_nle) <;> omega) | (with_reducible exact cI_le)) (fun c107 => ?_) (fun c107 => by exfalso; first | omega | exact absurd trivial c107 | exact c107 | (simp at c107))
    exact g_drop _ (by repeat (first | exact trivial | refine ⟨Or.inr ⟨_, rfl⟩, ?_⟩ | refine ⟨Or.inl rfl, ?_⟩)) kk
  | succ q ih =>
    intro j hj
    by_cases he : ∀ c, c < 64 → (airL w h a m wo op j).1 c = false
    · have he2 : ∀ c, (airL w h a m wo op j).1 c = false := fun c => Bool.eq_false_iff.mpr (fun z => by
        have := airL_lt (wo := wo) (op := op) hho hwh.2 (by omega) j c z
        have := he c (by omega)
        rw [z] at this; cases this)
      obtain ⟨g1, g2, g3⟩ := air_empty he2 (q + 1)
      rw [hj] at g2 g3
      rw [show (airL w h a m wo op D).2 = (airL w h a m wo op j).2 from funext g2, show gvB w h a m wo op D = gvB w h a m wo op j from funext g3] at kk
      have hz : mk (airL w h a m wo op j).1 = 0 := mk_eq0.mpr he
      refine g_iload dX1_air_98 rfl ?_
      refine g_aload_n dX1_air_100 rfl ?_
      refine g_getP dX1_air_101 fdX1_87 rfl (by first | rfl | exact pv_shx) (by omega) (by omega) (by decide) rfl (hP _ _ _ rfl) ?_
      refine n_getI dX1_air_104 fdX1_144 rfl (by first | rfl | exact pv_shx) (by omega) (by omega) (by decide) rfl (by repeat (first | exact h10 | (apply rd_s; done) | apply rd_n (by omega) | apply rp_s | apply rp_n (by omega) | (apply rdL_s; done) | apply rdL_n (by omega) | apply rpJ_s | apply rpJ_n (by omega) | rfl)) ?_
      refine n_icmp_ge 158 dX1_air_107 (by decide) (by first | ((with_reducible apply cN_le) <;> omega) | ((with_reducible apply cI_len) <;> omega) | ((with_reducible apply cI_nle) <;> omega) | (with_reducible exact cI_le)) (fun c107 => by exfalso; first | omega | exact absurd trivial c107 | exact c107 | (simp at c107)) (fun c107 => ?_)
      refine g_lload dX1_air_110 rfl ?_
      refine g_lconst (v := 0) dX1_air_112 (by decide) ?_
      refine g_lcmp dX1_air_113 ?_
      refine n_if_eq 158 dX1_air_114 (by decide) (lg_cmp_eq _ _) (fun c114 => ?_) (fun c114 => by exfalso; exact c114 hz)
      exact g_drop _ (by repeat (first | exact trivial | refine ⟨Or.inr ⟨_, rfl⟩, ?_⟩ | refine ⟨Or.inl rfl, ?_⟩)) kk
    · have hz : ¬ mk (airL w h a m wo op j).1 = 0 := fun z => he (fun c hc => mk_eq0.mp z c hc)
      have nx := ih (j + 1) (by omega)
      have e1 : mk (gvB w h a m wo op j) ||| mk (fun c => (airL w h a m wo op j).1 c && op c) = mk (gvB w h a m wo op (j + 1)) := mk_or.trans (mk_cong (fun c _ => rfl))
      have e2 : mk (fun c => spr w h (airL w h a m wo op j).1 c && op c) &&& mk (fun c => !(airL w h a m wo op j).2 c) = mk (airL w h a m wo op (j + 1)).1 := mk_and.trans (mk_cong (fun c _ => airL_next))
      have e3 : mk (airL w h a m wo op j).2 ||| mk (airL w h a m wo op (j + 1)).1 = mk (airL w h a m wo op (j + 1)).2 := mk_or.trans (mk_cong (fun c _ => rfl))
      have sp := c_spread (P := P) hg (f := (airL w h a m wo op j).1) (airL_lt hho hwh.2 (by omega) j)
      refine g_iload dX1_air_98 rfl ?_
      refine g_aload_n dX1_air_100 rfl ?_
      refine g_getP dX1_air_101 fdX1_87 rfl (by first | rfl | exact pv_shx) (by omega) (by omega) (by decide) rfl (hP _ _ _ rfl) ?_
      refine n_getI dX1_air_104 fdX1_144 rfl (by first | rfl | exact pv_shx) (by omega) (by omega) (by decide) rfl (by repeat (first | exact h10 | (apply rd_s; done) | apply rd_n (by omega) | apply rp_s | apply rp_n (by omega) | (apply rdL_s; done) | apply rdL_n (by omega) | apply rpJ_s | apply rpJ_n (by omega) | rfl)) ?_
      refine n_icmp_ge 158 dX1_air_107 (by decide) (by first | ((with_reducible apply cN_le) <;> omega) | ((with_reducible apply cI_len) <;> omega) | ((with_reducible apply cI_nle) <;> omega) | (with_reducible exact cI_le)) (fun c107 => by exfalso; first | omega | exact absurd trivial c107 | exact c107 | (simp at c107)) (fun c107 => ?_)
      refine g_lload dX1_air_110 rfl ?_
      refine g_lconst (v := 0) dX1_air_112 (by decide) ?_
      refine g_lcmp dX1_air_113 ?_
      refine n_if_eq 158 dX1_air_114 (by decide) (lg_cmp_eq _ _) (fun c114 => by exfalso; exact hz c114) (fun c114 => ?_)
      refine g_lload dX1_air_117 rfl ?_
      refine g_lload dX1_air_119 rfl ?_
      refine g_lload dX1_air_121 rfl ?_
      refine n_land dX1_air_123 (mk_and) ?_
      refine n_lor dX1_air_124 (e1) ?_
      refine g_lstore dX1_air_125 (by decide) rfl ?_
      refine g_aload_n dX1_air_127 rfl ?_
      refine g_lload dX1_air_128 rfl ?_
      refine p_callV (sp) okX2_spread lkX1_147 rfl (by first | rfl | exact pv_shx) rfl (by omega) (by omega) dX1_air_130 rfl (Nat.le_of_ble_eq_true rfl) (⟨by decide, by decide, by decide, by decide⟩) ?_
      refine g_lload dX1_air_133 rfl ?_
      refine n_land dX1_air_135 (mk_and) ?_
      refine g_lload dX1_air_136 rfl ?_
      refine g_ldc2 (v := (-1 : Int64)) dX1_air_138 kcX1_119 ?_
      refine n_lxor dX1_air_141 (mk_not) ?_
      refine n_land dX1_air_142 (e2) ?_
      refine g_lstore dX1_air_143 (by decide) rfl ?_
      refine g_lload dX1_air_145 rfl ?_
      refine g_lload dX1_air_147 rfl ?_
      refine n_lor dX1_air_149 (e3) ?_
      refine g_lstore dX1_air_150 (by decide) rfl ?_
      refine g_iinc dX1_air_152 rfl (by first | (with_reducible exact nI_1 _) | exact nI_1 _ | exact pk_m1 _ | rfl) (by decide) rfl ?_
      refine g_goto 98 dX1_air_155 (by decide) ?_
      exact nx
theorem f_air (hP : pvOkP P) (hA : fAd F) (hw : wF w h a I J) (hg : mG a) (hho : mHoles (w * h) a) (hk : fHk w h a) (hm : m ≤ 99) (h2 : I F 2 = u2) (hu : ∀ k, k < 20 → (nI k = u2 ↔ wo = some k)) (hum : u2 = -1 ↔ wo = none) (h3 : J F 3 = mk wal) (hwal : ∀ c, c < 64 → (wal c = true ↔ (cnt a 0 ≤ m ∧ wlB a wl c (cnt a 10) = true))) (hbt : J (F + 4) m = mk (mT b)) (hb : ∀ c, w * h ≤ c → b.1 c ≠ 2) : pvMet mX1_air 2 0 0 [.ref F, .ref 3, .int (nI m)] 224 I J P (pvpu (.long (mk (fun c => decide (c < w * h) && fair w h a wl wo m b c))) 224 I J P) := by
  obtain ⟨⟨s0, s1, s2, s3, s4, s5⟩, h90, h138⟩ := hA.sh
  obtain ⟨p10, p11, p12, p13, p14⟩ := hA.pp hP
  obtain ⟨w1, w2, w3, w4, ⟨w5, w6, w7⟩, w8, w9, w10, w11, w12⟩ := hw
  have hwh := w1.wh
  have hww := w1.2.2.2.2.2.2.1
  have w8m := w8 m (by omega)
  have w9m := w9 m (by omega)
  have w10m := w10 m (by omega)
  obtain ⟨D, D1, D2⟩ := hg 13 (by decide)
  replace D1 : D ≤ 30 := D1
  have hD : cnt a 13 = D := cnt_of D2 (by omega)
  rw [hD] at w7
  unfold fair
  generalize hop : opF a b.1 (cuB w h a (m + 1)) (fun c => if c < 64 then flw a wl (m + 1) c else 0) = op
  have eop : mk (fun c => (decide (cnt a (20 + c) = 3) && !((fullB w h a m c || cutb w h a (m + 1) c) || wal c)) || mT b c) = mk op := mk_cong (fun c hc => by rw [op_eq hk hb hc (hwal c hc), hop])
  have fin : ∀ v4 v5, pvG mX1_air (pvR 2 0 0) (pvZ (pvpu (.long (mk (fun c => decide (c < w * h) && auF w h a m wo op c))) 224 I J P) 0 0) 158 [.ref F, .ref 3, .int (nI m), .ref 2, v4, v5, .long (mk op), .retAddr 0, .long (mk (airL w h a m wo op D).2), .retAddr 0, .retAddr 0, .retAddr 0, .long (mk (gvB w h a m wo op D)), .retAddr 0, .retAddr 0] [] 0 0 224 I J P := by
    intro v4 v5
    have sp := c_spread (P := P) w1 (f := gvB w h a m wo op D) (fun c hc => by
      have := (gvB_iff.mp hc).2.2
      exact airS_lt hho hwh.2 (by omega) this)
    have ef : mk (airL w h a m wo op D).2 ||| mk (fun c => spr w h (gvB w h a m wo op D) c && !op c) = mk (fun c => decide (c < w * h) && auF w h a m wo op c) := mk_or.trans (mk_cong (fun c _ => by rw [← hD]; exact air_fin hho hwh.2 hww.1 c))
    refine g_lload dX1_air_158 rfl ?_
    refine g_aload_n dX1_air_160 rfl ?_
    refine g_lload dX1_air_161 rfl ?_
    refine p_callV (sp) okX2_spread lkX1_147 rfl (by first | rfl | exact pv_shx) rfl (by omega) (by omega) dX1_air_163 rfl (Nat.le_of_ble_eq_true rfl) (⟨by decide, by decide, by decide, by decide⟩) ?_
    refine g_lload dX1_air_166 rfl ?_
    refine g_ldc2 (v := (-1 : Int64)) dX1_air_168 kcX1_119 ?_
    refine n_lxor dX1_air_171 (mk_not) ?_
    refine n_land dX1_air_172 (mk_and) ?_
    refine n_lor dX1_air_173 (ef) ?_
    exact g_lret dX1_air_174 rfl (⟨rfl, rfl, rfl, rfl, rfl⟩)
  have lp := k_air (op := op) (wo := wo) (m := m) hP w1 hho hD D1 w7 hA rfl (fin (.retAddr 0) (.retAddr 0)) D 0 (by omega)
  have e0 : mk (gvB w h a m wo op 0) = 0 := mk_eq0.mpr (fun _ _ => rfl)
  have e0' : (airL w h a m wo op 0).1 = hoB a m wo := rfl
  have e0'' : (airL w h a m wo op 0).2 = hoB a m wo := rfl
  rw [e0, e0', e0''] at lp
  have oh := c_openHoles (J := J) (m := m) hP hg hho hwh.2 hm hu w11 w12
  have f86 : pvG mX1_air (pvR 2 0 0) (pvZ (pvpu (.long (mk (fun c => decide (c < w * h) && auF w h a m wo op c))) 224 I J P) 0 0) 86 [.ref F, .ref 3, .int (nI m), .ref 2, .retAddr 0, .retAddr 0, .long (mk op), .retAddr 0, .retAddr 0, .retAddr 0, .retAddr 0, .retAddr 0, .retAddr 0, .retAddr 0, .retAddr 0] [.long (mk (hoB a m wo))] 0 0 224 I J P := by
    refine g_lstore dX1_air_86 (by decide) rfl ?_
    refine g_lload dX1_air_88 rfl ?_
    refine g_lstore dX1_air_90 (by decide) rfl ?_
    refine g_lconst (v := 0) dX1_air_92 (by decide) ?_
    refine g_lstore dX1_air_93 (by decide) rfl ?_
    refine g_iconst (v := nI 0) dX1_air_95 (by decide) ?_
    refine g_istore dX1_air_96 (by decide) rfl ?_
    exact g_drop _ (by repeat (first | exact trivial | refine ⟨Or.inr ⟨_, rfl⟩, ?_⟩ | refine ⟨Or.inl rfl, ?_⟩)) lp
  have f54 : pvG mX1_air (pvR 2 0 0) (pvZ (pvpu (.long (mk (fun c => decide (c < w * h) && auF w h a m wo op c))) 224 I J P) 0 0) 54 [.ref F, .ref 3, .int (nI m), .ref 2, .retAddr 0, .retAddr 0, .long (mk op), .retAddr 0, .retAddr 0, .retAddr 0, .retAddr 0, .retAddr 0, .retAddr 0, .retAddr 0, .retAddr 0] [] 0 0 224 I J P := by
    by_cases hwo : wo = none
    · subst hwo
      have hu1 := hum.mpr rfl
      refine g_aload_n dX1_air_54 rfl ?_
      refine n_getI dX1_air_55 fdX1_9 rfl (by first | exact s0 | rfl) (by omega) (by omega) (by decide) rfl (by repeat (first | exact w9m | exact h2 | (apply rd_s; done) | apply rd_n (by omega) | apply rp_s | apply rp_n (by omega) | (apply rdL_s; done) | apply rdL_n (by omega) | apply rpJ_s | apply rpJ_n (by omega) | rfl)) ?_
      refine g_iconst (v := (-1)) dX1_air_58 (by decide) ?_
      refine n_icmp_ne 74 dX1_air_59 (by decide) (Iff.rfl) (fun c59 => by exfalso; exact c59 hu1) (fun c59 => ?_)
      refine g_aload_n dX1_air_62 rfl ?_
      refine g_getP dX1_air_63 fdX1_106 rfl (by first | exact s0 | rfl) (by omega) (by omega) (by decide) rfl (hP _ _ _ rfl) ?_
      refine g_getP dX1_air_66 fdX1_137 rfl (by first | exact s0 | rfl) (by omega) (by omega) (by decide) rfl (hP _ _ _ rfl) ?_
      refine g_iload_n dX1_air_69 rfl ?_
      refine n_lald dX1_air_70 (by first | exact s0 | rfl) (by omega) (by omega) (by decide) (rfl) (by omega) (by repeat (first | exact w9m | exact h2 | (apply rd_s; done) | apply rd_n (by omega) | apply rp_s | apply rp_n (by omega) | (apply rdL_s; done) | apply rdL_n (by omega) | apply rpJ_s | apply rpJ_n (by omega) | rfl)) ?_
      refine g_goto 86 dX1_air_71 (by decide) ?_
      exact f86
    · have hu1 : ¬ u2 = -1 := fun z => hwo (hum.mp z)
      refine g_aload_n dX1_air_54 rfl ?_
      refine n_getI dX1_air_55 fdX1_9 rfl (by first | exact s0 | rfl) (by omega) (by omega) (by decide) rfl (by repeat (first | exact h2 | (apply rd_s; done) | apply rd_n (by omega) | apply rp_s | apply rp_n (by omega) | (apply rdL_s; done) | apply rdL_n (by omega) | apply rpJ_s | apply rpJ_n (by omega) | rfl)) ?_
      refine g_iconst (v := (-1)) dX1_air_58 (by decide) ?_
      refine n_icmp_ne 74 dX1_air_59 (by decide) (Iff.rfl) (fun c59 => ?_) (fun c59 => by exfalso; exact hu1 c59)
      refine g_aload_n dX1_air_74 rfl ?_
      refine g_getP dX1_air_75 fdX1_106 rfl (by first | exact s0 | rfl) (by omega) (by omega) (by decide) rfl (hP _ _ _ rfl) ?_
      refine g_iload_n dX1_air_78 rfl ?_
      refine g_aload_n dX1_air_79 rfl ?_
      refine n_getI dX1_air_80 fdX1_9 rfl (by first | exact s0 | rfl) (by omega) (by omega) (by decide) rfl (by repeat (first | exact h2 | (apply rd_s; done) | apply rd_n (by omega) | apply rp_s | apply rp_n (by omega) | (apply rdL_s; done) | apply rdL_n (by omega) | apply rpJ_s | apply rpJ_n (by omega) | rfl)) ?_
      refine p_callV (oh) okX9_openHoles lkX1_140 rfl (by first | rfl | exact pv_shx) rfl (by omega) (by omega) dX1_air_83 rfl (Nat.le_of_ble_eq_true rfl) (⟨by decide, by decide, by decide, by decide⟩) ?_
      exact f86
  refine pvMet.of _ (by decide) rfl (Nat.le_of_ble_eq_true rfl) ?_
  refine g_aload_n dX1_air_0 rfl ?_
  refine g_getP dX1_air_1 fdX1_124 rfl (by first | exact s0 | exact s4 | rfl) (by omega) (by omega) (by decide) rfl (by first | exact p13 | exact hP _ _ _ rfl) ?_
  refine g_astore_n dX1_air_4 (by decide) rfl ?_
  refine g_aload_n dX1_air_5 rfl ?_
  refine g_getP dX1_air_6 fdX1_87 rfl (by first | exact s0 | exact s4 | rfl) (by omega) (by omega) (by decide) rfl (by first | exact p13 | exact hP _ _ _ rfl) ?_
  refine g_getP dX1_air_9 fdX1_128 rfl (by first | exact s0 | exact s4 | rfl) (by omega) (by omega) (by decide) rfl (by first | exact p13 | exact hP _ _ _ rfl) ?_
  refine g_iload_n dX1_air_12 rfl ?_
  refine n_lald dX1_air_13 (by first | exact s0 | exact s4 | rfl) (by omega) (by omega) (by decide) (rfl) (by omega) (by repeat (first | exact w8m | exact w10m | exact h3 | exact w4 | exact hbt | (apply rd_s; done) | apply rd_n (by omega) | apply rp_s | apply rp_n (by omega) | (apply rdL_s; done) | apply rdL_n (by omega) | apply rpJ_s | apply rpJ_n (by omega) | rfl)) ?_
  refine g_aload_n dX1_air_14 rfl ?_
  refine g_getP dX1_air_15 fdX1_106 rfl (by first | exact s0 | exact s4 | rfl) (by omega) (by omega) (by decide) rfl (by first | exact p13 | exact hP _ _ _ rfl) ?_
  refine g_getP dX1_air_18 fdX1_110 rfl (by first | exact s0 | exact s4 | rfl) (by omega) (by omega) (by decide) rfl (by first | exact p13 | exact hP _ _ _ rfl) ?_
  refine g_iload_n dX1_air_21 rfl ?_
  refine n_lald dX1_air_22 (by first | exact s0 | exact s4 | rfl) (by omega) (by omega) (by decide) (rfl) (by omega) (by repeat (first | exact w8m | exact w10m | exact h3 | exact w4 | exact hbt | (apply rd_s; done) | apply rd_n (by omega) | apply rp_s | apply rp_n (by omega) | (apply rdL_s; done) | apply rdL_n (by omega) | apply rpJ_s | apply rpJ_n (by omega) | rfl)) ?_
  refine n_lor dX1_air_23 (mk_or) ?_
  refine g_aload_n dX1_air_24 rfl ?_
  refine n_getJ dX1_air_25 fdX1_131 rfl (by first | exact s0 | exact s4 | rfl) (by omega) (by omega) (by decide) rfl (by repeat (first | exact w8m | exact w10m | exact h3 | exact w4 | exact hbt | (apply rd_s; done) | apply rd_n (by omega) | apply rp_s | apply rp_n (by omega) | (apply rdL_s; done) | apply rdL_n (by omega) | apply rpJ_s | apply rpJ_n (by omega) | rfl)) ?_
  refine n_lor dX1_air_28 (mk_or) ?_
  refine g_lstore dX1_air_29 (by decide) rfl ?_
  refine g_aload_n dX1_air_31 rfl ?_
  refine g_getP dX1_air_32 fdX1_87 rfl (by first | exact s0 | exact s4 | rfl) (by omega) (by omega) (by decide) rfl (by first | exact p13 | exact hP _ _ _ rfl) ?_
  refine n_getJ dX1_air_35 fdX1_134 rfl (by first | exact s0 | exact s4 | rfl) (by omega) (by omega) (by decide) rfl (by repeat (first | exact w8m | exact w10m | exact h3 | exact w4 | exact hbt | (apply rd_s; done) | apply rd_n (by omega) | apply rp_s | apply rp_n (by omega) | (apply rdL_s; done) | apply rdL_n (by omega) | apply rpJ_s | apply rpJ_n (by omega) | rfl)) ?_
  refine g_lload dX1_air_38 rfl ?_
  refine g_ldc2 (v := (-1 : Int64)) dX1_air_40 kcX1_119 ?_
  refine n_lxor dX1_air_43 (mk_not) ?_
  refine n_land dX1_air_44 (mk_and) ?_
  refine g_aload_n dX1_air_45 rfl ?_
  refine g_getP dX1_air_46 fdX1_29 rfl (by first | exact s0 | exact s4 | rfl) (by omega) (by omega) (by decide) rfl (by first | exact p13 | exact hP _ _ _ rfl) ?_
  refine g_iload_n dX1_air_49 rfl ?_
  refine n_lald dX1_air_50 (by first | exact s0 | exact s4 | rfl) (by omega) (by omega) (by decide) (rfl) (by omega) (by repeat (first | exact w8m | exact w10m | exact h3 | exact w4 | exact hbt | (apply rd_s; done) | apply rd_n (by omega) | apply rp_s | apply rp_n (by omega) | (apply rdL_s; done) | apply rdL_n (by omega) | apply rpJ_s | apply rpJ_n (by omega) | rfl)) ?_
  refine n_lor dX1_air_51 (mk_or.trans eop) ?_
  refine g_lstore dX1_air_52 (by decide) rfl ?_
  exact g_drop _ (by repeat (first | exact trivial | refine ⟨Or.inr ⟨_, rfl⟩, ?_⟩ | refine ⟨Or.inl rfl, ?_⟩)) f54
end AIR2
