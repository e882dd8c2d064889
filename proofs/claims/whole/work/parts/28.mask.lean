/-! model: what the runs tell -/
theorem fraw_ok {w h : Nat} {a : Nat → Int32} (hce : mCells a) {wl s : Nat} {wo : Option Nat} : ∀ m, fOk (4 * m) (fraw w h a wl wo s m)
  | 0 => ⟨fun c => by show 0 ≤ 2; omega, fun c => by
      show (if c < 64 then cnt a (84 + c) else 0) ≤ 999
      split
      · rename_i hc
        obtain ⟨v, v1, v2⟩ := hce.2.1 c hc
        rw [cnt_of v2 (by omega)]; exact v1
      · omega, fun c => Nat.le_refl _⟩
  | m + 1 => fburn_ok (n := 4 * m) (fbeg_ok (fraw_ok hce m))
theorem fwk_ok {w h : Nat} {a : Nat → Int32} (hce : mCells a) {wl s m : Nat} {wo : Option Nat} : fOk (4 * m) (fwk w h a wl wo s m) := fbeg_ok (fraw_ok hce m)
abbrev LR : List Nat := [206, 207, 208, 209, 210, 211, 212, 213, 214, 215, 216]
theorem mfix.tr {I I' I'' : pvI} {l : List Nat} (h : mfix I I' l) (h2 : mfix I' I'' l) : mfix I I'' l := fun k hk => (h2 k hk).trans (h k hk)
theorem mfix.rf {I : pvI} {l : List Nat} : mfix I I l := fun _ _ => rfl
/-- the table holds all runs -/
def tbOk (w h : Nat) (a : Nat → Int32) (I : pvI) (n : Nat) : Prop := (∀ s m c, s < n → m ≤ 99 → c < 64 → I 215 (6400 * s + 64 * m + c) = nI ((fwk w h a 0 none s m).1 c)) ∧ ∀ s, s < n → I 216 s = nI (flate w h a 0 none s 100)
theorem t_runAll {w h : Nat} {I : pvI} {J : pvJ} {P : pvP} (hP : pvOkP P) (hD : mDim w h I) (hF : mF w h (I 203)) : pvMet mX12_runAll 4 0 0 [.ref 202] 224 I J P (pvq P (fun v I' J' => v = none ∧ J' = J ∧ mfix I I' LR ∧ tbOk w h (I 203) I' (cnt (I 203) 3))) := by
  have hg := hF.1
  obtain ⟨ns, ns_b, ns_h⟩ := hg 3 (by decide)
  replace ns_b : ns ≤ 8 := ns_b
  have ns_e : cnt (I 203) 3 = ns := cnt_of ns_h (by omega)
  generalize ha : I 203 = a at *
  have lp : ∀ q s I1, s + q = ns → mfix I I1 LR → tbOk w h a I1 s → pvG mX12_runAll (pvR 4 0 0) (pvZ (pvq P (fun v I' J' => v = none ∧ J' = J ∧ mfix I I' LR ∧ tbOk w h a I' (cnt a 3))) 0 0) 2 [.ref 202, .int (nI s)] [] 0 0 224 I1 J P := by
    intro q
    induction q with
    | zero =>
      intro s I1 hs h1 h2
      obtain rfl : s = ns := by omega
      have a1 : I1 203 = a := by rw [h1 203 (by decide)]; exact ha
      have r3 : I1 203 3 = nI s := by rw [a1]; exact ns_h
      refine g_iload_n dX12_runAll_2 rfl ?_
      refine g_aload_n dX12_runAll_3 rfl ?_
      refine g_getP dX12_runAll_4 fdX12_7 rfl (by first | rfl | exact pv_shx) (by omega) (by omega) (by decide) rfl (hP _ _ _ rfl) ?_
      refine g_iconst (v := nI 3) dX12_runAll_7 (by decide) ?_
      refine n_iald dX12_runAll_8 (by first | rfl | exact pv_shx) (by omega) (by omega) (by decide) (rfl) (by omega) (by repeat (first | exact r3 | (apply rd_s; done) | apply rd_n (by omega) | apply rp_s | apply rp_n (by omega) | (apply rdL_s; done) | apply rdL_n (by omega) | apply rpJ_s | apply rpJ_n (by omega) | rfl)) ?_
      refine n_icmp_ge 27 dX12_runAll_9 (by decide) (by first | ((with_reducible apply cN_le) <;> omega) | ((with_reducible apply cI_len) <;> omega) | ((with_reducible apply cI_nle) <;> omega) | (with_reducible exact cI_le)) (fun c9 => ?_) (fun c9 => by exfalso; first | omega | exact absurd trivial c9 | exact c9)
      exact g_vret dX12_runAll_27 rfl (⟨rfl, rfl, rfl, rfl, h1, by rw [ns_e]; exact h2⟩)
    | succ q ih =>
      intro s I1 hs h1 h2
      have a1 : I1 203 = a := by rw [h1 203 (by decide)]; exact ha
      have r3 : I1 203 3 = nI ns := by rw [a1]; exact ns_h
      have hr := t_run (w := w) (h := h) (I := I1) (J := J) (s := s) (u := 99) (wl := 0) (wo := none) (u3 := -1) hP ⟨by rw [h1 202 (by decide)]; exact hD.1, by rw [h1 202 (by decide)]; exact hD.2.1, hD.2.2⟩ (by rw [a1]; exact hF) (by rw [a1]; omega) (by omega) (by omega) (fun k hk => ⟨fun z => by rw [cI_eq, nI_toInt (by omega), show ((-1 : Int32)).toInt = -1 from rfl] at z; omega, fun z => by cases z⟩)
      refine g_iload_n dX12_runAll_2 rfl ?_
      refine g_aload_n dX12_runAll_3 rfl ?_
      refine g_getP dX12_runAll_4 fdX12_7 rfl (by first | rfl | exact pv_shx) (by omega) (by omega) (by decide) rfl (hP _ _ _ rfl) ?_
      refine g_iconst (v := nI 3) dX12_runAll_7 (by decide) ?_
      refine n_iald dX12_runAll_8 (by first | rfl | exact pv_shx) (by omega) (by omega) (by decide) (rfl) (by omega) (by repeat (first | exact r3 | (apply rd_s; done) | apply rd_n (by omega) | apply rp_s | apply rp_n (by omega) | (apply rdL_s; done) | apply rdL_n (by omega) | apply rpJ_s | apply rpJ_n (by omega) | rfl)) ?_
      refine n_icmp_ge 27 dX12_runAll_9 (by decide) (by first | ((with_reducible apply cN_le) <;> omega) | ((with_reducible apply cI_len) <;> omega) | ((with_reducible apply cI_nle) <;> omega) | (with_reducible exact cI_le)) (fun c9 => by exfalso; first | omega | exact absurd trivial c9 | exact c9) (fun c9 => ?_)
      refine g_aload_n dX12_runAll_12 rfl ?_
      refine g_iload_n dX12_runAll_13 rfl ?_
      refine g_bipush (v := nI 99) dX12_runAll_14 (by decide) ?_
      refine g_iconst (v := (-1)) dX12_runAll_16 (by decide) ?_
      refine g_iconst (v := nI 0) dX12_runAll_17 (by decide) ?_
      refine g_callV (hr) okX12_run lkX12_135 rfl (by first | rfl | exact pv_shx) rfl (by omega) (by omega) dX12_runAll_18 rfl (Nat.le_of_ble_eq_true rfl) (⟨by decide, by decide, by decide, by decide⟩) ?_
      rintro v nx' I2 J' P' ⟨rfl, rfl, rfl, rfl, g1, g2, g3, g4, g5, g6, g7, g8, g9⟩
      rw [a1] at g7 g8
      refine g_iinc dX12_runAll_21 rfl (by first | (with_reducible exact nI_1 _) | exact nI_1 _ | exact pk_m1 _ | rfl) (by decide) rfl ?_
      refine g_goto 2 dX12_runAll_24 (by decide) ?_
      refine ih (s + 1) I2 (by omega) (h1.tr g1) ⟨fun s' m c hs' hm hc => ?_, fun s' hs' => ?_⟩
      · by_cases e : s' = s
        · subst e; exact g8 m c hm hc
        · rw [g9 _ (by omega)]; exact h2.1 s' m c (by omega) hm hc
      · by_cases e : s' = s
        · subst e; rw [g7]; simp [upd]
        · rw [g7]; simp only [upd, if_neg e]; exact h2.2 s' (by omega)
  refine pvMet.of _ (by decide) rfl (Nat.le_of_ble_eq_true rfl) ?_
  refine g_iconst (v := nI 0) dX12_runAll_0 (by decide) ?_
  refine g_istore_n dX12_runAll_1 (by decide) rfl ?_
  exact lp ns 0 I (by omega) mfix.rf ⟨fun s m c hs => absurd hs (Nat.not_lt_zero s), fun s hs => absurd hs (Nat.not_lt_zero s)⟩
theorem t_lostAt {I : pvI} {J : pvJ} {P : pvP} {s m : Nat} {f : Nat → Nat} (hP : pvOkP P) (hs : s < 8) (hm : m ≤ 99) (ht : ∀ c, c < 64 → I 215 (6400 * s + 64 * m + c) = nI (f c)) (hf : ∀ c, f c ≤ 2) : pvMet mX12_lostAt 0 0 0 [.ref 202, .int (nI s), .int (nI m)] 224 I J P (pvpu (.int (nI (sp_ct (fun c => 0 < f c) 64))) 224 I J P) := by
  have lp : ∀ q i, i + q = 64 → pvG mX12_lostAt (pvR 0 0 0) (pvZ (pvpu (.int (nI (sp_ct (fun c => 0 < f c) 64))) 224 I J P) 0 0) 5 [.ref 202, .int (nI s), .int (nI m), .int (nI (sp_ct (fun c => 0 < f c) i)), .int (nI i)] [] 0 0 224 I J P := by
    intro q
    induction q with
    | zero =>
      intro i hi
      obtain rfl : i = 64 := by omega
      refine g_iload dX12_lostAt_5 rfl ?_
      refine g_bipush (v := nI 64) dX12_lostAt_7 (by decide) ?_
      refine n_icmp_ge 47 dX12_lostAt_9 (by decide) (by first | ((with_reducible apply cN_le) <;> omega) | ((with_reducible apply cI_len) <;> omega) | ((with_reducible apply cI_nle) <;> omega) | (with_reducible exact cI_le)) (fun c9 => ?_) (fun c9 => by exfalso; first | omega | exact absurd trivial c9 | exact c9)
      refine g_iload_n dX12_lostAt_47 rfl ?_
      exact g_iret dX12_lostAt_48 rfl (⟨rfl, rfl, rfl, rfl, rfl⟩)
    | succ q ih =>
      intro i hi
      have r1 := ht i (by omega)
      have f2 := hf i
      have h4 := ih (i + 1) (by omega)
      rw [show sp_ct (fun c => 0 < f c) (i + 1) = sp_ct (fun c => 0 < f c) i + if 0 < f i then 1 else 0 from rfl] at h4
      by_cases c1 : 0 < f i
      · rw [if_pos c1] at h4
        refine g_iload dX12_lostAt_5 rfl ?_
        refine g_bipush (v := nI 64) dX12_lostAt_7 (by decide) ?_
        refine n_icmp_ge 47 dX12_lostAt_9 (by decide) (by first | ((with_reducible apply cN_le) <;> omega) | ((with_reducible apply cI_len) <;> omega) | ((with_reducible apply cI_nle) <;> omega) | (with_reducible exact cI_le)) (fun c9 => by exfalso; first | omega | exact absurd trivial c9 | exact c9) (fun c9 => ?_)
        refine g_iload_n dX12_lostAt_12 rfl ?_
        refine g_aload_n dX12_lostAt_13 rfl ?_
        refine g_getP dX12_lostAt_14 fdX12_48 rfl (by first | rfl | exact pv_shx) (by omega) (by omega) (by decide) rfl (hP _ _ _ rfl) ?_
        refine g_sipush (v := nI 6400) dX12_lostAt_17 (by decide) ?_
        refine g_iload_n dX12_lostAt_20 rfl ?_
        refine n_imul dX12_lostAt_21 (by first | (with_reducible exact pk_mul _ _) | rfl) ?_
        refine g_bipush (v := nI 64) dX12_lostAt_22 (by decide) ?_
        refine g_iload_n dX12_lostAt_24 rfl ?_
        refine n_imul dX12_lostAt_25 (by first | (with_reducible exact pk_mul _ _) | rfl) ?_
        refine n_iadd dX12_lostAt_26 (by first | (with_reducible exact nI_add _ _) | rfl) ?_
        refine g_iload dX12_lostAt_27 rfl ?_
        refine n_iadd dX12_lostAt_29 (by first | (with_reducible exact nI_add _ _) | rfl) ?_
        refine n_iald dX12_lostAt_30 (by first | rfl | exact pv_shx) (by omega) (by omega) (by decide) (rfl) (by omega) (by repeat (first | exact r1 | (apply rd_s; done) | apply rd_n (by omega) | apply rp_s | apply rp_n (by omega) | (apply rdL_s; done) | apply rdL_n (by omega) | apply rpJ_s | apply rpJ_n (by omega) | rfl)) ?_
        refine n_if_le 38 dX12_lostAt_31 (by decide) (by first | ((with_reducible apply cN_le0) <;> omega) | (with_reducible exact cI_le0)) (fun c31 => by exfalso; first | omega | exact absurd trivial c31 | exact c31) (fun c31 => ?_)
        refine g_iconst (v := nI 1) dX12_lostAt_34 (by decide) ?_
        refine g_goto 39 dX12_lostAt_35 (by decide) ?_
        refine n_iadd dX12_lostAt_39 (by first | (with_reducible exact nI_add _ _) | rfl) ?_
        refine g_istore_n dX12_lostAt_40 (by decide) rfl ?_
        refine g_iinc dX12_lostAt_41 rfl (by first | (with_reducible exact nI_1 _) | exact nI_1 _ | exact pk_m1 _ | rfl) (by decide) rfl ?_
        refine g_goto 5 dX12_lostAt_44 (by decide) ?_
        exact h4
      · rw [if_neg c1] at h4
        refine g_iload dX12_lostAt_5 rfl ?_
        refine g_bipush (v := nI 64) dX12_lostAt_7 (by decide) ?_
        refine n_icmp_ge 47 dX12_lostAt_9 (by decide) (by first | ((with_reducible apply cN_le) <;> omega) | ((with_reducible apply cI_len) <;> omega) | ((with_reducible apply cI_nle) <;> omega) | (with_reducible exact cI_le)) (fun c9 => by exfalso; first | omega | exact absurd trivial c9 | exact c9) (fun c9 => ?_)
        refine g_iload_n dX12_lostAt_12 rfl ?_
        refine g_aload_n dX12_lostAt_13 rfl ?_
        refine g_getP dX12_lostAt_14 fdX12_48 rfl (by first | rfl | exact pv_shx) (by omega) (by omega) (by decide) rfl (hP _ _ _ rfl) ?_
        refine g_sipush (v := nI 6400) dX12_lostAt_17 (by decide) ?_
        refine g_iload_n dX12_lostAt_20 rfl ?_
        refine n_imul dX12_lostAt_21 (by first | (with_reducible exact pk_mul _ _) | rfl) ?_
        refine g_bipush (v := nI 64) dX12_lostAt_22 (by decide) ?_
        refine g_iload_n dX12_lostAt_24 rfl ?_
        refine n_imul dX12_lostAt_25 (by first | (with_reducible exact pk_mul _ _) | rfl) ?_
        refine n_iadd dX12_lostAt_26 (by first | (with_reducible exact nI_add _ _) | rfl) ?_
        refine g_iload dX12_lostAt_27 rfl ?_
        refine n_iadd dX12_lostAt_29 (by first | (with_reducible exact nI_add _ _) | rfl) ?_
        refine n_iald dX12_lostAt_30 (by first | rfl | exact pv_shx) (by omega) (by omega) (by decide) (rfl) (by omega) (by repeat (first | exact r1 | (apply rd_s; done) | apply rd_n (by omega) | apply rp_s | apply rp_n (by omega) | (apply rdL_s; done) | apply rdL_n (by omega) | apply rpJ_s | apply rpJ_n (by omega) | rfl)) ?_
        refine n_if_le 38 dX12_lostAt_31 (by decide) (by first | ((with_reducible apply cN_le0) <;> omega) | (with_reducible exact cI_le0)) (fun c31 => ?_) (fun c31 => by exfalso; first | omega | exact absurd trivial c31 | exact c31)
        refine g_iconst (v := nI 0) dX12_lostAt_38 (by decide) ?_
        refine n_iadd dX12_lostAt_39 (by first | (with_reducible exact nI_add _ _) | rfl) ?_
        refine g_istore_n dX12_lostAt_40 (by decide) rfl ?_
        refine g_iinc dX12_lostAt_41 rfl (by first | (with_reducible exact nI_1 _) | exact nI_1 _ | exact pk_m1 _ | rfl) (by decide) rfl ?_
        refine g_goto 5 dX12_lostAt_44 (by decide) ?_
        exact h4
  refine pvMet.of _ (by decide) rfl (Nat.le_of_ble_eq_true rfl) ?_
  refine g_iconst (v := nI 0) dX12_lostAt_0 (by decide) ?_
  refine g_istore_n dX12_lostAt_1 (by decide) rfl ?_
  refine g_iconst (v := nI 0) dX12_lostAt_2 (by decide) ?_
  refine g_istore dX12_lostAt_3 (by decide) rfl ?_
  exact lp 64 0 (by omega)
/-- readings -/
def mRead (n : Nat) (a : Nat → Int32) : Prop := ∀ r, r < cnt a 4 → (∃ c, c < n ∧ a (280 + 4 * r) = nI c) ∧ (∃ m, m ≤ 99 ∧ a (280 + 4 * r + 1) = nI m) ∧ (∃ b, b ≤ 1 ∧ a (280 + 4 * r + 2) = nI b) ∧ (∃ t, t ≤ 100 ∧ a (280 + 4 * r + 3) = nI t)
def badB (w h : Nat) (a : Nat → Int32) (s kn r : Nat) : Bool := decide (cnt a (280 + 4 * r + 3) ≤ kn ∧ (if (fwk w h a 0 none s (cnt a (280 + 4 * r + 1))).1 (cnt a (280 + 4 * r)) = 1 then 1 else 0) ≠ cnt a (280 + 4 * r + 2))
def letB (w h : Nat) (a : Nat → Int32) (s kn : Nat) : Bool := !anyB (badB w h a s kn) (cnt a 4)
theorem t_isLet {w h : Nat} {I : pvI} {J : pvJ} {P : pvP} {a : Nat → Int32} {s kn : Nat} (hP : pvOkP P) (ha : I 203 = a) (hg : mG a) (hce : mCells a) (hrd : mRead (w * h) a) (hwh : w * h ≤ 64) (hs : s < cnt a 3) (hk : kn ≤ 100) (htb : tbOk w h a I (cnt a 3)) : pvMet mX12_isLet 0 0 0 [.ref 202, .int (nI s), .int (nI kn)] 224 I J P (pvpu (.int (if letB w h a s kn = true then 1 else 0)) 224 I J P) := by
  subst ha
  obtain ⟨nr, nr_b, nr_h⟩ := hg 4 (by decide)
  replace nr_b : nr ≤ 200 := nr_b
  have nr_e : cnt (I 203) 4 = nr := cnt_of nr_h (by omega)
  obtain ⟨ns, ns_b, ns_h⟩ := hg 3 (by decide)
  replace ns_b : ns ≤ 8 := ns_b
  have ns_e : cnt (I 203) 3 = ns := cnt_of ns_h (by omega)
  have lp : ∀ q r, r + q = nr → anyB (badB w h (I 203) s kn) r = false → pvG mX12_isLet (pvR 0 0 0) (pvZ (pvpu (.int (if letB w h (I 203) s kn = true then 1 else 0)) 224 I J P) 0 0) 2 [.ref 202, .int (nI s), .int (nI kn), .int (nI r), .retAddr 0, .retAddr 0] [] 0 0 224 I J P := by
    intro q
    induction q with
    | zero =>
      intro r hr hno
      obtain rfl : r = nr := by omega
      have e : letB w h (I 203) s kn = true := by unfold letB; rw [nr_e, hno]; rfl
      refine g_iload_n dX12_isLet_2 rfl ?_
      refine g_aload_n dX12_isLet_3 rfl ?_
      refine g_getP dX12_isLet_4 fdX12_7 rfl (by first | rfl | exact pv_shx) (by omega) (by omega) (by decide) rfl (hP _ _ _ rfl) ?_
      refine g_iconst (v := nI 4) dX12_isLet_7 (by decide) ?_
      refine n_iald dX12_isLet_8 (by first | rfl | exact pv_shx) (by omega) (by omega) (by decide) (rfl) (by omega) (by repeat (first | exact nr_h | (apply rd_s; done) | apply rd_n (by omega) | apply rp_s | apply rp_n (by omega) | (apply rdL_s; done) | apply rdL_n (by omega) | apply rpJ_s | apply rpJ_n (by omega) | rfl)) ?_
      refine n_icmp_ge 98 dX12_isLet_9 (by decide) (by first | ((with_reducible apply cN_le) <;> omega) | ((with_reducible apply cI_len) <;> omega) | ((with_reducible apply cI_nle) <;> omega) | (with_reducible exact cI_le)) (fun c9 => ?_) (fun c9 => by exfalso; first | omega | exact absurd trivial c9 | exact c9)
      refine g_iconst (v := nI 1) dX12_isLet_98 (by decide) ?_
      exact g_zret (by first | exact Or.inl rfl | exact Or.inr rfl | exact cB01 _) dX12_isLet_99 rfl (⟨by rw [if_pos e]; rfl, rfl, rfl, rfl, rfl⟩)
    | succ q ih =>
      intro r hr hno
      obtain ⟨⟨c, c1, c2⟩, ⟨m, m1, m2⟩, ⟨b, b1, b2⟩, ⟨t, t1, t2⟩⟩ := hrd r (by omega)
      have rt := htb.1 s m c hs m1 (by omega)
      have f2 := (fwk_ok (w := w) (h := h) hce (wl := 0) (s := s) (m := m) (wo := none)).1 c
      have hb : badB w h (I 203) s kn r = decide (t ≤ kn ∧ (if (fwk w h (I 203) 0 none s m).1 c = 1 then 1 else 0) ≠ b) := by
        unfold badB
        rw [cnt_of c2 (by omega), cnt_of m2 (by omega), cnt_of b2 (by omega), cnt_of t2 (by omega)]
      have hs1 : anyB (badB w h (I 203) s kn) (r + 1) = badB w h (I 203) s kn r := by
        show (anyB _ r || _) = _
        rw [hno, Bool.false_or]
      have nxt : ∀ (v4 v5 : Value), ¬ (t ≤ kn ∧ (if (fwk w h (I 203) 0 none s m).1 c = 1 then 1 else 0) ≠ b) → pvG mX12_isLet (pvR 0 0 0) (pvZ (pvpu (.int (if letB w h (I 203) s kn = true then 1 else 0)) 224 I J P) 0 0) 92 [.ref 202, .int (nI s), .int (nI kn), .int (nI r), v4, v5] [] 0 0 224 I J P := by
        intro v4 v5 hn
        refine g_iinc dX12_isLet_92 rfl (by first | (with_reducible exact nI_1 _) | exact nI_1 _ | exact pk_m1 _ | rfl) (by decide) rfl ?_
        refine g_goto 2 dX12_isLet_95 (by decide) ?_
        refine g_drop [.ref 202, .int (nI s), .int (nI kn), .int (nI (r + 1)), .retAddr 0, .retAddr 0] (by repeat (first | exact trivial | refine ⟨Or.inr ⟨_, rfl⟩, ?_⟩ | refine ⟨Or.inl rfl, ?_⟩)) ?_
        exact ih (r + 1) (by omega) (by rw [hs1, hb]; exact decide_eq_false hn)
      have bad : (t ≤ kn ∧ (if (fwk w h (I 203) 0 none s m).1 c = 1 then 1 else 0) ≠ b) → letB w h (I 203) s kn = false := by
        intro hy
        unfold letB
        rw [show anyB (badB w h (I 203) s kn) (cnt (I 203) 4) = true from anyB_iff.mpr ⟨r, by omega, by rw [hb]; exact decide_eq_true hy⟩]
        rfl
      by_cases c3 : (fwk w h (I 203) 0 none s m).1 c = 1
      · rw [if_pos c3] at nxt bad
        rw [c3] at rt
        refine g_iload_n dX12_isLet_2 rfl ?_
        refine g_aload_n dX12_isLet_3 rfl ?_
        refine g_getP dX12_isLet_4 fdX12_7 rfl (by first | rfl | exact pv_shx) (by omega) (by omega) (by decide) rfl (hP _ _ _ rfl) ?_
        refine g_iconst (v := nI 4) dX12_isLet_7 (by decide) ?_
        refine n_iald dX12_isLet_8 (by first | rfl | exact pv_shx) (by omega) (by omega) (by decide) (rfl) (by omega) (by repeat (first | exact nr_h | exact c2 | exact m2 | exact b2 | exact t2 | exact rt | (apply rd_s; done) | apply rd_n (by omega) | apply rp_s | apply rp_n (by omega) | (apply rdL_s; done) | apply rdL_n (by omega) | apply rpJ_s | apply rpJ_n (by omega) | rfl)) ?_
        refine n_icmp_ge 98 dX12_isLet_9 (by decide) (by first | ((with_reducible apply cN_le) <;> omega) | ((with_reducible apply cI_len) <;> omega) | ((with_reducible apply cI_nle) <;> omega) | (with_reducible exact cI_le)) (fun c9 => by exfalso; first | omega | exact absurd trivial c9 | exact c9) (fun c9 => ?_)
        refine g_sipush (v := nI 280) dX12_isLet_12 (by decide) ?_
        refine g_iconst (v := nI 4) dX12_isLet_15 (by decide) ?_
        refine g_iload_n dX12_isLet_16 rfl ?_
        refine n_imul dX12_isLet_17 (by first | (with_reducible exact pk_mul _ _) | rfl) ?_
        refine n_iadd dX12_isLet_18 (by first | (with_reducible exact nI_add _ _) | rfl) ?_
        refine g_istore dX12_isLet_19 (by decide) rfl ?_
        refine g_aload_n dX12_isLet_21 rfl ?_
        refine g_getP dX12_isLet_22 fdX12_48 rfl (by first | rfl | exact pv_shx) (by omega) (by omega) (by decide) rfl (hP _ _ _ rfl) ?_
        refine g_sipush (v := nI 6400) dX12_isLet_25 (by decide) ?_
        refine g_iload_n dX12_isLet_28 rfl ?_
        refine n_imul dX12_isLet_29 (by first | (with_reducible exact pk_mul _ _) | rfl) ?_
        refine g_bipush (v := nI 64) dX12_isLet_30 (by decide) ?_
        refine g_aload_n dX12_isLet_32 rfl ?_
        refine g_getP dX12_isLet_33 fdX12_7 rfl (by first | rfl | exact pv_shx) (by omega) (by omega) (by decide) rfl (hP _ _ _ rfl) ?_
        refine g_iload dX12_isLet_36 rfl ?_
        refine g_iconst (v := nI 1) dX12_isLet_38 (by decide) ?_
        refine n_iadd dX12_isLet_39 (by first | (with_reducible exact nI_add _ _) | rfl) ?_
        refine n_iald dX12_isLet_40 (by first | rfl | exact pv_shx) (by omega) (by omega) (by decide) (rfl) (by omega) (by repeat (first | exact nr_h | exact c2 | exact m2 | exact b2 | exact t2 | exact rt | (apply rd_s; done) | apply rd_n (by omega) | apply rp_s | apply rp_n (by omega) | (apply rdL_s; done) | apply rdL_n (by omega) | apply rpJ_s | apply rpJ_n (by omega) | rfl)) ?_
        refine n_imul dX12_isLet_41 (by first | (with_reducible exact pk_mul _ _) | rfl) ?_
        refine n_iadd dX12_isLet_42 (by first | (with_reducible exact nI_add _ _) | rfl) ?_
        refine g_aload_n dX12_isLet_43 rfl ?_
        refine g_getP dX12_isLet_44 fdX12_7 rfl (by first | rfl | exact pv_shx) (by omega) (by omega) (by decide) rfl (hP _ _ _ rfl) ?_
        refine g_iload dX12_isLet_47 rfl ?_
        refine n_iald dX12_isLet_49 (by first | rfl | exact pv_shx) (by omega) (by omega) (by decide) (rfl) (by omega) (by repeat (first | exact nr_h | exact c2 | exact m2 | exact b2 | exact t2 | exact rt | (apply rd_s; done) | apply rd_n (by omega) | apply rp_s | apply rp_n (by omega) | (apply rdL_s; done) | apply rdL_n (by omega) | apply rpJ_s | apply rpJ_n (by omega) | rfl)) ?_
        refine n_iadd dX12_isLet_50 (by first | (with_reducible exact nI_add _ _) | rfl) ?_
        refine n_iald dX12_isLet_51 (by first | rfl | exact pv_shx) (by omega) (by omega) (by decide) (rfl) (by omega) (by repeat (first | exact nr_h | exact c2 | exact m2 | exact b2 | exact t2 | exact rt | (apply rd_s; done) | apply rd_n (by omega) | apply rp_s | apply rp_n (by omega) | (apply rdL_s; done) | apply rdL_n (by omega) | apply rpJ_s | apply rpJ_n (by omega) | rfl)) ?_
        refine g_iconst (v := nI 1) dX12_isLet_52 (by decide) ?_
        refine n_icmp_ne 60 dX12_isLet_53 (by decide) (by first | ((with_reducible apply cN_eq) <;> omega) | ((with_reducible apply cI_eqn) <;> omega) | exact Iff.rfl) (fun c53 => by exfalso; first | omega | exact absurd trivial c53 | exact c53) (fun c53 => ?_)
        refine g_iconst (v := nI 1) dX12_isLet_56 (by decide) ?_
        refine g_goto 61 dX12_isLet_57 (by decide) ?_
        refine g_istore dX12_isLet_61 (by decide) rfl ?_
        refine g_aload_n dX12_isLet_63 rfl ?_
        refine g_getP dX12_isLet_64 fdX12_7 rfl (by first | rfl | exact pv_shx) (by omega) (by omega) (by decide) rfl (hP _ _ _ rfl) ?_
        refine g_iload dX12_isLet_67 rfl ?_
        refine g_iconst (v := nI 3) dX12_isLet_69 (by decide) ?_
        refine n_iadd dX12_isLet_70 (by first | (with_reducible exact nI_add _ _) | rfl) ?_
        refine n_iald dX12_isLet_71 (by first | rfl | exact pv_shx) (by omega) (by omega) (by decide) (rfl) (by omega) (by repeat (first | exact nr_h | exact c2 | exact m2 | exact b2 | exact t2 | exact rt | (apply rd_s; done) | apply rd_n (by omega) | apply rp_s | apply rp_n (by omega) | (apply rdL_s; done) | apply rdL_n (by omega) | apply rpJ_s | apply rpJ_n (by omega) | rfl)) ?_
        refine g_iload_n dX12_isLet_72 rfl ?_
        refine n_icmp_gt 92 dX12_isLet_73 (by decide) (by first | ((with_reducible apply cN_lt) <;> omega) | ((with_reducible apply cI_ltn) <;> omega) | ((with_reducible apply cI_nlt) <;> omega) | (with_reducible exact cI_lt)) (fun c73 => ?_) (fun c73 => ?_)
        · skip
          exact nxt _ _ (by omega)
        · skip
          refine g_iload dX12_isLet_76 rfl ?_
          refine g_aload_n dX12_isLet_78 rfl ?_
          refine g_getP dX12_isLet_79 fdX12_7 rfl (by first | rfl | exact pv_shx) (by omega) (by omega) (by decide) rfl (hP _ _ _ rfl) ?_
          refine g_iload dX12_isLet_82 rfl ?_
          refine g_iconst (v := nI 2) dX12_isLet_84 (by decide) ?_
          refine n_iadd dX12_isLet_85 (by first | (with_reducible exact nI_add _ _) | rfl) ?_
          refine n_iald dX12_isLet_86 (by first | rfl | exact pv_shx) (by omega) (by omega) (by decide) (rfl) (by omega) (by repeat (first | exact nr_h | exact c2 | exact m2 | exact b2 | exact t2 | exact rt | (apply rd_s; done) | apply rd_n (by omega) | apply rp_s | apply rp_n (by omega) | (apply rdL_s; done) | apply rdL_n (by omega) | apply rpJ_s | apply rpJ_n (by omega) | rfl)) ?_
          refine n_icmp_eq 92 dX12_isLet_87 (by decide) (by first | ((with_reducible apply cN_eq) <;> omega) | ((with_reducible apply cI_eqn) <;> omega) | exact Iff.rfl) (fun c87 => ?_) (fun c87 => ?_)
          · skip
            exact nxt _ _ (by omega)
          · skip
            refine g_iconst (v := nI 0) dX12_isLet_90 (by decide) ?_
            exact g_zret (by first | exact Or.inl rfl | exact Or.inr rfl | exact cB01 _) dX12_isLet_91 rfl (⟨by rw [if_neg (by rw [bad (by omega)]; decide)]; rfl, rfl, rfl, rfl, rfl⟩)
      · rw [if_neg c3] at nxt bad
        refine g_iload_n dX12_isLet_2 rfl ?_
        refine g_aload_n dX12_isLet_3 rfl ?_
        refine g_getP dX12_isLet_4 fdX12_7 rfl (by first | rfl | exact pv_shx) (by omega) (by omega) (by decide) rfl (hP _ _ _ rfl) ?_
        refine g_iconst (v := nI 4) dX12_isLet_7 (by decide) ?_
        refine n_iald dX12_isLet_8 (by first | rfl | exact pv_shx) (by omega) (by omega) (by decide) (rfl) (by omega) (by repeat (first | exact nr_h | exact c2 | exact m2 | exact b2 | exact t2 | exact rt | (apply rd_s; done) | apply rd_n (by omega) | apply rp_s | apply rp_n (by omega) | (apply rdL_s; done) | apply rdL_n (by omega) | apply rpJ_s | apply rpJ_n (by omega) | rfl)) ?_
        refine n_icmp_ge 98 dX12_isLet_9 (by decide) (by first | ((with_reducible apply cN_le) <;> omega) | ((with_reducible apply cI_len) <;> omega) | ((with_reducible apply cI_nle) <;> omega) | (with_reducible exact cI_le)) (fun c9 => by exfalso; first | omega | exact absurd trivial c9 | exact c9) (fun c9 => ?_)
        refine g_sipush (v := nI 280) dX12_isLet_12 (by decide) ?_
        refine g_iconst (v := nI 4) dX12_isLet_15 (by decide) ?_
        refine g_iload_n dX12_isLet_16 rfl ?_
        refine n_imul dX12_isLet_17 (by first | (with_reducible exact pk_mul _ _) | rfl) ?_
        refine n_iadd dX12_isLet_18 (by first | (with_reducible exact nI_add _ _) | rfl) ?_
        refine g_istore dX12_isLet_19 (by decide) rfl ?_
        refine g_aload_n dX12_isLet_21 rfl ?_
        refine g_getP dX12_isLet_22 fdX12_48 rfl (by first | rfl | exact pv_shx) (by omega) (by omega) (by decide) rfl (hP _ _ _ rfl) ?_
        refine g_sipush (v := nI 6400) dX12_isLet_25 (by decide) ?_
        refine g_iload_n dX12_isLet_28 rfl ?_
        refine n_imul dX12_isLet_29 (by first | (with_reducible exact pk_mul _ _) | rfl) ?_
        refine g_bipush (v := nI 64) dX12_isLet_30 (by decide) ?_
        refine g_aload_n dX12_isLet_32 rfl ?_
        refine g_getP dX12_isLet_33 fdX12_7 rfl (by first | rfl | exact pv_shx) (by omega) (by omega) (by decide) rfl (hP _ _ _ rfl) ?_
        refine g_iload dX12_isLet_36 rfl ?_
        refine g_iconst (v := nI 1) dX12_isLet_38 (by decide) ?_
        refine n_iadd dX12_isLet_39 (by first | (with_reducible exact nI_add _ _) | rfl) ?_
        refine n_iald dX12_isLet_40 (by first | rfl | exact pv_shx) (by omega) (by omega) (by decide) (rfl) (by omega) (by repeat (first | exact nr_h | exact c2 | exact m2 | exact b2 | exact t2 | exact rt | (apply rd_s; done) | apply rd_n (by omega) | apply rp_s | apply rp_n (by omega) | (apply rdL_s; done) | apply rdL_n (by omega) | apply rpJ_s | apply rpJ_n (by omega) | rfl)) ?_
        refine n_imul dX12_isLet_41 (by first | (with_reducible exact pk_mul _ _) | rfl) ?_
        refine n_iadd dX12_isLet_42 (by first | (with_reducible exact nI_add _ _) | rfl) ?_
        refine g_aload_n dX12_isLet_43 rfl ?_
        refine g_getP dX12_isLet_44 fdX12_7 rfl (by first | rfl | exact pv_shx) (by omega) (by omega) (by decide) rfl (hP _ _ _ rfl) ?_
        refine g_iload dX12_isLet_47 rfl ?_
        refine n_iald dX12_isLet_49 (by first | rfl | exact pv_shx) (by omega) (by omega) (by decide) (rfl) (by omega) (by repeat (first | exact nr_h | exact c2 | exact m2 | exact b2 | exact t2 | exact rt | (apply rd_s; done) | apply rd_n (by omega) | apply rp_s | apply rp_n (by omega) | (apply rdL_s; done) | apply rdL_n (by omega) | apply rpJ_s | apply rpJ_n (by omega) | rfl)) ?_
        refine n_iadd dX12_isLet_50 (by first | (with_reducible exact nI_add _ _) | rfl) ?_
        refine n_iald dX12_isLet_51 (by first | rfl | exact pv_shx) (by omega) (by omega) (by decide) (rfl) (by omega) (by repeat (first | exact nr_h | exact c2 | exact m2 | exact b2 | exact t2 | exact rt | (apply rd_s; done) | apply rd_n (by omega) | apply rp_s | apply rp_n (by omega) | (apply rdL_s; done) | apply rdL_n (by omega) | apply rpJ_s | apply rpJ_n (by omega) | rfl)) ?_
        refine g_iconst (v := nI 1) dX12_isLet_52 (by decide) ?_
        refine n_icmp_ne 60 dX12_isLet_53 (by decide) (by first | ((with_reducible apply cN_eq) <;> omega) | ((with_reducible apply cI_eqn) <;> omega) | exact Iff.rfl) (fun c53 => ?_) (fun c53 => by exfalso; first | omega | exact absurd trivial c53 | exact c53)
        refine g_iconst (v := nI 0) dX12_isLet_60 (by decide) ?_
        refine g_istore dX12_isLet_61 (by decide) rfl ?_
        refine g_aload_n dX12_isLet_63 rfl ?_
        refine g_getP dX12_isLet_64 fdX12_7 rfl (by first | rfl | exact pv_shx) (by omega) (by omega) (by decide) rfl (hP _ _ _ rfl) ?_
        refine g_iload dX12_isLet_67 rfl ?_
        refine g_iconst (v := nI 3) dX12_isLet_69 (by decide) ?_
        refine n_iadd dX12_isLet_70 (by first | (with_reducible exact nI_add _ _) | rfl) ?_
        refine n_iald dX12_isLet_71 (by first | rfl | exact pv_shx) (by omega) (by omega) (by decide) (rfl) (by omega) (by repeat (first | exact nr_h | exact c2 | exact m2 | exact b2 | exact t2 | exact rt | (apply rd_s; done) | apply rd_n (by omega) | apply rp_s | apply rp_n (by omega) | (apply rdL_s; done) | apply rdL_n (by omega) | apply rpJ_s | apply rpJ_n (by omega) | rfl)) ?_
        refine g_iload_n dX12_isLet_72 rfl ?_
        refine n_icmp_gt 92 dX12_isLet_73 (by decide) (by first | ((with_reducible apply cN_lt) <;> omega) | ((with_reducible apply cI_ltn) <;> omega) | ((with_reducible apply cI_nlt) <;> omega) | (with_reducible exact cI_lt)) (fun c73 => ?_) (fun c73 => ?_)
        · skip
          exact nxt _ _ (by omega)
        · skip
          refine g_iload dX12_isLet_76 rfl ?_
          refine g_aload_n dX12_isLet_78 rfl ?_
          refine g_getP dX12_isLet_79 fdX12_7 rfl (by first | rfl | exact pv_shx) (by omega) (by omega) (by decide) rfl (hP _ _ _ rfl) ?_
          refine g_iload dX12_isLet_82 rfl ?_
          refine g_iconst (v := nI 2) dX12_isLet_84 (by decide) ?_
          refine n_iadd dX12_isLet_85 (by first | (with_reducible exact nI_add _ _) | rfl) ?_
          refine n_iald dX12_isLet_86 (by first | rfl | exact pv_shx) (by omega) (by omega) (by decide) (rfl) (by omega) (by repeat (first | exact nr_h | exact c2 | exact m2 | exact b2 | exact t2 | exact rt | (apply rd_s; done) | apply rd_n (by omega) | apply rp_s | apply rp_n (by omega) | (apply rdL_s; done) | apply rdL_n (by omega) | apply rpJ_s | apply rpJ_n (by omega) | rfl)) ?_
          refine n_icmp_eq 92 dX12_isLet_87 (by decide) (by first | ((with_reducible apply cN_eq) <;> omega) | ((with_reducible apply cI_eqn) <;> omega) | exact Iff.rfl) (fun c87 => ?_) (fun c87 => ?_)
          · skip
            exact nxt _ _ (by omega)
          · skip
            refine g_iconst (v := nI 0) dX12_isLet_90 (by decide) ?_
            exact g_zret (by first | exact Or.inl rfl | exact Or.inr rfl | exact cB01 _) dX12_isLet_91 rfl (⟨by rw [if_neg (by rw [bad (by omega)]; decide)]; rfl, rfl, rfl, rfl, rfl⟩)
  refine pvMet.of _ (by decide) rfl (Nat.le_of_ble_eq_true rfl) ?_
  refine g_iconst (v := nI 0) dX12_isLet_0 (by decide) ?_
  refine g_istore_n dX12_isLet_1 (by decide) rfl ?_
  exact lp nr 0 (by omega) rfl
theorem t_manyLet {w h : Nat} {I : pvI} {J : pvJ} {P : pvP} {a : Nat → Int32} {kn : Nat} (hP : pvOkP P) (ha : I 203 = a) (hg : mG a) (hce : mCells a) (hrd : mRead (w * h) a) (hwh : w * h ≤ 64) (hk : kn ≤ 100) (htb : tbOk w h a I (cnt a 3)) : pvMet mX12_manyLet 1 0 0 [.ref 202, .int (nI kn)] 224 I J P (pvpu (.int (nI (sp_ct (fun s => letB w h a s kn = true) (cnt a 3)))) 224 I J P) := by
  obtain ⟨ns, ns_b, ns_h⟩ := hg 3 (by decide)
  replace ns_b : ns ≤ 8 := ns_b
  have ns_e : cnt a 3 = ns := cnt_of ns_h (by omega)
  have r3 : I 203 3 = nI ns := by rw [ha]; exact ns_h
  have lp : ∀ q s, s + q = ns → pvG mX12_manyLet (pvR 1 0 0) (pvZ (pvpu (.int (nI (sp_ct (fun s => letB w h a s kn = true) (cnt a 3)))) 224 I J P) 0 0) 4 [.ref 202, .int (nI kn), .int (nI (sp_ct (fun s => letB w h a s kn = true) s)), .int (nI s)] [] 0 0 224 I J P := by
    intro q
    induction q with
    | zero =>
      intro s hs
      obtain rfl : s = cnt a 3 := by omega
      refine g_iload_n dX12_manyLet_4 rfl ?_
      refine g_aload_n dX12_manyLet_5 rfl ?_
      refine g_getP dX12_manyLet_6 fdX12_7 rfl (by first | rfl | exact pv_shx) (by omega) (by omega) (by decide) rfl (hP _ _ _ rfl) ?_
      refine g_iconst (v := nI 3) dX12_manyLet_9 (by decide) ?_
      refine n_iald dX12_manyLet_10 (by first | rfl | exact pv_shx) (by omega) (by omega) (by decide) (rfl) (by omega) (by repeat (first | exact r3 | (apply rd_s; done) | apply rd_n (by omega) | apply rp_s | apply rp_n (by omega) | (apply rdL_s; done) | apply rdL_n (by omega) | apply rpJ_s | apply rpJ_n (by omega) | rfl)) ?_
      refine n_icmp_ge 37 dX12_manyLet_11 (by decide) (by first | ((with_reducible apply cN_le) <;> omega) | ((with_reducible apply cI_len) <;> omega) | ((with_reducible apply cI_nle) <;> omega) | (with_reducible exact cI_le)) (fun c11 => ?_) (fun c11 => by exfalso; first | omega | exact absurd trivial c11 | exact c11)
      refine g_iload_n dX12_manyLet_37 rfl ?_
      exact g_iret dX12_manyLet_38 rfl (⟨rfl, rfl, rfl, rfl, rfl⟩)
    | succ q ih =>
      intro s hs
      have h4 := ih (s + 1) (by omega)
      have hle := sp_ct_le (p := fun s => letB w h a s kn = true) s
      rw [show sp_ct (fun s => letB w h a s kn = true) (s + 1) = sp_ct (fun s => letB w h a s kn = true) s + if letB w h a s kn = true then 1 else 0 from rfl] at h4
      have hl := t_isLet (J := J) (s := s) hP ha hg hce hrd hwh (by omega) hk htb
      by_cases c1 : letB w h a s kn = true
      · rw [if_pos c1] at h4
        refine g_iload_n dX12_manyLet_4 rfl ?_
        refine g_aload_n dX12_manyLet_5 rfl ?_
        refine g_getP dX12_manyLet_6 fdX12_7 rfl (by first | rfl | exact pv_shx) (by omega) (by omega) (by decide) rfl (hP _ _ _ rfl) ?_
        refine g_iconst (v := nI 3) dX12_manyLet_9 (by decide) ?_
        refine n_iald dX12_manyLet_10 (by first | rfl | exact pv_shx) (by omega) (by omega) (by decide) (rfl) (by omega) (by repeat (first | exact r3 | (apply rd_s; done) | apply rd_n (by omega) | apply rp_s | apply rp_n (by omega) | (apply rdL_s; done) | apply rdL_n (by omega) | apply rpJ_s | apply rpJ_n (by omega) | rfl)) ?_
        refine n_icmp_ge 37 dX12_manyLet_11 (by decide) (by first | ((with_reducible apply cN_le) <;> omega) | ((with_reducible apply cI_len) <;> omega) | ((with_reducible apply cI_nle) <;> omega) | (with_reducible exact cI_le)) (fun c11 => by exfalso; first | omega | exact absurd trivial c11 | exact c11) (fun c11 => ?_)
        refine g_iload_n dX12_manyLet_14 rfl ?_
        refine g_aload_n dX12_manyLet_15 rfl ?_
        refine g_iload_n dX12_manyLet_16 rfl ?_
        refine g_iload_n dX12_manyLet_17 rfl ?_
        refine p_callV (hl) okX12_isLet lkX12_145 rfl (by first | rfl | exact pv_shx) rfl (by omega) (by omega) dX12_manyLet_18 rfl (Nat.le_of_ble_eq_true rfl) (⟨by decide, by decide, by decide, by decide⟩) ?_
        refine n_if_eq 28 dX12_manyLet_21 (by decide) (by first | (with_reducible exact cB _) | ((with_reducible apply cN_eq0) <;> omega) | exact Iff.rfl) (fun c21 => by exfalso; exact c21 c1) (fun c21 => ?_)
        refine g_iconst (v := nI 1) dX12_manyLet_24 (by decide) ?_
        refine g_goto 29 dX12_manyLet_25 (by decide) ?_
        refine n_iadd dX12_manyLet_29 (by first | (with_reducible exact nI_add _ _) | rfl) ?_
        refine g_istore_n dX12_manyLet_30 (by decide) rfl ?_
        refine g_iinc dX12_manyLet_31 rfl (by first | (with_reducible exact nI_1 _) | exact nI_1 _ | exact pk_m1 _ | rfl) (by decide) rfl ?_
        refine g_goto 4 dX12_manyLet_34 (by decide) ?_
        exact h4
      · rw [if_neg c1] at h4
        refine g_iload_n dX12_manyLet_4 rfl ?_
        refine g_aload_n dX12_manyLet_5 rfl ?_
        refine g_getP dX12_manyLet_6 fdX12_7 rfl (by first | rfl | exact pv_shx) (by omega) (by omega) (by decide) rfl (hP _ _ _ rfl) ?_
        refine g_iconst (v := nI 3) dX12_manyLet_9 (by decide) ?_
        refine n_iald dX12_manyLet_10 (by first | rfl | exact pv_shx) (by omega) (by omega) (by decide) (rfl) (by omega) (by repeat (first | exact r3 | (apply rd_s; done) | apply rd_n (by omega) | apply rp_s | apply rp_n (by omega) | (apply rdL_s; done) | apply rdL_n (by omega) | apply rpJ_s | apply rpJ_n (by omega) | rfl)) ?_
        refine n_icmp_ge 37 dX12_manyLet_11 (by decide) (by first | ((with_reducible apply cN_le) <;> omega) | ((with_reducible apply cI_len) <;> omega) | ((with_reducible apply cI_nle) <;> omega) | (with_reducible exact cI_le)) (fun c11 => by exfalso; first | omega | exact absurd trivial c11 | exact c11) (fun c11 => ?_)
        refine g_iload_n dX12_manyLet_14 rfl ?_
        refine g_aload_n dX12_manyLet_15 rfl ?_
        refine g_iload_n dX12_manyLet_16 rfl ?_
        refine g_iload_n dX12_manyLet_17 rfl ?_
        refine p_callV (hl) okX12_isLet lkX12_145 rfl (by first | rfl | exact pv_shx) rfl (by omega) (by omega) dX12_manyLet_18 rfl (Nat.le_of_ble_eq_true rfl) (⟨by decide, by decide, by decide, by decide⟩) ?_
        refine n_if_eq 28 dX12_manyLet_21 (by decide) (by first | (with_reducible exact cB _) | ((with_reducible apply cN_eq0) <;> omega) | exact Iff.rfl) (fun c21 => ?_) (fun c21 => by exfalso; exact c21 c1)
        refine g_iconst (v := nI 0) dX12_manyLet_28 (by decide) ?_
        refine n_iadd dX12_manyLet_29 (by first | (with_reducible exact nI_add _ _) | rfl) ?_
        refine g_istore_n dX12_manyLet_30 (by decide) rfl ?_
        refine g_iinc dX12_manyLet_31 rfl (by first | (with_reducible exact nI_1 _) | exact nI_1 _ | exact pk_m1 _ | rfl) (by decide) rfl ?_
        refine g_goto 4 dX12_manyLet_34 (by decide) ?_
        exact h4
  refine pvMet.of _ (by decide) rfl (Nat.le_of_ble_eq_true rfl) ?_
  refine g_iconst (v := nI 0) dX12_manyLet_0 (by decide) ?_
  refine g_istore_n dX12_manyLet_1 (by decide) rfl ?_
  refine g_iconst (v := nI 0) dX12_manyLet_2 (by decide) ?_
  refine g_istore_n dX12_manyLet_3 (by decide) rfl ?_
  exact lp ns 0 (by omega)
theorem t_manyBurn {w h : Nat} {I : pvI} {J : pvJ} {P : pvP} {a : Nat → Int32} {c m kn : Nat} (hP : pvOkP P) (ha : I 203 = a) (hg : mG a) (hce : mCells a) (hrd : mRead (w * h) a) (hwh : w * h ≤ 64) (hc : c < 64) (hm : m ≤ 99) (hk : kn ≤ 100) (htb : tbOk w h a I (cnt a 3)) : pvMet mX12_manyBurn 1 0 0 [.ref 202, .int (nI c), .int (nI m), .int (nI kn)] 224 I J P (pvpu (.int (nI (sp_ct (fun s => letB w h a s kn = true ∧ (fwk w h a 0 none s m).1 c = 1) (cnt a 3)))) 224 I J P) := by
  obtain ⟨ns, ns_b, ns_h⟩ := hg 3 (by decide)
  replace ns_b : ns ≤ 8 := ns_b
  have ns_e : cnt a 3 = ns := cnt_of ns_h (by omega)
  have r3 : I 203 3 = nI ns := by rw [ha]; exact ns_h
  have lp : ∀ q s, s + q = ns → pvG mX12_manyBurn (pvR 1 0 0) (pvZ (pvpu (.int (nI (sp_ct (fun s => letB w h a s kn = true ∧ (fwk w h a 0 none s m).1 c = 1) (cnt a 3)))) 224 I J P) 0 0) 6 [.ref 202, .int (nI c), .int (nI m), .int (nI kn), .int (nI (sp_ct (fun s => letB w h a s kn = true ∧ (fwk w h a 0 none s m).1 c = 1) s)), .int (nI s)] [] 0 0 224 I J P := by
    intro q
    induction q with
    | zero =>
      intro s hs
      obtain rfl : s = cnt a 3 := by omega
      refine g_iload dX12_manyBurn_6 rfl ?_
      refine g_aload_n dX12_manyBurn_8 rfl ?_
      refine g_getP dX12_manyBurn_9 fdX12_7 rfl (by first | rfl | exact pv_shx) (by omega) (by omega) (by decide) rfl (hP _ _ _ rfl) ?_
      refine g_iconst (v := nI 3) dX12_manyBurn_12 (by decide) ?_
      refine n_iald dX12_manyBurn_13 (by first | rfl | exact pv_shx) (by omega) (by omega) (by decide) (rfl) (by omega) (by repeat (first | exact r3 | (apply rd_s; done) | apply rd_n (by omega) | apply rp_s | apply rp_n (by omega) | (apply rdL_s; done) | apply rdL_n (by omega) | apply rpJ_s | apply rpJ_n (by omega) | rfl)) ?_
      refine n_icmp_ge 65 dX12_manyBurn_14 (by decide) (by first | ((with_reducible apply cN_le) <;> omega) | ((with_reducible apply cI_len) <;> omega) | ((with_reducible apply cI_nle) <;> omega) | (with_reducible exact cI_le)) (fun c14 => ?_) (fun c14 => by exfalso; first | omega | exact absurd trivial c14 | exact c14)
      refine g_iload dX12_manyBurn_65 rfl ?_
      exact g_iret dX12_manyBurn_67 rfl (⟨rfl, rfl, rfl, rfl, rfl⟩)
    | succ q ih =>
      intro s hs
      have h4 := ih (s + 1) (by omega)
      have hle := sp_ct_le (p := fun s => letB w h a s kn = true ∧ (fwk w h a 0 none s m).1 c = 1) s
      rw [show sp_ct (fun s => letB w h a s kn = true ∧ (fwk w h a 0 none s m).1 c = 1) (s + 1) = sp_ct (fun s => letB w h a s kn = true ∧ (fwk w h a 0 none s m).1 c = 1) s + if letB w h a s kn = true ∧ (fwk w h a 0 none s m).1 c = 1 then 1 else 0 from rfl] at h4
      have hl := t_isLet (J := J) (s := s) hP ha hg hce hrd hwh (by omega) hk htb
      have rt := htb.1 s m c (by omega) hm hc
      have f2 := (fwk_ok (w := w) (h := h) hce (wl := 0) (s := s) (m := m) (wo := none)).1 c
      by_cases c1 : letB w h a s kn = true
      · by_cases c2 : (fwk w h a 0 none s m).1 c = 1
        · rw [if_pos ⟨c1, c2⟩] at h4
          refine g_iload dX12_manyBurn_6 rfl ?_
          refine g_aload_n dX12_manyBurn_8 rfl ?_
          refine g_getP dX12_manyBurn_9 fdX12_7 rfl (by first | rfl | exact pv_shx) (by omega) (by omega) (by decide) rfl (hP _ _ _ rfl) ?_
          refine g_iconst (v := nI 3) dX12_manyBurn_12 (by decide) ?_
          refine n_iald dX12_manyBurn_13 (by first | rfl | exact pv_shx) (by omega) (by omega) (by decide) (rfl) (by omega) (by repeat (first | exact r3 | exact rt | (apply rd_s; done) | apply rd_n (by omega) | apply rp_s | apply rp_n (by omega) | (apply rdL_s; done) | apply rdL_n (by omega) | apply rpJ_s | apply rpJ_n (by omega) | rfl)) ?_
          refine n_icmp_ge 65 dX12_manyBurn_14 (by decide) (by first | ((with_reducible apply cN_le) <;> omega) | ((with_reducible apply cI_len) <;> omega) | ((with_reducible apply cI_nle) <;> omega) | (with_reducible exact cI_le)) (fun c14 => by exfalso; first | omega | exact absurd trivial c14 | exact c14) (fun c14 => ?_)
          refine g_iload dX12_manyBurn_17 rfl ?_
          refine g_aload_n dX12_manyBurn_19 rfl ?_
          refine g_iload dX12_manyBurn_20 rfl ?_
          refine g_iload_n dX12_manyBurn_22 rfl ?_
          refine p_callV (hl) okX12_isLet lkX12_145 rfl (by first | rfl | exact pv_shx) rfl (by omega) (by omega) dX12_manyBurn_23 rfl (Nat.le_of_ble_eq_true rfl) (⟨by decide, by decide, by decide, by decide⟩) ?_
          refine n_if_eq 55 dX12_manyBurn_26 (by decide) (by first | (with_reducible exact cB _) | ((with_reducible apply cN_eq0) <;> omega) | exact Iff.rfl) (fun c26 => by exfalso; exact c26 c1) (fun c26 => ?_)
          refine g_aload_n dX12_manyBurn_29 rfl ?_
          refine g_getP dX12_manyBurn_30 fdX12_48 rfl (by first | rfl | exact pv_shx) (by omega) (by omega) (by decide) rfl (hP _ _ _ rfl) ?_
          refine g_sipush (v := nI 6400) dX12_manyBurn_33 (by decide) ?_
          refine g_iload dX12_manyBurn_36 rfl ?_
          refine n_imul dX12_manyBurn_38 (by first | (with_reducible exact pk_mul _ _) | rfl) ?_
          refine g_bipush (v := nI 64) dX12_manyBurn_39 (by decide) ?_
          refine g_iload_n dX12_manyBurn_41 rfl ?_
          refine n_imul dX12_manyBurn_42 (by first | (with_reducible exact pk_mul _ _) | rfl) ?_
          refine n_iadd dX12_manyBurn_43 (by first | (with_reducible exact nI_add _ _) | rfl) ?_
          refine g_iload_n dX12_manyBurn_44 rfl ?_
          refine n_iadd dX12_manyBurn_45 (by first | (with_reducible exact nI_add _ _) | rfl) ?_
          refine n_iald dX12_manyBurn_46 (by first | rfl | exact pv_shx) (by omega) (by omega) (by decide) (rfl) (by omega) (by repeat (first | exact r3 | exact rt | (apply rd_s; done) | apply rd_n (by omega) | apply rp_s | apply rp_n (by omega) | (apply rdL_s; done) | apply rdL_n (by omega) | apply rpJ_s | apply rpJ_n (by omega) | rfl)) ?_
          refine g_iconst (v := nI 1) dX12_manyBurn_47 (by decide) ?_
          refine n_icmp_ne 55 dX12_manyBurn_48 (by decide) (by first | ((with_reducible apply cN_eq) <;> omega) | ((with_reducible apply cI_eqn) <;> omega) | exact Iff.rfl) (fun c48 => by exfalso; first | omega | exact absurd trivial c48 | exact c48) (fun c48 => ?_)
          refine g_iconst (v := nI 1) dX12_manyBurn_51 (by decide) ?_
          refine g_goto 56 dX12_manyBurn_52 (by decide) ?_
          refine n_iadd dX12_manyBurn_56 (by first | (with_reducible exact nI_add _ _) | rfl) ?_
          refine g_istore dX12_manyBurn_57 (by decide) rfl ?_
          refine g_iinc dX12_manyBurn_59 rfl (by first | (with_reducible exact nI_1 _) | exact nI_1 _ | exact pk_m1 _ | rfl) (by decide) rfl ?_
          refine g_goto 6 dX12_manyBurn_62 (by decide) ?_
          exact h4
        · rw [if_neg (fun z => c2 z.2)] at h4
          refine g_iload dX12_manyBurn_6 rfl ?_
          refine g_aload_n dX12_manyBurn_8 rfl ?_
          refine g_getP dX12_manyBurn_9 fdX12_7 rfl (by first | rfl | exact pv_shx) (by omega) (by omega) (by decide) rfl (hP _ _ _ rfl) ?_
          refine g_iconst (v := nI 3) dX12_manyBurn_12 (by decide) ?_
          refine n_iald dX12_manyBurn_13 (by first | rfl | exact pv_shx) (by omega) (by omega) (by decide) (rfl) (by omega) (by repeat (first | exact r3 | exact rt | (apply rd_s; done) | apply rd_n (by omega) | apply rp_s | apply rp_n (by omega) | (apply rdL_s; done) | apply rdL_n (by omega) | apply rpJ_s | apply rpJ_n (by omega) | rfl)) ?_
          refine n_icmp_ge 65 dX12_manyBurn_14 (by decide) (by first | ((with_reducible apply cN_le) <;> omega) | ((with_reducible apply cI_len) <;> omega) | ((with_reducible apply cI_nle) <;> omega) | (with_reducible exact cI_le)) (fun c14 => by exfalso; first | omega | exact absurd trivial c14 | exact c14) (fun c14 => ?_)
          refine g_iload dX12_manyBurn_17 rfl ?_
          refine g_aload_n dX12_manyBurn_19 rfl ?_
          refine g_iload dX12_manyBurn_20 rfl ?_
          refine g_iload_n dX12_manyBurn_22 rfl ?_
          refine p_callV (hl) okX12_isLet lkX12_145 rfl (by first | rfl | exact pv_shx) rfl (by omega) (by omega) dX12_manyBurn_23 rfl (Nat.le_of_ble_eq_true rfl) (⟨by decide, by decide, by decide, by decide⟩) ?_
          refine n_if_eq 55 dX12_manyBurn_26 (by decide) (by first | (with_reducible exact cB _) | ((with_reducible apply cN_eq0) <;> omega) | exact Iff.rfl) (fun c26 => by exfalso; exact c26 c1) (fun c26 => ?_)
          refine g_aload_n dX12_manyBurn_29 rfl ?_
          refine g_getP dX12_manyBurn_30 fdX12_48 rfl (by first | rfl | exact pv_shx) (by omega) (by omega) (by decide) rfl (hP _ _ _ rfl) ?_
          refine g_sipush (v := nI 6400) dX12_manyBurn_33 (by decide) ?_
          refine g_iload dX12_manyBurn_36 rfl ?_
          refine n_imul dX12_manyBurn_38 (by first | (with_reducible exact pk_mul _ _) | rfl) ?_
          refine g_bipush (v := nI 64) dX12_manyBurn_39 (by decide) ?_
          refine g_iload_n dX12_manyBurn_41 rfl ?_
          refine n_imul dX12_manyBurn_42 (by first | (with_reducible exact pk_mul _ _) | rfl) ?_
          refine n_iadd dX12_manyBurn_43 (by first | (with_reducible exact nI_add _ _) | rfl) ?_
          refine g_iload_n dX12_manyBurn_44 rfl ?_
          refine n_iadd dX12_manyBurn_45 (by first | (with_reducible exact nI_add _ _) | rfl) ?_
          refine n_iald dX12_manyBurn_46 (by first | rfl | exact pv_shx) (by omega) (by omega) (by decide) (rfl) (by omega) (by repeat (first | exact r3 | exact rt | (apply rd_s; done) | apply rd_n (by omega) | apply rp_s | apply rp_n (by omega) | (apply rdL_s; done) | apply rdL_n (by omega) | apply rpJ_s | apply rpJ_n (by omega) | rfl)) ?_
          refine g_iconst (v := nI 1) dX12_manyBurn_47 (by decide) ?_
          refine n_icmp_ne 55 dX12_manyBurn_48 (by decide) (by first | ((with_reducible apply cN_eq) <;> omega) | ((with_reducible apply cI_eqn) <;> omega) | exact Iff.rfl) (fun c48 => ?_) (fun c48 => by exfalso; first | omega | exact absurd trivial c48 | exact c48)
          refine g_iconst (v := nI 0) dX12_manyBurn_55 (by decide) ?_
          refine n_iadd dX12_manyBurn_56 (by first | (with_reducible exact nI_add _ _) | rfl) ?_
          refine g_istore dX12_manyBurn_57 (by decide) rfl ?_
          refine g_iinc dX12_manyBurn_59 rfl (by first | (with_reducible exact nI_1 _) | exact nI_1 _ | exact pk_m1 _ | rfl) (by decide) rfl ?_
          refine g_goto 6 dX12_manyBurn_62 (by decide) ?_
          exact h4
      · rw [if_neg (fun z => c1 z.1)] at h4
        refine g_iload dX12_manyBurn_6 rfl ?_
        refine g_aload_n dX12_manyBurn_8 rfl ?_
        refine g_getP dX12_manyBurn_9 fdX12_7 rfl (by first | rfl | exact pv_shx) (by omega) (by omega) (by decide) rfl (hP _ _ _ rfl) ?_
        refine g_iconst (v := nI 3) dX12_manyBurn_12 (by decide) ?_
        refine n_iald dX12_manyBurn_13 (by first | rfl | exact pv_shx) (by omega) (by omega) (by decide) (rfl) (by omega) (by repeat (first | exact r3 | exact rt | (apply rd_s; done) | apply rd_n (by omega) | apply rp_s | apply rp_n (by omega) | (apply rdL_s; done) | apply rdL_n (by omega) | apply rpJ_s | apply rpJ_n (by omega) | rfl)) ?_
        refine n_icmp_ge 65 dX12_manyBurn_14 (by decide) (by first | ((with_reducible apply cN_le) <;> omega) | ((with_reducible apply cI_len) <;> omega) | ((with_reducible apply cI_nle) <;> omega) | (with_reducible exact cI_le)) (fun c14 => by exfalso; first | omega | exact absurd trivial c14 | exact c14) (fun c14 => ?_)
        refine g_iload dX12_manyBurn_17 rfl ?_
        refine g_aload_n dX12_manyBurn_19 rfl ?_
        refine g_iload dX12_manyBurn_20 rfl ?_
        refine g_iload_n dX12_manyBurn_22 rfl ?_
        refine p_callV (hl) okX12_isLet lkX12_145 rfl (by first | rfl | exact pv_shx) rfl (by omega) (by omega) dX12_manyBurn_23 rfl (Nat.le_of_ble_eq_true rfl) (⟨by decide, by decide, by decide, by decide⟩) ?_
        refine n_if_eq 55 dX12_manyBurn_26 (by decide) (by first | (with_reducible exact cB _) | ((with_reducible apply cN_eq0) <;> omega) | exact Iff.rfl) (fun c26 => ?_) (fun c26 => by exfalso; exact c26 c1)
        refine g_iconst (v := nI 0) dX12_manyBurn_55 (by decide) ?_
        refine n_iadd dX12_manyBurn_56 (by first | (with_reducible exact nI_add _ _) | rfl) ?_
        refine g_istore dX12_manyBurn_57 (by decide) rfl ?_
        refine g_iinc dX12_manyBurn_59 rfl (by first | (with_reducible exact nI_1 _) | exact nI_1 _ | exact pk_m1 _ | rfl) (by decide) rfl ?_
        refine g_goto 6 dX12_manyBurn_62 (by decide) ?_
        exact h4
  refine pvMet.of _ (by decide) rfl (Nat.le_of_ble_eq_true rfl) ?_
  refine g_iconst (v := nI 0) dX12_manyBurn_0 (by decide) ?_
  refine g_istore dX12_manyBurn_1 (by decide) rfl ?_
  refine g_iconst (v := nI 0) dX12_manyBurn_3 (by decide) ?_
  refine g_istore dX12_manyBurn_4 (by decide) rfl ?_
  exact lp ns 0 (by omega)
