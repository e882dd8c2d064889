/-! class: a fire looks at a week -/
def stI (w h : Nat) (a : Nat → Int32) (wl : Nat) (wo : Option Nat) (s F cat sn m0 k : Nat) (I : pvI) (J : pvJ) (I1 : pvI) (J1 : pvJ) : Prop := fCu F cat (fwk w h a wl wo s k) I1 J1 ∧ fFr F I J I1 J1 ∧ I1 F 4 = nI k ∧ I1 F 5 = nI (max sn (k + 1)) ∧ (∀ j, ¬ (m0 < j ∧ j ≤ k) → J1 (F + 3) j = J (F + 3) j ∧ J1 (F + 4) j = J (F + 4) j ∧ J1 (F + 5) j = J (F + 5) j) ∧ ∀ j, m0 < j → j ≤ k → fWk F j (fwk w h a wl wo s j) (metB w h a wl wo s j) J1
/-- what a fire keeps is so -/
def fVn (w h : Nat) (a : Nat → Int32) (wl : Nat) (wo : Option Nat) (s F cat sn : Nat) (I : pvI) (J : pvJ) : Prop := sn ≤ 100 ∧ I F 5 = nI sn ∧ (∀ j, j < sn → fWk F j (fwk w h a wl wo s j) (metB w h a wl wo s j) J) ∧ (I F 4 = -1 ∨ ∃ k, k < sn ∧ I F 4 = nI k ∧ fCu F cat (fwk w h a wl wo s k) I J)
section STD
variable {w h : Nat} {a : Nat → Int32} {wl s F sn cat ce wk : Nat} {wo : Option Nat} {u2 : Int32} {wal : Nat → Bool} {I : pvI} {J : pvJ} {P : pvP}
theorem k_stand {m0 g : Nat} (hP : pvOkP P) (hA : fAd F) (hE : fEnv w h a s wo ce wk u2) (hw : wF w h a I J) (hB : fBs F ce wk u2 wal I J) (hg : g ≤ 99) (hs : sn ≤ 100) (hwal : ∀ k, m0 ≤ k → k < g → walOk a wl k wal) (hbt : J (F + 4) m0 = mk (mT (fwk w h a wl wo s m0))) {Q : pvQT} (hQ : ∀ I' J', stI w h a wl wo s F cat sn m0 g I J I' J' → Q none 224 I' J' P) : ∀ q k i I1 J1, k + q = g → m0 ≤ k → i ≤ k → stI w h a wl wo s F cat sn m0 k I J I1 J1 → pvG mX1_standAt (pvR 4 0 0) (pvZ Q 0 0) 23 [.ref F, .ref 3, .int (nI g), .int (nI i)] [] 0 0 224 I1 J1 P := by
  obtain ⟨⟨s0, s1, s2, s3, s4, s5⟩, h90, h138⟩ := hA.sh
  intro q
  induction q with
  | zero =>
    intro k i I1 J1 hk h1 h2 hst
    obtain rfl : k = g := by omega
    have hst' := hst
    obtain ⟨t1, t2, t3, t4, t5, t6⟩ := hst'
    refine g_iload_n dX1_standAt_23 rfl ?_
    refine g_bipush (v := nI 100) dX1_standAt_24 (by decide) ?_
    refine n_icmp_ge 48 dX1_standAt_26 (by decide) (by first | ((with_reducible apply cN_le) <;> omega) | ((with_reducible apply cI_len) <;> omega) | ((with_reducible apply cI_nle) <;> omega) | (with_reducible exact cI_le)) (fun c26 => by exfalso; first | omega | exact absurd trivial c26 | exact c26 | (simp at c26)) (fun c26 => ?_)
    refine g_aload_n dX1_standAt_29 rfl ?_
    refine n_getI dX1_standAt_30 fdX1_15 rfl (by first | exact s0) (by omega) (by omega) (by decide) rfl (by repeat (first | exact t3 | (apply rd_s; done) | apply rd_n (by omega) | apply rp_s | apply rp_n (by omega) | (apply rdL_s; done) | apply rdL_n (by omega) | apply rpJ_s | apply rpJ_n (by omega) | rfl)) ?_
    refine g_iload_n dX1_standAt_33 rfl ?_
    refine n_icmp_ge 48 dX1_standAt_34 (by decide) (by first | ((with_reducible apply cN_le) <;> omega) | ((with_reducible apply cI_len) <;> omega) | ((with_reducible apply cI_nle) <;> omega) | (with_reducible exact cI_le)) (fun c34 => ?_) (fun c34 => by exfalso; first | omega | exact absurd trivial c34 | exact c34 | (simp at c34))
    exact g_vret dX1_standAt_48 rfl (hQ I1 J1 hst)
  | succ q ih =>
    intro k i I1 J1 hk h1 h2 hst
    obtain ⟨t1, t2, t3, t4, t5, t6⟩ := hst
    have bt : J1 (F + 4) k = mk (mT (fwk w h a wl wo s k)) := by
      by_cases e : k = m0
      · subst e; rw [(t5 k (by omega)).2.1]; exact hbt
      · exact (t6 k (by omega) (Nat.le_refl _)).2.1
    have ps := f_pass (I := I1) (J := J1) (sn := max sn (k + 1)) (cat := cat) hP hA hE (hw.fr hA t2) (hB.mv t2) (by omega) (by omega) t3 t4 (hwal k h1 (by omega)) t1 bt
    have nx : ∀ I2 J2, fCu F cat (fwk w h a wl wo s (k + 1)) I2 J2 ∧ fWk F (k + 1) (fwk w h a wl wo s (k + 1)) (metB w h a wl wo s (k + 1)) J2 ∧ fFr F I1 J1 I2 J2 ∧ I2 F 4 = nI (k + 1) ∧ I2 F 5 = nI (max (max sn (k + 1)) (k + 1 + 1)) ∧ (∀ j, j ≠ k + 1 → J2 (F + 3) j = J1 (F + 3) j ∧ J2 (F + 4) j = J1 (F + 4) j ∧ J2 (F + 5) j = J1 (F + 5) j) → stI w h a wl wo s F cat sn m0 (k + 1) I J I2 J2 := by
      rintro I2 J2 ⟨q1, q2, q3, q4, q5, q6⟩
      refine ⟨q1, t2.tr q3, q4, by rw [q5, show max (max sn (k + 1)) (k + 1 + 1) = max sn (k + 1 + 1) by omega], fun j hj => ?_, fun j z1 z2 => ?_⟩
      · obtain ⟨y1, y2, y3⟩ := q6 j (by omega)
        obtain ⟨x1, x2, x3⟩ := t5 j (by omega)
        exact ⟨y1.trans x1, y2.trans x2, y3.trans x3⟩
      · by_cases e : j = k + 1
        · subst e; exact q2
        · obtain ⟨y1, y2, y3⟩ := q6 j e
          obtain ⟨x1, x2, x3⟩ := t6 j z1 (by omega)
          exact ⟨y1.trans x1, y2.trans x2, y3.trans x3⟩
    refine g_iload_n dX1_standAt_23 rfl ?_
    refine g_bipush (v := nI 100) dX1_standAt_24 (by decide) ?_
    refine n_icmp_ge 48 dX1_standAt_26 (by decide) (by first | ((with_reducible apply cN_le) <;> omega) | ((with_reducible apply cI_len) <;> omega) | ((with_reducible apply cI_nle) <;> omega) | (with_reducible exact cI_le)) (fun c26 => by exfalso; first | omega | exact absurd trivial c26 | exact c26 | (simp at c26)) (fun c26 => ?_)
    refine g_aload_n dX1_standAt_29 rfl ?_
    refine n_getI dX1_standAt_30 fdX1_15 rfl (by first | exact s0) (by omega) (by omega) (by decide) rfl (by repeat (first | exact t3 | (apply rd_s; done) | apply rd_n (by omega) | apply rp_s | apply rp_n (by omega) | (apply rdL_s; done) | apply rdL_n (by omega) | apply rpJ_s | apply rpJ_n (by omega) | rfl)) ?_
    refine g_iload_n dX1_standAt_33 rfl ?_
    refine n_icmp_ge 48 dX1_standAt_34 (by decide) (by first | ((with_reducible apply cN_le) <;> omega) | ((with_reducible apply cI_len) <;> omega) | ((with_reducible apply cI_nle) <;> omega) | (with_reducible exact cI_le)) (fun c34 => by exfalso; first | omega | exact absurd trivial c34 | exact c34 | (simp at c34)) (fun c34 => ?_)
    refine g_aload_n dX1_standAt_37 rfl ?_
    refine g_aload_n dX1_standAt_38 rfl ?_
    refine g_callV (ps) okX1_pass lkX1_84 rfl (s0) rfl (by omega) (by omega) dX1_standAt_39 rfl (Nat.le_of_ble_eq_true rfl) (⟨by decide, by decide, by decide, by decide⟩) ?_
    rintro v nx' I2 J2 P' ⟨rfl, rfl, rfl, hq⟩
    refine g_iinc dX1_standAt_42 rfl (by first | (with_reducible exact nI_1 _) | exact nI_1 _ | exact pk_m1 _ | rfl) (by decide) rfl ?_
    refine g_goto 23 dX1_standAt_45 (by decide) ?_
    exact ih (k + 1) (i + 1) I2 J2 (by omega) (by omega) (by omega) (nx I2 J2 hq)
/-- from where it stands -/
theorem f_stand1 {m0 g : Nat} (hP : pvOkP P) (hA : fAd F) (hE : fEnv w h a s wo ce wk u2) (hw : wF w h a I J) (hB : fBs F ce wk u2 wal I J) (hg : g ≤ 99) (hm : m0 ≤ g) (hs : sn ≤ 100) (hs2 : m0 + 1 ≤ sn) (h4 : I F 4 = nI m0) (h5 : I F 5 = nI sn) (hwal : ∀ k, m0 ≤ k → k < g → walOk a wl k wal) (hc : fCu F cat (fwk w h a wl wo s m0) I J) (hbt : J (F + 4) m0 = mk (mT (fwk w h a wl wo s m0))) : pvMet mX1_standAt 4 0 0 [.ref F, .ref 3, .int (nI g)] 224 I J P (pvq P (fun v I' J' => v = none ∧ stI w h a wl wo s F cat sn m0 g I J I' J')) := by
  obtain ⟨⟨s0, s1, s2, s3, s4, s5⟩, h90, h138⟩ := hA.sh
  have lp := k_stand (Q := pvq P (fun v I' J' => v = none ∧ stI w h a wl wo s F cat sn m0 g I J I' J')) hP hA hE hw hB hg hs hwal hbt (fun I' J' hst => ⟨rfl, rfl, rfl, hst⟩) (g - m0) m0 0 I J (by omega) (Nat.le_refl _) (Nat.zero_le _) ⟨hc, fFr.rf, h4, by rw [h5, show max sn (m0 + 1) = sn by omega], fun _ _ => ⟨rfl, rfl, rfl⟩, fun j z1 z2 => by omega⟩
  have hne : (nI m0 = -1) ↔ False := by
    rw [cI_m1, nI_toInt (by omega)]
    exact ⟨fun z => by omega, False.elim⟩
  refine pvMet.of _ (by decide) rfl (Nat.le_of_ble_eq_true rfl) ?_
  refine g_aload_n dX1_standAt_0 rfl ?_
  refine n_getI dX1_standAt_1 fdX1_15 rfl (by first | exact s0) (by omega) (by omega) (by decide) rfl (by repeat (first | exact h4 | (apply rd_s; done) | apply rd_n (by omega) | apply rp_s | apply rp_n (by omega) | (apply rdL_s; done) | apply rdL_n (by omega) | apply rpJ_s | apply rpJ_n (by omega) | rfl)) ?_
  refine g_iconst (v := (-1)) dX1_standAt_4 (by decide) ?_
  refine n_icmp_eq 16 dX1_standAt_5 (by decide) (hne) (fun c5 => by exfalso; first | omega | exact absurd trivial c5 | exact c5 | (simp at c5)) (fun c5 => ?_)
  refine g_aload_n dX1_standAt_8 rfl ?_
  refine n_getI dX1_standAt_9 fdX1_15 rfl (by first | exact s0) (by omega) (by omega) (by decide) rfl (by repeat (first | exact h4 | (apply rd_s; done) | apply rd_n (by omega) | apply rp_s | apply rp_n (by omega) | (apply rdL_s; done) | apply rdL_n (by omega) | apply rpJ_s | apply rpJ_n (by omega) | rfl)) ?_
  refine g_iload_n dX1_standAt_12 rfl ?_
  refine n_icmp_le 21 dX1_standAt_13 (by decide) (by first | ((with_reducible apply cN_le) <;> omega) | ((with_reducible apply cI_len) <;> omega) | ((with_reducible apply cI_nle) <;> omega) | (with_reducible exact cI_le)) (fun c13 => ?_) (fun c13 => by exfalso; first | omega | exact absurd trivial c13 | exact c13 | (simp at c13))
  refine g_iconst (v := nI 0) dX1_standAt_21 (by decide) ?_
  refine g_istore_n dX1_standAt_22 (by decide) rfl ?_
  exact lp
theorem f_stand2 {g : Nat} (hP : pvOkP P) (hA : fAd F) (hE : fEnv w h a s wo ce wk u2) (hw : wF w h a I J) (hB : fBs F ce wk u2 wal I J) (hg : g ≤ 99) (hs : sn ≤ 100) (h4 : I F 4 = -1 ∨ ∃ k, g < k ∧ k ≤ 99 ∧ I F 4 = nI k) (h5 : I F 5 = nI sn) (hwal : ∀ k, k < g → walOk a wl k wal) : pvMet mX1_standAt 4 0 0 [.ref F, .ref 3, .int (nI g)] 224 I J P (pvq P (fun v I' J' => v = none ∧ fCu F cat (fwk w h a wl wo s g) I' J' ∧ fFr F I J I' J' ∧ I' F 4 = nI g ∧ I' F 5 = nI (max sn (g + 1)) ∧ (∀ j, g < j → J' (F + 3) j = J (F + 3) j ∧ J' (F + 4) j = J (F + 4) j ∧ J' (F + 5) j = J (F + 5) j) ∧ ∀ j, j ≤ g → fWk F j (fwk w h a wl wo s j) (metB w h a wl wo s j) J')) := by
  obtain ⟨⟨s0, s1, s2, s3, s4, s5⟩, h90, h138⟩ := hA.sh
  obtain ⟨hF, hf, hk, ⟨e1, e2⟩, ⟨e3, e4⟩, hu, hum⟩ := id hE
  obtain ⟨b0, b1, b2, b3⟩ := id hB
  obtain ⟨w1, w2, w3, w4, w5, w8, w9, w10, w11⟩ := id hw
  have hwh := w1.wh
  have bg := f_begin (w := w) (h := h) (a := a) (wl := wl) (wo := wo) (s := s) (cat := cat) (P := P) hP hA hs h5 b0 b1 e1 e3 (by omega) e4 (w10 0 (by decide)) w2 w3 hf
  have go : ∀ I1 J1, fCu F cat (fwk w h a wl wo s 0) I1 J1 ∧ fWk F 0 (fwk w h a wl wo s 0) (metB w h a wl wo s 0) J1 ∧ fFr F I J I1 J1 ∧ I1 F 4 = nI 0 ∧ I1 F 5 = nI (max sn (0 + 1)) ∧ (∀ k, k ≠ 0 → J1 (F + 3) k = J (F + 3) k ∧ J1 (F + 4) k = J (F + 4) k ∧ J1 (F + 5) k = J (F + 5) k) → pvG mX1_standAt (pvR 4 0 0) (pvZ (pvq P (fun v I' J' => v = none ∧ fCu F cat (fwk w h a wl wo s g) I' J' ∧ fFr F I J I' J' ∧ I' F 4 = nI g ∧ I' F 5 = nI (max sn (g + 1)) ∧ (∀ j, g < j → J' (F + 3) j = J (F + 3) j ∧ J' (F + 4) j = J (F + 4) j ∧ J' (F + 5) j = J (F + 5) j) ∧ ∀ j, j ≤ g → fWk F j (fwk w h a wl wo s j) (metB w h a wl wo s j) J')) 0 0) 23 [.ref F, .ref 3, .int (nI g), .int (nI 0)] [] 0 0 224 I1 J1 P := by
    rintro I1 J1 ⟨q1, q2, q3, q4, q5, q6⟩
    refine k_stand (I := I1) (J := J1) (sn := max sn 1) (cat := cat) hP hA hE (hw.fr hA q3) (hB.mv q3) hg (by omega) (fun k _ hk => hwal k hk) q2.2.1 (fun I' J' hst => ?_) g 0 0 I1 J1 (by omega) (Nat.le_refl _) (Nat.le_refl _) ⟨q1, fFr.rf, q4, by rw [q5]; congr 1; omega, fun _ _ => ⟨rfl, rfl, rfl⟩, fun j z1 z2 => by omega⟩
    obtain ⟨t1, t2, t3, t4, t5, t6⟩ := hst
    refine ⟨rfl, rfl, rfl, t1, q3.tr t2, t3, by rw [t4]; congr 1; omega, fun j hj => ?_, fun j hj => ?_⟩
    · obtain ⟨x1, x2, x3⟩ := t5 j (by omega)
      obtain ⟨y1, y2, y3⟩ := q6 j (by omega)
      exact ⟨x1.trans y1, x2.trans y2, x3.trans y3⟩
    · by_cases e : j = 0
      · subst e
        obtain ⟨x1, x2, x3⟩ := t5 0 (by omega)
        exact ⟨x1.trans q2.1, x2.trans q2.2.1, x3.trans q2.2.2⟩
      · exact t6 j (by omega) hj
  rcases h4 with h4 | ⟨k, k1, k2, h4⟩
  · skip
    refine pvMet.of _ (by decide) rfl (Nat.le_of_ble_eq_true rfl) ?_
    refine g_aload_n dX1_standAt_0 rfl ?_
    refine n_getI dX1_standAt_1 fdX1_15 rfl (by first | exact s0) (by omega) (by omega) (by decide) rfl (by repeat (first | exact h4 | (apply rd_s; done) | apply rd_n (by omega) | apply rp_s | apply rp_n (by omega) | (apply rdL_s; done) | apply rdL_n (by omega) | apply rpJ_s | apply rpJ_n (by omega) | rfl)) ?_
    refine g_iconst (v := (-1)) dX1_standAt_4 (by decide) ?_
    refine n_icmp_eq 16 dX1_standAt_5 (by decide) (Iff.rfl) (fun c5 => ?_) (fun c5 => by exfalso; exact c5 rfl)
    refine g_aload_n dX1_standAt_16 rfl ?_
    refine g_aload_n dX1_standAt_17 rfl ?_
    refine g_callV (bg) okX1_begin lkX1_80 rfl (s0) rfl (by omega) (by omega) dX1_standAt_18 rfl (Nat.le_of_ble_eq_true rfl) (⟨by decide, by decide, by decide, by decide⟩) ?_
    rintro v nx' I1 J1 P' ⟨rfl, rfl, rfl, hq⟩
    refine g_iconst (v := nI 0) dX1_standAt_21 (by decide) ?_
    refine g_istore_n dX1_standAt_22 (by decide) rfl ?_
    exact go I1 J1 hq
  · have hne : (nI k = -1) ↔ False := by
      rw [cI_m1, nI_toInt (by omega)]
      exact ⟨fun z => by omega, False.elim⟩
    refine pvMet.of _ (by decide) rfl (Nat.le_of_ble_eq_true rfl) ?_
    refine g_aload_n dX1_standAt_0 rfl ?_
    refine n_getI dX1_standAt_1 fdX1_15 rfl (by first | exact s0) (by omega) (by omega) (by decide) rfl (by repeat (first | exact h4 | (apply rd_s; done) | apply rd_n (by omega) | apply rp_s | apply rp_n (by omega) | (apply rdL_s; done) | apply rdL_n (by omega) | apply rpJ_s | apply rpJ_n (by omega) | rfl)) ?_
    refine g_iconst (v := (-1)) dX1_standAt_4 (by decide) ?_
    refine n_icmp_eq 16 dX1_standAt_5 (by decide) (hne) (fun c5 => by exfalso; first | omega | exact absurd trivial c5 | exact c5 | (simp at c5)) (fun c5 => ?_)
    refine g_aload_n dX1_standAt_8 rfl ?_
    refine n_getI dX1_standAt_9 fdX1_15 rfl (by first | exact s0) (by omega) (by omega) (by decide) rfl (by repeat (first | exact h4 | (apply rd_s; done) | apply rd_n (by omega) | apply rp_s | apply rp_n (by omega) | (apply rdL_s; done) | apply rdL_n (by omega) | apply rpJ_s | apply rpJ_n (by omega) | rfl)) ?_
    refine g_iload_n dX1_standAt_12 rfl ?_
    refine n_icmp_le 21 dX1_standAt_13 (by decide) (by first | ((with_reducible apply cN_le) <;> omega) | ((with_reducible apply cI_len) <;> omega) | ((with_reducible apply cI_nle) <;> omega) | (with_reducible exact cI_le)) (fun c13 => by exfalso; first | omega | exact absurd trivial c13 | exact c13 | (simp at c13)) (fun c13 => ?_)
    refine g_aload_n dX1_standAt_16 rfl ?_
    refine g_aload_n dX1_standAt_17 rfl ?_
    refine g_callV (bg) okX1_begin lkX1_80 rfl (s0) rfl (by omega) (by omega) dX1_standAt_18 rfl (Nat.le_of_ble_eq_true rfl) (⟨by decide, by decide, by decide, by decide⟩) ?_
    rintro v nx' I1 J1 P' ⟨rfl, rfl, rfl, hq⟩
    refine g_iconst (v := nI 0) dX1_standAt_21 (by decide) ?_
    refine g_istore_n dX1_standAt_22 (by decide) rfl ?_
    exact go I1 J1 hq
def stdQ (w h : Nat) (a : Nat → Int32) (wl : Nat) (wo : Option Nat) (s F cat sn g : Nat) (I : pvI) (J : pvJ) (P : pvP) : pvQT := pvq P (fun v I' J' => v = none ∧ fVn w h a wl wo s F cat (max sn (g + 1)) I' J' ∧ fFr F I J I' J' ∧ I' F 4 = nI g ∧ fCu F cat (fwk w h a wl wo s g) I' J')
theorem f_standAt {g : Nat} (hP : pvOkP P) (hA : fAd F) (hE : fEnv w h a s wo ce wk u2) (hw : wF w h a I J) (hB : fBs F ce wk u2 wal I J) (hg : g ≤ 99) (hwal : ∀ k, k < g → walOk a wl k wal) (hV : fVn w h a wl wo s F cat sn I J) : pvMet mX1_standAt 4 0 0 [.ref F, .ref 3, .int (nI g)] 224 I J P (stdQ w h a wl wo s F cat sn g I J P) := by
  obtain ⟨v1, v2, v3, v4⟩ := hV
  have restart : (I F 4 = -1 ∨ ∃ k, g < k ∧ k ≤ 99 ∧ I F 4 = nI k) → pvMet mX1_standAt 4 0 0 [.ref F, .ref 3, .int (nI g)] 224 I J P (stdQ w h a wl wo s F cat sn g I J P) := by
    intro h4
    refine (f_stand2 (cat := cat) hP hA hE hw hB hg v1 h4 v2 hwal).weaken ?_
    rintro v nx I' J' P' ⟨rfl, rfl, rfl, q1, q2, q3, q4, q5, q6⟩
    refine ⟨rfl, rfl, rfl, ⟨by omega, q4, fun j hj => ?_, Or.inr ⟨g, by omega, q3, q1⟩⟩, q2, q3, q1⟩
    by_cases e : j ≤ g
    · exact q6 j e
    · obtain ⟨x1, x2, x3⟩ := q5 j (by omega)
      obtain ⟨y1, y2, y3⟩ := v3 j (by omega)
      exact ⟨x1.trans y1, x2.trans y2, x3.trans y3⟩
  rcases v4 with v4 | ⟨k, k1, k2, k3⟩
  · exact restart (Or.inl v4)
  · by_cases hk : k ≤ g
    · refine (f_stand1 (cat := cat) hP hA hE hw hB hg hk v1 (by omega) k2 v2 (fun j _ hj => hwal j hj) k3 (v3 k k1).2.1).weaken ?_
      rintro v nx I' J' P' ⟨rfl, rfl, rfl, q1, q2, q3, q4, q5, q6⟩
      refine ⟨rfl, rfl, rfl, ⟨by omega, q4, fun j hj => ?_, Or.inr ⟨g, by omega, q3, q1⟩⟩, q2, q3, q1⟩
      by_cases e : k < j ∧ j ≤ g
      · exact q6 j e.1 e.2
      · obtain ⟨x1, x2, x3⟩ := q5 j e
        obtain ⟨y1, y2, y3⟩ := v3 j (by omega)
        exact ⟨x1.trans y1, x2.trans y2, x3.trans y3⟩
    · exact restart (Or.inr ⟨k, by omega, by omega, k2⟩)
def lokQ (w h : Nat) (a : Nat → Int32) (wl : Nat) (wo : Option Nat) (s F cat sn g : Nat) (I : pvI) (J : pvJ) (P : pvP) : pvQT := pvq P (fun v I' J' => v = none ∧ fVn w h a wl wo s F cat (max sn (g + 1)) I' J' ∧ fFr F I J I' J')
theorem f_lookAt {g : Nat} (hP : pvOkP P) (hA : fAd F) (hE : fEnv w h a s wo ce wk u2) (hw : wF w h a I J) (hB : fBs F ce wk u2 wal I J) (hg : g ≤ 99) (hwal : ∀ k, k < g → walOk a wl k wal) (hV : fVn w h a wl wo s F cat sn I J) : pvMet mX1_lookAt 5 0 0 [.ref F, .ref 3, .int (nI g)] 224 I J P (lokQ w h a wl wo s F cat sn g I J P) := by
  obtain ⟨⟨s0, s1, s2, s3, s4, s5⟩, h90, h138⟩ := hA.sh
  have sd := f_standAt hP hA hE hw hB hg hwal hV
  have hV' := hV
  obtain ⟨v1, v2, v3, v4⟩ := hV
  by_cases c : sn ≤ g
  · skip
    refine pvMet.of _ (by decide) rfl (Nat.le_of_ble_eq_true rfl) ?_
    refine g_aload_n dX1_lookAt_0 rfl ?_
    refine n_getI dX1_lookAt_1 fdX1_45 rfl (by first | exact s0) (by omega) (by omega) (by decide) rfl (by repeat (first | exact v2 | (apply rd_s; done) | apply rd_n (by omega) | apply rp_s | apply rp_n (by omega) | (apply rdL_s; done) | apply rdL_n (by omega) | apply rpJ_s | apply rpJ_n (by omega) | rfl)) ?_
    refine g_iload_n dX1_lookAt_4 rfl ?_
    refine n_icmp_gt 14 dX1_lookAt_5 (by decide) (by first | ((with_reducible apply cN_lt) <;> omega) | ((with_reducible apply cI_ltn) <;> omega) | ((with_reducible apply cI_nlt) <;> omega) | (with_reducible exact cI_lt)) (fun c5 => by exfalso; first | omega | exact absurd trivial c5 | exact c5 | (simp at c5)) (fun c5 => ?_)
    refine g_aload_n dX1_lookAt_8 rfl ?_
    refine g_aload_n dX1_lookAt_9 rfl ?_
    refine g_iload_n dX1_lookAt_10 rfl ?_
    refine g_callV (sd) okX1_standAt lkX1_76 rfl (s0) rfl (by omega) (by omega) dX1_lookAt_11 rfl (Nat.le_of_ble_eq_true rfl) (⟨by decide, by decide, by decide, by decide⟩) ?_
    rintro v nx' I1 J1 P' ⟨rfl, rfl, rfl, q1, q2, q3, q4⟩
    exact g_vret dX1_lookAt_14 rfl (⟨rfl, rfl, rfl, q1, q2⟩)
  · skip
    refine pvMet.of _ (by decide) rfl (Nat.le_of_ble_eq_true rfl) ?_
    refine g_aload_n dX1_lookAt_0 rfl ?_
    refine n_getI dX1_lookAt_1 fdX1_45 rfl (by first | exact s0) (by omega) (by omega) (by decide) rfl (by repeat (first | exact v2 | (apply rd_s; done) | apply rd_n (by omega) | apply rp_s | apply rp_n (by omega) | (apply rdL_s; done) | apply rdL_n (by omega) | apply rpJ_s | apply rpJ_n (by omega) | rfl)) ?_
    refine g_iload_n dX1_lookAt_4 rfl ?_
    refine n_icmp_gt 14 dX1_lookAt_5 (by decide) (by first | ((with_reducible apply cN_lt) <;> omega) | ((with_reducible apply cI_ltn) <;> omega) | ((with_reducible apply cI_nlt) <;> omega) | (with_reducible exact cI_lt)) (fun c5 => ?_) (fun c5 => by exfalso; first | omega | exact absurd trivial c5 | exact c5 | (simp at c5))
    exact g_vret dX1_lookAt_14 rfl (⟨rfl, rfl, rfl, by rw [show max sn (g + 1) = sn by omega]; exact hV', fFr.rf⟩)
end STD
