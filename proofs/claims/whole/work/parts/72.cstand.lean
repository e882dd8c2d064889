/-! class: a fire stands at a week -/
def fEnv (w h : Nat) (a : Nat → Int32) (s : Nat) (wo : Option Nat) (ce wk : Nat) (u2 : Int32) : Prop := mF w h a ∧ fH w h a ∧ fHk w h a ∧ (cnt a (260 + 2 * s) = ce ∧ ce < w * h) ∧ (cnt a (260 + 2 * s + 1) = wk ∧ wk ≤ 99) ∧ (∀ k, k < 20 → (nI k = u2 ↔ wo = some k)) ∧ (u2 = -1 ↔ wo = none)
def fBs (F ce wk : Nat) (u2 : Int32) (wal : Nat → Bool) (I : pvI) (J : pvJ) : Prop := I F 0 = nI ce ∧ I F 1 = nI wk ∧ I F 2 = u2 ∧ J F 3 = mk wal
theorem fBs.mv {F ce wk : Nat} {u2 : Int32} {wal : Nat → Bool} {I I' : pvI} {J J' : pvJ} (h : fBs F ce wk u2 wal I J) (hf : fFr F I J I' J') : fBs F ce wk u2 wal I' J' := ⟨by rw [hf.2.2.1 0 (by decide) (by decide)]; exact h.1, by rw [hf.2.2.1 1 (by decide) (by decide)]; exact h.2.1, by rw [hf.2.2.1 2 (by decide) (by decide)]; exact h.2.2.1, by rw [hf.2.2.2]; exact h.2.2.2⟩
theorem wF.fr {w h F : Nat} {a : Nat → Int32} {I I' : pvI} {J J' : pvJ} (hA : fAd F) (hw : wF w h a I J) (hf : fFr F I J I' J') : wF w h a I' J' := by
  have h90 := hA.sh.2.1
  exact hw.mv (fun x hx => hf.1 x (by simp; omega)) (fun x hx => hf.2.1 x (by simp; omega))
def walOk (a : Nat → Int32) (wl m : Nat) (wal : Nat → Bool) : Prop := ∀ c, c < 64 → (wal c = true ↔ (cnt a 0 ≤ m ∧ wlB a wl c (cnt a 10) = true))
section PS2
variable {w h : Nat} {a : Nat → Int32} {wl s F m sn cat ce wk : Nat} {wo : Option Nat} {u2 : Int32} {wal : Nat → Bool} {I : pvI} {J : pvJ} {P : pvP}
theorem f_pass (hP : pvOkP P) (hA : fAd F) (hE : fEnv w h a s wo ce wk u2) (hw : wF w h a I J) (hB : fBs F ce wk u2 wal I J) (hm : m < 99) (hs : sn ≤ 100) (h4 : I F 4 = nI m) (h5 : I F 5 = nI sn) (hwal : walOk a wl m wal) (hc : fCu F cat (fwk w h a wl wo s m) I J) (hbt : J (F + 4) m = mk (mT (fwk w h a wl wo s m))) : pvMet mX1_pass 3 0 0 [.ref F, .ref 3] 224 I J P (stQ w h a wl wo s F (m + 1) sn cat I J P) := by
  obtain ⟨⟨s0, s1, s2, s3, s4, s5⟩, h90, h138⟩ := hA.sh
  obtain ⟨hF, hf, hk, ⟨e1, e2⟩, ⟨e3, e4⟩, hu, hum⟩ := hE
  obtain ⟨b0, b1, b2, b3⟩ := hB
  obtain ⟨v6, v7, v8, v1, v2, wm, v9, cw⟩ := hc
  have hbI := fI_wk (wl := wl) (m := m) (wo := wo) (s := s) hf (by rw [e1]; exact e2)
  have hok := fwk_ok (w := w) (h := h) (s := s) (wl := wl) (m := m) (wo := wo) hF.2.1
  have hg := hF.1
  have hwh := hw.1.wh
  have hww := hw.1.2.2.2.2.2.2.1
  have hair := f_air (wl := wl) (wo := wo) (J := J) hP hA hw hg hF.2.2.2.2.1 hk (by omega) b2 hu hum b3 hwal hbt (fun c hc z => by have := ((hbI c).2.2.2.2.2 hc).1; omega)
  have hraw : fraw w h a wl wo s (m + 1) = fburn w h a wl wo m (fwk w h a wl wo s m) := rfl
  have hIr := fI_burn (wl := wl) (wo := wo) hbI
  generalize hb : fwk w h a wl wo s m = b at *
  obtain ⟨cat', c1, c2⟩ := hg 11 (by decide)
  replace c1 : cat' ≤ 20 := c1
  have hcat : cnt a 11 = cat' := cnt_of c2 (by omega)
  obtain ⟨rt, r1, r2⟩ := hg 12 (by decide)
  replace r1 : rt ≤ 99 := r1
  have hrt : cnt a 12 = rt := cnt_of r2 (by omega)
  obtain ⟨w1, w2, w3, w4, ⟨w5, w6, w7⟩, w8, w9, w10, w11, w12⟩ := id hw
  rw [hcat] at w5
  rw [hrt] at w6
  have hair' : pvMet mX1_air 2 0 0 [.ref F, .ref 3, .int (nI m)] 224 I J P (pvpu (.long (mk (auC w h a wl wo m b))) 224 I J P) := hair
  have hps := pass_sets (wl := wl) (wo := wo) hww.1 hbI
  have hph : ∀ c, c < 64 → _ := fun c hc => pass_heat (wl := wl) (wo := wo) (wm := wm) hww.1 hbI (cw c hc)
  rw [hrt, hcat] at hps
  generalize hau : auC w h a wl wo m b = au at *
  have hwu := f_warmUp (au := au) (P := P) hP hA w1 w5 c1 v6 v8 v9 v2 (fun c => by have := hok.2.2 c; omega) (fun c hc => by
    rcases Nat.lt_or_ge c (w * h) with z | z
    · exact z
    · have := ((hbI c).2.2.2.2.2 z).1
      have := of_decide_eq_true hc
      omega) (fun c hc => by rw [← hau] at hc; unfold auC at hc; rw [Bool.and_eq_true] at hc; exact of_decide_eq_true hc.1)
  generalize hI1 : pvs I (F + 2) (fun c => if c < 64 ∧ wmF w h b au c = true then nI (b.2.2 c + byN w h b.1 c 4) else I (F + 2) c) = I1 at hwu
  generalize hJ1 : pvsJ J F (vp_updL (J F) 9 (mk (fun c => wm c || wmF w h b au c))) = J1 at hwu
  have hhb : ∀ c, h1F w h b au c ≤ 2000 := fun c => by
    have := hok.2.2 c
    have := byN_le (w := w) (h := h) (nw := b.1) (c := c) 4
    unfold h1F
    split <;> omega
  have hcd := f_coolDown (I := I1) (J := J1) (P := P) (au := au) (wm := fun c => wm c || wmF w h b au c) (h1 := h1F w h b au) (b := b) hP hA (by rw [← hJ1, pvsJ_eq]; simp [vp_updL]; exact v6) (by rw [← hJ1, pvsJ_eq]; simp [vp_updL]; exact v8) (by rw [← hJ1, pvsJ_eq]; simp [vp_updL]) (fun c hc => by
    rw [← hI1, pvs_eq]
    unfold h1F
    by_cases z : wmF w h b au c = true
    · rw [if_pos ⟨hc, z⟩, if_pos z]
    · rw [if_neg (fun y => z y.2), if_neg z]; exact v2 c hc) hhb
  generalize hI2 : pvs I1 (F + 2) (fun c => if c < 64 ∧ coF (fun c => wm c || wmF w h b au c) b au c = true then nI (h1F w h b au c - 1) else I1 (F + 2) c) = I2 at hcd
  generalize hJ2 : pvsJ J1 F (vp_updL (J1 F) 9 (mk (fun c => (wm c || wmF w h b au c) && !(coF (fun c => wm c || wmF w h b au c) b au c && decide (h1F w h b au c - 1 = 0))))) = J2 at hcd
  have o2 : ∀ x, x ≠ F + 2 → I2 x = I x := fun x z => by rw [← hI2, pvs_ne z, ← hI1, pvs_ne z]
  have j2 : ∀ x, x ≠ F → J2 x = J x := fun x z => by rw [← hJ2, pvsJ_ne z, ← hJ1, pvsJ_ne z]
  have j2F : ∀ j, j ≠ 9 → J2 F j = J F j := fun j z => by rw [← hJ2, pvsJ_eq, ← hJ1, pvsJ_eq]; simp [vp_updL, z]
  have j29 : J2 F 9 = mk (fun c => (wm c || wmF w h b au c) && !(coF (fun c => wm c || wmF w h b au c) b au c && decide (h1F w h b au c - 1 = 0))) := by rw [← hJ2, pvsJ_eq]; simp [vp_updL]
  have hbd := f_burnDown (I := I2) (J := J2) (P := P) (au := au) (f := mB b) (tn := b.2.1) hP hA r1 (by rw [j2F 6 (by decide)]; exact v6) (fun c hc => by rw [o2 (F + 1) (by omega)]; exact v1 c hc) hok.2.1
  have hsp : (fun c => mB b c && decide (b.2.1 c ≤ if au c = true then rt else rt / 2)) = spF b rt au := rfl
  rw [hsp] at hbd
  generalize hI3 : pvs I2 (F + 1) (fun c => if c < 64 ∧ mB b c = true then nI (b.2.1 c - if au c = true then rt else rt / 2) else I2 (F + 1) c) = I3 at hbd
  generalize hI4 : pvs I3 F (upd (I3 F) 4 (nI (m + 1))) = I4
  generalize hJ4 : pvsJ J2 F (vp_updL (vp_updL (vp_updL (J2 F) 6 (mk (mB (fburn w h a wl wo m b)))) 7 (mk (mT (fburn w h a wl wo m b)))) 8 (mk (mU (fburn w h a wl wo m b)))) = J4
  have eB : mk (fun c => mB b c && !spF b rt au c) ||| mk (cgF w h cat' b au) = mk (mB (fburn w h a wl wo m b)) := mk_or.trans (mk_cong (fun c _ => (hps c).1))
  have eT : mk (mT b) ||| mk (spF b rt au) = mk (mT (fburn w h a wl wo m b)) := mk_or.trans (mk_cong (fun c _ => (hps c).2.1))
  have eU : mk (mU b) &&& mk (fun c => !spF b rt au c) = mk (mU (fburn w h a wl wo m b)) := mk_and.trans (mk_cong (fun c _ => (hps c).2.2.1))
  have o4 : ∀ x, x ≠ F → x ≠ F + 1 → x ≠ F + 2 → I4 x = I x := fun x z1 z2 z3 => by rw [← hI4, pvs_ne z1, ← hI3, pvs_ne z2]; exact o2 x z3
  have i4F : ∀ j, j ≠ 4 → I4 F j = I F j := fun j z => by rw [← hI4, pvs_eq]; simp [upd, z]; rw [← hI3, pvs_ne (by omega), o2 F (by omega)]
  have i44 : I4 F 4 = nI (m + 1) := by rw [← hI4, pvs_eq]; simp [upd]
  have j4 : ∀ x, x ≠ F → J4 x = J x := fun x z => by rw [← hJ4, pvsJ_ne z]; exact j2 x z
  have hst := f_settle (I := I4) (J := J4) (P := P) (w := w) (h := h) (a := a) (wl := wl) (wo := wo) (s := s) (m := m + 1) (sn := sn) (cat := cat) (ce := ce) (wk := wk) hP hA (by omega) hs i44 (by rw [i4F 5 (by decide)]; exact h5) (by rw [i4F 0 (by decide)]; exact b0) (by rw [i4F 1 (by decide)]; exact b1) e1 e3 (by omega) e4 (by rw [j4 19 (by omega)]; exact w10 (m + 1) (by omega)) (by
    rw [hraw]
    refine ⟨?_, ?_, ?_, fun c hc => ?_, fun c hc => ?_, _, ?_, fun c hc z1 z2 z3 => (hph c hc).2 z1 z2 z3⟩
    · rw [← hJ4, pvsJ_eq]; simp [vp_updL]
    · rw [← hJ4, pvsJ_eq]; simp [vp_updL]
    · rw [← hJ4, pvsJ_eq]; simp [vp_updL]
    · rw [← hI4, pvs_ne (by omega), ← hI3, pvs_eq, (hps c).2.2.2]
      by_cases z : mB b c = true
      · rw [if_pos ⟨hc, z⟩, if_pos z]
      · rw [if_neg (fun y => z y.2), if_neg z, o2 (F + 1) (by omega)]; exact v1 c hc
    · rw [← hI4, pvs_ne (by omega), ← hI3, pvs_ne (by omega), ← hI2, pvs_eq, (hph c hc).1]
      by_cases z : coF (fun c => wm c || wmF w h b au c) b au c = true
      · rw [if_pos ⟨hc, z⟩, if_pos z]
      · rw [if_neg (fun y => z y.2), if_neg z, ← hI1, pvs_eq]
        unfold h1F
        by_cases z2 : wmF w h b au c = true
        · rw [if_pos ⟨hc, z2⟩, if_pos z2]
        · rw [if_neg (fun y => z2 y.2), if_neg z2]; exact v2 c hc
    · rw [← hJ4, pvsJ_eq]; exact rdL_n (by decide) (rdL_n (by decide) (rdL_n (by decide) j29))) (by rw [hraw]; exact hIr)
  have fin : ∀ I' J', fCu F cat (fwk w h a wl wo s (m + 1)) I' J' ∧ fWk F (m + 1) (fwk w h a wl wo s (m + 1)) (metB w h a wl wo s (m + 1)) J' ∧ fFr F I4 J4 I' J' ∧ I' F 4 = nI (m + 1) ∧ I' F 5 = nI (max sn (m + 1 + 1)) ∧ (∀ k, k ≠ m + 1 → J' (F + 3) k = J4 (F + 3) k ∧ J' (F + 4) k = J4 (F + 4) k ∧ J' (F + 5) k = J4 (F + 5) k) → stQ w h a wl wo s F (m + 1) sn cat I J P none 224 I' J' P := by
    rintro I' J' ⟨q2, q3, q4, q5, q6, q7⟩
    refine ⟨rfl, rfl, rfl, q2, q3, ⟨fun x hx => ?_, fun x hx => ?_, fun j z1 z2 => ?_, ?_⟩, q5, q6, fun k hk => ?_⟩
    · rw [q4.1 x hx]; simp at hx; exact o4 x hx.1 hx.2.1 hx.2.2
    · rw [q4.2.1 x hx]; simp at hx; exact j4 x hx.1
    · rw [q4.2.2.1 j z1 z2, i4F j z1]
    · rw [q4.2.2.2, ← hJ4, pvsJ_eq]; simp [vp_updL]; exact j2F 3 (by decide)
    · have := q7 k hk
      rw [j4 (F + 3) (by omega), j4 (F + 4) (by omega), j4 (F + 5) (by omega)] at this
      exact this
  have w6' : I2 4 9 = nI rt := by rw [o2 4 (by omega)]; exact w6
  have v6' : J2 F 6 = mk (mB b) := by rw [j2F 6 (by decide)]; exact v6
  have v7' : J2 F 7 = mk (mT b) := by rw [j2F 7 (by decide)]; exact v7
  have v8' : J2 F 8 = mk (mU b) := by rw [j2F 8 (by decide)]; exact v8
  have h4' : I3 F 4 = nI m := by rw [← hI3, pvs_ne (by omega), o2 F (by omega)]; exact h4
  refine pvMet.of _ (by decide) rfl (Nat.le_of_ble_eq_true rfl) ?_
  refine g_aload_n dX1_pass_0 rfl ?_
  refine g_aload_n dX1_pass_1 rfl ?_
  refine g_aload_n dX1_pass_2 rfl ?_
  refine n_getI dX1_pass_3 fdX1_15 rfl (by first | exact s0 | rfl) (by omega) (by omega) (by decide) rfl (by repeat (first | exact h4 | exact w6' | exact v6' | exact v7' | exact v8' | exact h4' | (apply rd_s; done) | apply rd_n (by omega) | apply rp_s | apply rp_n (by omega) | (apply rdL_s; done) | apply rdL_n (by omega) | apply rpJ_s | apply rpJ_n (by omega) | rfl)) ?_
  refine p_callV (hair') okX1_air lkX1_153 rfl (s0) rfl (by omega) (by omega) dX1_pass_6 rfl (Nat.le_of_ble_eq_true rfl) (⟨by decide, by decide, by decide, by decide⟩) ?_
  refine g_lstore_n dX1_pass_9 (by decide) rfl ?_
  refine g_aload_n dX1_pass_10 rfl ?_
  refine g_aload_n dX1_pass_11 rfl ?_
  refine g_lload_n dX1_pass_12 rfl ?_
  refine g_callV (hwu) okX1_warmUp lkX1_157 rfl (s0) rfl (by omega) (by omega) dX1_pass_13 rfl (Nat.le_of_ble_eq_true rfl) (⟨by decide, by decide, by decide, by decide⟩) ?_
  rintro v nx' I' J' P' ⟨rfl, rfl, rfl, rfl, rfl⟩
  refine g_lstore dX1_pass_16 (by decide) rfl ?_
  refine g_aload_n dX1_pass_18 rfl ?_
  refine g_lload_n dX1_pass_19 rfl ?_
  refine g_callV (hcd) okX1_coolDown lkX1_161 rfl (s0) rfl (by omega) (by omega) dX1_pass_20 rfl (Nat.le_of_ble_eq_true rfl) (⟨by decide, by decide, by decide, by decide⟩) ?_
  rintro v nx' I' J' P' ⟨rfl, rfl, rfl, rfl, rfl⟩
  refine g_aload_n dX1_pass_23 rfl ?_
  refine g_aload_n dX1_pass_24 rfl ?_
  refine g_getP dX1_pass_25 fdX1_87 rfl (by first | exact s0 | rfl) (by omega) (by omega) (by decide) rfl (hP _ _ _ rfl) ?_
  refine n_getI dX1_pass_28 fdX1_165 rfl (by first | exact s0 | rfl) (by omega) (by omega) (by decide) rfl (by repeat (first | exact h4 | exact w6' | exact v6' | exact v7' | exact v8' | exact h4' | (apply rd_s; done) | apply rd_n (by omega) | apply rp_s | apply rp_n (by omega) | (apply rdL_s; done) | apply rdL_n (by omega) | apply rpJ_s | apply rpJ_n (by omega) | rfl)) ?_
  refine g_lload_n dX1_pass_31 rfl ?_
  refine g_callV (hbd) okX1_burnDown lkX1_168 rfl (s0) rfl (by omega) (by omega) dX1_pass_32 rfl (Nat.le_of_ble_eq_true rfl) (⟨by decide, by decide, by decide, by decide⟩) ?_
  rintro v nx' I' J' P' ⟨rfl, rfl, rfl, rfl, rfl⟩
  refine g_lstore dX1_pass_35 (by decide) rfl ?_
  refine g_aload_n dX1_pass_37 rfl ?_
  refine g_aload_n dX1_pass_38 rfl ?_
  refine n_getJ dX1_pass_39 fdX1_54 rfl (by first | exact s0 | rfl) (by omega) (by omega) (by decide) rfl (by repeat (first | exact h4 | exact w6' | exact v6' | exact v7' | exact v8' | exact h4' | (apply rd_s; done) | apply rd_n (by omega) | apply rp_s | apply rp_n (by omega) | (apply rdL_s; done) | apply rdL_n (by omega) | apply rpJ_s | apply rpJ_n (by omega) | rfl)) ?_
  refine g_lload dX1_pass_42 rfl ?_
  refine g_ldc2 (v := (-1 : Int64)) dX1_pass_44 kcX1_119 ?_
  refine n_lxor dX1_pass_47 (mk_not) ?_
  refine n_land dX1_pass_48 (mk_and) ?_
  refine g_lload dX1_pass_49 rfl ?_
  refine n_lor dX1_pass_51 (eB) ?_
  refine n_putJ dX1_pass_52 fdX1_54 rfl (fun h => absurd h (by decide)) (by first | exact s0 | rfl) (by omega) (by omega) (by decide) rfl (by repeat (first | exact pvu_s | exact pvuJ_s | apply pvu_in (by omega) | apply pvuJ_in (by omega) | exact pvu_pvs | exact pvuJ_pvs)) ?_
  refine g_aload_n dX1_pass_55 rfl ?_
  refine g_dup dX1_pass_56 rfl ?_
  refine n_getJ dX1_pass_57 fdX1_58 rfl (by first | exact s0 | rfl) (by omega) (by omega) (by decide) rfl (by repeat (first | exact h4 | exact w6' | exact v6' | exact v7' | exact v8' | exact h4' | (apply rd_s; done) | apply rd_n (by omega) | apply rp_s | apply rp_n (by omega) | (apply rdL_s; done) | apply rdL_n (by omega) | apply rpJ_s | apply rpJ_n (by omega) | rfl)) ?_
  refine g_lload dX1_pass_60 rfl ?_
  refine n_lor dX1_pass_62 (eT) ?_
  refine n_putJ dX1_pass_63 fdX1_58 rfl (fun h => absurd h (by decide)) (by first | exact s0 | rfl) (by omega) (by omega) (by decide) rfl (by repeat (first | exact pvu_s | exact pvuJ_s | apply pvu_in (by omega) | apply pvuJ_in (by omega) | exact pvu_pvs | exact pvuJ_pvs)) ?_
  refine g_aload_n dX1_pass_66 rfl ?_
  refine g_dup dX1_pass_67 rfl ?_
  refine n_getJ dX1_pass_68 fdX1_61 rfl (by first | exact s0 | rfl) (by omega) (by omega) (by decide) rfl (by repeat (first | exact h4 | exact w6' | exact v6' | exact v7' | exact v8' | exact h4' | (apply rd_s; done) | apply rd_n (by omega) | apply rp_s | apply rp_n (by omega) | (apply rdL_s; done) | apply rdL_n (by omega) | apply rpJ_s | apply rpJ_n (by omega) | rfl)) ?_
  refine g_lload dX1_pass_71 rfl ?_
  refine g_ldc2 (v := (-1 : Int64)) dX1_pass_73 kcX1_119 ?_
  refine n_lxor dX1_pass_76 (mk_not) ?_
  refine n_land dX1_pass_77 (eU) ?_
  refine n_putJ dX1_pass_78 fdX1_61 rfl (fun h => absurd h (by decide)) (by first | exact s0 | rfl) (by omega) (by omega) (by decide) rfl (by repeat (first | exact pvu_s | exact pvuJ_s | apply pvu_in (by omega) | apply pvuJ_in (by omega) | exact pvu_pvs | exact pvuJ_pvs)) ?_
  refine g_aload_n dX1_pass_81 rfl ?_
  refine g_dup dX1_pass_82 rfl ?_
  refine n_getI dX1_pass_83 fdX1_15 rfl (by first | exact s0 | rfl) (by omega) (by omega) (by decide) rfl (by repeat (first | exact h4 | exact w6' | exact v6' | exact v7' | exact v8' | exact h4' | (apply rd_s; done) | apply rd_n (by omega) | apply rp_s | apply rp_n (by omega) | (apply rdL_s; done) | apply rdL_n (by omega) | apply rpJ_s | apply rpJ_n (by omega) | rfl)) ?_
  refine g_iconst (v := nI 1) dX1_pass_86 (by decide) ?_
  refine n_iadd dX1_pass_87 (by first | (with_reducible exact nI_add _ _) | rfl) ?_
  refine n_putI dX1_pass_88 fdX1_15 rfl (fun h => absurd h (by decide)) (by first | exact s0 | rfl) (by omega) (by omega) (by decide) rfl (by repeat (first | exact pvu_s | exact pvuJ_s | apply pvu_in (by omega) | apply pvuJ_in (by omega) | exact pvu_pvs | exact pvuJ_pvs)) ?_
  refine g_aload_n dX1_pass_91 rfl ?_
  refine g_aload_n dX1_pass_92 rfl ?_
  rw [hI4, hJ4]
  refine g_callV (hst) okX1_settle lkX1_99 rfl (s0) rfl (by omega) (by omega) dX1_pass_93 rfl (Nat.le_of_ble_eq_true rfl) (⟨by decide, by decide, by decide, by decide⟩) ?_
  rintro v nx' I' J' P' ⟨rfl, rfl, rfl, hq⟩
  exact g_vret dX1_pass_96 rfl (fin I' J' hq)
end PS2
