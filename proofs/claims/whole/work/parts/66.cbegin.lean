/-! copies of arrays; a fire begins -/
theorem acX1_67 : Cond.methodLink RX1 67 arraycopyName ∈ pv_T := pv_in (List.mem_of_getElem? (i := 802) (by decide +kernel)) rfl
theorem acX3_39 : Cond.methodLink RX3 39 arraycopyName ∈ pv_T := pv_in (List.mem_of_getElem? (i := 1293) (by decide +kernel)) rfl
theorem acX9_47 : Cond.methodLink RX9 47 arraycopyName ∈ pv_T := pv_in (List.mem_of_getElem? (i := 1298) (by decide +kernel)) rfl
theorem acX4_34 : Cond.methodLink RX4 34 arraycopyName ∈ pv_T := pv_in (List.mem_of_getElem? (i := 1303) (by decide +kernel)) rfl
theorem acX7_49 : Cond.methodLink RX7 49 arraycopyName ∈ pv_T := pv_in (List.mem_of_getElem? (i := 1308) (by decide +kernel)) rfl
theorem acX5_26 : Cond.methodLink RX5 26 arraycopyName ∈ pv_T := pv_in (List.mem_of_getElem? (i := 1313) (by decide +kernel)) rfl
theorem acX8_28 : Cond.methodLink RX8 28 arraycopyName ∈ pv_T := pv_in (List.mem_of_getElem? (i := 1318) (by decide +kernel)) rfl
theorem acS : Cond.static arraycopyName ∈ pv_T := pv_in (List.mem_of_getElem? (i := 803) (by decide +kernel)) rfl
theorem acN : Cond.native arraycopyName ∈ pv_T := pv_in (List.mem_of_getElem? (i := 804) (by decide +kernel)) rfl
theorem acI : Cond.initialized "java/lang/System" ∈ pv_T := pv_in (List.mem_of_getElem? (i := 116) (by decide +kernel)) rfl
theorem cpy_at {α : Type} {f g : Nat → α} {n k : Nat} (h : k < n) : va_cpy f g 0 0 n k = f k := by
  unfold va_cpy
  rw [if_pos ⟨Nat.zero_le k, by omega⟩]
  congr 1
  omega
theorem cpy_ge {α : Type} {f g : Nat → α} {n k : Nat} (h : ¬ k < n) : va_cpy f g 0 0 n k = g k := by
  unfold va_cpy
  rw [if_neg (by omega)]
section BEG
variable {w h : Nat} {a : Nat → Int32} {wl : Nat} {wo : Option Nat} {s F sn cat ce wk : Nat} {I : pvI} {J : pvJ} {P : pvP}
theorem f_begin (hP : pvOkP P) (hA : fAd F) (hs : sn ≤ 100) (h5 : I F 5 = nI sn) (h0 : I F 0 = nI ce) (h1 : I F 1 = nI wk) (hce : cnt a (260 + 2 * s) = ce) (hwk : cnt a (260 + 2 * s + 1) = wk) (hce2 : ce < 64) (hwk2 : wk ≤ 99) (hcut : J 19 0 = mk (cutb w h a 1)) (htn : ∀ c, c < 64 → I 6 c = nI (cnt a (84 + c))) (hco : J 4 6 = mk (fun c => decide (0 < cnt a (84 + c)))) (hf : fH w h a) : pvMet mX1_begin 3 0 0 [.ref F, .ref 3] 224 I J P (stQ w h a wl wo s F 0 sn cat I J P) := by
  obtain ⟨⟨s0, s1, s2, s3, s4, s5⟩, h90, h138⟩ := hA.sh
  obtain ⟨p10, p11, p12, p13, p14⟩ := hA.pp hP
  have lp : ∀ q i, i + q = 64 → pvG mX1_begin (pvR 3 0 0) (pvZ (stQ w h a wl wo s F 0 sn cat I J P) 0 0) 20 [.ref F, .ref 3, .int (nI i)] [] 0 0 224 (pvs (pvs I (F + 1) (va_cpy (I 6) (I (F + 1)) 0 0 64)) (F + 2) (sp_fil (fun _ => nI 0) (I (F + 2)) i)) J P := by
    intro q
    induction q with
    | zero =>
      intro i hi
      obtain rfl : i = 64 := by omega
      generalize hI3 : pvs (pvs (pvs I F (upd (I F) 4 (nI 0))) (F + 1) (va_cpy (I 6) (I (F + 1)) 0 0 64)) (F + 2) (sp_fil (fun _ => nI 0) (I (F + 2)) 64) = I3
      generalize hJ3 : pvsJ J F (vp_updL (vp_updL (vp_updL (vp_updL (J F) 6 0) 7 0) 9 0) 8 (mk (fun c => decide (0 < cnt a (84 + c))))) = J3
      have f3 : ∀ j, j ≠ 4 → I3 F j = I F j := fun j hj => by rw [← hI3, pvs_ne (by omega), pvs_ne (by omega), pvs_eq]; simp [upd, hj]
      have o3 : ∀ x, x ≠ F → x ≠ F + 1 → x ≠ F + 2 → I3 x = I x := fun x z1 z2 z3 => by rw [← hI3, pvs_ne z3, pvs_ne z2, pvs_ne z1]
      have j3 : ∀ x, x ≠ F → J3 x = J x := fun x z => by rw [← hJ3, pvsJ_ne z]
      have jF : J3 F = vp_updL (vp_updL (vp_updL (vp_updL (J F) 6 0) 7 0) 9 0) 8 (mk (fun c => decide (0 < cnt a (84 + c)))) := by rw [← hJ3, pvsJ_eq]
      have st := f_settle (I := I3) (J := J3) (w := w) (h := h) (a := a) (wl := wl) (wo := wo) (s := s) (m := 0) (sn := sn) (cat := cat) hP hA (by decide) hs (by rw [← hI3, pvs_ne (by omega), pvs_ne (by omega), pvs_eq]; simp [upd]) (by rw [f3 5 (by decide)]; exact h5) (by rw [f3 0 (by decide)]; exact h0) (by rw [f3 1 (by decide)]; exact h1) hce hwk hce2 hwk2 (by rw [j3 19 (by omega)]; exact hcut) ⟨?_, ?_, ?_, fun c hc => ?_, fun c hc => ?_, fun _ => false, ?_, fun c hc _ _ z => absurd z (by show ¬ (0 < 0); decide)⟩ (fI_0 hf)
      · have fin : ∀ v I' J', (v = none ∧ fCu F cat (fwk w h a wl wo s 0) I' J' ∧ fWk F 0 (fwk w h a wl wo s 0) (metB w h a wl wo s 0) J' ∧ fFr F I3 J3 I' J' ∧ I' F 4 = nI 0 ∧ I' F 5 = nI (max sn (0 + 1)) ∧ ∀ k, k ≠ 0 → J' (F + 3) k = J3 (F + 3) k ∧ J' (F + 4) k = J3 (F + 4) k ∧ J' (F + 5) k = J3 (F + 5) k) → stQ w h a wl wo s F 0 sn cat I J P v 224 I' J' P := by
          rintro v I' J' ⟨q1, q2, q3, q4, q5, q6, q7⟩
          refine ⟨rfl, rfl, q1, q2, q3, ⟨fun x hx => ?_, fun x hx => ?_, fun j z1 z2 => ?_, ?_⟩, q5, q6, fun k hk => ?_⟩
          · rw [q4.1 x hx]; simp at hx; exact o3 x hx.1 hx.2.1 hx.2.2
          · rw [q4.2.1 x hx]; simp at hx; exact j3 x hx.1
          · rw [q4.2.2.1 j z1 z2, f3 j z1]
          · rw [q4.2.2.2, jF]; simp [vp_updL]
          · have := q7 k hk
            rw [j3 (F + 3) (by omega), j3 (F + 4) (by omega), j3 (F + 5) (by omega)] at this
            exact this
        refine g_iload_n dX1_begin_20 rfl ?_
        refine g_bipush (v := nI 64) dX1_begin_21 (by decide) ?_
        refine n_icmp_ge 39 dX1_begin_23 (by decide) (by first | ((with_reducible apply cN_le) <;> omega) | ((with_reducible apply cI_len) <;> omega) | ((with_reducible apply cI_nle) <;> omega) | (with_reducible exact cI_le)) (fun c23 => ?_) (fun c23 => by exfalso; first | omega | exact absurd trivial c23 | exact c23 | (simp at c23))
        refine g_aload_n dX1_begin_39 rfl ?_
        refine g_lconst (v := 0) dX1_begin_40 (by decide) ?_
        refine n_putJ dX1_begin_41 fdX1_54 rfl (fun h => absurd h (by decide)) (by first | exact s0 | rfl) (by omega) (by omega) (by decide) rfl (by repeat (first | exact pvu_s | exact pvuJ_s | apply pvu_in (by omega) | apply pvuJ_in (by omega) | exact pvu_pvs | exact pvuJ_pvs)) ?_
        refine g_aload_n dX1_begin_44 rfl ?_
        refine g_lconst (v := 0) dX1_begin_45 (by decide) ?_
        refine n_putJ dX1_begin_46 fdX1_58 rfl (fun h => absurd h (by decide)) (by first | exact s0 | rfl) (by omega) (by omega) (by decide) rfl (by repeat (first | exact pvu_s | exact pvuJ_s | apply pvu_in (by omega) | apply pvuJ_in (by omega) | exact pvu_pvs | exact pvuJ_pvs)) ?_
        refine g_aload_n dX1_begin_49 rfl ?_
        refine g_lconst (v := 0) dX1_begin_50 (by decide) ?_
        refine n_putJ dX1_begin_51 fdX1_64 rfl (fun h => absurd h (by decide)) (by first | exact s0 | rfl) (by omega) (by omega) (by decide) rfl (by repeat (first | exact pvu_s | exact pvuJ_s | apply pvu_in (by omega) | apply pvuJ_in (by omega) | exact pvu_pvs | exact pvuJ_pvs)) ?_
        refine g_aload_n dX1_begin_54 rfl ?_
        refine g_aload_n dX1_begin_55 rfl ?_
        refine g_getP dX1_begin_56 fdX1_87 rfl (by first | exact s0 | rfl) (by omega) (by omega) (by decide) rfl (hP _ _ _ rfl) ?_
        refine n_getJ dX1_begin_59 fdX1_96 rfl (by first | exact s0 | rfl) (by omega) (by omega) (by decide) rfl (by repeat (first | exact hco | (apply rd_s; done) | apply rd_n (by omega) | apply rp_s | apply rp_n (by omega) | (apply rdL_s; done) | apply rdL_n (by omega) | apply rpJ_s | apply rpJ_n (by omega) | rfl)) ?_
        refine n_putJ dX1_begin_62 fdX1_61 rfl (fun h => absurd h (by decide)) (by first | exact s0 | rfl) (by omega) (by omega) (by decide) rfl (by repeat (first | exact pvu_s | exact pvuJ_s | apply pvu_in (by omega) | apply pvuJ_in (by omega) | exact pvu_pvs | exact pvuJ_pvs)) ?_
        refine g_aload_n dX1_begin_65 rfl ?_
        refine g_iconst (v := nI 0) dX1_begin_66 (by decide) ?_
        refine n_putI dX1_begin_67 fdX1_15 rfl (fun h => absurd h (by decide)) (by first | exact s0 | rfl) (by omega) (by omega) (by decide) rfl (by repeat (first | exact pvu_s | exact pvuJ_s | apply pvu_in (by omega) | apply pvuJ_in (by omega) | exact pvu_pvs | exact pvuJ_pvs)) ?_
        refine g_aload_n dX1_begin_70 rfl ?_
        refine g_aload_n dX1_begin_71 rfl ?_
        rw [hJ3]
        rw [show pvs (pvs (pvs I F (upd (I F) 4 (nI 0))) (F + 1) (va_cpy (I 6) (I (F + 1)) 0 0 64)) (F + 2) (sp_fil (fun _ => nI 0) (I (F + 2)) 64) = I3 from hI3]
        refine g_callV (st) okX1_settle lkX1_99 rfl (s0) rfl (by omega) (by omega) dX1_begin_72 rfl (Nat.le_of_ble_eq_true rfl) (⟨by decide, by decide, by decide, by decide⟩) ?_
        rintro v nx' I' J' P' ⟨rfl, rfl, rfl, hq⟩
        exact g_vret dX1_begin_75 rfl (fin none I' J' ⟨rfl, hq⟩)
      · rw [jF]; simp [vp_updL]; exact (mk_eq0.mpr (fun c _ => rfl)).symm
      · rw [jF]; simp [vp_updL]; exact (mk_eq0.mpr (fun c _ => rfl)).symm
      · rw [jF]; simp [vp_updL]; exact mk_cong (fun c hc => by unfold mU; show _ = decide (0 < (if c < 64 then cnt a (84 + c) else 0)); rw [if_pos hc])
      · rw [← hI3, pvs_ne (by omega), pvs_eq, cpy_at hc, htn c hc]
        show _ = nI (if c < 64 then cnt a (84 + c) else 0)
        rw [if_pos hc]
      · rw [← hI3, pvs_eq]
        simp only [sp_fil, if_pos hc]
        rfl
      · rw [jF]; simp [vp_updL]; exact mk_zero.symm
    | succ q ih =>
      intro i hi
      have nx := ih (i + 1) (by omega)
      rw [← sp_fil_s] at nx
      refine g_iload_n dX1_begin_20 rfl ?_
      refine g_bipush (v := nI 64) dX1_begin_21 (by decide) ?_
      refine n_icmp_ge 39 dX1_begin_23 (by decide) (by first | ((with_reducible apply cN_le) <;> omega) | ((with_reducible apply cI_len) <;> omega) | ((with_reducible apply cI_nle) <;> omega) | (with_reducible exact cI_le)) (fun c23 => by exfalso; first | omega | exact absurd trivial c23 | exact c23 | (simp at c23)) (fun c23 => ?_)
      refine g_aload_n dX1_begin_26 rfl ?_
      refine g_getP dX1_begin_27 fdX1_22 rfl (by first | exact s0 | exact s2) (by omega) (by omega) (by decide) rfl (p11) ?_
      refine g_iload_n dX1_begin_30 rfl ?_
      refine g_iconst (v := nI 0) dX1_begin_31 (by decide) ?_
      refine n_iast dX1_begin_32 (by first | exact s0 | exact s2) (by omega) (by omega) (by omega) (by decide) (rfl) (by omega) (by repeat (first | exact pvu_s | exact pvuJ_s | apply pvu_in (by omega) | apply pvuJ_in (by omega) | exact pvu_pvs | exact pvuJ_pvs)) ?_
      refine g_iinc dX1_begin_33 rfl (by first | (with_reducible exact nI_1 _) | exact nI_1 _ | exact pk_m1 _ | rfl) (by decide) rfl ?_
      refine g_goto 20 dX1_begin_36 (by decide) ?_
      exact nx
  have h0' := lp 64 0 (by omega)
  rw [sp_fil_0] at h0'
  have e2 : pvs (pvs I (F + 1) (va_cpy (I 6) (I (F + 1)) 0 0 64)) (F + 2) (I (F + 2)) = pvs I (F + 1) (va_cpy (I 6) (I (F + 1)) 0 0 64) := by
    have : I (F + 2) = pvs I (F + 1) (va_cpy (I 6) (I (F + 1)) 0 0 64) (F + 2) := (pvs_ne (by omega)).symm
    rw [this, pvs_self]
  rw [e2] at h0'
  refine pvMet.of _ (by decide) rfl (Nat.le_of_ble_eq_true rfl) ?_
  refine g_aload_n dX1_begin_0 rfl ?_
  refine g_getP dX1_begin_1 fdX1_87 rfl (by first | exact s0 | rfl) (by omega) (by omega) (by decide) rfl (by first | exact p10 | exact hP _ _ _ rfl) ?_
  refine g_getP dX1_begin_4 fdX1_93 rfl (by first | exact s0 | rfl) (by omega) (by omega) (by decide) rfl (by first | exact p10 | exact hP _ _ _ rfl) ?_
  refine g_iconst (v := nI 0) dX1_begin_7 (by decide) ?_
  refine g_aload_n dX1_begin_8 rfl ?_
  refine g_getP dX1_begin_9 fdX1_18 rfl (by first | exact s0 | rfl) (by omega) (by omega) (by decide) rfl (by first | exact p10 | exact hP _ _ _ rfl) ?_
  refine g_iconst (v := nI 0) dX1_begin_12 (by decide) ?_
  refine g_bipush (v := nI 64) dX1_begin_13 (by decide) ?_
  refine g_copyI (R0 := 0) dX1_begin_15 acX1_67 acN acS acI (rfl) (s1) (by omega) (by omega) (by omega) (by omega) (by omega) (by decide) (by decide) (by decide) (Nat.le_of_ble_eq_true rfl) ?_
  refine g_iconst (v := nI 0) dX1_begin_18 (by decide) ?_
  refine g_istore_n dX1_begin_19 (by decide) rfl ?_
  exact h0'
end BEG
