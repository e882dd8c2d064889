/-! class: a fire forgets, is told; fed -/
section FED
variable {w h : Nat} {a : Nat → Int32} {I : pvI} {J : pvJ} {P : pvP} {F : Nat}
/-- a fire forgot from week k on -/
def fgt (F k sn : Nat) (I I' : pvI) : Prop := mfix I I' [F] ∧ (∀ j, j ≠ 4 → j ≠ 5 → I' F j = I F j) ∧ I' F 5 = nI (min sn k) ∧ (I' F 4 = -1 ∨ ∃ j, j < k ∧ I F 4 = nI j ∧ I' F 4 = nI j)
theorem f_forget {k sn : Nat} (hA : fAd F) (hk : k ≤ 1000) (hs : sn ≤ 100) (h5 : I F 5 = nI sn) (h4 : I F 4 = -1 ∨ ∃ j, j ≤ 99 ∧ I F 4 = nI j) : pvMet mX1_forgetFrom 1 0 0 [.ref F, .int (nI k)] 224 I J P (pvq P (fun v I' J' => v = none ∧ J' = J ∧ fgt F k sn I I')) := by
  obtain ⟨⟨s0, s1, s2, s3, s4, s5⟩, h90, h138⟩ := hA.sh
  have fm : ∀ f, mfix I (pvs I F f) [F] := fun f x hx => by simp at hx; exact pvs_ne hx
  rcases h4 with h4 | ⟨j, hj, h4⟩
  · have hlt : ((-1 : Int32) < nI k) ↔ True := by
      rw [Int32.lt_iff_toInt_lt, nI_toInt (by omega), show ((-1 : Int32)).toInt = -1 from rfl]
      exact ⟨fun _ => trivial, fun _ => by omega⟩
    refine pvMet.of _ (by decide) rfl (Nat.le_of_ble_eq_true rfl) ?_
    refine g_aload_n dX1_forgetFrom_0 rfl ?_
    refine g_aload_n dX1_forgetFrom_1 rfl ?_
    refine n_getI dX1_forgetFrom_2 fdX1_45 rfl (by first | exact s0) (by omega) (by omega) (by decide) rfl (by repeat (first | exact h4 | exact h5 | (apply rd_s; done) | apply rd_n (by omega) | apply rp_s | apply rp_n (by omega) | (apply rdL_s; done) | apply rdL_n (by omega) | apply rpJ_s | apply rpJ_n (by omega) | rfl)) ?_
    refine g_iload_n dX1_forgetFrom_5 rfl ?_
    refine g_mmin dX1_forgetFrom_6 lkX1_48 (by decide) (Nat.le_of_ble_eq_true rfl) (by decide) (by decide) (mm_min (by omega) (by omega)) ?_
    refine n_putI dX1_forgetFrom_9 fdX1_45 rfl (fun h => absurd h (by decide)) (by first | exact s0) (by omega) (by omega) (by decide) rfl (by repeat (first | exact pvu_s | exact pvuJ_s | apply pvu_in (by omega) | apply pvuJ_in (by omega) | exact pvu_pvs | exact pvuJ_pvs)) ?_
    refine g_aload_n dX1_forgetFrom_12 rfl ?_
    refine n_getI dX1_forgetFrom_13 fdX1_15 rfl (by first | exact s0) (by omega) (by omega) (by decide) rfl (by repeat (first | exact h4 | exact h5 | (apply rd_s; done) | apply rd_n (by omega) | apply rp_s | apply rp_n (by omega) | (apply rdL_s; done) | apply rdL_n (by omega) | apply rpJ_s | apply rpJ_n (by omega) | rfl)) ?_
    refine g_iload_n dX1_forgetFrom_16 rfl ?_
    refine n_icmp_lt 25 dX1_forgetFrom_17 (by decide) (hlt) (fun c17 => ?_) (fun c17 => by exfalso; first | omega | exact absurd trivial c17 | exact c17 | (simp at c17))
    exact g_vret dX1_forgetFrom_25 rfl (⟨rfl, rfl, rfl, rfl, fm _, fun j z1 z2 => by rw [pvs_eq]; simp [upd, z2], by rw [pvs_eq]; simp [upd], Or.inl (by rw [pvs_eq]; simp [upd, h4])⟩)
  · by_cases c : j < k
    · skip
      refine pvMet.of _ (by decide) rfl (Nat.le_of_ble_eq_true rfl) ?_
      refine g_aload_n dX1_forgetFrom_0 rfl ?_
      refine g_aload_n dX1_forgetFrom_1 rfl ?_
      refine n_getI dX1_forgetFrom_2 fdX1_45 rfl (by first | exact s0) (by omega) (by omega) (by decide) rfl (by repeat (first | exact h4 | exact h5 | (apply rd_s; done) | apply rd_n (by omega) | apply rp_s | apply rp_n (by omega) | (apply rdL_s; done) | apply rdL_n (by omega) | apply rpJ_s | apply rpJ_n (by omega) | rfl)) ?_
      refine g_iload_n dX1_forgetFrom_5 rfl ?_
      refine g_mmin dX1_forgetFrom_6 lkX1_48 (by decide) (Nat.le_of_ble_eq_true rfl) (by decide) (by decide) (mm_min (by omega) (by omega)) ?_
      refine n_putI dX1_forgetFrom_9 fdX1_45 rfl (fun h => absurd h (by decide)) (by first | exact s0) (by omega) (by omega) (by decide) rfl (by repeat (first | exact pvu_s | exact pvuJ_s | apply pvu_in (by omega) | apply pvuJ_in (by omega) | exact pvu_pvs | exact pvuJ_pvs)) ?_
      refine g_aload_n dX1_forgetFrom_12 rfl ?_
      refine n_getI dX1_forgetFrom_13 fdX1_15 rfl (by first | exact s0) (by omega) (by omega) (by decide) rfl (by repeat (first | exact h4 | exact h5 | (apply rd_s; done) | apply rd_n (by omega) | apply rp_s | apply rp_n (by omega) | (apply rdL_s; done) | apply rdL_n (by omega) | apply rpJ_s | apply rpJ_n (by omega) | rfl)) ?_
      refine g_iload_n dX1_forgetFrom_16 rfl ?_
      refine n_icmp_lt 25 dX1_forgetFrom_17 (by decide) (by first | ((with_reducible apply cN_lt) <;> omega) | ((with_reducible apply cI_ltn) <;> omega) | ((with_reducible apply cI_nlt) <;> omega) | (with_reducible exact cI_lt)) (fun c17 => ?_) (fun c17 => by exfalso; first | omega | exact absurd trivial c17 | exact c17 | (simp at c17))
      exact g_vret dX1_forgetFrom_25 rfl (⟨rfl, rfl, rfl, rfl, fm _, fun j z1 z2 => by rw [pvs_eq]; simp [upd, z2], by rw [pvs_eq]; simp [upd], Or.inr ⟨j, c, h4, by rw [pvs_eq]; simp [upd, h4]⟩⟩)
    · skip
      refine pvMet.of _ (by decide) rfl (Nat.le_of_ble_eq_true rfl) ?_
      refine g_aload_n dX1_forgetFrom_0 rfl ?_
      refine g_aload_n dX1_forgetFrom_1 rfl ?_
      refine n_getI dX1_forgetFrom_2 fdX1_45 rfl (by first | exact s0) (by omega) (by omega) (by decide) rfl (by repeat (first | exact h4 | exact h5 | (apply rd_s; done) | apply rd_n (by omega) | apply rp_s | apply rp_n (by omega) | (apply rdL_s; done) | apply rdL_n (by omega) | apply rpJ_s | apply rpJ_n (by omega) | rfl)) ?_
      refine g_iload_n dX1_forgetFrom_5 rfl ?_
      refine g_mmin dX1_forgetFrom_6 lkX1_48 (by decide) (Nat.le_of_ble_eq_true rfl) (by decide) (by decide) (mm_min (by omega) (by omega)) ?_
      refine n_putI dX1_forgetFrom_9 fdX1_45 rfl (fun h => absurd h (by decide)) (by first | exact s0) (by omega) (by omega) (by decide) rfl (by repeat (first | exact pvu_s | exact pvuJ_s | apply pvu_in (by omega) | apply pvuJ_in (by omega) | exact pvu_pvs | exact pvuJ_pvs)) ?_
      refine g_aload_n dX1_forgetFrom_12 rfl ?_
      refine n_getI dX1_forgetFrom_13 fdX1_15 rfl (by first | exact s0) (by omega) (by omega) (by decide) rfl (by repeat (first | exact h4 | exact h5 | (apply rd_s; done) | apply rd_n (by omega) | apply rp_s | apply rp_n (by omega) | (apply rdL_s; done) | apply rdL_n (by omega) | apply rpJ_s | apply rpJ_n (by omega) | rfl)) ?_
      refine g_iload_n dX1_forgetFrom_16 rfl ?_
      refine n_icmp_lt 25 dX1_forgetFrom_17 (by decide) (by first | ((with_reducible apply cN_lt) <;> omega) | ((with_reducible apply cI_ltn) <;> omega) | ((with_reducible apply cI_nlt) <;> omega) | (with_reducible exact cI_lt)) (fun c17 => by exfalso; first | omega | exact absurd trivial c17 | exact c17 | (simp at c17)) (fun c17 => ?_)
      refine g_aload_n dX1_forgetFrom_20 rfl ?_
      refine g_iconst (v := (-1)) dX1_forgetFrom_21 (by decide) ?_
      refine n_putI dX1_forgetFrom_22 fdX1_15 rfl (fun h => absurd h (by decide)) (by first | exact s0) (by omega) (by omega) (by decide) rfl (by repeat (first | exact pvu_s | exact pvuJ_s | apply pvu_in (by omega) | apply pvuJ_in (by omega) | exact pvu_pvs | exact pvuJ_pvs)) ?_
      exact g_vret dX1_forgetFrom_25 rfl (⟨rfl, rfl, rfl, rfl, fm _, fun j z1 z2 => by rw [pvs_eq]; simp [upd, z1, z2], by rw [pvs_eq]; simp [upd], Or.inl (by rw [pvs_eq]; simp [upd])⟩)
theorem f_tell {sn : Nat} {c m : Int32} (hA : fAd F) (hs : sn ≤ 100) (h5 : I F 5 = nI sn) (h4 : I F 4 = -1 ∨ ∃ j, j ≤ 99 ∧ I F 4 = nI j) : pvMet mX1_tell 2 0 0 [.ref F, .int c, .int m] 224 I J P (pvq P (fun v I' J' => v = none ∧ J' = J ∧ mfix I I' [F] ∧ I' F 0 = c ∧ I' F 1 = m ∧ I' F 2 = I F 2 ∧ I' F 4 = -1 ∧ I' F 5 = nI 0)) := by
  obtain ⟨⟨s0, s1, s2, s3, s4, s5⟩, h90, h138⟩ := hA.sh
  have fo := f_forget (F := F) (k := 0) (sn := sn) (I := pvs I F (upd (upd (I F) 0 c) 1 m)) (J := J) (P := P) hA (by omega) hs (by rw [pvs_eq]; simp [upd, h5]) (by rw [pvs_eq]; simpa [upd] using h4)
  refine pvMet.of _ (by decide) rfl (Nat.le_of_ble_eq_true rfl) ?_
  refine g_aload_n dX1_tell_0 rfl ?_
  refine g_iload_n dX1_tell_1 rfl ?_
  refine n_putI dX1_tell_2 fdX1_35 rfl (fun h => absurd h (by decide)) (by first | exact s0) (by omega) (by omega) (by decide) rfl (by repeat (first | exact pvu_s | exact pvuJ_s | apply pvu_in (by omega) | apply pvuJ_in (by omega) | exact pvu_pvs | exact pvuJ_pvs)) ?_
  refine g_aload_n dX1_tell_5 rfl ?_
  refine g_iload_n dX1_tell_6 rfl ?_
  refine n_putI dX1_tell_7 fdX1_38 rfl (fun h => absurd h (by decide)) (by first | exact s0) (by omega) (by omega) (by decide) rfl (by repeat (first | exact pvu_s | exact pvuJ_s | apply pvu_in (by omega) | apply pvuJ_in (by omega) | exact pvu_pvs | exact pvuJ_pvs)) ?_
  refine g_aload_n dX1_tell_10 rfl ?_
  refine g_iconst (v := nI 0) dX1_tell_11 (by decide) ?_
  refine g_callV (fo) okX1_forgetFrom lkX1_41 rfl (s0) rfl (by omega) (by omega) dX1_tell_12 rfl (Nat.le_of_ble_eq_true rfl) (⟨by decide, by decide, by decide, by decide⟩) ?_
  rintro v nx' I1 J1 P' ⟨rfl, rfl, rfl, rfl, q1, q2, q3, q4⟩
  exact g_vret dX1_tell_15 rfl (⟨rfl, rfl, rfl, rfl, fun x hx => (q1 x hx).trans (by simp at hx; exact pvs_ne hx), by rw [q2 0 (by decide) (by decide), pvs_eq]; simp [upd], by rw [q2 1 (by decide) (by decide), pvs_eq]; simp [upd], by rw [q2 2 (by decide) (by decide), pvs_eq]; simp [upd], q4.elim id (fun ⟨j, z, _⟩ => absurd z (Nat.not_lt_zero j)), by rw [q3, Nat.min_zero]⟩)
theorem kB.n1 (hb : kB w h a I J) : cnt a 1 ≤ 20 ∧ I 9 0 = nI (cnt a 1) := by
  obtain ⟨k3, k3b, -⟩ := mG_eq hb.2.2.2.2.1.1 (i := 1) (by decide)
  exact ⟨k3b, by rw [hb.2.1.2.2.1.1]; exact k3⟩
theorem rFir.mv {I' : pvI} {J' : pvJ} (hf : rFir w h a I J) (hI : ∀ x, 90 ≤ x → x < 138 → I' x = I x) (hJ : ∀ x, 90 ≤ x → x < 138 → J' x = J x) : rFir w h a I' J' := by
  intro t ht
  have bt := fad_lt ht
  obtain ⟨⟨h1, h2⟩, h3, h4⟩ := hf t ht
  rw [hI (fad t) (by omega) (by omega), hJ (fad t) (by omega) (by omega)]
  refine ⟨⟨h1, h2⟩, h3, fun z => ?_⟩
  obtain ⟨y1, y2, sn', y3⟩ := h4 z
  exact ⟨y1, y2, sn', y3.mv (fun x z1 z2 => hI x (by omega) (by omega)) (fun x z1 z2 => hJ x (by omega) (by omega))⟩
theorem c_fed {s m k : Int32} (hP : pvOkP P) (hb : kB w h a I J) : pvMet mX11_fed 6 0 0 [.ref 1, .int s, .int m, .int k] 224 I J P (kQ w h a I J P (sp_fed w h a s m k)) := by
  obtain ⟨n3, r3⟩ := hb.n3
  obtain ⟨n1, r1⟩ := hb.n1
  have hi := hb.2.2.2.2
  have hwh := hb.1.wh
  have hs := c_hasState (v := s) (J := J) hP r3 (by omega)
  have iw := c_isWeek (nx := 224) (v := m) (I := I) (J := J) (P := P)
  have ih := c_hasHole (v := k) (J := J) (P := P) r1 (by omega)
  by_cases c1 : 0 ≤ s.toInt ∧ s.toInt < cnt a 3
  · rw [if_pos c1] at hs
    by_cases hm : 0 ≤ m.toInt ∧ m.toInt ≤ 99
    · rw [if_pos hm] at iw
      by_cases hk : 0 ≤ k.toInt ∧ k.toInt < cnt a 1
      · rw [if_pos hk] at ih
        obtain ⟨sn, hsn, rfl⟩ := cI_of (x := s) (n := cnt a 3) (by omega) (by omega) (by omega)
        obtain ⟨mn, hmn, rfl⟩ := cI_of (x := m) (n := 100) (by omega) (by omega) (by omega)
        obtain ⟨kn, hkn, rfl⟩ := cI_of (x := k) (n := cnt a 1) (by omega) (by omega) (by omega)
        have ans : sp_fed w h a (nI sn) (nI mn) (nI kn) = nI (lostN w h a 0 none sn mn) - nI (lostN w h a 0 (some kn) sn mn) := by
          rw [sp_fed, if_pos ⟨c1, hm, hk⟩, nI_clamp (by omega), nI_clamp (by omega), nI_clamp (by omega)]
        rw [ans]
        obtain ⟨y1, y2⟩ := hb.2.1.2.2.2.1.2.1 sn hsn
        obtain ⟨t2, t3, tn, t4, t5, t6⟩ := hb.2.2.2.1
        obtain ⟨h8, hE, hB, -⟩ := hb.st hsn
        have z1 : I 21 sn = nI (cnt a (260 + 2 * sn)) := by
          obtain ⟨u, u1, u2⟩ := (hi.1.2.2.1 sn hsn).1
          rw [y1, cnt_of u2 (by omega)]; exact u2
        have z2 : I 22 sn = nI (cnt a (260 + 2 * sn + 1)) := by
          obtain ⟨u, u1, u2⟩ := (hi.1.2.2.1 sn hsn).2
          rw [y2, cnt_of u2 (by omega)]; exact u2
        have A8 : fAd 138 := fad_ok (s := 8) (by decide)
        have te := f_tell (F := 138) (I := I) (J := J) (P := P) (c := nI (cnt a (260 + 2 * sn))) (m := nI (cnt a (260 + 2 * sn + 1))) A8 t4 t5 t6
        refine pvMet.of _ (by decide) rfl (Nat.le_of_ble_eq_true rfl) ?_
        refine g_aload_n dX11_fed_0 rfl ?_
        refine g_iload_n dX11_fed_1 rfl ?_
        refine p_callV (hs) okX11_hasState lkX11_189 rfl (by first | rfl | exact pv_shx) rfl (by omega) (by omega) dX11_fed_2 rfl (Nat.le_of_ble_eq_true rfl) (⟨by decide, by decide, by decide, by decide⟩) ?_
        refine n_if_eq 29 dX11_fed_5 (by decide) (by first | (with_reducible exact cB _) | ((with_reducible apply cN_eq0) <;> omega) | exact Iff.rfl) (fun c5 => by exfalso; first | omega | exact absurd trivial c5 | exact c5 | (simp at c5)) (fun c5 => ?_)
        refine g_iload_n dX11_fed_8 rfl ?_
        refine p_callS (iw) okX11_isWeek lkX11_160 rfl dX11_fed_9 rfl (Nat.le_of_ble_eq_true rfl) (⟨by decide, by decide, by decide, by decide⟩) ?_
        refine n_if_eq 29 dX11_fed_12 (by decide) (by first | (with_reducible exact cB _) | ((with_reducible apply cN_eq0) <;> omega) | exact Iff.rfl) (fun c12 => by exfalso; first | omega | exact absurd trivial c12 | exact c12 | (simp at c12)) (fun c12 => ?_)
        refine g_aload_n dX11_fed_15 rfl ?_
        refine g_getP dX11_fed_16 fdX11_32 rfl (by first | rfl | exact pv_shx) (by omega) (by omega) (by decide) rfl (hP _ _ _ rfl) ?_
        refine g_getP dX11_fed_19 fdX11_112 rfl (by first | rfl | exact pv_shx) (by omega) (by omega) (by decide) rfl (hP _ _ _ rfl) ?_
        refine g_iload_n dX11_fed_22 rfl ?_
        refine p_callV (ih) okX9_hasHole lkX11_124 rfl (by first | rfl | exact pv_shx) rfl (by omega) (by omega) dX11_fed_23 rfl (Nat.le_of_ble_eq_true rfl) (⟨by decide, by decide, by decide, by decide⟩) ?_
        refine n_if_ne 33 dX11_fed_26 (by decide) (by first | (with_reducible exact cB _) | ((with_reducible apply cN_eq0) <;> omega) | exact Iff.rfl) (fun c26 => ?_) (fun c26 => by exfalso; first | omega | exact absurd trivial c26 | exact c26 | (simp at c26))
        refine g_aload_n dX11_fed_33 rfl ?_
        refine g_getP dX11_fed_34 fdX11_46 rfl (by first | rfl | exact pv_shx) (by omega) (by omega) (by decide) rfl (hP _ _ _ rfl) ?_
        refine g_aload_n dX11_fed_37 rfl ?_
        refine g_getP dX11_fed_38 fdX11_32 rfl (by first | rfl | exact pv_shx) (by omega) (by omega) (by decide) rfl (hP _ _ _ rfl) ?_
        refine g_getP dX11_fed_41 fdX11_163 rfl (by first | rfl | exact pv_shx) (by omega) (by omega) (by decide) rfl (hP _ _ _ rfl) ?_
        refine g_getP dX11_fed_44 fdX11_223 rfl (by first | rfl | exact pv_shx) (by omega) (by omega) (by decide) rfl (hP _ _ _ rfl) ?_
        refine g_iload_n dX11_fed_47 rfl ?_
        refine n_iald dX11_fed_48 (by first | rfl | exact pv_shx) (by omega) (by omega) (by decide) (rfl) (by omega) (by repeat (first | exact z1 | exact z2 | (apply rd_s; done) | apply rd_n (by omega) | apply rp_s | apply rp_n (by omega) | (apply rdL_s; done) | apply rdL_n (by omega) | apply rpJ_s | apply rpJ_n (by omega) | rfl)) ?_
        refine g_aload_n dX11_fed_49 rfl ?_
        refine g_getP dX11_fed_50 fdX11_32 rfl (by first | rfl | exact pv_shx) (by omega) (by omega) (by decide) rfl (hP _ _ _ rfl) ?_
        refine g_getP dX11_fed_53 fdX11_163 rfl (by first | rfl | exact pv_shx) (by omega) (by omega) (by decide) rfl (hP _ _ _ rfl) ?_
        refine g_getP dX11_fed_56 fdX11_226 rfl (by first | rfl | exact pv_shx) (by omega) (by omega) (by decide) rfl (hP _ _ _ rfl) ?_
        refine g_iload_n dX11_fed_59 rfl ?_
        refine n_iald dX11_fed_60 (by first | rfl | exact pv_shx) (by omega) (by omega) (by decide) (rfl) (by omega) (by repeat (first | exact z1 | exact z2 | (apply rd_s; done) | apply rd_n (by omega) | apply rp_s | apply rp_n (by omega) | (apply rdL_s; done) | apply rdL_n (by omega) | apply rpJ_s | apply rpJ_n (by omega) | rfl)) ?_
        refine g_callV (te) okX1_tell lkX11_178 rfl (by first | rfl | exact pv_shx) rfl (by omega) (by omega) dX11_fed_61 rfl (Nat.le_of_ble_eq_true rfl) (⟨by decide, by decide, by decide, by decide⟩) ?_
        rintro v nx' I1 J1 P' ⟨rfl, rfl, rfl, rfl, e1, e2, e3, e4, e5, e6⟩
        have hm1 : (nI kn = -1) ↔ False := by
          rw [cI_m1, nI_toInt (by omega)]
          exact ⟨fun z => by omega, False.elim⟩
        have hE2 : fEnv w h a sn (some kn) (cnt a (260 + 2 * sn)) (cnt a (260 + 2 * sn + 1)) (nI kn) := ⟨hE.1, hE.2.1, hE.2.2.1, hE.2.2.2.1, hE.2.2.2.2.1, wo_some (by omega), ⟨fun z => (hm1.mp z).elim, fun z => by cases z⟩⟩
        have I2 : ∀ x, x ≠ 138 → pvs I1 138 (upd (I1 138) 2 (nI kn)) x = I x := fun x hx => by rw [pvs_ne hx]; exact e1 x (by simpa using hx)
        have hw2 : wF w h a (pvs I1 138 (upd (I1 138) 2 (nI kn))) J1 := (hb.2.1.mv (I' := pvs I1 138 (upd (I1 138) 2 (nI kn))) (J' := J1) (fun x _ z => I2 x (by omega)) (fun x _ _ => rfl)).wF (hb.1.mv (I2 2 (by decide)) rfl) hi
        have lt := f_lookAt (w := w) (h := h) (a := a) (wl := 0) (wo := some kn) (s := sn) (F := 138) (sn := 0) (cat := 0) (I := pvs I1 138 (upd (I1 138) 2 (nI kn))) (J := J1) (P := P') (u2 := nI kn) (wal := fun _ => false) (g := mn) hP A8 hE2 hw2 ⟨by rw [pvs_eq]; simp [upd, e2], by rw [pvs_eq]; simp [upd, e3], by rw [pvs_eq]; simp [upd], by rw [t3]; exact mk_zero.symm⟩ (by omega) (fun k _ => walOk0) ⟨by omega, by rw [pvs_eq]; simp [upd, e6], fun j hj => absurd hj (Nat.not_lt_zero j), Or.inl (by rw [pvs_eq]; simp [upd, e5])⟩
        refine g_aload_n dX11_fed_64 rfl ?_
        refine g_getP dX11_fed_65 fdX11_46 rfl (by first | rfl | exact pv_shx) (by omega) (by omega) (by decide) rfl (hP _ _ _ rfl) ?_
        refine g_iload_n dX11_fed_68 rfl ?_
        refine n_putI dX11_fed_69 fdX11_229 rfl (fun h => absurd h (by decide)) (by first | rfl | exact pv_shx) (by omega) (by omega) (by decide) rfl (by repeat (first | exact pvu_s | exact pvuJ_s | apply pvu_in (by omega) | apply pvuJ_in (by omega) | exact pvu_pvs | exact pvuJ_pvs)) ?_
        refine g_aload_n dX11_fed_72 rfl ?_
        refine g_getP dX11_fed_73 fdX11_46 rfl (by first | rfl | exact pv_shx) (by omega) (by omega) (by decide) rfl (hP _ _ _ rfl) ?_
        refine g_aload_n dX11_fed_76 rfl ?_
        refine g_getP dX11_fed_77 fdX11_32 rfl (by first | rfl | exact pv_shx) (by omega) (by omega) (by decide) rfl (hP _ _ _ rfl) ?_
        refine g_iload_n dX11_fed_80 rfl ?_
        refine g_callV (lt) okX1_lookAt lkX11_202 rfl (by first | rfl | exact pv_shx) rfl (by omega) (by omega) dX11_fed_81 rfl (Nat.le_of_ble_eq_true rfl) (⟨by decide, by decide, by decide, by decide⟩) ?_
        rintro v nx' I3 J3 P'' ⟨rfl, rfl, rfl, g1, g2⟩
        have I4 : ∀ x, x ≠ 138 → pvs I3 138 (upd (I3 138) 2 (-1)) x = I3 x := fun x hx => pvs_ne hx
        have hq4 : qF I J1 (pvs I3 138 (upd (I3 138) 2 (-1))) J3 := fun x hx => ⟨by rw [I4 x (by omega), g2.1 x (by simp; omega), I2 x (by omega)], g2.2.1 x (by simp; omega)⟩
        have hf4 : rFir w h a (pvs I3 138 (upd (I3 138) 2 (-1))) J3 := hb.2.2.1.mv (fun x _ z => by rw [I4 x (by omega), g2.1 x (by simp; omega), I2 x (by omega)]) (fun x _ z => g2.2.1 x (by simp; omega))
        have ht4 : rTri (pvs I3 138 (upd (I3 138) 2 (-1))) J3 := by
          refine ⟨by rw [pvs_eq]; simp [upd], g2.2.2.2.trans t3, _, g1.1, by rw [pvs_eq]; simp [upd, g1.2.1], ?_⟩
          rcases g1.2.2.2 with z | ⟨j, j1, j2, -⟩
          · exact Or.inl (by rw [pvs_eq]; simp [upd, z])
          · exact Or.inr ⟨j, by have := g1.1; omega, by rw [pvs_eq]; simp [upd, j2]⟩
        have hb4 := hb.q hq4 hf4 ht4
        have lk := c_look (g := mn) hP hb4 (s := sn) hsn (by omega)
        have s0 := (fad_ok (show sn < 9 by omega)).sh.1.1
        have bs := fad_lt (show sn < 8 by omega)
        refine g_aload_n dX11_fed_84 rfl ?_
        refine g_getP dX11_fed_85 fdX11_46 rfl (by first | rfl | exact pv_shx) (by omega) (by omega) (by decide) rfl (hP _ _ _ rfl) ?_
        refine g_iconst (v := (-1)) dX11_fed_88 (by decide) ?_
        refine n_putI dX11_fed_89 fdX11_229 rfl (fun h => absurd h (by decide)) (by first | rfl | exact pv_shx) (by omega) (by omega) (by decide) rfl (by repeat (first | exact pvu_s | exact pvuJ_s | apply pvu_in (by omega) | apply pvuJ_in (by omega) | exact pvu_pvs | exact pvuJ_pvs)) ?_
        refine g_aload_n dX11_fed_92 rfl ?_
        refine g_getP dX11_fed_93 fdX11_41 rfl (by first | rfl | exact pv_shx) (by omega) (by omega) (by decide) rfl (hP _ _ _ rfl) ?_
        refine g_iload_n dX11_fed_96 rfl ?_
        refine g_aald _ dX11_fed_97 (by first | exact Or.inl rfl | exact Or.inr rfl) (by omega) (by omega) (by decide) (rfl) (by omega) (fires_P hP (by omega)) ?_
        refine g_aload_n dX11_fed_98 rfl ?_
        refine g_getP dX11_fed_99 fdX11_32 rfl (by first | rfl | exact pv_shx) (by omega) (by omega) (by decide) rfl (hP _ _ _ rfl) ?_
        refine g_iload_n dX11_fed_102 rfl ?_
        refine g_callV (lk) okX1_lookAt lkX11_202 rfl (s0) rfl (by omega) (by omega) dX11_fed_103 rfl (Nat.le_of_ble_eq_true rfl) (⟨by decide, by decide, by decide, by decide⟩) ?_
        rintro v nx' I5 J5 P3 ⟨rfl, rfl, rfl, q1, q2, sv, q3, q4⟩
        have hI := fI_wk (wl := 0) (wo := none) (s := sn) (m := mn) hi.2.2.2.2.2.1.1 (hb.ce hsn)
        have hI2 := fI_wk (wl := 0) (wo := some kn) (s := sn) (m := mn) hi.2.2.2.2.2.1.1 (hb.ce hsn)
        have lb := c_lostBy (I := I5) (J := J5) hP (fad_ok (show sn < 9 by omega)) (by omega) (fun c => (hI c).2.2.1) (q4.2.2.1 mn (by omega))
        have hv2 := g1.2.2.1 mn (by omega)
        have hv3 : fWk 138 mn (fwk w h a 0 (some kn) sn mn) (metB w h a 0 (some kn) sn mn) J5 := by
          unfold fWk at hv2 ⊢
          rw [q2.2.1 (138 + 3) (by simp; omega), q2.2.1 (138 + 4) (by simp; omega), q2.2.1 (138 + 5) (by simp; omega)]
          exact hv2
        have lb2 := c_lostBy (I := I5) (J := J5) hP A8 (by omega) (fun c => (hI2 c).2.2.1) hv3
        refine g_aload_n dX11_fed_106 rfl ?_
        refine g_getP dX11_fed_107 fdX11_41 rfl (by first | rfl | exact pv_shx) (by omega) (by omega) (by decide) rfl (hP _ _ _ rfl) ?_
        refine g_iload_n dX11_fed_110 rfl ?_
        refine g_aald _ dX11_fed_111 (by first | exact Or.inl rfl | exact Or.inr rfl) (by omega) (by omega) (by decide) (rfl) (by omega) (fires_P hP (by omega)) ?_
        refine g_iload_n dX11_fed_112 rfl ?_
        refine p_callS (lb) okX11_lostBy lkX11_219 rfl dX11_fed_113 rfl (Nat.le_of_ble_eq_true rfl) (⟨by decide, by decide, by decide, by decide⟩) ?_
        refine g_aload_n dX11_fed_116 rfl ?_
        refine g_getP dX11_fed_117 fdX11_46 rfl (by first | rfl | exact pv_shx) (by omega) (by omega) (by decide) rfl (hP _ _ _ rfl) ?_
        refine g_iload_n dX11_fed_120 rfl ?_
        refine p_callS (lb2) okX11_lostBy lkX11_219 rfl dX11_fed_121 rfl (Nat.le_of_ble_eq_true rfl) (⟨by decide, by decide, by decide, by decide⟩) ?_
        refine n_isub dX11_fed_124 (rfl) ?_
        exact g_iret dX11_fed_125 rfl (⟨rfl, rfl, rfl, q1, hq4.tr (q2.q (fad_ok (by omega)))⟩)
      · rw [if_neg hk] at ih
        refine pvMet.of _ (by decide) rfl (Nat.le_of_ble_eq_true rfl) ?_
        refine g_aload_n dX11_fed_0 rfl ?_
        refine g_iload_n dX11_fed_1 rfl ?_
        refine p_callV (hs) okX11_hasState lkX11_189 rfl (by first | rfl | exact pv_shx) rfl (by omega) (by omega) dX11_fed_2 rfl (Nat.le_of_ble_eq_true rfl) (⟨by decide, by decide, by decide, by decide⟩) ?_
        refine n_if_eq 29 dX11_fed_5 (by decide) (by first | (with_reducible exact cB _) | ((with_reducible apply cN_eq0) <;> omega) | exact Iff.rfl) (fun c5 => by exfalso; first | omega | exact absurd trivial c5 | exact c5 | (simp at c5)) (fun c5 => ?_)
        refine g_iload_n dX11_fed_8 rfl ?_
        refine p_callS (iw) okX11_isWeek lkX11_160 rfl dX11_fed_9 rfl (Nat.le_of_ble_eq_true rfl) (⟨by decide, by decide, by decide, by decide⟩) ?_
        refine n_if_eq 29 dX11_fed_12 (by decide) (by first | (with_reducible exact cB _) | ((with_reducible apply cN_eq0) <;> omega) | exact Iff.rfl) (fun c12 => by exfalso; first | omega | exact absurd trivial c12 | exact c12 | (simp at c12)) (fun c12 => ?_)
        refine g_aload_n dX11_fed_15 rfl ?_
        refine g_getP dX11_fed_16 fdX11_32 rfl (by first | rfl | exact pv_shx) (by omega) (by omega) (by decide) rfl (hP _ _ _ rfl) ?_
        refine g_getP dX11_fed_19 fdX11_112 rfl (by first | rfl | exact pv_shx) (by omega) (by omega) (by decide) rfl (hP _ _ _ rfl) ?_
        refine g_iload_n dX11_fed_22 rfl ?_
        refine p_callV (ih) okX9_hasHole lkX11_124 rfl (by first | rfl | exact pv_shx) rfl (by omega) (by omega) dX11_fed_23 rfl (Nat.le_of_ble_eq_true rfl) (⟨by decide, by decide, by decide, by decide⟩) ?_
        refine n_if_ne 33 dX11_fed_26 (by decide) (by first | (with_reducible exact cB _) | ((with_reducible apply cN_eq0) <;> omega) | exact Iff.rfl) (fun c26 => by exfalso; first | omega | exact absurd trivial c26 | exact c26 | (simp at c26)) (fun c26 => ?_)
        refine g_sipush (v := (-1000)) dX11_fed_29 (by decide) ?_
        exact g_iret dX11_fed_32 rfl (⟨rfl, rfl, by rw [sp_fed, if_neg (fun z => hk z.2.2)], hb, qF.rf⟩)
    · rw [if_neg hm] at iw
      refine pvMet.of _ (by decide) rfl (Nat.le_of_ble_eq_true rfl) ?_
      refine g_aload_n dX11_fed_0 rfl ?_
      refine g_iload_n dX11_fed_1 rfl ?_
      refine p_callV (hs) okX11_hasState lkX11_189 rfl (by first | rfl | exact pv_shx) rfl (by omega) (by omega) dX11_fed_2 rfl (Nat.le_of_ble_eq_true rfl) (⟨by decide, by decide, by decide, by decide⟩) ?_
      refine n_if_eq 29 dX11_fed_5 (by decide) (by first | (with_reducible exact cB _) | ((with_reducible apply cN_eq0) <;> omega) | exact Iff.rfl) (fun c5 => by exfalso; first | omega | exact absurd trivial c5 | exact c5 | (simp at c5)) (fun c5 => ?_)
      refine g_iload_n dX11_fed_8 rfl ?_
      refine p_callS (iw) okX11_isWeek lkX11_160 rfl dX11_fed_9 rfl (Nat.le_of_ble_eq_true rfl) (⟨by decide, by decide, by decide, by decide⟩) ?_
      refine n_if_eq 29 dX11_fed_12 (by decide) (by first | (with_reducible exact cB _) | ((with_reducible apply cN_eq0) <;> omega) | exact Iff.rfl) (fun c12 => ?_) (fun c12 => by exfalso; first | omega | exact absurd trivial c12 | exact c12 | (simp at c12))
      refine g_sipush (v := (-1000)) dX11_fed_29 (by decide) ?_
      exact g_iret dX11_fed_32 rfl (⟨rfl, rfl, by rw [sp_fed, if_neg (fun z => hm z.2.1)], hb, qF.rf⟩)
  · rw [if_neg c1] at hs
    refine pvMet.of _ (by decide) rfl (Nat.le_of_ble_eq_true rfl) ?_
    refine g_aload_n dX11_fed_0 rfl ?_
    refine g_iload_n dX11_fed_1 rfl ?_
    refine p_callV (hs) okX11_hasState lkX11_189 rfl (by first | rfl | exact pv_shx) rfl (by omega) (by omega) dX11_fed_2 rfl (Nat.le_of_ble_eq_true rfl) (⟨by decide, by decide, by decide, by decide⟩) ?_
    refine n_if_eq 29 dX11_fed_5 (by decide) (by first | (with_reducible exact cB _) | ((with_reducible apply cN_eq0) <;> omega) | exact Iff.rfl) (fun c5 => ?_) (fun c5 => by exfalso; first | omega | exact absurd trivial c5 | exact c5 | (simp at c5))
    refine g_sipush (v := (-1000)) dX11_fed_29 (by decide) ?_
    exact g_iret dX11_fed_32 rfl (⟨rfl, rfl, by rw [sp_fed, if_neg (fun z => c1 z.1)], hb, qF.rf⟩)
end FED
