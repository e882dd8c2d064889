/-! class: hole, plug -/
section HOLE
variable {w h : Nat} {a a' : Nat → Int32} {I I' : pvI} {J J' : pvJ} {P : pvP}
def nhQ (a : Nat → Int32) (k : Nat) (I : pvI) (J : pvJ) (P : pvP) : pvQT := pvq P (fun v I' J' => v = none ∧ I' = I ∧ (∀ m, k ≤ m → m < 100 → J' 13 m = mk (hoB a m none)) ∧ (∀ m, m < k → J' 13 m = J 13 m) ∧ ∀ z, z ≠ 13 → J' z = J z)
theorem c_noteHoles {k : Nat} (hP : pvOkP P) (hg : mG a) (hho : mHoles (w * h) a) (hwh : w * h ≤ 64) (hk : k ≤ 100) (h9 : I 9 0 = nI (cnt a 1)) (hr : ∀ k, k < cnt a 1 → I 10 k = a (150 + 3 * k) ∧ I 11 k = a (150 + 3 * k + 1) ∧ I 12 k = a (150 + 3 * k + 2)) : pvMet mX9_noteHoles 2 0 0 [.ref 9, .int (nI k)] 224 I J P (nhQ a k I J P) := by
  have lp : ∀ q m J1, m + q = 100 → k ≤ m → (∀ j, k ≤ j → j < m → J1 13 j = mk (hoB a j none)) → (∀ j, j < k → J1 13 j = J 13 j) → (∀ z, z ≠ 13 → J1 z = J z) → pvG mX9_noteHoles (pvR 2 0 0) (pvZ (nhQ a k I J P) 0 0) 2 [.ref 9, .int (nI k), .int (nI m)] [] 0 0 224 I J1 P := by
    intro q
    induction q with
    | zero =>
      intro m J1 hm h1 h2 h3 h4
      obtain rfl : m = 100 := by omega
      refine g_iload_n dX9_noteHoles_2 rfl ?_
      refine g_bipush (v := nI 100) dX9_noteHoles_3 (by decide) ?_
      refine n_icmp_ge 26 dX9_noteHoles_5 (by decide) (by first | ((with_reducible apply cN_le) <;> omega) | ((with_reducible apply cI_len) <;> omega) | ((with_reducible apply cI_nle) <;> omega) | (with_reducible exact cI_le)) (fun c5 => ?_) (fun c5 => by exfalso; first | omega | exact absurd trivial c5 | exact c5 | (simp at c5))
      exact g_vret dX9_noteHoles_26 rfl (⟨rfl, rfl, rfl, rfl, h2, h3, h4⟩)
    | succ q ih =>
      intro m J1 hm h1 h2 h3 h4
      have oh := c_openHoles (w := w) (h := h) (a := a) (m := m) (wo := none) (u2 := -1) (J := J1) hP hg hho hwh (by omega) wo_none h9 hr
      refine g_iload_n dX9_noteHoles_2 rfl ?_
      refine g_bipush (v := nI 100) dX9_noteHoles_3 (by decide) ?_
      refine n_icmp_ge 26 dX9_noteHoles_5 (by decide) (by first | ((with_reducible apply cN_le) <;> omega) | ((with_reducible apply cI_len) <;> omega) | ((with_reducible apply cI_nle) <;> omega) | (with_reducible exact cI_le)) (fun c5 => by exfalso; first | omega | exact absurd trivial c5 | exact c5 | (simp at c5)) (fun c5 => ?_)
      refine g_aload_n dX9_noteHoles_8 rfl ?_
      refine g_getP dX9_noteHoles_9 fdX9_21 rfl (by first | rfl | exact pv_shx) (by omega) (by omega) (by decide) rfl (hP _ _ _ rfl) ?_
      refine g_iload_n dX9_noteHoles_12 rfl ?_
      refine g_aload_n dX9_noteHoles_13 rfl ?_
      refine g_iload_n dX9_noteHoles_14 rfl ?_
      refine g_iconst (v := (-1)) dX9_noteHoles_15 (by decide) ?_
      refine p_callV (oh) okX9_openHoles lkX9_60 rfl (by first | rfl | exact pv_shx) rfl (by omega) (by omega) dX9_noteHoles_16 rfl (Nat.le_of_ble_eq_true rfl) (⟨by decide, by decide, by decide, by decide⟩) ?_
      refine n_last dX9_noteHoles_19 (by first | rfl | exact pv_shx) (by omega) (by omega) (by omega) (by decide) (rfl) (by omega) (by repeat (first | exact pvu_s | exact pvuJ_s | apply pvu_in (by omega) | apply pvuJ_in (by omega) | exact pvu_pvs | exact pvuJ_pvs)) ?_
      refine g_iinc dX9_noteHoles_20 rfl (by first | (with_reducible exact nI_1 _) | exact nI_1 _ | exact pk_m1 _ | rfl) (by decide) rfl ?_
      refine g_goto 2 dX9_noteHoles_23 (by decide) ?_
      refine ih (m + 1) _ (by omega) (by omega) (fun j z1 z2 => ?_) (fun j z1 => ?_) (fun z hz => ?_)
      · by_cases e : j = m
        · subst e; simp [pvsJ, vp_updL]
        · simp [pvsJ, vp_updL, e]; exact h2 j z1 (by omega)
      · have e : j ≠ m := by omega
        simp [pvsJ, vp_updL, e]; exact h3 j z1
      · simp [pvsJ, hz]; exact h4 z hz
  refine pvMet.of _ (by decide) rfl (Nat.le_of_ble_eq_true rfl) ?_
  refine g_iload_n dX9_noteHoles_0 rfl ?_
  refine g_istore_n dX9_noteHoles_1 (by decide) rfl ?_
  exact lp (100 - k) k J (by omega) (Nat.le_refl _) (fun j z1 z2 => absurd z1 (by omega)) (fun _ _ => rfl) (fun _ _ => rfl)
/-- fires up to a week do not see holes of that week and later -/
theorem fwk.ho {s j k : Nat} (hw : 0 < w) (hwh : w * h ≤ 64) (hg : mG a) (hs : s < 8) (hj : j ≤ k) (hj2 : j ≤ 99) (hho : ∀ i, i < k → hoB a' i none = hoB a i none) (h2 : ag 2 3 a a') (h11 : ag 11 14 a a') (h20 : ag 20 150 a a') (h210 : ag 210 276 a a') (h3 : ag 1620 8020 a a') : fwk w h a' 0 none s j = fwk w h a 0 none s j ∧ metB w h a' 0 none s j = metB w h a 0 none s j :=
  fwk_cong hw hwh ⟨fun c hc => h20.c (by omega) (by omega), fun c hc => h20.c (by omega) (by omega), h11.c (by omega) (by omega), h11.c (by omega) (by omega), h11.c (by omega) (by omega)⟩ ⟨h210.c (by omega) (by omega), h210.c (by omega) (by omega)⟩ (fun i _ => cutw.fr hg h2 (h210.sub (by omega) (by omega)) i) (fun i hi c hc => flw.fr (Or.inl rfl) h3 (i + 1) (by omega) c hc) (fun i hi => hho i (by omega))
def borQ (n : Nat) (c m : Int32) (A : Nat → Int32) (k : Nat) (I : pvI) (J : pvJ) (P : pvP) : pvQT := pvq P (fun v I' J' => v = some (.int (nI n)) ∧ I' 10 = upd (I 10) n c ∧ I' 11 = upd (I 11) n m ∧ I' 12 = upd (I 12) n (-1) ∧ I' 9 = upd (I 9) 0 (nI (n + 1)) ∧ (∀ z, z < 9 ∨ 12 < z → I' z = I z) ∧ (∀ m, k ≤ m → m < 100 → J' 13 m = mk (hoB A m none)) ∧ (∀ m, m < k → J' 13 m = J 13 m) ∧ ∀ z, z ≠ 13 → J' z = J z)
theorem c_bore {n k : Nat} {c : Int32} {A : Nat → Int32} (hP : pvOkP P) (hn : I 9 0 = nI n) (hn2 : n < 20) (hk : k ≤ 100) (hg : mG A) (hho : mHoles (w * h) A) (hwh : w * h ≤ 64) (h1 : cnt A 1 = n + 1) (w0 : A (150 + 3 * n) = c) (w1 : A (150 + 3 * n + 1) = nI k) (w2 : A (150 + 3 * n + 2) = -1) (hr : ∀ q, q < n → I 10 q = A (150 + 3 * q) ∧ I 11 q = A (150 + 3 * q + 1) ∧ I 12 q = A (150 + 3 * q + 2)) : pvMet mX9_bore 3 0 0 [.ref 9, .int c, .int (nI k)] 224 I J P (borQ n c (nI k) A k I J P) := by
  have key : ∀ I1, I1 10 = upd (I 10) n c → I1 11 = upd (I 11) n (nI k) → I1 12 = upd (I 12) n (-1) → I1 9 = upd (I 9) 0 (nI (n + 1)) → pvMet mX9_noteHoles 2 0 0 [.ref 9, .int (nI k)] 224 I1 J P (nhQ A k I1 J P) := by
    intro I1 e10 e11 e12 e9
    refine c_noteHoles hP hg hho hwh hk (by rw [e9, updS, h1]) (fun q hq => ?_)
    rw [h1] at hq
    rw [e10, e11, e12]
    by_cases e : q = n
    · subst e; rw [updS, updS, updS, w0, w1, w2]; exact ⟨rfl, rfl, rfl⟩
    · rw [updI e, updI e, updI e]; exact hr q (by omega)
  refine pvMet.of _ (by decide) rfl (Nat.le_of_ble_eq_true rfl) ?_
  refine g_aload_n dX9_bore_0 rfl ?_
  refine n_getI dX9_bore_1 fdX9_43 rfl (by first | rfl | exact pv_shx) (by omega) (by omega) (by decide) rfl (by repeat (first | exact hn | (apply rd_s; done) | apply rd_n (by omega) | apply rp_s | apply rp_n (by omega) | (apply rdL_s; done) | apply rdL_n (by omega) | apply rpJ_s | apply rpJ_n (by omega) | rfl)) ?_
  refine g_istore_n dX9_bore_4 (by decide) rfl ?_
  refine g_aload_n dX9_bore_5 rfl ?_
  refine g_getP dX9_bore_6 fdX9_11 rfl (by first | rfl | exact pv_shx) (by omega) (by omega) (by decide) rfl (hP _ _ _ rfl) ?_
  refine g_iload_n dX9_bore_9 rfl ?_
  refine g_iload_n dX9_bore_10 rfl ?_
  refine n_iast dX9_bore_11 (by first | rfl | exact pv_shx) (by omega) (by omega) (by omega) (by decide) (rfl) (by omega) (by repeat (first | exact pvu_s | exact pvuJ_s | apply pvu_in (by omega) | apply pvuJ_in (by omega) | exact pvu_pvs | exact pvuJ_pvs)) ?_
  refine g_aload_n dX9_bore_12 rfl ?_
  refine g_getP dX9_bore_13 fdX9_15 rfl (by first | rfl | exact pv_shx) (by omega) (by omega) (by decide) rfl (hP _ _ _ rfl) ?_
  refine g_iload_n dX9_bore_16 rfl ?_
  refine g_iload_n dX9_bore_17 rfl ?_
  refine n_iast dX9_bore_18 (by first | rfl | exact pv_shx) (by omega) (by omega) (by omega) (by decide) (rfl) (by omega) (by repeat (first | exact pvu_s | exact pvuJ_s | apply pvu_in (by omega) | apply pvuJ_in (by omega) | exact pvu_pvs | exact pvuJ_pvs)) ?_
  refine g_aload_n dX9_bore_19 rfl ?_
  refine g_getP dX9_bore_20 fdX9_18 rfl (by first | rfl | exact pv_shx) (by omega) (by omega) (by decide) rfl (hP _ _ _ rfl) ?_
  refine g_iload_n dX9_bore_23 rfl ?_
  refine g_iconst (v := (-1)) dX9_bore_24 (by decide) ?_
  refine n_iast dX9_bore_25 (by first | rfl | exact pv_shx) (by omega) (by omega) (by omega) (by decide) (rfl) (by omega) (by repeat (first | exact pvu_s | exact pvuJ_s | apply pvu_in (by omega) | apply pvuJ_in (by omega) | exact pvu_pvs | exact pvuJ_pvs)) ?_
  refine g_aload_n dX9_bore_26 rfl ?_
  refine g_dup dX9_bore_27 rfl ?_
  refine n_getI dX9_bore_28 fdX9_43 rfl (by first | rfl | exact pv_shx) (by omega) (by omega) (by decide) rfl (by repeat (first | exact hn | (apply rd_s; done) | apply rd_n (by omega) | apply rp_s | apply rp_n (by omega) | (apply rdL_s; done) | apply rdL_n (by omega) | apply rpJ_s | apply rpJ_n (by omega) | rfl)) ?_
  refine g_iconst (v := nI 1) dX9_bore_31 (by decide) ?_
  refine n_iadd dX9_bore_32 (by first | (with_reducible exact nI_add _ _) | rfl) ?_
  refine n_putI dX9_bore_33 fdX9_43 rfl (fun h => absurd h (by decide)) (by first | rfl | exact pv_shx) (by omega) (by omega) (by decide) rfl (by repeat (first | exact pvu_s | exact pvuJ_s | apply pvu_in (by omega) | apply pvuJ_in (by omega) | exact pvu_pvs | exact pvuJ_pvs)) ?_
  refine g_aload_n dX9_bore_36 rfl ?_
  refine g_iload_n dX9_bore_37 rfl ?_
  refine g_callV ((key _ (by simp [pvs]) (by simp [pvs]) (by simp [pvs]) (by simp [pvs]))) okX9_noteHoles lkX9_56 rfl (by first | rfl | exact pv_shx) rfl (by omega) (by omega) dX9_bore_38 rfl (Nat.le_of_ble_eq_true rfl) (⟨by decide, by decide, by decide, by decide⟩) ?_
  rintro v nx' I2 J2 P' ⟨rfl, rfl, rfl, rfl, q1, q2, q3⟩
  refine g_iload_n dX9_bore_41 rfl ?_
  exact g_iret dX9_bore_42 rfl (⟨rfl, rfl, rfl, by simp [pvs], by simp [pvs], by simp [pvs], by simp [pvs], fun z hz => by repeat (rw [pvs_ne (by omega)]), q1, q2, q3⟩)
def clsQ (n : Nat) (A : Nat → Int32) (k : Nat) (I : pvI) (J : pvJ) (P : pvP) : pvQT := pvq P (fun v I' J' => v = none ∧ I' = pvs I 12 (upd (I 12) n (nI k)) ∧ (∀ m, k ≤ m → m < 100 → J' 13 m = mk (hoB A m none)) ∧ (∀ m, m < k → J' 13 m = J 13 m) ∧ ∀ z, z ≠ 13 → J' z = J z)
theorem c_close {n k : Nat} {A : Nat → Int32} (hP : pvOkP P) (hn2 : n < 20) (hk : k ≤ 100) (hg : mG A) (hho : mHoles (w * h) A) (hwh : w * h ≤ 64) (h9 : I 9 0 = nI (cnt A 1)) (w2 : A (150 + 3 * n + 2) = nI k) (hr : ∀ q, q < cnt A 1 → I 10 q = A (150 + 3 * q) ∧ I 11 q = A (150 + 3 * q + 1) ∧ (q ≠ n → I 12 q = A (150 + 3 * q + 2))) : pvMet mX9_close 3 0 0 [.ref 9, .int (nI n), .int (nI k)] 224 I J P (clsQ n A k I J P) := by
  have nh := c_noteHoles (I := pvs I 12 (upd (I 12) n (nI k))) (J := J) (a := A) (k := k) hP hg hho hwh hk (by rw [pvs_ne (by decide)]; exact h9) (fun q hq => by
    obtain ⟨y1, y2, y3⟩ := hr q hq
    rw [pvs_ne (by decide), pvs_ne (by decide), pvs_eq]
    refine ⟨y1, y2, ?_⟩
    by_cases e : q = n
    · subst e; rw [updS, w2]
    · rw [updI e]; exact y3 e)
  refine pvMet.of _ (by decide) rfl (Nat.le_of_ble_eq_true rfl) ?_
  refine g_aload_n dX9_close_0 rfl ?_
  refine g_getP dX9_close_1 fdX9_18 rfl (by first | rfl | exact pv_shx) (by omega) (by omega) (by decide) rfl (hP _ _ _ rfl) ?_
  refine g_iload_n dX9_close_4 rfl ?_
  refine g_iload_n dX9_close_5 rfl ?_
  refine n_iast dX9_close_6 (by first | rfl | exact pv_shx) (by omega) (by omega) (by omega) (by decide) (rfl) (by omega) (by repeat (first | exact pvu_s | exact pvuJ_s | apply pvu_in (by omega) | apply pvuJ_in (by omega) | exact pvu_pvs | exact pvuJ_pvs)) ?_
  refine g_aload_n dX9_close_7 rfl ?_
  refine g_iload_n dX9_close_8 rfl ?_
  refine g_callV (nh) okX9_noteHoles lkX9_56 rfl (by first | rfl | exact pv_shx) rfl (by omega) (by omega) dX9_close_9 rfl (Nat.le_of_ble_eq_true rfl) (⟨by decide, by decide, by decide, by decide⟩) ?_
  rintro v nx' I2 J2 P' ⟨rfl, rfl, rfl, rfl, q1, q2, q3⟩
  exact g_vret dX9_close_12 rfl (⟨rfl, rfl, rfl, rfl, q1, q2, q3⟩)
end HOLE
