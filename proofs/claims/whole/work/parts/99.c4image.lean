/-! class: image, back -/
section IMG
variable {w h : Nat} {a im : Nat → Int32} {I I' : pvI} {J J' : pvJ} {P : pvP}
theorem kB.mv (hb : kB w h a I J) (hp : tkO 46 88 I J I' J') : kB w h a I' J' := by
  obtain ⟨hg, hr, hf, htr, hi⟩ := hb
  exact ⟨hg.mv (hp 2 (by omega)).1 (hp 2 (by omega)).2, hr.mv (fun x z1 z2 => (hp x (by omega)).1) (fun x z1 z2 => (hp x (by omega)).2), hf.mv (fun x z1 z2 => (hp x (by omega)).1) (fun x z1 z2 => (hp x (by omega)).2), htr.mv (hp 138 (by omega)).1 (hp 138 (by omega)).2, hi⟩
theorem c_image (hP : pvOkP P) (hb : kB w h a I J) : pvMet mX11_image 3 0 0 [.ref 1] 224 I J P (pvq P (fun v I' J' => v = some (.int (a 0)) ∧ kB w h a I' J' ∧ rW w h 46 a I' J' ∧ tkO 46 88 I J I' J')) := by
  have tk := c_takeA46 hP hb.2.2.2.2.1.1 hb.2.1
  refine pvMet.of _ (by decide) rfl (Nat.le_of_ble_eq_true rfl) ?_
  refine g_aload_n dX11_image_0 rfl ?_
  refine g_getP dX11_image_1 fdX11_36 rfl (by first | rfl | exact pv_shx) (by omega) (by omega) (by decide) rfl (hP _ _ _ rfl) ?_
  refine g_aload_n dX11_image_4 rfl ?_
  refine g_getP dX11_image_5 fdX11_32 rfl (by first | rfl | exact pv_shx) (by omega) (by omega) (by decide) rfl (hP _ _ _ rfl) ?_
  refine g_callV (tk) okX10_take lkX11_416 rfl (by first | rfl | exact pv_shx) rfl (by omega) (by omega) dX11_image_8 rfl (Nat.le_of_ble_eq_true rfl) (⟨by decide, by decide, by decide, by decide⟩) ?_
  rintro v nx' I1 J1 P' ⟨rfl, rfl, rfl, q1, q2, q3⟩
  have k1 := hb.mv q3
  have f3 : I1 3 0 = a 0 := k1.2.1.1
  refine g_aload_n dX11_image_11 rfl ?_
  refine g_getP dX11_image_12 fdX11_32 rfl (by first | rfl | exact pv_shx) (by omega) (by omega) (by decide) rfl (hP _ _ _ rfl) ?_
  refine n_getI dX11_image_15 fdX11_77 rfl (by first | rfl | exact pv_shx) (by omega) (by omega) (by decide) rfl (by repeat (first | exact f3 | (apply rd_s; done) | apply rd_n (by omega) | apply rp_s | apply rp_n (by omega) | (apply rdL_s; done) | apply rdL_n (by omega) | apply rpJ_s | apply rpJ_n (by omega) | rfl)) ?_
  exact g_iret dX11_image_18 rfl (⟨rfl, rfl, rfl, k1, q1, q3⟩)
/-- what holds of all fires, told or not -/
def rFw (I : pvI) (J : pvJ) : Prop := ∀ s, s < 8 → (I (fad s) 2 = -1 ∧ J (fad s) 3 = 0) ∧ ∃ sn, sn ≤ 100 ∧ I (fad s) 5 = nI sn ∧ (I (fad s) 4 = -1 ∨ ∃ k, k ≤ 99 ∧ I (fad s) 4 = nI k)
def bacQ (w h : Nat) (im : Nat → Int32) (I : pvI) (J : pvJ) (P : pvP) : pvQT := pvq P (fun v I' J' => v = some (.int (im 0)) ∧ kB w h im I' J' ∧ mF2 I J I' J' ∧ I' 43 3 = -1)
theorem c_back (hP : pvOkP P) (hb : kB w h a I J) (hr : rW w h 46 im I J) (hi : mInv w h im) : pvMet mX11_back 4 0 0 [.ref 1] 224 I J P (bacQ w h im I J P) := by
  have tk := c_takeA3 hP hi.1.1 hr
  refine pvMet.of _ (by decide) rfl (Nat.le_of_ble_eq_true rfl) ?_
  refine g_aload_n dX11_back_0 rfl ?_
  refine g_getP dX11_back_1 fdX11_32 rfl (by first | rfl | exact pv_shx) (by omega) (by omega) (by decide) rfl (hP _ _ _ rfl) ?_
  refine g_aload_n dX11_back_4 rfl ?_
  refine g_getP dX11_back_5 fdX11_36 rfl (by first | rfl | exact pv_shx) (by omega) (by omega) (by decide) rfl (hP _ _ _ rfl) ?_
  refine g_callV (tk) okX10_take lkX11_416 rfl (by first | rfl | exact pv_shx) rfl (by omega) (by omega) dX11_back_8 rfl (Nat.le_of_ble_eq_true rfl) (⟨by decide, by decide, by decide, by decide⟩) ?_
  rintro v nx' I1 J1 P' ⟨rfl, rfl, rfl, q1, q2, q3⟩
  have k0 := mG_eq hi.1.1 (i := 3) (by decide)
  have l3 : sp_lim 3 = 8 := rfl
  have g1 : gridOk w h I1 J1 := hb.1.mv (q3 2 (by omega)).1 (q3 2 (by omega)).2
  have w1 : rFw I1 J1 := fun s hs => by
    have bs := fad_lt hs
    obtain ⟨y1, y2, -⟩ := hb.2.2.1 s hs
    rw [(q3 (fad s) (by omega)).1, (q3 (fad s) (by omega)).2]
    exact ⟨y1, y2⟩
  have lp : ∀ q s I2, s + q = cnt im 3 → rFw I2 J1 → (∀ t, t < s → I2 (fad t) 0 = im (260 + 2 * t) ∧ I2 (fad t) 1 = im (260 + 2 * t + 1) ∧ I2 (fad t) 4 = -1 ∧ I2 (fad t) 5 = nI 0) → (∀ x, (x < 90 ∨ 138 ≤ x) → I2 x = I1 x) → pvG mX11_back (pvR 4 0 0) (pvZ (bacQ w h im I J P') 0 0) 13 [.ref 1, .int (nI s)] [] 0 0 224 I2 J1 P' := by
    intro q
    induction q with
    | zero =>
      intro s I2 hs h1 h2 h3
      obtain rfl : s = cnt im 3 := by omega
      have r2 : rW w h 3 im I2 J1 := q1.mv (fun x z1 z2 => h3 x (by omega)) (fun _ _ _ => rfl)
      have n3 : I2 20 0 = nI (cnt im 3) := by rw [r2.2.2.2.1.1]; exact k0.1
      have f3 : I2 3 0 = im 0 := r2.1
      have fin : kB w h im I2 J1 := ⟨g1.mv (h3 2 (by omega)) rfl, r2, fun s hs => by
        obtain ⟨y1, y2⟩ := h1 s hs
        refine ⟨y1, y2, fun z => ?_⟩
        obtain ⟨z1, z2, z3, z4⟩ := h2 s z
        exact ⟨z1, z2, 0, by omega, z4, fun j hj => absurd hj (Nat.not_lt_zero j), Or.inl z3⟩, hb.2.2.2.1.mv (by rw [h3 138 (by omega)]; exact (q3 138 (by omega)).1) (q3 138 (by omega)).2, hi⟩
      refine g_iload_n dX11_back_13 rfl ?_
      refine g_aload_n dX11_back_14 rfl ?_
      refine g_getP dX11_back_15 fdX11_32 rfl (by first | rfl | exact pv_shx) (by omega) (by omega) (by decide) rfl (hP _ _ _ rfl) ?_
      refine g_getP dX11_back_18 fdX11_163 rfl (by first | rfl | exact pv_shx) (by omega) (by omega) (by decide) rfl (hP _ _ _ rfl) ?_
      refine n_getI dX11_back_21 fdX11_167 rfl (by first | rfl | exact pv_shx) (by omega) (by omega) (by decide) rfl (by repeat (first | exact n3 | exact f3 | (apply rd_s; done) | apply rd_n (by omega) | apply rp_s | apply rp_n (by omega) | (apply rdL_s; done) | apply rdL_n (by omega) | apply rpJ_s | apply rpJ_n (by omega) | rfl)) ?_
      refine n_icmp_ge 66 dX11_back_24 (by decide) (by first | ((with_reducible apply cN_le) <;> omega) | ((with_reducible apply cI_len) <;> omega) | ((with_reducible apply cI_nle) <;> omega) | (with_reducible exact cI_le)) (fun c24 => ?_) (fun c24 => by exfalso; first | omega | exact absurd trivial c24 | exact c24 | (simp at c24))
      refine g_aload_n dX11_back_66 rfl ?_
      refine g_getP dX11_back_67 fdX11_32 rfl (by first | rfl | exact pv_shx) (by omega) (by omega) (by decide) rfl (hP _ _ _ rfl) ?_
      refine n_getI dX11_back_70 fdX11_77 rfl (by first | rfl | exact pv_shx) (by omega) (by omega) (by decide) rfl (by repeat (first | exact n3 | exact f3 | (apply rd_s; done) | apply rd_n (by omega) | apply rp_s | apply rp_n (by omega) | (apply rdL_s; done) | apply rdL_n (by omega) | apply rpJ_s | apply rpJ_n (by omega) | rfl)) ?_
      exact g_iret dX11_back_73 rfl (⟨rfl, rfl, rfl, fin, fun x hx => ⟨by rw [h3 x (by omega)]; exact (q3 x (by omega)).1, (q3 x (by omega)).2⟩, by rw [h3 43 (by omega)]; exact q2⟩)
    | succ q ih =>
      intro s I2 hs h1 h2 h3
      have r2 : rW w h 3 im I2 J1 := q1.mv (fun x z1 z2 => h3 x (by omega)) (fun _ _ _ => rfl)
      have n3 : I2 20 0 = nI (cnt im 3) := by rw [r2.2.2.2.1.1]; exact k0.1
      obtain ⟨c1, c2⟩ := r2.2.2.2.1.2.1 s (by omega)
      have c1 : I2 21 s = im (260 + 2 * s) := c1
      have c2 : I2 22 s = im (260 + 2 * s + 1) := c2
      have bs := fad_lt (show s < 8 by omega)
      have s0 := (fad_ok (show s < 9 by omega)).sh.1.1
      obtain ⟨y1, sn, y2, y3, y4⟩ := h1 s (by omega)
      have te := f_tell (F := fad s) (I := I2) (J := J1) (P := P') (c := im (260 + 2 * s)) (m := im (260 + 2 * s + 1)) (fad_ok (by omega)) y2 y3 y4
      refine g_iload_n dX11_back_13 rfl ?_
      refine g_aload_n dX11_back_14 rfl ?_
      refine g_getP dX11_back_15 fdX11_32 rfl (by first | rfl | exact pv_shx) (by omega) (by omega) (by decide) rfl (hP _ _ _ rfl) ?_
      refine g_getP dX11_back_18 fdX11_163 rfl (by first | rfl | exact pv_shx) (by omega) (by omega) (by decide) rfl (hP _ _ _ rfl) ?_
      refine n_getI dX11_back_21 fdX11_167 rfl (by first | rfl | exact pv_shx) (by omega) (by omega) (by decide) rfl (by repeat (first | exact n3 | exact c1 | exact c2 | (apply rd_s; done) | apply rd_n (by omega) | apply rp_s | apply rp_n (by omega) | (apply rdL_s; done) | apply rdL_n (by omega) | apply rpJ_s | apply rpJ_n (by omega) | rfl)) ?_
      refine n_icmp_ge 66 dX11_back_24 (by decide) (by first | ((with_reducible apply cN_le) <;> omega) | ((with_reducible apply cI_len) <;> omega) | ((with_reducible apply cI_nle) <;> omega) | (with_reducible exact cI_le)) (fun c24 => by exfalso; first | omega | exact absurd trivial c24 | exact c24 | (simp at c24)) (fun c24 => ?_)
      refine g_aload_n dX11_back_27 rfl ?_
      refine g_getP dX11_back_28 fdX11_41 rfl (by first | rfl | exact pv_shx) (by omega) (by omega) (by decide) rfl (hP _ _ _ rfl) ?_
      refine g_iload_n dX11_back_31 rfl ?_
      refine g_aald _ dX11_back_32 (by first | exact Or.inl rfl | exact Or.inr rfl) (by omega) (by omega) (by decide) (rfl) (by omega) (fires_P hP (by omega)) ?_
      refine g_aload_n dX11_back_33 rfl ?_
      refine g_getP dX11_back_34 fdX11_32 rfl (by first | rfl | exact pv_shx) (by omega) (by omega) (by decide) rfl (hP _ _ _ rfl) ?_
      refine g_getP dX11_back_37 fdX11_163 rfl (by first | rfl | exact pv_shx) (by omega) (by omega) (by decide) rfl (hP _ _ _ rfl) ?_
      refine g_getP dX11_back_40 fdX11_223 rfl (by first | rfl | exact pv_shx) (by omega) (by omega) (by decide) rfl (hP _ _ _ rfl) ?_
      refine g_iload_n dX11_back_43 rfl ?_
      refine n_iald dX11_back_44 (by first | rfl | exact pv_shx) (by omega) (by omega) (by decide) (rfl) (by omega) (by repeat (first | exact n3 | exact c1 | exact c2 | (apply rd_s; done) | apply rd_n (by omega) | apply rp_s | apply rp_n (by omega) | (apply rdL_s; done) | apply rdL_n (by omega) | apply rpJ_s | apply rpJ_n (by omega) | rfl)) ?_
      refine g_aload_n dX11_back_45 rfl ?_
      refine g_getP dX11_back_46 fdX11_32 rfl (by first | rfl | exact pv_shx) (by omega) (by omega) (by decide) rfl (hP _ _ _ rfl) ?_
      refine g_getP dX11_back_49 fdX11_163 rfl (by first | rfl | exact pv_shx) (by omega) (by omega) (by decide) rfl (hP _ _ _ rfl) ?_
      refine g_getP dX11_back_52 fdX11_226 rfl (by first | rfl | exact pv_shx) (by omega) (by omega) (by decide) rfl (hP _ _ _ rfl) ?_
      refine g_iload_n dX11_back_55 rfl ?_
      refine n_iald dX11_back_56 (by first | rfl | exact pv_shx) (by omega) (by omega) (by decide) (rfl) (by omega) (by repeat (first | exact n3 | exact c1 | exact c2 | (apply rd_s; done) | apply rd_n (by omega) | apply rp_s | apply rp_n (by omega) | (apply rdL_s; done) | apply rdL_n (by omega) | apply rpJ_s | apply rpJ_n (by omega) | rfl)) ?_
      refine g_callV (te) okX1_tell lkX11_178 rfl (s0) rfl (by omega) (by omega) dX11_back_57 rfl (Nat.le_of_ble_eq_true rfl) (⟨by decide, by decide, by decide, by decide⟩) ?_
      rintro v nx' I3 J3 P'' ⟨rfl, rfl, rfl, rfl, t1, t2, t3, t4, t5, t6⟩
      have far : ∀ t, t < 8 → t ≠ s → I3 (fad t) = I2 (fad t) := fun t ht hne => t1 _ (by simp; unfold fad; omega)
      have h1' : rFw I3 J3 := fun t ht => by
        by_cases e : t = s
        · subst e
          exact ⟨⟨by rw [t4]; exact y1.1, y1.2⟩, 0, by omega, t6, Or.inl t5⟩
        · rw [far t ht e]; exact h1 t ht
      have h2' : ∀ t, t < s + 1 → I3 (fad t) 0 = im (260 + 2 * t) ∧ I3 (fad t) 1 = im (260 + 2 * t + 1) ∧ I3 (fad t) 4 = -1 ∧ I3 (fad t) 5 = nI 0 := fun t ht => by
        by_cases e : t = s
        · subst e; exact ⟨t2, t3, t5, t6⟩
        · rw [far t (by omega) e]; exact h2 t (by omega)
      have h3' : ∀ x, (x < 90 ∨ 138 ≤ x) → I3 x = I1 x := fun x hx => (t1 x (by simp; omega)).trans (h3 x hx)
      refine g_iinc dX11_back_60 rfl (by first | (with_reducible exact nI_1 _) | exact nI_1 _ | exact pk_m1 _ | rfl) (by decide) rfl ?_
      refine g_goto 13 dX11_back_63 (by decide) ?_
      exact ih (s + 1) I3 (by omega) h1' h2' h3'
  have go := lp (cnt im 3) 0 I1 (by omega) w1 (fun t ht => absurd ht (Nat.not_lt_zero t)) (fun _ _ => rfl)
  refine g_iconst (v := nI 0) dX11_back_11 (by decide) ?_
  refine g_istore_n dX11_back_12 (by decide) rfl ?_
  exact go
end IMG
