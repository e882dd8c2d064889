/-! class: looking at all states; which are let -/
theorem rW.mv {w h b : Nat} {a : Nat → Int32} {I I' : pvI} {J J' : pvJ} (hr : rW w h b a I J) (hI : ∀ x, b ≤ x → x ≤ b + 42 → I' x = I x) (hJ : ∀ x, b ≤ x → x ≤ b + 42 → J' x = J x) : rW w h b a I' J' := by
  unfold rW rGro rWrk rKno rTwn rLaw rWal at hr ⊢
  rw [hI b (by omega) (by omega), hI (b + 1) (by omega) (by omega), hI (b + 2) (by omega) (by omega), hI (b + 3) (by omega) (by omega), hI (b + 4) (by omega) (by omega), hI (b + 6) (by omega) (by omega), hI (b + 7) (by omega) (by omega), hI (b + 8) (by omega) (by omega), hI (b + 9) (by omega) (by omega), hI (b + 11) (by omega) (by omega), hI (b + 12) (by omega) (by omega), hI (b + 13) (by omega) (by omega), hI (b + 14) (by omega) (by omega), hI (b + 15) (by omega) (by omega), hI (b + 17) (by omega) (by omega), hI (b + 18) (by omega) (by omega), hI (b + 19) (by omega) (by omega), hI (b + 20) (by omega) (by omega), hI (b + 21) (by omega) (by omega), hI (b + 22) (by omega) (by omega), hI (b + 23) (by omega) (by omega), hI (b + 24) (by omega) (by omega), hI (b + 25) (by omega) (by omega), hI (b + 26) (by omega) (by omega), hI (b + 27) (by omega) (by omega), hI (b + 28) (by omega) (by omega), hI (b + 29) (by omega) (by omega), hI (b + 30) (by omega) (by omega), hI (b + 31) (by omega) (by omega), hI (b + 32) (by omega) (by omega), hI (b + 33) (by omega) (by omega), hI (b + 34) (by omega) (by omega), hI (b + 35) (by omega) (by omega), hI (b + 36) (by omega) (by omega), hI (b + 37) (by omega) (by omega), hI (b + 38) (by omega) (by omega), hI (b + 39) (by omega) (by omega), hI (b + 40) (by omega) (by omega), hI (b + 41) (by omega) (by omega), hI (b + 42) (by omega) (by omega), hJ (b + 1) (by omega) (by omega), hJ (b + 5) (by omega) (by omega), hJ (b + 10) (by omega) (by omega), hJ (b + 16) (by omega) (by omega)]
  exact hr
theorem gridOk.mv {w h : Nat} {I I' : pvI} {J J' : pvJ} (hg : gridOk w h I J) (hI : I' 2 = I 2) (hJ : J' 2 = J 2) : gridOk w h I' J' := by
  unfold gridOk at hg ⊢
  rw [hI, hJ]; exact hg
/-- only fires and the trial are changed -/
def qF (I : pvI) (J : pvJ) (I' : pvI) (J' : pvJ) : Prop := ∀ x, x < 90 ∨ 144 ≤ x → I' x = I x ∧ J' x = J x
theorem qF.rf {I : pvI} {J : pvJ} : qF I J I J := fun _ _ => ⟨rfl, rfl⟩
theorem qF.tr {I I' I'' : pvI} {J J' J'' : pvJ} (h : qF I J I' J') (h2 : qF I' J' I'' J'') : qF I J I'' J'' := fun x hx => ⟨(h2 x hx).1.trans (h x hx).1, (h2 x hx).2.trans (h x hx).2⟩
theorem fFr.q {F : Nat} {I I' : pvI} {J J' : pvJ} (hA : fAd F) (h : fFr F I J I' J') : qF I J I' J' := fun x hx => by
  have h90 := hA.sh.2
  exact ⟨h.1 x (by simp; omega), h.2.1 x (by simp; omega)⟩
/-- what queries need -/
def kB (w h : Nat) (a : Nat → Int32) (I : pvI) (J : pvJ) : Prop := gridOk w h I J ∧ rW w h 3 a I J ∧ rFir w h a I J ∧ rTri I J ∧ mInv w h a
theorem kB.q {w h : Nat} {a : Nat → Int32} {I I' : pvI} {J J' : pvJ} (hb : kB w h a I J) (hq : qF I J I' J') (hf : rFir w h a I' J') (ht : rTri I' J') : kB w h a I' J' := ⟨hb.1.mv (hq 2 (by decide)).1 (hq 2 (by decide)).2, hb.2.1.mv (fun x _ h2 => (hq x (by omega)).1) (fun x _ h2 => (hq x (by omega)).2), hf, ht, hb.2.2.2.2⟩
theorem rTri.mv {I I' : pvI} {J J' : pvJ} (h : rTri I J) (hI : I' 138 = I 138) (hJ : J' 138 = J 138) : rTri I' J' := by
  unfold rTri at h ⊢
  rw [hI, hJ]; exact h
theorem rFir.look {w h s sn : Nat} {a : Nat → Int32} {I I' : pvI} {J J' : pvJ} (hf : rFir w h a I J) (hs : s < 8) (hs3 : s < cnt a 3) (hr : fFr (fad s) I J I' J') (hv : fVn w h a 0 none s (fad s) 0 sn I' J') : rFir w h a I' J' := by
  intro t ht
  have bt := fad_lt ht
  have bs := fad_lt hs
  obtain ⟨⟨h1, h2⟩, h3, h4⟩ := hf t ht
  by_cases e : t = s
  · subst e
    refine ⟨⟨by rw [hr.2.2.1 2 (by decide) (by decide)]; exact h1, by rw [hr.2.2.2]; exact h2⟩, ⟨sn, hv.1, hv.2.1, ?_⟩, fun _ => ?_⟩
    · rcases hv.2.2.2 with z | ⟨k, k1, k2, -⟩
      · exact Or.inl z
      · exact Or.inr ⟨k, by have := hv.1; omega, k2⟩
    · obtain ⟨y1, y2, -⟩ := h4 hs3
      exact ⟨by rw [hr.2.2.1 0 (by decide) (by decide)]; exact y1, by rw [hr.2.2.1 1 (by decide) (by decide)]; exact y2, sn, hv⟩
  · have far : ∀ x, fad t ≤ x → x ≤ fad t + 5 → I' x = I x ∧ J' x = J x := fun x z1 z2 => by
      unfold fad at *
      exact ⟨hr.1 x (by simp; omega), hr.2.1 x (by simp; omega)⟩
    rw [(far (fad t) (by omega) (by omega)).1, (far (fad t) (by omega) (by omega)).2]
    refine ⟨⟨h1, h2⟩, h3, fun z => ?_⟩
    obtain ⟨y1, y2, sn', y3⟩ := h4 z
    exact ⟨y1, y2, sn', y3.mv (fun x z1 z2 => (far x z1 z2).1) (fun x z1 z2 => (far x z1 z2).2)⟩
theorem fVn.far {w h s t sn : Nat} {a : Nat → Int32} {I I' : pvI} {J J' : pvJ} (hv : fVn w h a 0 none t (fad t) 0 sn I J) (hr : fFr (fad s) I J I' J') (e : t ≠ s) : fVn w h a 0 none t (fad t) 0 sn I' J' := by
  refine hv.mv (fun x z1 z2 => ?_) (fun x z1 z2 => ?_)
  · unfold fad at *; exact hr.1 x (by simp; omega)
  · unfold fad at *; exact hr.2.1 x (by simp; omega)
theorem rTri.fr {s : Nat} {I I' : pvI} {J J' : pvJ} (h : rTri I J) (hs : s < 8) (hr : fFr (fad s) I J I' J') : rTri I' J' := by
  have bs := fad_lt hs
  exact h.mv (hr.1 138 (by simp; omega)) (hr.2.1 138 (by simp; omega))
theorem fires_P {P : pvP} (hP : pvOkP P) {s : Nat} (hs : s < 8) : P 89 s = some (fad s) := by
  have : ∀ s, s < 8 → pvPP 89 s = some (90 + 6 * s) := by decide
  exact hP _ _ _ (this s hs)
section SEE
variable {w h : Nat} {a : Nat → Int32} {I : pvI} {J : pvJ} {P : pvP}
theorem kB.st {s : Nat} (hb : kB w h a I J) (hs : s < cnt a 3) : s < 8 ∧ fEnv w h a s none (cnt a (260 + 2 * s)) (cnt a (260 + 2 * s + 1)) (-1) ∧ fBs (fad s) (cnt a (260 + 2 * s)) (cnt a (260 + 2 * s + 1)) (-1) (fun _ => false) I J ∧ wF w h a I J ∧ ∃ sn, fVn w h a 0 none s (fad s) 0 sn I J := by
  obtain ⟨hg, hr, hf, ht, hi⟩ := hb
  have h8 : s < 8 := by
    have := (mG_eq hi.1.1 (i := 3) (by decide)).2.1
    have : sp_lim 3 = 8 := rfl
    omega
  obtain ⟨⟨x1, x2⟩, -, x3⟩ := hf s h8
  obtain ⟨y1, y2, y3⟩ := x3 hs
  obtain ⟨⟨u, u1, u2⟩, ⟨v, v1, v2⟩⟩ := hi.1.2.2.1 s hs
  have hwh := hg.wh
  refine ⟨h8, fEnv0 hi hwh.2 hs, ⟨by rw [y1, cnt_of u2 (by omega)]; exact u2, by rw [y2, cnt_of v2 (by omega)]; exact v2, x1, by rw [x2]; exact mk_zero.symm⟩, hr.wF hg hi, y3⟩
/-- one state looks -/
theorem c_look {s g : Nat} (hP : pvOkP P) (hb : kB w h a I J) (hs : s < cnt a 3) (hg : g ≤ 99) : pvMet mX1_lookAt 5 0 0 [.ref (fad s), .ref 3, .int (nI g)] 224 I J P (pvq P (fun v I' J' => v = none ∧ kB w h a I' J' ∧ fFr (fad s) I J I' J' ∧ ∃ sn, g + 1 ≤ sn ∧ fVn w h a 0 none s (fad s) 0 sn I' J')) := by
  obtain ⟨h8, hE, hB, hw, sn, hV⟩ := hb.st hs
  refine (f_lookAt (g := g) hP (fad_ok (by omega)) hE hw hB hg (fun k _ => walOk0) hV).weaken ?_
  rintro v nx I' J' P' ⟨rfl, rfl, rfl, q1, q2⟩
  exact ⟨rfl, rfl, rfl, hb.q (q2.q (fad_ok (by omega))) (hb.2.2.1.look h8 hs q2 q1) (hb.2.2.2.1.fr h8 q2), q2, _, by omega, q1⟩
def seeQ (w h : Nat) (a : Nat → Int32) (g : Nat) (I : pvI) (J : pvJ) (P : pvP) : pvQT := pvq P (fun v I' J' => v = none ∧ kB w h a I' J' ∧ qF I J I' J' ∧ seenT w h a g I' J' ∧ J' 138 = J 138)
theorem c_see {m : Nat} (hP : pvOkP P) (hb : kB w h a I J) (hm : m ≤ 100) : pvMet mX11_see 6 0 0 [.ref 1, .int (nI m)] 224 I J P (seeQ w h a (min 99 (max m (cnt a 0))) I J P) := by
  have hi := hb.2.2.2.2
  obtain ⟨k0, k0b, -⟩ := mG_eq hi.1.1 (i := 0) (by decide)
  have k0l : sp_lim 0 = 100 := rfl
  obtain ⟨k3, k3b, -⟩ := mG_eq hi.1.1 (i := 3) (by decide)
  have k3l : sp_lim 3 = 8 := rfl
  have r0 : I 3 0 = nI (cnt a 0) := by rw [hb.2.1.1]; exact k0
  generalize hg : min 99 (max m (cnt a 0)) = g
  have lp : ∀ q s I1 J1, s + q = cnt a 3 → kB w h a I1 J1 → qF I J I1 J1 → (∀ t, t < s → ∃ sn, g + 1 ≤ sn ∧ fVn w h a 0 none t (fad t) 0 sn I1 J1) → J1 138 = J 138 → pvG mX11_see (pvR 6 0 0) (pvZ (seeQ w h a g I J P) 0 0) 19 [.ref 1, .int (nI m), .int (nI g), .int (nI s)] [] 0 0 224 I1 J1 P := by
    intro q
    induction q with
    | zero =>
      intro s I1 J1 hs h1 h2 h3 h4
      obtain rfl : s = cnt a 3 := by omega
      have r3 : I1 20 0 = nI (cnt a 3) := by rw [h1.2.1.2.2.2.1.1]; exact k3
      refine g_iload_n dX11_see_19 rfl ?_
      refine g_aload_n dX11_see_20 rfl ?_
      refine g_getP dX11_see_21 fdX11_32 rfl (by first | rfl | exact pv_shx) (by omega) (by omega) (by decide) rfl (hP _ _ _ rfl) ?_
      refine g_getP dX11_see_24 fdX11_163 rfl (by first | rfl | exact pv_shx) (by omega) (by omega) (by decide) rfl (hP _ _ _ rfl) ?_
      refine n_getI dX11_see_27 fdX11_167 rfl (by first | rfl | exact pv_shx) (by omega) (by omega) (by decide) rfl (by repeat (first | exact r3 | (apply rd_s; done) | apply rd_n (by omega) | apply rp_s | apply rp_n (by omega) | (apply rdL_s; done) | apply rdL_n (by omega) | apply rpJ_s | apply rpJ_n (by omega) | rfl)) ?_
      refine n_icmp_ge 53 dX11_see_30 (by decide) (by first | ((with_reducible apply cN_le) <;> omega) | ((with_reducible apply cI_len) <;> omega) | ((with_reducible apply cI_nle) <;> omega) | (with_reducible exact cI_le)) (fun c30 => ?_) (fun c30 => by exfalso; first | omega | exact absurd trivial c30 | exact c30 | (simp at c30))
      exact g_vret dX11_see_53 rfl (⟨rfl, rfl, rfl, h1, h2, h3, h4⟩)
    | succ q ih =>
      intro s I1 J1 hs h1 h2 h3 h4
      have r3 : I1 20 0 = nI (cnt a 3) := by rw [h1.2.1.2.2.2.1.1]; exact k3
      have bs := fad_lt (show s < 8 by omega)
      have lk := c_look (g := g) hP h1 (s := s) (by omega) (by omega)
      have s0 := (fad_ok (show s < 9 by omega)).sh.1.1
      refine g_iload_n dX11_see_19 rfl ?_
      refine g_aload_n dX11_see_20 rfl ?_
      refine g_getP dX11_see_21 fdX11_32 rfl (by first | rfl | exact pv_shx) (by omega) (by omega) (by decide) rfl (hP _ _ _ rfl) ?_
      refine g_getP dX11_see_24 fdX11_163 rfl (by first | rfl | exact pv_shx) (by omega) (by omega) (by decide) rfl (hP _ _ _ rfl) ?_
      refine n_getI dX11_see_27 fdX11_167 rfl (by first | rfl | exact pv_shx) (by omega) (by omega) (by decide) rfl (by repeat (first | exact r3 | (apply rd_s; done) | apply rd_n (by omega) | apply rp_s | apply rp_n (by omega) | (apply rdL_s; done) | apply rdL_n (by omega) | apply rpJ_s | apply rpJ_n (by omega) | rfl)) ?_
      refine n_icmp_ge 53 dX11_see_30 (by decide) (by first | ((with_reducible apply cN_le) <;> omega) | ((with_reducible apply cI_len) <;> omega) | ((with_reducible apply cI_nle) <;> omega) | (with_reducible exact cI_le)) (fun c30 => by exfalso; first | omega | exact absurd trivial c30 | exact c30 | (simp at c30)) (fun c30 => ?_)
      refine g_aload_n dX11_see_33 rfl ?_
      refine g_getP dX11_see_34 fdX11_41 rfl (by first | rfl | exact pv_shx) (by omega) (by omega) (by decide) rfl (hP _ _ _ rfl) ?_
      refine g_iload_n dX11_see_37 rfl ?_
      refine g_aald _ dX11_see_38 (by first | exact Or.inl rfl | exact Or.inr rfl) (by omega) (by omega) (by decide) (rfl) (by omega) (fires_P hP (by omega)) ?_
      refine g_aload_n dX11_see_39 rfl ?_
      refine g_getP dX11_see_40 fdX11_32 rfl (by first | rfl | exact pv_shx) (by omega) (by omega) (by decide) rfl (hP _ _ _ rfl) ?_
      refine g_iload_n dX11_see_43 rfl ?_
      refine g_callV (lk) okX1_lookAt lkX11_202 rfl (s0) rfl (by omega) (by omega) dX11_see_44 rfl (Nat.le_of_ble_eq_true rfl) (⟨by decide, by decide, by decide, by decide⟩) ?_
      rintro v nx' I2 J2 P' ⟨rfl, rfl, rfl, q1, q2, q3⟩
      refine g_iinc dX11_see_47 rfl (by first | (with_reducible exact nI_1 _) | exact nI_1 _ | exact pk_m1 _ | rfl) (by decide) rfl ?_
      refine g_goto 19 dX11_see_50 (by decide) ?_
      exact ih (s + 1) I2 J2 (by omega) q1 (h2.tr (q2.q (fad_ok (by omega)))) (fun t ht => by
        by_cases e : t = s
        · subst e; exact q3
        · obtain ⟨sn, x1, x2⟩ := h3 t (by omega)
          exact ⟨sn, x1, x2.far q2 e⟩) ((q2.2.1 138 (by simp; omega)).trans h4)
  refine pvMet.of _ (by decide) rfl (Nat.le_of_ble_eq_true rfl) ?_
  refine g_bipush (v := nI 99) dX11_see_0 (by decide) ?_
  refine g_iload_n dX11_see_2 rfl ?_
  refine g_aload_n dX11_see_3 rfl ?_
  refine g_getP dX11_see_4 fdX11_32 rfl (by first | rfl | exact pv_shx) (by omega) (by omega) (by decide) rfl (hP _ _ _ rfl) ?_
  refine n_getI dX11_see_7 fdX11_77 rfl (by first | rfl | exact pv_shx) (by omega) (by omega) (by decide) rfl (by repeat (first | exact r0 | (apply rd_s; done) | apply rd_n (by omega) | apply rp_s | apply rp_n (by omega) | (apply rdL_s; done) | apply rdL_n (by omega) | apply rpJ_s | apply rpJ_n (by omega) | rfl)) ?_
  refine g_mmax dX11_see_10 lkX11_15 (by decide) (Nat.le_of_ble_eq_true rfl) (by decide) (by decide) (by first | exact mm_max (by omega) (by omega) | rfl) ?_
  refine g_mmin dX11_see_13 lkX11_9 (by decide) (Nat.le_of_ble_eq_true rfl) (by decide) (by decide) ((mm_min (by omega) (by omega)).trans (by rw [hg])) ?_
  refine g_istore_n dX11_see_16 (by decide) rfl ?_
  refine g_iconst (v := nI 0) dX11_see_17 (by decide) ?_
  refine g_istore_n dX11_see_18 (by decide) rfl ?_
  exact lp (cnt a 3) 0 I J (by omega) hb qF.rf (fun t ht => absurd ht (Nat.not_lt_zero t)) rfl
end SEE
