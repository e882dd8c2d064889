/-! class: pull, hears, offer -/
def mF2 (I : pvI) (J : pvJ) (I' : pvI) (J' : pvJ) : Prop := ∀ x, (x < 3 ∨ (46 ≤ x ∧ x < 90) ∨ 144 ≤ x) → I' x = I x ∧ J' x = J x
theorem mF2.rf {I : pvI} {J : pvJ} : mF2 I J I J := fun _ _ => ⟨rfl, rfl⟩
/-- all that fires and walls see is the same -/
def sAl (a a' : Nat → Int32) : Prop := ag 0 5 a a' ∧ ag 10 14 a a' ∧ ag 20 1080 a a' ∧ ag 1600 8020 a a'
theorem sAl.rf {a : Nat → Int32} : sAl a a := ⟨ag.rf, ag.rf, ag.rf, ag.rf⟩
def mtQ (w h : Nat) (a : Nat → Int32) (I : pvI) (J : pvJ) (P : pvP) (r : Int32 × (Nat → Int32)) : pvQT := pvq P (fun v I' J' => v = some (.int r.1) ∧ kB w h r.2 I' J' ∧ mF2 I J I' J' ∧ (I' 43 3 = -1 ∨ (I' 43 = I 43 ∧ sAl a r.2)))
section TWN
variable {w h b : Nat} {a a' : Nat → Int32} {I I' : pvI} {J J' : pvJ} {P : pvP}
theorem rGro.mv (hr : rGro w h b a I J) (hI : ∀ x, b + 1 ≤ x → x ≤ b + 5 → I' x = I x) (hJ : ∀ x, b + 1 ≤ x → x ≤ b + 5 → J' x = J x) : rGro w h b a I' J' := by
  unfold rGro at hr ⊢
  rw [hI (b + 1) (by omega) (by omega), hI (b + 2) (by omega) (by omega), hI (b + 3) (by omega) (by omega), hI (b + 4) (by omega) (by omega), hJ (b + 1) (by omega) (by omega), hJ (b + 5) (by omega) (by omega)]
  exact hr
theorem rWrk.mv (hr : rWrk w h b a I J) (hI : ∀ x, b + 6 ≤ x → x ≤ b + 16 → I' x = I x) (hJ : ∀ x, b + 6 ≤ x → x ≤ b + 16 → J' x = J x) : rWrk w h b a I' J' := by
  unfold rWrk at hr ⊢
  rw [hI (b + 6) (by omega) (by omega), hI (b + 7) (by omega) (by omega), hI (b + 8) (by omega) (by omega), hI (b + 9) (by omega) (by omega), hI (b + 11) (by omega) (by omega), hI (b + 12) (by omega) (by omega), hI (b + 13) (by omega) (by omega), hI (b + 14) (by omega) (by omega), hI (b + 15) (by omega) (by omega), hJ (b + 10) (by omega) (by omega), hJ (b + 16) (by omega) (by omega)]
  exact hr
theorem rKno.mv (hr : rKno b a I) (hI : ∀ x, b + 17 ≤ x → x ≤ b + 23 → I' x = I x) : rKno b a I' := by
  unfold rKno at hr ⊢
  rw [hI (b + 17) (by omega) (by omega), hI (b + 18) (by omega) (by omega), hI (b + 19) (by omega) (by omega), hI (b + 20) (by omega) (by omega), hI (b + 21) (by omega) (by omega), hI (b + 22) (by omega) (by omega), hI (b + 23) (by omega) (by omega)]
  exact hr
theorem rTwn.mv (hr : rTwn b a I) (hI : ∀ x, b + 24 ≤ x → x ≤ b + 35 → I' x = I x) : rTwn b a I' := by
  unfold rTwn at hr ⊢
  rw [hI (b + 24) (by omega) (by omega), hI (b + 25) (by omega) (by omega), hI (b + 26) (by omega) (by omega), hI (b + 27) (by omega) (by omega), hI (b + 28) (by omega) (by omega), hI (b + 29) (by omega) (by omega), hI (b + 30) (by omega) (by omega), hI (b + 31) (by omega) (by omega), hI (b + 32) (by omega) (by omega), hI (b + 33) (by omega) (by omega), hI (b + 34) (by omega) (by omega), hI (b + 35) (by omega) (by omega)]
  exact hr
theorem rLaw.mv (hr : rLaw b a I) (hI : ∀ x, b + 36 ≤ x → x ≤ b + 39 → I' x = I x) : rLaw b a I' := by
  unfold rLaw at hr ⊢
  rw [hI (b + 36) (by omega) (by omega), hI (b + 37) (by omega) (by omega), hI (b + 38) (by omega) (by omega), hI (b + 39) (by omega) (by omega)]
  exact hr
theorem rWal.mv (hr : rWal b a I) (hI : ∀ x, b + 41 ≤ x → x ≤ b + 42 → I' x = I x) (h0 : I' (b + 40) 0 = I (b + 40) 0) : rWal b a I' := by
  unfold rWal at hr ⊢
  rw [h0, hI (b + 41) (by omega) (by omega), hI (b + 42) (by omega) (by omega)]
  exact hr
/-- a call that changes the town alone -/
theorem kB.twn (hb : kB w h a I J) (hI : ∀ x, x < 27 ∨ 38 < x → I' x = I x) (h0 : ag 0 5 a a') (h8 : ag 8 14 a a') (h15 : ag 15 16 a a') (h2 : ag 20 1080 a a') (h3 : ag 1500 8020 a a') (ht : rTwn 3 a' I') (hl : mLv (w * h) a') : kB w h a' I' J := by
  obtain ⟨hg, ⟨r0, r1, r2, r3, r4, r5, r6⟩, hf, htr, ⟨⟨i1, i2, i3, i4, i5, i6⟩, i7, i8, i9, i10, ⟨i11, i12⟩, i13⟩⟩ := id hb
  have hwh := hg.wh
  have hw := hg.2.2.2.2.2.2.1
  have s11 : ag 11 14 a a' := h8.sub (by omega) (by omega)
  have s1 : ag 1 4 a a' := h0.sub (by omega) (by omega)
  have sp : ag 1620 8020 a a' := h3.sub (by omega) (by omega)
  have sg : ag 20 276 a a' := h2.sub (by omega) (by omega)
  refine ⟨hg.mv (hI 2 (by omega)) rfl, ⟨?_, ?_, ?_, ?_, ht, ?_, ?_⟩, ?_, htr.mv (hI 138 (by omega)) rfl, ⟨⟨hl.2.2.2, i2.fr (h2.sub (by omega) (by omega)) sp, i3.fr i1 (h0.sub (by omega) (by omega)) (h2.sub (by omega) (by omega)), i4.fr i1 (h0.sub (by omega) (by omega)) (h2.sub (by omega) (by omega)), i5.fr i1 (h0.sub (by omega) (by omega)) (h2.sub (by omega) (by omega)), i6.fr i1 (h8.sub (by omega) (by omega)) (h3.sub (by omega) (by omega))⟩, i7.fr i1 (h0.sub (by omega) (by omega)) (h2.sub (by omega) (by omega)), hl, i9.fr sp, i10.fr i1 (h8.sub (by omega) (by omega)) (h3.sub (by omega) (by omega)), ⟨i11.fr (h8.sub (by omega) (by omega)) (h2.sub (by omega) (by omega)), i12.fr (h2.sub (by omega) (by omega))⟩, mAh.fr (a := a) i13 i1 (h0.sub (by omega) (by omega)) (h0.sub (by omega) (by omega)) (h2.sub (by omega) (by omega)) sp⟩⟩
  · rw [hI 3 (by omega), h0 0 (by omega) (by omega)]; exact r0
  · exact (r1.fr s11 h15 (h2.sub (by omega) (by omega)) sp hwh.2).mv (fun x z1 z2 => hI x (by omega)) (fun _ _ _ => rfl)
  · exact (r2.fr i1 (h0.sub (by omega) (by omega)) (h2.sub (by omega) (by omega))).mv (fun x z1 z2 => hI x (by omega)) (fun _ _ _ => rfl)
  · exact (r3.fr i1 (h0.sub (by omega) (by omega)) (h2.sub (by omega) (by omega))).mv (fun x z1 z2 => hI x (by omega))
  · exact (r5.fr i1 (h8.sub (by omega) (by omega)) (h3.sub (by omega) (by omega))).mv (fun x z1 z2 => hI x (by omega))
  · exact (r6.fr i1 (h8.sub (by omega) (by omega)) (h3.sub (by omega) (by omega))).mv (fun x z1 z2 => hI x (by omega)) (by rw [hI (3 + 40) (by omega)])
  · exact (hf.fr (by omega) hwh.2 i1 s1 s11 sg sp).mv (fun x z1 z2 => hI x (by omega)) (fun _ _ _ => rfl)
theorem kB.mf (hI : ∀ x, x < 27 ∨ 38 < x → I' x = I x) : mF2 I J I' J := fun x hx => ⟨hI x (by omega), rfl⟩
theorem updI {f : Nat → Int32} {k j : Nat} {v : Int32} (e : j ≠ k) : upd f k v j = f j := by simp [upd, e]
theorem updS {f : Nat → Int32} {k : Nat} {v : Int32} : upd f k v k = v := by simp [upd]
theorem c_pull {x : Int32} (hP : pvOkP P) (hb : kB w h a I J) : pvMet mX11_pull 1 0 0 [.ref 1, .int x] 224 I J P (mtQ w h a I J P (sp_pull a x)) := by
  have ix := c_within (nx := 224) (v := x) (lo := nI 0) (hi := nI 999) (L := 0) (H := 999) (I := I) (J := J) (P := P) (by decide) (by decide)
  by_cases c : 0 ≤ x.toInt ∧ x.toInt ≤ 999
  · rw [if_pos c] at ix
    obtain ⟨xn, hxn, rfl⟩ := cI_of (x := x) (n := 1000) (by omega) (by omega) (by omega)
    have hI : ∀ y, y < 27 ∨ 38 < y → pvs I 27 (upd (I 27) 13 (nI xn)) y = I y := fun y hy => pvs_ne (by omega)
    obtain ⟨x1, x2, x3, x4, x5, x6⟩ := hb.2.1.2.2.2.2.1
    have hi := hb.2.2.2.2
    have u : ∀ {i}, i ≠ 14 → upd a 14 (nI xn) i = a i := fun e => updI e
    have uc : ∀ {i}, i ≠ 14 → cnt (upd a 14 (nI xn)) i = cnt a i := fun e => by unfold cnt; rw [u e]
    have hg' : mG (upd a 14 (nI xn)) := hi.1.1.one (i := 14) (v := xn) (by decide) (show xn ≤ 999 by omega) updS (fun j _ e => updI e)
    have ht : rTwn 3 (upd a 14 (nI xn)) (pvs I 27 (upd (I 27) 13 (nI xn))) := by
      refine ⟨?_, ?_, ?_, ?_, ?_, ?_⟩
      · show pvs I 27 (upd (I 27) 13 (nI xn)) 27 0 = _
        rw [pvs_eq, updI (by decide), u (by decide)]; exact x1
      · intro k hk
        rw [uc (by decide)] at hk
        have := hi.1.1.le (i := 5) (by decide)
        have l5 : sp_lim 5 = 20 := rfl
        rw [u (by omega), u (by omega), u (by omega), u (by omega), u (by omega)]
        exact x2 k hk
      · show pvs I 27 (upd (I 27) 13 (nI xn)) 27 6 = _
        rw [pvs_eq, updI (by decide), u (by decide)]; exact x3
      · intro k hk
        rw [uc (by decide)] at hk
        rw [u (by omega), u (by omega), u (by omega), u (by omega), u (by omega)]
        exact x4 k hk
      · intro k hk
        rw [uc (by decide)]
        have e : sp_ct (sp_kgP (upd a 14 (nI xn)) (nI k)) (cnt a 6) = sp_ct (sp_kgP a (nI k)) (cnt a 6) := sp_ct_cong (fun p _ => by
          show (upd a 14 (nI xn) (1200 + 5 * p + 1) = nI k ∧ ¬ (upd a 14 (nI xn) (1200 + 5 * p + 4)).toInt < 0) ↔ _
          rw [u (by omega), u (by omega)])
        rw [e]
        exact x5 k hk
      · show pvs I 27 (upd (I 27) 13 (nI xn)) 27 13 = _
        rw [pvs_eq, updS, updS]
    have fin := hb.twn hI (fun i h1 h2 => by simp only [upd]; repeat (rw [if_neg (by omega)])) (fun i h1 h2 => by simp only [upd]; repeat (rw [if_neg (by omega)])) (fun i h1 h2 => by simp only [upd]; repeat (rw [if_neg (by omega)])) (fun i h1 h2 => by simp only [upd]; repeat (rw [if_neg (by omega)])) (fun i h1 h2 => by simp only [upd]; repeat (rw [if_neg (by omega)])) ht (hi.2.2.1.fr hg' (fun i h1 h2 => by simp only [upd]; repeat (rw [if_neg (by omega)])) (fun i h1 h2 => by simp only [upd]; repeat (rw [if_neg (by omega)])))
    have ans : sp_pull a (nI xn) = (1, upd a 14 (nI xn)) := by rw [sp_pull, if_pos c]
    rw [ans]
    refine pvMet.of _ (by decide) rfl (Nat.le_of_ble_eq_true rfl) ?_
    refine g_iload_n dX11_pull_0 rfl ?_
    refine g_iconst (v := nI 0) dX11_pull_1 (by decide) ?_
    refine g_sipush (v := nI 999) dX11_pull_2 (by decide) ?_
    refine p_callS (ix) okX11_within lkX11_85 rfl dX11_pull_5 rfl (Nat.le_of_ble_eq_true rfl) (⟨by decide, by decide, by decide, by decide⟩) ?_
    refine n_if_ne 13 dX11_pull_8 (by decide) (by first | (with_reducible exact cB _) | ((with_reducible apply cN_eq0) <;> omega) | exact Iff.rfl) (fun c8 => ?_) (fun c8 => by exfalso; first | omega | exact absurd trivial c8 | exact c8 | (simp at c8))
    refine g_aload_n dX11_pull_13 rfl ?_
    refine g_getP dX11_pull_14 fdX11_32 rfl (by first | rfl | exact pv_shx) (by omega) (by omega) (by decide) rfl (hP _ _ _ rfl) ?_
    refine g_getP dX11_pull_17 fdX11_277 rfl (by first | rfl | exact pv_shx) (by omega) (by omega) (by decide) rfl (hP _ _ _ rfl) ?_
    refine g_iload_n dX11_pull_20 rfl ?_
    refine n_putI dX11_pull_21 fdX11_315 rfl (fun h => absurd h (by decide)) (by first | rfl | exact pv_shx) (by omega) (by omega) (by decide) rfl (by repeat (first | exact pvu_s | exact pvuJ_s | apply pvu_in (by omega) | apply pvuJ_in (by omega) | exact pvu_pvs | exact pvuJ_pvs)) ?_
    refine g_iconst (v := nI 1) dX11_pull_24 (by decide) ?_
    exact g_zret (by first | exact Or.inl rfl | exact Or.inr rfl | exact cB01 _) dX11_pull_25 rfl (⟨rfl, rfl, rfl, fin, kB.mf hI, Or.inr ⟨by rw [pvs_ne (by decide)], (fun i h1 h2 => by simp only [upd]; repeat (rw [if_neg (by omega)])), (fun i h1 h2 => by simp only [upd]; repeat (rw [if_neg (by omega)])), (fun i h1 h2 => by simp only [upd]; repeat (rw [if_neg (by omega)])), (fun i h1 h2 => by simp only [upd]; repeat (rw [if_neg (by omega)]))⟩⟩)
  · rw [if_neg c] at ix
    have ans : sp_pull a x = (0, a) := by rw [sp_pull, if_neg c]
    rw [ans]
    refine pvMet.of _ (by decide) rfl (Nat.le_of_ble_eq_true rfl) ?_
    refine g_iload_n dX11_pull_0 rfl ?_
    refine g_iconst (v := nI 0) dX11_pull_1 (by decide) ?_
    refine g_sipush (v := nI 999) dX11_pull_2 (by decide) ?_
    refine p_callS (ix) okX11_within lkX11_85 rfl dX11_pull_5 rfl (Nat.le_of_ble_eq_true rfl) (⟨by decide, by decide, by decide, by decide⟩) ?_
    refine n_if_ne 13 dX11_pull_8 (by decide) (by first | (with_reducible exact cB _) | ((with_reducible apply cN_eq0) <;> omega) | exact Iff.rfl) (fun c8 => by exfalso; first | omega | exact absurd trivial c8 | exact c8 | (simp at c8)) (fun c8 => ?_)
    refine g_iconst (v := nI 0) dX11_pull_11 (by decide) ?_
    exact g_zret (by first | exact Or.inl rfl | exact Or.inr rfl | exact cB01 _) dX11_pull_12 rfl (⟨rfl, rfl, rfl, hb, mF2.rf, Or.inr ⟨rfl, sAl.rf⟩⟩)
end TWN
