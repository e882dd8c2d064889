/-! class: a world is made -/
theorem zz.up {nx nx' : Nat} {I I' : pvI} {J : pvJ} {P P' : pvP} (h : zz nx I J P) (hn : nx ≤ nx') (hI : ∀ x, nx' < x → I' x = I x) (hP : ∀ x, nx' < x → P' x = P x) : zz nx' I' J P' := fun x z1 z2 => by
  rw [hI x z1, hP x z1]; exact h x (by omega) z2
theorem wAd3 : wAd 3 := Or.inl rfl
theorem wAd46 : wAd 46 := Or.inr rfl
section WLD
variable {b : Nat} {I : pvI} {J : pvJ} {P : pvP}
def gr8 (f : Nat → Int32) : Nat → Int32 := upd (upd (upd f 8 (nI 3)) 9 (nI 10)) 10 (nI 6)
def wl3 (f : Nat → Int32) : Nat → Int32 := upd (upd f 3 (-1)) 4 (-1)
def woQ (b : Nat) (I : pvI) (J : pvJ) (P : pvP) : pvQT := fun v nx' I' J' P' => v = none ∧ nx' = b + 42 ∧ I' = pvs (pvs I (b + 1) (gr8 (I (b + 1)))) (b + 40) (wl3 (I (b + 40))) ∧ J' = J ∧ (∀ x, (x < b ∨ b + 42 < x) → P' x = P x) ∧ ∀ i j a, pv_wP b i j = some a → P' (b + i) j = some a
theorem n_world3 (hz : zz 3 I J P) : pvMet mX10_init 2 42 1988 [.ref 3, .ref 2] 3 I J P (woQ 3 I J P) := by
  refine pvMet.of _ (by decide) rfl (Nat.le_of_ble_eq_true rfl) ?_
  refine g_aload_n dX10_init_0 rfl ?_
  refine g_objInit dX10_init_1 loX10_1 (by decide) (by decide) ?_
  refine g_aload_n dX10_init_4 rfl ?_
  refine g_aload_n dX10_init_5 rfl ?_
  refine g_putP dX10_init_6 fdX10_7 rfl (fun _ => ⟨rfl, _, _, _, rfl, rfl⟩) (by first | rfl | exact pv_shx) (by omega) (by omega) (by decide) rfl (by first | exact Or.inl ⟨_, rfl⟩ | exact Or.inr ⟨_, rfl⟩) ?_
  have z0 : zz 3 I J (pvuP P 3 1 (some 2)) := hz.up (Nat.le_refl _) (fun _ _ => rfl) (fun x hx => pvuP_ne (by omega))
  refine g_aload_n dX10_init_9 rfl ?_
  refine g_new dX10_init_10 nwX10_13 (by decide) rfl rfl (by decide) (z0 _ (by decide) (by decide)).1 (z0 _ (by decide) (by decide)).2.1 (z0 _ (by decide) (by decide)).2.2 (by decide) (by decide) ?_
  refine g_dup dX10_init_13 rfl ?_
  refine g_aload_n dX10_init_14 rfl ?_
  have w1 := n_ground (b := 3) (wAd3) (z0.up (nx' := 4) (by decide) (fun _ _ => rfl) (fun _ _ => rfl))
  refine g_callI (w1) okX3_init rfl lkX10_15 rfl dX10_init_15 rfl (Nat.le_of_ble_eq_true rfl) (⟨by decide, by decide, by decide, by decide⟩) ?_
  rintro v nx' I1 J1 P1 ⟨rfl, rfl, rfl, rfl, p1, gr0, gr1, gr2, gr3, gr4⟩
  refine g_putP dX10_init_18 fdX10_18 rfl (fun _ => ⟨rfl, _, _, _, rfl, rfl⟩) (by first | rfl | exact pv_shx) (by omega) (by omega) (by decide) rfl (by first | exact Or.inl ⟨_, rfl⟩ | exact Or.inr ⟨_, rfl⟩) ?_
  have z1 : zz 8 (pvs I 4 (gr8 (I 4))) J1 (pvuP P1 3 2 (some 4)) := z0.up (by decide) (fun x hx => pvs_ne (by omega)) (fun x hx => by rw [pvuP_ne (by omega), p1 x (by omega)])
  refine g_aload_n dX10_init_21 rfl ?_
  refine g_new dX10_init_22 nwX10_22 (by decide) rfl rfl (by decide) (z1 _ (by decide) (by decide)).1 (z1 _ (by decide) (by decide)).2.1 (z1 _ (by decide) (by decide)).2.2 (by decide) (by decide) ?_
  refine g_dup dX10_init_25 rfl ?_
  have w2 := n_works (b := 3) (wAd3) (z1.up (nx' := 9) (by decide) (fun _ _ => rfl) (fun _ _ => rfl))
  refine g_callNI (w2) okX9_init rfl lkX10_24 rfl dX10_init_26 rfl (Nat.le_of_ble_eq_true rfl) (⟨by decide, by decide, by decide, by decide⟩) ?_
  rintro v nx' I2 J2 P2 ⟨rfl, rfl, rfl, rfl, p2, wo0, wo1, wo2, wo3, wo4, wo5, wo6, wo7, wo8, wo9⟩
  refine g_putP dX10_init_29 fdX10_25 rfl (fun _ => ⟨rfl, _, _, _, rfl, rfl⟩) (by first | rfl | exact pv_shx) (by omega) (by omega) (by decide) rfl (by first | exact Or.inl ⟨_, rfl⟩ | exact Or.inr ⟨_, rfl⟩) ?_
  have z2 : zz 19 (pvs I 4 (gr8 (I 4))) J2 (pvuP P2 3 3 (some 9)) := z1.up (by decide) (fun _ _ => rfl) (fun x hx => by rw [pvuP_ne (by omega), p2 x (by omega)])
  refine g_aload_n dX10_init_32 rfl ?_
  refine g_new dX10_init_33 nwX10_29 (by decide) rfl rfl (by decide) (z2 _ (by decide) (by decide)).1 (z2 _ (by decide) (by decide)).2.1 (z2 _ (by decide) (by decide)).2.2 (by decide) (by decide) ?_
  refine g_dup dX10_init_36 rfl ?_
  have w3 := n_known (b := 3) (wAd3) (z2.up (nx' := 20) (by decide) (fun _ _ => rfl) (fun _ _ => rfl))
  refine g_callNI (w3) okX4_init rfl lkX10_31 rfl dX10_init_37 rfl (Nat.le_of_ble_eq_true rfl) (⟨by decide, by decide, by decide, by decide⟩) ?_
  rintro v nx' I3 J3 P3 ⟨rfl, rfl, rfl, rfl, p3, kn0, kn1, kn2, kn3, kn4, kn5⟩
  refine g_putP dX10_init_40 fdX10_32 rfl (fun _ => ⟨rfl, _, _, _, rfl, rfl⟩) (by first | rfl | exact pv_shx) (by omega) (by omega) (by decide) rfl (by first | exact Or.inl ⟨_, rfl⟩ | exact Or.inr ⟨_, rfl⟩) ?_
  have z3 : zz 26 (pvs I 4 (gr8 (I 4))) J3 (pvuP P3 3 4 (some 20)) := z2.up (by decide) (fun _ _ => rfl) (fun x hx => by rw [pvuP_ne (by omega), p3 x (by omega)])
  refine g_aload_n dX10_init_43 rfl ?_
  refine g_new dX10_init_44 nwX10_36 (by decide) rfl rfl (by decide) (z3 _ (by decide) (by decide)).1 (z3 _ (by decide) (by decide)).2.1 (z3 _ (by decide) (by decide)).2.2 (by decide) (by decide) ?_
  refine g_dup dX10_init_47 rfl ?_
  have w4 := n_town (b := 3) (wAd3) (z3.up (nx' := 27) (by decide) (fun _ _ => rfl) (fun _ _ => rfl))
  refine g_callNI (w4) okX7_init rfl lkX10_38 rfl dX10_init_48 rfl (Nat.le_of_ble_eq_true rfl) (⟨by decide, by decide, by decide, by decide⟩) ?_
  rintro v nx' I4 J4 P4 ⟨rfl, rfl, rfl, rfl, p4, to0, to1, to2, to3, to4, to5, to6, to7, to8, to9, to10⟩
  refine g_putP dX10_init_51 fdX10_39 rfl (fun _ => ⟨rfl, _, _, _, rfl, rfl⟩) (by first | rfl | exact pv_shx) (by omega) (by omega) (by decide) rfl (by first | exact Or.inl ⟨_, rfl⟩ | exact Or.inr ⟨_, rfl⟩) ?_
  have z4 : zz 38 (pvs I 4 (gr8 (I 4))) J4 (pvuP P4 3 5 (some 27)) := z3.up (by decide) (fun _ _ => rfl) (fun x hx => by rw [pvuP_ne (by omega), p4 x (by omega)])
  refine g_aload_n dX10_init_54 rfl ?_
  refine g_new dX10_init_55 nwX10_43 (by decide) rfl rfl (by decide) (z4 _ (by decide) (by decide)).1 (z4 _ (by decide) (by decide)).2.1 (z4 _ (by decide) (by decide)).2.2 (by decide) (by decide) ?_
  refine g_dup dX10_init_58 rfl ?_
  have w5 := n_law (b := 3) (wAd3) (z4.up (nx' := 39) (by decide) (fun _ _ => rfl) (fun _ _ => rfl))
  refine g_callNI (w5) okX5_init rfl lkX10_45 rfl dX10_init_59 rfl (Nat.le_of_ble_eq_true rfl) (⟨by decide, by decide, by decide, by decide⟩) ?_
  rintro v nx' I5 J5 P5 ⟨rfl, rfl, rfl, rfl, p5, la0, la1, la2⟩
  refine g_putP dX10_init_62 fdX10_46 rfl (fun _ => ⟨rfl, _, _, _, rfl, rfl⟩) (by first | rfl | exact pv_shx) (by omega) (by omega) (by decide) rfl (by first | exact Or.inl ⟨_, rfl⟩ | exact Or.inr ⟨_, rfl⟩) ?_
  have z5 : zz 42 (pvs I 4 (gr8 (I 4))) J5 (pvuP P5 3 6 (some 39)) := z4.up (by decide) (fun _ _ => rfl) (fun x hx => by rw [pvuP_ne (by omega), p5 x (by omega)])
  refine g_aload_n dX10_init_65 rfl ?_
  refine g_new dX10_init_66 nwX10_50 (by decide) rfl rfl (by decide) (z5 _ (by decide) (by decide)).1 (z5 _ (by decide) (by decide)).2.1 (z5 _ (by decide) (by decide)).2.2 (by decide) (by decide) ?_
  refine g_dup dX10_init_69 rfl ?_
  have w6 := n_walls (b := 3) (wAd3) (z5.up (nx' := 43) (by decide) (fun _ _ => rfl) (fun _ _ => rfl))
  refine g_callNI (w6) okX8_init rfl lkX10_52 rfl dX10_init_70 rfl (Nat.le_of_ble_eq_true rfl) (⟨by decide, by decide, by decide, by decide⟩) ?_
  rintro v nx' I6 J6 P6 ⟨rfl, rfl, rfl, rfl, p6, wa0, wa1⟩
  have fin : woQ 3 I J6 P none 45 (pvs (pvs I 4 (gr8 (I 4))) 43 (wl3 (I 43))) J6 (pvuP P6 3 7 (some 43)) := by
    refine ⟨rfl, rfl, rfl, rfl, fun x hx => ?_, fun i j a h => ?_⟩
    · rw [pvuP_ne (by omega), p6 x (by omega), pvuP_ne (by omega), p5 x (by omega), pvuP_ne (by omega), p4 x (by omega), pvuP_ne (by omega), p3 x (by omega), pvuP_ne (by omega), p2 x (by omega), pvuP_ne (by omega), p1 x (by omega), pvuP_ne (by omega)]
    · unfold pv_wP at h
      split at h <;> first | (cases h; done) | (cases h; simp [pvuP, va_up, gr0, gr1, gr2, gr3, gr4, p1, wo0, wo1, wo2, wo3, wo4, wo5, wo6, wo7, wo8, wo9, p2, kn0, kn1, kn2, kn3, kn4, kn5, p3, to0, to1, to2, to3, to4, to5, to6, to7, to8, to9, to10, p4, la0, la1, la2, p5, wa0, wa1, p6])
  refine g_putP dX10_init_73 fdX10_53 rfl (fun _ => ⟨rfl, _, _, _, rfl, rfl⟩) (by first | rfl | exact pv_shx) (by omega) (by omega) (by decide) rfl (by first | exact Or.inl ⟨_, rfl⟩ | exact Or.inr ⟨_, rfl⟩) ?_
  exact g_vret dX10_init_76 rfl (fin)
theorem n_world46 (hz : zz 46 I J P) : pvMet mX10_init 2 42 1988 [.ref 46, .ref 2] 46 I J P (woQ 46 I J P) := by
  refine pvMet.of _ (by decide) rfl (Nat.le_of_ble_eq_true rfl) ?_
  refine g_aload_n dX10_init_0 rfl ?_
  refine g_objInit dX10_init_1 loX10_1 (by decide) (by decide) ?_
  refine g_aload_n dX10_init_4 rfl ?_
  refine g_aload_n dX10_init_5 rfl ?_
  refine g_putP dX10_init_6 fdX10_7 rfl (fun _ => ⟨rfl, _, _, _, rfl, rfl⟩) (by first | rfl | exact pv_shx) (by omega) (by omega) (by decide) rfl (by first | exact Or.inl ⟨_, rfl⟩ | exact Or.inr ⟨_, rfl⟩) ?_
  have z0 : zz 46 I J (pvuP P 46 1 (some 2)) := hz.up (Nat.le_refl _) (fun _ _ => rfl) (fun x hx => pvuP_ne (by omega))
  refine g_aload_n dX10_init_9 rfl ?_
  refine g_new dX10_init_10 nwX10_13 (by decide) rfl rfl (by decide) (z0 _ (by decide) (by decide)).1 (z0 _ (by decide) (by decide)).2.1 (z0 _ (by decide) (by decide)).2.2 (by decide) (by decide) ?_
  refine g_dup dX10_init_13 rfl ?_
  refine g_aload_n dX10_init_14 rfl ?_
  have w1 := n_ground (b := 46) (wAd46) (z0.up (nx' := 47) (by decide) (fun _ _ => rfl) (fun _ _ => rfl))
  refine g_callI (w1) okX3_init rfl lkX10_15 rfl dX10_init_15 rfl (Nat.le_of_ble_eq_true rfl) (⟨by decide, by decide, by decide, by decide⟩) ?_
  rintro v nx' I1 J1 P1 ⟨rfl, rfl, rfl, rfl, p1, gr0, gr1, gr2, gr3, gr4⟩
  refine g_putP dX10_init_18 fdX10_18 rfl (fun _ => ⟨rfl, _, _, _, rfl, rfl⟩) (by first | rfl | exact pv_shx) (by omega) (by omega) (by decide) rfl (by first | exact Or.inl ⟨_, rfl⟩ | exact Or.inr ⟨_, rfl⟩) ?_
  have z1 : zz 51 (pvs I 47 (gr8 (I 47))) J1 (pvuP P1 46 2 (some 47)) := z0.up (by decide) (fun x hx => pvs_ne (by omega)) (fun x hx => by rw [pvuP_ne (by omega), p1 x (by omega)])
  refine g_aload_n dX10_init_21 rfl ?_
  refine g_new dX10_init_22 nwX10_22 (by decide) rfl rfl (by decide) (z1 _ (by decide) (by decide)).1 (z1 _ (by decide) (by decide)).2.1 (z1 _ (by decide) (by decide)).2.2 (by decide) (by decide) ?_
  refine g_dup dX10_init_25 rfl ?_
  have w2 := n_works (b := 46) (wAd46) (z1.up (nx' := 52) (by decide) (fun _ _ => rfl) (fun _ _ => rfl))
  refine g_callNI (w2) okX9_init rfl lkX10_24 rfl dX10_init_26 rfl (Nat.le_of_ble_eq_true rfl) (⟨by decide, by decide, by decide, by decide⟩) ?_
  rintro v nx' I2 J2 P2 ⟨rfl, rfl, rfl, rfl, p2, wo0, wo1, wo2, wo3, wo4, wo5, wo6, wo7, wo8, wo9⟩
  refine g_putP dX10_init_29 fdX10_25 rfl (fun _ => ⟨rfl, _, _, _, rfl, rfl⟩) (by first | rfl | exact pv_shx) (by omega) (by omega) (by decide) rfl (by first | exact Or.inl ⟨_, rfl⟩ | exact Or.inr ⟨_, rfl⟩) ?_
  have z2 : zz 62 (pvs I 47 (gr8 (I 47))) J2 (pvuP P2 46 3 (some 52)) := z1.up (by decide) (fun _ _ => rfl) (fun x hx => by rw [pvuP_ne (by omega), p2 x (by omega)])
  refine g_aload_n dX10_init_32 rfl ?_
  refine g_new dX10_init_33 nwX10_29 (by decide) rfl rfl (by decide) (z2 _ (by decide) (by decide)).1 (z2 _ (by decide) (by decide)).2.1 (z2 _ (by decide) (by decide)).2.2 (by decide) (by decide) ?_
  refine g_dup dX10_init_36 rfl ?_
  have w3 := n_known (b := 46) (wAd46) (z2.up (nx' := 63) (by decide) (fun _ _ => rfl) (fun _ _ => rfl))
  refine g_callNI (w3) okX4_init rfl lkX10_31 rfl dX10_init_37 rfl (Nat.le_of_ble_eq_true rfl) (⟨by decide, by decide, by decide, by decide⟩) ?_
  rintro v nx' I3 J3 P3 ⟨rfl, rfl, rfl, rfl, p3, kn0, kn1, kn2, kn3, kn4, kn5⟩
  refine g_putP dX10_init_40 fdX10_32 rfl (fun _ => ⟨rfl, _, _, _, rfl, rfl⟩) (by first | rfl | exact pv_shx) (by omega) (by omega) (by decide) rfl (by first | exact Or.inl ⟨_, rfl⟩ | exact Or.inr ⟨_, rfl⟩) ?_
  have z3 : zz 69 (pvs I 47 (gr8 (I 47))) J3 (pvuP P3 46 4 (some 63)) := z2.up (by decide) (fun _ _ => rfl) (fun x hx => by rw [pvuP_ne (by omega), p3 x (by omega)])
  refine g_aload_n dX10_init_43 rfl ?_
  refine g_new dX10_init_44 nwX10_36 (by decide) rfl rfl (by decide) (z3 _ (by decide) (by decide)).1 (z3 _ (by decide) (by decide)).2.1 (z3 _ (by decide) (by decide)).2.2 (by decide) (by decide) ?_
  refine g_dup dX10_init_47 rfl ?_
  have w4 := n_town (b := 46) (wAd46) (z3.up (nx' := 70) (by decide) (fun _ _ => rfl) (fun _ _ => rfl))
  refine g_callNI (w4) okX7_init rfl lkX10_38 rfl dX10_init_48 rfl (Nat.le_of_ble_eq_true rfl) (⟨by decide, by decide, by decide, by decide⟩) ?_
  rintro v nx' I4 J4 P4 ⟨rfl, rfl, rfl, rfl, p4, to0, to1, to2, to3, to4, to5, to6, to7, to8, to9, to10⟩
  refine g_putP dX10_init_51 fdX10_39 rfl (fun _ => ⟨rfl, _, _, _, rfl, rfl⟩) (by first | rfl | exact pv_shx) (by omega) (by omega) (by decide) rfl (by first | exact Or.inl ⟨_, rfl⟩ | exact Or.inr ⟨_, rfl⟩) ?_
  have z4 : zz 81 (pvs I 47 (gr8 (I 47))) J4 (pvuP P4 46 5 (some 70)) := z3.up (by decide) (fun _ _ => rfl) (fun x hx => by rw [pvuP_ne (by omega), p4 x (by omega)])
  refine g_aload_n dX10_init_54 rfl ?_
  refine g_new dX10_init_55 nwX10_43 (by decide) rfl rfl (by decide) (z4 _ (by decide) (by decide)).1 (z4 _ (by decide) (by decide)).2.1 (z4 _ (by decide) (by decide)).2.2 (by decide) (by decide) ?_
  refine g_dup dX10_init_58 rfl ?_
  have w5 := n_law (b := 46) (wAd46) (z4.up (nx' := 82) (by decide) (fun _ _ => rfl) (fun _ _ => rfl))
  refine g_callNI (w5) okX5_init rfl lkX10_45 rfl dX10_init_59 rfl (Nat.le_of_ble_eq_true rfl) (⟨by decide, by decide, by decide, by decide⟩) ?_
  rintro v nx' I5 J5 P5 ⟨rfl, rfl, rfl, rfl, p5, la0, la1, la2⟩
  refine g_putP dX10_init_62 fdX10_46 rfl (fun _ => ⟨rfl, _, _, _, rfl, rfl⟩) (by first | rfl | exact pv_shx) (by omega) (by omega) (by decide) rfl (by first | exact Or.inl ⟨_, rfl⟩ | exact Or.inr ⟨_, rfl⟩) ?_
  have z5 : zz 85 (pvs I 47 (gr8 (I 47))) J5 (pvuP P5 46 6 (some 82)) := z4.up (by decide) (fun _ _ => rfl) (fun x hx => by rw [pvuP_ne (by omega), p5 x (by omega)])
  refine g_aload_n dX10_init_65 rfl ?_
  refine g_new dX10_init_66 nwX10_50 (by decide) rfl rfl (by decide) (z5 _ (by decide) (by decide)).1 (z5 _ (by decide) (by decide)).2.1 (z5 _ (by decide) (by decide)).2.2 (by decide) (by decide) ?_
  refine g_dup dX10_init_69 rfl ?_
  have w6 := n_walls (b := 46) (wAd46) (z5.up (nx' := 86) (by decide) (fun _ _ => rfl) (fun _ _ => rfl))
  refine g_callNI (w6) okX8_init rfl lkX10_52 rfl dX10_init_70 rfl (Nat.le_of_ble_eq_true rfl) (⟨by decide, by decide, by decide, by decide⟩) ?_
  rintro v nx' I6 J6 P6 ⟨rfl, rfl, rfl, rfl, p6, wa0, wa1⟩
  have fin : woQ 46 I J6 P none 88 (pvs (pvs I 47 (gr8 (I 47))) 86 (wl3 (I 86))) J6 (pvuP P6 46 7 (some 86)) := by
    refine ⟨rfl, rfl, rfl, rfl, fun x hx => ?_, fun i j a h => ?_⟩
    · rw [pvuP_ne (by omega), p6 x (by omega), pvuP_ne (by omega), p5 x (by omega), pvuP_ne (by omega), p4 x (by omega), pvuP_ne (by omega), p3 x (by omega), pvuP_ne (by omega), p2 x (by omega), pvuP_ne (by omega), p1 x (by omega), pvuP_ne (by omega)]
    · unfold pv_wP at h
      split at h <;> first | (cases h; done) | (cases h; simp [pvuP, va_up, gr0, gr1, gr2, gr3, gr4, p1, wo0, wo1, wo2, wo3, wo4, wo5, wo6, wo7, wo8, wo9, p2, kn0, kn1, kn2, kn3, kn4, kn5, p3, to0, to1, to2, to3, to4, to5, to6, to7, to8, to9, to10, p4, la0, la1, la2, p5, wa0, wa1, p6])
  refine g_putP dX10_init_73 fdX10_53 rfl (fun _ => ⟨rfl, _, _, _, rfl, rfl⟩) (by first | rfl | exact pv_shx) (by omega) (by omega) (by decide) rfl (by first | exact Or.inl ⟨_, rfl⟩ | exact Or.inr ⟨_, rfl⟩) ?_
  exact g_vret dX10_init_76 rfl (fin)
end WLD
