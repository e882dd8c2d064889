/-! class: the whole object is made -/
section SEB
variable {I : pvI} {J : pvJ} {P : pvP} {wv hv : Int32}
def rd3 (f : Nat → Int32) : Nat → Int32 := upd (upd f 2 (-1)) 3 (-1)
def sfQ (w h : Nat) (I : pvI) (J : pvJ) (P : pvP) : pvQT := fun v nx' I' J' P' => v = none ∧ nx' = 201 ∧
  (∀ x, x ≠ 2 → x ≠ 4 → x ≠ 43 → x ≠ 47 → x ≠ 86 → x ≠ 144 → (∀ s, s ≤ 8 → x ≠ 90 + 6 * s) → I' x = I x) ∧ I' 4 = gr8 (I 4) ∧ I' 43 = wl3 (I 43) ∧ I' 47 = gr8 (I 47) ∧ I' 86 = wl3 (I 86) ∧ I' 144 = rd3 (I 144) ∧ (∀ s, s ≤ 8 → I' (90 + 6 * s) = fm (I (90 + 6 * s))) ∧
  (I' 2 0 = nI w ∧ I' 2 1 = nI h ∧ I' 2 2 = nI (w * h) ∧ J' 2 3 = mk (fun c => decide (c < w * h)) ∧ J' 2 4 = mk (fun c => decide (c < w * h ∧ 0 < c % w)) ∧ J' 2 5 = mk (fun c => decide (c < w * h ∧ c % w + 1 < w))) ∧
  (∀ x, x ≠ 2 → J' x = J x) ∧ (∀ x, x = 0 ∨ 201 < x → P' x = P x) ∧ ∀ k j a, k < 202 → pvPP k j = some a → P' k j = some a
theorem n_seam (hz0 : zz 1 I J P) : pvMet mX11_init 3 200 12945 [.ref 1, .int wv, .int hv] 1 I J P (sfQ (dimN wv) (dimN hv) I J P) := by
  refine pvMet.of _ (by decide) rfl (Nat.le_of_ble_eq_true rfl) ?_
  refine g_aload_n dX11_init_0 rfl ?_
  refine g_objInit dX11_init_1 loX11_1 (by decide) (by decide) ?_
  refine g_aload_n dX11_init_4 rfl ?_
  refine g_new dX11_init_5 nwX11_7 (by decide) rfl rfl (by decide) (hz0 _ (by decide) (by decide)).1 (hz0 _ (by decide) (by decide)).2.1 (hz0 _ (by decide) (by decide)).2.2 (by decide) (by decide) ?_
  refine g_dup dX11_init_8 rfl ?_
  refine g_iconst (v := nI 2) dX11_init_9 (by decide) ?_
  refine g_bipush (v := nI 8) dX11_init_10 (by decide) ?_
  refine g_iload_n dX11_init_12 rfl ?_
  refine g_mmin dX11_init_13 lkX11_9 (by decide) (Nat.le_of_ble_eq_true rfl) (by decide) (by decide) (rfl) ?_
  refine g_mmax dX11_init_16 lkX11_15 (by decide) (Nat.le_of_ble_eq_true rfl) (by decide) (by decide) (dim_ok _) ?_
  refine g_iconst (v := nI 2) dX11_init_19 (by decide) ?_
  refine g_bipush (v := nI 8) dX11_init_20 (by decide) ?_
  refine g_iload_n dX11_init_22 rfl ?_
  refine g_mmin dX11_init_23 lkX11_9 (by decide) (Nat.le_of_ble_eq_true rfl) (by decide) (by decide) (rfl) ?_
  refine g_mmax dX11_init_26 lkX11_15 (by decide) (Nat.le_of_ble_eq_true rfl) (by decide) (by decide) (dim_ok _) ?_
  have w1 := n_grid (I := I) (J := J) (P := P) (dimN_b wv) (dimN_b hv)
  refine g_callI (w1) okX2_init rfl lkX11_18 rfl dX11_init_29 rfl (Nat.le_of_ble_eq_true rfl) (⟨by decide, by decide, by decide, by decide⟩) ?_
  rintro v nx' I1 J1 P1 ⟨rfl, rfl, rfl, g4, g5⟩
  refine g_putP dX11_init_32 fdX11_21 rfl (fun _ => ⟨rfl, _, _, _, rfl, rfl⟩) (by first | rfl | exact pv_shx) (by omega) (by omega) (by decide) rfl (by first | exact Or.inl ⟨_, rfl⟩ | exact Or.inr ⟨_, rfl⟩) ?_
  have z1 : zz 2 I1 J1 (pvuP P1 1 0 (some 2)) := fun x y1 y2 => by rw [(g4 x (by omega)).1, (g4 x (by omega)).2, pvuP_ne (by omega)]; exact hz0 x (by omega) y2
  refine g_aload_n dX11_init_35 rfl ?_
  refine g_new dX11_init_36 nwX11_27 (by decide) rfl rfl (by decide) (z1 _ (by decide) (by decide)).1 (z1 _ (by decide) (by decide)).2.1 (z1 _ (by decide) (by decide)).2.2 (by decide) (by decide) ?_
  refine g_dup dX11_init_39 rfl ?_
  refine g_aload_n dX11_init_40 rfl ?_
  refine g_getP dX11_init_41 fdX11_21 rfl (by first | rfl | exact pv_shx) (by omega) (by omega) (by decide) rfl (rfl) ?_
  have w2 := n_world3 (z1.up (nx' := 3) (by decide) (fun _ _ => rfl) (fun _ _ => rfl))
  refine g_callI (w2) okX10_init rfl lkX11_29 rfl dX11_init_44 rfl (Nat.le_of_ble_eq_true rfl) (⟨by decide, by decide, by decide, by decide⟩) ?_
  rintro v nx' I2 J2 P2 ⟨rfl, rfl, rfl, rfl, p2, q2⟩
  refine g_putP dX11_init_47 fdX11_32 rfl (fun _ => ⟨rfl, _, _, _, rfl, rfl⟩) (by first | rfl | exact pv_shx) (by omega) (by omega) (by decide) rfl (by first | exact Or.inl ⟨_, rfl⟩ | exact Or.inr ⟨_, rfl⟩) ?_
  have hp56 : (pvuP P2 1 1 (some 3)) 1 0 = some 2 := by simp [pvuP, va_up, p2]
  have z2 : zz 45 (pvs (pvs I1 4 (gr8 (I1 4))) 43 (wl3 (I1 43))) J2 (pvuP P2 1 1 (some 3)) := z1.up (by decide) (fun x hx => by rw [pvs_ne (by omega), pvs_ne (by omega)]) (fun x hx => by rw [pvuP_ne (by omega), p2 x (by omega)])
  refine g_aload_n dX11_init_50 rfl ?_
  refine g_new dX11_init_51 nwX11_27 (by decide) rfl rfl (by decide) (z2 _ (by decide) (by decide)).1 (z2 _ (by decide) (by decide)).2.1 (z2 _ (by decide) (by decide)).2.2 (by decide) (by decide) ?_
  refine g_dup dX11_init_54 rfl ?_
  refine g_aload_n dX11_init_55 rfl ?_
  refine g_getP dX11_init_56 fdX11_21 rfl (by first | rfl | exact pv_shx) (by omega) (by omega) (by decide) rfl (hp56) ?_
  have w3 := n_world46 (z2.up (nx' := 46) (by decide) (fun _ _ => rfl) (fun _ _ => rfl))
  refine g_callI (w3) okX10_init rfl lkX11_29 rfl dX11_init_59 rfl (Nat.le_of_ble_eq_true rfl) (⟨by decide, by decide, by decide, by decide⟩) ?_
  rintro v nx' I3 J3 P3 ⟨rfl, rfl, rfl, rfl, p3, q3⟩
  refine g_putP dX11_init_62 fdX11_36 rfl (fun _ => ⟨rfl, _, _, _, rfl, rfl⟩) (by first | rfl | exact pv_shx) (by omega) (by omega) (by decide) rfl (by first | exact Or.inl ⟨_, rfl⟩ | exact Or.inr ⟨_, rfl⟩) ?_
  have z3a : zz 88 (pvs (pvs (pvs (pvs I1 4 (gr8 (I1 4))) 43 (wl3 (I1 43))) 47 (gr8 (I1 47))) 86 (wl3 (I1 86))) J3 (pvuP P3 1 2 (some 46)) := z2.up (by decide) (fun x hx => by rw [pvs_ne (by omega), pvs_ne (by omega)]) (fun x hx => by rw [pvuP_ne (by omega), p3 x (by omega)])
  refine g_aload_n dX11_init_65 rfl ?_
  refine g_bipush (v := nI 8) dX11_init_66 (by decide) ?_
  refine g_anewF dX11_init_68 clX11_39 rfl (by decide) (by decide) (z3a _ (by decide) (by decide)).2.2 (by decide) (by decide) ?_
  refine g_putP dX11_init_71 fdX11_41 rfl (fun _ => ⟨rfl, _, _, _, rfl, rfl⟩) (by first | rfl | exact pv_shx) (by omega) (by omega) (by decide) rfl (by first | exact Or.inl ⟨_, rfl⟩ | exact Or.inr ⟨_, rfl⟩) ?_
  have z3 : zz 89 (pvs (pvs (pvs (pvs I1 4 (gr8 (I1 4))) 43 (wl3 (I1 43))) 47 (gr8 (I1 47))) 86 (wl3 (I1 86))) J3 (pvuP (pvuP P3 1 2 (some 46)) 1 3 (some 89)) := z3a.up (by decide) (fun _ _ => rfl) (fun x hx => pvuP_ne (by omega))
  refine g_iconst (v := nI 0) dX11_init_74 (by decide) ?_
  refine g_istore_n dX11_init_75 (by decide) rfl ?_
  refine n_fires rfl z3 (by decide) (by decide) (fun I4 P4 h4 => ?_)
  obtain ⟨f1, f2, d3, d4⟩ := h4
  have z4 : zz 137 I4 J3 P4 := z3.up (by decide) (fun x hx => f1 x (fun s hs => by omega)) (fun x hx => d3 x (by omega) (fun s hs => by omega))
  refine g_aload_n dX11_init_101 rfl ?_
  refine g_new dX11_init_102 nwX11_39 (by decide) rfl rfl (by decide) (z4 _ (by decide) (by decide)).1 (z4 _ (by decide) (by decide)).2.1 (z4 _ (by decide) (by decide)).2.2 (by decide) (by decide) ?_
  refine g_dup dX11_init_105 rfl ?_
  have w5 := n_fire (F := 138) ⟨8, by decide, rfl⟩ (z4.up (nx' := 138) (by decide) (fun _ _ => rfl) (fun _ _ => rfl))
  refine g_callNI (w5) okX1_init rfl lkX11_45 rfl dX11_init_106 rfl (Nat.le_of_ble_eq_true rfl) (⟨by decide, by decide, by decide, by decide⟩) ?_
  rintro v nx' I5 J5 P5 ⟨rfl, rfl, rfl, rfl, p5, r5⟩
  refine g_putP dX11_init_109 fdX11_46 rfl (fun _ => ⟨rfl, _, _, _, rfl, rfl⟩) (by first | rfl | exact pv_shx) (by omega) (by omega) (by decide) rfl (by first | exact Or.inl ⟨_, rfl⟩ | exact Or.inr ⟨_, rfl⟩) ?_
  have z5 : zz 143 (pvs I4 138 (fm (I4 138))) J5 (pvuP P5 1 4 (some 138)) := z4.up (by decide) (fun x hx => pvs_ne (by omega)) (fun x hx => by rw [pvuP_ne (by omega), p5 x (by omega)])
  refine g_aload_n dX11_init_112 rfl ?_
  refine g_new dX11_init_113 nwX11_50 (by decide) rfl rfl (by decide) (z5 _ (by decide) (by decide)).1 (z5 _ (by decide) (by decide)).2.1 (z5 _ (by decide) (by decide)).2.2 (by decide) (by decide) ?_
  refine g_dup dX11_init_116 rfl ?_
  have w6 := n_reader (z5.up (nx' := 144) (by decide) (fun _ _ => rfl) (fun _ _ => rfl))
  refine g_callNI (w6) okX6_init rfl lkX11_52 rfl dX11_init_117 rfl (Nat.le_of_ble_eq_true rfl) (⟨by decide, by decide, by decide, by decide⟩) ?_
  rintro v nx' I6 J6 P6 ⟨rfl, rfl, rfl, rfl, p6, r60, r64, r65⟩
  refine g_putP dX11_init_120 fdX11_53 rfl (fun _ => ⟨rfl, _, _, _, rfl, rfl⟩) (by first | rfl | exact pv_shx) (by omega) (by omega) (by decide) rfl (by first | exact Or.inl ⟨_, rfl⟩ | exact Or.inr ⟨_, rfl⟩) ?_
  have z6a : zz 147 (pvs (pvs I4 138 (fm (I4 138))) 144 (rd3 (I4 144))) J6 (pvuP P6 1 5 (some 144)) := z5.up (by decide) (fun x hx => pvs_ne (by omega)) (fun x hx => by rw [pvuP_ne (by omega), p6 x (by omega)])
  refine g_aload_n dX11_init_123 rfl ?_
  refine g_bipush (v := nI 10) dX11_init_124 (by decide) ?_
  refine g_anewA dX11_init_126 clX11_57 rfl (by decide) (by decide) (z6a _ (by decide) (by decide)).2.2 (by decide) (by decide) ?_
  refine g_putP dX11_init_129 fdX11_59 rfl (fun _ => ⟨rfl, _, _, _, rfl, rfl⟩) (by first | rfl | exact pv_shx) (by omega) (by omega) (by decide) rfl (by first | exact Or.inl ⟨_, rfl⟩ | exact Or.inr ⟨_, rfl⟩) ?_
  have z6 : zz 148 (pvs (pvs I4 138 (fm (I4 138))) 144 (rd3 (I4 144))) J6 (pvuP (pvuP P6 1 5 (some 144)) 1 6 (some 148)) := z6a.up (by decide) (fun _ _ => rfl) (fun x hx => pvuP_ne (by omega))
  refine g_iconst (v := nI 0) dX11_init_132 (by decide) ?_
  refine g_istore_n dX11_init_133 (by decide) rfl ?_
  refine n_acts rfl z6 (by decide) (by decide) (fun P8 h8 => ?_)
  obtain ⟨a1, a4⟩ := h8
  have hz : zz 198 (pvs (pvs I4 138 (fm (I4 138))) 144 (rd3 (I4 144))) J6 P8 := z6.up (by decide) (fun _ _ => rfl) (fun x hx => a1 x (by omega) (fun s hs => by omega))
  refine g_aload_n dX11_init_159 rfl ?_
  refine g_bipush (v := nI 8) dX11_init_160 (by decide) ?_
  refine g_newI dX11_init_162 (rfl) (by decide) (by omega) (by first | exact (hz _ (by omega) (by omega)).1 | (rw [pvs_ne (by omega)]; exact (hz _ (by omega) (by omega)).1)) (by decide) (by decide) ?_
  refine g_putP dX11_init_164 fdX11_64 rfl (fun _ => ⟨rfl, _, _, _, rfl, rfl⟩) (by first | rfl | exact pv_shx) (by omega) (by omega) (by decide) rfl (by first | exact Or.inl ⟨_, rfl⟩ | exact Or.inr ⟨_, rfl⟩) ?_
  refine g_aload_n dX11_init_167 rfl ?_
  refine g_sipush (v := nI 300) dX11_init_168 (by decide) ?_
  refine g_newI dX11_init_171 (rfl) (by decide) (by omega) (by first | exact (hz _ (by omega) (by omega)).1 | (rw [pvs_ne (by omega)]; exact (hz _ (by omega) (by omega)).1)) (by decide) (by decide) ?_
  refine g_putP dX11_init_173 fdX11_68 rfl (fun _ => ⟨rfl, _, _, _, rfl, rfl⟩) (by first | rfl | exact pv_shx) (by omega) (by omega) (by decide) rfl (by first | exact Or.inl ⟨_, rfl⟩ | exact Or.inr ⟨_, rfl⟩) ?_
  refine g_aload_n dX11_init_176 rfl ?_
  refine g_bipush (v := nI 60) dX11_init_177 (by decide) ?_
  refine g_newZ dX11_init_179 (rfl) (by decide) (by omega) (by first | exact (hz _ (by omega) (by omega)).1 | (rw [pvs_ne (by omega)]; exact (hz _ (by omega) (by omega)).1)) (by decide) (by decide) ?_
  refine g_putP dX11_init_181 fdX11_73 rfl (fun _ => ⟨rfl, _, _, _, rfl, rfl⟩) (by first | rfl | exact pv_shx) (by omega) (by omega) (by decide) rfl (by first | exact Or.inl ⟨_, rfl⟩ | exact Or.inr ⟨_, rfl⟩) ?_
  have fin : sfQ (dimN wv) (dimN hv) I J P1 none 201 (pvs (pvs I4 138 (fm (I4 138))) 144 (rd3 (I4 144))) J6 (pvuP (pvuP (pvuP P8 1 7 (some 199)) 1 8 (some 200)) 1 9 (some 201)) := by
    have d1 : ∀ x, x ≠ 89 → (∀ s, s < 8 → x ≠ 90 + 6 * s) → x ≠ 1 → P4 x = P3 x := fun x y1 y2 y3 => by rw [d3 x y1 y2, pvuP_ne y3, pvuP_ne y3]
    refine ⟨rfl, rfl, fun x y2 y4 y43 y47 y86 y144 yf => ?_, ?_, ?_, ?_, ?_, ?_, fun s hs => ?_, ?_, fun x hx => (g4 x hx).2, fun x hx => ?_, fun k j a hk hp => ?_⟩
    · rw [pvs_ne y144, pvs_ne (yf 8 (by decide)), f1 x (fun s hs => yf s (by omega)), pvs_ne y86, pvs_ne y47, pvs_ne y43, pvs_ne y4]
      exact (g4 x y2).1
    · rw [pvs_ne (by decide), pvs_ne (by decide), f1 4 (fun s hs => by omega), pvs_ne (by decide), pvs_ne (by decide), pvs_ne (by decide), pvs_eq, (g4 4 (by decide)).1]
    · rw [pvs_ne (by decide), pvs_ne (by decide), f1 43 (fun s hs => by omega), pvs_ne (by decide), pvs_ne (by decide), pvs_eq, (g4 43 (by decide)).1]
    · rw [pvs_ne (by decide), pvs_ne (by decide), f1 47 (fun s hs => by omega), pvs_ne (by decide), pvs_eq, pvs_ne (by decide), pvs_ne (by decide), (g4 47 (by decide)).1]
    · rw [pvs_ne (by decide), pvs_ne (by decide), f1 86 (fun s hs => by omega), pvs_eq, pvs_ne (by decide), pvs_ne (by decide), (g4 86 (by decide)).1]
    · rw [pvs_eq, f1 144 (fun s hs => by omega), pvs_ne (by decide), pvs_ne (by decide), pvs_ne (by decide), pvs_ne (by decide), (g4 144 (by decide)).1]
    · rw [pvs_ne (by omega)]
      by_cases e : s = 8
      · subst e
        rw [show 90 + 6 * 8 = 138 from rfl, pvs_eq, f1 138 (fun s hs => by omega), pvs_ne (by decide), pvs_ne (by decide), pvs_ne (by decide), pvs_ne (by decide), (g4 138 (by decide)).1]
      · rw [pvs_ne (by omega), f2 s (by omega), pvs_ne (by omega), pvs_ne (by omega), pvs_ne (by omega), pvs_ne (by omega), (g4 _ (by omega)).1]
    · rw [pvs_ne (by decide), pvs_ne (by decide), f1 2 (fun s hs => by omega), pvs_ne (by decide), pvs_ne (by decide), pvs_ne (by decide), pvs_ne (by decide)]
      exact g5
    · rw [pvuP_ne (by omega), pvuP_ne (by omega), pvuP_ne (by omega), a1 x (by omega) (fun s hs => by omega), pvuP_ne (by omega), pvuP_ne (by omega), p6 x (by omega), pvuP_ne (by omega), p5 x (by omega), d1 x (by omega) (fun s hs => by omega) (by omega), p3 x (by omega), pvuP_ne (by omega), p2 x (by omega), pvuP_ne (by omega)]
    · have far : ∀ x, x < 89 → x ≠ 1 → (pvuP (pvuP (pvuP P8 1 7 (some 199)) 1 8 (some 200)) 1 9 (some 201)) x = P3 x := fun x h1 h2 => by
        rw [pvuP_ne h2, pvuP_ne h2, pvuP_ne h2, a1 x (by omega) (fun s hs => by omega), pvuP_ne h2, pvuP_ne h2, p6 x (by omega), pvuP_ne h2, p5 x (by omega), d1 x (by omega) (fun s hs => by omega) h2]
      have mid : ∀ x, 89 ≤ x → x < 144 → (pvuP (pvuP (pvuP P8 1 7 (some 199)) 1 8 (some 200)) 1 9 (some 201)) x = P5 x := fun x h1 h2 => by
        rw [pvuP_ne (by omega), pvuP_ne (by omega), pvuP_ne (by omega), a1 x (by omega) (fun s hs => by omega), pvuP_ne (by omega), pvuP_ne (by omega), p6 x (by omega), pvuP_ne (by omega)]
      unfold pvPP at hp
      rw [if_neg (by omega)] at hp
      by_cases k1 : k = 1
      · rw [if_pos k1] at hp
        subst k1
        have a1' := a1 1 (by decide) (fun s hs => by omega)
        have p6' := p6 1 (by decide)
        have p5' := p5 1 (by decide)
        have d1' := d3 1 (by decide) (fun s hs => by omega)
        have p3' := p3 1 (by omega)
        have p2' := p2 1 (by omega)
        unfold pv_sP at hp
        split at hp <;> first | (cases hp; done) | (cases hp; simp [pvuP, va_up, a1', p6', p5', d1', p3', p2'])
      rw [if_neg k1] at hp
      by_cases k2 : k = 144
      · rw [if_pos k2] at hp
        subst k2
        rw [pvuP_ne (by omega), pvuP_ne (by omega), pvuP_ne (by omega), a1 144 (by omega) (fun s hs => by omega), pvuP_ne (by omega), pvuP_ne (by omega)]
        unfold pv_tP at hp
        split at hp <;> first | (cases hp; done) | (cases hp; assumption)
      rw [if_neg k2] at hp
      by_cases k3 : k < 3
      · rw [if_pos k3] at hp; cases hp
      rw [if_neg k3] at hp
      by_cases k4 : k < 46
      · rw [if_pos k4] at hp
        rw [far k (by omega) k1, p3 k (by omega), pvuP_ne k1]
        have := q2 _ _ _ hp
        rw [show 3 + (k - 3) = k by omega] at this
        exact this
      rw [if_neg k4] at hp
      by_cases k5 : k < 89
      · rw [if_pos k5] at hp
        rw [far k (by omega) k1]
        have := q3 _ _ _ hp
        rw [show 46 + (k - 46) = k by omega] at this
        exact this
      rw [if_neg k5] at hp
      by_cases k6 : k = 89
      · rw [if_pos k6] at hp
        subst k6
        by_cases j8 : j < 8
        · rw [if_pos j8] at hp
          cases hp
          rw [mid 89 (by omega) (by omega), p5 89 (by omega)]
          exact (d4 j j8).1
        · rw [if_neg j8] at hp; cases hp
      rw [if_neg k6] at hp
      by_cases k7 : k < 144
      · rw [if_pos k7] at hp
        by_cases c : (k - 90) % 6 = 0 ∧ 10 ≤ j ∧ j ≤ 14
        · rw [if_pos c] at hp
          cases hp
          obtain ⟨c1, c2, c3⟩ := c
          rw [mid k (by omega) (by omega)]
          obtain ⟨s, rfl⟩ : ∃ s, k = 90 + 6 * s := ⟨(k - 90) / 6, by omega⟩
          by_cases e : s = 8
          · subst e
            obtain rfl | rfl | rfl | rfl | rfl : j = 10 ∨ j = 11 ∨ j = 12 ∨ j = 13 ∨ j = 14 := by omega
            · exact r5.1
            · exact r5.2.1
            · exact r5.2.2.1
            · exact r5.2.2.2.1
            · exact r5.2.2.2.2
          · have hs : s < 8 := by omega
            have := (d4 s hs).2
            rw [p5 _ (by omega)]
            obtain rfl | rfl | rfl | rfl | rfl : j = 10 ∨ j = 11 ∨ j = 12 ∨ j = 13 ∨ j = 14 := by omega
            · exact this.1
            · exact this.2.1
            · exact this.2.2.1
            · exact this.2.2.2.1
            · exact this.2.2.2.2
        · rw [if_neg c] at hp; cases hp
      rw [if_neg k7] at hp
      by_cases k8 : k = 148
      · rw [if_pos k8] at hp
        subst k8
        by_cases j8 : j < 10
        · rw [if_pos j8] at hp
          cases hp
          rw [pvuP_ne (by omega), pvuP_ne (by omega), pvuP_ne (by omega)]
          exact (a4 j j8).1
        · rw [if_neg j8] at hp; cases hp
      rw [if_neg k8] at hp
      by_cases k9 : k < 199
      · rw [if_pos k9] at hp
        by_cases c : (k - 149) % 5 = 0 ∧ 149 ≤ k ∧ 2 ≤ j ∧ j ≤ 5
        · rw [if_pos c] at hp
          cases hp
          obtain ⟨c1, c0, c2, c3⟩ := c
          rw [pvuP_ne (by omega), pvuP_ne (by omega), pvuP_ne (by omega)]
          obtain ⟨s, rfl⟩ : ∃ s, k = 149 + 5 * s := ⟨(k - 149) / 5, by omega⟩
          have hs : s < 10 := by omega
          have := (a4 s hs).2
          obtain rfl | rfl | rfl | rfl : j = 2 ∨ j = 3 ∨ j = 4 ∨ j = 5 := by omega
          · exact this.1
          · exact this.2.1
          · exact this.2.2.1
          · exact this.2.2.2
        · rw [if_neg c] at hp; cases hp
      · rw [if_neg k9] at hp; cases hp
  exact g_vret dX11_init_184 rfl (fin)
end SEB
