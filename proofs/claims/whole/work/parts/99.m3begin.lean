/-! the law: its beginning -/
section BEG
variable {nm : String} {Z : pvZT} {xs : Nat → Int32} {L w h : Nat} {I I1 I2 : pvI} {J J1 J2 : pvJ} {P P1 P2 : pvP}
theorem lw_first (hz : zz 0 I J P) (s0 : P 0 0 = some L) (e0 : ∀ j, I 0 j = xs j) (hw : 2 ≤ w ∧ w ≤ 8) (hh : 2 ≤ h ∧ h ≤ 8) {v1 v2 : Option Value} {n1 n2 : Nat} (q1 : sfQ w h I J P v1 n1 I1 J1 P1) (q2 : moQ w h I1 J1 P1 v2 n2 I2 J2 P2) : lwA xs L w h aZ (sp_fil aZ z0 8020) (fun _ => 0) 0 (fun _ => []) (-1) (-1) I2 J2 P2 := by
  obtain ⟨-, -, b1, b2, b3, b4, b5, b6, b7, b8, b9, b10, b11⟩ := q1
  obtain ⟨-, -, c1, c2, c3, c4, c5, c6, c7, c8, rfl, c10, c11⟩ := q2
  have zI : ∀ x, 0 < x → x ≤ 224 → I x = z0 := fun x y1 y2 => (hz x y1 y2).1
  have zJ : ∀ x, 0 < x → x ≤ 224 → J x = fun _ => 0 := fun x y1 y2 => (hz x y1 y2).2.1
  have e4 : I2 4 = gr8 z0 := by rw [c1 4 (by decide) (by decide) (by decide), b2, zI 4 (by decide) (by decide)]
  have e43 : I2 43 = wl3 z0 := by rw [c1 43 (by decide) (by decide) (by decide), b3, zI 43 (by decide) (by decide)]
  have e47 : I2 47 = gr8 z0 := by rw [c1 47 (by decide) (by decide) (by decide), b4, zI 47 (by decide) (by decide)]
  have e86 : I2 86 = wl3 z0 := by rw [c1 86 (by decide) (by decide) (by decide), b5, zI 86 (by decide) (by decide)]
  have e144 : I2 144 = rd3 z0 := by rw [c1 144 (by decide) (by decide) (by decide), b6, zI 144 (by decide) (by decide)]
  have eF : ∀ s, s ≤ 8 → I2 (90 + 6 * s) = fm z0 := fun s hs => by rw [c1 _ (by omega) (by omega) (by omega), b7 s hs, zI _ (by omega) (by omega)]
  have eI : ∀ x, 0 < x → x < 202 → x ≠ 2 → x ≠ 4 → x ≠ 43 → x ≠ 47 → x ≠ 86 → x ≠ 144 → (∀ s, s ≤ 8 → x ≠ 90 + 6 * s) → I2 x = z0 := fun x y1 y2 y3 y4 y5 y6 y7 y8 y9 => by rw [c1 x (by omega) (by omega) (by omega), b1 x y3 y4 y5 y6 y7 y8 y9, zI x y1 (by omega)]
  have eJ : ∀ x, 0 < x → x ≤ 224 → x ≠ 2 → J2 x = fun _ => 0 := fun x y1 y2 y3 => by rw [b9 x y3, zJ x y1 y2]
  have e203 : I1 203 = z0 := by rw [b1 203 (by decide) (by decide) (by decide) (by decide) (by decide) (by decide) (fun s hs => by omega), zI 203 (by decide) (by decide)]
  have e204 : I1 204 = z0 := by rw [b1 204 (by decide) (by decide) (by decide) (by decide) (by decide) (by decide) (fun s hs => by omega), zI 204 (by decide) (by decide)]
  have e202 : I1 202 = z0 := by rw [b1 202 (by decide) (by decide) (by decide) (by decide) (by decide) (by decide) (fun s hs => by omega), zI 202 (by decide) (by decide)]
  have hwh : w * h ≤ 64 := Nat.mul_le_mul hw.2 hh.2
  have c0 : cnt aZ 8 = 0 := aZ_c (by omega)
  have hp : pvOkP P2 := fun k j x hx => by
    by_cases k2 : k = 202
    · subst k2
      exact c11 j x hx
    · by_cases k3 : k < 202
      · rw [c10 k k2]; exact b11 k j x k3 hx
      · unfold pvPP at hx
        rw [if_neg k2, if_neg (by omega), if_neg (by omega), if_neg (by omega), if_neg (by omega), if_neg (by omega), if_neg (by omega), if_neg (by omega), if_neg (by omega), if_neg (by omega)] at hx
        cases hx
  refine ⟨⟨hp, by rw [c10 0 (by decide), b10 0 (Or.inl rfl)]; exact s0, fun j => by rw [c1 0 (by decide) (by decide) (by decide), b1 0 (by decide) (by decide) (by decide) (by decide) (by decide) (by decide) (fun s hs => by omega)]; exact e0 j⟩, ⟨⟨?_, rW_0 (fun k y1 y2 y3 => eI _ (by omega) (by omega) (by omega) (by omega) (by omega) (by omega) (by omega) (by omega) (fun s hs => by omega)) e4 e43 (fun k hk => eJ _ (by omega) (by omega) (by omega)), fun s hs => ?_, ?_, mInv_0⟩, (rW_0 (fun k y1 y2 y3 => eI _ (by omega) (by omega) (by omega) (by omega) (by omega) (by omega) (by omega) (by omega) (fun s hs => by omega)) e47 e86 (fun k hk => eJ _ (by omega) (by omega) (by omega))).fr (mInv_0 (w := w) (h := h)).1.1 hwh fil_ag, ⟨by rw [e144]; rfl, by decide, fun i hi => absurd hi (Nat.not_lt_zero i)⟩, ⟨by rw [e144]; rfl, by rw [e144]; rfl⟩, fun t ht => by rw [c0] at ht; exact absurd ht (Nat.not_lt_zero t), Or.inl (by rw [e43]; rfl)⟩, ⟨by rw [c7, e203]; rfl, by rw [c8, e203, e204]; rfl, ⟨c2, c3, hw, hh⟩, ⟨by rw [c6 17 (by decide) (by decide) (by decide) (by decide), e202]; rfl, by decide, fun i hi => absurd hi (Nat.not_lt_zero i)⟩, ⟨c4, c5⟩, fun t ht => by rw [c0] at ht; exact absurd ht (Nat.not_lt_zero t), Or.inl (by rw [c6 33 (by decide) (by decide) (by decide) (by decide), e202]; rfl)⟩, ⟨mInv_0, mInv_0.fr hwh fil_ag, by rw [fil_8]; exact Nat.le_refl _⟩⟩
  · obtain ⟨g1, g2, g3, g4, g5, g6⟩ := b8
    rw [← c1 2 (by decide) (by decide) (by decide)] at g1 g2 g3
    exact ⟨g1, g2, g3, g4, g5, g6, hw, hh⟩
  · unfold fad
    rw [eF s (by omega), eJ _ (by omega) (by omega) (by omega)]
    exact ⟨⟨rfl, rfl⟩, ⟨0, by decide, rfl, Or.inl rfl⟩, fun z => by rw [aZ_c (by omega)] at z; exact absurd z (Nat.not_lt_zero s)⟩
  · have := eF 8 (by decide)
    unfold rTri
    rw [show 138 = 90 + 6 * 8 from rfl, this, eJ _ (by omega) (by omega) (by omega)]
    exact ⟨rfl, rfl, 0, by decide, rfl, Or.inl rfl⟩
theorem lw_begin (hL : L ≤ 3074) (hz : zz 0 I J P) (s0 : P 0 0 = some L) (e0 : ∀ j, I 0 j = xs j) (hE : ∀ i I J P, pvG (mLw nm) room_1 Z 1495 [.ref 0, .ref 1, .ref 202, .int (nI i)] [] 224 90037 224 I J P) : pvG (mLw nm) room_1 Z 0 [.ref 0, .retAddr 0, .retAddr 0, .retAddr 0] [] 0 0 0 I J P := by
  have k0 := c_lcell (nx := 1) (J := J) hL (k := 0) (by decide) s0 e0
  have k1 := c_lcell (nx := 1) (J := J) hL (k := 1) (by decide) s0 e0
  generalize hwv : (if 0 < L then xs 0 else nI 0) = wv at k0
  generalize hhv : (if 1 < L then xs 1 else nI 0) = hv at k1
  have n1 := n_seam (I := I) (J := J) (P := P) (wv := wv) (hv := hv) (hz.up (by decide) (fun _ _ => rfl) (fun _ _ => rfl))
  refine g_new dL_law_0 nwL_7 (by decide) rfl rfl (by decide) (hz _ (by decide) (by decide)).1 (hz _ (by decide) (by decide)).2.1 (hz _ (by decide) (by decide)).2.2 (by decide) (by decide) ?_
  refine g_dup dL_law_3 rfl ?_
  refine g_aload_n dL_law_4 rfl ?_
  refine g_iconst (v := nI 0) dL_law_5 (by decide) ?_
  refine p_callS (k0) okL_cell lkL_9 rfl dL_law_6 rfl (Nat.le_of_ble_eq_true rfl) (⟨by decide, by decide, by decide, by decide⟩) ?_
  refine g_aload_n dL_law_9 rfl ?_
  refine g_iconst (v := nI 1) dL_law_10 (by decide) ?_
  refine p_callS (k1) okL_cell lkL_9 rfl dL_law_11 rfl (Nat.le_of_ble_eq_true rfl) (⟨by decide, by decide, by decide, by decide⟩) ?_
  refine g_callI (n1) okX11_init rfl lkL_15 rfl dL_law_14 rfl (Nat.le_of_ble_eq_true rfl) (⟨by decide, by decide, by decide, by decide⟩) ?_
  rintro v nx' I1 J1 P1 q1
  obtain ⟨rfl, rfl, b1, b2, b3, b4, b5, b6, b7, b8, b9, b10, b11⟩ := id q1
  have z1 : zz 201 I1 J1 P1 := fun x y1 y2 => by rw [b1 x (by omega) (by omega) (by omega) (by omega) (by omega) (by omega) (fun s hs => by omega), b9 x (by omega), b10 x (by omega)]; exact hz x (by omega) y2
  have s1 : P1 0 0 = some L := by rw [b10 0 (Or.inl rfl)]; exact s0
  have e1 : ∀ j, I1 0 j = xs j := fun j => by rw [b1 0 (by decide) (by decide) (by decide) (by decide) (by decide) (by decide) (fun s hs => by omega)]; exact e0 j
  have k2 := c_lcell (nx := 202) (J := J1) hL (k := 0) (by decide) s1 e1
  have k3 := c_lcell (nx := 202) (J := J1) hL (k := 1) (by decide) s1 e1
  rw [hwv] at k2
  rw [hhv] at k3
  have n2 := n_model (I := I1) (J := J1) (P := P1) (wv := wv) (hv := hv) (z1.up (by decide) (fun _ _ => rfl) (fun _ _ => rfl))
  refine g_astore_n dL_law_17 (show _ < 4 by decide) rfl ?_
  refine g_new dL_law_18 nwL_18 (by decide) rfl rfl (by decide) (z1 _ (by decide) (by decide)).1 (z1 _ (by decide) (by decide)).2.1 (z1 _ (by decide) (by decide)).2.2 (by decide) (by decide) ?_
  refine g_dup dL_law_21 rfl ?_
  refine g_aload_n dL_law_22 rfl ?_
  refine g_iconst (v := nI 0) dL_law_23 (by decide) ?_
  refine p_callS (k2) okL_cell lkL_9 rfl dL_law_24 rfl (Nat.le_of_ble_eq_true rfl) (⟨by decide, by decide, by decide, by decide⟩) ?_
  refine g_aload_n dL_law_27 rfl ?_
  refine g_iconst (v := nI 1) dL_law_28 (by decide) ?_
  refine p_callS (k3) okL_cell lkL_9 rfl dL_law_29 rfl (Nat.le_of_ble_eq_true rfl) (⟨by decide, by decide, by decide, by decide⟩) ?_
  refine g_callI (n2) okX12_init rfl lkL_20 rfl dL_law_32 rfl (Nat.le_of_ble_eq_true rfl) (⟨by decide, by decide, by decide, by decide⟩) ?_
  rintro v nx' I2 J2 P2 q2
  have hA := lw_first hz s0 e0 (dimN_b wv) (dimN_b hv) q1 q2
  obtain ⟨rfl, rfl, -⟩ := id q2
  refine g_astore_n dL_law_35 (show _ < 4 by decide) rfl ?_
  refine g_iconst (v := nI 2) dL_law_36 (by decide) ?_
  refine g_istore_n dL_law_37 (show _ < 4 by decide) rfl ?_
  exact lw_loop hL hE (L + 6) 2 (by omega) (by decide) _ _ _ _ _ _ _ _ _ _ hA
end BEG
