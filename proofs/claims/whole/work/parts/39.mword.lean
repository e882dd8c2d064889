/-! model: what a token is -/
abbrev sh8 (x : Int64) : Int64 := x <<< ((nI 8).toInt64 &&& 63)
abbrev w3L (a b c : Int32) : Int64 := sh8 (sh8 a.toInt64 ||| b.toInt64) ||| c.toInt64
theorem t_w3 {nx : Nat} {I : pvI} {J : pvJ} {P : pvP} {a b c : Int32} {v : Int64} (h : w3L a b c = v) : pvMet mX12_w3 0 0 0 [.int a, .int b, .int c] nx I J P (pvpu (.long v) nx I J P) := by
  subst h
  refine pvMet.of _ (by decide) rfl (Nat.le_of_ble_eq_true rfl) ?_
  refine g_iload_n dX12_w3_0 rfl ?_
  refine n_i2l dX12_w3_1 (rfl) ?_
  refine g_bipush (v := nI 8) dX12_w3_2 (by decide) ?_
  refine n_lshl dX12_w3_4 (rfl) ?_
  refine g_iload_n dX12_w3_5 rfl ?_
  refine n_i2l dX12_w3_6 (rfl) ?_
  refine n_lor dX12_w3_7 (rfl) ?_
  refine g_bipush (v := nI 8) dX12_w3_8 (by decide) ?_
  refine n_lshl dX12_w3_10 (rfl) ?_
  refine g_iload_n dX12_w3_11 rfl ?_
  refine n_i2l dX12_w3_12 (rfl) ?_
  refine n_lor dX12_w3_13 (rfl) ?_
  exact g_lret dX12_w3_14 rfl (⟨rfl, rfl, rfl, rfl, rfl⟩)
theorem t_w4 {nx : Nat} {I : pvI} {J : pvJ} {P : pvP} {a b c d : Int32} {v : Int64} (h : sh8 (w3L a b c) ||| d.toInt64 = v) : pvMet mX12_w4 1 0 0 [.int a, .int b, .int c, .int d] nx I J P (pvpu (.long v) nx I J P) := by
  subst h
  refine pvMet.of _ (by decide) rfl (Nat.le_of_ble_eq_true rfl) ?_
  refine g_iload_n dX12_w4_0 rfl ?_
  refine g_iload_n dX12_w4_1 rfl ?_
  refine g_iload_n dX12_w4_2 rfl ?_
  refine p_callS (t_w3 rfl) okX12_w3 lkX12_211 rfl dX12_w4_3 rfl (Nat.le_of_ble_eq_true rfl) (⟨by decide, by decide, by decide, by decide⟩) ?_
  refine g_bipush (v := nI 8) dX12_w4_6 (by decide) ?_
  refine n_lshl dX12_w4_8 (rfl) ?_
  refine g_iload_n dX12_w4_9 rfl ?_
  refine n_i2l dX12_w4_10 (rfl) ?_
  refine n_lor dX12_w4_11 (rfl) ?_
  exact g_lret dX12_w4_12 rfl (⟨rfl, rfl, rfl, rfl, rfl⟩)
theorem t_w5 {nx : Nat} {I : pvI} {J : pvJ} {P : pvP} {a b c d e : Int32} {v : Int64} (h : sh8 (sh8 (w3L a b c) ||| d.toInt64) ||| e.toInt64 = v) : pvMet mX12_w5 1 0 0 [.int a, .int b, .int c, .int d, .int e] nx I J P (pvpu (.long v) nx I J P) := by
  subst h
  refine pvMet.of _ (by decide) rfl (Nat.le_of_ble_eq_true rfl) ?_
  refine g_iload_n dX12_w5_0 rfl ?_
  refine g_iload_n dX12_w5_1 rfl ?_
  refine g_iload_n dX12_w5_2 rfl ?_
  refine p_callS (t_w3 rfl) okX12_w3 lkX12_211 rfl dX12_w5_3 rfl (Nat.le_of_ble_eq_true rfl) (⟨by decide, by decide, by decide, by decide⟩) ?_
  refine g_bipush (v := nI 8) dX12_w5_6 (by decide) ?_
  refine n_lshl dX12_w5_8 (rfl) ?_
  refine g_iload_n dX12_w5_9 rfl ?_
  refine n_i2l dX12_w5_10 (rfl) ?_
  refine n_lor dX12_w5_11 (rfl) ?_
  refine g_bipush (v := nI 8) dX12_w5_12 (by decide) ?_
  refine n_lshl dX12_w5_14 (rfl) ?_
  refine g_iload dX12_w5_15 rfl ?_
  refine n_i2l dX12_w5_17 (rfl) ?_
  refine n_lor dX12_w5_18 (rfl) ?_
  exact g_lret dX12_w5_19 rfl (⟨rfl, rfl, rfl, rfl, rfl⟩)
theorem t_w6 {nx : Nat} {I : pvI} {J : pvJ} {P : pvP} {a b c d e f : Int32} {v : Int64} (h : sh8 (sh8 (sh8 (w3L a b c) ||| d.toInt64) ||| e.toInt64) ||| f.toInt64 = v) : pvMet mX12_w6 2 0 0 [.int a, .int b, .int c, .int d, .int e, .int f] nx I J P (pvpu (.long v) nx I J P) := by
  subst h
  refine pvMet.of _ (by decide) rfl (Nat.le_of_ble_eq_true rfl) ?_
  refine g_iload_n dX12_w6_0 rfl ?_
  refine g_iload_n dX12_w6_1 rfl ?_
  refine g_iload_n dX12_w6_2 rfl ?_
  refine g_iload_n dX12_w6_3 rfl ?_
  refine g_iload dX12_w6_4 rfl ?_
  refine p_callS (t_w5 rfl) okX12_w5 lkX12_215 rfl dX12_w6_6 rfl (Nat.le_of_ble_eq_true rfl) (⟨by decide, by decide, by decide, by decide⟩) ?_
  refine g_bipush (v := nI 8) dX12_w6_9 (by decide) ?_
  refine n_lshl dX12_w6_11 (rfl) ?_
  refine g_iload dX12_w6_12 rfl ?_
  refine n_i2l dX12_w6_14 (rfl) ?_
  refine n_lor dX12_w6_15 (rfl) ?_
  exact g_lret dX12_w6_16 rfl (⟨rfl, rfl, rfl, rfl, rfl⟩)
theorem nIne {a b : Nat} (ha : a < 2 ^ 31) (hb : b < 2 ^ 31) (h : a ≠ b) : ¬ nI a = nI b := fun z => h ((nI_eq ha hb).mp z)
section TK
variable {t nu : Int32} {wd : Int64} {T : Nat}
theorem tokR_w (h : tokR t nu wd T) {j : Nat} (hj : j < 15) : (t = nI 2 ∧ wd = lN (wdN j)) ↔ T = 200 + j := by
  rcases h with ⟨h1, h2⟩ | ⟨h1, h2⟩ | ⟨h1, h2, h3⟩ | ⟨h1, h2⟩ | ⟨h1, h2⟩ | ⟨h1, h2⟩ | ⟨i, h1, h2, h3, h4⟩ | ⟨v, h1, h2, h3, h4⟩
  · subst h1 h2; exact ⟨fun z => absurd z.1 (by decide), fun z => by omega⟩
  · subst h1 h2; exact ⟨fun z => absurd z.1 (by decide), fun z => by omega⟩
  · subst h1 h2; exact ⟨fun z => absurd z.2 (h3 j hj), fun z => by omega⟩
  · subst h1 h2; exact ⟨fun z => absurd z.1 (by decide), fun z => by omega⟩
  · subst h1 h2; exact ⟨fun z => absurd z.1 (by decide), fun z => by omega⟩
  · subst h2
    have := sg_lt h1
    refine ⟨fun z => ?_, fun z => by omega⟩
    have h3 := (nI_eq (by omega) (by decide)).mp z.1
    rw [h3] at h1
    exact absurd h1 (by decide)
  · subst h2 h3 h4
    constructor
    · intro z
      have := (wdN_inj i h1 j hj ((lN_eq64 (by have := (wdN_lt i h1).1; omega) (by have := (wdN_lt j hj).1; omega)).mp z.2))
      rw [this]
    · intro z
      obtain rfl : i = j := by omega
      exact ⟨rfl, rfl⟩
  · subst h2 h4; exact ⟨fun z => absurd z.1 (by decide), fun z => by omega⟩
theorem tokR_s (h : tokR t nu wd T) {x : Nat} (hx : isSg x = true) : t = nI x ↔ T = x := by
  have hx2 := sg_lt hx
  have hx3 : 35 ≤ x := by unfold isSg at hx; rw [decide_eq_true_iff] at hx; omega
  rcases h with ⟨h1, h2⟩ | ⟨h1, h2⟩ | ⟨h1, h2, h3⟩ | ⟨h1, h2⟩ | ⟨h1, h2⟩ | ⟨h1, h2⟩ | ⟨i, h1, h2, h3, h4⟩ | ⟨v, h1, h2, h3, h4⟩
  · subst h1 h2; exact ⟨fun z => absurd z (nIne (by omega) (by omega) (by omega)), fun z => by omega⟩
  · subst h1 h2; exact ⟨fun z => absurd z (nIne (by omega) (by omega) (by omega)), fun z => by omega⟩
  · subst h1 h2; exact ⟨fun z => absurd z (nIne (by omega) (by omega) (by omega)), fun z => by omega⟩
  · subst h1 h2; exact ⟨fun z => absurd z (nIne (by omega) (by omega) (by omega)), fun z => by omega⟩
  · subst h1 h2; exact ⟨fun z => absurd z (nIne (by omega) (by omega) (by omega)), fun z => by omega⟩
  · subst h2
    have := sg_lt h1
    exact nI_eq (by omega) (by omega)
  · subst h2 h3; exact ⟨fun z => absurd z (nIne (by omega) (by omega) (by omega)), fun z => by omega⟩
  · subst h2 h4; exact ⟨fun z => absurd z (nIne (by omega) (by omega) (by omega)), fun z => by omega⟩
/-- the tokens that are no sign of one byte: 0, 4, 5 -/
theorem tokR_o (h : tokR t nu wd T) : (t = nI 0 ↔ T = 0) ∧ (t = nI 4 ↔ T = 2) ∧ (t = nI 5 ↔ T = 3) ∧ (t = nI 1 ↔ 1000 ≤ T) := by
  rcases h with ⟨h1, h2⟩ | ⟨h1, h2⟩ | ⟨h1, h2, h3⟩ | ⟨h1, h2⟩ | ⟨h1, h2⟩ | ⟨h1, h2⟩ | ⟨i, h1, h2, h3, h4⟩ | ⟨v, h1, h2, h3, h4⟩
  · subst h1 h2; decide
  · subst h1 h2; decide
  · subst h1 h2; decide
  · subst h1 h2; decide
  · subst h1 h2; decide
  · subst h2
    have h5 := sg_lt h1
    have h6 : 35 ≤ T := by unfold isSg at h1; rw [decide_eq_true_iff] at h1; omega
    refine ⟨(nI_eq (by omega) (by omega)).trans ⟨fun z => by omega, fun z => by omega⟩, (nI_eq (by omega) (by omega)).trans ⟨fun z => by omega, fun z => by omega⟩, (nI_eq (by omega) (by omega)).trans ⟨fun z => by omega, fun z => by omega⟩, (nI_eq (by omega) (by omega)).trans ⟨fun z => by omega, fun z => by omega⟩⟩
  · subst h2 h3
    refine ⟨⟨fun z => absurd z (by decide), fun z => by omega⟩, ⟨fun z => absurd z (by decide), fun z => by omega⟩, ⟨fun z => absurd z (by decide), fun z => by omega⟩, ⟨fun z => absurd z (by decide), fun z => by omega⟩⟩
  · subst h2 h4
    refine ⟨⟨fun z => absurd z (by decide), fun z => by omega⟩, ⟨fun z => absurd z (by decide), fun z => by omega⟩, ⟨fun z => absurd z (by decide), fun z => by omega⟩, ⟨fun z => by omega, fun z => rfl⟩⟩
theorem tokR_n (h : tokR t nu wd T) (hT : 1000 ≤ T) : ∃ v, v ≤ 1000009 ∧ nu = nI v ∧ T = 1000 + min 10000 v := by
  rcases h with ⟨h1, h2⟩ | ⟨h1, h2⟩ | ⟨h1, h2, h3⟩ | ⟨h1, h2⟩ | ⟨h1, h2⟩ | ⟨h1, h2⟩ | ⟨i, h1, h2, h3, h4⟩ | ⟨v, h1, h2, h3, h4⟩
  · omega
  · omega
  · omega
  · omega
  · omega
  · have := sg_lt h1; omega
  · omega
  · exact ⟨v, h1, h3, h4⟩
theorem tokR_b (h : tokR t nu wd T) : T ≤ 62 ∨ (200 ≤ T ∧ T < 215) ∨ 1000 ≤ T := by
  rcases h with ⟨h1, h2⟩ | ⟨h1, h2⟩ | ⟨h1, h2, h3⟩ | ⟨h1, h2⟩ | ⟨h1, h2⟩ | ⟨h1, h2⟩ | ⟨i, h1, h2, h3, h4⟩ | ⟨v, h1, h2, h3, h4⟩
  · omega
  · omega
  · omega
  · omega
  · omega
  · have := sg_lt h1; omega
  · omega
  · omega
theorem tokR_t2 (h : tokR t nu wd T) (h2 : ¬ t = nI 2) : T < 200 ∨ 1000 ≤ T := by
  rcases tokR_b h with hb | hb | hb
  · omega
  · exact absurd ((tokR_w h (j := T - 200) (by omega)).mpr (by omega)).1 h2
  · omega
end TK
section MW
variable {tx : Nat → Nat} {n t0 srt : Nat} {I0 : pvI} {J0 : pvJ} {I : pvI} {J : pvJ} {P : pvP} {k : Nat} {pl : List Nat} {op : Nat} {wh : Bool} {cd : List Nat}
theorem t_isWord {T j : Nat} {w : Int64} (htk : tokR (I 202 23) (I 202 24) (J 202 25) T) (hj : j < 15) (hw : w = lN (wdN j)) : pvMet mX12_isWord 0 0 0 [.ref 202, .long w] 224 I J P (pvpu (.int (if T = 200 + j then 1 else 0)) 224 I J P) := by
  subst hw
  have hh := tokR_w htk hj
  by_cases c : T = 200 + j
  · rw [if_pos c]
    have := hh.mpr c
    refine pvMet.of _ (by decide) rfl (Nat.le_of_ble_eq_true rfl) ?_
    refine g_aload_n dX12_isWord_0 rfl ?_
    refine n_getI dX12_isWord_1 fdX12_194 rfl (by first | rfl | exact pv_shx) (by omega) (by omega) (by decide) rfl (by repeat (first | (apply rd_s; done) | apply rd_n (by omega) | apply rp_s | apply rp_n (by omega) | (apply rdL_s; done) | apply rdL_n (by omega) | apply rpJ_s | apply rpJ_n (by omega) | rfl)) ?_
    refine g_iconst (v := nI 2) dX12_isWord_4 (by decide) ?_
    refine n_icmp_ne 21 dX12_isWord_5 (by decide) (Iff.rfl) (fun c5 => by exfalso; exact c5 this.1) (fun c5 => ?_)
    refine g_aload_n dX12_isWord_8 rfl ?_
    refine n_getJ dX12_isWord_9 fdX12_207 rfl (by first | rfl | exact pv_shx) (by omega) (by omega) (by decide) rfl (by repeat (first | (apply rd_s; done) | apply rd_n (by omega) | apply rp_s | apply rp_n (by omega) | (apply rdL_s; done) | apply rdL_n (by omega) | apply rpJ_s | apply rpJ_n (by omega) | rfl)) ?_
    refine g_lload_n dX12_isWord_12 rfl ?_
    refine g_lcmp dX12_isWord_13 ?_
    refine n_if_ne 21 dX12_isWord_14 (by decide) (lg_eq) (fun c14 => by exfalso; exact c14 this.2) (fun c14 => ?_)
    refine g_iconst (v := nI 1) dX12_isWord_17 (by decide) ?_
    refine g_goto 22 dX12_isWord_18 (by decide) ?_
    exact g_zret (by first | exact Or.inl rfl | exact Or.inr rfl | exact cB01 _) dX12_isWord_22 rfl (⟨rfl, rfl, rfl, rfl, rfl⟩)
  · rw [if_neg c]
    refine pvMet.of _ (by decide) rfl (Nat.le_of_ble_eq_true rfl) ?_
    refine g_aload_n dX12_isWord_0 rfl ?_
    refine n_getI dX12_isWord_1 fdX12_194 rfl (by first | rfl | exact pv_shx) (by omega) (by omega) (by decide) rfl (by repeat (first | (apply rd_s; done) | apply rd_n (by omega) | apply rp_s | apply rp_n (by omega) | (apply rdL_s; done) | apply rdL_n (by omega) | apply rpJ_s | apply rpJ_n (by omega) | rfl)) ?_
    refine g_iconst (v := nI 2) dX12_isWord_4 (by decide) ?_
    refine n_icmp_ne 21 dX12_isWord_5 (by decide) (Iff.rfl) (fun c5 => ?_) (fun c5 => ?_)
    · skip
      refine g_iconst (v := nI 0) dX12_isWord_21 (by decide) ?_
      exact g_zret (by first | exact Or.inl rfl | exact Or.inr rfl | exact cB01 _) dX12_isWord_22 rfl (⟨rfl, rfl, rfl, rfl, rfl⟩)
    · skip
      refine g_aload_n dX12_isWord_8 rfl ?_
      refine n_getJ dX12_isWord_9 fdX12_207 rfl (by first | rfl | exact pv_shx) (by omega) (by omega) (by decide) rfl (by repeat (first | (apply rd_s; done) | apply rd_n (by omega) | apply rp_s | apply rp_n (by omega) | (apply rdL_s; done) | apply rdL_n (by omega) | apply rpJ_s | apply rpJ_n (by omega) | rfl)) ?_
      refine g_lload_n dX12_isWord_12 rfl ?_
      refine g_lcmp dX12_isWord_13 ?_
      refine n_if_ne 21 dX12_isWord_14 (by decide) (lg_eq) (fun c14 => ?_) (fun c14 => by exfalso; exact c (hh.mp ⟨c5, c14⟩))
      refine g_iconst (v := nI 0) dX12_isWord_21 (by decide) ?_
      exact g_zret (by first | exact Or.inl rfl | exact Or.inr rfl | exact cB01 _) dX12_isWord_22 rfl (⟨rfl, rfl, rfl, rfl, rfl⟩)
def nmI (T : Nat) : Int32 := if 207 ≤ T ∧ T < 215 then nI (mN (T - 207)) else -1
theorem t_nameOf {T : Nat} (htk : tokR (I 202 23) (I 202 24) (J 202 25) T) : pvMet mX12_nameOf 3 0 0 [.ref 202] 224 I J P (pvpu (.int (nmI T)) 224 I J P) := by
  by_cases c : I 202 23 = nI 2
  · have we : ∀ {j : Nat}, j < 15 → (J 202 25 = lN (wdN j) ↔ T = 200 + j) := fun hj => ⟨fun z => (tokR_w htk hj).mp ⟨c, z⟩, fun z => ((tokR_w htk hj).mpr z).2⟩
    have hb := tokR_b htk
    refine pvMet.of _ (by decide) rfl (Nat.le_of_ble_eq_true rfl) ?_
    refine g_aload_n dX12_nameOf_0 rfl ?_
    refine n_getI dX12_nameOf_1 fdX12_194 rfl (by first | rfl | exact pv_shx) (by omega) (by omega) (by decide) rfl (by repeat (first | (apply rd_s; done) | apply rd_n (by omega) | apply rp_s | apply rp_n (by omega) | (apply rdL_s; done) | apply rdL_n (by omega) | apply rpJ_s | apply rpJ_n (by omega) | rfl)) ?_
    refine g_iconst (v := nI 2) dX12_nameOf_4 (by decide) ?_
    refine n_icmp_eq 10 dX12_nameOf_5 (by decide) (Iff.rfl) (fun c5 => ?_) (fun c5 => by exfalso; exact c5 c)
    refine g_aload_n dX12_nameOf_10 rfl ?_
    refine n_getJ dX12_nameOf_11 fdX12_207 rfl (by first | rfl | exact pv_shx) (by omega) (by omega) (by decide) rfl (by repeat (first | (apply rd_s; done) | apply rd_n (by omega) | apply rp_s | apply rp_n (by omega) | (apply rdL_s; done) | apply rdL_n (by omega) | apply rpJ_s | apply rpJ_n (by omega) | rfl)) ?_
    refine g_bipush (v := nI 103) dX12_nameOf_14 (by decide) ?_
    refine g_bipush (v := nI 97) dX12_nameOf_16 (by decide) ?_
    refine g_bipush (v := nI 115) dX12_nameOf_18 (by decide) ?_
    refine p_callS (t_w3 (v := lN (wdN 7)) (by decide)) okX12_w3 lkX12_211 rfl dX12_nameOf_20 rfl (Nat.le_of_ble_eq_true rfl) (⟨by decide, by decide, by decide, by decide⟩) ?_
    refine g_lcmp dX12_nameOf_23 ?_
    refine n_if_ne 29 dX12_nameOf_24 (by decide) (lg_eq.trans (we (j := 7) (by decide))) (fun c24 => ?_) (fun c24 => ?_)
    · skip
      refine g_aload_n dX12_nameOf_29 rfl ?_
      refine n_getJ dX12_nameOf_30 fdX12_207 rfl (by first | rfl | exact pv_shx) (by omega) (by omega) (by decide) rfl (by repeat (first | (apply rd_s; done) | apply rd_n (by omega) | apply rp_s | apply rp_n (by omega) | (apply rdL_s; done) | apply rdL_n (by omega) | apply rpJ_s | apply rpJ_n (by omega) | rfl)) ?_
      refine g_bipush (v := nI 99) dX12_nameOf_33 (by decide) ?_
      refine g_bipush (v := nI 114) dX12_nameOf_35 (by decide) ?_
      refine g_bipush (v := nI 97) dX12_nameOf_37 (by decide) ?_
      refine g_bipush (v := nI 99) dX12_nameOf_39 (by decide) ?_
      refine g_bipush (v := nI 107) dX12_nameOf_41 (by decide) ?_
      refine g_bipush (v := nI 115) dX12_nameOf_43 (by decide) ?_
      refine p_callS (t_w6 (v := lN (wdN 8)) (by decide)) okX12_w6 lkX12_238 rfl dX12_nameOf_45 rfl (Nat.le_of_ble_eq_true rfl) (⟨by decide, by decide, by decide, by decide⟩) ?_
      refine g_lcmp dX12_nameOf_48 ?_
      refine n_if_ne 54 dX12_nameOf_49 (by decide) (lg_eq.trans (we (j := 8) (by decide))) (fun c49 => ?_) (fun c49 => ?_)
      · skip
        refine g_aload_n dX12_nameOf_54 rfl ?_
        refine n_getJ dX12_nameOf_55 fdX12_207 rfl (by first | rfl | exact pv_shx) (by omega) (by omega) (by decide) rfl (by repeat (first | (apply rd_s; done) | apply rd_n (by omega) | apply rp_s | apply rp_n (by omega) | (apply rdL_s; done) | apply rdL_n (by omega) | apply rpJ_s | apply rpJ_n (by omega) | rfl)) ?_
        refine g_bipush (v := nI 115) dX12_nameOf_58 (by decide) ?_
        refine g_bipush (v := nI 105) dX12_nameOf_60 (by decide) ?_
        refine g_bipush (v := nI 122) dX12_nameOf_62 (by decide) ?_
        refine g_bipush (v := nI 101) dX12_nameOf_64 (by decide) ?_
        refine p_callS (t_w4 (v := lN (wdN 9)) (by decide)) okX12_w4 lkX12_242 rfl dX12_nameOf_66 rfl (Nat.le_of_ble_eq_true rfl) (⟨by decide, by decide, by decide, by decide⟩) ?_
        refine g_lcmp dX12_nameOf_69 ?_
        refine n_if_ne 75 dX12_nameOf_70 (by decide) (lg_eq.trans (we (j := 9) (by decide))) (fun c70 => ?_) (fun c70 => ?_)
        · skip
          refine g_aload_n dX12_nameOf_75 rfl ?_
          refine n_getJ dX12_nameOf_76 fdX12_207 rfl (by first | rfl | exact pv_shx) (by omega) (by omega) (by decide) rfl (by repeat (first | (apply rd_s; done) | apply rd_n (by omega) | apply rp_s | apply rp_n (by omega) | (apply rdL_s; done) | apply rdL_n (by omega) | apply rpJ_s | apply rpJ_n (by omega) | rfl)) ?_
          refine g_bipush (v := nI 119) dX12_nameOf_79 (by decide) ?_
          refine g_bipush (v := nI 101) dX12_nameOf_81 (by decide) ?_
          refine g_bipush (v := nI 101) dX12_nameOf_83 (by decide) ?_
          refine g_bipush (v := nI 107) dX12_nameOf_85 (by decide) ?_
          refine p_callS (t_w4 (v := lN (wdN 10)) (by decide)) okX12_w4 lkX12_242 rfl dX12_nameOf_87 rfl (Nat.le_of_ble_eq_true rfl) (⟨by decide, by decide, by decide, by decide⟩) ?_
          refine g_lcmp dX12_nameOf_90 ?_
          refine n_if_ne 97 dX12_nameOf_91 (by decide) (lg_eq.trans (we (j := 10) (by decide))) (fun c91 => ?_) (fun c91 => ?_)
          · skip
            refine g_aload_n dX12_nameOf_97 rfl ?_
            refine n_getJ dX12_nameOf_98 fdX12_207 rfl (by first | rfl | exact pv_shx) (by omega) (by omega) (by decide) rfl (by repeat (first | (apply rd_s; done) | apply rd_n (by omega) | apply rp_s | apply rp_n (by omega) | (apply rdL_s; done) | apply rdL_n (by omega) | apply rpJ_s | apply rpJ_n (by omega) | rfl)) ?_
            refine g_bipush (v := nI 112) dX12_nameOf_101 (by decide) ?_
            refine g_bipush (v := nI 101) dX12_nameOf_103 (by decide) ?_
            refine g_bipush (v := nI 111) dX12_nameOf_105 (by decide) ?_
            refine g_bipush (v := nI 112) dX12_nameOf_107 (by decide) ?_
            refine g_bipush (v := nI 108) dX12_nameOf_109 (by decide) ?_
            refine g_bipush (v := nI 101) dX12_nameOf_111 (by decide) ?_
            refine p_callS (t_w6 (v := lN (wdN 11)) (by decide)) okX12_w6 lkX12_238 rfl dX12_nameOf_113 rfl (Nat.le_of_ble_eq_true rfl) (⟨by decide, by decide, by decide, by decide⟩) ?_
            refine g_lcmp dX12_nameOf_116 ?_
            refine n_if_ne 122 dX12_nameOf_117 (by decide) (lg_eq.trans (we (j := 11) (by decide))) (fun c117 => ?_) (fun c117 => ?_)
            · skip
              refine g_aload_n dX12_nameOf_122 rfl ?_
              refine n_getJ dX12_nameOf_123 fdX12_207 rfl (by first | rfl | exact pv_shx) (by omega) (by omega) (by decide) rfl (by repeat (first | (apply rd_s; done) | apply rd_n (by omega) | apply rp_s | apply rp_n (by omega) | (apply rdL_s; done) | apply rdL_n (by omega) | apply rpJ_s | apply rpJ_n (by omega) | rfl)) ?_
              refine g_bipush (v := nI 104) dX12_nameOf_126 (by decide) ?_
              refine g_bipush (v := nI 101) dX12_nameOf_128 (by decide) ?_
              refine g_bipush (v := nI 97) dX12_nameOf_130 (by decide) ?_
              refine g_bipush (v := nI 114) dX12_nameOf_132 (by decide) ?_
              refine g_bipush (v := nI 100) dX12_nameOf_134 (by decide) ?_
              refine p_callS (t_w5 (v := lN (wdN 12)) (by decide)) okX12_w5 lkX12_215 rfl dX12_nameOf_136 rfl (Nat.le_of_ble_eq_true rfl) (⟨by decide, by decide, by decide, by decide⟩) ?_
              refine g_lcmp dX12_nameOf_139 ?_
              refine n_if_ne 145 dX12_nameOf_140 (by decide) (lg_eq.trans (we (j := 12) (by decide))) (fun c140 => ?_) (fun c140 => ?_)
              · skip
                refine g_aload_n dX12_nameOf_145 rfl ?_
                refine n_getJ dX12_nameOf_146 fdX12_207 rfl (by first | rfl | exact pv_shx) (by omega) (by omega) (by decide) rfl (by repeat (first | (apply rd_s; done) | apply rd_n (by omega) | apply rp_s | apply rp_n (by omega) | (apply rdL_s; done) | apply rdL_n (by omega) | apply rpJ_s | apply rpJ_n (by omega) | rfl)) ?_
                refine g_bipush (v := nI 97) dX12_nameOf_149 (by decide) ?_
                refine g_bipush (v := nI 115) dX12_nameOf_151 (by decide) ?_
                refine g_bipush (v := nI 107) dX12_nameOf_153 (by decide) ?_
                refine p_callS (t_w3 (v := lN (wdN 13)) (by decide)) okX12_w3 lkX12_211 rfl dX12_nameOf_155 rfl (Nat.le_of_ble_eq_true rfl) (⟨by decide, by decide, by decide, by decide⟩) ?_
                refine g_lcmp dX12_nameOf_158 ?_
                refine n_if_ne 166 dX12_nameOf_159 (by decide) (lg_eq.trans (we (j := 13) (by decide))) (fun c159 => ?_) (fun c159 => ?_)
                · skip
                  refine g_aload_n dX12_nameOf_166 rfl ?_
                  refine n_getJ dX12_nameOf_167 fdX12_207 rfl (by first | rfl | exact pv_shx) (by omega) (by omega) (by decide) rfl (by repeat (first | (apply rd_s; done) | apply rd_n (by omega) | apply rp_s | apply rp_n (by omega) | (apply rdL_s; done) | apply rdL_n (by omega) | apply rpJ_s | apply rpJ_n (by omega) | rfl)) ?_
                  refine g_bipush (v := nI 107) dX12_nameOf_170 (by decide) ?_
                  refine g_bipush (v := nI 105) dX12_nameOf_172 (by decide) ?_
                  refine g_bipush (v := nI 110) dX12_nameOf_174 (by decide) ?_
                  refine p_callS (t_w3 (v := lN (wdN 14)) (by decide)) okX12_w3 lkX12_211 rfl dX12_nameOf_176 rfl (Nat.le_of_ble_eq_true rfl) (⟨by decide, by decide, by decide, by decide⟩) ?_
                  refine g_lcmp dX12_nameOf_179 ?_
                  refine n_if_ne 188 dX12_nameOf_180 (by decide) (lg_eq.trans (we (j := 14) (by decide))) (fun c180 => ?_) (fun c180 => ?_)
                  · skip
                    refine g_iconst (v := (-1)) dX12_nameOf_188 (by decide) ?_
                    exact g_iret dX12_nameOf_189 rfl (⟨by first | (obtain rfl : T = 207 := (by omega); rfl) | (obtain rfl : T = 208 := (by omega); rfl) | (obtain rfl : T = 209 := (by omega); rfl) | (obtain rfl : T = 210 := (by omega); rfl) | (obtain rfl : T = 211 := (by omega); rfl) | (obtain rfl : T = 212 := (by omega); rfl) | (obtain rfl : T = 213 := (by omega); rfl) | (obtain rfl : T = 214 := (by omega); rfl) | (unfold nmI; rw [if_neg (by omega)]), rfl, rfl, rfl, rfl⟩)
                  · skip
                    refine g_bipush (v := nI 6) dX12_nameOf_183 (by decide) ?_
                    refine g_goto 189 dX12_nameOf_185 (by decide) ?_
                    exact g_iret dX12_nameOf_189 rfl (⟨by first | (obtain rfl : T = 207 := (by omega); rfl) | (obtain rfl : T = 208 := (by omega); rfl) | (obtain rfl : T = 209 := (by omega); rfl) | (obtain rfl : T = 210 := (by omega); rfl) | (obtain rfl : T = 211 := (by omega); rfl) | (obtain rfl : T = 212 := (by omega); rfl) | (obtain rfl : T = 213 := (by omega); rfl) | (obtain rfl : T = 214 := (by omega); rfl) | (unfold nmI; rw [if_neg (by omega)]), rfl, rfl, rfl, rfl⟩)
                · skip
                  refine g_iconst (v := nI 5) dX12_nameOf_162 (by decide) ?_
                  refine g_goto 189 dX12_nameOf_163 (by decide) ?_
                  exact g_iret dX12_nameOf_189 rfl (⟨by first | (obtain rfl : T = 207 := (by omega); rfl) | (obtain rfl : T = 208 := (by omega); rfl) | (obtain rfl : T = 209 := (by omega); rfl) | (obtain rfl : T = 210 := (by omega); rfl) | (obtain rfl : T = 211 := (by omega); rfl) | (obtain rfl : T = 212 := (by omega); rfl) | (obtain rfl : T = 213 := (by omega); rfl) | (obtain rfl : T = 214 := (by omega); rfl) | (unfold nmI; rw [if_neg (by omega)]), rfl, rfl, rfl, rfl⟩)
              · skip
                refine g_iconst (v := nI 4) dX12_nameOf_143 (by decide) ?_
                exact g_iret dX12_nameOf_144 rfl (⟨by first | (obtain rfl : T = 207 := (by omega); rfl) | (obtain rfl : T = 208 := (by omega); rfl) | (obtain rfl : T = 209 := (by omega); rfl) | (obtain rfl : T = 210 := (by omega); rfl) | (obtain rfl : T = 211 := (by omega); rfl) | (obtain rfl : T = 212 := (by omega); rfl) | (obtain rfl : T = 213 := (by omega); rfl) | (obtain rfl : T = 214 := (by omega); rfl) | (unfold nmI; rw [if_neg (by omega)]), rfl, rfl, rfl, rfl⟩)
            · skip
              refine g_iconst (v := nI 3) dX12_nameOf_120 (by decide) ?_
              exact g_iret dX12_nameOf_121 rfl (⟨by first | (obtain rfl : T = 207 := (by omega); rfl) | (obtain rfl : T = 208 := (by omega); rfl) | (obtain rfl : T = 209 := (by omega); rfl) | (obtain rfl : T = 210 := (by omega); rfl) | (obtain rfl : T = 211 := (by omega); rfl) | (obtain rfl : T = 212 := (by omega); rfl) | (obtain rfl : T = 213 := (by omega); rfl) | (obtain rfl : T = 214 := (by omega); rfl) | (unfold nmI; rw [if_neg (by omega)]), rfl, rfl, rfl, rfl⟩)
          · skip
            refine g_bipush (v := nI 7) dX12_nameOf_94 (by decide) ?_
            exact g_iret dX12_nameOf_96 rfl (⟨by first | (obtain rfl : T = 207 := (by omega); rfl) | (obtain rfl : T = 208 := (by omega); rfl) | (obtain rfl : T = 209 := (by omega); rfl) | (obtain rfl : T = 210 := (by omega); rfl) | (obtain rfl : T = 211 := (by omega); rfl) | (obtain rfl : T = 212 := (by omega); rfl) | (obtain rfl : T = 213 := (by omega); rfl) | (obtain rfl : T = 214 := (by omega); rfl) | (unfold nmI; rw [if_neg (by omega)]), rfl, rfl, rfl, rfl⟩)
        · skip
          refine g_iconst (v := nI 2) dX12_nameOf_73 (by decide) ?_
          exact g_iret dX12_nameOf_74 rfl (⟨by first | (obtain rfl : T = 207 := (by omega); rfl) | (obtain rfl : T = 208 := (by omega); rfl) | (obtain rfl : T = 209 := (by omega); rfl) | (obtain rfl : T = 210 := (by omega); rfl) | (obtain rfl : T = 211 := (by omega); rfl) | (obtain rfl : T = 212 := (by omega); rfl) | (obtain rfl : T = 213 := (by omega); rfl) | (obtain rfl : T = 214 := (by omega); rfl) | (unfold nmI; rw [if_neg (by omega)]), rfl, rfl, rfl, rfl⟩)
      · skip
        refine g_iconst (v := nI 1) dX12_nameOf_52 (by decide) ?_
        exact g_iret dX12_nameOf_53 rfl (⟨by first | (obtain rfl : T = 207 := (by omega); rfl) | (obtain rfl : T = 208 := (by omega); rfl) | (obtain rfl : T = 209 := (by omega); rfl) | (obtain rfl : T = 210 := (by omega); rfl) | (obtain rfl : T = 211 := (by omega); rfl) | (obtain rfl : T = 212 := (by omega); rfl) | (obtain rfl : T = 213 := (by omega); rfl) | (obtain rfl : T = 214 := (by omega); rfl) | (unfold nmI; rw [if_neg (by omega)]), rfl, rfl, rfl, rfl⟩)
    · skip
      refine g_iconst (v := nI 0) dX12_nameOf_27 (by decide) ?_
      exact g_iret dX12_nameOf_28 rfl (⟨by first | (obtain rfl : T = 207 := (by omega); rfl) | (obtain rfl : T = 208 := (by omega); rfl) | (obtain rfl : T = 209 := (by omega); rfl) | (obtain rfl : T = 210 := (by omega); rfl) | (obtain rfl : T = 211 := (by omega); rfl) | (obtain rfl : T = 212 := (by omega); rfl) | (obtain rfl : T = 213 := (by omega); rfl) | (obtain rfl : T = 214 := (by omega); rfl) | (unfold nmI; rw [if_neg (by omega)]), rfl, rfl, rfl, rfl⟩)
  · have h2 := tokR_t2 htk c
    have : nmI T = -1 := if_neg (by omega)
    rw [this]
    refine pvMet.of _ (by decide) rfl (Nat.le_of_ble_eq_true rfl) ?_
    refine g_aload_n dX12_nameOf_0 rfl ?_
    refine n_getI dX12_nameOf_1 fdX12_194 rfl (by first | rfl | exact pv_shx) (by omega) (by omega) (by decide) rfl (by repeat (first | (apply rd_s; done) | apply rd_n (by omega) | apply rp_s | apply rp_n (by omega) | (apply rdL_s; done) | apply rdL_n (by omega) | apply rpJ_s | apply rpJ_n (by omega) | rfl)) ?_
    refine g_iconst (v := nI 2) dX12_nameOf_4 (by decide) ?_
    refine n_icmp_eq 10 dX12_nameOf_5 (by decide) (Iff.rfl) (fun c5 => by exfalso; exact c c5) (fun c5 => ?_)
    refine g_iconst (v := (-1)) dX12_nameOf_8 (by decide) ?_
    exact g_iret dX12_nameOf_9 rfl (⟨rfl, rfl, rfl, rfl, rfl⟩)
theorem t_compareOf {T : Nat} (htk : tokR (I 202 23) (I 202 24) (J 202 25) T) : pvMet mX12_compareOf 0 0 0 [.ref 202] 224 I J P (pvpu (.int (if isCmp T = true then nI (itM (20000 + T)).1 else -1)) 224 I J P) := by
  have ho := tokR_o htk
  have e : (if isCmp T = true then nI (itM (20000 + T)).1 else (-1 : Int32)) = if T = 60 then nI 10 else if T = 2 then nI 11 else if T = 62 then nI 12 else if T = 3 then nI 13 else if T = 61 then nI 14 else if T = 35 then nI 15 else -1 := by
    unfold isCmp
    by_cases c1 : T = 60
    · subst c1; rfl
    · by_cases c2 : T = 2
      · subst c2; rfl
      · by_cases c3 : T = 62
        · subst c3; rfl
        · by_cases c4 : T = 3
          · subst c4; rfl
          · by_cases c5 : T = 61
            · subst c5; rfl
            · by_cases c6 : T = 35
              · subst c6; rfl
              · simp [c1, c2, c3, c4, c5, c6]
  rw [e]
  refine pvMet.of _ (by decide) rfl (Nat.le_of_ble_eq_true rfl) ?_
  refine g_aload_n dX12_compareOf_0 rfl ?_
  refine n_getI dX12_compareOf_1 fdX12_194 rfl (by first | rfl | exact pv_shx) (by omega) (by omega) (by decide) rfl (by repeat (first | (apply rd_s; done) | apply rd_n (by omega) | apply rp_s | apply rp_n (by omega) | (apply rdL_s; done) | apply rdL_n (by omega) | apply rpJ_s | apply rpJ_n (by omega) | rfl)) ?_
  refine g_bipush (v := nI 60) dX12_compareOf_4 (by decide) ?_
  refine n_icmp_ne 14 dX12_compareOf_6 (by decide) (tokR_s htk (by decide)) (fun c6 => ?_) (fun c6 => ?_)
  · skip
    refine g_aload_n dX12_compareOf_14 rfl ?_
    refine n_getI dX12_compareOf_15 fdX12_194 rfl (by first | rfl | exact pv_shx) (by omega) (by omega) (by decide) rfl (by repeat (first | (apply rd_s; done) | apply rd_n (by omega) | apply rp_s | apply rp_n (by omega) | (apply rdL_s; done) | apply rdL_n (by omega) | apply rpJ_s | apply rpJ_n (by omega) | rfl)) ?_
    refine g_iconst (v := nI 4) dX12_compareOf_18 (by decide) ?_
    refine n_icmp_ne 27 dX12_compareOf_19 (by decide) (ho.2.1) (fun c19 => ?_) (fun c19 => ?_)
    · skip
      refine g_aload_n dX12_compareOf_27 rfl ?_
      refine n_getI dX12_compareOf_28 fdX12_194 rfl (by first | rfl | exact pv_shx) (by omega) (by omega) (by decide) rfl (by repeat (first | (apply rd_s; done) | apply rd_n (by omega) | apply rp_s | apply rp_n (by omega) | (apply rdL_s; done) | apply rdL_n (by omega) | apply rpJ_s | apply rpJ_n (by omega) | rfl)) ?_
      refine g_bipush (v := nI 62) dX12_compareOf_31 (by decide) ?_
      refine n_icmp_ne 41 dX12_compareOf_33 (by decide) (tokR_s htk (by decide)) (fun c33 => ?_) (fun c33 => ?_)
      · skip
        refine g_aload_n dX12_compareOf_41 rfl ?_
        refine n_getI dX12_compareOf_42 fdX12_194 rfl (by first | rfl | exact pv_shx) (by omega) (by omega) (by decide) rfl (by repeat (first | (apply rd_s; done) | apply rd_n (by omega) | apply rp_s | apply rp_n (by omega) | (apply rdL_s; done) | apply rdL_n (by omega) | apply rpJ_s | apply rpJ_n (by omega) | rfl)) ?_
        refine g_iconst (v := nI 5) dX12_compareOf_45 (by decide) ?_
        refine n_icmp_ne 54 dX12_compareOf_46 (by decide) (ho.2.2.1) (fun c46 => ?_) (fun c46 => ?_)
        · skip
          refine g_aload_n dX12_compareOf_54 rfl ?_
          refine n_getI dX12_compareOf_55 fdX12_194 rfl (by first | rfl | exact pv_shx) (by omega) (by omega) (by decide) rfl (by repeat (first | (apply rd_s; done) | apply rd_n (by omega) | apply rp_s | apply rp_n (by omega) | (apply rdL_s; done) | apply rdL_n (by omega) | apply rpJ_s | apply rpJ_n (by omega) | rfl)) ?_
          refine g_bipush (v := nI 61) dX12_compareOf_58 (by decide) ?_
          refine n_icmp_ne 68 dX12_compareOf_60 (by decide) (tokR_s htk (by decide)) (fun c60 => ?_) (fun c60 => ?_)
          · skip
            refine g_aload_n dX12_compareOf_68 rfl ?_
            refine n_getI dX12_compareOf_69 fdX12_194 rfl (by first | rfl | exact pv_shx) (by omega) (by omega) (by decide) rfl (by repeat (first | (apply rd_s; done) | apply rd_n (by omega) | apply rp_s | apply rp_n (by omega) | (apply rdL_s; done) | apply rdL_n (by omega) | apply rpJ_s | apply rpJ_n (by omega) | rfl)) ?_
            refine g_bipush (v := nI 35) dX12_compareOf_72 (by decide) ?_
            refine n_icmp_ne 82 dX12_compareOf_74 (by decide) (tokR_s htk (by decide)) (fun c74 => ?_) (fun c74 => ?_)
            · skip
              refine g_iconst (v := (-1)) dX12_compareOf_82 (by decide) ?_
              exact g_iret dX12_compareOf_83 rfl (⟨by first | rw [if_pos (by omega)] | rw [if_neg (by omega), if_pos (by omega)] | rw [if_neg (by omega), if_neg (by omega), if_pos (by omega)] | rw [if_neg (by omega), if_neg (by omega), if_neg (by omega), if_pos (by omega)] | rw [if_neg (by omega), if_neg (by omega), if_neg (by omega), if_neg (by omega), if_pos (by omega)] | rw [if_neg (by omega), if_neg (by omega), if_neg (by omega), if_neg (by omega), if_neg (by omega), if_pos (by omega)] | rw [if_neg (by omega), if_neg (by omega), if_neg (by omega), if_neg (by omega), if_neg (by omega), if_neg (by omega)], rfl, rfl, rfl, rfl⟩)
            · skip
              refine g_bipush (v := nI 15) dX12_compareOf_77 (by decide) ?_
              refine g_goto 83 dX12_compareOf_79 (by decide) ?_
              exact g_iret dX12_compareOf_83 rfl (⟨by first | rw [if_pos (by omega)] | rw [if_neg (by omega), if_pos (by omega)] | rw [if_neg (by omega), if_neg (by omega), if_pos (by omega)] | rw [if_neg (by omega), if_neg (by omega), if_neg (by omega), if_pos (by omega)] | rw [if_neg (by omega), if_neg (by omega), if_neg (by omega), if_neg (by omega), if_pos (by omega)] | rw [if_neg (by omega), if_neg (by omega), if_neg (by omega), if_neg (by omega), if_neg (by omega), if_pos (by omega)] | rw [if_neg (by omega), if_neg (by omega), if_neg (by omega), if_neg (by omega), if_neg (by omega), if_neg (by omega)], rfl, rfl, rfl, rfl⟩)
          · skip
            refine g_bipush (v := nI 14) dX12_compareOf_63 (by decide) ?_
            refine g_goto 83 dX12_compareOf_65 (by decide) ?_
            exact g_iret dX12_compareOf_83 rfl (⟨by first | rw [if_pos (by omega)] | rw [if_neg (by omega), if_pos (by omega)] | rw [if_neg (by omega), if_neg (by omega), if_pos (by omega)] | rw [if_neg (by omega), if_neg (by omega), if_neg (by omega), if_pos (by omega)] | rw [if_neg (by omega), if_neg (by omega), if_neg (by omega), if_neg (by omega), if_pos (by omega)] | rw [if_neg (by omega), if_neg (by omega), if_neg (by omega), if_neg (by omega), if_neg (by omega), if_pos (by omega)] | rw [if_neg (by omega), if_neg (by omega), if_neg (by omega), if_neg (by omega), if_neg (by omega), if_neg (by omega)], rfl, rfl, rfl, rfl⟩)
        · skip
          refine g_bipush (v := nI 13) dX12_compareOf_49 (by decide) ?_
          refine g_goto 83 dX12_compareOf_51 (by decide) ?_
          exact g_iret dX12_compareOf_83 rfl (⟨by first | rw [if_pos (by omega)] | rw [if_neg (by omega), if_pos (by omega)] | rw [if_neg (by omega), if_neg (by omega), if_pos (by omega)] | rw [if_neg (by omega), if_neg (by omega), if_neg (by omega), if_pos (by omega)] | rw [if_neg (by omega), if_neg (by omega), if_neg (by omega), if_neg (by omega), if_pos (by omega)] | rw [if_neg (by omega), if_neg (by omega), if_neg (by omega), if_neg (by omega), if_neg (by omega), if_pos (by omega)] | rw [if_neg (by omega), if_neg (by omega), if_neg (by omega), if_neg (by omega), if_neg (by omega), if_neg (by omega)], rfl, rfl, rfl, rfl⟩)
      · skip
        refine g_bipush (v := nI 12) dX12_compareOf_36 (by decide) ?_
        refine g_goto 83 dX12_compareOf_38 (by decide) ?_
        exact g_iret dX12_compareOf_83 rfl (⟨by first | rw [if_pos (by omega)] | rw [if_neg (by omega), if_pos (by omega)] | rw [if_neg (by omega), if_neg (by omega), if_pos (by omega)] | rw [if_neg (by omega), if_neg (by omega), if_neg (by omega), if_pos (by omega)] | rw [if_neg (by omega), if_neg (by omega), if_neg (by omega), if_neg (by omega), if_pos (by omega)] | rw [if_neg (by omega), if_neg (by omega), if_neg (by omega), if_neg (by omega), if_neg (by omega), if_pos (by omega)] | rw [if_neg (by omega), if_neg (by omega), if_neg (by omega), if_neg (by omega), if_neg (by omega), if_neg (by omega)], rfl, rfl, rfl, rfl⟩)
    · skip
      refine g_bipush (v := nI 11) dX12_compareOf_22 (by decide) ?_
      refine g_goto 83 dX12_compareOf_24 (by decide) ?_
      exact g_iret dX12_compareOf_83 rfl (⟨by first | rw [if_pos (by omega)] | rw [if_neg (by omega), if_pos (by omega)] | rw [if_neg (by omega), if_neg (by omega), if_pos (by omega)] | rw [if_neg (by omega), if_neg (by omega), if_neg (by omega), if_pos (by omega)] | rw [if_neg (by omega), if_neg (by omega), if_neg (by omega), if_neg (by omega), if_pos (by omega)] | rw [if_neg (by omega), if_neg (by omega), if_neg (by omega), if_neg (by omega), if_neg (by omega), if_pos (by omega)] | rw [if_neg (by omega), if_neg (by omega), if_neg (by omega), if_neg (by omega), if_neg (by omega), if_neg (by omega)], rfl, rfl, rfl, rfl⟩)
  · skip
    refine g_bipush (v := nI 10) dX12_compareOf_9 (by decide) ?_
    refine g_goto 83 dX12_compareOf_11 (by decide) ?_
    exact g_iret dX12_compareOf_83 rfl (⟨by first | rw [if_pos (by omega)] | rw [if_neg (by omega), if_pos (by omega)] | rw [if_neg (by omega), if_neg (by omega), if_pos (by omega)] | rw [if_neg (by omega), if_neg (by omega), if_neg (by omega), if_pos (by omega)] | rw [if_neg (by omega), if_neg (by omega), if_neg (by omega), if_neg (by omega), if_pos (by omega)] | rw [if_neg (by omega), if_neg (by omega), if_neg (by omega), if_neg (by omega), if_neg (by omega), if_pos (by omega)] | rw [if_neg (by omega), if_neg (by omega), if_neg (by omega), if_neg (by omega), if_neg (by omega), if_neg (by omega)], rfl, rfl, rfl, rfl⟩)
theorem t_sortOf {T : Nat} (htk : tokR (I 202 23) (I 202 24) (J 202 25) T) : pvMet mX12_sortOf 2 0 0 [.ref 202] 224 I J P (pvpu (.int (nI (if 200 ≤ T ∧ T ≤ 203 then T - 199 else 0))) 224 I J P) := by
  refine pvMet.of _ (by decide) rfl (Nat.le_of_ble_eq_true rfl) ?_
  refine g_aload_n dX12_sortOf_0 rfl ?_
  refine g_bipush (v := nI 115) dX12_sortOf_1 (by decide) ?_
  refine g_bipush (v := nI 104) dX12_sortOf_3 (by decide) ?_
  refine g_bipush (v := nI 117) dX12_sortOf_5 (by decide) ?_
  refine g_bipush (v := nI 116) dX12_sortOf_7 (by decide) ?_
  refine p_callS (t_w4 (v := lN (wdN 0)) (by decide)) okX12_w4 lkX12_242 rfl dX12_sortOf_9 rfl (Nat.le_of_ble_eq_true rfl) (⟨by decide, by decide, by decide, by decide⟩) ?_
  refine p_callV (t_isWord (j := 0) htk (by decide) rfl) okX12_isWord lkX12_281 rfl (by first | rfl | exact pv_shx) rfl (by omega) (by omega) dX12_sortOf_12 rfl (Nat.le_of_ble_eq_true rfl) (⟨by decide, by decide, by decide, by decide⟩) ?_
  refine n_if_eq 20 dX12_sortOf_15 (by decide) (by first | (with_reducible exact cB _) | ((with_reducible apply cN_eq0) <;> omega) | exact Iff.rfl) (fun c15 => ?_) (fun c15 => ?_)
  · skip
    refine g_aload_n dX12_sortOf_20 rfl ?_
    refine g_bipush (v := nI 119) dX12_sortOf_21 (by decide) ?_
    refine g_bipush (v := nI 111) dX12_sortOf_23 (by decide) ?_
    refine g_bipush (v := nI 114) dX12_sortOf_25 (by decide) ?_
    refine g_bipush (v := nI 116) dX12_sortOf_27 (by decide) ?_
    refine g_bipush (v := nI 104) dX12_sortOf_29 (by decide) ?_
    refine p_callS (t_w5 (v := lN (wdN 1)) (by decide)) okX12_w5 lkX12_215 rfl dX12_sortOf_31 rfl (Nat.le_of_ble_eq_true rfl) (⟨by decide, by decide, by decide, by decide⟩) ?_
    refine p_callV (t_isWord (j := 1) htk (by decide) rfl) okX12_isWord lkX12_281 rfl (by first | rfl | exact pv_shx) rfl (by omega) (by omega) dX12_sortOf_34 rfl (Nat.le_of_ble_eq_true rfl) (⟨by decide, by decide, by decide, by decide⟩) ?_
    refine n_if_eq 42 dX12_sortOf_37 (by decide) (by first | (with_reducible exact cB _) | ((with_reducible apply cN_eq0) <;> omega) | exact Iff.rfl) (fun c37 => ?_) (fun c37 => ?_)
    · skip
      refine g_aload_n dX12_sortOf_42 rfl ?_
      refine g_bipush (v := nI 119) dX12_sortOf_43 (by decide) ?_
      refine g_bipush (v := nI 104) dX12_sortOf_45 (by decide) ?_
      refine g_bipush (v := nI 111) dX12_sortOf_47 (by decide) ?_
      refine g_bipush (v := nI 115) dX12_sortOf_49 (by decide) ?_
      refine g_bipush (v := nI 101) dX12_sortOf_51 (by decide) ?_
      refine p_callS (t_w5 (v := lN (wdN 2)) (by decide)) okX12_w5 lkX12_215 rfl dX12_sortOf_53 rfl (Nat.le_of_ble_eq_true rfl) (⟨by decide, by decide, by decide, by decide⟩) ?_
      refine p_callV (t_isWord (j := 2) htk (by decide) rfl) okX12_isWord lkX12_281 rfl (by first | rfl | exact pv_shx) rfl (by omega) (by omega) dX12_sortOf_56 rfl (Nat.le_of_ble_eq_true rfl) (⟨by decide, by decide, by decide, by decide⟩) ?_
      refine n_if_eq 66 dX12_sortOf_59 (by decide) (by first | (with_reducible exact cB _) | ((with_reducible apply cN_eq0) <;> omega) | exact Iff.rfl) (fun c59 => ?_) (fun c59 => ?_)
      · skip
        refine g_aload_n dX12_sortOf_66 rfl ?_
        refine g_bipush (v := nI 121) dX12_sortOf_67 (by decide) ?_
        refine g_bipush (v := nI 101) dX12_sortOf_69 (by decide) ?_
        refine g_bipush (v := nI 115) dX12_sortOf_71 (by decide) ?_
        refine p_callS (t_w3 (v := lN (wdN 3)) (by decide)) okX12_w3 lkX12_211 rfl dX12_sortOf_73 rfl (Nat.le_of_ble_eq_true rfl) (⟨by decide, by decide, by decide, by decide⟩) ?_
        refine p_callV (t_isWord (j := 3) htk (by decide) rfl) okX12_isWord lkX12_281 rfl (by first | rfl | exact pv_shx) rfl (by omega) (by omega) dX12_sortOf_76 rfl (Nat.le_of_ble_eq_true rfl) (⟨by decide, by decide, by decide, by decide⟩) ?_
        refine n_if_eq 86 dX12_sortOf_79 (by decide) (by first | (with_reducible exact cB _) | ((with_reducible apply cN_eq0) <;> omega) | exact Iff.rfl) (fun c79 => ?_) (fun c79 => ?_)
        · skip
          refine g_iconst (v := nI 0) dX12_sortOf_86 (by decide) ?_
          exact g_iret dX12_sortOf_87 rfl (⟨by first | (obtain rfl : T = 200 := (by omega); rfl) | (obtain rfl : T = 201 := (by omega); rfl) | (obtain rfl : T = 202 := (by omega); rfl) | (obtain rfl : T = 203 := (by omega); rfl) | rw [if_neg (by omega)], rfl, rfl, rfl, rfl⟩)
        · skip
          refine g_iconst (v := nI 4) dX12_sortOf_82 (by decide) ?_
          refine g_goto 87 dX12_sortOf_83 (by decide) ?_
          exact g_iret dX12_sortOf_87 rfl (⟨by first | (obtain rfl : T = 200 := (by omega); rfl) | (obtain rfl : T = 201 := (by omega); rfl) | (obtain rfl : T = 202 := (by omega); rfl) | (obtain rfl : T = 203 := (by omega); rfl) | rw [if_neg (by omega)], rfl, rfl, rfl, rfl⟩)
      · skip
        refine g_iconst (v := nI 3) dX12_sortOf_62 (by decide) ?_
        refine g_goto 87 dX12_sortOf_63 (by decide) ?_
        exact g_iret dX12_sortOf_87 rfl (⟨by first | (obtain rfl : T = 200 := (by omega); rfl) | (obtain rfl : T = 201 := (by omega); rfl) | (obtain rfl : T = 202 := (by omega); rfl) | (obtain rfl : T = 203 := (by omega); rfl) | rw [if_neg (by omega)], rfl, rfl, rfl, rfl⟩)
    · skip
      refine g_iconst (v := nI 2) dX12_sortOf_40 (by decide) ?_
      exact g_iret dX12_sortOf_41 rfl (⟨by first | (obtain rfl : T = 200 := (by omega); rfl) | (obtain rfl : T = 201 := (by omega); rfl) | (obtain rfl : T = 202 := (by omega); rfl) | (obtain rfl : T = 203 := (by omega); rfl) | rw [if_neg (by omega)], rfl, rfl, rfl, rfl⟩)
  · skip
    refine g_iconst (v := nI 1) dX12_sortOf_18 (by decide) ?_
    exact g_iret dX12_sortOf_19 rfl (⟨by first | (obtain rfl : T = 200 := (by omega); rfl) | (obtain rfl : T = 201 := (by omega); rfl) | (obtain rfl : T = 202 := (by omega); rfl) | (obtain rfl : T = 203 := (by omega); rfl) | rw [if_neg (by omega)], rfl, rfl, rfl, rfl⟩)
theorem t_isBarred {i : Nat} (hi : i < 8) (h18 : I 202 18 = nI (srt + 1)) (hs : srt ≤ 3) : pvMet mX12_isBarred 1 0 0 [.ref 202, .int (nI (mN i))] 224 I J P (pvpu (.int (if barB srt i = true then 1 else 0)) 224 I J P) := by
  have e : mN i = if i < 3 then i else if i = 3 then 7 else i - 1 := by
    obtain rfl | rfl | rfl | rfl | rfl | rfl | rfl | rfl : i = 0 ∨ i = 1 ∨ i = 2 ∨ i = 3 ∨ i = 4 ∨ i = 5 ∨ i = 6 ∨ i = 7 := by omega
    all_goals rfl
  have hm : mN i ≤ 7 := by rw [e]; split <;> (try split) <;> omega
  have hb : barB srt i = true ↔ (5 ≤ i ∧ srt ≠ 3) ∨ (i ≤ 2 ∧ srt = 2) := by unfold barB; exact decide_eq_true_iff
  have key : barB srt i = true ↔ (srt = 2 ∧ mN i ≠ 3 ∧ mN i ≠ 7) ∨ (srt ≠ 2 ∧ srt ≠ 3 ∧ 4 ≤ mN i ∧ mN i ≤ 6) := by
    rw [hb, e]
    split <;> (try split) <;> omega
  refine pvMet.of _ (by decide) rfl (Nat.le_of_ble_eq_true rfl) ?_
  refine g_aload_n dX12_isBarred_0 rfl ?_
  refine n_getI dX12_isBarred_1 fdX12_246 rfl (by first | rfl | exact pv_shx) (by omega) (by omega) (by decide) rfl (by repeat (first | exact h18 | (apply rd_s; done) | apply rd_n (by omega) | apply rp_s | apply rp_n (by omega) | (apply rdL_s; done) | apply rdL_n (by omega) | apply rpJ_s | apply rpJ_n (by omega) | rfl)) ?_
  refine g_iconst (v := nI 3) dX12_isBarred_4 (by decide) ?_
  refine n_icmp_ne 27 dX12_isBarred_5 (by decide) (by first | ((with_reducible apply cN_eq) <;> omega) | ((with_reducible apply cI_eqn) <;> omega) | exact Iff.rfl) (fun c5 => ?_) (fun c5 => ?_)
  · skip
    refine g_aload_n dX12_isBarred_27 rfl ?_
    refine n_getI dX12_isBarred_28 fdX12_246 rfl (by first | rfl | exact pv_shx) (by omega) (by omega) (by decide) rfl (by repeat (first | exact h18 | (apply rd_s; done) | apply rd_n (by omega) | apply rp_s | apply rp_n (by omega) | (apply rdL_s; done) | apply rdL_n (by omega) | apply rpJ_s | apply rpJ_n (by omega) | rfl)) ?_
    refine g_iconst (v := nI 4) dX12_isBarred_31 (by decide) ?_
    refine n_icmp_eq 49 dX12_isBarred_32 (by decide) (by first | ((with_reducible apply cN_eq) <;> omega) | ((with_reducible apply cI_eqn) <;> omega) | exact Iff.rfl) (fun c32 => ?_) (fun c32 => ?_)
    · skip
      refine g_iconst (v := nI 0) dX12_isBarred_49 (by decide) ?_
      exact g_zret (by first | exact Or.inl rfl | exact Or.inr rfl | exact cB01 _) dX12_isBarred_50 rfl (⟨by first | rw [if_pos (key.mpr (by omega))]; rfl | rw [if_neg (fun z => by have := key.mp z; omega)]; rfl, rfl, rfl, rfl, rfl⟩)
    · skip
      refine g_iload_n dX12_isBarred_35 rfl ?_
      refine g_iconst (v := nI 4) dX12_isBarred_36 (by decide) ?_
      refine g_bipush (v := nI 6) dX12_isBarred_37 (by decide) ?_
      refine p_callS (t_isIn (L := 4) (H := 6) (by decide) (by decide)) okX12_isIn lkX12_96 rfl dX12_isBarred_39 rfl (Nat.le_of_ble_eq_true rfl) (⟨by decide, by decide, by decide, by decide⟩) ?_
      rw [nI_toInt (by omega : mN i < 2 ^ 31)]
      refine n_if_eq 49 dX12_isBarred_42 (by decide) (by first | (with_reducible exact cB _) | ((with_reducible apply cN_eq0) <;> omega) | exact Iff.rfl) (fun c42 => ?_) (fun c42 => ?_)
      · skip
        refine g_iconst (v := nI 0) dX12_isBarred_49 (by decide) ?_
        exact g_zret (by first | exact Or.inl rfl | exact Or.inr rfl | exact cB01 _) dX12_isBarred_50 rfl (⟨by first | rw [if_pos (key.mpr (by omega))]; rfl | rw [if_neg (fun z => by have := key.mp z; omega)]; rfl, rfl, rfl, rfl, rfl⟩)
      · skip
        refine g_iconst (v := nI 1) dX12_isBarred_45 (by decide) ?_
        refine g_goto 50 dX12_isBarred_46 (by decide) ?_
        exact g_zret (by first | exact Or.inl rfl | exact Or.inr rfl | exact cB01 _) dX12_isBarred_50 rfl (⟨by first | rw [if_pos (key.mpr (by omega))]; rfl | rw [if_neg (fun z => by have := key.mp z; omega)]; rfl, rfl, rfl, rfl, rfl⟩)
  · skip
    refine g_iload_n dX12_isBarred_8 rfl ?_
    refine g_iconst (v := nI 3) dX12_isBarred_9 (by decide) ?_
    refine n_icmp_eq 23 dX12_isBarred_10 (by decide) (by first | ((with_reducible apply cN_eq) <;> omega) | ((with_reducible apply cI_eqn) <;> omega) | exact Iff.rfl) (fun c10 => ?_) (fun c10 => ?_)
    · skip
      refine g_iconst (v := nI 0) dX12_isBarred_23 (by decide) ?_
      refine g_goto 50 dX12_isBarred_24 (by decide) ?_
      exact g_zret (by first | exact Or.inl rfl | exact Or.inr rfl | exact cB01 _) dX12_isBarred_50 rfl (⟨by first | rw [if_pos (key.mpr (by omega))]; rfl | rw [if_neg (fun z => by have := key.mp z; omega)]; rfl, rfl, rfl, rfl, rfl⟩)
    · skip
      refine g_iload_n dX12_isBarred_13 rfl ?_
      refine g_bipush (v := nI 7) dX12_isBarred_14 (by decide) ?_
      refine n_icmp_eq 23 dX12_isBarred_16 (by decide) (by first | ((with_reducible apply cN_eq) <;> omega) | ((with_reducible apply cI_eqn) <;> omega) | exact Iff.rfl) (fun c16 => ?_) (fun c16 => ?_)
      · skip
        refine g_iconst (v := nI 0) dX12_isBarred_23 (by decide) ?_
        refine g_goto 50 dX12_isBarred_24 (by decide) ?_
        exact g_zret (by first | exact Or.inl rfl | exact Or.inr rfl | exact cB01 _) dX12_isBarred_50 rfl (⟨by first | rw [if_pos (key.mpr (by omega))]; rfl | rw [if_neg (fun z => by have := key.mp z; omega)]; rfl, rfl, rfl, rfl, rfl⟩)
      · skip
        refine g_iconst (v := nI 1) dX12_isBarred_19 (by decide) ?_
        refine g_goto 50 dX12_isBarred_20 (by decide) ?_
        exact g_zret (by first | exact Or.inl rfl | exact Or.inr rfl | exact cB01 _) dX12_isBarred_50 rfl (⟨by first | rw [if_pos (key.mpr (by omega))]; rfl | rw [if_neg (fun z => by have := key.mp z; omega)]; rfl, rfl, rfl, rfl, rfl⟩)
theorem t_goesOn {T : Nat} (hP : pvOkP P) (h : mS tx n t0 I0 J0 I J k pl op wh cd) (hT : tkK tx n k = T) (h3 : pl.length ≤ 160) (h5 : plV pl) : pvMet mX12_goesOn 1 0 0 [.ref 202] 224 I J P (pvpu (.int (if T = 43 ∨ T = 45 ∨ T = 42 ∨ T = 47 ∨ (T = 41 ∧ 40 ∈ pl) then 1 else 0)) 224 I J P) := by
  have htk := h.tok
  rw [hT] at htk
  by_cases c : T = 43 ∨ T = 45 ∨ T = 42 ∨ T = 47 ∨ (T = 41 ∧ 40 ∈ pl)
  · rw [if_pos c]
    refine pvMet.of _ (by decide) rfl (Nat.le_of_ble_eq_true rfl) ?_
    refine g_aload_n dX12_goesOn_0 rfl ?_
    refine n_getI dX12_goesOn_1 fdX12_194 rfl (by first | rfl | exact pv_shx) (by omega) (by omega) (by decide) rfl (by repeat (first | (apply rd_s; done) | apply rd_n (by omega) | apply rp_s | apply rp_n (by omega) | (apply rdL_s; done) | apply rdL_n (by omega) | apply rpJ_s | apply rpJ_n (by omega) | rfl)) ?_
    refine g_bipush (v := nI 43) dX12_goesOn_4 (by decide) ?_
    refine n_icmp_eq 52 dX12_goesOn_6 (by decide) (tokR_s htk (by decide)) (fun c6 => ?_) (fun c6 => ?_)
    · skip
      refine g_iconst (v := nI 1) dX12_goesOn_52 (by decide) ?_
      refine g_goto 57 dX12_goesOn_53 (by decide) ?_
      exact g_zret (by first | exact Or.inl rfl | exact Or.inr rfl | exact cB01 _) dX12_goesOn_57 rfl (⟨rfl, rfl, rfl, rfl, rfl⟩)
    · skip
      refine g_aload_n dX12_goesOn_9 rfl ?_
      refine n_getI dX12_goesOn_10 fdX12_194 rfl (by first | rfl | exact pv_shx) (by omega) (by omega) (by decide) rfl (by repeat (first | (apply rd_s; done) | apply rd_n (by omega) | apply rp_s | apply rp_n (by omega) | (apply rdL_s; done) | apply rdL_n (by omega) | apply rpJ_s | apply rpJ_n (by omega) | rfl)) ?_
      refine g_bipush (v := nI 45) dX12_goesOn_13 (by decide) ?_
      refine n_icmp_eq 52 dX12_goesOn_15 (by decide) (tokR_s htk (by decide)) (fun c15 => ?_) (fun c15 => ?_)
      · skip
        refine g_iconst (v := nI 1) dX12_goesOn_52 (by decide) ?_
        refine g_goto 57 dX12_goesOn_53 (by decide) ?_
        exact g_zret (by first | exact Or.inl rfl | exact Or.inr rfl | exact cB01 _) dX12_goesOn_57 rfl (⟨rfl, rfl, rfl, rfl, rfl⟩)
      · skip
        refine g_aload_n dX12_goesOn_18 rfl ?_
        refine n_getI dX12_goesOn_19 fdX12_194 rfl (by first | rfl | exact pv_shx) (by omega) (by omega) (by decide) rfl (by repeat (first | (apply rd_s; done) | apply rd_n (by omega) | apply rp_s | apply rp_n (by omega) | (apply rdL_s; done) | apply rdL_n (by omega) | apply rpJ_s | apply rpJ_n (by omega) | rfl)) ?_
        refine g_bipush (v := nI 42) dX12_goesOn_22 (by decide) ?_
        refine n_icmp_eq 52 dX12_goesOn_24 (by decide) (tokR_s htk (by decide)) (fun c24 => ?_) (fun c24 => ?_)
        · skip
          refine g_iconst (v := nI 1) dX12_goesOn_52 (by decide) ?_
          refine g_goto 57 dX12_goesOn_53 (by decide) ?_
          exact g_zret (by first | exact Or.inl rfl | exact Or.inr rfl | exact cB01 _) dX12_goesOn_57 rfl (⟨rfl, rfl, rfl, rfl, rfl⟩)
        · skip
          refine g_aload_n dX12_goesOn_27 rfl ?_
          refine n_getI dX12_goesOn_28 fdX12_194 rfl (by first | rfl | exact pv_shx) (by omega) (by omega) (by decide) rfl (by repeat (first | (apply rd_s; done) | apply rd_n (by omega) | apply rp_s | apply rp_n (by omega) | (apply rdL_s; done) | apply rdL_n (by omega) | apply rpJ_s | apply rpJ_n (by omega) | rfl)) ?_
          refine g_bipush (v := nI 47) dX12_goesOn_31 (by decide) ?_
          refine n_icmp_eq 52 dX12_goesOn_33 (by decide) (tokR_s htk (by decide)) (fun c33 => ?_) (fun c33 => ?_)
          · skip
            refine g_iconst (v := nI 1) dX12_goesOn_52 (by decide) ?_
            refine g_goto 57 dX12_goesOn_53 (by decide) ?_
            exact g_zret (by first | exact Or.inl rfl | exact Or.inr rfl | exact cB01 _) dX12_goesOn_57 rfl (⟨rfl, rfl, rfl, rfl, rfl⟩)
          · skip
            refine g_aload_n dX12_goesOn_36 rfl ?_
            refine n_getI dX12_goesOn_37 fdX12_194 rfl (by first | rfl | exact pv_shx) (by omega) (by omega) (by decide) rfl (by repeat (first | (apply rd_s; done) | apply rd_n (by omega) | apply rp_s | apply rp_n (by omega) | (apply rdL_s; done) | apply rdL_n (by omega) | apply rpJ_s | apply rpJ_n (by omega) | rfl)) ?_
            refine g_bipush (v := nI 41) dX12_goesOn_40 (by decide) ?_
            refine n_icmp_ne 56 dX12_goesOn_42 (by decide) (tokR_s htk (by decide)) (fun c42 => ?_) (fun c42 => ?_)
            · skip
              exfalso; first | (rcases c with c | c | c | c | c <;> omega) | (rcases c with c | c | c | c | c <;> first | omega | exact absurd c.2 (by assumption))
            · skip
              refine g_aload_n dX12_goesOn_45 rfl ?_
              refine p_callV (t_hasParen hP h h3 h5) okX12_hasParen lkX12_265 rfl (by first | rfl | exact pv_shx) rfl (by omega) (by omega) dX12_goesOn_46 rfl (Nat.le_of_ble_eq_true rfl) (⟨by decide, by decide, by decide, by decide⟩) ?_
              refine n_if_eq 56 dX12_goesOn_49 (by decide) (by first | (with_reducible exact cB _) | ((with_reducible apply cN_eq0) <;> omega) | exact Iff.rfl) (fun c49 => ?_) (fun c49 => ?_)
              · skip
                exfalso; first | (rcases c with c | c | c | c | c <;> omega) | (rcases c with c | c | c | c | c <;> first | omega | exact absurd c.2 (by assumption))
              · skip
                refine g_iconst (v := nI 1) dX12_goesOn_52 (by decide) ?_
                refine g_goto 57 dX12_goesOn_53 (by decide) ?_
                exact g_zret (by first | exact Or.inl rfl | exact Or.inr rfl | exact cB01 _) dX12_goesOn_57 rfl (⟨rfl, rfl, rfl, rfl, rfl⟩)
  · rw [if_neg c]
    refine pvMet.of _ (by decide) rfl (Nat.le_of_ble_eq_true rfl) ?_
    refine g_aload_n dX12_goesOn_0 rfl ?_
    refine n_getI dX12_goesOn_1 fdX12_194 rfl (by first | rfl | exact pv_shx) (by omega) (by omega) (by decide) rfl (by repeat (first | (apply rd_s; done) | apply rd_n (by omega) | apply rp_s | apply rp_n (by omega) | (apply rdL_s; done) | apply rdL_n (by omega) | apply rpJ_s | apply rpJ_n (by omega) | rfl)) ?_
    refine g_bipush (v := nI 43) dX12_goesOn_4 (by decide) ?_
    refine n_icmp_eq 52 dX12_goesOn_6 (by decide) (tokR_s htk (by decide)) (fun c6 => ?_) (fun c6 => ?_)
    · skip
      exfalso; omega
    · skip
      refine g_aload_n dX12_goesOn_9 rfl ?_
      refine n_getI dX12_goesOn_10 fdX12_194 rfl (by first | rfl | exact pv_shx) (by omega) (by omega) (by decide) rfl (by repeat (first | (apply rd_s; done) | apply rd_n (by omega) | apply rp_s | apply rp_n (by omega) | (apply rdL_s; done) | apply rdL_n (by omega) | apply rpJ_s | apply rpJ_n (by omega) | rfl)) ?_
      refine g_bipush (v := nI 45) dX12_goesOn_13 (by decide) ?_
      refine n_icmp_eq 52 dX12_goesOn_15 (by decide) (tokR_s htk (by decide)) (fun c15 => ?_) (fun c15 => ?_)
      · skip
        exfalso; omega
      · skip
        refine g_aload_n dX12_goesOn_18 rfl ?_
        refine n_getI dX12_goesOn_19 fdX12_194 rfl (by first | rfl | exact pv_shx) (by omega) (by omega) (by decide) rfl (by repeat (first | (apply rd_s; done) | apply rd_n (by omega) | apply rp_s | apply rp_n (by omega) | (apply rdL_s; done) | apply rdL_n (by omega) | apply rpJ_s | apply rpJ_n (by omega) | rfl)) ?_
        refine g_bipush (v := nI 42) dX12_goesOn_22 (by decide) ?_
        refine n_icmp_eq 52 dX12_goesOn_24 (by decide) (tokR_s htk (by decide)) (fun c24 => ?_) (fun c24 => ?_)
        · skip
          exfalso; omega
        · skip
          refine g_aload_n dX12_goesOn_27 rfl ?_
          refine n_getI dX12_goesOn_28 fdX12_194 rfl (by first | rfl | exact pv_shx) (by omega) (by omega) (by decide) rfl (by repeat (first | (apply rd_s; done) | apply rd_n (by omega) | apply rp_s | apply rp_n (by omega) | (apply rdL_s; done) | apply rdL_n (by omega) | apply rpJ_s | apply rpJ_n (by omega) | rfl)) ?_
          refine g_bipush (v := nI 47) dX12_goesOn_31 (by decide) ?_
          refine n_icmp_eq 52 dX12_goesOn_33 (by decide) (tokR_s htk (by decide)) (fun c33 => ?_) (fun c33 => ?_)
          · skip
            exfalso; omega
          · skip
            refine g_aload_n dX12_goesOn_36 rfl ?_
            refine n_getI dX12_goesOn_37 fdX12_194 rfl (by first | rfl | exact pv_shx) (by omega) (by omega) (by decide) rfl (by repeat (first | (apply rd_s; done) | apply rd_n (by omega) | apply rp_s | apply rp_n (by omega) | (apply rdL_s; done) | apply rdL_n (by omega) | apply rpJ_s | apply rpJ_n (by omega) | rfl)) ?_
            refine g_bipush (v := nI 41) dX12_goesOn_40 (by decide) ?_
            refine n_icmp_ne 56 dX12_goesOn_42 (by decide) (tokR_s htk (by decide)) (fun c42 => ?_) (fun c42 => ?_)
            · skip
              refine g_iconst (v := nI 0) dX12_goesOn_56 (by decide) ?_
              exact g_zret (by first | exact Or.inl rfl | exact Or.inr rfl | exact cB01 _) dX12_goesOn_57 rfl (⟨rfl, rfl, rfl, rfl, rfl⟩)
            · skip
              refine g_aload_n dX12_goesOn_45 rfl ?_
              refine p_callV (t_hasParen hP h h3 h5) okX12_hasParen lkX12_265 rfl (by first | rfl | exact pv_shx) rfl (by omega) (by omega) dX12_goesOn_46 rfl (Nat.le_of_ble_eq_true rfl) (⟨by decide, by decide, by decide, by decide⟩) ?_
              refine n_if_eq 56 dX12_goesOn_49 (by decide) (by first | (with_reducible exact cB _) | ((with_reducible apply cN_eq0) <;> omega) | exact Iff.rfl) (fun c49 => ?_) (fun c49 => by exfalso; exact c (Or.inr (Or.inr (Or.inr (Or.inr ⟨c42, Classical.not_not.mp c49⟩)))))
              refine g_iconst (v := nI 0) dX12_goesOn_56 (by decide) ?_
              exact g_zret (by first | exact Or.inl rfl | exact Or.inr rfl | exact cB01 _) dX12_goesOn_57 rfl (⟨rfl, rfl, rfl, rfl, rfl⟩)
end MW
