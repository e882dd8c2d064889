/-! evaluating a clause -/
abbrev lI (v : Int) : Int64 := Int64.ofInt v
abbrev iI (v : Int) : Int32 := Int32.ofInt v
def smI (v : Int) : Prop := -1000000000 ≤ v ∧ v ≤ 1000000000
theorem lI_toInt {v : Int} (h1 : -(2 ^ 62) ≤ v) (h2 : v ≤ 2 ^ 62) : (lI v).toInt = v := Int64.toInt_ofInt_of_le (by omega) (by omega)
theorem lI_lt {a b : Int} (h1 : -(2 ^ 62) ≤ a) (h2 : a ≤ 2 ^ 62) (h3 : -(2 ^ 62) ≤ b) (h4 : b ≤ 2 ^ 62) : lI a < lI b ↔ a < b := by rw [Int64.lt_iff_toInt_lt, lI_toInt h1 h2, lI_toInt h3 h4]
theorem lI_le {a b : Int} (h1 : -(2 ^ 62) ≤ a) (h2 : a ≤ 2 ^ 62) (h3 : -(2 ^ 62) ≤ b) (h4 : b ≤ 2 ^ 62) : lI a ≤ lI b ↔ a ≤ b := by rw [Int64.le_iff_toInt_le, lI_toInt h1 h2, lI_toInt h3 h4]
theorem lI_eq {a b : Int} (h1 : -(2 ^ 62) ≤ a) (h2 : a ≤ 2 ^ 62) (h3 : -(2 ^ 62) ≤ b) (h4 : b ≤ 2 ^ 62) : lI a = lI b ↔ a = b := by rw [← Int64.toInt_inj, lI_toInt h1 h2, lI_toInt h3 h4]
def clI (v : Int) : Int := if 1000000000 < v then 1000000000 else if v < -1000000000 then -1000000000 else v
theorem clI_sm (v : Int) : smI (clI v) := by
  unfold clI smI
  split
  · omega
  · split <;> omega
theorem l_ge9 {v : Int} (h1 : -(2 ^ 62) ≤ v) (h2 : v ≤ 2 ^ 62) : (-1000000000 : Int64) ≤ lI v ↔ -1000000000 ≤ v := by
  rw [show (-1000000000 : Int64) = lI (-1000000000) by decide]
  exact lI_le (by decide) (by decide) h1 h2
theorem t_clip {nx : Nat} {I : pvI} {J : pvJ} {P : pvP} {v : Int} (h1 : -(2 ^ 62) ≤ v) (h2 : v ≤ 2 ^ 62) : pvMet mX12_clip 0 0 0 [.long (lI v)] nx I J P (pvpu (.long (lI (clI v))) nx I J P) := by
  refine pvMet.of _ (by decide) rfl (Nat.le_of_ble_eq_true rfl) ?_
  refine g_lload_n dX12_clip_0 rfl ?_
  refine g_ldc2 (v := (1000000000 : Int64)) dX12_clip_1 kcX12_320 ?_
  refine g_lcmp dX12_clip_4 ?_
  refine n_if_le 14 dX12_clip_5 (by decide) ((lg_cmp_le _ _).trans (lI_le (b := 1000000000) h1 h2 (by decide) (by decide))) (fun c5 => ?_) (fun c5 => ?_)
  · skip
    refine g_lload_n dX12_clip_14 rfl ?_
    refine g_ldc2 (v := (-1000000000 : Int64)) dX12_clip_15 kcX12_322 ?_
    refine g_lcmp dX12_clip_18 ?_
    refine n_if_ge 28 dX12_clip_19 (by decide) ((lg_cmp_ge _ _).trans (l_ge9 h1 h2)) (fun c19 => ?_) (fun c19 => ?_)
    · skip
      refine g_lload_n dX12_clip_28 rfl ?_
      exact g_lret dX12_clip_29 rfl (⟨by unfold clI; first | (rw [if_pos (by omega)]; rfl) | (rw [if_neg (by omega), if_pos (by omega)]; rfl) | (rw [if_neg (by omega), if_neg (by omega)]), rfl, rfl, rfl, rfl⟩)
    · skip
      refine g_ldc2 (v := (-1000000000 : Int64)) dX12_clip_22 kcX12_322 ?_
      refine g_goto 29 dX12_clip_25 (by decide) ?_
      exact g_lret dX12_clip_29 rfl (⟨by unfold clI; first | (rw [if_pos (by omega)]; rfl) | (rw [if_neg (by omega), if_pos (by omega)]; rfl) | (rw [if_neg (by omega), if_neg (by omega)]), rfl, rfl, rfl, rfl⟩)
  · skip
    refine g_ldc2 (v := (1000000000 : Int64)) dX12_clip_8 kcX12_320 ?_
    refine g_goto 29 dX12_clip_11 (by decide) ?_
    exact g_lret dX12_clip_29 rfl (⟨by unfold clI; first | (rw [if_pos (by omega)]; rfl) | (rw [if_neg (by omega), if_pos (by omega)]; rfl) | (rw [if_neg (by omega), if_neg (by omega)]), rfl, rfl, rfl, rfl⟩)
/-- two values joined -/
def arX (o : Nat) (a b : Int) : Int := if o = 3 then clI (a + b) else if o = 4 then clI (a - b) else if o = 5 then clI (a * b) else if b = 0 then 0 else clI (a.tdiv b)
theorem arX_sm {o : Nat} {a b : Int} : smI (arX o a b) := by
  unfold arX
  split
  · exact clI_sm _
  · split
    · exact clI_sm _
    · split
      · exact clI_sm _
      · split
        · constructor <;> decide
        · exact clI_sm _
theorem smI_nat {a : Int} (h : smI a) : a.natAbs ≤ 1000000000 := by unfold smI at h; omega
theorem smI_mul {a b : Int} (ha : smI a) (hb : smI b) : -(2 ^ 62) ≤ a * b ∧ a * b ≤ 2 ^ 62 := by
  have h : (a * b).natAbs ≤ 1000000000 * 1000000000 := by rw [Int.natAbs_mul]; exact Nat.mul_le_mul (smI_nat ha) (smI_nat hb)
  omega
theorem smI_div {a b : Int} (ha : smI a) : -(2 ^ 62) ≤ a.tdiv b ∧ a.tdiv b ≤ 2 ^ 62 := by
  have h := Int.natAbs_tdiv_le_natAbs a b
  have h2 := smI_nat ha
  omega
theorem lI_z : lI 0 = 0 := by decide
theorem t_two3 {nx : Nat} {I : pvI} {J : pvJ} {P : pvP} {a b : Int} (ha : smI a) (hb : smI b) : pvMet mX12_two 1 0 0 [.int (nI 3), .long (lI a), .long (lI b)] nx I J P (pvpu (.long (lI (clI (a + b)))) nx I J P) := by
  unfold smI at ha hb
  have e := t_clip (nx := nx) (I := I) (J := J) (P := P) (v := a + b) (by omega) (by omega)
  rw [show lI (a + b) = lI a + lI b from Int64.ofInt_add a b] at e
  refine pvMet.of _ (by decide) rfl (Nat.le_of_ble_eq_true rfl) ?_
  refine g_iload_n dX12_two_0 rfl ?_
  refine g_tableIn 28 dX12_two_1 (by decide) (by decide) (off := 27) (by decide) (by decide) ?_
  refine g_lload_n dX12_two_28 rfl ?_
  refine g_lload_n dX12_two_29 rfl ?_
  refine n_ladd dX12_two_30 (rfl) ?_
  refine p_callS (e) okX12_clip lkX12_324 rfl dX12_two_31 rfl (Nat.le_of_ble_eq_true rfl) (⟨by decide, by decide, by decide, by decide⟩) ?_
  exact g_lret dX12_two_34 rfl (⟨rfl, rfl, rfl, rfl, rfl⟩)
theorem t_two4 {nx : Nat} {I : pvI} {J : pvJ} {P : pvP} {a b : Int} (ha : smI a) (hb : smI b) : pvMet mX12_two 1 0 0 [.int (nI 4), .long (lI a), .long (lI b)] nx I J P (pvpu (.long (lI (clI (a - b)))) nx I J P) := by
  unfold smI at ha hb
  have e := t_clip (nx := nx) (I := I) (J := J) (P := P) (v := a - b) (by omega) (by omega)
  rw [show lI (a - b) = lI a - lI b from Int64.ofInt_sub a b] at e
  refine pvMet.of _ (by decide) rfl (Nat.le_of_ble_eq_true rfl) ?_
  refine g_iload_n dX12_two_0 rfl ?_
  refine g_tableIn 35 dX12_two_1 (by decide) (by decide) (off := 34) (by decide) (by decide) ?_
  refine g_lload_n dX12_two_35 rfl ?_
  refine g_lload_n dX12_two_36 rfl ?_
  refine n_lsub dX12_two_37 (rfl) ?_
  refine p_callS (e) okX12_clip lkX12_324 rfl dX12_two_38 rfl (Nat.le_of_ble_eq_true rfl) (⟨by decide, by decide, by decide, by decide⟩) ?_
  exact g_lret dX12_two_41 rfl (⟨rfl, rfl, rfl, rfl, rfl⟩)
theorem t_two5 {nx : Nat} {I : pvI} {J : pvJ} {P : pvP} {a b : Int} (ha : smI a) (hb : smI b) : pvMet mX12_two 1 0 0 [.int (nI 5), .long (lI a), .long (lI b)] nx I J P (pvpu (.long (lI (clI (a * b)))) nx I J P) := by
  have e := t_clip (nx := nx) (I := I) (J := J) (P := P) (v := a * b) (smI_mul ha hb).1 (smI_mul ha hb).2
  rw [show lI (a * b) = lI a * lI b from Int64.ofInt_mul a b] at e
  refine pvMet.of _ (by decide) rfl (Nat.le_of_ble_eq_true rfl) ?_
  refine g_iload_n dX12_two_0 rfl ?_
  refine g_tableIn 42 dX12_two_1 (by decide) (by decide) (off := 41) (by decide) (by decide) ?_
  refine g_lload_n dX12_two_42 rfl ?_
  refine g_lload_n dX12_two_43 rfl ?_
  refine n_lmul dX12_two_44 (rfl) ?_
  refine p_callS (e) okX12_clip lkX12_324 rfl dX12_two_45 rfl (Nat.le_of_ble_eq_true rfl) (⟨by decide, by decide, by decide, by decide⟩) ?_
  exact g_lret dX12_two_48 rfl (⟨rfl, rfl, rfl, rfl, rfl⟩)
theorem lI_div {a b : Int} (ha : smI a) (hb : smI b) : lI (a.tdiv b) = lI a / lI b := by
  unfold smI at ha hb
  exact Int64.ofInt_tdiv (by rw [Int64.toInt_minValue]; omega) (by rw [Int64.toInt_maxValue]; omega) (by rw [Int64.toInt_minValue]; omega) (by rw [Int64.toInt_maxValue]; omega)
theorem lI_eq0 {b : Int} (hb : smI b) : lI b = 0 ↔ b = 0 := by
  unfold smI at hb
  rw [← lI_z]
  exact lI_eq (by omega) (by omega) (by decide) (by decide)
theorem t_two6 {nx : Nat} {I : pvI} {J : pvJ} {P : pvP} {a b : Int} (ha : smI a) (hb : smI b) : pvMet mX12_two 1 0 0 [.int (nI 6), .long (lI a), .long (lI b)] nx I J P (pvpu (.long (lI (if b = 0 then 0 else clI (a.tdiv b)))) nx I J P) := by
  have e := t_clip (nx := nx) (I := I) (J := J) (P := P) (v := a.tdiv b) (smI_div ha).1 (smI_div ha).2
  rw [lI_div ha hb] at e
  have hz := lI_eq0 hb
  refine pvMet.of _ (by decide) rfl (Nat.le_of_ble_eq_true rfl) ?_
  refine g_iload_n dX12_two_0 rfl ?_
  refine g_tableOut 49 dX12_two_1 (by decide) (by decide) ?_
  refine g_lload_n dX12_two_49 rfl ?_
  refine g_lconst (v := 0) dX12_two_50 (by decide) ?_
  refine g_lcmp dX12_two_51 ?_
  refine n_if_ne 59 dX12_two_52 (by decide) ((lg_cmp_eq _ _).trans hz) (fun c52 => ?_) (fun c52 => ?_)
  · skip
    refine g_lload_n dX12_two_59 rfl ?_
    refine g_lload_n dX12_two_60 rfl ?_
    refine n_ldiv dX12_two_61 (fun z => c52 (hz.mp z)) (rfl) ?_
    refine p_callS (e) okX12_clip lkX12_324 rfl dX12_two_62 rfl (Nat.le_of_ble_eq_true rfl) (⟨by decide, by decide, by decide, by decide⟩) ?_
    exact g_lret dX12_two_65 rfl (⟨by first | (rw [if_pos c52, lI_z]) | (rw [if_neg c52]), rfl, rfl, rfl, rfl⟩)
  · skip
    refine g_lconst (v := 0) dX12_two_55 (by decide) ?_
    refine g_goto 65 dX12_two_56 (by decide) ?_
    exact g_lret dX12_two_65 rfl (⟨by first | (rw [if_pos c52, lI_z]) | (rw [if_neg c52]), rfl, rfl, rfl, rfl⟩)
theorem t_two {nx o : Nat} {I : pvI} {J : pvJ} {P : pvP} {a b : Int} (ho : 3 ≤ o ∧ o ≤ 6) (ha : smI a) (hb : smI b) : pvMet mX12_two 1 0 0 [.int (nI o), .long (lI a), .long (lI b)] nx I J P (pvpu (.long (lI (arX o a b))) nx I J P) := by
  rcases (show o = 3 ∨ o = 4 ∨ o = 5 ∨ o = 6 by omega) with rfl | rfl | rfl | rfl
  · have e : arX 3 a b = clI (a + b) := by unfold arX; simp
    rw [e]; exact t_two3 ha hb
  · have e : arX 4 a b = clI (a - b) := by unfold arX; simp
    rw [e]; exact t_two4 ha hb
  · have e : arX 5 a b = clI (a * b) := by unfold arX; simp
    rw [e]; exact t_two5 ha hb
  · have e : arX 6 a b = if b = 0 then 0 else clI (a.tdiv b) := by unfold arX; simp
    rw [e]; exact t_two6 ha hb
def cpO (o : Nat) (a b : Int) : Bool := if o = 10 then decide (a < b) else if o = 11 then decide (a ≤ b) else if o = 12 then decide (b < a) else if o = 13 then decide (b ≤ a) else if o = 14 then decide (a = b) else decide (¬ a = b)
theorem t_isAsked {nx o : Nat} {I : pvI} {J : pvJ} {P : pvP} {a b : Int} (ho : 10 ≤ o ∧ o ≤ 15) (ha : smI a) (hb : smI b) : pvMet mX12_isAsked 0 0 0 [.int (nI o), .long (lI a), .long (lI b)] nx I J P (pvpu (.int (if cpO o a b = true then 1 else 0)) nx I J P) := by
  unfold smI at ha hb
  rcases (show o = 10 ∨ o = 11 ∨ o = 12 ∨ o = 13 ∨ o = 14 ∨ o = 15 by omega) with rfl | rfl | rfl | rfl | rfl | rfl
  · rw [show cpO 10 a b = decide (a < b) from rfl]
    refine pvMet.of _ (by decide) rfl (Nat.le_of_ble_eq_true rfl) ?_
    refine g_iload_n dX12_isAsked_0 rfl ?_
    refine g_bipush (v := nI 10) dX12_isAsked_1 (by decide) ?_
    refine n_icmp_ne 20 dX12_isAsked_3 (by decide) (by first | ((with_reducible apply cN_eq) <;> omega) | ((with_reducible apply cI_eqn) <;> omega) | exact Iff.rfl) (fun c3 => by exfalso; first | omega | exact absurd trivial c3 | exact c3) (fun c3 => ?_)
    refine g_lload_n dX12_isAsked_6 rfl ?_
    refine g_lload_n dX12_isAsked_7 rfl ?_
    refine g_lcmp dX12_isAsked_8 ?_
    refine n_if_ge 16 dX12_isAsked_9 (by decide) ((lg_cmp_ge _ _).trans (lI_le (by omega) (by omega) (by omega) (by omega))) (fun c9 => ?_) (fun c9 => ?_)
    · skip
      refine g_iconst (v := nI 0) dX12_isAsked_16 (by decide) ?_
      refine g_goto 111 dX12_isAsked_17 (by decide) ?_
      exact g_zret (by first | exact Or.inl rfl | exact Or.inr rfl | exact cB01 _) dX12_isAsked_111 rfl (⟨by first | (rw [if_pos (decide_eq_true (by omega))]; rfl) | (rw [if_neg (by rw [decide_eq_true_iff]; omega)]; rfl), rfl, rfl, rfl, rfl⟩)
    · skip
      refine g_iconst (v := nI 1) dX12_isAsked_12 (by decide) ?_
      refine g_goto 111 dX12_isAsked_13 (by decide) ?_
      exact g_zret (by first | exact Or.inl rfl | exact Or.inr rfl | exact cB01 _) dX12_isAsked_111 rfl (⟨by first | (rw [if_pos (decide_eq_true (by omega))]; rfl) | (rw [if_neg (by rw [decide_eq_true_iff]; omega)]; rfl), rfl, rfl, rfl, rfl⟩)
  · rw [show cpO 11 a b = decide (a ≤ b) from rfl]
    refine pvMet.of _ (by decide) rfl (Nat.le_of_ble_eq_true rfl) ?_
    refine g_iload_n dX12_isAsked_0 rfl ?_
    refine g_bipush (v := nI 10) dX12_isAsked_1 (by decide) ?_
    refine n_icmp_ne 20 dX12_isAsked_3 (by decide) (by first | ((with_reducible apply cN_eq) <;> omega) | ((with_reducible apply cI_eqn) <;> omega) | exact Iff.rfl) (fun c3 => ?_) (fun c3 => by exfalso; first | omega | exact absurd trivial c3 | exact c3)
    refine g_iload_n dX12_isAsked_20 rfl ?_
    refine g_bipush (v := nI 11) dX12_isAsked_21 (by decide) ?_
    refine n_icmp_ne 40 dX12_isAsked_23 (by decide) (by first | ((with_reducible apply cN_eq) <;> omega) | ((with_reducible apply cI_eqn) <;> omega) | exact Iff.rfl) (fun c23 => by exfalso; first | omega | exact absurd trivial c23 | exact c23) (fun c23 => ?_)
    refine g_lload_n dX12_isAsked_26 rfl ?_
    refine g_lload_n dX12_isAsked_27 rfl ?_
    refine g_lcmp dX12_isAsked_28 ?_
    refine n_if_gt 36 dX12_isAsked_29 (by decide) ((lg_cmp_gt _ _).trans (lI_lt (by omega) (by omega) (by omega) (by omega))) (fun c29 => ?_) (fun c29 => ?_)
    · skip
      refine g_iconst (v := nI 0) dX12_isAsked_36 (by decide) ?_
      refine g_goto 111 dX12_isAsked_37 (by decide) ?_
      exact g_zret (by first | exact Or.inl rfl | exact Or.inr rfl | exact cB01 _) dX12_isAsked_111 rfl (⟨by first | (rw [if_pos (decide_eq_true (by omega))]; rfl) | (rw [if_neg (by rw [decide_eq_true_iff]; omega)]; rfl), rfl, rfl, rfl, rfl⟩)
    · skip
      refine g_iconst (v := nI 1) dX12_isAsked_32 (by decide) ?_
      refine g_goto 111 dX12_isAsked_33 (by decide) ?_
      exact g_zret (by first | exact Or.inl rfl | exact Or.inr rfl | exact cB01 _) dX12_isAsked_111 rfl (⟨by first | (rw [if_pos (decide_eq_true (by omega))]; rfl) | (rw [if_neg (by rw [decide_eq_true_iff]; omega)]; rfl), rfl, rfl, rfl, rfl⟩)
  · rw [show cpO 12 a b = decide (b < a) from rfl]
    refine pvMet.of _ (by decide) rfl (Nat.le_of_ble_eq_true rfl) ?_
    refine g_iload_n dX12_isAsked_0 rfl ?_
    refine g_bipush (v := nI 10) dX12_isAsked_1 (by decide) ?_
    refine n_icmp_ne 20 dX12_isAsked_3 (by decide) (by first | ((with_reducible apply cN_eq) <;> omega) | ((with_reducible apply cI_eqn) <;> omega) | exact Iff.rfl) (fun c3 => ?_) (fun c3 => by exfalso; first | omega | exact absurd trivial c3 | exact c3)
    refine g_iload_n dX12_isAsked_20 rfl ?_
    refine g_bipush (v := nI 11) dX12_isAsked_21 (by decide) ?_
    refine n_icmp_ne 40 dX12_isAsked_23 (by decide) (by first | ((with_reducible apply cN_eq) <;> omega) | ((with_reducible apply cI_eqn) <;> omega) | exact Iff.rfl) (fun c23 => ?_) (fun c23 => by exfalso; first | omega | exact absurd trivial c23 | exact c23)
    refine g_iload_n dX12_isAsked_40 rfl ?_
    refine g_bipush (v := nI 12) dX12_isAsked_41 (by decide) ?_
    refine n_icmp_ne 60 dX12_isAsked_43 (by decide) (by first | ((with_reducible apply cN_eq) <;> omega) | ((with_reducible apply cI_eqn) <;> omega) | exact Iff.rfl) (fun c43 => by exfalso; first | omega | exact absurd trivial c43 | exact c43) (fun c43 => ?_)
    refine g_lload_n dX12_isAsked_46 rfl ?_
    refine g_lload_n dX12_isAsked_47 rfl ?_
    refine g_lcmp dX12_isAsked_48 ?_
    refine n_if_le 56 dX12_isAsked_49 (by decide) ((lg_cmp_le _ _).trans (lI_le (by omega) (by omega) (by omega) (by omega))) (fun c49 => ?_) (fun c49 => ?_)
    · skip
      refine g_iconst (v := nI 0) dX12_isAsked_56 (by decide) ?_
      refine g_goto 111 dX12_isAsked_57 (by decide) ?_
      exact g_zret (by first | exact Or.inl rfl | exact Or.inr rfl | exact cB01 _) dX12_isAsked_111 rfl (⟨by first | (rw [if_pos (decide_eq_true (by omega))]; rfl) | (rw [if_neg (by rw [decide_eq_true_iff]; omega)]; rfl), rfl, rfl, rfl, rfl⟩)
    · skip
      refine g_iconst (v := nI 1) dX12_isAsked_52 (by decide) ?_
      refine g_goto 111 dX12_isAsked_53 (by decide) ?_
      exact g_zret (by first | exact Or.inl rfl | exact Or.inr rfl | exact cB01 _) dX12_isAsked_111 rfl (⟨by first | (rw [if_pos (decide_eq_true (by omega))]; rfl) | (rw [if_neg (by rw [decide_eq_true_iff]; omega)]; rfl), rfl, rfl, rfl, rfl⟩)
  · rw [show cpO 13 a b = decide (b ≤ a) from rfl]
    refine pvMet.of _ (by decide) rfl (Nat.le_of_ble_eq_true rfl) ?_
    refine g_iload_n dX12_isAsked_0 rfl ?_
    refine g_bipush (v := nI 10) dX12_isAsked_1 (by decide) ?_
    refine n_icmp_ne 20 dX12_isAsked_3 (by decide) (by first | ((with_reducible apply cN_eq) <;> omega) | ((with_reducible apply cI_eqn) <;> omega) | exact Iff.rfl) (fun c3 => ?_) (fun c3 => by exfalso; first | omega | exact absurd trivial c3 | exact c3)
    refine g_iload_n dX12_isAsked_20 rfl ?_
    refine g_bipush (v := nI 11) dX12_isAsked_21 (by decide) ?_
    refine n_icmp_ne 40 dX12_isAsked_23 (by decide) (by first | ((with_reducible apply cN_eq) <;> omega) | ((with_reducible apply cI_eqn) <;> omega) | exact Iff.rfl) (fun c23 => ?_) (fun c23 => by exfalso; first | omega | exact absurd trivial c23 | exact c23)
    refine g_iload_n dX12_isAsked_40 rfl ?_
    refine g_bipush (v := nI 12) dX12_isAsked_41 (by decide) ?_
    refine n_icmp_ne 60 dX12_isAsked_43 (by decide) (by first | ((with_reducible apply cN_eq) <;> omega) | ((with_reducible apply cI_eqn) <;> omega) | exact Iff.rfl) (fun c43 => ?_) (fun c43 => by exfalso; first | omega | exact absurd trivial c43 | exact c43)
    refine g_iload_n dX12_isAsked_60 rfl ?_
    refine g_bipush (v := nI 13) dX12_isAsked_61 (by decide) ?_
    refine n_icmp_ne 80 dX12_isAsked_63 (by decide) (by first | ((with_reducible apply cN_eq) <;> omega) | ((with_reducible apply cI_eqn) <;> omega) | exact Iff.rfl) (fun c63 => by exfalso; first | omega | exact absurd trivial c63 | exact c63) (fun c63 => ?_)
    refine g_lload_n dX12_isAsked_66 rfl ?_
    refine g_lload_n dX12_isAsked_67 rfl ?_
    refine g_lcmp dX12_isAsked_68 ?_
    refine n_if_lt 76 dX12_isAsked_69 (by decide) ((lg_cmp_lt _ _).trans (lI_lt (by omega) (by omega) (by omega) (by omega))) (fun c69 => ?_) (fun c69 => ?_)
    · skip
      refine g_iconst (v := nI 0) dX12_isAsked_76 (by decide) ?_
      refine g_goto 111 dX12_isAsked_77 (by decide) ?_
      exact g_zret (by first | exact Or.inl rfl | exact Or.inr rfl | exact cB01 _) dX12_isAsked_111 rfl (⟨by first | (rw [if_pos (decide_eq_true (by omega))]; rfl) | (rw [if_neg (by rw [decide_eq_true_iff]; omega)]; rfl), rfl, rfl, rfl, rfl⟩)
    · skip
      refine g_iconst (v := nI 1) dX12_isAsked_72 (by decide) ?_
      refine g_goto 111 dX12_isAsked_73 (by decide) ?_
      exact g_zret (by first | exact Or.inl rfl | exact Or.inr rfl | exact cB01 _) dX12_isAsked_111 rfl (⟨by first | (rw [if_pos (decide_eq_true (by omega))]; rfl) | (rw [if_neg (by rw [decide_eq_true_iff]; omega)]; rfl), rfl, rfl, rfl, rfl⟩)
  · rw [show cpO 14 a b = decide (a = b) from rfl]
    refine pvMet.of _ (by decide) rfl (Nat.le_of_ble_eq_true rfl) ?_
    refine g_iload_n dX12_isAsked_0 rfl ?_
    refine g_bipush (v := nI 10) dX12_isAsked_1 (by decide) ?_
    refine n_icmp_ne 20 dX12_isAsked_3 (by decide) (by first | ((with_reducible apply cN_eq) <;> omega) | ((with_reducible apply cI_eqn) <;> omega) | exact Iff.rfl) (fun c3 => ?_) (fun c3 => by exfalso; first | omega | exact absurd trivial c3 | exact c3)
    refine g_iload_n dX12_isAsked_20 rfl ?_
    refine g_bipush (v := nI 11) dX12_isAsked_21 (by decide) ?_
    refine n_icmp_ne 40 dX12_isAsked_23 (by decide) (by first | ((with_reducible apply cN_eq) <;> omega) | ((with_reducible apply cI_eqn) <;> omega) | exact Iff.rfl) (fun c23 => ?_) (fun c23 => by exfalso; first | omega | exact absurd trivial c23 | exact c23)
    refine g_iload_n dX12_isAsked_40 rfl ?_
    refine g_bipush (v := nI 12) dX12_isAsked_41 (by decide) ?_
    refine n_icmp_ne 60 dX12_isAsked_43 (by decide) (by first | ((with_reducible apply cN_eq) <;> omega) | ((with_reducible apply cI_eqn) <;> omega) | exact Iff.rfl) (fun c43 => ?_) (fun c43 => by exfalso; first | omega | exact absurd trivial c43 | exact c43)
    refine g_iload_n dX12_isAsked_60 rfl ?_
    refine g_bipush (v := nI 13) dX12_isAsked_61 (by decide) ?_
    refine n_icmp_ne 80 dX12_isAsked_63 (by decide) (by first | ((with_reducible apply cN_eq) <;> omega) | ((with_reducible apply cI_eqn) <;> omega) | exact Iff.rfl) (fun c63 => ?_) (fun c63 => by exfalso; first | omega | exact absurd trivial c63 | exact c63)
    refine g_iload_n dX12_isAsked_80 rfl ?_
    refine g_bipush (v := nI 14) dX12_isAsked_81 (by decide) ?_
    refine n_icmp_ne 100 dX12_isAsked_83 (by decide) (by first | ((with_reducible apply cN_eq) <;> omega) | ((with_reducible apply cI_eqn) <;> omega) | exact Iff.rfl) (fun c83 => by exfalso; first | omega | exact absurd trivial c83 | exact c83) (fun c83 => ?_)
    refine g_lload_n dX12_isAsked_86 rfl ?_
    refine g_lload_n dX12_isAsked_87 rfl ?_
    refine g_lcmp dX12_isAsked_88 ?_
    refine n_if_ne 96 dX12_isAsked_89 (by decide) ((lg_cmp_eq _ _).trans (lI_eq (by omega) (by omega) (by omega) (by omega))) (fun c89 => ?_) (fun c89 => ?_)
    · skip
      refine g_iconst (v := nI 0) dX12_isAsked_96 (by decide) ?_
      refine g_goto 111 dX12_isAsked_97 (by decide) ?_
      exact g_zret (by first | exact Or.inl rfl | exact Or.inr rfl | exact cB01 _) dX12_isAsked_111 rfl (⟨by first | (rw [if_pos (decide_eq_true (by omega))]; rfl) | (rw [if_neg (by rw [decide_eq_true_iff]; omega)]; rfl), rfl, rfl, rfl, rfl⟩)
    · skip
      refine g_iconst (v := nI 1) dX12_isAsked_92 (by decide) ?_
      refine g_goto 111 dX12_isAsked_93 (by decide) ?_
      exact g_zret (by first | exact Or.inl rfl | exact Or.inr rfl | exact cB01 _) dX12_isAsked_111 rfl (⟨by first | (rw [if_pos (decide_eq_true (by omega))]; rfl) | (rw [if_neg (by rw [decide_eq_true_iff]; omega)]; rfl), rfl, rfl, rfl, rfl⟩)
  · rw [show cpO 15 a b = decide (¬ a = b) from rfl]
    refine pvMet.of _ (by decide) rfl (Nat.le_of_ble_eq_true rfl) ?_
    refine g_iload_n dX12_isAsked_0 rfl ?_
    refine g_bipush (v := nI 10) dX12_isAsked_1 (by decide) ?_
    refine n_icmp_ne 20 dX12_isAsked_3 (by decide) (by first | ((with_reducible apply cN_eq) <;> omega) | ((with_reducible apply cI_eqn) <;> omega) | exact Iff.rfl) (fun c3 => ?_) (fun c3 => by exfalso; first | omega | exact absurd trivial c3 | exact c3)
    refine g_iload_n dX12_isAsked_20 rfl ?_
    refine g_bipush (v := nI 11) dX12_isAsked_21 (by decide) ?_
    refine n_icmp_ne 40 dX12_isAsked_23 (by decide) (by first | ((with_reducible apply cN_eq) <;> omega) | ((with_reducible apply cI_eqn) <;> omega) | exact Iff.rfl) (fun c23 => ?_) (fun c23 => by exfalso; first | omega | exact absurd trivial c23 | exact c23)
    refine g_iload_n dX12_isAsked_40 rfl ?_
    refine g_bipush (v := nI 12) dX12_isAsked_41 (by decide) ?_
    refine n_icmp_ne 60 dX12_isAsked_43 (by decide) (by first | ((with_reducible apply cN_eq) <;> omega) | ((with_reducible apply cI_eqn) <;> omega) | exact Iff.rfl) (fun c43 => ?_) (fun c43 => by exfalso; first | omega | exact absurd trivial c43 | exact c43)
    refine g_iload_n dX12_isAsked_60 rfl ?_
    refine g_bipush (v := nI 13) dX12_isAsked_61 (by decide) ?_
    refine n_icmp_ne 80 dX12_isAsked_63 (by decide) (by first | ((with_reducible apply cN_eq) <;> omega) | ((with_reducible apply cI_eqn) <;> omega) | exact Iff.rfl) (fun c63 => ?_) (fun c63 => by exfalso; first | omega | exact absurd trivial c63 | exact c63)
    refine g_iload_n dX12_isAsked_80 rfl ?_
    refine g_bipush (v := nI 14) dX12_isAsked_81 (by decide) ?_
    refine n_icmp_ne 100 dX12_isAsked_83 (by decide) (by first | ((with_reducible apply cN_eq) <;> omega) | ((with_reducible apply cI_eqn) <;> omega) | exact Iff.rfl) (fun c83 => ?_) (fun c83 => by exfalso; first | omega | exact absurd trivial c83 | exact c83)
    refine g_lload_n dX12_isAsked_100 rfl ?_
    refine g_lload_n dX12_isAsked_101 rfl ?_
    refine g_lcmp dX12_isAsked_102 ?_
    refine n_if_eq 110 dX12_isAsked_103 (by decide) ((lg_cmp_eq _ _).trans (lI_eq (by omega) (by omega) (by omega) (by omega))) (fun c103 => ?_) (fun c103 => ?_)
    · skip
      refine g_iconst (v := nI 0) dX12_isAsked_110 (by decide) ?_
      exact g_zret (by first | exact Or.inl rfl | exact Or.inr rfl | exact cB01 _) dX12_isAsked_111 rfl (⟨by first | (rw [if_pos (decide_eq_true (by omega))]; rfl) | (rw [if_neg (by rw [decide_eq_true_iff]; omega)]; rfl), rfl, rfl, rfl, rfl⟩)
    · skip
      refine g_iconst (v := nI 1) dX12_isAsked_106 (by decide) ?_
      refine g_goto 111 dX12_isAsked_107 (by decide) ?_
      exact g_zret (by first | exact Or.inl rfl | exact Or.inr rfl | exact cB01 _) dX12_isAsked_111 rfl (⟨by first | (rw [if_pos (decide_eq_true (by omega))]; rfl) | (rw [if_neg (by rw [decide_eq_true_iff]; omega)]; rfl), rfl, rfl, rfl, rfl⟩)
/-- one item of code -/
def evI (nm : Nat → Int) (x : Nat) (st : List Int × List Bool) : List Int × List Bool :=
  if x < 10000 then ((x : Int) :: st.1, st.2)
  else if x < 20000 then (nm (x - 10000) :: st.1, st.2)
  else if (itM x).1 = 2 then (match st.1 with | a :: r => (-a :: r, st.2) | [] => st)
  else if (itM x).1 < 10 then (match st.1 with | b :: a :: r => (arX (itM x).1 a b :: r, st.2) | _ => st)
  else if (itM x).1 < 20 then (match st.1 with | b :: a :: r => (r, cpO (itM x).1 a b :: st.2) | _ => st)
  else if (itM x).1 = 20 then (match st.2 with | t :: r => (st.1, (!t) :: r) | [] => st)
  else if (itM x).1 = 21 then (match st.2 with | u :: t :: r => (st.1, (t && u) :: r) | _ => st)
  else (match st.2 with | u :: t :: r => (st.1, (t || u) :: r) | _ => st)
def evL (nm : Nat → Int) : List Nat → List Int × List Bool → List Int × List Bool
  | [], st => st
  | x :: e, st => evL nm e (evI nm x st)
/-- how many values and truths stand behind an item -/
def ckI (x n t : Nat) : Option (Nat × Nat) :=
  if x < 20000 then some (n + 1, t) else if (itM x).1 = 2 then (if 1 ≤ n then some (n, t) else none) else if (itM x).1 < 10 then (if 2 ≤ n then some (n - 1, t) else none) else if (itM x).1 < 20 then (if n = 2 then some (0, t + 1) else none)
  else if (itM x).1 = 20 then (if n = 0 ∧ 1 ≤ t then some (n, t) else none) else (if n = 0 ∧ 2 ≤ t then some (n, t - 1) else none)
def ck : List Nat → Nat × Nat → Option (Nat × Nat)
  | [], p => some p
  | x :: e, p => (ckI x p.1 p.2).bind (ck e)
def itS : List Nat := [40000, 20043, 20045, 20042, 20047, 20060, 20002, 20062, 20003, 20061, 20035, 20206, 20205, 20204]
/-- an item that may stand in a clause of a sort -/
def itOk (srt x : Nat) : Prop := x < 10000 ∨ (∃ i, i < 8 ∧ x = 10000 + i ∧ barB srt i = false) ∨ x ∈ itS
theorem itS_ok : ∀ x, x ∈ itS → 20000 ≤ x ∧ 2 ≤ (itM x).1 ∧ (itM x).1 ≤ 22 ∧ ((itM x).1 ≤ 6 ∨ (10 ≤ (itM x).1 ∧ (itM x).1 ≤ 15) ∨ 20 ≤ (itM x).1) := by decide
theorem itM_num {x : Nat} (h : x < 10000) : itM x = (0, x) := by unfold itM; rw [if_pos h]
theorem itM_nam {i : Nat} (h : i < 8) : itM (10000 + i) = (1, mN i) := by unfold itM; rw [if_neg (by omega), if_pos (by omega), Nat.add_sub_cancel_left]
theorem mN_lt : ∀ i, i < 8 → mN i < 8 := by decide
def vsA (f : Nat → Int64) (l : List Int) : Prop := ∀ i, i < l.length → f (l.length - 1 - i) = lI (l.getD i 0)
def tsA (f : Nat → Int32) (l : List Bool) : Prop := ∀ i, i < l.length → f (l.length - 1 - i) = if l.getD i false = true then 1 else 0
theorem vsA_hd {f : Nat → Int64} {x : Int} {l : List Int} (h : vsA f (x :: l)) : f l.length = lI x := by
  have := h 0 (by simp)
  simpa using this
theorem vsA_tl {f : Nat → Int64} {x : Int} {l : List Int} (h : vsA f (x :: l)) : vsA f l := fun i hi => by
  have := h (i + 1) (by simp; omega)
  rw [List.length_cons, show l.length + 1 - 1 - (i + 1) = l.length - 1 - i by omega] at this
  exact this
theorem vsA_cons {f : Nat → Int64} {x : Int} {l : List Int} (h : vsA f l) : vsA (vp_updL f l.length (lI x)) (x :: l) := fun i hi => by
  rw [List.length_cons] at hi ⊢
  match i with
  | 0 => simp [vp_updL]
  | i + 1 =>
    rw [show l.length + 1 - 1 - (i + 1) = l.length - 1 - i by omega]
    have hne : l.length - 1 - i ≠ l.length := by omega
    simp only [vp_updL, if_neg hne]
    exact h i (by omega)
theorem tsA_hd {f : Nat → Int32} {x : Bool} {l : List Bool} (h : tsA f (x :: l)) : f l.length = if x = true then 1 else 0 := by
  have := h 0 (by simp)
  simpa using this
theorem tsA_tl {f : Nat → Int32} {x : Bool} {l : List Bool} (h : tsA f (x :: l)) : tsA f l := fun i hi => by
  have := h (i + 1) (by simp; omega)
  rw [List.length_cons, show l.length + 1 - 1 - (i + 1) = l.length - 1 - i by omega] at this
  exact this
theorem tsA_cons {f : Nat → Int32} {x : Bool} {l : List Bool} {v : Int32} (hv : v = if x = true then 1 else 0) (h : tsA f l) : tsA (upd f l.length v) (x :: l) := fun i hi => by
  rw [List.length_cons] at hi ⊢
  match i with
  | 0 => simp [upd, hv]
  | i + 1 =>
    rw [show l.length + 1 - 1 - (i + 1) = l.length - 1 - i by omega]
    have hne : l.length - 1 - i ≠ l.length := by omega
    simp only [upd, if_neg hne]
    exact h i (by omega)
