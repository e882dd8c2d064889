/-! model: the next token -/
def mTx (tx : Nat → Nat) (n : Nat) (I : pvI) : Prop := I 202 17 = nI n ∧ n ≤ 300 ∧ ∀ i, i < n → I 217 i = nI (tx i) ∧ tx i ≤ 255
theorem t_see {tx : Nat → Nat} {n p : Nat} {I : pvI} {J : pvJ} {P : pvP} (hP : pvOkP P) (ht : mTx tx n I) (hp : p ≤ n) : pvMet mX12_see 0 0 0 [.ref 202, .int (nI p)] 224 I J P (pvpu (.int (if p < n then nI (tx p) else -1)) 224 I J P) := by
  obtain ⟨h1, h2, h3⟩ := ht
  by_cases c : p < n
  · rw [if_pos c]
    have h4 := (h3 p c).1
    refine pvMet.of _ (by decide) rfl (Nat.le_of_ble_eq_true rfl) ?_
    refine g_iload_n dX12_see_0 rfl ?_
    refine g_aload_n dX12_see_1 rfl ?_
    refine n_getI dX12_see_2 fdX12_178 rfl (by first | rfl | exact pv_shx) (by omega) (by omega) (by decide) rfl (by repeat (first | exact h1 | exact h4 | (apply rd_s; done) | apply rd_n (by omega) | apply rp_s | apply rp_n (by omega) | (apply rdL_s; done) | apply rdL_n (by omega) | apply rpJ_s | apply rpJ_n (by omega) | rfl)) ?_
    refine n_icmp_ge 17 dX12_see_5 (by decide) (by first | ((with_reducible apply cN_le) <;> omega) | ((with_reducible apply cI_len) <;> omega) | ((with_reducible apply cI_nle) <;> omega) | (with_reducible exact cI_le)) (fun c5 => by exfalso; first | omega | exact absurd trivial c5 | exact c5) (fun c5 => ?_)
    refine g_aload_n dX12_see_8 rfl ?_
    refine g_getP dX12_see_9 fdX12_54 rfl (by first | rfl | exact pv_shx) (by omega) (by omega) (by decide) rfl (hP _ _ _ rfl) ?_
    refine g_iload_n dX12_see_12 rfl ?_
    refine n_iald dX12_see_13 (by first | rfl | exact pv_shx) (by omega) (by omega) (by decide) (rfl) (by omega) (by repeat (first | exact h1 | exact h4 | (apply rd_s; done) | apply rd_n (by omega) | apply rp_s | apply rp_n (by omega) | (apply rdL_s; done) | apply rdL_n (by omega) | apply rpJ_s | apply rpJ_n (by omega) | rfl)) ?_
    refine g_goto 18 dX12_see_14 (by decide) ?_
    exact g_iret dX12_see_18 rfl (⟨rfl, rfl, rfl, rfl, rfl⟩)
  · rw [if_neg c]
    refine pvMet.of _ (by decide) rfl (Nat.le_of_ble_eq_true rfl) ?_
    refine g_iload_n dX12_see_0 rfl ?_
    refine g_aload_n dX12_see_1 rfl ?_
    refine n_getI dX12_see_2 fdX12_178 rfl (by first | rfl | exact pv_shx) (by omega) (by omega) (by decide) rfl (by repeat (first | exact h1 | (apply rd_s; done) | apply rd_n (by omega) | apply rp_s | apply rp_n (by omega) | (apply rdL_s; done) | apply rdL_n (by omega) | apply rpJ_s | apply rpJ_n (by omega) | rfl)) ?_
    refine n_icmp_ge 17 dX12_see_5 (by decide) (by first | ((with_reducible apply cN_le) <;> omega) | ((with_reducible apply cI_len) <;> omega) | ((with_reducible apply cI_nle) <;> omega) | (with_reducible exact cI_le)) (fun c5 => ?_) (fun c5 => by exfalso; first | omega | exact absurd trivial c5 | exact c5)
    refine g_iconst (v := (-1)) dX12_see_17 (by decide) ?_
    exact g_iret dX12_see_18 rfl (⟨rfl, rfl, rfl, rfl, rfl⟩)
theorem t_isDigit {nx : Nat} {I : pvI} {J : pvJ} {P : pvP} {c : Nat} (hc : c ≤ 255) : pvMet mX12_isDigit 1 0 0 [.int (nI c)] nx I J P (pvpu (.int (if isDg c = true then 1 else 0)) nx I J P) := by
  refine pvMet.of _ (by decide) rfl (Nat.le_of_ble_eq_true rfl) ?_
  refine g_iload_n dX12_isDigit_0 rfl ?_
  refine g_bipush (v := nI 48) dX12_isDigit_1 (by decide) ?_
  refine g_bipush (v := nI 57) dX12_isDigit_3 (by decide) ?_
  refine p_callS (t_isIn (L := 48) (H := 57) (by decide) (by decide)) okX12_isIn lkX12_96 rfl dX12_isDigit_5 rfl (Nat.le_of_ble_eq_true rfl) (⟨by decide, by decide, by decide, by decide⟩) ?_
  exact g_zret (by first | exact Or.inl rfl | exact Or.inr rfl | exact cB01 _) dX12_isDigit_8 rfl (⟨by unfold isDg; rw [nI_toInt (by omega : c < 2 ^ 31)]; congr 2; by_cases h : 48 ≤ c ∧ c ≤ 57 <;> simp [h] <;> omega, rfl, rfl, rfl, rfl⟩)
theorem t_isDigitN {nx : Nat} {I : pvI} {J : pvJ} {P : pvP} : pvMet mX12_isDigit 1 0 0 [.int (-1)] nx I J P (pvpu (.int 0) nx I J P) := by
  refine pvMet.of _ (by decide) rfl (Nat.le_of_ble_eq_true rfl) ?_
  refine g_iload_n dX12_isDigit_0 rfl ?_
  refine g_bipush (v := nI 48) dX12_isDigit_1 (by decide) ?_
  refine g_bipush (v := nI 57) dX12_isDigit_3 (by decide) ?_
  refine p_callS (t_isIn (L := 48) (H := 57) (by decide) (by decide)) okX12_isIn lkX12_96 rfl dX12_isDigit_5 rfl (Nat.le_of_ble_eq_true rfl) (⟨by decide, by decide, by decide, by decide⟩) ?_
  exact g_zret (by first | exact Or.inl rfl | exact Or.inr rfl | exact cB01 _) dX12_isDigit_8 rfl (⟨rfl, rfl, rfl, rfl, rfl⟩)
theorem t_isLetter {nx : Nat} {I : pvI} {J : pvJ} {P : pvP} {c : Nat} (hc : c ≤ 255) : pvMet mX12_isLetter 1 0 0 [.int (nI c)] nx I J P (pvpu (.int (if isLt c = true then 1 else 0)) nx I J P) := by
  have e : (nI c).toInt = c := nI_toInt (by omega)
  by_cases h : isLt c = true
  · rw [if_pos h]
    unfold isLt at h
    rw [decide_eq_true_iff] at h
    refine pvMet.of _ (by decide) rfl (Nat.le_of_ble_eq_true rfl) ?_
    refine g_iload_n dX12_isLetter_0 rfl ?_
    refine g_bipush (v := nI 97) dX12_isLetter_1 (by decide) ?_
    refine g_bipush (v := nI 122) dX12_isLetter_3 (by decide) ?_
    refine p_callS (t_isIn (L := _) (H := _) (nI_toInt (by omega)) (nI_toInt (by omega))) okX12_isIn lkX12_96 rfl dX12_isLetter_5 rfl (Nat.le_of_ble_eq_true rfl) (⟨by decide, by decide, by decide, by decide⟩) ?_
    refine n_if_ne 22 dX12_isLetter_8 (by decide) (by first | (with_reducible exact cB _) | ((with_reducible apply cN_eq0) <;> omega) | exact Iff.rfl) (fun c8 => ?_) (fun c8 => ?_)
    · skip
      refine g_iconst (v := nI 1) dX12_isLetter_22 (by decide) ?_
      refine g_goto 27 dX12_isLetter_23 (by decide) ?_
      exact g_zret (by first | exact Or.inl rfl | exact Or.inr rfl | exact cB01 _) dX12_isLetter_27 rfl (⟨rfl, rfl, rfl, rfl, rfl⟩)
    · skip
      refine g_iload_n dX12_isLetter_11 rfl ?_
      refine g_bipush (v := nI 65) dX12_isLetter_12 (by decide) ?_
      refine g_bipush (v := nI 90) dX12_isLetter_14 (by decide) ?_
      refine p_callS (t_isIn (L := _) (H := _) (nI_toInt (by omega)) (nI_toInt (by omega))) okX12_isIn lkX12_96 rfl dX12_isLetter_16 rfl (Nat.le_of_ble_eq_true rfl) (⟨by decide, by decide, by decide, by decide⟩) ?_
      refine n_if_eq 26 dX12_isLetter_19 (by decide) (by first | (with_reducible exact cB _) | ((with_reducible apply cN_eq0) <;> omega) | exact Iff.rfl) (fun c19 => ?_) (fun c19 => ?_)
      · skip
        exfalso; omega
      · skip
        refine g_iconst (v := nI 1) dX12_isLetter_22 (by decide) ?_
        refine g_goto 27 dX12_isLetter_23 (by decide) ?_
        exact g_zret (by first | exact Or.inl rfl | exact Or.inr rfl | exact cB01 _) dX12_isLetter_27 rfl (⟨rfl, rfl, rfl, rfl, rfl⟩)
  · rw [if_neg h]
    unfold isLt at h
    rw [decide_eq_true_iff] at h
    refine pvMet.of _ (by decide) rfl (Nat.le_of_ble_eq_true rfl) ?_
    refine g_iload_n dX12_isLetter_0 rfl ?_
    refine g_bipush (v := nI 97) dX12_isLetter_1 (by decide) ?_
    refine g_bipush (v := nI 122) dX12_isLetter_3 (by decide) ?_
    refine p_callS (t_isIn (L := _) (H := _) (nI_toInt (by omega)) (nI_toInt (by omega))) okX12_isIn lkX12_96 rfl dX12_isLetter_5 rfl (Nat.le_of_ble_eq_true rfl) (⟨by decide, by decide, by decide, by decide⟩) ?_
    refine n_if_ne 22 dX12_isLetter_8 (by decide) (by first | (with_reducible exact cB _) | ((with_reducible apply cN_eq0) <;> omega) | exact Iff.rfl) (fun c8 => ?_) (fun c8 => ?_)
    · skip
      exfalso; omega
    · skip
      refine g_iload_n dX12_isLetter_11 rfl ?_
      refine g_bipush (v := nI 65) dX12_isLetter_12 (by decide) ?_
      refine g_bipush (v := nI 90) dX12_isLetter_14 (by decide) ?_
      refine p_callS (t_isIn (L := _) (H := _) (nI_toInt (by omega)) (nI_toInt (by omega))) okX12_isIn lkX12_96 rfl dX12_isLetter_16 rfl (Nat.le_of_ble_eq_true rfl) (⟨by decide, by decide, by decide, by decide⟩) ?_
      refine n_if_eq 26 dX12_isLetter_19 (by decide) (by first | (with_reducible exact cB _) | ((with_reducible apply cN_eq0) <;> omega) | exact Iff.rfl) (fun c19 => ?_) (fun c19 => ?_)
      · skip
        refine g_iconst (v := nI 0) dX12_isLetter_26 (by decide) ?_
        exact g_zret (by first | exact Or.inl rfl | exact Or.inr rfl | exact cB01 _) dX12_isLetter_27 rfl (⟨rfl, rfl, rfl, rfl, rfl⟩)
      · skip
        exfalso; omega
theorem t_isLetterN {nx : Nat} {I : pvI} {J : pvJ} {P : pvP} : pvMet mX12_isLetter 1 0 0 [.int (-1)] nx I J P (pvpu (.int 0) nx I J P) := by
  have e : ((-1 : Int32)).toInt = -1 := rfl
  refine pvMet.of _ (by decide) rfl (Nat.le_of_ble_eq_true rfl) ?_
  refine g_iload_n dX12_isLetter_0 rfl ?_
  refine g_bipush (v := nI 97) dX12_isLetter_1 (by decide) ?_
  refine g_bipush (v := nI 122) dX12_isLetter_3 (by decide) ?_
  refine p_callS (t_isIn (L := _) (H := _) (nI_toInt (by omega)) (nI_toInt (by omega))) okX12_isIn lkX12_96 rfl dX12_isLetter_5 rfl (Nat.le_of_ble_eq_true rfl) (⟨by decide, by decide, by decide, by decide⟩) ?_
  refine n_if_ne 22 dX12_isLetter_8 (by decide) (by first | (with_reducible exact cB _) | ((with_reducible apply cN_eq0) <;> omega) | exact Iff.rfl) (fun c8 => ?_) (fun c8 => ?_)
  · skip
    exfalso; omega
  · skip
    refine g_iload_n dX12_isLetter_11 rfl ?_
    refine g_bipush (v := nI 65) dX12_isLetter_12 (by decide) ?_
    refine g_bipush (v := nI 90) dX12_isLetter_14 (by decide) ?_
    refine p_callS (t_isIn (L := _) (H := _) (nI_toInt (by omega)) (nI_toInt (by omega))) okX12_isIn lkX12_96 rfl dX12_isLetter_16 rfl (Nat.le_of_ble_eq_true rfl) (⟨by decide, by decide, by decide, by decide⟩) ?_
    refine n_if_eq 26 dX12_isLetter_19 (by decide) (by first | (with_reducible exact cB _) | ((with_reducible apply cN_eq0) <;> omega) | exact Iff.rfl) (fun c19 => ?_) (fun c19 => ?_)
    · skip
      refine g_iconst (v := nI 0) dX12_isLetter_26 (by decide) ?_
      exact g_zret (by first | exact Or.inl rfl | exact Or.inr rfl | exact cB01 _) dX12_isLetter_27 rfl (⟨rfl, rfl, rfl, rfl, rfl⟩)
    · skip
      exfalso; omega
def nxQ (tx : Nat → Nat) (n p : Nat) (I : pvI) (J : pvJ) (I' : pvI) (J' : pvJ) : Prop := mfix I I' [202] ∧ (∀ j, j ∉ [21, 22, 23, 24] → I' 202 j = I 202 j) ∧ (∀ k, k ≠ 202 → J' k = J k) ∧ I' 202 21 = nI (tkE tx n (rn isBl tx n p)) ∧ I' 202 22 = nI (rn isBl tx n p) ∧ tokR (I' 202 23) (I' 202 24) (J' 202 25) (tkT tx n (rn isBl tx n p))
theorem sg_lt {c : Nat} (h : isSg c = true) : c ≤ 62 := by
  unfold isSg at h
  rw [decide_eq_true_iff] at h
  omega
theorem t_next {tx : Nat → Nat} {n p : Nat} {I : pvI} {J : pvJ} {P : pvP} (hP : pvOkP P) (ht : mTx tx n I) (hp : I 202 21 = nI p) (hpn : p ≤ n) : pvMet mX12_nextToken 2 0 0 [.ref 202] 224 I J P (pvq P (fun v I' J' => v = none ∧ nxQ tx n p I J I' J')) := by
  have hn := ht.2.1
  have h255 : ∀ i, i < n → tx i ≤ 255 := fun i hi => (ht.2.2 i hi).2
  generalize hZ : pvZ (pvq P (fun v I' J' => v = none ∧ nxQ tx n p I J I' J')) 0 0 = Z
  generalize hp' : rn isBl tx n p = p' at *
  have tm : ∀ f : Nat → Int32, (∀ j, j ∉ [21, 22, 23, 24] → f j = I 202 j) → mTx tx n (pvs I 202 f) := fun f hf => ⟨by rw [pvs_eq, hf 17 (by decide)]; exact ht.1, hn, fun i hi => by rw [pvs_ne (by decide)]; exact ht.2.2 i hi⟩
  have se : ∀ (f : Nat → Int32) (J1 : pvJ) (x : Nat), (∀ j, j ∉ [21, 22, 23, 24] → f j = I 202 j) → x ≤ n → pvMet mX12_see 0 0 0 [.ref 202, .int (nI x)] 224 (pvs I 202 f) J1 P (pvpu (.int (if x < n then nI (tx x) else -1)) 224 (pvs I 202 f) J1 P) := fun f J1 x hf hx => t_see hP (tm f hf) hx
  have up : ∀ (f : Nat → Int32) (i : Nat) (x : Int32), (∀ j, j ∉ [21, 22, 23, 24] → f j = I 202 j) → i ∈ [21, 22, 23, 24] → ∀ j, j ∉ [21, 22, 23, 24] → upd f i x j = I 202 j := fun f i x hf hi j hj => by
    have : ¬ j = i := fun z => by subst z; exact hj hi
    simp only [upd, if_neg this]; exact hf j hj
  have fin : ∀ (f : Nat → Int32) (g : Nat → Int64) (l1 l2 : Value), (∀ j, j ∉ [21, 22, 23, 24] → f j = I 202 j) → f 21 = nI (tkE tx n p') → f 22 = nI p' → tokR (f 23) (f 24) (g 25) (tkT tx n p') → pvG mX12_nextToken (pvR 2 0 0) Z 390 [.ref 202, l1, l2] [] 0 0 224 (pvs I 202 f) (pvsJ J 202 g) P := by
    intro f g l1 l2 h1 h2 h3 h4
    subst hZ
    exact g_vret dX12_nextToken_390 rfl (⟨rfl, rfl, rfl, fun k hk => by simp at hk; exact pvs_ne hk, fun j hj => by rw [pvs_eq]; exact h1 j hj, fun k hk => pvsJ_ne hk, by rw [pvs_eq, hp']; exact h2, by rw [pvs_eq, hp']; exact h3, by rw [pvs_eq, pvsJ_eq, hp']; exact h4⟩)
  -- behind the blanks
  have main : p' ≤ n → (p' < n → ¬ isBl (tx p') = true) → ∀ f, (∀ j, j ∉ [21, 22, 23, 24] → f j = I 202 j) → f 21 = nI p' → pvG mX12_nextToken (pvR 2 0 0) Z 39 [.ref 202, .retAddr 0, .retAddr 0] [] 0 0 224 (pvs I 202 f) J P := by
    intro hpn' hbl f hf f21
    have sp := se f J p' hf hpn'
    by_cases c1 : p' < n
    · have hc := h255 p' c1
      rw [if_pos c1] at sp
      have sp2 : ∀ x, pvMet mX12_see 0 0 0 [.ref 202, .int (nI p')] 224 (pvs I 202 (upd f 22 x)) J P (pvpu (.int (nI (tx p'))) 224 (pvs I 202 (upd f 22 x)) J P) := fun x => by
        have := se (upd f 22 x) J p' (up f 22 x hf (by decide)) hpn'
        rwa [if_pos c1] at this
      by_cases c2 : isDg (tx p') = true
      · skip
        obtain ⟨r1, r2, r3, r4⟩ := rn_b (q := isDg) (tx := tx) hpn'
        have dg57 : ∀ j, j < rn isDg tx n p' - p' → 48 ≤ tx (p' + j) ∧ tx (p' + j) ≤ 57 := fun j hj => by
          have := r4 (p' + j) (by omega) (by omega)
          unfold isDg at this
          rw [decide_eq_true_iff] at this
          exact this
        have ds : ∀ q j f, p' + j + q = rn isDg tx n p' → (∀ j, j ∉ [21, 22, 23, 24] → f j = I 202 j) → f 21 = nI (p' + j) → f 22 = nI p' → f 23 = nI 1 → f 24 = nI (nuM tx p' j) → pvG mX12_nextToken (pvR 2 0 0) Z 85 [.ref 202, .int (nI (tx p')), .retAddr 0] [] 0 0 224 (pvs I 202 f) J P := by
          intro q
          induction q with
          | zero =>
            intro j f hj hf f21 f22 f23 f24
            have hje : rn isDg tx n p' = p' + j := by omega
            have hjl : rn isDg tx n p' - p' = j := by omega
            have nu := nu_eq (tx := tx) (p := p') j (fun i hi => (dg57 i (by omega)).2)
            have h5 := fin f (J 202) (.int (nI (tx p'))) (.retAddr 0) hf (by unfold tkE; rw [if_neg (by omega), if_pos c2, hje]; exact f21) f22 (Or.inr (Or.inr (Or.inr (Or.inr (Or.inr (Or.inr (Or.inr ⟨nuM tx p' j, nu.2, f23, f24, by unfold tkT; rw [if_neg (by omega), if_pos c2, hjl, nu.1]⟩)))))))
            rw [pvsJ_self] at h5
            have sp := se f J (p' + j) hf (by omega)
            by_cases c4 : p' + j < n
            · rw [if_pos c4] at sp
              have hnd := r3 (by omega)
              rw [hje] at hnd
              have dd := t_isDigit (nx := 224) (I := pvs I 202 f) (J := J) (P := P) (c := tx (p' + j)) (h255 _ c4)
              rw [if_neg hnd] at dd
              refine g_aload_n dX12_nextToken_85 rfl ?_
              refine g_aload_n dX12_nextToken_86 rfl ?_
              refine n_getI dX12_nextToken_87 fdX12_185 rfl (by first | rfl | exact pv_shx) (by omega) (by omega) (by decide) rfl (by repeat (first | exact f21 | (apply rd_s; done) | apply rd_n (by omega) | apply rp_s | apply rp_n (by omega) | (apply rdL_s; done) | apply rdL_n (by omega) | apply rpJ_s | apply rpJ_n (by omega) | rfl)) ?_
              refine p_callV (sp) okX12_see lkX12_188 rfl (by first | rfl | exact pv_shx) rfl (by omega) (by omega) dX12_nextToken_90 rfl (Nat.le_of_ble_eq_true rfl) (⟨by decide, by decide, by decide, by decide⟩) ?_
              refine p_callS (dd) okX12_isDigit lkX12_197 rfl dX12_nextToken_93 rfl (Nat.le_of_ble_eq_true rfl) (⟨by decide, by decide, by decide, by decide⟩) ?_
              refine n_if_eq 390 dX12_nextToken_96 (by decide) (Iff.rfl) (fun c96 => ?_) (fun c96 => by exfalso; exact c96 rfl)
              exact h5
            · rw [if_neg c4] at sp
              refine g_aload_n dX12_nextToken_85 rfl ?_
              refine g_aload_n dX12_nextToken_86 rfl ?_
              refine n_getI dX12_nextToken_87 fdX12_185 rfl (by first | rfl | exact pv_shx) (by omega) (by omega) (by decide) rfl (by repeat (first | exact f21 | (apply rd_s; done) | apply rd_n (by omega) | apply rp_s | apply rp_n (by omega) | (apply rdL_s; done) | apply rdL_n (by omega) | apply rpJ_s | apply rpJ_n (by omega) | rfl)) ?_
              refine p_callV (sp) okX12_see lkX12_188 rfl (by first | rfl | exact pv_shx) rfl (by omega) (by omega) dX12_nextToken_90 rfl (Nat.le_of_ble_eq_true rfl) (⟨by decide, by decide, by decide, by decide⟩) ?_
              refine p_callS (t_isDigitN) okX12_isDigit lkX12_197 rfl dX12_nextToken_93 rfl (Nat.le_of_ble_eq_true rfl) (⟨by decide, by decide, by decide, by decide⟩) ?_
              refine n_if_eq 390 dX12_nextToken_96 (by decide) (Iff.rfl) (fun c96 => ?_) (fun c96 => by exfalso; exact c96 rfl)
              exact h5
          | succ q ih =>
            intro j f hj hf f21 f22 f23 f24
            have hjn : p' + j < n := by omega
            have hdj := dg57 j (by omega)
            have nu := nu_eq (tx := tx) (p := p') j (fun i hi => (dg57 i (by omega)).2)
            have sp := se f J (p' + j) hf (by omega)
            rw [if_pos hjn] at sp
            have dd := t_isDigit (nx := 224) (I := pvs I 202 f) (J := J) (P := P) (c := tx (p' + j)) (h255 _ hjn)
            rw [if_pos (r4 (p' + j) (by omega) (by omega))] at dd
            have es : nuM tx p' (j + 1) = if nuM tx p' j < 100000 then 10 * nuM tx p' j + (tx (p' + j) - 48) else nuM tx p' j := rfl
            by_cases c5 : nuM tx p' j < 100000
            · rw [if_pos c5] at es
              have h4 := ih (j + 1) (upd (upd f 24 (nI (10 * nuM tx p' j + tx (p' + j) - 48))) 21 (nI (p' + j + 1))) (by omega) (up _ 21 _ (up _ 24 _ hf (by decide)) (by decide)) (by simp [upd]; rfl) (by simp [upd]; exact f22) (by simp [upd]; exact f23) (by simp [upd]; rw [es]; congr 1; omega)
              refine g_aload_n dX12_nextToken_85 rfl ?_
              refine g_aload_n dX12_nextToken_86 rfl ?_
              refine n_getI dX12_nextToken_87 fdX12_185 rfl (by first | rfl | exact pv_shx) (by omega) (by omega) (by decide) rfl (by repeat (first | exact f21 | exact f24 | (apply rd_s; done) | apply rd_n (by omega) | apply rp_s | apply rp_n (by omega) | (apply rdL_s; done) | apply rdL_n (by omega) | apply rpJ_s | apply rpJ_n (by omega) | rfl)) ?_
              refine p_callV (sp) okX12_see lkX12_188 rfl (by first | rfl | exact pv_shx) rfl (by omega) (by omega) dX12_nextToken_90 rfl (Nat.le_of_ble_eq_true rfl) (⟨by decide, by decide, by decide, by decide⟩) ?_
              refine p_callS (dd) okX12_isDigit lkX12_197 rfl dX12_nextToken_93 rfl (Nat.le_of_ble_eq_true rfl) (⟨by decide, by decide, by decide, by decide⟩) ?_
              refine n_if_eq 390 dX12_nextToken_96 (by decide) (Iff.rfl) (fun c96 => by exfalso; exact absurd c96 (by decide)) (fun c96 => ?_)
              refine g_aload_n dX12_nextToken_99 rfl ?_
              refine n_getI dX12_nextToken_100 fdX12_200 rfl (by first | rfl | exact pv_shx) (by omega) (by omega) (by decide) rfl (by repeat (first | exact f21 | exact f24 | (apply rd_s; done) | apply rd_n (by omega) | apply rp_s | apply rp_n (by omega) | (apply rdL_s; done) | apply rdL_n (by omega) | apply rpJ_s | apply rpJ_n (by omega) | rfl)) ?_
              refine g_ldc (v := nI 100000) dX12_nextToken_103 kcX12_203 ?_
              refine n_icmp_ge 131 dX12_nextToken_105 (by decide) (by first | ((with_reducible apply cN_le) <;> omega) | ((with_reducible apply cI_len) <;> omega) | ((with_reducible apply cI_nle) <;> omega) | (with_reducible exact cI_le)) (fun c105 => by exfalso; first | omega | exact absurd trivial c105 | exact c105) (fun c105 => ?_)
              refine g_aload_n dX12_nextToken_108 rfl ?_
              refine g_bipush (v := nI 10) dX12_nextToken_109 (by decide) ?_
              refine g_aload_n dX12_nextToken_111 rfl ?_
              refine n_getI dX12_nextToken_112 fdX12_200 rfl (by first | rfl | exact pv_shx) (by omega) (by omega) (by decide) rfl (by repeat (first | exact f21 | exact f24 | (apply rd_s; done) | apply rd_n (by omega) | apply rp_s | apply rp_n (by omega) | (apply rdL_s; done) | apply rdL_n (by omega) | apply rpJ_s | apply rpJ_n (by omega) | rfl)) ?_
              refine n_imul dX12_nextToken_115 (by first | (with_reducible exact pk_mul _ _) | rfl) ?_
              refine g_aload_n dX12_nextToken_116 rfl ?_
              refine g_aload_n dX12_nextToken_117 rfl ?_
              refine n_getI dX12_nextToken_118 fdX12_185 rfl (by first | rfl | exact pv_shx) (by omega) (by omega) (by decide) rfl (by repeat (first | exact f21 | exact f24 | (apply rd_s; done) | apply rd_n (by omega) | apply rp_s | apply rp_n (by omega) | (apply rdL_s; done) | apply rdL_n (by omega) | apply rpJ_s | apply rpJ_n (by omega) | rfl)) ?_
              refine p_callV (sp) okX12_see lkX12_188 rfl (by first | rfl | exact pv_shx) rfl (by omega) (by omega) dX12_nextToken_121 rfl (Nat.le_of_ble_eq_true rfl) (⟨by decide, by decide, by decide, by decide⟩) ?_
              refine n_iadd dX12_nextToken_124 (by first | (with_reducible exact nI_add _ _) | rfl) ?_
              refine g_bipush (v := nI 48) dX12_nextToken_125 (by decide) ?_
              refine n_isub dX12_nextToken_127 (by first | ((with_reducible apply pk_sub) <;> omega) | rfl) ?_
              refine n_putI dX12_nextToken_128 fdX12_200 rfl (fun h => absurd h (by decide)) (by first | rfl | exact pv_shx) (by omega) (by omega) (by decide) rfl (by repeat (first | exact pvu_s | exact pvuJ_s | apply pvu_in (by omega) | apply pvuJ_in (by omega) | exact pvu_pvs | exact pvuJ_pvs)) ?_
              refine g_aload_n dX12_nextToken_131 rfl ?_
              refine g_dup dX12_nextToken_132 rfl ?_
              refine n_getI dX12_nextToken_133 fdX12_185 rfl (by first | rfl | exact pv_shx) (by omega) (by omega) (by decide) rfl (by repeat (first | exact f21 | exact f24 | (apply rd_s; done) | apply rd_n (by omega) | apply rp_s | apply rp_n (by omega) | (apply rdL_s; done) | apply rdL_n (by omega) | apply rpJ_s | apply rpJ_n (by omega) | rfl)) ?_
              refine g_iconst (v := nI 1) dX12_nextToken_136 (by decide) ?_
              refine n_iadd dX12_nextToken_137 (by first | (with_reducible exact nI_add _ _) | rfl) ?_
              refine n_putI dX12_nextToken_138 fdX12_185 rfl (fun h => absurd h (by decide)) (by first | rfl | exact pv_shx) (by omega) (by omega) (by decide) rfl (by repeat (first | exact pvu_s | exact pvuJ_s | apply pvu_in (by omega) | apply pvuJ_in (by omega) | exact pvu_pvs | exact pvuJ_pvs)) ?_
              refine g_goto 85 dX12_nextToken_141 (by decide) ?_
              exact h4
            · rw [if_neg c5] at es
              have h4 := ih (j + 1) (upd f 21 (nI (p' + j + 1))) (by omega) (up _ 21 _ hf (by decide)) (by simp [upd]; rfl) (by simp [upd]; exact f22) (by simp [upd]; exact f23) (by simp [upd]; rw [es]; exact f24)
              refine g_aload_n dX12_nextToken_85 rfl ?_
              refine g_aload_n dX12_nextToken_86 rfl ?_
              refine n_getI dX12_nextToken_87 fdX12_185 rfl (by first | rfl | exact pv_shx) (by omega) (by omega) (by decide) rfl (by repeat (first | exact f21 | exact f24 | (apply rd_s; done) | apply rd_n (by omega) | apply rp_s | apply rp_n (by omega) | (apply rdL_s; done) | apply rdL_n (by omega) | apply rpJ_s | apply rpJ_n (by omega) | rfl)) ?_
              refine p_callV (sp) okX12_see lkX12_188 rfl (by first | rfl | exact pv_shx) rfl (by omega) (by omega) dX12_nextToken_90 rfl (Nat.le_of_ble_eq_true rfl) (⟨by decide, by decide, by decide, by decide⟩) ?_
              refine p_callS (dd) okX12_isDigit lkX12_197 rfl dX12_nextToken_93 rfl (Nat.le_of_ble_eq_true rfl) (⟨by decide, by decide, by decide, by decide⟩) ?_
              refine n_if_eq 390 dX12_nextToken_96 (by decide) (Iff.rfl) (fun c96 => by exfalso; exact absurd c96 (by decide)) (fun c96 => ?_)
              refine g_aload_n dX12_nextToken_99 rfl ?_
              refine n_getI dX12_nextToken_100 fdX12_200 rfl (by first | rfl | exact pv_shx) (by omega) (by omega) (by decide) rfl (by repeat (first | exact f21 | exact f24 | (apply rd_s; done) | apply rd_n (by omega) | apply rp_s | apply rp_n (by omega) | (apply rdL_s; done) | apply rdL_n (by omega) | apply rpJ_s | apply rpJ_n (by omega) | rfl)) ?_
              refine g_ldc (v := nI 100000) dX12_nextToken_103 kcX12_203 ?_
              refine n_icmp_ge 131 dX12_nextToken_105 (by decide) (by first | ((with_reducible apply cN_le) <;> omega) | ((with_reducible apply cI_len) <;> omega) | ((with_reducible apply cI_nle) <;> omega) | (with_reducible exact cI_le)) (fun c105 => ?_) (fun c105 => by exfalso; first | omega | exact absurd trivial c105 | exact c105)
              refine g_aload_n dX12_nextToken_131 rfl ?_
              refine g_dup dX12_nextToken_132 rfl ?_
              refine n_getI dX12_nextToken_133 fdX12_185 rfl (by first | rfl | exact pv_shx) (by omega) (by omega) (by decide) rfl (by repeat (first | exact f21 | exact f24 | (apply rd_s; done) | apply rd_n (by omega) | apply rp_s | apply rp_n (by omega) | (apply rdL_s; done) | apply rdL_n (by omega) | apply rpJ_s | apply rpJ_n (by omega) | rfl)) ?_
              refine g_iconst (v := nI 1) dX12_nextToken_136 (by decide) ?_
              refine n_iadd dX12_nextToken_137 (by first | (with_reducible exact nI_add _ _) | rfl) ?_
              refine n_putI dX12_nextToken_138 fdX12_185 rfl (fun h => absurd h (by decide)) (by first | rfl | exact pv_shx) (by omega) (by omega) (by decide) rfl (by repeat (first | exact pvu_s | exact pvuJ_s | apply pvu_in (by omega) | apply pvuJ_in (by omega) | exact pvu_pvs | exact pvuJ_pvs)) ?_
              refine g_goto 85 dX12_nextToken_141 (by decide) ?_
              exact h4
        have dc := t_isDigit (nx := 224) (I := pvs I 202 (upd f 22 (nI p'))) (J := J) (P := P) (c := tx p') hc
        rw [if_pos c2] at dc
        have h6 := ds (rn isDg tx n p' - p') 0 (upd (upd (upd f 22 (nI p')) 23 (nI 1)) 24 (nI 0)) (by omega) (up _ 24 _ (up _ 23 _ (up _ 22 _ hf (by decide)) (by decide)) (by decide)) (by simp [upd]; exact f21) (by simp [upd]) (by simp [upd]) (by simp [upd]; rfl)
        refine g_aload_n dX12_nextToken_39 rfl ?_
        refine g_aload_n dX12_nextToken_40 rfl ?_
        refine n_getI dX12_nextToken_41 fdX12_185 rfl (by first | rfl | exact pv_shx) (by omega) (by omega) (by decide) rfl (by repeat (first | exact f21 | (apply rd_s; done) | apply rd_n (by omega) | apply rp_s | apply rp_n (by omega) | (apply rdL_s; done) | apply rdL_n (by omega) | apply rpJ_s | apply rpJ_n (by omega) | rfl)) ?_
        refine n_putI dX12_nextToken_44 fdX12_191 rfl (fun h => absurd h (by decide)) (by first | rfl | exact pv_shx) (by omega) (by omega) (by decide) rfl (by repeat (first | exact pvu_s | exact pvuJ_s | apply pvu_in (by omega) | apply pvuJ_in (by omega) | exact pvu_pvs | exact pvuJ_pvs)) ?_
        refine g_aload_n dX12_nextToken_47 rfl ?_
        refine g_aload_n dX12_nextToken_48 rfl ?_
        refine n_getI dX12_nextToken_49 fdX12_185 rfl (by first | rfl | exact pv_shx) (by omega) (by omega) (by decide) rfl (by repeat (first | exact f21 | (apply rd_s; done) | apply rd_n (by omega) | apply rp_s | apply rp_n (by omega) | (apply rdL_s; done) | apply rdL_n (by omega) | apply rpJ_s | apply rpJ_n (by omega) | rfl)) ?_
        refine p_callV (sp2 _) okX12_see lkX12_188 rfl (by first | rfl | exact pv_shx) rfl (by omega) (by omega) dX12_nextToken_52 rfl (Nat.le_of_ble_eq_true rfl) (⟨by decide, by decide, by decide, by decide⟩) ?_
        refine g_istore_n dX12_nextToken_55 (by decide) rfl ?_
        refine g_iload_n dX12_nextToken_56 rfl ?_
        refine n_if_ge 68 dX12_nextToken_57 (by decide) (by first | ((with_reducible apply cN_ge0) <;> omega) | (with_reducible exact cI_ge0)) (fun c57 => ?_) (fun c57 => by exfalso; first | omega | exact absurd trivial c57 | exact c57)
        refine g_iload_n dX12_nextToken_68 rfl ?_
        refine p_callS (dc) okX12_isDigit lkX12_197 rfl dX12_nextToken_69 rfl (Nat.le_of_ble_eq_true rfl) (⟨by decide, by decide, by decide, by decide⟩) ?_
        refine n_if_eq 144 dX12_nextToken_72 (by decide) (Iff.rfl) (fun c72 => by exfalso; exact absurd c72 (by decide)) (fun c72 => ?_)
        refine g_aload_n dX12_nextToken_75 rfl ?_
        refine g_iconst (v := nI 1) dX12_nextToken_76 (by decide) ?_
        refine n_putI dX12_nextToken_77 fdX12_194 rfl (fun h => absurd h (by decide)) (by first | rfl | exact pv_shx) (by omega) (by omega) (by decide) rfl (by repeat (first | exact pvu_s | exact pvuJ_s | apply pvu_in (by omega) | apply pvuJ_in (by omega) | exact pvu_pvs | exact pvuJ_pvs)) ?_
        refine g_aload_n dX12_nextToken_80 rfl ?_
        refine g_iconst (v := nI 0) dX12_nextToken_81 (by decide) ?_
        refine n_putI dX12_nextToken_82 fdX12_200 rfl (fun h => absurd h (by decide)) (by first | rfl | exact pv_shx) (by omega) (by omega) (by decide) rfl (by repeat (first | exact pvu_s | exact pvuJ_s | apply pvu_in (by omega) | apply pvuJ_in (by omega) | exact pvu_pvs | exact pvuJ_pvs)) ?_
        exact g_drop _ (by repeat (first | exact trivial | refine ⟨Or.inr ⟨_, rfl⟩, ?_⟩ | refine ⟨Or.inl rfl, ?_⟩)) h6
      · by_cases c3 : isLt (tx p') = true
        · skip
          obtain ⟨r1, r2, r3, r4⟩ := rn_b (q := isLt) (tx := tx) hpn'
          have lt0 : ∀ j, j < rn isLt tx n p' - p' → 0 < tx (p' + j) ∧ tx (p' + j) < 256 := fun j hj => by
            have := r4 (p' + j) (by omega) (by omega)
            unfold isLt at this
            rw [decide_eq_true_iff] at this
            omega
          have ds : ∀ q j f g, p' + j + q = rn isLt tx n p' → (∀ j, j ∉ [21, 22, 23, 24] → f j = I 202 j) → f 21 = nI (p' + j) → f 22 = nI p' → f 23 = nI 2 → g 25 = lN (pwd (fun i => tx (p' + i)) (min j 7)) → pvG mX12_nextToken (pvR 2 0 0) Z 161 [.ref 202, .int (nI (tx p')), .retAddr 0] [] 0 0 224 (pvs I 202 f) (pvsJ J 202 g) P := by
            intro q
            induction q with
            | zero =>
              intro j f g hj hf f21 f22 f23 g25
              have hje : rn isLt tx n p' = p' + j := by omega
              have hjl : rn isLt tx n p' - p' = j := by omega
              have he : f 21 = nI (tkE tx n p') := by unfold tkE; rw [if_neg (by omega), if_neg c2, if_pos c3, hje]; exact f21
              have hT : tkT tx n p' = wdT tx p' j := by unfold tkT; rw [if_neg (by omega), if_neg c2, if_pos c3, hjl]
              have h5 : pvG mX12_nextToken (pvR 2 0 0) Z 223 [.ref 202, .int (nI (tx p')), .retAddr 0] [] 0 0 224 (pvs I 202 f) (pvsJ J 202 g) P := by
                by_cases c7 : j ≤ 7
                · rw [Nat.min_eq_left c7] at g25
                  have hb : pwd (fun i => tx (p' + i)) j < 2 ^ 56 := Nat.lt_of_lt_of_le (pwd_lt j (fun i hi => (lt0 i (by omega)).2)) (Nat.le_trans (Nat.pow_le_pow_right (by decide) c7) (by decide))
                  have h6 := fin f g (.int (nI (tx p'))) (.retAddr 0) hf he f22 (by
                    rw [hT]
                    rcases wdF_lt (tx := tx) (p := p') (len := j) 15 with hw | ⟨i, hi, hw, hw2⟩
                    · refine Or.inr (Or.inr (Or.inl ⟨hw, f23, fun i hi z => ?_⟩))
                      rw [g25, lN_eq64 (by omega) (by have := (wdN_lt i hi).1; omega), wd_eq hi (fun k hk => lt0 k (by omega))] at z
                      exact wdF_none 15 hw i hi z
                    · refine Or.inr (Or.inr (Or.inr (Or.inr (Or.inr (Or.inr (Or.inl ⟨i, hi, hw, f23, ?_⟩))))))
                      rw [g25, (wd_eq hi (fun k hk => lt0 k (by omega))).mpr hw2])
                  refine g_aload_n dX12_nextToken_223 rfl ?_
                  refine n_getI dX12_nextToken_224 fdX12_185 rfl (by first | rfl | exact pv_shx) (by omega) (by omega) (by decide) rfl (by repeat (first | exact f21 | exact f22 | (apply rd_s; done) | apply rd_n (by omega) | apply rp_s | apply rp_n (by omega) | (apply rdL_s; done) | apply rdL_n (by omega) | apply rpJ_s | apply rpJ_n (by omega) | rfl)) ?_
                  refine g_aload_n dX12_nextToken_227 rfl ?_
                  refine n_getI dX12_nextToken_228 fdX12_191 rfl (by first | rfl | exact pv_shx) (by omega) (by omega) (by decide) rfl (by repeat (first | exact f21 | exact f22 | (apply rd_s; done) | apply rd_n (by omega) | apply rp_s | apply rp_n (by omega) | (apply rdL_s; done) | apply rdL_n (by omega) | apply rpJ_s | apply rpJ_n (by omega) | rfl)) ?_
                  refine n_isub dX12_nextToken_231 (by first | ((with_reducible apply pk_sub) <;> omega) | rfl) ?_
                  refine g_bipush (v := nI 7) dX12_nextToken_232 (by decide) ?_
                  refine n_icmp_le 390 dX12_nextToken_234 (by decide) (by first | ((with_reducible apply cN_le) <;> omega) | ((with_reducible apply cI_len) <;> omega) | ((with_reducible apply cI_nle) <;> omega) | (with_reducible exact cI_le)) (fun c234 => ?_) (fun c234 => by exfalso; first | omega | exact absurd trivial c234 | exact c234)
                  exact h6
                · have h6 := fin f (vp_updL g 25 0) (.int (nI (tx p'))) (.retAddr 0) hf he f22 (by
                    rw [hT]
                    rcases wdF_lt (tx := tx) (p := p') (len := j) 15 with hw | ⟨i, hi, hw, hw2⟩
                    · refine Or.inr (Or.inr (Or.inl ⟨hw, f23, fun i hi z => ?_⟩))
                      rw [show vp_updL g 25 0 25 = lN 0 by simp [vp_updL]; rfl, lN_eq64 (by decide) (by have := (wdN_lt i hi).1; omega)] at z
                      have := (wdN_lt i hi).2
                      omega
                    · exfalso
                      unfold isWd at hw2
                      rw [Bool.and_eq_true, decide_eq_true_iff] at hw2
                      have := (wdO_ok i hi).1
                      omega)
                  refine g_aload_n dX12_nextToken_223 rfl ?_
                  refine n_getI dX12_nextToken_224 fdX12_185 rfl (by first | rfl | exact pv_shx) (by omega) (by omega) (by decide) rfl (by repeat (first | exact f21 | exact f22 | (apply rd_s; done) | apply rd_n (by omega) | apply rp_s | apply rp_n (by omega) | (apply rdL_s; done) | apply rdL_n (by omega) | apply rpJ_s | apply rpJ_n (by omega) | rfl)) ?_
                  refine g_aload_n dX12_nextToken_227 rfl ?_
                  refine n_getI dX12_nextToken_228 fdX12_191 rfl (by first | rfl | exact pv_shx) (by omega) (by omega) (by decide) rfl (by repeat (first | exact f21 | exact f22 | (apply rd_s; done) | apply rd_n (by omega) | apply rp_s | apply rp_n (by omega) | (apply rdL_s; done) | apply rdL_n (by omega) | apply rpJ_s | apply rpJ_n (by omega) | rfl)) ?_
                  refine n_isub dX12_nextToken_231 (by first | ((with_reducible apply pk_sub) <;> omega) | rfl) ?_
                  refine g_bipush (v := nI 7) dX12_nextToken_232 (by decide) ?_
                  refine n_icmp_le 390 dX12_nextToken_234 (by decide) (by first | ((with_reducible apply cN_le) <;> omega) | ((with_reducible apply cI_len) <;> omega) | ((with_reducible apply cI_nle) <;> omega) | (with_reducible exact cI_le)) (fun c234 => by exfalso; first | omega | exact absurd trivial c234 | exact c234) (fun c234 => ?_)
                  refine g_aload_n dX12_nextToken_237 rfl ?_
                  refine g_lconst (v := 0) dX12_nextToken_238 (by decide) ?_
                  refine n_putJ dX12_nextToken_239 fdX12_207 rfl (fun h => absurd h (by decide)) (by first | rfl | exact pv_shx) (by omega) (by omega) (by decide) rfl (by repeat (first | exact pvu_s | exact pvuJ_s | apply pvu_in (by omega) | apply pvuJ_in (by omega) | exact pvu_pvs | exact pvuJ_pvs)) ?_
                  refine g_goto 390 dX12_nextToken_242 (by decide) ?_
                  exact h6
              have sp := se f (pvsJ J 202 g) (p' + j) hf (by omega)
              by_cases c4 : p' + j < n
              · rw [if_pos c4] at sp
                have hnd := r3 (by omega)
                rw [hje] at hnd
                have dd := t_isLetter (nx := 224) (I := pvs I 202 f) (J := pvsJ J 202 g) (P := P) (c := tx (p' + j)) (h255 _ c4)
                rw [if_neg hnd] at dd
                refine g_aload_n dX12_nextToken_161 rfl ?_
                refine g_aload_n dX12_nextToken_162 rfl ?_
                refine n_getI dX12_nextToken_163 fdX12_185 rfl (by first | rfl | exact pv_shx) (by omega) (by omega) (by decide) rfl (by repeat (first | exact f21 | (apply rd_s; done) | apply rd_n (by omega) | apply rp_s | apply rp_n (by omega) | (apply rdL_s; done) | apply rdL_n (by omega) | apply rpJ_s | apply rpJ_n (by omega) | rfl)) ?_
                refine p_callV (sp) okX12_see lkX12_188 rfl (by first | rfl | exact pv_shx) rfl (by omega) (by omega) dX12_nextToken_166 rfl (Nat.le_of_ble_eq_true rfl) (⟨by decide, by decide, by decide, by decide⟩) ?_
                refine p_callS (dd) okX12_isLetter lkX12_204 rfl dX12_nextToken_169 rfl (Nat.le_of_ble_eq_true rfl) (⟨by decide, by decide, by decide, by decide⟩) ?_
                refine n_if_eq 223 dX12_nextToken_172 (by decide) (Iff.rfl) (fun c172 => ?_) (fun c172 => by exfalso; exact c172 rfl)
                exact h5
              · rw [if_neg c4] at sp
                refine g_aload_n dX12_nextToken_161 rfl ?_
                refine g_aload_n dX12_nextToken_162 rfl ?_
                refine n_getI dX12_nextToken_163 fdX12_185 rfl (by first | rfl | exact pv_shx) (by omega) (by omega) (by decide) rfl (by repeat (first | exact f21 | (apply rd_s; done) | apply rd_n (by omega) | apply rp_s | apply rp_n (by omega) | (apply rdL_s; done) | apply rdL_n (by omega) | apply rpJ_s | apply rpJ_n (by omega) | rfl)) ?_
                refine p_callV (sp) okX12_see lkX12_188 rfl (by first | rfl | exact pv_shx) rfl (by omega) (by omega) dX12_nextToken_166 rfl (Nat.le_of_ble_eq_true rfl) (⟨by decide, by decide, by decide, by decide⟩) ?_
                refine p_callS (t_isLetterN) okX12_isLetter lkX12_204 rfl dX12_nextToken_169 rfl (Nat.le_of_ble_eq_true rfl) (⟨by decide, by decide, by decide, by decide⟩) ?_
                refine n_if_eq 223 dX12_nextToken_172 (by decide) (Iff.rfl) (fun c172 => ?_) (fun c172 => by exfalso; exact c172 rfl)
                exact h5
            | succ q ih =>
              intro j f g hj hf f21 f22 f23 g25
              have hjn : p' + j < n := by omega
              have hlj := lt0 j (by omega)
              have sp := se f (pvsJ J 202 g) (p' + j) hf (by omega)
              rw [if_pos hjn] at sp
              have dd := t_isLetter (nx := 224) (I := pvs I 202 f) (J := pvsJ J 202 g) (P := P) (c := tx (p' + j)) (h255 _ hjn)
              rw [if_pos (r4 (p' + j) (by omega) (by omega))] at dd
              by_cases c5 : j < 7
              · have hb : pwd (fun i => tx (p' + i)) j < 256 ^ 6 := Nat.lt_of_lt_of_le (pwd_lt j (fun i hi => (lt0 i (by omega)).2)) (Nat.pow_le_pow_right (by decide) (by omega))
                have ew : (lN (pwd (fun i => tx (p' + i)) j) <<< ((nI 8).toInt64 &&& 63)) ||| (nI (tx (p' + j))).toInt64 = lN (pwd (fun i => tx (p' + i)) (j + 1)) := by
                  rw [wb_shl _ (by decide), nI_l (by omega), g_or (k := 8) rfl (by omega) (by omega)]
                  rfl
                rw [Nat.min_eq_left (by omega)] at g25
                have h4 := ih (j + 1) (upd f 21 (nI (p' + j + 1))) (vp_updL g 25 (lN (pwd (fun i => tx (p' + i)) (j + 1)))) (by omega) (up _ 21 _ hf (by decide)) (by simp [upd]; rfl) (by simp [upd]; exact f22) (by simp [upd]; exact f23) (by rw [Nat.min_eq_left (by omega)]; simp [vp_updL])
                refine g_aload_n dX12_nextToken_161 rfl ?_
                refine g_aload_n dX12_nextToken_162 rfl ?_
                refine n_getI dX12_nextToken_163 fdX12_185 rfl (by first | rfl | exact pv_shx) (by omega) (by omega) (by decide) rfl (by repeat (first | exact f21 | exact f22 | exact g25 | (apply rd_s; done) | apply rd_n (by omega) | apply rp_s | apply rp_n (by omega) | (apply rdL_s; done) | apply rdL_n (by omega) | apply rpJ_s | apply rpJ_n (by omega) | rfl)) ?_
                refine p_callV (sp) okX12_see lkX12_188 rfl (by first | rfl | exact pv_shx) rfl (by omega) (by omega) dX12_nextToken_166 rfl (Nat.le_of_ble_eq_true rfl) (⟨by decide, by decide, by decide, by decide⟩) ?_
                refine p_callS (dd) okX12_isLetter lkX12_204 rfl dX12_nextToken_169 rfl (Nat.le_of_ble_eq_true rfl) (⟨by decide, by decide, by decide, by decide⟩) ?_
                refine n_if_eq 223 dX12_nextToken_172 (by decide) (Iff.rfl) (fun c172 => by exfalso; exact absurd c172 (by decide)) (fun c172 => ?_)
                refine g_aload_n dX12_nextToken_175 rfl ?_
                refine n_getI dX12_nextToken_176 fdX12_185 rfl (by first | rfl | exact pv_shx) (by omega) (by omega) (by decide) rfl (by repeat (first | exact f21 | exact f22 | exact g25 | (apply rd_s; done) | apply rd_n (by omega) | apply rp_s | apply rp_n (by omega) | (apply rdL_s; done) | apply rdL_n (by omega) | apply rpJ_s | apply rpJ_n (by omega) | rfl)) ?_
                refine g_aload_n dX12_nextToken_179 rfl ?_
                refine n_getI dX12_nextToken_180 fdX12_191 rfl (by first | rfl | exact pv_shx) (by omega) (by omega) (by decide) rfl (by repeat (first | exact f21 | exact f22 | exact g25 | (apply rd_s; done) | apply rd_n (by omega) | apply rp_s | apply rp_n (by omega) | (apply rdL_s; done) | apply rdL_n (by omega) | apply rpJ_s | apply rpJ_n (by omega) | rfl)) ?_
                refine n_isub dX12_nextToken_183 (by first | ((with_reducible apply pk_sub) <;> omega) | rfl) ?_
                refine g_bipush (v := nI 7) dX12_nextToken_184 (by decide) ?_
                refine n_icmp_ge 210 dX12_nextToken_186 (by decide) (by first | ((with_reducible apply cN_le) <;> omega) | ((with_reducible apply cI_len) <;> omega) | ((with_reducible apply cI_nle) <;> omega) | (with_reducible exact cI_le)) (fun c186 => by exfalso; first | omega | exact absurd trivial c186 | exact c186) (fun c186 => ?_)
                refine g_aload_n dX12_nextToken_189 rfl ?_
                refine g_aload_n dX12_nextToken_190 rfl ?_
                refine n_getJ dX12_nextToken_191 fdX12_207 rfl (by first | rfl | exact pv_shx) (by omega) (by omega) (by decide) rfl (by repeat (first | exact f21 | exact f22 | exact g25 | (apply rd_s; done) | apply rd_n (by omega) | apply rp_s | apply rp_n (by omega) | (apply rdL_s; done) | apply rdL_n (by omega) | apply rpJ_s | apply rpJ_n (by omega) | rfl)) ?_
                refine g_bipush (v := nI 8) dX12_nextToken_194 (by decide) ?_
                refine n_lshl dX12_nextToken_196 (rfl) ?_
                refine g_aload_n dX12_nextToken_197 rfl ?_
                refine g_aload_n dX12_nextToken_198 rfl ?_
                refine n_getI dX12_nextToken_199 fdX12_185 rfl (by first | rfl | exact pv_shx) (by omega) (by omega) (by decide) rfl (by repeat (first | exact f21 | exact f22 | exact g25 | (apply rd_s; done) | apply rd_n (by omega) | apply rp_s | apply rp_n (by omega) | (apply rdL_s; done) | apply rdL_n (by omega) | apply rpJ_s | apply rpJ_n (by omega) | rfl)) ?_
                refine p_callV (sp) okX12_see lkX12_188 rfl (by first | rfl | exact pv_shx) rfl (by omega) (by omega) dX12_nextToken_202 rfl (Nat.le_of_ble_eq_true rfl) (⟨by decide, by decide, by decide, by decide⟩) ?_
                refine n_i2l dX12_nextToken_205 (rfl) ?_
                refine n_lor dX12_nextToken_206 (ew) ?_
                refine n_putJ dX12_nextToken_207 fdX12_207 rfl (fun h => absurd h (by decide)) (by first | rfl | exact pv_shx) (by omega) (by omega) (by decide) rfl (by repeat (first | exact pvu_s | exact pvuJ_s | apply pvu_in (by omega) | apply pvuJ_in (by omega) | exact pvu_pvs | exact pvuJ_pvs)) ?_
                refine g_aload_n dX12_nextToken_210 rfl ?_
                refine g_dup dX12_nextToken_211 rfl ?_
                refine n_getI dX12_nextToken_212 fdX12_185 rfl (by first | rfl | exact pv_shx) (by omega) (by omega) (by decide) rfl (by repeat (first | exact f21 | exact f22 | exact g25 | (apply rd_s; done) | apply rd_n (by omega) | apply rp_s | apply rp_n (by omega) | (apply rdL_s; done) | apply rdL_n (by omega) | apply rpJ_s | apply rpJ_n (by omega) | rfl)) ?_
                refine g_iconst (v := nI 1) dX12_nextToken_215 (by decide) ?_
                refine n_iadd dX12_nextToken_216 (by first | (with_reducible exact nI_add _ _) | rfl) ?_
                refine n_putI dX12_nextToken_217 fdX12_185 rfl (fun h => absurd h (by decide)) (by first | rfl | exact pv_shx) (by omega) (by omega) (by decide) rfl (by repeat (first | exact pvu_s | exact pvuJ_s | apply pvu_in (by omega) | apply pvuJ_in (by omega) | exact pvu_pvs | exact pvuJ_pvs)) ?_
                refine g_goto 161 dX12_nextToken_220 (by decide) ?_
                exact h4
              · have h4 := ih (j + 1) (upd f 21 (nI (p' + j + 1))) g (by omega) (up _ 21 _ hf (by decide)) (by simp [upd]; rfl) (by simp [upd]; exact f22) (by simp [upd]; exact f23) (by rw [g25, Nat.min_eq_right (by omega), Nat.min_eq_right (by omega)])
                refine g_aload_n dX12_nextToken_161 rfl ?_
                refine g_aload_n dX12_nextToken_162 rfl ?_
                refine n_getI dX12_nextToken_163 fdX12_185 rfl (by first | rfl | exact pv_shx) (by omega) (by omega) (by decide) rfl (by repeat (first | exact f21 | exact f22 | (apply rd_s; done) | apply rd_n (by omega) | apply rp_s | apply rp_n (by omega) | (apply rdL_s; done) | apply rdL_n (by omega) | apply rpJ_s | apply rpJ_n (by omega) | rfl)) ?_
                refine p_callV (sp) okX12_see lkX12_188 rfl (by first | rfl | exact pv_shx) rfl (by omega) (by omega) dX12_nextToken_166 rfl (Nat.le_of_ble_eq_true rfl) (⟨by decide, by decide, by decide, by decide⟩) ?_
                refine p_callS (dd) okX12_isLetter lkX12_204 rfl dX12_nextToken_169 rfl (Nat.le_of_ble_eq_true rfl) (⟨by decide, by decide, by decide, by decide⟩) ?_
                refine n_if_eq 223 dX12_nextToken_172 (by decide) (Iff.rfl) (fun c172 => by exfalso; exact absurd c172 (by decide)) (fun c172 => ?_)
                refine g_aload_n dX12_nextToken_175 rfl ?_
                refine n_getI dX12_nextToken_176 fdX12_185 rfl (by first | rfl | exact pv_shx) (by omega) (by omega) (by decide) rfl (by repeat (first | exact f21 | exact f22 | (apply rd_s; done) | apply rd_n (by omega) | apply rp_s | apply rp_n (by omega) | (apply rdL_s; done) | apply rdL_n (by omega) | apply rpJ_s | apply rpJ_n (by omega) | rfl)) ?_
                refine g_aload_n dX12_nextToken_179 rfl ?_
                refine n_getI dX12_nextToken_180 fdX12_191 rfl (by first | rfl | exact pv_shx) (by omega) (by omega) (by decide) rfl (by repeat (first | exact f21 | exact f22 | (apply rd_s; done) | apply rd_n (by omega) | apply rp_s | apply rp_n (by omega) | (apply rdL_s; done) | apply rdL_n (by omega) | apply rpJ_s | apply rpJ_n (by omega) | rfl)) ?_
                refine n_isub dX12_nextToken_183 (by first | ((with_reducible apply pk_sub) <;> omega) | rfl) ?_
                refine g_bipush (v := nI 7) dX12_nextToken_184 (by decide) ?_
                refine n_icmp_ge 210 dX12_nextToken_186 (by decide) (by first | ((with_reducible apply cN_le) <;> omega) | ((with_reducible apply cI_len) <;> omega) | ((with_reducible apply cI_nle) <;> omega) | (with_reducible exact cI_le)) (fun c186 => ?_) (fun c186 => by exfalso; first | omega | exact absurd trivial c186 | exact c186)
                refine g_aload_n dX12_nextToken_210 rfl ?_
                refine g_dup dX12_nextToken_211 rfl ?_
                refine n_getI dX12_nextToken_212 fdX12_185 rfl (by first | rfl | exact pv_shx) (by omega) (by omega) (by decide) rfl (by repeat (first | exact f21 | exact f22 | (apply rd_s; done) | apply rd_n (by omega) | apply rp_s | apply rp_n (by omega) | (apply rdL_s; done) | apply rdL_n (by omega) | apply rpJ_s | apply rpJ_n (by omega) | rfl)) ?_
                refine g_iconst (v := nI 1) dX12_nextToken_215 (by decide) ?_
                refine n_iadd dX12_nextToken_216 (by first | (with_reducible exact nI_add _ _) | rfl) ?_
                refine n_putI dX12_nextToken_217 fdX12_185 rfl (fun h => absurd h (by decide)) (by first | rfl | exact pv_shx) (by omega) (by omega) (by decide) rfl (by repeat (first | exact pvu_s | exact pvuJ_s | apply pvu_in (by omega) | apply pvuJ_in (by omega) | exact pvu_pvs | exact pvuJ_pvs)) ?_
                refine g_goto 161 dX12_nextToken_220 (by decide) ?_
                exact h4
          have dc := t_isDigit (nx := 224) (I := pvs I 202 (upd f 22 (nI p'))) (J := J) (P := P) (c := tx p') hc
          rw [if_neg c2] at dc
          have lc := t_isLetter (nx := 224) (I := pvs I 202 (upd f 22 (nI p'))) (J := J) (P := P) (c := tx p') hc
          rw [if_pos c3] at lc
          have h6 := ds (rn isLt tx n p' - p') 0 (upd (upd f 22 (nI p')) 23 (nI 2)) (vp_updL (J 202) 25 0) (by omega) (up _ 23 _ (up _ 22 _ hf (by decide)) (by decide)) (by simp [upd]; exact f21) (by simp [upd]) (by simp [upd]) (by simp [vp_updL]; rfl)
          refine g_aload_n dX12_nextToken_39 rfl ?_
          refine g_aload_n dX12_nextToken_40 rfl ?_
          refine n_getI dX12_nextToken_41 fdX12_185 rfl (by first | rfl | exact pv_shx) (by omega) (by omega) (by decide) rfl (by repeat (first | exact f21 | (apply rd_s; done) | apply rd_n (by omega) | apply rp_s | apply rp_n (by omega) | (apply rdL_s; done) | apply rdL_n (by omega) | apply rpJ_s | apply rpJ_n (by omega) | rfl)) ?_
          refine n_putI dX12_nextToken_44 fdX12_191 rfl (fun h => absurd h (by decide)) (by first | rfl | exact pv_shx) (by omega) (by omega) (by decide) rfl (by repeat (first | exact pvu_s | exact pvuJ_s | apply pvu_in (by omega) | apply pvuJ_in (by omega) | exact pvu_pvs | exact pvuJ_pvs)) ?_
          refine g_aload_n dX12_nextToken_47 rfl ?_
          refine g_aload_n dX12_nextToken_48 rfl ?_
          refine n_getI dX12_nextToken_49 fdX12_185 rfl (by first | rfl | exact pv_shx) (by omega) (by omega) (by decide) rfl (by repeat (first | exact f21 | (apply rd_s; done) | apply rd_n (by omega) | apply rp_s | apply rp_n (by omega) | (apply rdL_s; done) | apply rdL_n (by omega) | apply rpJ_s | apply rpJ_n (by omega) | rfl)) ?_
          refine p_callV (sp2 _) okX12_see lkX12_188 rfl (by first | rfl | exact pv_shx) rfl (by omega) (by omega) dX12_nextToken_52 rfl (Nat.le_of_ble_eq_true rfl) (⟨by decide, by decide, by decide, by decide⟩) ?_
          refine g_istore_n dX12_nextToken_55 (by decide) rfl ?_
          refine g_iload_n dX12_nextToken_56 rfl ?_
          refine n_if_ge 68 dX12_nextToken_57 (by decide) (by first | ((with_reducible apply cN_ge0) <;> omega) | (with_reducible exact cI_ge0)) (fun c57 => ?_) (fun c57 => by exfalso; first | omega | exact absurd trivial c57 | exact c57)
          refine g_iload_n dX12_nextToken_68 rfl ?_
          refine p_callS (dc) okX12_isDigit lkX12_197 rfl dX12_nextToken_69 rfl (Nat.le_of_ble_eq_true rfl) (⟨by decide, by decide, by decide, by decide⟩) ?_
          refine n_if_eq 144 dX12_nextToken_72 (by decide) (Iff.rfl) (fun c72 => ?_) (fun c72 => by exfalso; exact c72 rfl)
          refine g_iload_n dX12_nextToken_144 rfl ?_
          refine p_callS (lc) okX12_isLetter lkX12_204 rfl dX12_nextToken_145 rfl (Nat.le_of_ble_eq_true rfl) (⟨by decide, by decide, by decide, by decide⟩) ?_
          refine n_if_eq 245 dX12_nextToken_148 (by decide) (Iff.rfl) (fun c148 => by exfalso; exact absurd c148 (by decide)) (fun c148 => ?_)
          refine g_aload_n dX12_nextToken_151 rfl ?_
          refine g_iconst (v := nI 2) dX12_nextToken_152 (by decide) ?_
          refine n_putI dX12_nextToken_153 fdX12_194 rfl (fun h => absurd h (by decide)) (by first | rfl | exact pv_shx) (by omega) (by omega) (by decide) rfl (by repeat (first | exact pvu_s | exact pvuJ_s | apply pvu_in (by omega) | apply pvuJ_in (by omega) | exact pvu_pvs | exact pvuJ_pvs)) ?_
          refine g_aload_n dX12_nextToken_156 rfl ?_
          refine g_lconst (v := 0) dX12_nextToken_157 (by decide) ?_
          refine n_putJ dX12_nextToken_158 fdX12_207 rfl (fun h => absurd h (by decide)) (by first | rfl | exact pv_shx) (by omega) (by omega) (by decide) rfl (by repeat (first | exact pvu_s | exact pvuJ_s | apply pvu_in (by omega) | apply pvuJ_in (by omega) | exact pvu_pvs | exact pvuJ_pvs)) ?_
          exact g_drop _ (by repeat (first | exact trivial | refine ⟨Or.inr ⟨_, rfl⟩, ?_⟩ | refine ⟨Or.inl rfl, ?_⟩)) h6
        · skip
          have dc := t_isDigit (nx := 224) (I := pvs I 202 (upd f 22 (nI p'))) (J := J) (P := P) (c := tx p') hc
          rw [if_neg c2] at dc
          have lc := t_isLetter (nx := 224) (I := pvs I 202 (upd f 22 (nI p'))) (J := J) (P := P) (c := tx p') hc
          rw [if_neg c3] at lc
          have rest : ∀ (tk : Int32) (v2 : Value), ((isSg (tx p') = true ∧ tk = nI (tx p')) ∨ (¬ isSg (tx p') = true ∧ tk = nI 3)) → pvG mX12_nextToken (pvR 2 0 0) Z 340 [.ref 202, .int (nI (tx p')), v2] [] 0 0 224 (pvs I 202 (upd (upd (upd f 22 (nI p')) 21 (nI (p' + 1))) 23 tk)) J P := by
            intro tk v2 htk
            have h8 : ¬ ((tx p' = 60 ∨ tx p' = 62) ∧ p' + 1 < n ∧ tx (p' + 1) = 61) → pvG mX12_nextToken (pvR 2 0 0) Z 390 [.ref 202, .int (nI (tx p')), v2] [] 0 0 224 (pvs I 202 (upd (upd (upd f 22 (nI p')) 21 (nI (p' + 1))) 23 tk)) J P := fun hno => by
              have := fin (upd (upd (upd f 22 (nI p')) 21 (nI (p' + 1))) 23 tk) (J 202) (.int (nI (tx p'))) v2 (up _ 23 _ (up _ 21 _ (up _ 22 _ hf (by decide)) (by decide)) (by decide)) (by simp [upd]; unfold tkE; rw [if_neg (by omega), if_neg c2, if_neg c3, if_neg hno]) (by simp [upd]) (by
                have hT : tkT tx n p' = if isSg (tx p') = true then tx p' else 1 := by unfold tkT; rw [if_neg (by omega), if_neg c2, if_neg c3, if_neg hno]
                rw [hT]
                rcases htk with ⟨e1, rfl⟩ | ⟨e1, rfl⟩
                · rw [if_pos e1]; exact Or.inr (Or.inr (Or.inr (Or.inr (Or.inr (Or.inl ⟨e1, by simp [upd]⟩)))))
                · rw [if_neg e1]; exact Or.inr (Or.inl ⟨rfl, by simp [upd]⟩))
              rwa [pvsJ_self] at this
            -- behind the token's number
            by_cases c8 : tx p' = 60 ∨ tx p' = 62
            · by_cases c9 : p' + 1 < n
              · have h9 := h255 (p' + 1) c9
                have s9 : ∀ x y, pvMet mX12_see 0 0 0 [.ref 202, .int (nI (p' + 1))] 224 (pvs I 202 (upd (upd (upd f 22 (nI p')) 21 x) 23 y)) J P (pvpu (.int (nI (tx (p' + 1)))) 224 (pvs I 202 (upd (upd (upd f 22 (nI p')) 21 x) 23 y)) J P) := fun x y => by
                  have := se (upd (upd (upd f 22 (nI p')) 21 x) 23 y) J (p' + 1) (up _ 23 _ (up _ 21 _ (up _ 22 _ hf (by decide)) (by decide)) (by decide)) (by omega)
                  rwa [if_pos c9] at this
                by_cases c10 : tx (p' + 1) = 61
                · have h6 : ∀ t, (tx p' = 60 ∧ t = 4) ∨ (tx p' = 62 ∧ t = 5) → pvG mX12_nextToken (pvR 2 0 0) Z 390 [.ref 202, .int (nI (tx p')), v2] [] 0 0 224 (pvs I 202 (upd (upd (upd (upd (upd f 22 (nI p')) 21 (nI (p' + 1))) 23 tk) 21 (nI (p' + 1 + 1))) 23 (nI t))) J P := fun t htt => by
                    have := fin (upd (upd (upd (upd (upd f 22 (nI p')) 21 (nI (p' + 1))) 23 tk) 21 (nI (p' + 1 + 1))) 23 (nI t)) (J 202) (.int (nI (tx p'))) v2 (up _ 23 _ (up _ 21 _ (up _ 23 _ (up _ 21 _ (up _ 22 _ hf (by decide)) (by decide)) (by decide)) (by decide)) (by decide)) (by simp [upd]; unfold tkE; rw [if_neg (by omega), if_neg c2, if_neg c3, if_pos ⟨c8, c9, c10⟩]) (by simp [upd]) (by
                      have hT : tkT tx n p' = if tx p' = 60 then 2 else 3 := by unfold tkT; rw [if_neg (by omega), if_neg c2, if_neg c3, if_pos ⟨c8, c9, c10⟩]
                      rw [hT]
                      rcases htt with ⟨e1, rfl⟩ | ⟨e1, rfl⟩
                      · rw [if_pos e1]; exact Or.inr (Or.inr (Or.inr (Or.inl ⟨rfl, by simp [upd]⟩)))
                      · rw [if_neg (by omega)]; exact Or.inr (Or.inr (Or.inr (Or.inr (Or.inl ⟨rfl, by simp [upd]⟩)))))
                    rwa [pvsJ_self] at this
                  by_cases c11 : tx p' = 60
                  · skip
                    refine g_iload_n dX12_nextToken_340 rfl ?_
                    refine g_bipush (v := nI 60) dX12_nextToken_341 (by decide) ?_
                    refine n_icmp_eq 352 dX12_nextToken_343 (by decide) (by first | ((with_reducible apply cN_eq) <;> omega) | ((with_reducible apply cI_eqn) <;> omega) | exact Iff.rfl) (fun c343 => ?_) (fun c343 => by exfalso; first | omega | exact absurd trivial c343 | exact c343)
                    refine g_aload_n dX12_nextToken_352 rfl ?_
                    refine g_aload_n dX12_nextToken_353 rfl ?_
                    refine n_getI dX12_nextToken_354 fdX12_185 rfl (by first | rfl | exact pv_shx) (by omega) (by omega) (by decide) rfl (by repeat (first | exact f21 | (apply rd_s; done) | apply rd_n (by omega) | apply rp_s | apply rp_n (by omega) | (apply rdL_s; done) | apply rdL_n (by omega) | apply rpJ_s | apply rpJ_n (by omega) | rfl)) ?_
                    refine p_callV (s9 _ _) okX12_see lkX12_188 rfl (by first | rfl | exact pv_shx) rfl (by omega) (by omega) dX12_nextToken_357 rfl (Nat.le_of_ble_eq_true rfl) (⟨by decide, by decide, by decide, by decide⟩) ?_
                    refine g_bipush (v := nI 61) dX12_nextToken_360 (by decide) ?_
                    refine n_icmp_ne 390 dX12_nextToken_362 (by decide) (by first | ((with_reducible apply cN_eq) <;> omega) | ((with_reducible apply cI_eqn) <;> omega) | exact Iff.rfl) (fun c362 => by exfalso; first | omega | exact absurd trivial c362 | exact c362) (fun c362 => ?_)
                    refine g_aload_n dX12_nextToken_365 rfl ?_
                    refine g_dup dX12_nextToken_366 rfl ?_
                    refine n_getI dX12_nextToken_367 fdX12_185 rfl (by first | rfl | exact pv_shx) (by omega) (by omega) (by decide) rfl (by repeat (first | exact f21 | (apply rd_s; done) | apply rd_n (by omega) | apply rp_s | apply rp_n (by omega) | (apply rdL_s; done) | apply rdL_n (by omega) | apply rpJ_s | apply rpJ_n (by omega) | rfl)) ?_
                    refine g_iconst (v := nI 1) dX12_nextToken_370 (by decide) ?_
                    refine n_iadd dX12_nextToken_371 (by first | (with_reducible exact nI_add _ _) | rfl) ?_
                    refine n_putI dX12_nextToken_372 fdX12_185 rfl (fun h => absurd h (by decide)) (by first | rfl | exact pv_shx) (by omega) (by omega) (by decide) rfl (by repeat (first | exact pvu_s | exact pvuJ_s | apply pvu_in (by omega) | apply pvuJ_in (by omega) | exact pvu_pvs | exact pvuJ_pvs)) ?_
                    refine g_aload_n dX12_nextToken_375 rfl ?_
                    refine g_iload_n dX12_nextToken_376 rfl ?_
                    refine g_bipush (v := nI 60) dX12_nextToken_377 (by decide) ?_
                    refine n_icmp_ne 386 dX12_nextToken_379 (by decide) (by first | ((with_reducible apply cN_eq) <;> omega) | ((with_reducible apply cI_eqn) <;> omega) | exact Iff.rfl) (fun c379 => by exfalso; first | omega | exact absurd trivial c379 | exact c379) (fun c379 => ?_)
                    refine g_iconst (v := nI 4) dX12_nextToken_382 (by decide) ?_
                    refine g_goto 387 dX12_nextToken_383 (by decide) ?_
                    refine n_putI dX12_nextToken_387 fdX12_194 rfl (fun h => absurd h (by decide)) (by first | rfl | exact pv_shx) (by omega) (by omega) (by decide) rfl (by repeat (first | exact pvu_s | exact pvuJ_s | apply pvu_in (by omega) | apply pvuJ_in (by omega) | exact pvu_pvs | exact pvuJ_pvs)) ?_
                    exact h6 4 (Or.inl ⟨c11, rfl⟩)
                  · skip
                    refine g_iload_n dX12_nextToken_340 rfl ?_
                    refine g_bipush (v := nI 60) dX12_nextToken_341 (by decide) ?_
                    refine n_icmp_eq 352 dX12_nextToken_343 (by decide) (by first | ((with_reducible apply cN_eq) <;> omega) | ((with_reducible apply cI_eqn) <;> omega) | exact Iff.rfl) (fun c343 => by exfalso; first | omega | exact absurd trivial c343 | exact c343) (fun c343 => ?_)
                    refine g_iload_n dX12_nextToken_346 rfl ?_
                    refine g_bipush (v := nI 62) dX12_nextToken_347 (by decide) ?_
                    refine n_icmp_ne 390 dX12_nextToken_349 (by decide) (by first | ((with_reducible apply cN_eq) <;> omega) | ((with_reducible apply cI_eqn) <;> omega) | exact Iff.rfl) (fun c349 => by exfalso; first | omega | exact absurd trivial c349 | exact c349) (fun c349 => ?_)
                    refine g_aload_n dX12_nextToken_352 rfl ?_
                    refine g_aload_n dX12_nextToken_353 rfl ?_
                    refine n_getI dX12_nextToken_354 fdX12_185 rfl (by first | rfl | exact pv_shx) (by omega) (by omega) (by decide) rfl (by repeat (first | exact f21 | (apply rd_s; done) | apply rd_n (by omega) | apply rp_s | apply rp_n (by omega) | (apply rdL_s; done) | apply rdL_n (by omega) | apply rpJ_s | apply rpJ_n (by omega) | rfl)) ?_
                    refine p_callV (s9 _ _) okX12_see lkX12_188 rfl (by first | rfl | exact pv_shx) rfl (by omega) (by omega) dX12_nextToken_357 rfl (Nat.le_of_ble_eq_true rfl) (⟨by decide, by decide, by decide, by decide⟩) ?_
                    refine g_bipush (v := nI 61) dX12_nextToken_360 (by decide) ?_
                    refine n_icmp_ne 390 dX12_nextToken_362 (by decide) (by first | ((with_reducible apply cN_eq) <;> omega) | ((with_reducible apply cI_eqn) <;> omega) | exact Iff.rfl) (fun c362 => by exfalso; first | omega | exact absurd trivial c362 | exact c362) (fun c362 => ?_)
                    refine g_aload_n dX12_nextToken_365 rfl ?_
                    refine g_dup dX12_nextToken_366 rfl ?_
                    refine n_getI dX12_nextToken_367 fdX12_185 rfl (by first | rfl | exact pv_shx) (by omega) (by omega) (by decide) rfl (by repeat (first | exact f21 | (apply rd_s; done) | apply rd_n (by omega) | apply rp_s | apply rp_n (by omega) | (apply rdL_s; done) | apply rdL_n (by omega) | apply rpJ_s | apply rpJ_n (by omega) | rfl)) ?_
                    refine g_iconst (v := nI 1) dX12_nextToken_370 (by decide) ?_
                    refine n_iadd dX12_nextToken_371 (by first | (with_reducible exact nI_add _ _) | rfl) ?_
                    refine n_putI dX12_nextToken_372 fdX12_185 rfl (fun h => absurd h (by decide)) (by first | rfl | exact pv_shx) (by omega) (by omega) (by decide) rfl (by repeat (first | exact pvu_s | exact pvuJ_s | apply pvu_in (by omega) | apply pvuJ_in (by omega) | exact pvu_pvs | exact pvuJ_pvs)) ?_
                    refine g_aload_n dX12_nextToken_375 rfl ?_
                    refine g_iload_n dX12_nextToken_376 rfl ?_
                    refine g_bipush (v := nI 60) dX12_nextToken_377 (by decide) ?_
                    refine n_icmp_ne 386 dX12_nextToken_379 (by decide) (by first | ((with_reducible apply cN_eq) <;> omega) | ((with_reducible apply cI_eqn) <;> omega) | exact Iff.rfl) (fun c379 => ?_) (fun c379 => by exfalso; first | omega | exact absurd trivial c379 | exact c379)
                    refine g_iconst (v := nI 5) dX12_nextToken_386 (by decide) ?_
                    refine n_putI dX12_nextToken_387 fdX12_194 rfl (fun h => absurd h (by decide)) (by first | rfl | exact pv_shx) (by omega) (by omega) (by decide) rfl (by repeat (first | exact pvu_s | exact pvuJ_s | apply pvu_in (by omega) | apply pvuJ_in (by omega) | exact pvu_pvs | exact pvuJ_pvs)) ?_
                    exact h6 5 (Or.inr ⟨by omega, rfl⟩)
                · have h6 := h8 (fun z => c10 z.2.2)
                  by_cases c11 : tx p' = 60
                  · skip
                    refine g_iload_n dX12_nextToken_340 rfl ?_
                    refine g_bipush (v := nI 60) dX12_nextToken_341 (by decide) ?_
                    refine n_icmp_eq 352 dX12_nextToken_343 (by decide) (by first | ((with_reducible apply cN_eq) <;> omega) | ((with_reducible apply cI_eqn) <;> omega) | exact Iff.rfl) (fun c343 => ?_) (fun c343 => by exfalso; first | omega | exact absurd trivial c343 | exact c343)
                    refine g_aload_n dX12_nextToken_352 rfl ?_
                    refine g_aload_n dX12_nextToken_353 rfl ?_
                    refine n_getI dX12_nextToken_354 fdX12_185 rfl (by first | rfl | exact pv_shx) (by omega) (by omega) (by decide) rfl (by repeat (first | exact f21 | (apply rd_s; done) | apply rd_n (by omega) | apply rp_s | apply rp_n (by omega) | (apply rdL_s; done) | apply rdL_n (by omega) | apply rpJ_s | apply rpJ_n (by omega) | rfl)) ?_
                    refine p_callV (s9 _ _) okX12_see lkX12_188 rfl (by first | rfl | exact pv_shx) rfl (by omega) (by omega) dX12_nextToken_357 rfl (Nat.le_of_ble_eq_true rfl) (⟨by decide, by decide, by decide, by decide⟩) ?_
                    refine g_bipush (v := nI 61) dX12_nextToken_360 (by decide) ?_
                    refine n_icmp_ne 390 dX12_nextToken_362 (by decide) (by first | ((with_reducible apply cN_eq) <;> omega) | ((with_reducible apply cI_eqn) <;> omega) | exact Iff.rfl) (fun c362 => ?_) (fun c362 => by exfalso; first | omega | exact absurd trivial c362 | exact c362)
                    exact h6
                  · skip
                    refine g_iload_n dX12_nextToken_340 rfl ?_
                    refine g_bipush (v := nI 60) dX12_nextToken_341 (by decide) ?_
                    refine n_icmp_eq 352 dX12_nextToken_343 (by decide) (by first | ((with_reducible apply cN_eq) <;> omega) | ((with_reducible apply cI_eqn) <;> omega) | exact Iff.rfl) (fun c343 => by exfalso; first | omega | exact absurd trivial c343 | exact c343) (fun c343 => ?_)
                    refine g_iload_n dX12_nextToken_346 rfl ?_
                    refine g_bipush (v := nI 62) dX12_nextToken_347 (by decide) ?_
                    refine n_icmp_ne 390 dX12_nextToken_349 (by decide) (by first | ((with_reducible apply cN_eq) <;> omega) | ((with_reducible apply cI_eqn) <;> omega) | exact Iff.rfl) (fun c349 => by exfalso; first | omega | exact absurd trivial c349 | exact c349) (fun c349 => ?_)
                    refine g_aload_n dX12_nextToken_352 rfl ?_
                    refine g_aload_n dX12_nextToken_353 rfl ?_
                    refine n_getI dX12_nextToken_354 fdX12_185 rfl (by first | rfl | exact pv_shx) (by omega) (by omega) (by decide) rfl (by repeat (first | exact f21 | (apply rd_s; done) | apply rd_n (by omega) | apply rp_s | apply rp_n (by omega) | (apply rdL_s; done) | apply rdL_n (by omega) | apply rpJ_s | apply rpJ_n (by omega) | rfl)) ?_
                    refine p_callV (s9 _ _) okX12_see lkX12_188 rfl (by first | rfl | exact pv_shx) rfl (by omega) (by omega) dX12_nextToken_357 rfl (Nat.le_of_ble_eq_true rfl) (⟨by decide, by decide, by decide, by decide⟩) ?_
                    refine g_bipush (v := nI 61) dX12_nextToken_360 (by decide) ?_
                    refine n_icmp_ne 390 dX12_nextToken_362 (by decide) (by first | ((with_reducible apply cN_eq) <;> omega) | ((with_reducible apply cI_eqn) <;> omega) | exact Iff.rfl) (fun c362 => ?_) (fun c362 => by exfalso; first | omega | exact absurd trivial c362 | exact c362)
                    exact h6
              · have s9 : ∀ x y, pvMet mX12_see 0 0 0 [.ref 202, .int (nI (p' + 1))] 224 (pvs I 202 (upd (upd (upd f 22 (nI p')) 21 x) 23 y)) J P (pvpu (.int (-1)) 224 (pvs I 202 (upd (upd (upd f 22 (nI p')) 21 x) 23 y)) J P) := fun x y => by
                  have := se (upd (upd (upd f 22 (nI p')) 21 x) 23 y) J (p' + 1) (up _ 23 _ (up _ 21 _ (up _ 22 _ hf (by decide)) (by decide)) (by decide)) (by omega)
                  rwa [if_neg c9] at this
                have h6 := h8 (fun z => c9 z.2.1)
                by_cases c11 : tx p' = 60
                · skip
                  refine g_iload_n dX12_nextToken_340 rfl ?_
                  refine g_bipush (v := nI 60) dX12_nextToken_341 (by decide) ?_
                  refine n_icmp_eq 352 dX12_nextToken_343 (by decide) (by first | ((with_reducible apply cN_eq) <;> omega) | ((with_reducible apply cI_eqn) <;> omega) | exact Iff.rfl) (fun c343 => ?_) (fun c343 => by exfalso; first | omega | exact absurd trivial c343 | exact c343)
                  refine g_aload_n dX12_nextToken_352 rfl ?_
                  refine g_aload_n dX12_nextToken_353 rfl ?_
                  refine n_getI dX12_nextToken_354 fdX12_185 rfl (by first | rfl | exact pv_shx) (by omega) (by omega) (by decide) rfl (by repeat (first | exact f21 | (apply rd_s; done) | apply rd_n (by omega) | apply rp_s | apply rp_n (by omega) | (apply rdL_s; done) | apply rdL_n (by omega) | apply rpJ_s | apply rpJ_n (by omega) | rfl)) ?_
                  refine p_callV (s9 _ _) okX12_see lkX12_188 rfl (by first | rfl | exact pv_shx) rfl (by omega) (by omega) dX12_nextToken_357 rfl (Nat.le_of_ble_eq_true rfl) (⟨by decide, by decide, by decide, by decide⟩) ?_
                  refine g_bipush (v := nI 61) dX12_nextToken_360 (by decide) ?_
                  refine n_icmp_ne 390 dX12_nextToken_362 (by decide) (by first | ((with_reducible apply cN_eq) <;> omega) | ((with_reducible apply cI_eqn) <;> omega) | exact Iff.rfl) (fun c362 => ?_) (fun c362 => by exfalso; exact absurd c362 (by decide))
                  exact h6
                · skip
                  refine g_iload_n dX12_nextToken_340 rfl ?_
                  refine g_bipush (v := nI 60) dX12_nextToken_341 (by decide) ?_
                  refine n_icmp_eq 352 dX12_nextToken_343 (by decide) (by first | ((with_reducible apply cN_eq) <;> omega) | ((with_reducible apply cI_eqn) <;> omega) | exact Iff.rfl) (fun c343 => by exfalso; first | omega | exact absurd trivial c343 | exact c343) (fun c343 => ?_)
                  refine g_iload_n dX12_nextToken_346 rfl ?_
                  refine g_bipush (v := nI 62) dX12_nextToken_347 (by decide) ?_
                  refine n_icmp_ne 390 dX12_nextToken_349 (by decide) (by first | ((with_reducible apply cN_eq) <;> omega) | ((with_reducible apply cI_eqn) <;> omega) | exact Iff.rfl) (fun c349 => by exfalso; first | omega | exact absurd trivial c349 | exact c349) (fun c349 => ?_)
                  refine g_aload_n dX12_nextToken_352 rfl ?_
                  refine g_aload_n dX12_nextToken_353 rfl ?_
                  refine n_getI dX12_nextToken_354 fdX12_185 rfl (by first | rfl | exact pv_shx) (by omega) (by omega) (by decide) rfl (by repeat (first | exact f21 | (apply rd_s; done) | apply rd_n (by omega) | apply rp_s | apply rp_n (by omega) | (apply rdL_s; done) | apply rdL_n (by omega) | apply rpJ_s | apply rpJ_n (by omega) | rfl)) ?_
                  refine p_callV (s9 _ _) okX12_see lkX12_188 rfl (by first | rfl | exact pv_shx) rfl (by omega) (by omega) dX12_nextToken_357 rfl (Nat.le_of_ble_eq_true rfl) (⟨by decide, by decide, by decide, by decide⟩) ?_
                  refine g_bipush (v := nI 61) dX12_nextToken_360 (by decide) ?_
                  refine n_icmp_ne 390 dX12_nextToken_362 (by decide) (by first | ((with_reducible apply cN_eq) <;> omega) | ((with_reducible apply cI_eqn) <;> omega) | exact Iff.rfl) (fun c362 => ?_) (fun c362 => by exfalso; exact absurd c362 (by decide))
                  exact h6
            · have h6 := h8 (fun z => c8 z.1)
              refine g_iload_n dX12_nextToken_340 rfl ?_
              refine g_bipush (v := nI 60) dX12_nextToken_341 (by decide) ?_
              refine n_icmp_eq 352 dX12_nextToken_343 (by decide) (by first | ((with_reducible apply cN_eq) <;> omega) | ((with_reducible apply cI_eqn) <;> omega) | exact Iff.rfl) (fun c343 => by exfalso; first | omega | exact absurd trivial c343 | exact c343) (fun c343 => ?_)
              refine g_iload_n dX12_nextToken_346 rfl ?_
              refine g_bipush (v := nI 62) dX12_nextToken_347 (by decide) ?_
              refine n_icmp_ne 390 dX12_nextToken_349 (by decide) (by first | ((with_reducible apply cN_eq) <;> omega) | ((with_reducible apply cI_eqn) <;> omega) | exact Iff.rfl) (fun c349 => ?_) (fun c349 => by exfalso; first | omega | exact absurd trivial c349 | exact c349)
              exact h6
          by_cases c8 : isSg (tx p') = true
          · have r8 := rest (nI (tx p')) (.int (nI 1)) (Or.inl ⟨c8, rfl⟩)
            have c8' := c8
            unfold isSg at c8'
            rw [decide_eq_true_iff] at c8'
            have k8 : pvG mX12_nextToken (pvR 2 0 0) Z 321 [.ref 202, .int (nI (tx p')), .retAddr 0] [] 0 0 224 (pvs I 202 (upd (upd f 22 (nI p')) 21 (nI (p' + 1)))) J P := by
              refine g_iconst (v := nI 1) dX12_nextToken_321 (by decide) ?_
              refine g_goto 326 dX12_nextToken_322 (by decide) ?_
              refine g_istore_n dX12_nextToken_326 (by decide) rfl ?_
              refine g_aload_n dX12_nextToken_327 rfl ?_
              refine g_iload_n dX12_nextToken_328 rfl ?_
              refine n_if_eq 336 dX12_nextToken_329 (by decide) (by first | (with_reducible exact cB _) | ((with_reducible apply cN_eq0) <;> omega) | exact Iff.rfl) (fun c329 => by exfalso; first | omega | exact absurd trivial c329 | exact c329) (fun c329 => ?_)
              refine g_iload_n dX12_nextToken_332 rfl ?_
              refine g_goto 337 dX12_nextToken_333 (by decide) ?_
              refine n_putI dX12_nextToken_337 fdX12_194 rfl (fun h => absurd h (by decide)) (by first | rfl | exact pv_shx) (by omega) (by omega) (by decide) rfl (by repeat (first | exact pvu_s | exact pvuJ_s | apply pvu_in (by omega) | apply pvuJ_in (by omega) | exact pvu_pvs | exact pvuJ_pvs)) ?_
              exact r8
            refine g_aload_n dX12_nextToken_39 rfl ?_
            refine g_aload_n dX12_nextToken_40 rfl ?_
            refine n_getI dX12_nextToken_41 fdX12_185 rfl (by first | rfl | exact pv_shx) (by omega) (by omega) (by decide) rfl (by repeat (first | exact f21 | (apply rd_s; done) | apply rd_n (by omega) | apply rp_s | apply rp_n (by omega) | (apply rdL_s; done) | apply rdL_n (by omega) | apply rpJ_s | apply rpJ_n (by omega) | rfl)) ?_
            refine n_putI dX12_nextToken_44 fdX12_191 rfl (fun h => absurd h (by decide)) (by first | rfl | exact pv_shx) (by omega) (by omega) (by decide) rfl (by repeat (first | exact pvu_s | exact pvuJ_s | apply pvu_in (by omega) | apply pvuJ_in (by omega) | exact pvu_pvs | exact pvuJ_pvs)) ?_
            refine g_aload_n dX12_nextToken_47 rfl ?_
            refine g_aload_n dX12_nextToken_48 rfl ?_
            refine n_getI dX12_nextToken_49 fdX12_185 rfl (by first | rfl | exact pv_shx) (by omega) (by omega) (by decide) rfl (by repeat (first | exact f21 | (apply rd_s; done) | apply rd_n (by omega) | apply rp_s | apply rp_n (by omega) | (apply rdL_s; done) | apply rdL_n (by omega) | apply rpJ_s | apply rpJ_n (by omega) | rfl)) ?_
            refine p_callV (sp2 _) okX12_see lkX12_188 rfl (by first | rfl | exact pv_shx) rfl (by omega) (by omega) dX12_nextToken_52 rfl (Nat.le_of_ble_eq_true rfl) (⟨by decide, by decide, by decide, by decide⟩) ?_
            refine g_istore_n dX12_nextToken_55 (by decide) rfl ?_
            refine g_iload_n dX12_nextToken_56 rfl ?_
            refine n_if_ge 68 dX12_nextToken_57 (by decide) (by first | ((with_reducible apply cN_ge0) <;> omega) | (with_reducible exact cI_ge0)) (fun c57 => ?_) (fun c57 => by exfalso; first | omega | exact absurd trivial c57 | exact c57)
            refine g_iload_n dX12_nextToken_68 rfl ?_
            refine p_callS (dc) okX12_isDigit lkX12_197 rfl dX12_nextToken_69 rfl (Nat.le_of_ble_eq_true rfl) (⟨by decide, by decide, by decide, by decide⟩) ?_
            refine n_if_eq 144 dX12_nextToken_72 (by decide) (Iff.rfl) (fun c72 => ?_) (fun c72 => by exfalso; exact c72 rfl)
            refine g_iload_n dX12_nextToken_144 rfl ?_
            refine p_callS (lc) okX12_isLetter lkX12_204 rfl dX12_nextToken_145 rfl (Nat.le_of_ble_eq_true rfl) (⟨by decide, by decide, by decide, by decide⟩) ?_
            refine n_if_eq 245 dX12_nextToken_148 (by decide) (Iff.rfl) (fun c148 => ?_) (fun c148 => by exfalso; exact c148 rfl)
            refine g_aload_n dX12_nextToken_245 rfl ?_
            refine g_dup dX12_nextToken_246 rfl ?_
            refine n_getI dX12_nextToken_247 fdX12_185 rfl (by first | rfl | exact pv_shx) (by omega) (by omega) (by decide) rfl (by repeat (first | exact f21 | (apply rd_s; done) | apply rd_n (by omega) | apply rp_s | apply rp_n (by omega) | (apply rdL_s; done) | apply rdL_n (by omega) | apply rpJ_s | apply rpJ_n (by omega) | rfl)) ?_
            refine g_iconst (v := nI 1) dX12_nextToken_250 (by decide) ?_
            refine n_iadd dX12_nextToken_251 (by first | (with_reducible exact nI_add _ _) | rfl) ?_
            refine n_putI dX12_nextToken_252 fdX12_185 rfl (fun h => absurd h (by decide)) (by first | rfl | exact pv_shx) (by omega) (by omega) (by decide) rfl (by repeat (first | exact pvu_s | exact pvuJ_s | apply pvu_in (by omega) | apply pvuJ_in (by omega) | exact pvu_pvs | exact pvuJ_pvs)) ?_
            refine g_iload_n dX12_nextToken_255 rfl ?_
            refine g_bipush (v := nI 60) dX12_nextToken_256 (by decide) ?_
            refine n_icmp_eq 321 dX12_nextToken_258 (by decide) (by first | ((with_reducible apply cN_eq) <;> omega) | ((with_reducible apply cI_eqn) <;> omega) | exact Iff.rfl) (fun c258 => ?_) (fun c258 => ?_)
            · skip
              exact g_drop _ (by repeat (first | exact trivial | refine ⟨Or.inr ⟨_, rfl⟩, ?_⟩ | refine ⟨Or.inl rfl, ?_⟩)) k8
            · skip
              refine g_iload_n dX12_nextToken_261 rfl ?_
              refine g_bipush (v := nI 62) dX12_nextToken_262 (by decide) ?_
              refine n_icmp_eq 321 dX12_nextToken_264 (by decide) (by first | ((with_reducible apply cN_eq) <;> omega) | ((with_reducible apply cI_eqn) <;> omega) | exact Iff.rfl) (fun c264 => ?_) (fun c264 => ?_)
              · skip
                exact g_drop _ (by repeat (first | exact trivial | refine ⟨Or.inr ⟨_, rfl⟩, ?_⟩ | refine ⟨Or.inl rfl, ?_⟩)) k8
              · skip
                refine g_iload_n dX12_nextToken_267 rfl ?_
                refine g_bipush (v := nI 61) dX12_nextToken_268 (by decide) ?_
                refine n_icmp_eq 321 dX12_nextToken_270 (by decide) (by first | ((with_reducible apply cN_eq) <;> omega) | ((with_reducible apply cI_eqn) <;> omega) | exact Iff.rfl) (fun c270 => ?_) (fun c270 => ?_)
                · skip
                  exact g_drop _ (by repeat (first | exact trivial | refine ⟨Or.inr ⟨_, rfl⟩, ?_⟩ | refine ⟨Or.inl rfl, ?_⟩)) k8
                · skip
                  refine g_iload_n dX12_nextToken_273 rfl ?_
                  refine g_bipush (v := nI 35) dX12_nextToken_274 (by decide) ?_
                  refine n_icmp_eq 321 dX12_nextToken_276 (by decide) (by first | ((with_reducible apply cN_eq) <;> omega) | ((with_reducible apply cI_eqn) <;> omega) | exact Iff.rfl) (fun c276 => ?_) (fun c276 => ?_)
                  · skip
                    exact g_drop _ (by repeat (first | exact trivial | refine ⟨Or.inr ⟨_, rfl⟩, ?_⟩ | refine ⟨Or.inl rfl, ?_⟩)) k8
                  · skip
                    refine g_iload_n dX12_nextToken_279 rfl ?_
                    refine g_bipush (v := nI 43) dX12_nextToken_280 (by decide) ?_
                    refine n_icmp_eq 321 dX12_nextToken_282 (by decide) (by first | ((with_reducible apply cN_eq) <;> omega) | ((with_reducible apply cI_eqn) <;> omega) | exact Iff.rfl) (fun c282 => ?_) (fun c282 => ?_)
                    · skip
                      exact g_drop _ (by repeat (first | exact trivial | refine ⟨Or.inr ⟨_, rfl⟩, ?_⟩ | refine ⟨Or.inl rfl, ?_⟩)) k8
                    · skip
                      refine g_iload_n dX12_nextToken_285 rfl ?_
                      refine g_bipush (v := nI 45) dX12_nextToken_286 (by decide) ?_
                      refine n_icmp_eq 321 dX12_nextToken_288 (by decide) (by first | ((with_reducible apply cN_eq) <;> omega) | ((with_reducible apply cI_eqn) <;> omega) | exact Iff.rfl) (fun c288 => ?_) (fun c288 => ?_)
                      · skip
                        exact g_drop _ (by repeat (first | exact trivial | refine ⟨Or.inr ⟨_, rfl⟩, ?_⟩ | refine ⟨Or.inl rfl, ?_⟩)) k8
                      · skip
                        refine g_iload_n dX12_nextToken_291 rfl ?_
                        refine g_bipush (v := nI 42) dX12_nextToken_292 (by decide) ?_
                        refine n_icmp_eq 321 dX12_nextToken_294 (by decide) (by first | ((with_reducible apply cN_eq) <;> omega) | ((with_reducible apply cI_eqn) <;> omega) | exact Iff.rfl) (fun c294 => ?_) (fun c294 => ?_)
                        · skip
                          exact g_drop _ (by repeat (first | exact trivial | refine ⟨Or.inr ⟨_, rfl⟩, ?_⟩ | refine ⟨Or.inl rfl, ?_⟩)) k8
                        · skip
                          refine g_iload_n dX12_nextToken_297 rfl ?_
                          refine g_bipush (v := nI 47) dX12_nextToken_298 (by decide) ?_
                          refine n_icmp_eq 321 dX12_nextToken_300 (by decide) (by first | ((with_reducible apply cN_eq) <;> omega) | ((with_reducible apply cI_eqn) <;> omega) | exact Iff.rfl) (fun c300 => ?_) (fun c300 => ?_)
                          · skip
                            exact g_drop _ (by repeat (first | exact trivial | refine ⟨Or.inr ⟨_, rfl⟩, ?_⟩ | refine ⟨Or.inl rfl, ?_⟩)) k8
                          · skip
                            refine g_iload_n dX12_nextToken_303 rfl ?_
                            refine g_bipush (v := nI 40) dX12_nextToken_304 (by decide) ?_
                            refine n_icmp_eq 321 dX12_nextToken_306 (by decide) (by first | ((with_reducible apply cN_eq) <;> omega) | ((with_reducible apply cI_eqn) <;> omega) | exact Iff.rfl) (fun c306 => ?_) (fun c306 => ?_)
                            · skip
                              exact g_drop _ (by repeat (first | exact trivial | refine ⟨Or.inr ⟨_, rfl⟩, ?_⟩ | refine ⟨Or.inl rfl, ?_⟩)) k8
                            · skip
                              refine g_iload_n dX12_nextToken_309 rfl ?_
                              refine g_bipush (v := nI 41) dX12_nextToken_310 (by decide) ?_
                              refine n_icmp_eq 321 dX12_nextToken_312 (by decide) (by first | ((with_reducible apply cN_eq) <;> omega) | ((with_reducible apply cI_eqn) <;> omega) | exact Iff.rfl) (fun c312 => ?_) (fun c312 => ?_)
                              · skip
                                exact g_drop _ (by repeat (first | exact trivial | refine ⟨Or.inr ⟨_, rfl⟩, ?_⟩ | refine ⟨Or.inl rfl, ?_⟩)) k8
                              · skip
                                refine g_iload_n dX12_nextToken_315 rfl ?_
                                refine g_bipush (v := nI 59) dX12_nextToken_316 (by decide) ?_
                                refine n_icmp_ne 325 dX12_nextToken_318 (by decide) (by first | ((with_reducible apply cN_eq) <;> omega) | ((with_reducible apply cI_eqn) <;> omega) | exact Iff.rfl) (fun c318 => ?_) (fun c318 => ?_)
                                · skip
                                  exfalso; omega
                                · skip
                                  exact g_drop _ (by repeat (first | exact trivial | refine ⟨Or.inr ⟨_, rfl⟩, ?_⟩ | refine ⟨Or.inl rfl, ?_⟩)) k8
          · have r8 := rest (nI 3) (.int (nI 0)) (Or.inr ⟨c8, rfl⟩)
            have c8' := c8
            unfold isSg at c8'
            rw [decide_eq_true_iff] at c8'
            have k8 : pvG mX12_nextToken (pvR 2 0 0) Z 325 [.ref 202, .int (nI (tx p')), .retAddr 0] [] 0 0 224 (pvs I 202 (upd (upd f 22 (nI p')) 21 (nI (p' + 1)))) J P := by
              refine g_iconst (v := nI 0) dX12_nextToken_325 (by decide) ?_
              refine g_istore_n dX12_nextToken_326 (by decide) rfl ?_
              refine g_aload_n dX12_nextToken_327 rfl ?_
              refine g_iload_n dX12_nextToken_328 rfl ?_
              refine n_if_eq 336 dX12_nextToken_329 (by decide) (by first | (with_reducible exact cB _) | ((with_reducible apply cN_eq0) <;> omega) | exact Iff.rfl) (fun c329 => ?_) (fun c329 => by exfalso; first | omega | exact absurd trivial c329 | exact c329)
              refine g_iconst (v := nI 3) dX12_nextToken_336 (by decide) ?_
              refine n_putI dX12_nextToken_337 fdX12_194 rfl (fun h => absurd h (by decide)) (by first | rfl | exact pv_shx) (by omega) (by omega) (by decide) rfl (by repeat (first | exact pvu_s | exact pvuJ_s | apply pvu_in (by omega) | apply pvuJ_in (by omega) | exact pvu_pvs | exact pvuJ_pvs)) ?_
              exact r8
            refine g_aload_n dX12_nextToken_39 rfl ?_
            refine g_aload_n dX12_nextToken_40 rfl ?_
            refine n_getI dX12_nextToken_41 fdX12_185 rfl (by first | rfl | exact pv_shx) (by omega) (by omega) (by decide) rfl (by repeat (first | exact f21 | (apply rd_s; done) | apply rd_n (by omega) | apply rp_s | apply rp_n (by omega) | (apply rdL_s; done) | apply rdL_n (by omega) | apply rpJ_s | apply rpJ_n (by omega) | rfl)) ?_
            refine n_putI dX12_nextToken_44 fdX12_191 rfl (fun h => absurd h (by decide)) (by first | rfl | exact pv_shx) (by omega) (by omega) (by decide) rfl (by repeat (first | exact pvu_s | exact pvuJ_s | apply pvu_in (by omega) | apply pvuJ_in (by omega) | exact pvu_pvs | exact pvuJ_pvs)) ?_
            refine g_aload_n dX12_nextToken_47 rfl ?_
            refine g_aload_n dX12_nextToken_48 rfl ?_
            refine n_getI dX12_nextToken_49 fdX12_185 rfl (by first | rfl | exact pv_shx) (by omega) (by omega) (by decide) rfl (by repeat (first | exact f21 | (apply rd_s; done) | apply rd_n (by omega) | apply rp_s | apply rp_n (by omega) | (apply rdL_s; done) | apply rdL_n (by omega) | apply rpJ_s | apply rpJ_n (by omega) | rfl)) ?_
            refine p_callV (sp2 _) okX12_see lkX12_188 rfl (by first | rfl | exact pv_shx) rfl (by omega) (by omega) dX12_nextToken_52 rfl (Nat.le_of_ble_eq_true rfl) (⟨by decide, by decide, by decide, by decide⟩) ?_
            refine g_istore_n dX12_nextToken_55 (by decide) rfl ?_
            refine g_iload_n dX12_nextToken_56 rfl ?_
            refine n_if_ge 68 dX12_nextToken_57 (by decide) (by first | ((with_reducible apply cN_ge0) <;> omega) | (with_reducible exact cI_ge0)) (fun c57 => ?_) (fun c57 => by exfalso; first | omega | exact absurd trivial c57 | exact c57)
            refine g_iload_n dX12_nextToken_68 rfl ?_
            refine p_callS (dc) okX12_isDigit lkX12_197 rfl dX12_nextToken_69 rfl (Nat.le_of_ble_eq_true rfl) (⟨by decide, by decide, by decide, by decide⟩) ?_
            refine n_if_eq 144 dX12_nextToken_72 (by decide) (Iff.rfl) (fun c72 => ?_) (fun c72 => by exfalso; exact c72 rfl)
            refine g_iload_n dX12_nextToken_144 rfl ?_
            refine p_callS (lc) okX12_isLetter lkX12_204 rfl dX12_nextToken_145 rfl (Nat.le_of_ble_eq_true rfl) (⟨by decide, by decide, by decide, by decide⟩) ?_
            refine n_if_eq 245 dX12_nextToken_148 (by decide) (Iff.rfl) (fun c148 => ?_) (fun c148 => by exfalso; exact c148 rfl)
            refine g_aload_n dX12_nextToken_245 rfl ?_
            refine g_dup dX12_nextToken_246 rfl ?_
            refine n_getI dX12_nextToken_247 fdX12_185 rfl (by first | rfl | exact pv_shx) (by omega) (by omega) (by decide) rfl (by repeat (first | exact f21 | (apply rd_s; done) | apply rd_n (by omega) | apply rp_s | apply rp_n (by omega) | (apply rdL_s; done) | apply rdL_n (by omega) | apply rpJ_s | apply rpJ_n (by omega) | rfl)) ?_
            refine g_iconst (v := nI 1) dX12_nextToken_250 (by decide) ?_
            refine n_iadd dX12_nextToken_251 (by first | (with_reducible exact nI_add _ _) | rfl) ?_
            refine n_putI dX12_nextToken_252 fdX12_185 rfl (fun h => absurd h (by decide)) (by first | rfl | exact pv_shx) (by omega) (by omega) (by decide) rfl (by repeat (first | exact pvu_s | exact pvuJ_s | apply pvu_in (by omega) | apply pvuJ_in (by omega) | exact pvu_pvs | exact pvuJ_pvs)) ?_
            refine g_iload_n dX12_nextToken_255 rfl ?_
            refine g_bipush (v := nI 60) dX12_nextToken_256 (by decide) ?_
            refine n_icmp_eq 321 dX12_nextToken_258 (by decide) (by first | ((with_reducible apply cN_eq) <;> omega) | ((with_reducible apply cI_eqn) <;> omega) | exact Iff.rfl) (fun c258 => ?_) (fun c258 => ?_)
            · skip
              exfalso; omega
            · skip
              refine g_iload_n dX12_nextToken_261 rfl ?_
              refine g_bipush (v := nI 62) dX12_nextToken_262 (by decide) ?_
              refine n_icmp_eq 321 dX12_nextToken_264 (by decide) (by first | ((with_reducible apply cN_eq) <;> omega) | ((with_reducible apply cI_eqn) <;> omega) | exact Iff.rfl) (fun c264 => ?_) (fun c264 => ?_)
              · skip
                exfalso; omega
              · skip
                refine g_iload_n dX12_nextToken_267 rfl ?_
                refine g_bipush (v := nI 61) dX12_nextToken_268 (by decide) ?_
                refine n_icmp_eq 321 dX12_nextToken_270 (by decide) (by first | ((with_reducible apply cN_eq) <;> omega) | ((with_reducible apply cI_eqn) <;> omega) | exact Iff.rfl) (fun c270 => ?_) (fun c270 => ?_)
                · skip
                  exfalso; omega
                · skip
                  refine g_iload_n dX12_nextToken_273 rfl ?_
                  refine g_bipush (v := nI 35) dX12_nextToken_274 (by decide) ?_
                  refine n_icmp_eq 321 dX12_nextToken_276 (by decide) (by first | ((with_reducible apply cN_eq) <;> omega) | ((with_reducible apply cI_eqn) <;> omega) | exact Iff.rfl) (fun c276 => ?_) (fun c276 => ?_)
                  · skip
                    exfalso; omega
                  · skip
                    refine g_iload_n dX12_nextToken_279 rfl ?_
                    refine g_bipush (v := nI 43) dX12_nextToken_280 (by decide) ?_
                    refine n_icmp_eq 321 dX12_nextToken_282 (by decide) (by first | ((with_reducible apply cN_eq) <;> omega) | ((with_reducible apply cI_eqn) <;> omega) | exact Iff.rfl) (fun c282 => ?_) (fun c282 => ?_)
                    · skip
                      exfalso; omega
                    · skip
                      refine g_iload_n dX12_nextToken_285 rfl ?_
                      refine g_bipush (v := nI 45) dX12_nextToken_286 (by decide) ?_
                      refine n_icmp_eq 321 dX12_nextToken_288 (by decide) (by first | ((with_reducible apply cN_eq) <;> omega) | ((with_reducible apply cI_eqn) <;> omega) | exact Iff.rfl) (fun c288 => ?_) (fun c288 => ?_)
                      · skip
                        exfalso; omega
                      · skip
                        refine g_iload_n dX12_nextToken_291 rfl ?_
                        refine g_bipush (v := nI 42) dX12_nextToken_292 (by decide) ?_
                        refine n_icmp_eq 321 dX12_nextToken_294 (by decide) (by first | ((with_reducible apply cN_eq) <;> omega) | ((with_reducible apply cI_eqn) <;> omega) | exact Iff.rfl) (fun c294 => ?_) (fun c294 => ?_)
                        · skip
                          exfalso; omega
                        · skip
                          refine g_iload_n dX12_nextToken_297 rfl ?_
                          refine g_bipush (v := nI 47) dX12_nextToken_298 (by decide) ?_
                          refine n_icmp_eq 321 dX12_nextToken_300 (by decide) (by first | ((with_reducible apply cN_eq) <;> omega) | ((with_reducible apply cI_eqn) <;> omega) | exact Iff.rfl) (fun c300 => ?_) (fun c300 => ?_)
                          · skip
                            exfalso; omega
                          · skip
                            refine g_iload_n dX12_nextToken_303 rfl ?_
                            refine g_bipush (v := nI 40) dX12_nextToken_304 (by decide) ?_
                            refine n_icmp_eq 321 dX12_nextToken_306 (by decide) (by first | ((with_reducible apply cN_eq) <;> omega) | ((with_reducible apply cI_eqn) <;> omega) | exact Iff.rfl) (fun c306 => ?_) (fun c306 => ?_)
                            · skip
                              exfalso; omega
                            · skip
                              refine g_iload_n dX12_nextToken_309 rfl ?_
                              refine g_bipush (v := nI 41) dX12_nextToken_310 (by decide) ?_
                              refine n_icmp_eq 321 dX12_nextToken_312 (by decide) (by first | ((with_reducible apply cN_eq) <;> omega) | ((with_reducible apply cI_eqn) <;> omega) | exact Iff.rfl) (fun c312 => ?_) (fun c312 => ?_)
                              · skip
                                exfalso; omega
                              · skip
                                refine g_iload_n dX12_nextToken_315 rfl ?_
                                refine g_bipush (v := nI 59) dX12_nextToken_316 (by decide) ?_
                                refine n_icmp_ne 325 dX12_nextToken_318 (by decide) (by first | ((with_reducible apply cN_eq) <;> omega) | ((with_reducible apply cI_eqn) <;> omega) | exact Iff.rfl) (fun c318 => ?_) (fun c318 => ?_)
                                · skip
                                  exact g_drop _ (by repeat (first | exact trivial | refine ⟨Or.inr ⟨_, rfl⟩, ?_⟩ | refine ⟨Or.inl rfl, ?_⟩)) k8
                                · skip
                                  exfalso; omega
    · have sp2 : ∀ x, pvMet mX12_see 0 0 0 [.ref 202, .int (nI p')] 224 (pvs I 202 (upd f 22 x)) J P (pvpu (.int (-1)) 224 (pvs I 202 (upd f 22 x)) J P) := fun x => by
        have := se (upd f 22 x) J p' (up f 22 x hf (by decide)) hpn'
        rwa [if_neg c1] at this
      have h5 := fin (upd (upd f 22 (nI p')) 23 (nI 0)) (J 202) (.int (-1)) (.retAddr 0) (up _ 23 _ (up _ 22 _ hf (by decide)) (by decide)) (by simp [upd]; rw [f21]; unfold tkE; rw [if_pos (by omega)]) (by simp [upd]) (Or.inl ⟨by unfold tkT; rw [if_pos (by omega)], by simp [upd]⟩)
      rw [pvsJ_self] at h5
      refine g_aload_n dX12_nextToken_39 rfl ?_
      refine g_aload_n dX12_nextToken_40 rfl ?_
      refine n_getI dX12_nextToken_41 fdX12_185 rfl (by first | rfl | exact pv_shx) (by omega) (by omega) (by decide) rfl (by repeat (first | exact f21 | (apply rd_s; done) | apply rd_n (by omega) | apply rp_s | apply rp_n (by omega) | (apply rdL_s; done) | apply rdL_n (by omega) | apply rpJ_s | apply rpJ_n (by omega) | rfl)) ?_
      refine n_putI dX12_nextToken_44 fdX12_191 rfl (fun h => absurd h (by decide)) (by first | rfl | exact pv_shx) (by omega) (by omega) (by decide) rfl (by repeat (first | exact pvu_s | exact pvuJ_s | apply pvu_in (by omega) | apply pvuJ_in (by omega) | exact pvu_pvs | exact pvuJ_pvs)) ?_
      refine g_aload_n dX12_nextToken_47 rfl ?_
      refine g_aload_n dX12_nextToken_48 rfl ?_
      refine n_getI dX12_nextToken_49 fdX12_185 rfl (by first | rfl | exact pv_shx) (by omega) (by omega) (by decide) rfl (by repeat (first | exact f21 | (apply rd_s; done) | apply rd_n (by omega) | apply rp_s | apply rp_n (by omega) | (apply rdL_s; done) | apply rdL_n (by omega) | apply rpJ_s | apply rpJ_n (by omega) | rfl)) ?_
      refine p_callV (sp2 _) okX12_see lkX12_188 rfl (by first | rfl | exact pv_shx) rfl (by omega) (by omega) dX12_nextToken_52 rfl (Nat.le_of_ble_eq_true rfl) (⟨by decide, by decide, by decide, by decide⟩) ?_
      refine g_istore_n dX12_nextToken_55 (by decide) rfl ?_
      refine g_iload_n dX12_nextToken_56 rfl ?_
      refine n_if_ge 68 dX12_nextToken_57 (by decide) (cI_ge0) (fun c57 => by exfalso; exact absurd c57 (by decide)) (fun c57 => ?_)
      refine g_aload_n dX12_nextToken_60 rfl ?_
      refine g_iconst (v := nI 0) dX12_nextToken_61 (by decide) ?_
      refine n_putI dX12_nextToken_62 fdX12_194 rfl (fun h => absurd h (by decide)) (by first | rfl | exact pv_shx) (by omega) (by omega) (by decide) rfl (by repeat (first | exact pvu_s | exact pvuJ_s | apply pvu_in (by omega) | apply pvuJ_in (by omega) | exact pvu_pvs | exact pvuJ_pvs)) ?_
      refine g_goto 390 dX12_nextToken_65 (by decide) ?_
      exact h5
  -- the blanks
  have lp : ∀ q x f, x + q = n → rn isBl tx n x = p' → (∀ j, j ∉ [21, 22, 23, 24] → f j = I 202 j) → f 21 = nI x → pvG mX12_nextToken (pvR 2 0 0) Z 0 [.ref 202, .retAddr 0, .retAddr 0] [] 0 0 224 (pvs I 202 f) J P := by
    intro q
    induction q with
    | zero =>
      intro x f hx hr hf f21
      rw [rn_end (by omega)] at hr
      subst hr
      have m := main (by omega) (fun z => absurd z (by omega)) f hf f21
      have sp := se f J x hf (by omega)
      rw [if_neg (by omega)] at sp
      refine g_aload_n dX12_nextToken_0 rfl ?_
      refine g_aload_n dX12_nextToken_1 rfl ?_
      refine n_getI dX12_nextToken_2 fdX12_185 rfl (by first | rfl | exact pv_shx) (by omega) (by omega) (by decide) rfl (by repeat (first | exact f21 | (apply rd_s; done) | apply rd_n (by omega) | apply rp_s | apply rp_n (by omega) | (apply rdL_s; done) | apply rdL_n (by omega) | apply rpJ_s | apply rpJ_n (by omega) | rfl)) ?_
      refine p_callV (sp) okX12_see lkX12_188 rfl (by first | rfl | exact pv_shx) rfl (by omega) (by omega) dX12_nextToken_5 rfl (Nat.le_of_ble_eq_true rfl) (⟨by decide, by decide, by decide, by decide⟩) ?_
      refine g_bipush (v := nI 32) dX12_nextToken_8 (by decide) ?_
      refine n_icmp_eq 26 dX12_nextToken_10 (by decide) (by first | ((with_reducible apply cN_eq) <;> omega) | ((with_reducible apply cI_eqn) <;> omega) | exact Iff.rfl) (fun c10 => by exfalso; exact absurd c10 (by decide)) (fun c10 => ?_)
      refine g_aload_n dX12_nextToken_13 rfl ?_
      refine g_aload_n dX12_nextToken_14 rfl ?_
      refine n_getI dX12_nextToken_15 fdX12_185 rfl (by first | rfl | exact pv_shx) (by omega) (by omega) (by decide) rfl (by repeat (first | exact f21 | (apply rd_s; done) | apply rd_n (by omega) | apply rp_s | apply rp_n (by omega) | (apply rdL_s; done) | apply rdL_n (by omega) | apply rpJ_s | apply rpJ_n (by omega) | rfl)) ?_
      refine p_callV (sp) okX12_see lkX12_188 rfl (by first | rfl | exact pv_shx) rfl (by omega) (by omega) dX12_nextToken_18 rfl (Nat.le_of_ble_eq_true rfl) (⟨by decide, by decide, by decide, by decide⟩) ?_
      refine g_bipush (v := nI 10) dX12_nextToken_21 (by decide) ?_
      refine n_icmp_ne 39 dX12_nextToken_23 (by decide) (by first | ((with_reducible apply cN_eq) <;> omega) | ((with_reducible apply cI_eqn) <;> omega) | exact Iff.rfl) (fun c23 => ?_) (fun c23 => by exfalso; exact absurd c23 (by decide))
      exact m
    | succ q ih =>
      intro x f hx hr hf f21
      have sp := se f J x hf (by omega)
      rw [if_pos (by omega)] at sp
      have hc := h255 x (by omega)
      by_cases b : isBl (tx x) = true
      · rw [rn_yes (by omega) b] at hr
        have h4 := ih (x + 1) (upd f 21 (nI (x + 1))) (by omega) hr (up f 21 _ hf (by decide)) (by simp [upd])
        unfold isBl at b
        rw [decide_eq_true_iff] at b
        refine g_aload_n dX12_nextToken_0 rfl ?_
        refine g_aload_n dX12_nextToken_1 rfl ?_
        refine n_getI dX12_nextToken_2 fdX12_185 rfl (by first | rfl | exact pv_shx) (by omega) (by omega) (by decide) rfl (by repeat (first | exact f21 | (apply rd_s; done) | apply rd_n (by omega) | apply rp_s | apply rp_n (by omega) | (apply rdL_s; done) | apply rdL_n (by omega) | apply rpJ_s | apply rpJ_n (by omega) | rfl)) ?_
        refine p_callV (sp) okX12_see lkX12_188 rfl (by first | rfl | exact pv_shx) rfl (by omega) (by omega) dX12_nextToken_5 rfl (Nat.le_of_ble_eq_true rfl) (⟨by decide, by decide, by decide, by decide⟩) ?_
        refine g_bipush (v := nI 32) dX12_nextToken_8 (by decide) ?_
        refine n_icmp_eq 26 dX12_nextToken_10 (by decide) (by first | ((with_reducible apply cN_eq) <;> omega) | ((with_reducible apply cI_eqn) <;> omega) | exact Iff.rfl) (fun c10 => ?_) (fun c10 => ?_)
        · skip
          refine g_aload_n dX12_nextToken_26 rfl ?_
          refine g_dup dX12_nextToken_27 rfl ?_
          refine n_getI dX12_nextToken_28 fdX12_185 rfl (by first | rfl | exact pv_shx) (by omega) (by omega) (by decide) rfl (by repeat (first | exact f21 | (apply rd_s; done) | apply rd_n (by omega) | apply rp_s | apply rp_n (by omega) | (apply rdL_s; done) | apply rdL_n (by omega) | apply rpJ_s | apply rpJ_n (by omega) | rfl)) ?_
          refine g_iconst (v := nI 1) dX12_nextToken_31 (by decide) ?_
          refine n_iadd dX12_nextToken_32 (by first | (with_reducible exact nI_add _ _) | rfl) ?_
          refine n_putI dX12_nextToken_33 fdX12_185 rfl (fun h => absurd h (by decide)) (by first | rfl | exact pv_shx) (by omega) (by omega) (by decide) rfl (by repeat (first | exact pvu_s | exact pvuJ_s | apply pvu_in (by omega) | apply pvuJ_in (by omega) | exact pvu_pvs | exact pvuJ_pvs)) ?_
          refine g_goto 0 dX12_nextToken_36 (by decide) ?_
          exact h4
        · skip
          refine g_aload_n dX12_nextToken_13 rfl ?_
          refine g_aload_n dX12_nextToken_14 rfl ?_
          refine n_getI dX12_nextToken_15 fdX12_185 rfl (by first | rfl | exact pv_shx) (by omega) (by omega) (by decide) rfl (by repeat (first | exact f21 | (apply rd_s; done) | apply rd_n (by omega) | apply rp_s | apply rp_n (by omega) | (apply rdL_s; done) | apply rdL_n (by omega) | apply rpJ_s | apply rpJ_n (by omega) | rfl)) ?_
          refine p_callV (sp) okX12_see lkX12_188 rfl (by first | rfl | exact pv_shx) rfl (by omega) (by omega) dX12_nextToken_18 rfl (Nat.le_of_ble_eq_true rfl) (⟨by decide, by decide, by decide, by decide⟩) ?_
          refine g_bipush (v := nI 10) dX12_nextToken_21 (by decide) ?_
          refine n_icmp_ne 39 dX12_nextToken_23 (by decide) (by first | ((with_reducible apply cN_eq) <;> omega) | ((with_reducible apply cI_eqn) <;> omega) | exact Iff.rfl) (fun c23 => by exfalso; first | omega | exact absurd trivial c23 | exact c23) (fun c23 => ?_)
          refine g_aload_n dX12_nextToken_26 rfl ?_
          refine g_dup dX12_nextToken_27 rfl ?_
          refine n_getI dX12_nextToken_28 fdX12_185 rfl (by first | rfl | exact pv_shx) (by omega) (by omega) (by decide) rfl (by repeat (first | exact f21 | (apply rd_s; done) | apply rd_n (by omega) | apply rp_s | apply rp_n (by omega) | (apply rdL_s; done) | apply rdL_n (by omega) | apply rpJ_s | apply rpJ_n (by omega) | rfl)) ?_
          refine g_iconst (v := nI 1) dX12_nextToken_31 (by decide) ?_
          refine n_iadd dX12_nextToken_32 (by first | (with_reducible exact nI_add _ _) | rfl) ?_
          refine n_putI dX12_nextToken_33 fdX12_185 rfl (fun h => absurd h (by decide)) (by first | rfl | exact pv_shx) (by omega) (by omega) (by decide) rfl (by repeat (first | exact pvu_s | exact pvuJ_s | apply pvu_in (by omega) | apply pvuJ_in (by omega) | exact pvu_pvs | exact pvuJ_pvs)) ?_
          refine g_goto 0 dX12_nextToken_36 (by decide) ?_
          exact h4
      · rw [rn_no b] at hr
        subst hr
        have m := main (by omega) (fun _ => b) f hf f21
        unfold isBl at b
        rw [decide_eq_true_iff] at b
        refine g_aload_n dX12_nextToken_0 rfl ?_
        refine g_aload_n dX12_nextToken_1 rfl ?_
        refine n_getI dX12_nextToken_2 fdX12_185 rfl (by first | rfl | exact pv_shx) (by omega) (by omega) (by decide) rfl (by repeat (first | exact f21 | (apply rd_s; done) | apply rd_n (by omega) | apply rp_s | apply rp_n (by omega) | (apply rdL_s; done) | apply rdL_n (by omega) | apply rpJ_s | apply rpJ_n (by omega) | rfl)) ?_
        refine p_callV (sp) okX12_see lkX12_188 rfl (by first | rfl | exact pv_shx) rfl (by omega) (by omega) dX12_nextToken_5 rfl (Nat.le_of_ble_eq_true rfl) (⟨by decide, by decide, by decide, by decide⟩) ?_
        refine g_bipush (v := nI 32) dX12_nextToken_8 (by decide) ?_
        refine n_icmp_eq 26 dX12_nextToken_10 (by decide) (by first | ((with_reducible apply cN_eq) <;> omega) | ((with_reducible apply cI_eqn) <;> omega) | exact Iff.rfl) (fun c10 => by exfalso; first | omega | exact absurd trivial c10 | exact c10) (fun c10 => ?_)
        refine g_aload_n dX12_nextToken_13 rfl ?_
        refine g_aload_n dX12_nextToken_14 rfl ?_
        refine n_getI dX12_nextToken_15 fdX12_185 rfl (by first | rfl | exact pv_shx) (by omega) (by omega) (by decide) rfl (by repeat (first | exact f21 | (apply rd_s; done) | apply rd_n (by omega) | apply rp_s | apply rp_n (by omega) | (apply rdL_s; done) | apply rdL_n (by omega) | apply rpJ_s | apply rpJ_n (by omega) | rfl)) ?_
        refine p_callV (sp) okX12_see lkX12_188 rfl (by first | rfl | exact pv_shx) rfl (by omega) (by omega) dX12_nextToken_18 rfl (Nat.le_of_ble_eq_true rfl) (⟨by decide, by decide, by decide, by decide⟩) ?_
        refine g_bipush (v := nI 10) dX12_nextToken_21 (by decide) ?_
        refine n_icmp_ne 39 dX12_nextToken_23 (by decide) (by first | ((with_reducible apply cN_eq) <;> omega) | ((with_reducible apply cI_eqn) <;> omega) | exact Iff.rfl) (fun c23 => ?_) (fun c23 => by exfalso; first | omega | exact absurd trivial c23 | exact c23)
        exact m
  refine pvMet.of _ (by decide) rfl (Nat.le_of_ble_eq_true rfl) ?_
  rw [hZ]
  have h0 := lp (n - p) p (I 202) (by omega) hp' (fun j _ => rfl) hp
  rw [pvs_self] at h0
  exact g_drop _ (by repeat (first | exact trivial | refine ⟨Or.inr ⟨_, rfl⟩, ?_⟩ | refine ⟨Or.inl rfl, ?_⟩)) h0
