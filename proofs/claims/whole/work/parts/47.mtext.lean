/-! model: texts and acts -/
theorem rdC_f {T : Nat → Nat} {n : Nat} {cs : List pC} {k f kf : Nat} (h : rdC T n cs k = .error (f, kf)) : 1 ≤ f ∧ f ≤ 6 := by
  have hB : ∀ s o k, ∀ f kf, rdB T n s o k = .error (f, kf) → 1 ≤ f ∧ f ≤ 6 := by
    intro s o k f kf h
    have hY : okF (rdY T n s k) := by
      unfold rdY
      split
      · exact okF_S (n := n) (T := T) (okF_O (T := T) (srt := s) (n := n) 8) k
      · exact okF_E k
    unfold rdB at h
    cases he : rdY T n s k with
    | ok v =>
      obtain ⟨e, k2⟩ := v
      rw [he] at h
      dsimp only at h
      split at h
      · cases h
      · cases h; omega
    | error v => obtain ⟨f', k'⟩ := v; rw [he] at h; cases h; exact hY _ _ he
  unfold rdC at h
  split at h
  · cases h; omega
  · split at h
    · cases h; omega
    · split at h
      · cases h; omega
      · split at h
        · split at h
          · cases h; omega
          · split at h
            · cases h; omega
            · exact hB _ _ _ _ _ h
        · exact hB _ _ _ _ _ h
def tQ (tx : Nat → Nat) (n t0 : Nat) (I0 : pvI) (J0 : pvJ) (P : pvP) : pvQT := pvq P (fun v I' J' => match rdAll (tkK tx n) n with
    | .ok (cs, k) => v = some (.int (nI 0)) ∧ k ≤ n ∧ ∃ cd, cd.length ≤ n ∧ mX tx n t0 I0 J0 I' J' k cs cd
    | .error (f, kf) => v = some (.int (nI f)) ∧ (1 ≤ f ∧ f ≤ 6) ∧ mFb tx n t0 I0 J0 I' J' kf)
theorem t_readText {tx : Nat → Nat} {n na : Nat} {I : pvI} {J : pvJ} {P : pvP} (hP : pvOkP P) (ht : mTx tx n I) (hna : I 203 8 = nI na) (hn9 : na ≤ 9) (h33 : I 202 33 = 0 ∨ I 202 33 = 1) : pvMet mX12_readText 9 0 0 [.ref 202] 224 I J P (tQ tx n (800 * na) (pvs I 202 (upd (I 202) 26 (nI (800 * na)))) J P) := by
  generalize hI0 : pvs I 202 (upd (I 202) 26 (nI (800 * na))) = I0
  have e0 : I0 202 = upd (I 202) 26 (nI (800 * na)) := by rw [← hI0, pvs_eq]
  have eo : ∀ x, x ≠ 202 → I0 x = I x := fun x h => by rw [← hI0, pvs_ne h]
  have ht0 : mTx tx n I0 := ⟨by rw [e0, fld_at (by decide) rfl]; exact ht.1, ht.2.1, fun i hi => by rw [eo 217 (by decide)]; exact ht.2.2 i hi⟩
  have h26 : I0 202 26 = nI (800 * na) := by rw [e0]; simp [upd]
  have lp : ∀ f cs k cd I1 J1, mX tx n (800 * na) I0 J I1 J1 k cs cd → cd.length ≤ k → k ≤ n → n + 1 ≤ k + f → rdX (tkK tx n) n f cs k = rdAll (tkK tx n) n → pvG mX12_readText (pvR 9 0 0) (pvZ (tQ tx n (800 * na) I0 J P) 0 0) 44 [.ref 202, .retAddr 0] [] 0 0 224 I1 J1 P := by
    intro f
    induction f with
    | zero => intro cs k cd I1 J1 _ _ h1 h2; omega
    | succ f ih =>
      intro cs k cd I1 J1 hX hb hk hf hr
      have htk := hX.2.1.2
      have es : rdX (tkK tx n) n (f + 1) cs k = if tkK tx n k = 0 then .ok (cs, k) else (match rdC (tkK tx n) n cs k with
        | .ok (c, k2) => rdX (tkK tx n) n f (cs ++ [c]) k2
        | .error x => .error x) := rfl
      by_cases c : tkK tx n k = 0
      · rw [es, if_pos c] at hr
        refine g_aload_n dX12_readText_44 rfl ?_
        refine n_getI dX12_readText_45 fdX12_194 rfl (by first | rfl | exact pv_shx) (by omega) (by omega) (by decide) rfl (by repeat (first | (apply rd_s; done) | apply rd_n (by omega) | apply rp_s | apply rp_n (by omega) | (apply rdL_s; done) | apply rdL_n (by omega) | apply rpJ_s | apply rpJ_n (by omega) | rfl)) ?_
        refine n_if_eq 65 dX12_readText_48 (by decide) ((tokR_o htk).1) (fun c48 => ?_) (fun c48 => by exfalso; first | omega | exact absurd trivial c48 | exact c48)
        refine g_iconst (v := nI 0) dX12_readText_65 (by decide) ?_
        exact g_iret dX12_readText_66 rfl (⟨rfl, rfl, by rw [← hr]; exact ⟨rfl, hk, cd, by omega, hX⟩⟩)
      · rw [es, if_neg c] at hr
        have hc := t_clause hP ht0 h26 (by omega) hX hb c
        cases hr2 : rdC (tkK tx n) n cs k with
        | error x =>
          obtain ⟨g, kf⟩ := x
          have hg6 := rdC_f hr2
          rw [hr2] at hr
          unfold clQ at hc
          rw [hr2] at hc
          refine g_aload_n dX12_readText_44 rfl ?_
          refine n_getI dX12_readText_45 fdX12_194 rfl (by first | rfl | exact pv_shx) (by omega) (by omega) (by decide) rfl (by repeat (first | (apply rd_s; done) | apply rd_n (by omega) | apply rp_s | apply rp_n (by omega) | (apply rdL_s; done) | apply rdL_n (by omega) | apply rpJ_s | apply rpJ_n (by omega) | rfl)) ?_
          refine n_if_eq 65 dX12_readText_48 (by decide) ((tokR_o htk).1) (fun c48 => by exfalso; first | omega | exact absurd trivial c48 | exact c48) (fun c48 => ?_)
          refine g_aload_n dX12_readText_51 rfl ?_
          refine g_callV (hc) okX12_clause lkX12_308 rfl (by first | rfl | exact pv_shx) rfl (by omega) (by omega) dX12_readText_52 rfl (Nat.le_of_ble_eq_true rfl) (⟨by decide, by decide, by decide, by decide⟩) ?_
          rintro w nx' I2 J2 P' ⟨rfl, rfl, rfl, hb2⟩
          refine g_istore_n dX12_readText_55 (by decide) rfl ?_
          refine g_iload_n dX12_readText_56 rfl ?_
          refine n_if_eq 62 dX12_readText_57 (by decide) (by first | (with_reducible exact cB _) | ((with_reducible apply cN_eq0) <;> omega) | exact Iff.rfl) (fun c57 => by exfalso; first | omega | exact absurd trivial c57 | exact c57) (fun c57 => ?_)
          refine g_iload_n dX12_readText_60 rfl ?_
          exact g_iret dX12_readText_61 rfl (⟨rfl, rfl, by rw [← hr]; exact ⟨rfl, hg6, hb2⟩⟩)
        | ok x =>
          obtain ⟨c1, k2⟩ := x
          rw [hr2] at hr
          unfold clQ at hc
          rw [hr2] at hc
          refine g_aload_n dX12_readText_44 rfl ?_
          refine n_getI dX12_readText_45 fdX12_194 rfl (by first | rfl | exact pv_shx) (by omega) (by omega) (by decide) rfl (by repeat (first | (apply rd_s; done) | apply rd_n (by omega) | apply rp_s | apply rp_n (by omega) | (apply rdL_s; done) | apply rdL_n (by omega) | apply rpJ_s | apply rpJ_n (by omega) | rfl)) ?_
          refine n_if_eq 65 dX12_readText_48 (by decide) ((tokR_o htk).1) (fun c48 => by exfalso; first | omega | exact absurd trivial c48 | exact c48) (fun c48 => ?_)
          refine g_aload_n dX12_readText_51 rfl ?_
          refine g_callV (hc) okX12_clause lkX12_308 rfl (by first | rfl | exact pv_shx) rfl (by omega) (by omega) dX12_readText_52 rfl (Nat.le_of_ble_eq_true rfl) (⟨by decide, by decide, by decide, by decide⟩) ?_
          rintro w nx' I2 J2 P' ⟨rfl, rfl, rfl, hX2, hb2, hk2, hk3⟩
          refine g_istore_n dX12_readText_55 (by decide) rfl ?_
          refine g_iload_n dX12_readText_56 rfl ?_
          refine n_if_eq 62 dX12_readText_57 (by decide) (by first | (with_reducible exact cB _) | ((with_reducible apply cN_eq0) <;> omega) | exact Iff.rfl) (fun c57 => ?_) (fun c57 => by exfalso; first | omega | exact absurd trivial c57 | exact c57)
          refine g_goto 44 dX12_readText_62 (by decide) ?_
          exact g_drop _ (by repeat (first | exact trivial | refine ⟨Or.inr ⟨_, rfl⟩, ?_⟩ | refine ⟨Or.inl rfl, ?_⟩)) (ih _ _ _ I2 J2 hX2 hb2 hk3 (by omega) hr)
  generalize hI1 : pvs I 202 (upd (upd (upd (upd (upd (upd (I 202) 26 (nI (800 * na))) 27 (nI 0)) 28 (nI 0)) 32 (nI 0)) 29 (nI 0)) 21 (nI 0)) = I1
  have e1 : I1 202 = upd (upd (upd (upd (upd (upd (I 202) 26 (nI (800 * na))) 27 (nI 0)) 28 (nI 0)) 32 (nI 0)) 29 (nI 0)) 21 (nI 0) := by rw [← hI1, pvs_eq]
  have eo1 : ∀ x, x ≠ 202 → I1 x = I x := fun x h => by rw [← hI1, pvs_ne h]
  have t1 : mTx tx n I1 := ⟨by rw [e1]; simp [upd]; exact ht.1, ht.2.1, fun i hi => by rw [eo1 217 (by decide)]; exact ht.2.2 i hi⟩
  have nx1 := t_next (J := J) (p := 0) hP t1 (by rw [e1]; simp [upd]) (Nat.zero_le n)
  have go : ∀ I2 J2, nxQ tx n 0 I1 J I2 J2 → mX tx n (800 * na) I0 J I2 J2 0 [] [] := by
    intro I2 J2 hq
    obtain ⟨q1, q2, q3, q4, q5, q6⟩ := hq
    refine ⟨⟨fun x hx => ?_, fun j hj => ?_, q3, q5, fun x hx => ?_, ?_⟩, ⟨q4, q6⟩, ⟨?_, ?_, ?_, ?_⟩, fun i hi => absurd hi (Nat.not_lt_zero i), fun j hj => absurd hj (Nat.not_lt_zero j), Nat.zero_le _, fun c hc => absurd hc List.not_mem_nil⟩
    · simp at hx
      rw [q1 x (by simp; omega), eo1 x (by omega), eo x (by omega)]
    · simp at hj
      rw [q2 j (by simp; omega), e1, e0]
      simp [upd, hj]
    · rw [q1 205 (by decide), eo1 205 (by decide), eo 205 (by decide)]
    · rw [q2 33 (by decide), e1]
      simp [upd]
      exact h33
    · rw [q2 27 (by decide), e1]; simp [upd]
    · rw [q2 28 (by decide), e1]; simp [upd]
    · rw [q2 29 (by decide), e1]; simp [upd]; rfl
    · rw [q2 32 (by decide), e1]; simp [upd]
  refine pvMet.of _ (by decide) rfl (Nat.le_of_ble_eq_true rfl) ?_
  refine g_aload_n dX12_readText_0 rfl ?_
  refine g_sipush (v := nI 800) dX12_readText_1 (by decide) ?_
  refine g_aload_n dX12_readText_4 rfl ?_
  refine g_getP dX12_readText_5 fdX12_7 rfl (by first | rfl | exact pv_shx) (by omega) (by omega) (by decide) rfl (hP _ _ _ rfl) ?_
  refine g_bipush (v := nI 8) dX12_readText_8 (by decide) ?_
  refine n_iald dX12_readText_10 (by first | rfl | exact pv_shx) (by omega) (by omega) (by decide) (rfl) (by omega) (by repeat (first | exact hna | (apply rd_s; done) | apply rd_n (by omega) | apply rp_s | apply rp_n (by omega) | (apply rdL_s; done) | apply rdL_n (by omega) | apply rpJ_s | apply rpJ_n (by omega) | rfl)) ?_
  refine n_imul dX12_readText_11 (by first | (with_reducible exact pk_mul _ _) | rfl) ?_
  refine n_putI dX12_readText_12 fdX12_219 rfl (fun h => absurd h (by decide)) (by first | rfl | exact pv_shx) (by omega) (by omega) (by decide) rfl (by repeat (first | exact pvu_s | exact pvuJ_s | apply pvu_in (by omega) | apply pvuJ_in (by omega) | exact pvu_pvs | exact pvuJ_pvs)) ?_
  refine g_aload_n dX12_readText_15 rfl ?_
  refine g_iconst (v := nI 0) dX12_readText_16 (by decide) ?_
  refine n_putI dX12_readText_17 fdX12_302 rfl (fun h => absurd h (by decide)) (by first | rfl | exact pv_shx) (by omega) (by omega) (by decide) rfl (by repeat (first | exact pvu_s | exact pvuJ_s | apply pvu_in (by omega) | apply pvuJ_in (by omega) | exact pvu_pvs | exact pvuJ_pvs)) ?_
  refine g_aload_n dX12_readText_20 rfl ?_
  refine g_iconst (v := nI 0) dX12_readText_21 (by decide) ?_
  refine n_putI dX12_readText_22 fdX12_222 rfl (fun h => absurd h (by decide)) (by first | rfl | exact pv_shx) (by omega) (by omega) (by decide) rfl (by repeat (first | exact pvu_s | exact pvuJ_s | apply pvu_in (by omega) | apply pvuJ_in (by omega) | exact pvu_pvs | exact pvuJ_pvs)) ?_
  refine g_aload_n dX12_readText_25 rfl ?_
  refine g_iconst (v := nI 0) dX12_readText_26 (by decide) ?_
  refine n_putI dX12_readText_27 fdX12_232 rfl (fun h => absurd h (by decide)) (by first | rfl | exact pv_shx) (by omega) (by omega) (by decide) rfl (by repeat (first | exact pvu_s | exact pvuJ_s | apply pvu_in (by omega) | apply pvuJ_in (by omega) | exact pvu_pvs | exact pvuJ_pvs)) ?_
  refine g_aload_n dX12_readText_30 rfl ?_
  refine g_iconst (v := nI 0) dX12_readText_31 (by decide) ?_
  refine n_putI dX12_readText_32 fdX12_299 rfl (fun h => absurd h (by decide)) (by first | rfl | exact pv_shx) (by omega) (by omega) (by decide) rfl (by repeat (first | exact pvu_s | exact pvuJ_s | apply pvu_in (by omega) | apply pvuJ_in (by omega) | exact pvu_pvs | exact pvuJ_pvs)) ?_
  refine g_aload_n dX12_readText_35 rfl ?_
  refine g_iconst (v := nI 0) dX12_readText_36 (by decide) ?_
  refine n_putI dX12_readText_37 fdX12_185 rfl (fun h => absurd h (by decide)) (by first | rfl | exact pv_shx) (by omega) (by omega) (by decide) rfl (by repeat (first | exact pvu_s | exact pvuJ_s | apply pvu_in (by omega) | apply pvuJ_in (by omega) | exact pvu_pvs | exact pvuJ_pvs)) ?_
  refine g_aload_n dX12_readText_40 rfl ?_
  rw [hI1]
  refine g_callV (nx1) okX12_nextToken lkX12_249 rfl (by first | rfl | exact pv_shx) rfl (by omega) (by omega) dX12_readText_41 rfl (Nat.le_of_ble_eq_true rfl) (⟨by decide, by decide, by decide, by decide⟩) ?_
  rintro w nx' I2 J2 P' ⟨rfl, rfl, rfl, hq⟩
  exact lp (n + 1) [] 0 [] I2 J2 (go I2 J2 hq) (Nat.le_refl 0) (Nat.zero_le n) (by omega) rfl
/-- a text in the model's memory -/
def txA (f : Nat → Int32) (t0 : Nat) (cs : List pC) : Prop := f t0 = nI cs.length ∧ cs.length ≤ 20 ∧ (∀ c, c ∈ cs → c.1 ≤ 3) ∧ ∃ cd, cd.length ≤ 300 ∧ cdA f t0 cd ∧ ∀ j, j < cs.length → clD f t0 j (cs.getD j (0, 0, [])) cd
/-- what an act's reading leaves as it is -/
def acF (I : pvI) (J : pvJ) (I' : pvI) (J' : pvJ) (t0 : Nat) : Prop := mfix I I' [202, 203, 205, 218] ∧ (I' 202 0 = I 202 0 ∧ I' 202 1 = I 202 1) ∧ I' 202 17 = nI 0 ∧ (I' 202 33 = 0 ∨ I' 202 33 = 1) ∧ (∀ x, x ≠ 202 → J' x = J x) ∧ (∀ x, (x < t0 ∨ t0 + 800 ≤ x) → I' 205 x = I 205 x)
def acQ (tx : Nat → Nat) (n na : Nat) (I : pvI) (J : pvJ) (P : pvP) : pvQT := pvq P (fun v I' J' => if na = 10 then v = some (.int (-1)) ∧ I' = I ∧ J' = J else acF I J I' J' (800 * na) ∧ match rdAll (tkK tx n) n with
    | .ok (cs, _) => v = some (.int (nI na)) ∧ I' 203 = upd (I 203) 8 (nI (na + 1)) ∧ I' 202 19 = nI 0 ∧ I' 202 20 = -1 ∧ txA (I' 205) (800 * na) cs
    | .error (f, kf) => v = some (.int (-1)) ∧ I' 203 = I 203 ∧ I' 202 19 = nI f ∧ I' 202 20 = nI (tkP tx n kf))
theorem t_act {tx : Nat → Nat} {n na : Nat} {I : pvI} {J : pvJ} {P : pvP} (hP : pvOkP P) (ht : mTx tx n I) (hna : I 203 8 = nI na) (hn9 : na ≤ 10) (h33 : I 202 33 = 0 ∨ I 202 33 = 1) : pvMet mX12_act 10 0 0 [.ref 202] 224 I J P (acQ tx n na I J P) := by
  have hn300 := ht.2.1
  by_cases c : na = 10
  · skip
    refine pvMet.of _ (by decide) rfl (Nat.le_of_ble_eq_true rfl) ?_
    refine g_aload_n dX12_act_0 rfl ?_
    refine g_getP dX12_act_1 fdX12_7 rfl (by first | rfl | exact pv_shx) (by omega) (by omega) (by decide) rfl (hP _ _ _ rfl) ?_
    refine g_bipush (v := nI 8) dX12_act_4 (by decide) ?_
    refine n_iald dX12_act_6 (by first | rfl | exact pv_shx) (by omega) (by omega) (by decide) (rfl) (by omega) (by repeat (first | exact hna | (apply rd_s; done) | apply rd_n (by omega) | apply rp_s | apply rp_n (by omega) | (apply rdL_s; done) | apply rdL_n (by omega) | apply rpJ_s | apply rpJ_n (by omega) | rfl)) ?_
    refine g_bipush (v := nI 10) dX12_act_7 (by decide) ?_
    refine n_icmp_ne 14 dX12_act_9 (by decide) (by first | ((with_reducible apply cN_eq) <;> omega) | ((with_reducible apply cI_eqn) <;> omega) | exact Iff.rfl) (fun c9 => by exfalso; first | omega | exact absurd trivial c9 | exact c9) (fun c9 => ?_)
    refine g_iconst (v := (-1)) dX12_act_12 (by decide) ?_
    exact g_iret dX12_act_13 rfl (⟨rfl, rfl, by dsimp only; rw [if_pos c]; exact ⟨rfl, rfl, rfl⟩⟩)
  · have rt := t_readText (J := J) hP ht hna (by omega) h33
    generalize hI0 : pvs I 202 (upd (I 202) 26 (nI (800 * na))) = I0 at rt
    have e0 : I0 202 = upd (I 202) 26 (nI (800 * na)) := by rw [← hI0, pvs_eq]
    have eo : ∀ x, x ≠ 202 → I0 x = I x := fun x h => by rw [← hI0, pvs_ne h]
    cases hr : rdAll (tkK tx n) n with
    | error x =>
      obtain ⟨f, kf⟩ := x
      unfold tQ at rt
      rw [hr] at rt
      refine pvMet.of _ (by decide) rfl (Nat.le_of_ble_eq_true rfl) ?_
      refine g_aload_n dX12_act_0 rfl ?_
      refine g_getP dX12_act_1 fdX12_7 rfl (by first | rfl | exact pv_shx) (by omega) (by omega) (by decide) rfl (hP _ _ _ rfl) ?_
      refine g_bipush (v := nI 8) dX12_act_4 (by decide) ?_
      refine n_iald dX12_act_6 (by first | rfl | exact pv_shx) (by omega) (by omega) (by decide) (rfl) (by omega) (by repeat (first | exact hna | (apply rd_s; done) | apply rd_n (by omega) | apply rp_s | apply rp_n (by omega) | (apply rdL_s; done) | apply rdL_n (by omega) | apply rpJ_s | apply rpJ_n (by omega) | rfl)) ?_
      refine g_bipush (v := nI 10) dX12_act_7 (by decide) ?_
      refine n_icmp_ne 14 dX12_act_9 (by decide) (by first | ((with_reducible apply cN_eq) <;> omega) | ((with_reducible apply cI_eqn) <;> omega) | exact Iff.rfl) (fun c9 => ?_) (fun c9 => by exfalso; first | omega | exact absurd trivial c9 | exact c9)
      refine g_aload_n dX12_act_14 rfl ?_
      refine g_aload_n dX12_act_15 rfl ?_
      refine g_callV (rt) okX12_readText lkX12_311 rfl (by first | rfl | exact pv_shx) rfl (by omega) (by omega) dX12_act_16 rfl (Nat.le_of_ble_eq_true rfl) (⟨by decide, by decide, by decide, by decide⟩) ?_
      rintro w nx' I1 J1 P' ⟨rfl, rfl, rfl, hf, hb1, hb2, hb3, hb4, hb5, hb6⟩
      have f22 := hb4
      refine n_putI dX12_act_19 fdX12_57 rfl (fun h => absurd h (by decide)) (by first | rfl | exact pv_shx) (by omega) (by omega) (by decide) rfl (by repeat (first | exact pvu_s | exact pvuJ_s | apply pvu_in (by omega) | apply pvuJ_in (by omega) | exact pvu_pvs | exact pvuJ_pvs)) ?_
      refine g_aload_n dX12_act_22 rfl ?_
      refine g_aload_n dX12_act_23 rfl ?_
      refine n_getI dX12_act_24 fdX12_57 rfl (by first | rfl | exact pv_shx) (by omega) (by omega) (by decide) rfl (by repeat (first | exact hna | (apply rd_s; done) | apply rd_n (by omega) | apply rp_s | apply rp_n (by omega) | (apply rdL_s; done) | apply rdL_n (by omega) | apply rpJ_s | apply rpJ_n (by omega) | rfl)) ?_
      refine n_if_ne 34 dX12_act_27 (by decide) (by first | (with_reducible exact cB _) | ((with_reducible apply cN_eq0) <;> omega) | exact Iff.rfl) (fun c27 => ?_) (fun c27 => by exfalso; first | omega | exact absurd trivial c27 | exact c27)
      refine g_aload_n dX12_act_34 rfl ?_
      refine n_getI dX12_act_35 fdX12_191 rfl (by first | rfl | exact pv_shx) (by omega) (by omega) (by decide) rfl (rp_s (rd_n (by decide) hb4)) ?_
      refine n_putI dX12_act_38 fdX12_61 rfl (fun h => absurd h (by decide)) (by first | rfl | exact pv_shx) (by omega) (by omega) (by decide) rfl (by repeat (first | exact pvu_s | exact pvuJ_s | apply pvu_in (by omega) | apply pvuJ_in (by omega) | exact pvu_pvs | exact pvuJ_pvs)) ?_
      refine g_aload_n dX12_act_41 rfl ?_
      refine g_iconst (v := nI 0) dX12_act_42 (by decide) ?_
      refine n_putI dX12_act_43 fdX12_178 rfl (fun h => absurd h (by decide)) (by first | rfl | exact pv_shx) (by omega) (by omega) (by decide) rfl (by repeat (first | exact pvu_s | exact pvuJ_s | apply pvu_in (by omega) | apply pvuJ_in (by omega) | exact pvu_pvs | exact pvuJ_pvs)) ?_
      refine g_aload_n dX12_act_46 rfl ?_
      refine n_getI dX12_act_47 fdX12_57 rfl (by first | rfl | exact pv_shx) (by omega) (by omega) (by decide) rfl (by repeat (first | exact hna | (apply rd_s; done) | apply rd_n (by omega) | apply rp_s | apply rp_n (by omega) | (apply rdL_s; done) | apply rdL_n (by omega) | apply rpJ_s | apply rpJ_n (by omega) | rfl)) ?_
      refine n_if_eq 55 dX12_act_50 (by decide) (by first | (with_reducible exact cB _) | ((with_reducible apply cN_eq0) <;> omega) | exact Iff.rfl) (fun c50 => by exfalso; first | omega | exact absurd trivial c50 | exact c50) (fun c50 => ?_)
      refine g_iconst (v := (-1)) dX12_act_53 (by decide) ?_
      refine g_iret dX12_act_54 rfl (⟨rfl, rfl, ?_⟩)
      dsimp only
      rw [if_neg c, hr]
      refine ⟨⟨fun x hx => ?_, ⟨?_, ?_⟩, ?_, ?_, hb3, fun x hx => ?_⟩, rfl, ?_, ?_, ?_⟩
      · simp at hx
        rw [pvs_ne hx.1, hb1 x (by simp; omega), eo x hx.1]
      · rw [pvs_eq]; simp [upd]; rw [hb2 0 (by decide), e0]; simp [upd]
      · rw [pvs_eq]; simp [upd]; rw [hb2 1 (by decide), e0]; simp [upd]
      · rw [pvs_eq]; simp [upd]
      · rw [pvs_eq]; simp [upd]; exact hb6
      · rw [pvs_ne (by decide), hb5 x hx, eo 205 (by decide)]
      · rw [pvs_ne (by decide), hb1 203 (by decide), eo 203 (by decide)]
      · rw [pvs_eq]; simp [upd]
      · rw [pvs_eq]; simp [upd]
    | ok x =>
      obtain ⟨cs, k⟩ := x
      unfold tQ at rt
      rw [hr] at rt
      refine pvMet.of _ (by decide) rfl (Nat.le_of_ble_eq_true rfl) ?_
      refine g_aload_n dX12_act_0 rfl ?_
      refine g_getP dX12_act_1 fdX12_7 rfl (by first | rfl | exact pv_shx) (by omega) (by omega) (by decide) rfl (hP _ _ _ rfl) ?_
      refine g_bipush (v := nI 8) dX12_act_4 (by decide) ?_
      refine n_iald dX12_act_6 (by first | rfl | exact pv_shx) (by omega) (by omega) (by decide) (rfl) (by omega) (by repeat (first | exact hna | (apply rd_s; done) | apply rd_n (by omega) | apply rp_s | apply rp_n (by omega) | (apply rdL_s; done) | apply rdL_n (by omega) | apply rpJ_s | apply rpJ_n (by omega) | rfl)) ?_
      refine g_bipush (v := nI 10) dX12_act_7 (by decide) ?_
      refine n_icmp_ne 14 dX12_act_9 (by decide) (by first | ((with_reducible apply cN_eq) <;> omega) | ((with_reducible apply cI_eqn) <;> omega) | exact Iff.rfl) (fun c9 => ?_) (fun c9 => by exfalso; first | omega | exact absurd trivial c9 | exact c9)
      refine g_aload_n dX12_act_14 rfl ?_
      refine g_aload_n dX12_act_15 rfl ?_
      refine g_callV (rt) okX12_readText lkX12_311 rfl (by first | rfl | exact pv_shx) rfl (by omega) (by omega) dX12_act_16 rfl (Nat.le_of_ble_eq_true rfl) (⟨by decide, by decide, by decide, by decide⟩) ?_
      rintro w nx' I1 J1 P' ⟨rfl, rfl, rfl, hkn, cd, hcd, ⟨hb1, hb2, hb3, hb4, hb5, hb6⟩, -, ⟨h27, h28, h29, h32⟩, hcda, hcl, hl20, hc3⟩
      have f26 : I1 202 26 = nI (800 * na) := by rw [hb2 26 (by decide), e0]; simp [upd]
      have f8 : I1 203 8 = nI na := by rw [hb1 203 (by decide), eo 203 (by decide)]; exact hna
      refine n_putI dX12_act_19 fdX12_57 rfl (fun h => absurd h (by decide)) (by first | rfl | exact pv_shx) (by omega) (by omega) (by decide) rfl (by repeat (first | exact pvu_s | exact pvuJ_s | apply pvu_in (by omega) | apply pvuJ_in (by omega) | exact pvu_pvs | exact pvuJ_pvs)) ?_
      refine g_aload_n dX12_act_22 rfl ?_
      refine g_aload_n dX12_act_23 rfl ?_
      refine n_getI dX12_act_24 fdX12_57 rfl (by first | rfl | exact pv_shx) (by omega) (by omega) (by decide) rfl (by repeat (first | exact hna | (apply rd_s; done) | apply rd_n (by omega) | apply rp_s | apply rp_n (by omega) | (apply rdL_s; done) | apply rdL_n (by omega) | apply rpJ_s | apply rpJ_n (by omega) | rfl)) ?_
      refine n_if_ne 34 dX12_act_27 (by decide) (by first | (with_reducible exact cB _) | ((with_reducible apply cN_eq0) <;> omega) | exact Iff.rfl) (fun c27 => by exfalso; first | omega | exact absurd trivial c27 | exact c27) (fun c27 => ?_)
      refine g_iconst (v := (-1)) dX12_act_30 (by decide) ?_
      refine g_goto 38 dX12_act_31 (by decide) ?_
      refine n_putI dX12_act_38 fdX12_61 rfl (fun h => absurd h (by decide)) (by first | rfl | exact pv_shx) (by omega) (by omega) (by decide) rfl (by repeat (first | exact pvu_s | exact pvuJ_s | apply pvu_in (by omega) | apply pvuJ_in (by omega) | exact pvu_pvs | exact pvuJ_pvs)) ?_
      refine g_aload_n dX12_act_41 rfl ?_
      refine g_iconst (v := nI 0) dX12_act_42 (by decide) ?_
      refine n_putI dX12_act_43 fdX12_178 rfl (fun h => absurd h (by decide)) (by first | rfl | exact pv_shx) (by omega) (by omega) (by decide) rfl (by repeat (first | exact pvu_s | exact pvuJ_s | apply pvu_in (by omega) | apply pvuJ_in (by omega) | exact pvu_pvs | exact pvuJ_pvs)) ?_
      refine g_aload_n dX12_act_46 rfl ?_
      refine n_getI dX12_act_47 fdX12_57 rfl (by first | rfl | exact pv_shx) (by omega) (by omega) (by decide) rfl (by repeat (first | exact hna | (apply rd_s; done) | apply rd_n (by omega) | apply rp_s | apply rp_n (by omega) | (apply rdL_s; done) | apply rdL_n (by omega) | apply rpJ_s | apply rpJ_n (by omega) | rfl)) ?_
      refine n_if_eq 55 dX12_act_50 (by decide) (by first | (with_reducible exact cB _) | ((with_reducible apply cN_eq0) <;> omega) | exact Iff.rfl) (fun c50 => ?_) (fun c50 => by exfalso; first | omega | exact absurd trivial c50 | exact c50)
      refine g_aload_n dX12_act_55 rfl ?_
      refine g_getP dX12_act_56 fdX12_16 rfl (by first | rfl | exact pv_shx) (by omega) (by omega) (by decide) rfl (hP _ _ _ rfl) ?_
      refine g_aload_n dX12_act_59 rfl ?_
      refine n_getI dX12_act_60 fdX12_219 rfl (by first | rfl | exact pv_shx) (by omega) (by omega) (by decide) rfl (by repeat (first | exact f26 | apply rd_n (by decide) | apply rp_s)) ?_
      refine g_aload_n dX12_act_63 rfl ?_
      refine n_getI dX12_act_64 fdX12_302 rfl (by first | rfl | exact pv_shx) (by omega) (by omega) (by decide) rfl (by repeat (first | exact h27 | apply rd_n (by decide) | apply rp_s)) ?_
      refine n_iast dX12_act_67 (by first | rfl | exact pv_shx) (by omega) (by omega) (by omega) (by decide) (rfl) (by omega) (by repeat (first | exact pvu_s | exact pvuJ_s | apply pvu_in (by omega) | apply pvuJ_in (by omega) | exact pvu_pvs | exact pvuJ_pvs)) ?_
      refine g_aload_n dX12_act_68 rfl ?_
      refine g_getP dX12_act_69 fdX12_7 rfl (by first | rfl | exact pv_shx) (by omega) (by omega) (by decide) rfl (hP _ _ _ rfl) ?_
      refine g_bipush (v := nI 8) dX12_act_72 (by decide) ?_
      refine g_dup2 dX12_act_74 rfl rfl ?_
      refine n_iald dX12_act_75 (by first | rfl | exact pv_shx) (by omega) (by omega) (by decide) (rfl) (by omega) (by repeat (first | exact f8 | apply rd_n (by decide) | apply rp_s | apply rp_n (by decide))) ?_
      refine g_iconst (v := nI 1) dX12_act_76 (by decide) ?_
      refine n_iadd dX12_act_77 (by first | (with_reducible exact nI_add _ _) | rfl) ?_
      refine n_iast dX12_act_78 (by first | rfl | exact pv_shx) (by omega) (by omega) (by omega) (by decide) (rfl) (by omega) (by repeat (first | exact pvu_s | exact pvuJ_s | apply pvu_in (by omega) | apply pvuJ_in (by omega) | exact pvu_pvs | exact pvuJ_pvs)) ?_
      refine g_aload_n dX12_act_79 rfl ?_
      refine g_getP dX12_act_80 fdX12_7 rfl (by first | rfl | exact pv_shx) (by omega) (by omega) (by decide) rfl (hP _ _ _ rfl) ?_
      refine g_bipush (v := nI 8) dX12_act_83 (by decide) ?_
      refine n_iald dX12_act_85 (by first | rfl | exact pv_shx) (by omega) (by omega) (by decide) (rfl) (by omega) (by repeat (first | (apply rd_s; done) | exact f8 | apply rd_n (by decide) | apply rp_s | apply rp_n (by decide))) ?_
      refine g_iconst (v := nI 1) dX12_act_86 (by decide) ?_
      refine n_isub dX12_act_87 (by first | ((with_reducible apply pk_sub) <;> omega) | rfl) ?_
      refine g_iret dX12_act_88 rfl (⟨rfl, rfl, ?_⟩)
      dsimp only
      rw [if_neg c, hr]
      refine ⟨⟨fun x hx => ?_, ⟨?_, ?_⟩, ?_, ?_, hb3, fun x hx => ?_⟩, rfl, ?_, ?_, ?_, ?_⟩
      · simp at hx
        simp only [pvs, hx, if_false]
        rw [hb1 x (by simp; omega), eo x hx.1]
      · simp [pvs, upd]; rw [hb2 0 (by decide), e0]; simp [upd]
      · simp [pvs, upd]; rw [hb2 1 (by decide), e0]; simp [upd]
      · simp [pvs, upd]
      · simp [pvs, upd]; exact hb6
      · have hx0 : x ≠ 800 * na := by omega
        simp [pvs, upd, hx0]
        rw [hb5 x hx, eo 205 (by decide)]
      · simp [pvs, upd]
        rw [hb1 203 (by decide), eo 203 (by decide)]
      · simp [pvs, upd]
      · simp [pvs, upd]
      · have e205 : ∀ g : Nat → Int32, (∀ x, x ≠ 800 * na → g x = I1 205 x) → g (800 * na) = nI cs.length → txA g (800 * na) cs := by
          intro g hg hg0
          refine ⟨hg0, hl20, hc3, cd, by omega, fun i hi => ?_, fun j hj => ?_⟩
          · rw [hg _ (by omega), hg _ (by omega)]; exact hcda i hi
          · obtain ⟨d1, d2, s, d3, d4, d5, d6⟩ := hcl j hj
            exact ⟨by rw [hg _ (by omega)]; exact d1, fun z => by rw [hg _ (by omega)]; exact d2 z, s, d3, by rw [hg _ (by omega)]; exact d4, by rw [hg _ (by omega)]; exact d5, d6⟩
        refine e205 _ (fun x hx => ?_) ?_
        · simp [pvs, upd, hx]
        · simp [pvs, upd]
