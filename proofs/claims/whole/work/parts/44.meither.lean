/-! model: and, or -/
section MEI
variable {tx : Nat → Nat} {n t0 srt : Nat} {I0 : pvI} {J0 : pvJ} {P : pvP} {Q : pvQT}
theorem okF_A {T : Nat → Nat} : ∀ D k, okF (rdA T srt n D k)
  | 0, k => fun f kf h => by
    have es : rdA T srt n 0 k = if T k = 206 then .error (3, k) else rdC1 T srt n 0 k := rfl
    rw [es] at h
    split at h
    · cases h; omega
    · exact okF_C1 f kf h
  | D + 1, k => fun f kf h => by
    have es : rdA T srt n (D + 1) k = if T k = 206 then (match rdA T srt n D (k + 1) with
      | .ok (q, k2) => .ok (q ++ [20206], k2)
      | .error x => .error x) else rdC1 T srt n (D + 1) k := rfl
    rw [es] at h
    split at h
    · cases ho : rdA T srt n D (k + 1) with
      | ok v => obtain ⟨e2, k2⟩ := v; rw [ho] at h; cases h
      | error v => rw [ho] at h; cases h; exact okF_A D _ _ _ ho
    · exact okF_C1 f kf h
theorem len_C1 {T : Nat → Nat} {D k : Nat} : lenL 0 (rdC1 T srt n D k) k := by
  intro f kf h
  unfold rdC1 at h
  cases ho : rdS T n (rdO T srt n D) k with
  | ok v =>
    obtain ⟨e2, k2⟩ := v; rw [ho] at h
    simp only at h
    split at h
    · cases ho2 : rdS T n (rdO T srt n D) (k2 + 1) with
      | ok v =>
        obtain ⟨e3, k3⟩ := v; rw [ho2] at h
        have := len_S (len_O D) _ _ _ ho
        have := len_S (len_O D) _ _ _ ho2
        cases h
        simp only [List.length_append, List.length_singleton]
        omega
      | error v => rw [ho2] at h; cases h
    · cases h
  | error v => rw [ho] at h; cases h
theorem len_A {T : Nat → Nat} : ∀ D k, lenL 0 (rdA T srt n D k) k
  | 0, k => fun f kf h => by
    have es : rdA T srt n 0 k = if T k = 206 then .error (3, k) else rdC1 T srt n 0 k := rfl
    rw [es] at h
    split at h
    · cases h
    · exact len_C1 f kf h
  | D + 1, k => fun f kf h => by
    have es : rdA T srt n (D + 1) k = if T k = 206 then (match rdA T srt n D (k + 1) with
      | .ok (q, k2) => .ok (q ++ [20206], k2)
      | .error x => .error x) else rdC1 T srt n (D + 1) k := rfl
    rw [es] at h
    split at h
    · cases ho : rdA T srt n D (k + 1) with
      | ok v =>
        obtain ⟨e2, k2⟩ := v; rw [ho] at h
        have := len_A D _ _ _ ho
        cases h
        rw [List.length_append, List.length_singleton]
        omega
      | error v => rw [ho] at h; cases h
    · exact len_C1 f kf h
theorem len_An {T : Nat → Nat} : ∀ f q k, lenL q.length (rdAn T srt n f q k) k
  | 0, q, k => fun f kf h => by cases h; omega
  | g + 1, q, k => fun f kf h => by
    have es : rdAn T srt n (g + 1) q k = if T k = 205 then (match rdA T srt n 8 (k + 1) with
      | .ok (q2, k2) => rdAn T srt n g (q ++ q2 ++ [20205]) k2
      | .error x => .error x) else .ok (q, k) := rfl
    rw [es] at h
    split at h
    · cases ho : rdA T srt n 8 (k + 1) with
      | ok v =>
        obtain ⟨e2, k2⟩ := v; rw [ho] at h
        have := len_An g _ _ f kf h
        have := len_A 8 _ _ _ ho
        simp only [List.length_append, List.length_singleton] at *
        omega
      | error v => rw [ho] at h; cases h
    · cases h; omega
theorem len_Cj {T : Nat → Nat} (k : Nat) : lenL 0 (rdCj T srt n k) k := by
  intro f kf h
  unfold rdCj at h
  cases ho : rdA T srt n 8 k with
  | ok v =>
    obtain ⟨e2, k2⟩ := v; rw [ho] at h
    have := len_An _ _ _ f kf h
    have := len_A 8 _ _ _ ho
    omega
  | error v => rw [ho] at h; cases h
theorem e_or_len {cdB q e : List Nat} {k k2 : Nat} (he : rdCj (tkK tx n) srt n (k + 1) = .ok (e, k2)) (hb : (cdB ++ q).length ≤ k) : (cdB ++ q ++ e).length + 1 ≤ k2 := by
  have := len_Cj (k + 1) e k2 he
  rw [List.length_append]
  omega
abbrev HE (P : pvP) (Q : pvQT) (a o : Int32) (I : pvI) (J : pvJ) : Prop := pvG mX12_either (pvR 7 0 0) (pvZ Q 0 0) 6 [.ref 202, .int a, .int o, .int (nI 1), .retAddr 0, .retAddr 0] [] 0 0 224 I J P
abbrev H35 (P : pvP) (Q : pvQT) (o : Int32) (I : pvI) (J : pvJ) : Prop := pvG mX12_either (pvR 7 0 0) (pvZ Q 0 0) 35 [.ref 202, .retAddr 0, .int o, .retAddr 0, .retAddr 0, .retAddr 0] [] 0 0 224 I J P
abbrev H90 (P : pvP) (Q : pvQT) (nx : Int32) (I : pvI) (J : pvJ) : Prop := pvG mX12_either (pvR 7 0 0) (pvZ Q 0 0) 90 [.ref 202, .int 0, .retAddr 0, .retAddr 0, .retAddr 0, .int nx] [] 0 0 224 I J P
/-- an ask, and the join that waits for it -/
theorem e_ask {I : pvI} {J : pvJ} {k : Nat} {pl : List Nat} {wh : Bool} {cd : List Nat} {a o : Int32} (hP : pvOkP P) (h0 : mS0 tx n t0 srt I0) (hs : mS tx n t0 I0 J0 I J k pl 0 wh cd) (hb : cd.length ≤ k) (hkn : k ≤ n) (ha : a = 0 ∨ (a = 1 ∧ cd.length + 1 ≤ k))
    (bad : mBad tx n t0 I0 J0 P Q (rdA (tkK tx n) srt n 8 k)) (kk : ∀ e k2, rdA (tkK tx n) srt n 8 k = .ok (e, k2) → ∀ I' J', mS tx n t0 I0 J0 I' J' k2 [] 0 true (if a = 0 then cd ++ e else cd ++ e ++ [20205]) → cd.length + e.length + (if a = 0 then 0 else 1) ≤ k2 → k < k2 → k2 ≤ n → H35 P Q o I' J') : HE P Q a o I J := by
  have hn300 := h0.1.2.1
  have as := t_ask hP h0 hs hb hkn
  have hf1 := okF_A (n := n) (T := tkK tx n) (srt := srt) 8 k
  have hl1 := len_A (n := n) (T := tkK tx n) (srt := srt) 8 k
  unfold HE
  cases hr : rdA (tkK tx n) srt n 8 k with
  | error x =>
    obtain ⟨f, kf⟩ := x
    rw [hr] at as bad hf1
    have hf := hf1 f kf rfl
    refine g_iload_n dX12_either_6 rfl ?_
    refine n_if_eq 119 dX12_either_7 (by decide) (by first | (with_reducible exact cB _) | ((with_reducible apply cN_eq0) <;> omega) | exact Iff.rfl) (fun c7 => by exfalso; first | omega | exact absurd trivial c7 | exact c7) (fun c7 => ?_)
    refine g_aload_n dX12_either_10 rfl ?_
    refine g_callV (as) okX12_ask lkX12_291 rfl (by first | rfl | exact pv_shx) rfl (by omega) (by omega) dX12_either_11 rfl (Nat.le_of_ble_eq_true rfl) (⟨by decide, by decide, by decide, by decide⟩) ?_
    rintro w nx' I2 J2 P' ⟨rfl, rfl, rfl, pl2, op2, wh2, cd2, s2⟩
    refine g_istore dX12_either_14 (by decide) rfl ?_
    refine g_iload dX12_either_16 rfl ?_
    refine n_if_eq 24 dX12_either_18 (by decide) (by first | (with_reducible exact cB _) | ((with_reducible apply cN_eq0) <;> omega) | exact Iff.rfl) (fun c18 => by exfalso; first | omega | exact absurd trivial c18 | exact c18) (fun c18 => ?_)
    refine g_iload dX12_either_21 rfl ?_
    exact g_iret dX12_either_23 rfl (bad f kf rfl I2 J2 pl2 op2 wh2 cd2 s2)
  | ok x =>
    obtain ⟨e, k2⟩ := x
    rw [hr] at as
    have hle := hl1 e k2 hr
    have kk := kk e k2 hr
    rcases ha with rfl | ⟨rfl, hc⟩
    · rw [if_pos rfl, if_pos rfl] at kk
      refine g_iload_n dX12_either_6 rfl ?_
      refine n_if_eq 119 dX12_either_7 (by decide) (by first | (with_reducible exact cB _) | ((with_reducible apply cN_eq0) <;> omega) | exact Iff.rfl) (fun c7 => by exfalso; first | omega | exact absurd trivial c7 | exact c7) (fun c7 => ?_)
      refine g_aload_n dX12_either_10 rfl ?_
      refine g_callV (as) okX12_ask lkX12_291 rfl (by first | rfl | exact pv_shx) rfl (by omega) (by omega) dX12_either_11 rfl (Nat.le_of_ble_eq_true rfl) (⟨by decide, by decide, by decide, by decide⟩) ?_
      rintro w nx' I2 J2 P' ⟨rfl, rfl, rfl, s2, hl2, hk2, hkn2⟩
      refine g_istore dX12_either_14 (by decide) rfl ?_
      refine g_iload dX12_either_16 rfl ?_
      refine n_if_eq 24 dX12_either_18 (by decide) (by first | (with_reducible exact cB _) | ((with_reducible apply cN_eq0) <;> omega) | exact Iff.rfl) (fun c18 => ?_) (fun c18 => by exfalso; first | omega | exact absurd trivial c18 | exact c18)
      refine g_iload_n dX12_either_24 rfl ?_
      refine n_if_eq 35 dX12_either_25 (by decide) (Iff.rfl) (fun c25 => ?_) (fun c25 => by exfalso; exact c25 rfl)
      exact g_drop _ (by repeat (first | exact trivial | refine ⟨Or.inr ⟨_, rfl⟩, ?_⟩ | refine ⟨Or.inl rfl, ?_⟩)) (kk I2 J2 s2 (by omega) hk2 hkn2)
    · rw [if_neg (by decide), if_neg (by decide)] at kk
      refine g_iload_n dX12_either_6 rfl ?_
      refine n_if_eq 119 dX12_either_7 (by decide) (by first | (with_reducible exact cB _) | ((with_reducible apply cN_eq0) <;> omega) | exact Iff.rfl) (fun c7 => by exfalso; first | omega | exact absurd trivial c7 | exact c7) (fun c7 => ?_)
      refine g_aload_n dX12_either_10 rfl ?_
      refine g_callV (as) okX12_ask lkX12_291 rfl (by first | rfl | exact pv_shx) rfl (by omega) (by omega) dX12_either_11 rfl (Nat.le_of_ble_eq_true rfl) (⟨by decide, by decide, by decide, by decide⟩) ?_
      rintro w nx' I2 J2 P' ⟨rfl, rfl, rfl, s2, hl2, hk2, hkn2⟩
      have em := t_emit (P := P') (x := 20205) (o := nI 21) (v := nI 0) hP h0 s2 (by rw [List.length_append]; omega) rfl rfl
      refine g_istore dX12_either_14 (by decide) rfl ?_
      refine g_iload dX12_either_16 rfl ?_
      refine n_if_eq 24 dX12_either_18 (by decide) (by first | (with_reducible exact cB _) | ((with_reducible apply cN_eq0) <;> omega) | exact Iff.rfl) (fun c18 => ?_) (fun c18 => by exfalso; first | omega | exact absurd trivial c18 | exact c18)
      refine g_iload_n dX12_either_24 rfl ?_
      refine n_if_eq 35 dX12_either_25 (by decide) (Iff.rfl) (fun c25 => by exfalso; exact absurd c25 (by decide)) (fun c25 => ?_)
      refine g_aload_n dX12_either_28 rfl ?_
      refine g_bipush (v := nI 21) dX12_either_29 (by decide) ?_
      refine g_iconst (v := nI 0) dX12_either_31 (by decide) ?_
      refine g_callV (em) okX12_emit lkX12_235 rfl (by first | rfl | exact pv_shx) rfl (by omega) (by omega) dX12_either_32 rfl (Nat.le_of_ble_eq_true rfl) (⟨by decide, by decide, by decide, by decide⟩) ?_
      rintro w nx' I3 J3 P' ⟨rfl, rfl, rfl, s3⟩
      exact g_drop _ (by repeat (first | exact trivial | refine ⟨Or.inr ⟨_, rfl⟩, ?_⟩ | refine ⟨Or.inl rfl, ?_⟩)) (kk I3 J3 s3 (by omega) hk2 hkn2)
theorem e_35n {I : pvI} {J : pvJ} {k : Nat} {pl : List Nat} {wh : Bool} {cd : List Nat} {o : Int32} {q : List Nat} (hP : pvOkP P) (h0 : mS0 tx n t0 srt I0) (hs : mS tx n t0 I0 J0 I J k pl 0 wh cd) (hT : tkK tx n k ≠ 205) (ho : (o = 0 ∧ q = cd) ∨ (o = 1 ∧ q = cd ++ [20204] ∧ cd.length + 1 ≤ k)) (hkn : k ≤ n)
    (kk : ∀ I' J', mS tx n t0 I0 J0 I' J' k pl 0 wh q → H90 P Q (if tkK tx n k = 204 then 1 else 0) I' J') : H35 P Q o I J := by
  have hn300 := h0.1.2.1
  have iw := t_isWord (P := P) (j := 5) hs.tok (by decide) rfl
  rw [if_neg (by omega)] at iw
  have wo := tokR_w hs.tok (j := 4) (by decide)
  rw [show lN (wdN 4) = 28530 from by decide] at wo
  unfold H35
  have go : ∀ nxt : Int32, nxt = (if tkK tx n k = 204 then 1 else 0) → pvG mX12_either (pvR 7 0 0) (pvZ Q 0 0) 75 [.ref 202, .int 0, .int o, .retAddr 0, .retAddr 0, .int nxt] [] 0 0 224 I J P := by
    intro nxt hn
    rw [← hn] at kk
    rcases ho with ⟨rfl, rfl⟩ | ⟨rfl, rfl, hcl⟩
    · skip
      refine g_iload_n dX12_either_75 rfl ?_
      refine n_if_ne 93 dX12_either_76 (by decide) (Iff.rfl) (fun c76 => by exfalso; exact c76 rfl) (fun c76 => ?_)
      refine g_iload_n dX12_either_79 rfl ?_
      refine n_if_eq 90 dX12_either_80 (by decide) (Iff.rfl) (fun c80 => ?_) (fun c80 => by exfalso; exact c80 rfl)
      exact g_drop _ (by repeat (first | exact trivial | refine ⟨Or.inr ⟨_, rfl⟩, ?_⟩ | refine ⟨Or.inl rfl, ?_⟩)) (kk I J hs)
    · have em := t_emit (P := P) (x := 20204) (o := nI 22) (v := nI 0) hP h0 hs (by omega) rfl rfl
      refine g_iload_n dX12_either_75 rfl ?_
      refine n_if_ne 93 dX12_either_76 (by decide) (Iff.rfl) (fun c76 => by exfalso; exact c76 rfl) (fun c76 => ?_)
      refine g_iload_n dX12_either_79 rfl ?_
      refine n_if_eq 90 dX12_either_80 (by decide) (Iff.rfl) (fun c80 => by exfalso; exact absurd c80 (by decide)) (fun c80 => ?_)
      refine g_aload_n dX12_either_83 rfl ?_
      refine g_bipush (v := nI 22) dX12_either_84 (by decide) ?_
      refine g_iconst (v := nI 0) dX12_either_86 (by decide) ?_
      refine g_callV (em) okX12_emit lkX12_235 rfl (by first | rfl | exact pv_shx) rfl (by omega) (by omega) dX12_either_87 rfl (Nat.le_of_ble_eq_true rfl) (⟨by decide, by decide, by decide, by decide⟩) ?_
      rintro w nx' I3 J3 P' ⟨rfl, rfl, rfl, s3⟩
      exact g_drop _ (by repeat (first | exact trivial | refine ⟨Or.inr ⟨_, rfl⟩, ?_⟩ | refine ⟨Or.inl rfl, ?_⟩)) (kk I3 J3 s3)
  by_cases c : tkK tx n k = 204
  · rw [if_pos c] at go
    have g1 := go 1 rfl
    have w2 := wo.mpr c
    refine g_aload_n dX12_either_35 rfl ?_
    refine g_bipush (v := nI 97) dX12_either_36 (by decide) ?_
    refine g_bipush (v := nI 110) dX12_either_38 (by decide) ?_
    refine g_bipush (v := nI 100) dX12_either_40 (by decide) ?_
    refine p_callS (t_w3 (v := lN (wdN 5)) (by decide)) okX12_w3 lkX12_211 rfl dX12_either_42 rfl (Nat.le_of_ble_eq_true rfl) (⟨by decide, by decide, by decide, by decide⟩) ?_
    refine p_callV (iw) okX12_isWord lkX12_281 rfl (by first | rfl | exact pv_shx) rfl (by omega) (by omega) dX12_either_45 rfl (Nat.le_of_ble_eq_true rfl) (⟨by decide, by decide, by decide, by decide⟩) ?_
    refine g_istore_n dX12_either_48 (by decide) rfl ?_
    refine g_aload_n dX12_either_49 rfl ?_
    refine n_getI dX12_either_50 fdX12_194 rfl (by first | rfl | exact pv_shx) (by omega) (by omega) (by decide) rfl (by repeat (first | (apply rd_s; done) | apply rd_n (by omega) | apply rp_s | apply rp_n (by omega) | (apply rdL_s; done) | apply rdL_n (by omega) | apply rpJ_s | apply rpJ_n (by omega) | rfl)) ?_
    refine g_iconst (v := nI 2) dX12_either_53 (by decide) ?_
    refine n_icmp_ne 72 dX12_either_54 (by decide) (Iff.rfl) (fun c54 => by exfalso; exact c54 w2.1) (fun c54 => ?_)
    refine g_aload_n dX12_either_57 rfl ?_
    refine n_getJ dX12_either_58 fdX12_207 rfl (by first | rfl | exact pv_shx) (by omega) (by omega) (by decide) rfl (by repeat (first | (apply rd_s; done) | apply rd_n (by omega) | apply rp_s | apply rp_n (by omega) | (apply rdL_s; done) | apply rdL_n (by omega) | apply rpJ_s | apply rpJ_n (by omega) | rfl)) ?_
    refine g_ldc2 (v := (28530 : Int64)) dX12_either_61 kcX12_294 ?_
    refine g_lcmp dX12_either_64 ?_
    refine n_if_ne 72 dX12_either_65 (by decide) (lg_eq) (fun c65 => by exfalso; exact c65 w2.2) (fun c65 => ?_)
    refine g_iconst (v := nI 1) dX12_either_68 (by decide) ?_
    refine g_goto 73 dX12_either_69 (by decide) ?_
    refine g_istore dX12_either_73 (by decide) rfl ?_
    exact g_drop _ (by repeat (first | exact trivial | refine ⟨Or.inr ⟨_, rfl⟩, ?_⟩ | refine ⟨Or.inl rfl, ?_⟩)) g1
  · rw [if_neg c] at go
    have g1 := go 0 rfl
    refine g_aload_n dX12_either_35 rfl ?_
    refine g_bipush (v := nI 97) dX12_either_36 (by decide) ?_
    refine g_bipush (v := nI 110) dX12_either_38 (by decide) ?_
    refine g_bipush (v := nI 100) dX12_either_40 (by decide) ?_
    refine p_callS (t_w3 (v := lN (wdN 5)) (by decide)) okX12_w3 lkX12_211 rfl dX12_either_42 rfl (Nat.le_of_ble_eq_true rfl) (⟨by decide, by decide, by decide, by decide⟩) ?_
    refine p_callV (iw) okX12_isWord lkX12_281 rfl (by first | rfl | exact pv_shx) rfl (by omega) (by omega) dX12_either_45 rfl (Nat.le_of_ble_eq_true rfl) (⟨by decide, by decide, by decide, by decide⟩) ?_
    refine g_istore_n dX12_either_48 (by decide) rfl ?_
    refine g_aload_n dX12_either_49 rfl ?_
    refine n_getI dX12_either_50 fdX12_194 rfl (by first | rfl | exact pv_shx) (by omega) (by omega) (by decide) rfl (by repeat (first | (apply rd_s; done) | apply rd_n (by omega) | apply rp_s | apply rp_n (by omega) | (apply rdL_s; done) | apply rdL_n (by omega) | apply rpJ_s | apply rpJ_n (by omega) | rfl)) ?_
    refine g_iconst (v := nI 2) dX12_either_53 (by decide) ?_
    refine n_icmp_ne 72 dX12_either_54 (by decide) (Iff.rfl) (fun c54 => ?_) (fun c54 => ?_)
    · skip
      refine g_iconst (v := nI 0) dX12_either_72 (by decide) ?_
      refine g_istore dX12_either_73 (by decide) rfl ?_
      exact g_drop _ (by repeat (first | exact trivial | refine ⟨Or.inr ⟨_, rfl⟩, ?_⟩ | refine ⟨Or.inl rfl, ?_⟩)) g1
    · skip
      refine g_aload_n dX12_either_57 rfl ?_
      refine n_getJ dX12_either_58 fdX12_207 rfl (by first | rfl | exact pv_shx) (by omega) (by omega) (by decide) rfl (by repeat (first | (apply rd_s; done) | apply rd_n (by omega) | apply rp_s | apply rp_n (by omega) | (apply rdL_s; done) | apply rdL_n (by omega) | apply rpJ_s | apply rpJ_n (by omega) | rfl)) ?_
      refine g_ldc2 (v := (28530 : Int64)) dX12_either_61 kcX12_294 ?_
      refine g_lcmp dX12_either_64 ?_
      refine n_if_ne 72 dX12_either_65 (by decide) (lg_eq) (fun c65 => ?_) (fun c65 => by exfalso; exact c (wo.mp ⟨c54, c65⟩))
      refine g_iconst (v := nI 0) dX12_either_72 (by decide) ?_
      refine g_istore dX12_either_73 (by decide) rfl ?_
      exact g_drop _ (by repeat (first | exact trivial | refine ⟨Or.inr ⟨_, rfl⟩, ?_⟩ | refine ⟨Or.inl rfl, ?_⟩)) g1
theorem e_35a {I : pvI} {J : pvJ} {k : Nat} {pl : List Nat} {wh : Bool} {cd : List Nat} {o : Int32} (hP : pvOkP P) (h0 : mS0 tx n t0 srt I0) (hs : mS tx n t0 I0 J0 I J k pl 0 wh cd) (hT : tkK tx n k = 205)
    (kk : ∀ I' J', mS tx n t0 I0 J0 I' J' (k + 1) pl 0 wh cd → HE P Q 1 o I' J') : H35 P Q o I J := by
  have iw := t_isWord (P := P) (j := 5) hs.tok (by decide) rfl
  rw [if_pos hT] at iw
  have wo := tokR_w hs.tok (j := 4) (by decide)
  rw [show lN (wdN 4) = 28530 from by decide] at wo
  unfold H35
  refine g_aload_n dX12_either_35 rfl ?_
  refine g_bipush (v := nI 97) dX12_either_36 (by decide) ?_
  refine g_bipush (v := nI 110) dX12_either_38 (by decide) ?_
  refine g_bipush (v := nI 100) dX12_either_40 (by decide) ?_
  refine p_callS (t_w3 (v := lN (wdN 5)) (by decide)) okX12_w3 lkX12_211 rfl dX12_either_42 rfl (Nat.le_of_ble_eq_true rfl) (⟨by decide, by decide, by decide, by decide⟩) ?_
  refine p_callV (iw) okX12_isWord lkX12_281 rfl (by first | rfl | exact pv_shx) rfl (by omega) (by omega) dX12_either_45 rfl (Nat.le_of_ble_eq_true rfl) (⟨by decide, by decide, by decide, by decide⟩) ?_
  refine g_istore_n dX12_either_48 (by decide) rfl ?_
  refine g_aload_n dX12_either_49 rfl ?_
  refine n_getI dX12_either_50 fdX12_194 rfl (by first | rfl | exact pv_shx) (by omega) (by omega) (by decide) rfl (by repeat (first | (apply rd_s; done) | apply rd_n (by omega) | apply rp_s | apply rp_n (by omega) | (apply rdL_s; done) | apply rdL_n (by omega) | apply rpJ_s | apply rpJ_n (by omega) | rfl)) ?_
  refine g_iconst (v := nI 2) dX12_either_53 (by decide) ?_
  refine n_icmp_ne 72 dX12_either_54 (by decide) (Iff.rfl) (fun c54 => ?_) (fun c54 => ?_)
  · skip
    refine g_iconst (v := nI 0) dX12_either_72 (by decide) ?_
    refine g_istore dX12_either_73 (by decide) rfl ?_
    refine g_iload_n dX12_either_75 rfl ?_
    refine n_if_ne 93 dX12_either_76 (by decide) (Iff.rfl) (fun c76 => ?_) (fun c76 => by exfalso; exact absurd c76 (by decide))
    refine g_iload_n dX12_either_93 rfl ?_
    refine n_if_ne 102 dX12_either_94 (by decide) (Iff.rfl) (fun c94 => ?_) (fun c94 => by exfalso; exact absurd c94 (by decide))
    refine g_iconst (v := nI 1) dX12_either_102 (by decide) ?_
    refine g_goto 107 dX12_either_103 (by decide) ?_
    refine g_istore_n dX12_either_107 (by decide) rfl ?_
    refine g_iload_n dX12_either_108 rfl ?_
    refine n_if_eq 116 dX12_either_109 (by decide) (by first | (with_reducible exact cB _) | ((with_reducible apply cN_eq0) <;> omega) | exact Iff.rfl) (fun c109 => by exfalso; first | omega | exact absurd trivial c109 | exact c109) (fun c109 => ?_)
    refine g_aload_n dX12_either_112 rfl ?_
    refine g_callV (t_nextP hP h0 hs) okX12_nextToken lkX12_249 rfl (by first | rfl | exact pv_shx) rfl (by omega) (by omega) dX12_either_113 rfl (Nat.le_of_ble_eq_true rfl) (⟨by decide, by decide, by decide, by decide⟩) ?_
    rintro w nx' I3 J3 P' ⟨rfl, rfl, rfl, s3⟩
    refine g_goto 6 dX12_either_116 (by decide) ?_
    exact g_drop _ (by repeat (first | exact trivial | refine ⟨Or.inr ⟨_, rfl⟩, ?_⟩ | refine ⟨Or.inl rfl, ?_⟩)) (kk I3 J3 s3)
  · skip
    refine g_aload_n dX12_either_57 rfl ?_
    refine n_getJ dX12_either_58 fdX12_207 rfl (by first | rfl | exact pv_shx) (by omega) (by omega) (by decide) rfl (by repeat (first | (apply rd_s; done) | apply rd_n (by omega) | apply rp_s | apply rp_n (by omega) | (apply rdL_s; done) | apply rdL_n (by omega) | apply rpJ_s | apply rpJ_n (by omega) | rfl)) ?_
    refine g_ldc2 (v := (28530 : Int64)) dX12_either_61 kcX12_294 ?_
    refine g_lcmp dX12_either_64 ?_
    refine n_if_ne 72 dX12_either_65 (by decide) (lg_eq) (fun c65 => ?_) (fun c65 => by exfalso; exact absurd (wo.mp ⟨c54, c65⟩) (by omega))
    refine g_iconst (v := nI 0) dX12_either_72 (by decide) ?_
    refine g_istore dX12_either_73 (by decide) rfl ?_
    refine g_iload_n dX12_either_75 rfl ?_
    refine n_if_ne 93 dX12_either_76 (by decide) (Iff.rfl) (fun c76 => ?_) (fun c76 => by exfalso; exact absurd c76 (by decide))
    refine g_iload_n dX12_either_93 rfl ?_
    refine n_if_ne 102 dX12_either_94 (by decide) (Iff.rfl) (fun c94 => ?_) (fun c94 => by exfalso; exact absurd c94 (by decide))
    refine g_iconst (v := nI 1) dX12_either_102 (by decide) ?_
    refine g_goto 107 dX12_either_103 (by decide) ?_
    refine g_istore_n dX12_either_107 (by decide) rfl ?_
    refine g_iload_n dX12_either_108 rfl ?_
    refine n_if_eq 116 dX12_either_109 (by decide) (by first | (with_reducible exact cB _) | ((with_reducible apply cN_eq0) <;> omega) | exact Iff.rfl) (fun c109 => by exfalso; first | omega | exact absurd trivial c109 | exact c109) (fun c109 => ?_)
    refine g_aload_n dX12_either_112 rfl ?_
    refine g_callV (t_nextP hP h0 hs) okX12_nextToken lkX12_249 rfl (by first | rfl | exact pv_shx) rfl (by omega) (by omega) dX12_either_113 rfl (Nat.le_of_ble_eq_true rfl) (⟨by decide, by decide, by decide, by decide⟩) ?_
    rintro w nx' I3 J3 P' ⟨rfl, rfl, rfl, s3⟩
    refine g_goto 6 dX12_either_116 (by decide) ?_
    exact g_drop _ (by repeat (first | exact trivial | refine ⟨Or.inr ⟨_, rfl⟩, ?_⟩ | refine ⟨Or.inl rfl, ?_⟩)) (kk I3 J3 s3)
/-- the ands -/
theorem e_an (hP : pvOkP P) (h0 : mS0 tx n t0 srt I0) {cdB : List Nat} {o : Int32} : ∀ f q k I J, n ≤ k + f → mS tx n t0 I0 J0 I J k [] 0 true (cdB ++ q) → (cdB ++ q).length ≤ k → k ≤ n → mBad tx n t0 I0 J0 P Q (rdAn (tkK tx n) srt n f q k) →
    (∀ q2 k2, rdAn (tkK tx n) srt n f q k = .ok (q2, k2) → ∀ I' J', mS tx n t0 I0 J0 I' J' k2 [] 0 true (cdB ++ q2) → (cdB ++ q2).length ≤ k2 → k ≤ k2 → k2 ≤ n → tkK tx n k2 ≠ 205 → H35 P Q o I' J') → H35 P Q o I J := by
  intro f
  induction f with
  | zero =>
    intro q k I J hk hs hb hkn bad kk
    exact kk q k rfl I J hs hb (Nat.le_refl _) hkn (by rw [tkK_end (by omega)]; decide)
  | succ f ih =>
    intro q k I J hk hs hb hkn bad kk
    have es : rdAn (tkK tx n) srt n (f + 1) q k = if tkK tx n k = 205 then (match rdA (tkK tx n) srt n 8 (k + 1) with
      | .ok (q2, k2) => rdAn (tkK tx n) srt n f (q ++ q2 ++ [20205]) k2
      | .error x => .error x) else .ok (q, k) := rfl
    by_cases c : tkK tx n k = 205
    · rw [es, if_pos c] at bad kk
      have hk1 := tkK_lt (tx := tx) (n := n) (k := k) (by omega)
      refine e_35a hP h0 hs c (fun I2 J2 s2 => ?_)
      refine e_ask hP h0 s2 (by omega) (by omega) (Or.inr ⟨rfl, by omega⟩) (fun f' kf hf => bad f' kf (by rw [hf])) (fun e k2 he I3 J3 s3 hl3 hk3 hkn3 => ?_)
      rw [he] at bad kk
      rw [if_neg (by decide)] at s3 hl3
      have ea : cdB ++ q ++ e ++ [20205] = cdB ++ (q ++ e ++ [20205]) := by simp only [List.append_assoc]
      rw [ea] at s3
      refine ih (q ++ e ++ [20205]) k2 I3 J3 (by omega) s3 (by rw [← ea, List.length_append, List.length_append, List.length_singleton]; omega) hkn3 bad (fun q2 k4 hq I' J' s' hl' hk' hkn' hT' => kk q2 k4 hq I' J' s' hl' (by omega) hkn' hT')
    · rw [es, if_neg c] at kk
      exact kk q k rfl I J hs hb (Nat.le_refl _) hkn c
/-- asks that ands join -/
theorem e_cj (hP : pvOkP P) (h0 : mS0 tx n t0 srt I0) {cdB : List Nat} {o : Int32} {k : Nat} {I : pvI} {J : pvJ} {pl : List Nat} {wh : Bool} (hs : mS tx n t0 I0 J0 I J k pl 0 wh cdB) (hb : cdB.length ≤ k) (hkn : k ≤ n) (bad : mBad tx n t0 I0 J0 P Q (rdCj (tkK tx n) srt n k))
    (kk : ∀ q2 k2, rdCj (tkK tx n) srt n k = .ok (q2, k2) → ∀ I' J', mS tx n t0 I0 J0 I' J' k2 [] 0 true (cdB ++ q2) → (cdB ++ q2).length ≤ k2 → k < k2 → k2 ≤ n → tkK tx n k2 ≠ 205 → H35 P Q o I' J') : HE P Q 0 o I J := by
  unfold rdCj at bad kk
  refine e_ask hP h0 hs hb hkn (Or.inl rfl) (fun f' kf hf => bad f' kf (by rw [hf])) (fun e k2 he I3 J3 s3 hl3 hk3 hkn3 => ?_)
  rw [he] at bad kk
  rw [if_pos rfl] at s3 hl3
  exact e_an hP h0 (n - k2) e k2 I3 J3 (by omega) s3 (by rw [List.length_append]; omega) hkn3 bad (fun q2 k4 hq I' J' s' hl' hk' hkn' hT' => kk q2 k4 hq I' J' s' hl' (by omega) hkn' hT')
theorem e_90 {I : pvI} {J : pvJ} {k : Nat} {pl : List Nat} {wh : Bool} {cd : List Nat} (hP : pvOkP P) (h0 : mS0 tx n t0 srt I0) (hs : mS tx n t0 I0 J0 I J k pl 0 wh cd)
    (k1 : tkK tx n k = 204 → ∀ I' J', mS tx n t0 I0 J0 I' J' (k + 1) pl 0 wh cd → HE P Q 0 1 I' J') (k0 : tkK tx n k ≠ 204 → Q (some (.int (nI 0))) 224 I J P) : H90 P Q (if tkK tx n k = 204 then 1 else 0) I J := by
  unfold H90
  by_cases c : tkK tx n k = 204
  · rw [if_pos c]
    refine g_iload dX12_either_90 rfl ?_
    refine g_istore_n dX12_either_92 (by decide) rfl ?_
    refine g_iload_n dX12_either_93 rfl ?_
    refine n_if_ne 102 dX12_either_94 (by decide) (Iff.rfl) (fun c94 => by exfalso; exact c94 rfl) (fun c94 => ?_)
    refine g_iload dX12_either_97 rfl ?_
    refine n_if_eq 106 dX12_either_99 (by decide) (Iff.rfl) (fun c99 => by exfalso; exact absurd c99 (by decide)) (fun c99 => ?_)
    refine g_iconst (v := nI 1) dX12_either_102 (by decide) ?_
    refine g_goto 107 dX12_either_103 (by decide) ?_
    refine g_istore_n dX12_either_107 (by decide) rfl ?_
    refine g_iload_n dX12_either_108 rfl ?_
    refine n_if_eq 116 dX12_either_109 (by decide) (by first | (with_reducible exact cB _) | ((with_reducible apply cN_eq0) <;> omega) | exact Iff.rfl) (fun c109 => by exfalso; first | omega | exact absurd trivial c109 | exact c109) (fun c109 => ?_)
    refine g_aload_n dX12_either_112 rfl ?_
    refine g_callV (t_nextP hP h0 hs) okX12_nextToken lkX12_249 rfl (by first | rfl | exact pv_shx) rfl (by omega) (by omega) dX12_either_113 rfl (Nat.le_of_ble_eq_true rfl) (⟨by decide, by decide, by decide, by decide⟩) ?_
    rintro w nx' I3 J3 P' ⟨rfl, rfl, rfl, s3⟩
    refine g_goto 6 dX12_either_116 (by decide) ?_
    exact g_drop _ (by repeat (first | exact trivial | refine ⟨Or.inr ⟨_, rfl⟩, ?_⟩ | refine ⟨Or.inl rfl, ?_⟩)) (k1 c I3 J3 s3)
  · rw [if_neg c]
    refine g_iload dX12_either_90 rfl ?_
    refine g_istore_n dX12_either_92 (by decide) rfl ?_
    refine g_iload_n dX12_either_93 rfl ?_
    refine n_if_ne 102 dX12_either_94 (by decide) (Iff.rfl) (fun c94 => by exfalso; exact c94 rfl) (fun c94 => ?_)
    refine g_iload dX12_either_97 rfl ?_
    refine n_if_eq 106 dX12_either_99 (by decide) (Iff.rfl) (fun c99 => ?_) (fun c99 => by exfalso; exact c99 rfl)
    refine g_iconst (v := nI 0) dX12_either_106 (by decide) ?_
    refine g_istore_n dX12_either_107 (by decide) rfl ?_
    refine g_iload_n dX12_either_108 rfl ?_
    refine n_if_eq 116 dX12_either_109 (by decide) (by first | (with_reducible exact cB _) | ((with_reducible apply cN_eq0) <;> omega) | exact Iff.rfl) (fun c109 => ?_) (fun c109 => by exfalso; first | omega | exact absurd trivial c109 | exact c109)
    refine g_goto 6 dX12_either_116 (by decide) ?_
    refine g_iload_n dX12_either_6 rfl ?_
    refine n_if_eq 119 dX12_either_7 (by decide) (by first | (with_reducible exact cB _) | ((with_reducible apply cN_eq0) <;> omega) | exact Iff.rfl) (fun c7 => ?_) (fun c7 => by exfalso; first | omega | exact absurd trivial c7 | exact c7)
    refine g_iconst (v := nI 0) dX12_either_119 (by decide) ?_
    exact g_iret dX12_either_120 rfl (k0 c)
theorem e_or (hP : pvOkP P) (h0 : mS0 tx n t0 srt I0) {cdB : List Nat} : ∀ f q k I J, n ≤ k + f → mS tx n t0 I0 J0 I J k [] 0 true (cdB ++ q) → (cdB ++ q).length ≤ k → k ≤ n → mBad tx n t0 I0 J0 P Q (rdOr (tkK tx n) srt n f q k) →
    (∀ q2 k2, rdOr (tkK tx n) srt n f q k = .ok (q2, k2) → ∀ I' J', mS tx n t0 I0 J0 I' J' k2 [] 0 true (cdB ++ q2) → (cdB ++ q2).length ≤ k2 → k ≤ k2 → k2 ≤ n → Q (some (.int (nI 0))) 224 I' J' P) → H90 P Q (if tkK tx n k = 204 then 1 else 0) I J := by
  intro f
  induction f with
  | zero =>
    intro q k I J hk hs hb hkn bad kk
    exact e_90 hP h0 hs (fun z => absurd z (by rw [tkK_end (by omega)]; decide)) (fun _ => kk q k rfl I J hs hb (Nat.le_refl _) hkn)
  | succ f ih =>
    intro q k I J hk hs hb hkn bad kk
    have es : rdOr (tkK tx n) srt n (f + 1) q k = if tkK tx n k = 204 then (match rdCj (tkK tx n) srt n (k + 1) with
      | .ok (q2, k2) => rdOr (tkK tx n) srt n f (q ++ q2 ++ [20204]) k2
      | .error x => .error x) else .ok (q, k) := rfl
    refine e_90 hP h0 hs (fun c I2 J2 s2 => ?_) (fun c => ?_)
    · rw [es, if_pos c] at bad kk
      have hk1 := tkK_lt (tx := tx) (n := n) (k := k) (by omega)
      refine e_cj hP h0 s2 (by omega) (by omega) (fun f' kf hf => bad f' kf (by rw [hf])) (fun e k2 he I3 J3 s3 hl3 hk3 hkn3 hT3 => ?_)
      rw [he] at bad kk
      have ea : cdB ++ q ++ e ++ [20204] = cdB ++ (q ++ e ++ [20204]) := by simp only [List.append_assoc]
      have hcl : (cdB ++ q ++ e).length + 1 ≤ k2 := e_or_len he hb
      refine e_35n (q := cdB ++ (q ++ e ++ [20204])) hP h0 s3 hT3 (Or.inr ⟨rfl, ea.symm, hcl⟩) hkn3 (fun I4 J4 s4 => ?_)
      exact ih (q ++ e ++ [20204]) k2 I4 J4 (by omega) s4 (by rw [← ea, List.length_append, List.length_singleton]; omega) hkn3 bad (fun q2 k4 hq I' J' s' hl' hk' hkn' => kk q2 k4 hq I' J' s' hl' (by omega) hkn')
    · rw [es, if_neg c] at kk
      exact kk q k rfl I J hs hb (Nat.le_refl _) hkn
theorem t_either {I : pvI} {J : pvJ} {k : Nat} {pl : List Nat} {wh : Bool} {cd : List Nat} (hP : pvOkP P) (h0 : mS0 tx n t0 srt I0) (h : mS tx n t0 I0 J0 I J k pl 0 wh cd) (hb : cd.length ≤ k) (hkn : k ≤ n) : pvMet mX12_either 7 0 0 [.ref 202] 224 I J P (rdQ tx n t0 I0 J0 P 0 cd k (rdE (tkK tx n) srt n k)) := by
  have h6 : HE P (rdQ tx n t0 I0 J0 P 0 cd k (rdE (tkK tx n) srt n k)) 0 0 I J := by
    generalize hQ : rdQ tx n t0 I0 J0 P 0 cd k (rdE (tkK tx n) srt n k) = Q
    have bad : mBad tx n t0 I0 J0 P Q (rdE (tkK tx n) srt n k) := fun f kf he I' J' pl' op' wh' cd' s => by
      rw [← hQ]; exact ⟨rfl, rfl, by rw [he]; exact ⟨rfl, pl', op', wh', cd', s⟩⟩
    have kk : ∀ q2 k2, rdE (tkK tx n) srt n k = .ok (q2, k2) → ∀ I' J', mS tx n t0 I0 J0 I' J' k2 [] 0 true (cd ++ q2) → (cd ++ q2).length ≤ k2 → k < k2 → k2 ≤ n → Q (some (.int (nI 0))) 224 I' J' P := fun q2 k2 he I' J' s hl hk hk2 => by
      rw [← hQ]; rw [List.length_append] at hl; exact ⟨rfl, rfl, by rw [he]; exact ⟨rfl, s, hl, hk, hk2⟩⟩
    unfold rdE at bad kk
    refine e_cj hP h0 h hb hkn (fun f' kf hf => bad f' kf (by rw [hf])) (fun e k2 he I3 J3 s3 hl3 hk3 hkn3 hT3 => ?_)
    rw [he] at bad kk
    refine e_35n (q := cd ++ e) hP h0 s3 hT3 (Or.inl ⟨rfl, rfl⟩) hkn3 (fun I4 J4 s4 => ?_)
    exact e_or hP h0 (n - k2) e k2 I4 J4 (by omega) s4 hl3 hkn3 bad (fun q2 k4 hq I' J' s' hl' hk' hkn' => kk q2 k4 hq I' J' s' hl' (by omega) hkn')
  refine pvMet.of _ (by decide) rfl (Nat.le_of_ble_eq_true rfl) ?_
  refine g_iconst (v := nI 0) dX12_either_0 (by decide) ?_
  refine g_istore_n dX12_either_1 (by decide) rfl ?_
  refine g_iconst (v := nI 0) dX12_either_2 (by decide) ?_
  refine g_istore_n dX12_either_3 (by decide) rfl ?_
  refine g_iconst (v := nI 1) dX12_either_4 (by decide) ?_
  refine g_istore_n dX12_either_5 (by decide) rfl ?_
  exact g_drop _ (by repeat (first | exact trivial | refine ⟨Or.inr ⟨_, rfl⟩, ?_⟩ | refine ⟨Or.inl rfl, ?_⟩)) h6
end MEI
