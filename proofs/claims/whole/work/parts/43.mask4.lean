/-! model: what is asked -/
section MASK
variable {tx : Nat → Nat} {n t0 srt : Nat} {I0 : pvI} {J0 : pvJ} {P : pvP} {Q : pvQT}
/-- what a reading leaves: code e from k on, or a fault -/
def rdQ (tx : Nat → Nat) (n t0 : Nat) (I0 : pvI) (J0 : pvJ) (P : pvP) (op : Nat) (cd : List Nat) (k : Nat) (r : pR) : pvQT := pvq P (fun v I' J' => match r with
    | .ok (e, k2) => v = some (.int (nI 0)) ∧ mS tx n t0 I0 J0 I' J' k2 [] op true (cd ++ e) ∧ cd.length + e.length ≤ k2 ∧ k < k2 ∧ k2 ≤ n
    | .error (f, kf) => v = some (.int (nI f)) ∧ ∃ pl' op' wh' cd', mS tx n t0 I0 J0 I' J' kf pl' op' wh' cd')
theorem t_summed' {I : pvI} {J : pvJ} {k : Nat} {pl : List Nat} {op D : Nat} {wh : Bool} {cd : List Nat} (hP : pvOkP P) (h0 : mS0 tx n t0 srt I0) (h : mS tx n t0 I0 J0 I J k pl op wh cd) (hD : op + D = 8) (hb : cd.length ≤ k) (hkn : k ≤ n) : pvMet mX12_summed 5 0 0 [.ref 202] 224 I J P (rdQ tx n t0 I0 J0 P op cd k (rdS (tkK tx n) n (rdO (tkK tx n) srt n D) k)) := by
  refine (t_summed hP h0 h hD hb hkn).weaken ?_
  rintro v nx' I' J' P' ⟨h1, h2, h3⟩
  refine ⟨h1, h2, ?_⟩
  cases hr : rdS (tkK tx n) n (rdO (tkK tx n) srt n D) k with
  | ok e => obtain ⟨e, k2⟩ := e; rw [hr] at h3; exact ⟨h3.1, h3.2.1, h3.2.2.1, h3.2.2.2.1, h3.2.2.2.2.1⟩
  | error e => obtain ⟨f, kf⟩ := e; rw [hr] at h3; exact h3
abbrev HA (P : pvP) (Q : pvQT) (m : Nat) (I : pvI) (J : pvJ) : Prop := pvG mX12_ask (pvR 6 0 0) (pvZ Q 0 0) 2 [.ref 202, .int (nI m), .retAddr 0, .retAddr 0, .retAddr 0] [] 0 0 224 I J P
/-- faults of the grammar: 1 to 6 -/
def okF (r : pR) : Prop := ∀ f k, r = .error (f, k) → 1 ≤ f ∧ f ≤ 6
theorem okF_atom {T : Nat → Nat} {k : Nat} : okF (atomT T srt k) := by
  intro f kf h
  unfold atomT at h
  split at h
  · split at h <;> cases h
    omega
  · split at h
    · split at h <;> cases h
      omega
    · cases h; omega
theorem okF_P {T : Nat → Nat} {one : Nat → pR} (h1 : ∀ k, okF (one k)) : ∀ f e k, okF (rdP T one f e k)
  | 0, e, k => fun f kf h => by cases h
  | g + 1, e, k => fun f kf h => by
    have es : rdP T one (g + 1) e k = if T k = 42 ∨ T k = 47 then (match one (k + 1) with
      | .ok (e2, k2) => rdP T one g (e ++ e2 ++ [20000 + T k]) k2
      | .error x => .error x) else .ok (e, k) := rfl
    rw [es] at h
    split at h
    · cases ho : one (k + 1) with
      | ok v => obtain ⟨e2, k2⟩ := v; rw [ho] at h; exact okF_P h1 g _ _ f kf h
      | error v => rw [ho] at h; cases h; exact h1 _ _ _ ho
    · cases h
theorem okF_T {T : Nat → Nat} {one : Nat → pR} (h1 : ∀ k, okF (one k)) (k : Nat) : okF (rdT T n one k) := by
  intro f kf h
  unfold rdT at h
  cases ho : one k with
  | ok v => obtain ⟨e2, k2⟩ := v; rw [ho] at h; exact okF_P h1 _ _ _ f kf h
  | error v => rw [ho] at h; cases h; exact h1 _ _ _ ho
theorem okF_L {T : Nat → Nat} {one : Nat → pR} (h1 : ∀ k, okF (one k)) : ∀ f e k, okF (rdL T n one f e k)
  | 0, e, k => fun f kf h => by cases h
  | g + 1, e, k => fun f kf h => by
    have es : rdL T n one (g + 1) e k = if T k = 43 ∨ T k = 45 then (match rdT T n one (k + 1) with
      | .ok (e2, k2) => rdL T n one g (e ++ e2 ++ [20000 + T k]) k2
      | .error x => .error x) else .ok (e, k) := rfl
    rw [es] at h
    split at h
    · cases ho : rdT T n one (k + 1) with
      | ok v => obtain ⟨e2, k2⟩ := v; rw [ho] at h; exact okF_L h1 g _ _ f kf h
      | error v => rw [ho] at h; cases h; exact okF_T h1 _ _ _ ho
    · cases h
theorem okF_S {T : Nat → Nat} {one : Nat → pR} (h1 : ∀ k, okF (one k)) (k : Nat) : okF (rdS T n one k) := by
  intro f kf h
  unfold rdS at h
  cases ho : rdT T n one k with
  | ok v => obtain ⟨e2, k2⟩ := v; rw [ho] at h; exact okF_L h1 _ _ _ f kf h
  | error v => rw [ho] at h; cases h; exact okF_T h1 _ _ _ ho
theorem okF_O {T : Nat → Nat} : ∀ D k, okF (rdO T srt n D k)
  | 0, k => fun f kf h => by
    have es : rdO T srt n 0 k = if T k = 40 ∨ T k = 45 then .error (3, k) else atomT T srt k := rfl
    rw [es] at h
    split at h
    · cases h; omega
    · exact okF_atom f kf h
  | D + 1, k => fun f kf h => by
    have es : rdO T srt n (D + 1) k = if T k = 40 then (match rdS T n (rdO T srt n D) (k + 1) with
      | .ok (e, k2) => if T k2 = 41 then .ok (e, k2 + 1) else .error (1, k2)
      | .error x => .error x) else if T k = 45 then (match rdO T srt n D (k + 1) with
      | .ok (e, k2) => .ok (e ++ [40000], k2)
      | .error x => .error x) else atomT T srt k := rfl
    rw [es] at h
    split at h
    · cases ho : rdS T n (rdO T srt n D) (k + 1) with
      | ok v =>
        obtain ⟨e2, k2⟩ := v; rw [ho] at h
        simp only at h
        split at h
        · cases h
        · cases h; omega
      | error v => rw [ho] at h; cases h; exact okF_S (okF_O D) _ _ _ ho
    · split at h
      · cases ho : rdO T srt n D (k + 1) with
        | ok v => obtain ⟨e2, k2⟩ := v; rw [ho] at h; cases h
        | error v => rw [ho] at h; cases h; exact okF_O D _ _ _ ho
      · exact okF_atom f kf h
def lenL (m : Nat) (r : pR) (k : Nat) : Prop := ∀ e k2, r = .ok (e, k2) → e.length + k ≤ k2 + m
theorem len_atom {T : Nat → Nat} {k : Nat} : lenL 0 (atomT T srt k) k := by
  intro e k2 h
  unfold atomT at h
  split at h
  · split at h <;> cases h
    rw [List.length_singleton]; omega
  · split at h
    · split at h <;> cases h
      rw [List.length_singleton]; omega
    · cases h
theorem len_P {T : Nat → Nat} {one : Nat → pR} (h1 : ∀ k, lenL 0 (one k) k) : ∀ f e k, lenL e.length (rdP T one f e k) k
  | 0, e, k => fun f kf h => by cases h; omega
  | g + 1, e, k => fun f kf h => by
    have es : rdP T one (g + 1) e k = if T k = 42 ∨ T k = 47 then (match one (k + 1) with
      | .ok (e2, k2) => rdP T one g (e ++ e2 ++ [20000 + T k]) k2
      | .error x => .error x) else .ok (e, k) := rfl
    rw [es] at h
    split at h
    · cases ho : one (k + 1) with
      | ok v =>
        obtain ⟨e2, k2⟩ := v; rw [ho] at h
        have := len_P h1 g _ _ f kf h
        have := h1 _ _ _ ho
        simp only [List.length_append, List.length_singleton] at *
        omega
      | error v => rw [ho] at h; cases h
    · cases h; omega
theorem len_T {T : Nat → Nat} {one : Nat → pR} (h1 : ∀ k, lenL 0 (one k) k) (k : Nat) : lenL 0 (rdT T n one k) k := by
  intro f kf h
  unfold rdT at h
  cases ho : one k with
  | ok v =>
    obtain ⟨e2, k2⟩ := v; rw [ho] at h
    have := len_P h1 _ _ _ f kf h
    have := h1 _ _ _ ho
    omega
  | error v => rw [ho] at h; cases h
theorem len_L {T : Nat → Nat} {one : Nat → pR} (h1 : ∀ k, lenL 0 (one k) k) : ∀ f e k, lenL e.length (rdL T n one f e k) k
  | 0, e, k => fun f kf h => by cases h; omega
  | g + 1, e, k => fun f kf h => by
    have es : rdL T n one (g + 1) e k = if T k = 43 ∨ T k = 45 then (match rdT T n one (k + 1) with
      | .ok (e2, k2) => rdL T n one g (e ++ e2 ++ [20000 + T k]) k2
      | .error x => .error x) else .ok (e, k) := rfl
    rw [es] at h
    split at h
    · cases ho : rdT T n one (k + 1) with
      | ok v =>
        obtain ⟨e2, k2⟩ := v; rw [ho] at h
        have := len_L h1 g _ _ f kf h
        have := len_T h1 _ _ _ ho
        simp only [List.length_append, List.length_singleton] at *
        omega
      | error v => rw [ho] at h; cases h
    · cases h; omega
theorem len_S {T : Nat → Nat} {one : Nat → pR} (h1 : ∀ k, lenL 0 (one k) k) (k : Nat) : lenL 0 (rdS T n one k) k := by
  intro f kf h
  unfold rdS at h
  cases ho : rdT T n one k with
  | ok v =>
    obtain ⟨e2, k2⟩ := v; rw [ho] at h
    have := len_L h1 _ _ _ f kf h
    have := len_T h1 _ _ _ ho
    omega
  | error v => rw [ho] at h; cases h
theorem len_O {T : Nat → Nat} : ∀ D k, lenL 0 (rdO T srt n D k) k
  | 0, k => fun f kf h => by
    have es : rdO T srt n 0 k = if T k = 40 ∨ T k = 45 then .error (3, k) else atomT T srt k := rfl
    rw [es] at h
    split at h
    · cases h
    · exact len_atom f kf h
  | D + 1, k => fun f kf h => by
    have es : rdO T srt n (D + 1) k = if T k = 40 then (match rdS T n (rdO T srt n D) (k + 1) with
      | .ok (e, k2) => if T k2 = 41 then .ok (e, k2 + 1) else .error (1, k2)
      | .error x => .error x) else if T k = 45 then (match rdO T srt n D (k + 1) with
      | .ok (e, k2) => .ok (e ++ [40000], k2)
      | .error x => .error x) else atomT T srt k := rfl
    rw [es] at h
    split at h
    · cases ho : rdS T n (rdO T srt n D) (k + 1) with
      | ok v =>
        obtain ⟨e2, k2⟩ := v; rw [ho] at h
        simp only at h
        have := len_S (len_O D) _ _ _ ho
        split at h
        · cases h; omega
        · cases h
      | error v => rw [ho] at h; cases h
    · split at h
      · cases ho : rdO T srt n D (k + 1) with
        | ok v =>
          obtain ⟨e2, k2⟩ := v; rw [ho] at h
          have := len_O D _ _ _ ho
          cases h
          rw [List.length_append, List.length_singleton]
          omega
        | error v => rw [ho] at h; cases h
      · exact len_atom f kf h
theorem okF_C1 {T : Nat → Nat} {D k : Nat} : okF (rdC1 T srt n D k) := by
  intro f kf h
  unfold rdC1 at h
  cases ho : rdS T n (rdO T srt n D) k with
  | ok v =>
    obtain ⟨e2, k2⟩ := v; rw [ho] at h
    simp only at h
    split at h
    · cases ho2 : rdS T n (rdO T srt n D) (k2 + 1) with
      | ok v => obtain ⟨e3, k3⟩ := v; rw [ho2] at h; cases h
      | error v => rw [ho2] at h; cases h; exact okF_S (okF_O D) _ _ _ ho2
    · cases h; omega
  | error v => rw [ho] at h; cases h; exact okF_S (okF_O D) _ _ _ ho
theorem itM_c {T : Nat} (h : isCmp T = true) : 10 ≤ (itM (20000 + T)).1 ∧ (itM (20000 + T)).1 ≤ 15 ∧ (itM (20000 + T)).2 = 0 := by
  unfold isCmp at h
  rw [decide_eq_true_iff] at h
  rcases h with rfl | rfl | rfl | rfl | rfl | rfl <;> decide
theorem rep_app {m : Nat} {c q : List Nat} {x : Nat} : c ++ q ++ List.replicate (m + 1) x = c ++ (q ++ [x]) ++ List.replicate m x := by
  rw [List.replicate_succ]
  simp only [List.append_assoc, List.singleton_append]
/-- behind the nots -/
theorem k_C1 {I : pvI} {J : pvJ} {k m D : Nat} {pl : List Nat} {wh : Bool} {cd : List Nat} (hP : pvOkP P) (h0 : mS0 tx n t0 srt I0) (hD : m + D = 8) (hs : mS tx n t0 I0 J0 I J k pl m wh cd) (hb : cd.length + m ≤ k) (hkn : k ≤ n)
    (hok : ∀ e k2, rdC1 (tkK tx n) srt n D k = .ok (e, k2) → ∀ I' J', mS tx n t0 I0 J0 I' J' k2 [] 0 true (cd ++ e ++ List.replicate m 20206) → cd.length + e.length + m ≤ k2 → k < k2 → k2 ≤ n → Q (some (.int (nI 0))) 224 I' J' P)
    (bad : mBad tx n t0 I0 J0 P Q (rdC1 (tkK tx n) srt n D k)) : pvG mX12_ask (pvR 6 0 0) (pvZ Q 0 0) 49 [.ref 202, .int (nI m), .retAddr 0, .retAddr 0, .retAddr 0] [] 0 0 224 I J P := by
  have hn300 := h0.1.2.1
  have sm := t_summed' hP h0 hs hD (by omega) hkn
  unfold rdC1 at hok bad
  have hf1 := okF_S (n := n) (T := tkK tx n) (okF_O (T := tkK tx n) (srt := srt) (n := n) D) k
  cases hr : rdS (tkK tx n) n (rdO (tkK tx n) srt n D) k with
  | error x =>
    obtain ⟨f, kf⟩ := x
    rw [hr] at sm bad hf1
    have hf := hf1 f kf rfl
    refine g_aload_n dX12_ask_49 rfl ?_
    refine g_callV (sm) okX12_summed lkX12_285 rfl (by first | rfl | exact pv_shx) rfl (by omega) (by omega) dX12_ask_50 rfl (Nat.le_of_ble_eq_true rfl) (⟨by decide, by decide, by decide, by decide⟩) ?_
    rintro w nx' I2 J2 P' ⟨rfl, rfl, rfl, pl2, op2, wh2, cd2, s2⟩
    refine g_istore_n dX12_ask_53 (by decide) rfl ?_
    refine g_iload_n dX12_ask_54 rfl ?_
    refine n_if_eq 60 dX12_ask_55 (by decide) (by first | (with_reducible exact cB _) | ((with_reducible apply cN_eq0) <;> omega) | exact Iff.rfl) (fun c55 => by exfalso; first | omega | exact absurd trivial c55 | exact c55) (fun c55 => ?_)
    refine g_iload_n dX12_ask_58 rfl ?_
    exact g_iret dX12_ask_59 rfl (bad f kf rfl I2 J2 pl2 op2 wh2 cd2 s2)
  | ok x =>
    obtain ⟨e, k1⟩ := x
    rw [hr] at sm bad hok
    simp only at bad hok
    by_cases c : isCmp (tkK tx n k1) = true
    · rw [if_pos c] at bad hok
      have hic := itM_c c
      have hT : tkK tx n k1 ≠ 0 := fun z => by rw [z] at c; exact absurd c (by decide)
      have hk1 := tkK_lt hT
      have hle1 := len_S (n := n) (T := tkK tx n) (len_O (T := tkK tx n) (srt := srt) (n := n) D) k e k1 hr
      have hf2 := okF_S (n := n) (T := tkK tx n) (okF_O (T := tkK tx n) (srt := srt) (n := n) D) (k1 + 1)
      cases hr2 : rdS (tkK tx n) n (rdO (tkK tx n) srt n D) (k1 + 1) with
      | error x =>
        obtain ⟨f, kf⟩ := x
        rw [hr2] at bad hf2
        have hf := hf2 f kf rfl
        refine g_aload_n dX12_ask_49 rfl ?_
        refine g_callV (sm) okX12_summed lkX12_285 rfl (by first | rfl | exact pv_shx) rfl (by omega) (by omega) dX12_ask_50 rfl (Nat.le_of_ble_eq_true rfl) (⟨by decide, by decide, by decide, by decide⟩) ?_
        rintro w nx' I2 J2 P' ⟨rfl, rfl, rfl, s2, hl2, hk2, hkn2⟩
        have co := t_compareOf (P := P') s2.tok
        rw [if_pos c] at co
        refine g_istore_n dX12_ask_53 (by decide) rfl ?_
        refine g_iload_n dX12_ask_54 rfl ?_
        refine n_if_eq 60 dX12_ask_55 (by decide) (by first | (with_reducible exact cB _) | ((with_reducible apply cN_eq0) <;> omega) | exact Iff.rfl) (fun c55 => ?_) (fun c55 => by exfalso; first | omega | exact absurd trivial c55 | exact c55)
        refine g_aload_n dX12_ask_60 rfl ?_
        refine p_callV (co) okX12_compareOf lkX12_288 rfl (by first | rfl | exact pv_shx) rfl (by omega) (by omega) dX12_ask_61 rfl (Nat.le_of_ble_eq_true rfl) (⟨by decide, by decide, by decide, by decide⟩) ?_
        refine g_istore_n dX12_ask_64 (by decide) rfl ?_
        refine g_iload_n dX12_ask_65 rfl ?_
        refine n_if_ge 71 dX12_ask_66 (by decide) (by first | ((with_reducible apply cN_ge0) <;> omega) | (with_reducible exact cI_ge0)) (fun c66 => ?_) (fun c66 => by exfalso; first | omega | exact absurd trivial c66 | exact c66)
        refine g_aload_n dX12_ask_71 rfl ?_
        refine g_callV (t_nextP hP h0 s2) okX12_nextToken lkX12_249 rfl (by first | rfl | exact pv_shx) rfl (by omega) (by omega) dX12_ask_72 rfl (Nat.le_of_ble_eq_true rfl) (⟨by decide, by decide, by decide, by decide⟩) ?_
        rintro w nx' I3 J3 P' ⟨rfl, rfl, rfl, s3⟩
        have sm2 := t_summed' (P := P') hP h0 s3 hD (by rw [List.length_append]; omega) (by omega)
        rw [hr2] at sm2
        refine g_aload_n dX12_ask_75 rfl ?_
        refine g_callV (sm2) okX12_summed lkX12_285 rfl (by first | rfl | exact pv_shx) rfl (by omega) (by omega) dX12_ask_76 rfl (Nat.le_of_ble_eq_true rfl) (⟨by decide, by decide, by decide, by decide⟩) ?_
        rintro w nx' I4 J4 P' ⟨rfl, rfl, rfl, pl4, op4, wh4, cd4, s4⟩
        refine g_istore_n dX12_ask_79 (by decide) rfl ?_
        refine g_iload_n dX12_ask_80 rfl ?_
        refine n_if_eq 86 dX12_ask_81 (by decide) (by first | (with_reducible exact cB _) | ((with_reducible apply cN_eq0) <;> omega) | exact Iff.rfl) (fun c81 => by exfalso; first | omega | exact absurd trivial c81 | exact c81) (fun c81 => ?_)
        refine g_iload_n dX12_ask_84 rfl ?_
        exact g_iret dX12_ask_85 rfl (bad f kf rfl I4 J4 pl4 op4 wh4 cd4 s4)
      | ok x =>
        obtain ⟨e2, k2⟩ := x
        have hle2 := len_S (n := n) (T := tkK tx n) (len_O (T := tkK tx n) (srt := srt) (n := n) D) (k1 + 1) e2 k2 hr2
        rw [hr2] at hok
        simp only at hok
        refine g_aload_n dX12_ask_49 rfl ?_
        refine g_callV (sm) okX12_summed lkX12_285 rfl (by first | rfl | exact pv_shx) rfl (by omega) (by omega) dX12_ask_50 rfl (Nat.le_of_ble_eq_true rfl) (⟨by decide, by decide, by decide, by decide⟩) ?_
        rintro w nx' I2 J2 P' ⟨rfl, rfl, rfl, s2, hl2, hk2, hkn2⟩
        have co := t_compareOf (P := P') s2.tok
        rw [if_pos c] at co
        refine g_istore_n dX12_ask_53 (by decide) rfl ?_
        refine g_iload_n dX12_ask_54 rfl ?_
        refine n_if_eq 60 dX12_ask_55 (by decide) (by first | (with_reducible exact cB _) | ((with_reducible apply cN_eq0) <;> omega) | exact Iff.rfl) (fun c55 => ?_) (fun c55 => by exfalso; first | omega | exact absurd trivial c55 | exact c55)
        refine g_aload_n dX12_ask_60 rfl ?_
        refine p_callV (co) okX12_compareOf lkX12_288 rfl (by first | rfl | exact pv_shx) rfl (by omega) (by omega) dX12_ask_61 rfl (Nat.le_of_ble_eq_true rfl) (⟨by decide, by decide, by decide, by decide⟩) ?_
        refine g_istore_n dX12_ask_64 (by decide) rfl ?_
        refine g_iload_n dX12_ask_65 rfl ?_
        refine n_if_ge 71 dX12_ask_66 (by decide) (by first | ((with_reducible apply cN_ge0) <;> omega) | (with_reducible exact cI_ge0)) (fun c66 => ?_) (fun c66 => by exfalso; first | omega | exact absurd trivial c66 | exact c66)
        refine g_aload_n dX12_ask_71 rfl ?_
        refine g_callV (t_nextP hP h0 s2) okX12_nextToken lkX12_249 rfl (by first | rfl | exact pv_shx) rfl (by omega) (by omega) dX12_ask_72 rfl (Nat.le_of_ble_eq_true rfl) (⟨by decide, by decide, by decide, by decide⟩) ?_
        rintro w nx' I3 J3 P' ⟨rfl, rfl, rfl, s3⟩
        have sm2 := t_summed' (P := P') hP h0 s3 hD (by rw [List.length_append]; omega) (by omega)
        rw [hr2] at sm2
        refine g_aload_n dX12_ask_75 rfl ?_
        refine g_callV (sm2) okX12_summed lkX12_285 rfl (by first | rfl | exact pv_shx) rfl (by omega) (by omega) dX12_ask_76 rfl (Nat.le_of_ble_eq_true rfl) (⟨by decide, by decide, by decide, by decide⟩) ?_
        rintro w nx' I4 J4 P' ⟨rfl, rfl, rfl, s4, hl4, hk4, hkn4⟩
        rw [List.length_append] at hl4
        have em := t_emit (P := P') (x := 20000 + tkK tx n k1) (o := nI (itM (20000 + tkK tx n k1)).1) (v := nI 0) hP h0 s4 (by rw [List.length_append, List.length_append]; omega) rfl (by rw [hic.2.2])
        refine g_istore_n dX12_ask_79 (by decide) rfl ?_
        refine g_iload_n dX12_ask_80 rfl ?_
        refine n_if_eq 86 dX12_ask_81 (by decide) (by first | (with_reducible exact cB _) | ((with_reducible apply cN_eq0) <;> omega) | exact Iff.rfl) (fun c81 => ?_) (fun c81 => by exfalso; first | omega | exact absurd trivial c81 | exact c81)
        refine g_aload_n dX12_ask_86 rfl ?_
        refine g_iload_n dX12_ask_87 rfl ?_
        refine g_iconst (v := nI 0) dX12_ask_88 (by decide) ?_
        refine g_callV (em) okX12_emit lkX12_235 rfl (by first | rfl | exact pv_shx) rfl (by omega) (by omega) dX12_ask_89 rfl (Nat.le_of_ble_eq_true rfl) (⟨by decide, by decide, by decide, by decide⟩) ?_
        rintro w nx' I5 J5 P' ⟨rfl, rfl, rfl, s5⟩
        have f32 := s5.ops
        have s6 := s5.p32 0
        have l5 : (cd ++ e ++ e2 ++ [20000 + tkK tx n k1]).length = cd.length + e.length + e2.length + 1 := by simp only [List.length_append, List.length_singleton]
        have lp : ∀ q i I6 J6, i + q = m → mS tx n t0 I0 J0 I6 J6 k2 [] 0 true (cd ++ e ++ e2 ++ [20000 + tkK tx n k1] ++ List.replicate i 20206) → pvG mX12_ask (pvR 6 0 0) (pvZ Q 0 0) 105 [.ref 202, .int (nI m), .retAddr 0, .retAddr 0, .int (nI i)] [] 0 0 224 I6 J6 P' := by
          intro q
          induction q with
          | zero =>
            intro i I6 J6 hi s7
            obtain rfl : i = m := by omega
            have ho := hok (e ++ e2 ++ [20000 + tkK tx n k1]) k2 rfl I6 J6 (by simpa only [List.append_assoc] using s7) (by simp only [List.length_append, List.length_singleton]; omega) (by omega) hkn4
            refine g_iload dX12_ask_105 rfl ?_
            refine g_iload_n dX12_ask_107 rfl ?_
            refine n_icmp_ge 124 dX12_ask_108 (by decide) (by first | ((with_reducible apply cN_le) <;> omega) | ((with_reducible apply cI_len) <;> omega) | ((with_reducible apply cI_nle) <;> omega) | (with_reducible exact cI_le)) (fun c108 => ?_) (fun c108 => by exfalso; first | omega | exact absurd trivial c108 | exact c108)
            refine g_iconst (v := nI 0) dX12_ask_124 (by decide) ?_
            exact g_iret dX12_ask_125 rfl (ho)
          | succ q ih =>
            intro i I6 J6 hi s7
            have em2 := t_emit (P := P') (x := 20206) (o := nI 20) (v := nI 0) hP h0 s7 (by rw [List.length_append, List.length_replicate, l5]; omega) rfl rfl
            rw [List.append_assoc, ← List.replicate_succ'] at em2
            refine g_iload dX12_ask_105 rfl ?_
            refine g_iload_n dX12_ask_107 rfl ?_
            refine n_icmp_ge 124 dX12_ask_108 (by decide) (by first | ((with_reducible apply cN_le) <;> omega) | ((with_reducible apply cI_len) <;> omega) | ((with_reducible apply cI_nle) <;> omega) | (with_reducible exact cI_le)) (fun c108 => by exfalso; first | omega | exact absurd trivial c108 | exact c108) (fun c108 => ?_)
            refine g_aload_n dX12_ask_111 rfl ?_
            refine g_bipush (v := nI 20) dX12_ask_112 (by decide) ?_
            refine g_iconst (v := nI 0) dX12_ask_114 (by decide) ?_
            refine g_callV (em2) okX12_emit lkX12_235 rfl (by first | rfl | exact pv_shx) rfl (by omega) (by omega) dX12_ask_115 rfl (Nat.le_of_ble_eq_true rfl) (⟨by decide, by decide, by decide, by decide⟩) ?_
            rintro w nx' I7 J7 P' ⟨rfl, rfl, rfl, s8⟩
            refine g_iinc dX12_ask_118 rfl (by first | (with_reducible exact nI_1 _) | exact nI_1 _ | exact pk_m1 _ | rfl) (by decide) rfl ?_
            refine g_goto 105 dX12_ask_121 (by decide) ?_
            exact g_drop _ (by repeat (first | exact trivial | refine ⟨Or.inr ⟨_, rfl⟩, ?_⟩ | refine ⟨Or.inl rfl, ?_⟩)) (ih (i + 1) I7 J7 (by omega) s8)
        refine g_aload_n dX12_ask_92 rfl ?_
        refine g_dup dX12_ask_93 rfl ?_
        refine n_getI dX12_ask_94 fdX12_232 rfl (by first | rfl | exact pv_shx) (by omega) (by omega) (by decide) rfl (f32) ?_
        refine g_iload_n dX12_ask_97 rfl ?_
        refine n_isub dX12_ask_98 (by first | ((with_reducible apply pk_sub) <;> omega) | rfl) ?_
        refine n_putI dX12_ask_99 fdX12_232 rfl (fun h => absurd h (by decide)) (by first | rfl | exact pv_shx) (by omega) (by omega) (by decide) rfl (by repeat (first | exact pvu_s | exact pvuJ_s | apply pvu_in (by omega) | apply pvuJ_in (by omega) | exact pvu_pvs | exact pvuJ_pvs)) ?_
        refine g_iconst (v := nI 0) dX12_ask_102 (by decide) ?_
        refine g_istore dX12_ask_103 (by decide) rfl ?_
        refine g_drop _ (by repeat (first | exact trivial | refine ⟨Or.inr ⟨_, rfl⟩, ?_⟩ | refine ⟨Or.inl rfl, ?_⟩)) (lp m 0 _ _ (by omega) ?_)
        simpa using s6
    · rw [if_neg c] at bad
      refine g_aload_n dX12_ask_49 rfl ?_
      refine g_callV (sm) okX12_summed lkX12_285 rfl (by first | rfl | exact pv_shx) rfl (by omega) (by omega) dX12_ask_50 rfl (Nat.le_of_ble_eq_true rfl) (⟨by decide, by decide, by decide, by decide⟩) ?_
      rintro w nx' I2 J2 P' ⟨rfl, rfl, rfl, s2, hl2, hk2, hkn2⟩
      have co := t_compareOf (P := P') s2.tok
      rw [if_neg c] at co
      refine g_istore_n dX12_ask_53 (by decide) rfl ?_
      refine g_iload_n dX12_ask_54 rfl ?_
      refine n_if_eq 60 dX12_ask_55 (by decide) (by first | (with_reducible exact cB _) | ((with_reducible apply cN_eq0) <;> omega) | exact Iff.rfl) (fun c55 => ?_) (fun c55 => by exfalso; first | omega | exact absurd trivial c55 | exact c55)
      refine g_aload_n dX12_ask_60 rfl ?_
      refine p_callV (co) okX12_compareOf lkX12_288 rfl (by first | rfl | exact pv_shx) rfl (by omega) (by omega) dX12_ask_61 rfl (Nat.le_of_ble_eq_true rfl) (⟨by decide, by decide, by decide, by decide⟩) ?_
      refine g_istore_n dX12_ask_64 (by decide) rfl ?_
      refine g_iload_n dX12_ask_65 rfl ?_
      refine n_if_ge 71 dX12_ask_66 (by decide) (cI_ge0) (fun c66 => by exfalso; exact absurd c66 (by decide)) (fun c66 => ?_)
      refine g_iconst (v := nI 1) dX12_ask_69 (by decide) ?_
      exact g_iret dX12_ask_70 rfl (bad 1 k1 rfl I2 J2 _ _ _ _ s2)
theorem k_ask (hP : pvOkP P) (h0 : mS0 tx n t0 srt I0) : ∀ D m k pl wh cd I J, m + D = 8 → mS tx n t0 I0 J0 I J k pl m wh cd → cd.length + m ≤ k → k ≤ n →
    (∀ e k2, rdA (tkK tx n) srt n D k = .ok (e, k2) → ∀ I' J', mS tx n t0 I0 J0 I' J' k2 [] 0 true (cd ++ e ++ List.replicate m 20206) → cd.length + e.length + m ≤ k2 → k < k2 → k2 ≤ n → Q (some (.int (nI 0))) 224 I' J' P) →
    mBad tx n t0 I0 J0 P Q (rdA (tkK tx n) srt n D k) → HA P Q m I J := by
  intro D
  induction D with
  | zero =>
    intro m k pl wh cd I J hD hs hb hkn hok bad
    have es : rdA (tkK tx n) srt n 0 k = if tkK tx n k = 206 then .error (3, k) else rdC1 (tkK tx n) srt n 0 k := rfl
    have iw := t_isWord (P := P) (j := 6) hs.tok (by decide) rfl
    have f32 := hs.ops
    unfold HA
    by_cases c : tkK tx n k = 206
    · rw [es, if_pos c] at bad
      refine g_aload_n dX12_ask_2 rfl ?_
      refine g_bipush (v := nI 110) dX12_ask_3 (by decide) ?_
      refine g_bipush (v := nI 111) dX12_ask_5 (by decide) ?_
      refine g_bipush (v := nI 116) dX12_ask_7 (by decide) ?_
      refine p_callS (t_w3 (v := lN (wdN 6)) (by decide)) okX12_w3 lkX12_211 rfl dX12_ask_9 rfl (Nat.le_of_ble_eq_true rfl) (⟨by decide, by decide, by decide, by decide⟩) ?_
      refine p_callV (iw) okX12_isWord lkX12_281 rfl (by first | rfl | exact pv_shx) rfl (by omega) (by omega) dX12_ask_12 rfl (Nat.le_of_ble_eq_true rfl) (⟨by decide, by decide, by decide, by decide⟩) ?_
      refine n_if_eq 49 dX12_ask_15 (by decide) (by first | (with_reducible exact cB _) | ((with_reducible apply cN_eq0) <;> omega) | exact Iff.rfl) (fun c15 => by exfalso; first | omega | exact absurd trivial c15 | exact c15) (fun c15 => ?_)
      refine g_aload_n dX12_ask_18 rfl ?_
      refine n_getI dX12_ask_19 fdX12_232 rfl (by first | rfl | exact pv_shx) (by omega) (by omega) (by decide) rfl (by repeat (first | exact f32 | (apply rd_s; done) | apply rd_n (by omega) | apply rp_s | apply rp_n (by omega) | (apply rdL_s; done) | apply rdL_n (by omega) | apply rpJ_s | apply rpJ_n (by omega) | rfl)) ?_
      refine g_bipush (v := nI 8) dX12_ask_22 (by decide) ?_
      refine n_icmp_ne 29 dX12_ask_24 (by decide) (by first | ((with_reducible apply cN_eq) <;> omega) | ((with_reducible apply cI_eqn) <;> omega) | exact Iff.rfl) (fun c24 => by exfalso; first | omega | exact absurd trivial c24 | exact c24) (fun c24 => ?_)
      refine g_iconst (v := nI 3) dX12_ask_27 (by decide) ?_
      exact g_iret dX12_ask_28 rfl (bad 3 k rfl I J _ _ _ _ hs)
    · rw [es, if_neg c] at bad hok
      refine g_aload_n dX12_ask_2 rfl ?_
      refine g_bipush (v := nI 110) dX12_ask_3 (by decide) ?_
      refine g_bipush (v := nI 111) dX12_ask_5 (by decide) ?_
      refine g_bipush (v := nI 116) dX12_ask_7 (by decide) ?_
      refine p_callS (t_w3 (v := lN (wdN 6)) (by decide)) okX12_w3 lkX12_211 rfl dX12_ask_9 rfl (Nat.le_of_ble_eq_true rfl) (⟨by decide, by decide, by decide, by decide⟩) ?_
      refine p_callV (iw) okX12_isWord lkX12_281 rfl (by first | rfl | exact pv_shx) rfl (by omega) (by omega) dX12_ask_12 rfl (Nat.le_of_ble_eq_true rfl) (⟨by decide, by decide, by decide, by decide⟩) ?_
      refine n_if_eq 49 dX12_ask_15 (by decide) (by first | (with_reducible exact cB _) | ((with_reducible apply cN_eq0) <;> omega) | exact Iff.rfl) (fun c15 => ?_) (fun c15 => by exfalso; first | omega | exact absurd trivial c15 | exact c15)
      exact k_C1 hP h0 hD hs hb hkn hok bad
  | succ D ih =>
    intro m k pl wh cd I J hD hs hb hkn hok bad
    have es : rdA (tkK tx n) srt n (D + 1) k = if tkK tx n k = 206 then (match rdA (tkK tx n) srt n D (k + 1) with
      | .ok (q, k2) => .ok (q ++ [20206], k2)
      | .error x => .error x) else rdC1 (tkK tx n) srt n (D + 1) k := rfl
    have iw := t_isWord (P := P) (j := 6) hs.tok (by decide) rfl
    have f32 := hs.ops
    unfold HA
    by_cases c : tkK tx n k = 206
    · rw [es, if_pos c] at bad hok
      have hk := tkK_lt (tx := tx) (n := n) (k := k) (by omega)
      refine g_aload_n dX12_ask_2 rfl ?_
      refine g_bipush (v := nI 110) dX12_ask_3 (by decide) ?_
      refine g_bipush (v := nI 111) dX12_ask_5 (by decide) ?_
      refine g_bipush (v := nI 116) dX12_ask_7 (by decide) ?_
      refine p_callS (t_w3 (v := lN (wdN 6)) (by decide)) okX12_w3 lkX12_211 rfl dX12_ask_9 rfl (Nat.le_of_ble_eq_true rfl) (⟨by decide, by decide, by decide, by decide⟩) ?_
      refine p_callV (iw) okX12_isWord lkX12_281 rfl (by first | rfl | exact pv_shx) rfl (by omega) (by omega) dX12_ask_12 rfl (Nat.le_of_ble_eq_true rfl) (⟨by decide, by decide, by decide, by decide⟩) ?_
      refine n_if_eq 49 dX12_ask_15 (by decide) (by first | (with_reducible exact cB _) | ((with_reducible apply cN_eq0) <;> omega) | exact Iff.rfl) (fun c15 => by exfalso; first | omega | exact absurd trivial c15 | exact c15) (fun c15 => ?_)
      refine g_aload_n dX12_ask_18 rfl ?_
      refine n_getI dX12_ask_19 fdX12_232 rfl (by first | rfl | exact pv_shx) (by omega) (by omega) (by decide) rfl (by repeat (first | exact f32 | (apply rd_s; done) | apply rd_n (by omega) | apply rp_s | apply rp_n (by omega) | (apply rdL_s; done) | apply rdL_n (by omega) | apply rpJ_s | apply rpJ_n (by omega) | rfl)) ?_
      refine g_bipush (v := nI 8) dX12_ask_22 (by decide) ?_
      refine n_icmp_ne 29 dX12_ask_24 (by decide) (by first | ((with_reducible apply cN_eq) <;> omega) | ((with_reducible apply cI_eqn) <;> omega) | exact Iff.rfl) (fun c24 => ?_) (fun c24 => by exfalso; first | omega | exact absurd trivial c24 | exact c24)
      refine g_aload_n dX12_ask_29 rfl ?_
      refine g_dup dX12_ask_30 rfl ?_
      refine n_getI dX12_ask_31 fdX12_232 rfl (by first | rfl | exact pv_shx) (by omega) (by omega) (by decide) rfl (by repeat (first | exact f32 | (apply rd_s; done) | apply rd_n (by omega) | apply rp_s | apply rp_n (by omega) | (apply rdL_s; done) | apply rdL_n (by omega) | apply rpJ_s | apply rpJ_n (by omega) | rfl)) ?_
      refine g_iconst (v := nI 1) dX12_ask_34 (by decide) ?_
      refine n_iadd dX12_ask_35 (by first | (with_reducible exact nI_add _ _) | rfl) ?_
      refine n_putI dX12_ask_36 fdX12_232 rfl (fun h => absurd h (by decide)) (by first | rfl | exact pv_shx) (by omega) (by omega) (by decide) rfl (by repeat (first | exact pvu_s | exact pvuJ_s | apply pvu_in (by omega) | apply pvuJ_in (by omega) | exact pvu_pvs | exact pvuJ_pvs)) ?_
      refine g_iinc dX12_ask_39 rfl (by first | (with_reducible exact nI_1 _) | exact nI_1 _ | exact pk_m1 _ | rfl) (by decide) rfl ?_
      refine g_aload_n dX12_ask_42 rfl ?_
      refine g_callV (t_nextP hP h0 (hs.p32 (m + 1))) okX12_nextToken lkX12_249 rfl (by first | rfl | exact pv_shx) rfl (by omega) (by omega) dX12_ask_43 rfl (Nat.le_of_ble_eq_true rfl) (⟨by decide, by decide, by decide, by decide⟩) ?_
      rintro w nx' I2 J2 P' ⟨rfl, rfl, rfl, s2⟩
      refine g_goto 2 dX12_ask_46 (by decide) ?_
      refine g_drop _ (by repeat (first | exact trivial | refine ⟨Or.inr ⟨_, rfl⟩, ?_⟩ | refine ⟨Or.inl rfl, ?_⟩)) (ih (m + 1) (k + 1) pl wh cd I2 J2 (by omega) s2 (by omega) (by omega) (fun e k2 he I' J' s' hb2 hk2 hkn2 => ?_) (fun f kf he I' J' pl' op' wh' cd' s' => ?_))
      · rw [he] at hok
        rw [rep_app] at s'
        exact hok _ k2 rfl I' J' s' (by rw [List.length_append, List.length_singleton]; omega) (by omega) hkn2
      · rw [he] at bad
        exact bad f kf rfl I' J' pl' op' wh' cd' s'
    · rw [es, if_neg c] at bad hok
      refine g_aload_n dX12_ask_2 rfl ?_
      refine g_bipush (v := nI 110) dX12_ask_3 (by decide) ?_
      refine g_bipush (v := nI 111) dX12_ask_5 (by decide) ?_
      refine g_bipush (v := nI 116) dX12_ask_7 (by decide) ?_
      refine p_callS (t_w3 (v := lN (wdN 6)) (by decide)) okX12_w3 lkX12_211 rfl dX12_ask_9 rfl (Nat.le_of_ble_eq_true rfl) (⟨by decide, by decide, by decide, by decide⟩) ?_
      refine p_callV (iw) okX12_isWord lkX12_281 rfl (by first | rfl | exact pv_shx) rfl (by omega) (by omega) dX12_ask_12 rfl (Nat.le_of_ble_eq_true rfl) (⟨by decide, by decide, by decide, by decide⟩) ?_
      refine n_if_eq 49 dX12_ask_15 (by decide) (by first | (with_reducible exact cB _) | ((with_reducible apply cN_eq0) <;> omega) | exact Iff.rfl) (fun c15 => ?_) (fun c15 => by exfalso; first | omega | exact absurd trivial c15 | exact c15)
      exact k_C1 hP h0 hD hs hb hkn hok bad
theorem t_ask {I : pvI} {J : pvJ} {k : Nat} {pl : List Nat} {wh : Bool} {cd : List Nat} (hP : pvOkP P) (h0 : mS0 tx n t0 srt I0) (h : mS tx n t0 I0 J0 I J k pl 0 wh cd) (hb : cd.length ≤ k) (hkn : k ≤ n) : pvMet mX12_ask 6 0 0 [.ref 202] 224 I J P (rdQ tx n t0 I0 J0 P 0 cd k (rdA (tkK tx n) srt n 8 k)) := by
  have h6 := k_ask (P := P) (Q := rdQ tx n t0 I0 J0 P 0 cd k (rdA (tkK tx n) srt n 8 k)) hP h0 8 0 k pl wh cd I J (by omega) h (by omega) hkn (fun e k2 he I' J' s hb2 hk2 hkn2 => ⟨rfl, rfl, by rw [he]; exact ⟨rfl, by simpa using s, by omega, hk2, hkn2⟩⟩) (fun f kf he I' J' pl' op' wh' cd' s => ⟨rfl, rfl, by rw [he]; exact ⟨rfl, pl', op', wh', cd', s⟩⟩)
  refine pvMet.of _ (by decide) rfl (Nat.le_of_ble_eq_true rfl) ?_
  refine g_iconst (v := nI 0) dX12_ask_0 (by decide) ?_
  refine g_istore_n dX12_ask_1 (by decide) rfl ?_
  exact g_drop _ (by repeat (first | exact trivial | refine ⟨Or.inr ⟨_, rfl⟩, ?_⟩ | refine ⟨Or.inl rfl, ?_⟩)) h6
end MASK
