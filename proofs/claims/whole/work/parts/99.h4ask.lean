/-! class: the reader: comparisons, and, or -/
section ASKP
variable {T : Nat → Nat} {n srt : Nat}
theorem bind_C1 {r : pR} {D : Nat} : bindR (rdC1 T srt n D) r = if isCmp (tkS T (bindR (rdS T n (rdO T srt n D)) r)) = true then addR (20000 + tkS T (bindR (rdS T n (rdO T srt n D)) r)) (bindR (rdS T n (rdO T srt n D)) (advR (bindR (rdS T n (rdO T srt n D)) r))) else refR 1 (bindR (rdS T n (rdO T srt n D)) r) := by
  cases r with
  | error x => rfl
  | ok v =>
    obtain ⟨cd, k⟩ := v
    cases hx : rdS T n (rdO T srt n D) k with
    | error x =>
      have e1 : rdC1 T srt n D k = .error x := by simp only [rdC1]; rw [hx]
      have e2 : bindR (rdS T n (rdO T srt n D)) (.ok (cd, k)) = .error x := by simp only [bindR, hx]
      rw [e2]
      simp only [bindR, e1]
      rfl
    | ok v =>
      obtain ⟨e, k1⟩ := v
      have e2 : bindR (rdS T n (rdO T srt n D)) (.ok (cd, k)) = .ok (cd ++ e, k1) := by simp only [bindR, hx]
      rw [e2]
      by_cases c : isCmp (T k1) = true
      · rw [if_pos (show isCmp (tkS T (.ok (cd ++ e, k1))) = true from c)]
        cases hy : rdS T n (rdO T srt n D) (k1 + 1) with
        | error x =>
          have e1 : rdC1 T srt n D k = .error x := by simp only [rdC1]; rw [hx]; simp only; rw [if_pos c, hy]
          have e3 : bindR (rdS T n (rdO T srt n D)) (advR (.ok (cd ++ e, k1))) = .error x := by simp only [bindR, advR, hy]
          rw [e3]
          simp only [bindR, e1]
          rfl
        | ok v =>
          obtain ⟨e', k2⟩ := v
          have e1 : rdC1 T srt n D k = .ok (e ++ e' ++ [20000 + T k1], k2) := by simp only [rdC1]; rw [hx]; simp only; rw [if_pos c, hy]
          have e3 : bindR (rdS T n (rdO T srt n D)) (advR (.ok (cd ++ e, k1))) = .ok (cd ++ e ++ e', k2) := by simp only [bindR, advR, hy]
          rw [e3]
          simp only [bindR, e1, addR, tkS, List.append_assoc]
      · rw [if_neg (show ¬ isCmp (tkS T (.ok (cd ++ e, k1))) = true from c)]
        have e1 : rdC1 T srt n D k = .error (1, k1) := by simp only [rdC1]; rw [hx]; simp only; rw [if_neg c]
        simp only [bindR, e1, refR]
theorem rdA_C1 {D k : Nat} (h : T k ≠ 206) : rdA T srt n D k = rdC1 T srt n D k := by
  cases D with
  | zero => simp only [rdA]; rw [if_neg h]
  | succ D => simp only [rdA]; rw [if_neg h]
theorem bind_A_C1 {r : pR} {D : Nat} (h : tkS T r ≠ 206) : bindR (rdA T srt n D) r = bindR (rdC1 T srt n D) r := by
  cases r with
  | error x => rfl
  | ok v =>
    obtain ⟨cd, k⟩ := v
    simp only [bindR]
    rw [rdA_C1 h]
theorem bind_A_deep {r : pR} (h : tkS T r = 206) : bindR (rdA T srt n 0) r = refR 3 r := by
  cases r with
  | error x => cases h
  | ok v =>
    obtain ⟨cd, k⟩ := v
    replace h : T k = 206 := h
    simp only [bindR, rdA]
    rw [if_pos h]
    rfl
theorem bind_A_not {r : pR} {D : Nat} (h : tkS T r = 206) : bindR (rdA T srt n (D + 1)) r = addR 20206 (bindR (rdA T srt n D) (advR r)) := by
  cases r with
  | error x => cases h
  | ok v =>
    obtain ⟨cd, k⟩ := v
    replace h : T k = 206 := h
    cases hx : rdA T srt n D (k + 1) with
    | error x =>
      have e1 : rdA T srt n (D + 1) k = .error x := by simp only [rdA]; rw [if_pos h, hx]
      simp only [bindR, e1, advR, hx, addR]
    | ok v =>
      obtain ⟨e, k2⟩ := v
      have e1 : rdA T srt n (D + 1) k = .ok (e ++ [20206], k2) := by simp only [rdA]; rw [if_pos h, hx]
      simp only [bindR, e1, advR, hx, addR, List.append_assoc]
theorem bind_Y1 {r : pR} : bindR (rdY T n 1) r = bindR (rdS T n (rdO T 1 n 8)) r := by
  cases r with
  | error x => rfl
  | ok v => rfl
theorem bind_Y {r : pR} {s : Nat} (h : s ≠ 1) : bindR (rdY T n s) r = bindR (rdE T s n) r := by
  cases r with
  | error x => rfl
  | ok v =>
    obtain ⟨cd, k⟩ := v
    simp only [bindR, rdY]
    rw [if_neg h]
end ASKP
theorem gtA {tx : Nat → Nat} {n srt D : Nat} (k : Nat) (e : List Nat) (k2 : Nat) (h : rdA (tkK tx n) srt n D k = .ok (e, k2)) : k < k2 := by
  have h1 := wf_A (srt := srt) (n := n) (tkK_b (tx := tx) (n := n)) D k e k2 h
  have h2 := len_A (srt := srt) (n := n) (T := tkK tx n) D k e k2 h
  cases e with
  | nil =>
    have := h1.2 0
    cases this
  | cons x l => rw [List.length_cons] at h2; omega
theorem gtCj {tx : Nat → Nat} {n srt : Nat} (k : Nat) (e : List Nat) (k2 : Nat) (h : rdCj (tkK tx n) srt n k = .ok (e, k2)) : k < k2 := by
  have h1 := wf_Cj (srt := srt) (n := n) (tkK_b (tx := tx) (n := n)) h
  have h2 := len_Cj (srt := srt) (n := n) (T := tkK tx n) k e k2 h
  cases e with
  | nil =>
    have := h1.2 0
    cases this
  | cons x l => rw [List.length_cons] at h2; omega
section ASKS
variable {tx : Nat → Nat} {n cT A srt : Nat} {I0 I : pvI} {J : pvJ} {P : pvP} {r : pR}
theorem c_isComparison {t : Nat} (ht : t ≤ 11000) : pvMet mX6_isComparison 0 0 0 [.int (nI t)] 224 I J P (pvpu (.int (if isCmp t = true then 1 else 0)) 224 I J P) := by
  have yes : (t = 60 ∨ t = 62 ∨ t = 61 ∨ t = 35 ∨ t = 2 ∨ t = 3) → isCmp t = true := fun z => decide_eq_true z
  have no : ¬ (t = 60 ∨ t = 62 ∨ t = 61 ∨ t = 35 ∨ t = 2 ∨ t = 3) → ¬ isCmp t = true := fun z y => z (of_decide_eq_true y)
  by_cases c1 : t = 60
  · rw [if_pos (yes (by omega))]
    refine pvMet.of _ (by decide) rfl (Nat.le_of_ble_eq_true rfl) ?_
    refine g_iload_n dX6_isComparison_0 rfl ?_
    refine g_bipush (v := nI 60) dX6_isComparison_1 (by decide) ?_
    refine n_icmp_eq 34 dX6_isComparison_3 (by decide) (by first | ((with_reducible apply cN_eq) <;> omega) | ((with_reducible apply cI_eqn) <;> omega) | exact Iff.rfl) (fun c3 => ?_) (fun c3 => by exfalso; first | omega | exact absurd trivial c3 | exact c3 | (simp at c3))
    refine g_iconst (v := nI 1) dX6_isComparison_34 (by decide) ?_
    refine g_goto 39 dX6_isComparison_35 (by decide) ?_
    exact g_zret (by first | exact Or.inl rfl | exact Or.inr rfl | exact cB01 _) dX6_isComparison_39 rfl (⟨rfl, rfl, rfl, rfl, rfl⟩)
  · by_cases c2 : t = 62
    · rw [if_pos (yes (by omega))]
      refine pvMet.of _ (by decide) rfl (Nat.le_of_ble_eq_true rfl) ?_
      refine g_iload_n dX6_isComparison_0 rfl ?_
      refine g_bipush (v := nI 60) dX6_isComparison_1 (by decide) ?_
      refine n_icmp_eq 34 dX6_isComparison_3 (by decide) (by first | ((with_reducible apply cN_eq) <;> omega) | ((with_reducible apply cI_eqn) <;> omega) | exact Iff.rfl) (fun c3 => by exfalso; first | omega | exact absurd trivial c3 | exact c3 | (simp at c3)) (fun c3 => ?_)
      refine g_iload_n dX6_isComparison_6 rfl ?_
      refine g_bipush (v := nI 62) dX6_isComparison_7 (by decide) ?_
      refine n_icmp_eq 34 dX6_isComparison_9 (by decide) (by first | ((with_reducible apply cN_eq) <;> omega) | ((with_reducible apply cI_eqn) <;> omega) | exact Iff.rfl) (fun c9 => ?_) (fun c9 => by exfalso; first | omega | exact absurd trivial c9 | exact c9 | (simp at c9))
      refine g_iconst (v := nI 1) dX6_isComparison_34 (by decide) ?_
      refine g_goto 39 dX6_isComparison_35 (by decide) ?_
      exact g_zret (by first | exact Or.inl rfl | exact Or.inr rfl | exact cB01 _) dX6_isComparison_39 rfl (⟨rfl, rfl, rfl, rfl, rfl⟩)
    · by_cases c3 : t = 61
      · rw [if_pos (yes (by omega))]
        refine pvMet.of _ (by decide) rfl (Nat.le_of_ble_eq_true rfl) ?_
        refine g_iload_n dX6_isComparison_0 rfl ?_
        refine g_bipush (v := nI 60) dX6_isComparison_1 (by decide) ?_
        refine n_icmp_eq 34 dX6_isComparison_3 (by decide) (by first | ((with_reducible apply cN_eq) <;> omega) | ((with_reducible apply cI_eqn) <;> omega) | exact Iff.rfl) (fun c3 => by exfalso; first | omega | exact absurd trivial c3 | exact c3 | (simp at c3)) (fun c3 => ?_)
        refine g_iload_n dX6_isComparison_6 rfl ?_
        refine g_bipush (v := nI 62) dX6_isComparison_7 (by decide) ?_
        refine n_icmp_eq 34 dX6_isComparison_9 (by decide) (by first | ((with_reducible apply cN_eq) <;> omega) | ((with_reducible apply cI_eqn) <;> omega) | exact Iff.rfl) (fun c9 => by exfalso; first | omega | exact absurd trivial c9 | exact c9 | (simp at c9)) (fun c9 => ?_)
        refine g_iload_n dX6_isComparison_12 rfl ?_
        refine g_bipush (v := nI 61) dX6_isComparison_13 (by decide) ?_
        refine n_icmp_eq 34 dX6_isComparison_15 (by decide) (by first | ((with_reducible apply cN_eq) <;> omega) | ((with_reducible apply cI_eqn) <;> omega) | exact Iff.rfl) (fun c15 => ?_) (fun c15 => by exfalso; first | omega | exact absurd trivial c15 | exact c15 | (simp at c15))
        refine g_iconst (v := nI 1) dX6_isComparison_34 (by decide) ?_
        refine g_goto 39 dX6_isComparison_35 (by decide) ?_
        exact g_zret (by first | exact Or.inl rfl | exact Or.inr rfl | exact cB01 _) dX6_isComparison_39 rfl (⟨rfl, rfl, rfl, rfl, rfl⟩)
      · by_cases c4 : t = 35
        · rw [if_pos (yes (by omega))]
          refine pvMet.of _ (by decide) rfl (Nat.le_of_ble_eq_true rfl) ?_
          refine g_iload_n dX6_isComparison_0 rfl ?_
          refine g_bipush (v := nI 60) dX6_isComparison_1 (by decide) ?_
          refine n_icmp_eq 34 dX6_isComparison_3 (by decide) (by first | ((with_reducible apply cN_eq) <;> omega) | ((with_reducible apply cI_eqn) <;> omega) | exact Iff.rfl) (fun c3 => by exfalso; first | omega | exact absurd trivial c3 | exact c3 | (simp at c3)) (fun c3 => ?_)
          refine g_iload_n dX6_isComparison_6 rfl ?_
          refine g_bipush (v := nI 62) dX6_isComparison_7 (by decide) ?_
          refine n_icmp_eq 34 dX6_isComparison_9 (by decide) (by first | ((with_reducible apply cN_eq) <;> omega) | ((with_reducible apply cI_eqn) <;> omega) | exact Iff.rfl) (fun c9 => by exfalso; first | omega | exact absurd trivial c9 | exact c9 | (simp at c9)) (fun c9 => ?_)
          refine g_iload_n dX6_isComparison_12 rfl ?_
          refine g_bipush (v := nI 61) dX6_isComparison_13 (by decide) ?_
          refine n_icmp_eq 34 dX6_isComparison_15 (by decide) (by first | ((with_reducible apply cN_eq) <;> omega) | ((with_reducible apply cI_eqn) <;> omega) | exact Iff.rfl) (fun c15 => by exfalso; first | omega | exact absurd trivial c15 | exact c15 | (simp at c15)) (fun c15 => ?_)
          refine g_iload_n dX6_isComparison_18 rfl ?_
          refine g_bipush (v := nI 35) dX6_isComparison_19 (by decide) ?_
          refine n_icmp_eq 34 dX6_isComparison_21 (by decide) (by first | ((with_reducible apply cN_eq) <;> omega) | ((with_reducible apply cI_eqn) <;> omega) | exact Iff.rfl) (fun c21 => ?_) (fun c21 => by exfalso; first | omega | exact absurd trivial c21 | exact c21 | (simp at c21))
          refine g_iconst (v := nI 1) dX6_isComparison_34 (by decide) ?_
          refine g_goto 39 dX6_isComparison_35 (by decide) ?_
          exact g_zret (by first | exact Or.inl rfl | exact Or.inr rfl | exact cB01 _) dX6_isComparison_39 rfl (⟨rfl, rfl, rfl, rfl, rfl⟩)
        · by_cases c5 : t = 2
          · rw [if_pos (yes (by omega))]
            refine pvMet.of _ (by decide) rfl (Nat.le_of_ble_eq_true rfl) ?_
            refine g_iload_n dX6_isComparison_0 rfl ?_
            refine g_bipush (v := nI 60) dX6_isComparison_1 (by decide) ?_
            refine n_icmp_eq 34 dX6_isComparison_3 (by decide) (by first | ((with_reducible apply cN_eq) <;> omega) | ((with_reducible apply cI_eqn) <;> omega) | exact Iff.rfl) (fun c3 => by exfalso; first | omega | exact absurd trivial c3 | exact c3 | (simp at c3)) (fun c3 => ?_)
            refine g_iload_n dX6_isComparison_6 rfl ?_
            refine g_bipush (v := nI 62) dX6_isComparison_7 (by decide) ?_
            refine n_icmp_eq 34 dX6_isComparison_9 (by decide) (by first | ((with_reducible apply cN_eq) <;> omega) | ((with_reducible apply cI_eqn) <;> omega) | exact Iff.rfl) (fun c9 => by exfalso; first | omega | exact absurd trivial c9 | exact c9 | (simp at c9)) (fun c9 => ?_)
            refine g_iload_n dX6_isComparison_12 rfl ?_
            refine g_bipush (v := nI 61) dX6_isComparison_13 (by decide) ?_
            refine n_icmp_eq 34 dX6_isComparison_15 (by decide) (by first | ((with_reducible apply cN_eq) <;> omega) | ((with_reducible apply cI_eqn) <;> omega) | exact Iff.rfl) (fun c15 => by exfalso; first | omega | exact absurd trivial c15 | exact c15 | (simp at c15)) (fun c15 => ?_)
            refine g_iload_n dX6_isComparison_18 rfl ?_
            refine g_bipush (v := nI 35) dX6_isComparison_19 (by decide) ?_
            refine n_icmp_eq 34 dX6_isComparison_21 (by decide) (by first | ((with_reducible apply cN_eq) <;> omega) | ((with_reducible apply cI_eqn) <;> omega) | exact Iff.rfl) (fun c21 => by exfalso; first | omega | exact absurd trivial c21 | exact c21 | (simp at c21)) (fun c21 => ?_)
            refine g_iload_n dX6_isComparison_24 rfl ?_
            refine g_iconst (v := nI 2) dX6_isComparison_25 (by decide) ?_
            refine n_icmp_eq 34 dX6_isComparison_26 (by decide) (by first | ((with_reducible apply cN_eq) <;> omega) | ((with_reducible apply cI_eqn) <;> omega) | exact Iff.rfl) (fun c26 => ?_) (fun c26 => by exfalso; first | omega | exact absurd trivial c26 | exact c26 | (simp at c26))
            refine g_iconst (v := nI 1) dX6_isComparison_34 (by decide) ?_
            refine g_goto 39 dX6_isComparison_35 (by decide) ?_
            exact g_zret (by first | exact Or.inl rfl | exact Or.inr rfl | exact cB01 _) dX6_isComparison_39 rfl (⟨rfl, rfl, rfl, rfl, rfl⟩)
          · by_cases c6 : t = 3
            · rw [if_pos (yes (by omega))]
              refine pvMet.of _ (by decide) rfl (Nat.le_of_ble_eq_true rfl) ?_
              refine g_iload_n dX6_isComparison_0 rfl ?_
              refine g_bipush (v := nI 60) dX6_isComparison_1 (by decide) ?_
              refine n_icmp_eq 34 dX6_isComparison_3 (by decide) (by first | ((with_reducible apply cN_eq) <;> omega) | ((with_reducible apply cI_eqn) <;> omega) | exact Iff.rfl) (fun c3 => by exfalso; first | omega | exact absurd trivial c3 | exact c3 | (simp at c3)) (fun c3 => ?_)
              refine g_iload_n dX6_isComparison_6 rfl ?_
              refine g_bipush (v := nI 62) dX6_isComparison_7 (by decide) ?_
              refine n_icmp_eq 34 dX6_isComparison_9 (by decide) (by first | ((with_reducible apply cN_eq) <;> omega) | ((with_reducible apply cI_eqn) <;> omega) | exact Iff.rfl) (fun c9 => by exfalso; first | omega | exact absurd trivial c9 | exact c9 | (simp at c9)) (fun c9 => ?_)
              refine g_iload_n dX6_isComparison_12 rfl ?_
              refine g_bipush (v := nI 61) dX6_isComparison_13 (by decide) ?_
              refine n_icmp_eq 34 dX6_isComparison_15 (by decide) (by first | ((with_reducible apply cN_eq) <;> omega) | ((with_reducible apply cI_eqn) <;> omega) | exact Iff.rfl) (fun c15 => by exfalso; first | omega | exact absurd trivial c15 | exact c15 | (simp at c15)) (fun c15 => ?_)
              refine g_iload_n dX6_isComparison_18 rfl ?_
              refine g_bipush (v := nI 35) dX6_isComparison_19 (by decide) ?_
              refine n_icmp_eq 34 dX6_isComparison_21 (by decide) (by first | ((with_reducible apply cN_eq) <;> omega) | ((with_reducible apply cI_eqn) <;> omega) | exact Iff.rfl) (fun c21 => by exfalso; first | omega | exact absurd trivial c21 | exact c21 | (simp at c21)) (fun c21 => ?_)
              refine g_iload_n dX6_isComparison_24 rfl ?_
              refine g_iconst (v := nI 2) dX6_isComparison_25 (by decide) ?_
              refine n_icmp_eq 34 dX6_isComparison_26 (by decide) (by first | ((with_reducible apply cN_eq) <;> omega) | ((with_reducible apply cI_eqn) <;> omega) | exact Iff.rfl) (fun c26 => by exfalso; first | omega | exact absurd trivial c26 | exact c26 | (simp at c26)) (fun c26 => ?_)
              refine g_iload_n dX6_isComparison_29 rfl ?_
              refine g_iconst (v := nI 3) dX6_isComparison_30 (by decide) ?_
              refine n_icmp_ne 38 dX6_isComparison_31 (by decide) (by first | ((with_reducible apply cN_eq) <;> omega) | ((with_reducible apply cI_eqn) <;> omega) | exact Iff.rfl) (fun c31 => by exfalso; first | omega | exact absurd trivial c31 | exact c31 | (simp at c31)) (fun c31 => ?_)
              refine g_iconst (v := nI 1) dX6_isComparison_34 (by decide) ?_
              refine g_goto 39 dX6_isComparison_35 (by decide) ?_
              exact g_zret (by first | exact Or.inl rfl | exact Or.inr rfl | exact cB01 _) dX6_isComparison_39 rfl (⟨rfl, rfl, rfl, rfl, rfl⟩)
            · rw [if_neg (no (by omega))]
              refine pvMet.of _ (by decide) rfl (Nat.le_of_ble_eq_true rfl) ?_
              refine g_iload_n dX6_isComparison_0 rfl ?_
              refine g_bipush (v := nI 60) dX6_isComparison_1 (by decide) ?_
              refine n_icmp_eq 34 dX6_isComparison_3 (by decide) (by first | ((with_reducible apply cN_eq) <;> omega) | ((with_reducible apply cI_eqn) <;> omega) | exact Iff.rfl) (fun c3 => by exfalso; first | omega | exact absurd trivial c3 | exact c3 | (simp at c3)) (fun c3 => ?_)
              refine g_iload_n dX6_isComparison_6 rfl ?_
              refine g_bipush (v := nI 62) dX6_isComparison_7 (by decide) ?_
              refine n_icmp_eq 34 dX6_isComparison_9 (by decide) (by first | ((with_reducible apply cN_eq) <;> omega) | ((with_reducible apply cI_eqn) <;> omega) | exact Iff.rfl) (fun c9 => by exfalso; first | omega | exact absurd trivial c9 | exact c9 | (simp at c9)) (fun c9 => ?_)
              refine g_iload_n dX6_isComparison_12 rfl ?_
              refine g_bipush (v := nI 61) dX6_isComparison_13 (by decide) ?_
              refine n_icmp_eq 34 dX6_isComparison_15 (by decide) (by first | ((with_reducible apply cN_eq) <;> omega) | ((with_reducible apply cI_eqn) <;> omega) | exact Iff.rfl) (fun c15 => by exfalso; first | omega | exact absurd trivial c15 | exact c15 | (simp at c15)) (fun c15 => ?_)
              refine g_iload_n dX6_isComparison_18 rfl ?_
              refine g_bipush (v := nI 35) dX6_isComparison_19 (by decide) ?_
              refine n_icmp_eq 34 dX6_isComparison_21 (by decide) (by first | ((with_reducible apply cN_eq) <;> omega) | ((with_reducible apply cI_eqn) <;> omega) | exact Iff.rfl) (fun c21 => by exfalso; first | omega | exact absurd trivial c21 | exact c21 | (simp at c21)) (fun c21 => ?_)
              refine g_iload_n dX6_isComparison_24 rfl ?_
              refine g_iconst (v := nI 2) dX6_isComparison_25 (by decide) ?_
              refine n_icmp_eq 34 dX6_isComparison_26 (by decide) (by first | ((with_reducible apply cN_eq) <;> omega) | ((with_reducible apply cI_eqn) <;> omega) | exact Iff.rfl) (fun c26 => by exfalso; first | omega | exact absurd trivial c26 | exact c26 | (simp at c26)) (fun c26 => ?_)
              refine g_iload_n dX6_isComparison_29 rfl ?_
              refine g_iconst (v := nI 3) dX6_isComparison_30 (by decide) ?_
              refine n_icmp_ne 38 dX6_isComparison_31 (by decide) (by first | ((with_reducible apply cN_eq) <;> omega) | ((with_reducible apply cI_eqn) <;> omega) | exact Iff.rfl) (fun c31 => ?_) (fun c31 => by exfalso; first | omega | exact absurd trivial c31 | exact c31 | (simp at c31))
              refine g_iconst (v := nI 0) dX6_isComparison_38 (by decide) ?_
              exact g_zret (by first | exact Or.inl rfl | exact Or.inr rfl | exact cB01 _) dX6_isComparison_39 rfl (⟨rfl, rfl, rfl, rfl, rfl⟩)
def cAsk (tx : Nat → Nat) (n cT A srt : Nat) (I0 : pvI) (J : pvJ) (P : pvP) (D : Nat) : Prop := ∀ r I, psS tx n cT A I0 r I → pvMet mX6_readAsked (2 * D + 3) 0 0 [.ref 144, .int (nI (8 - D))] 224 I J P (pS tx n cT A I0 J P (bindR (rdA (tkK tx n) srt n D) r))
theorem c_ask {D : Nat} (hP : pvOkP P) (hPA : P 144 11 = some A) (hA : aAd A) (hB : rB tx n cT srt I0) (hD : D ≤ 8) (hL : ∀ D', D = D' + 1 → cAsk tx n cT A srt I0 J P D') : cAsk tx n cT A srt I0 J P D := by
  intro r I hs
  obtain ⟨⟨s0, s1, s2, s3, s4⟩, h149, h194⟩ := hA.sh
  have hS := (c_oneSum (J := J) hP hPA hA hB D hD).2
  have f4 := hs.2.1
  have htl := tkS_le (tx := tx) (n := n) (r := r)
  by_cases h206 : tkS (tkK tx n) r = 206
  · have ad := c_advance (I := I) (J := J) (P := P) hP hA hB.1 hs (Or.inr (by omega))
    cases D with
    | zero =>
      have rf := c_refuse (f := 3) (I := I) (J := J) (P := P) hP hA hB.1 hs (by omega)
      rw [bind_A_deep h206]
      refine pvMet.of _ (by decide) rfl (Nat.le_of_ble_eq_true rfl) ?_
      refine g_aload_n dX6_readAsked_0 rfl ?_
      refine n_getI dX6_readAsked_1 fdX6_49 rfl (by first | rfl | exact pv_shx) (by omega) (by omega) (by decide) rfl (by repeat (first | exact f4 | (apply rd_s; done) | apply rd_n (by omega) | apply rp_s | apply rp_n (by omega) | (apply rdL_s; done) | apply rdL_n (by omega) | apply rpJ_s | apply rpJ_n (by omega) | rfl)) ?_
      refine g_sipush (v := nI 206) dX6_readAsked_4 (by decide) ?_
      refine n_icmp_ne 46 dX6_readAsked_7 (by decide) (by first | ((with_reducible apply cN_eq) <;> omega) | ((with_reducible apply cI_eqn) <;> omega) | exact Iff.rfl) (fun c7 => by exfalso; first | omega | exact absurd trivial c7 | exact c7 | (simp at c7)) (fun c7 => ?_)
      refine g_iload_n dX6_readAsked_10 rfl ?_
      refine g_bipush (v := nI 8) dX6_readAsked_11 (by decide) ?_
      refine n_icmp_lt 24 dX6_readAsked_13 (by decide) (by first | ((with_reducible apply cN_lt) <;> omega) | ((with_reducible apply cI_ltn) <;> omega) | ((with_reducible apply cI_nlt) <;> omega) | (with_reducible exact cI_lt)) (fun c13 => by exfalso; first | omega | exact absurd trivial c13 | exact c13 | (simp at c13)) (fun c13 => ?_)
      refine g_aload_n dX6_readAsked_16 rfl ?_
      refine g_iconst (v := nI 3) dX6_readAsked_17 (by decide) ?_
      refine g_callV (rf) okX6_refuse lkX6_98 rfl (by first | rfl | exact pv_shx) rfl (by omega) (by omega) dX6_readAsked_18 rfl (Nat.le_of_ble_eq_true rfl) (rm_le (by omega) (by decide)) ?_
      rintro v nx' I2 J2 P2 ⟨rfl, rfl, rfl, rfl, q2⟩
      refine g_goto 45 dX6_readAsked_21 (by decide) ?_
      exact g_vret dX6_readAsked_45 rfl (⟨rfl, rfl, rfl, rfl, q2⟩)
    | succ D' =>
      have lA := hL D' rfl
      have rl2 : rlt (bindR (rdA (tkK tx n) srt n D') (advR r)) := rlt_bind hs.le (fun k => len_A D' k)
      rw [bind_A_not h206]
      refine pvMet.of _ (by decide) rfl (Nat.le_of_ble_eq_true rfl) ?_
      refine g_aload_n dX6_readAsked_0 rfl ?_
      refine n_getI dX6_readAsked_1 fdX6_49 rfl (by first | rfl | exact pv_shx) (by omega) (by omega) (by decide) rfl (by repeat (first | exact f4 | (apply rd_s; done) | apply rd_n (by omega) | apply rp_s | apply rp_n (by omega) | (apply rdL_s; done) | apply rdL_n (by omega) | apply rpJ_s | apply rpJ_n (by omega) | rfl)) ?_
      refine g_sipush (v := nI 206) dX6_readAsked_4 (by decide) ?_
      refine n_icmp_ne 46 dX6_readAsked_7 (by decide) (by first | ((with_reducible apply cN_eq) <;> omega) | ((with_reducible apply cI_eqn) <;> omega) | exact Iff.rfl) (fun c7 => by exfalso; first | omega | exact absurd trivial c7 | exact c7 | (simp at c7)) (fun c7 => ?_)
      refine g_iload_n dX6_readAsked_10 rfl ?_
      refine g_bipush (v := nI 8) dX6_readAsked_11 (by decide) ?_
      refine n_icmp_lt 24 dX6_readAsked_13 (by decide) (by first | ((with_reducible apply cN_lt) <;> omega) | ((with_reducible apply cI_ltn) <;> omega) | ((with_reducible apply cI_nlt) <;> omega) | (with_reducible exact cI_lt)) (fun c13 => ?_) (fun c13 => by exfalso; first | omega | exact absurd trivial c13 | exact c13 | (simp at c13))
      refine g_aload_n dX6_readAsked_24 rfl ?_
      refine g_callV (ad) okX6_advance lkX6_112 rfl (by first | rfl | exact pv_shx) rfl (by omega) (by omega) dX6_readAsked_25 rfl (Nat.le_of_ble_eq_true rfl) (rm_le (by omega) (by decide)) ?_
      rintro v nx' I1 J1 P1 ⟨rfl, rfl, rfl, rfl, q1⟩
      have su := lA _ _ q1
      refine g_aload_n dX6_readAsked_28 rfl ?_
      refine g_iload_n dX6_readAsked_29 rfl ?_
      refine g_iconst (v := nI 1) dX6_readAsked_30 (by decide) ?_
      refine n_iadd dX6_readAsked_31 ((nI_add _ _).trans (congrArg nI (show 8 - (D' + 1) + 1 = 8 - D' by omega))) ?_
      refine g_callV (su) okX6_readAsked lkX6_130 rfl (by first | rfl | exact pv_shx) rfl (by omega) (by omega) dX6_readAsked_32 rfl (Nat.le_of_ble_eq_true rfl) (rm_le (by omega) (by decide)) ?_
      rintro v nx' I2 J2 P2 ⟨rfl, rfl, rfl, rfl, q2⟩
      have aa := c_add (x := 20206) (J := J2) (P := P2) hP hA hB.1 q2 rl2
      refine g_aload_n dX6_readAsked_35 rfl ?_
      refine g_getP dX6_readAsked_36 fdX6_37 rfl (by first | rfl | exact pv_shx) (by omega) (by omega) (by decide) rfl (hPA) ?_
      refine g_sipush (v := nI 20206) dX6_readAsked_39 (by decide) ?_
      refine g_callV (aa) okX0_add lkX6_124 rfl (s0) rfl (by omega) (by omega) dX6_readAsked_42 rfl (Nat.le_of_ble_eq_true rfl) (rm_le (by omega) (by decide)) ?_
      rintro v nx' I3 J3 P3 ⟨rfl, rfl, rfl, rfl, q3⟩
      exact g_vret dX6_readAsked_45 rfl (⟨rfl, rfl, rfl, rfl, q3⟩)
  · have su := hS _ _ hs
    rw [bind_A_C1 h206, bind_C1]
    refine pvMet.of _ (by decide) rfl (Nat.le_of_ble_eq_true rfl) ?_
    refine g_aload_n dX6_readAsked_0 rfl ?_
    refine n_getI dX6_readAsked_1 fdX6_49 rfl (by first | rfl | exact pv_shx) (by omega) (by omega) (by decide) rfl (by repeat (first | exact f4 | (apply rd_s; done) | apply rd_n (by omega) | apply rp_s | apply rp_n (by omega) | (apply rdL_s; done) | apply rdL_n (by omega) | apply rpJ_s | apply rpJ_n (by omega) | rfl)) ?_
    refine g_sipush (v := nI 206) dX6_readAsked_4 (by decide) ?_
    refine n_icmp_ne 46 dX6_readAsked_7 (by decide) (by first | ((with_reducible apply cN_eq) <;> omega) | ((with_reducible apply cI_eqn) <;> omega) | exact Iff.rfl) (fun c7 => ?_) (fun c7 => by exfalso; first | omega | exact absurd trivial c7 | exact c7 | (simp at c7))
    refine g_aload_n dX6_readAsked_46 rfl ?_
    refine g_iload_n dX6_readAsked_47 rfl ?_
    refine g_callV (su) okX6_readSum lkX6_118 rfl (by first | rfl | exact pv_shx) rfl (by omega) (by omega) dX6_readAsked_48 rfl (Nat.le_of_ble_eq_true rfl) (rm_le (by omega) (by decide)) ?_
    rintro v nx' I1 J1 P1 ⟨rfl, rfl, rfl, rfl, q1⟩
    have tk1 := q1.2.1
    have hle := q1.le
    have htl1 := tkS_le (tx := tx) (n := n) (r := bindR (rdS (tkK tx n) n (rdO (tkK tx n) srt n D)) r)
    have rl2 : rlt (bindR (rdS (tkK tx n) n (rdO (tkK tx n) srt n D)) (advR (bindR (rdS (tkK tx n) n (rdO (tkK tx n) srt n D)) r))) := rlt_bind hle (fun k => len_S (fun k => len_O D k) k)
    have co := c_isComparison (I := I1) (J := J1) (P := P1) htl1
    generalize bindR (rdS (tkK tx n) n (rdO (tkK tx n) srt n D)) r = r1 at *
    by_cases d : isCmp (tkS (tkK tx n) r1) = true
    · have dn : tkS (tkK tx n) r1 ≠ 0 := fun z => by rw [z] at d; cases d
      rw [if_pos d] at co ⊢
      have ad := c_advance (I := I1) (J := J1) (P := P1) hP hA hB.1 q1 (Or.inr dn)
      refine g_aload_n dX6_readAsked_51 rfl ?_
      refine n_getI dX6_readAsked_52 fdX6_49 rfl (by first | rfl | exact pv_shx) (by omega) (by omega) (by decide) rfl (by repeat (first | exact tk1 | (apply rd_s; done) | apply rd_n (by omega) | apply rp_s | apply rp_n (by omega) | (apply rdL_s; done) | apply rdL_n (by omega) | apply rpJ_s | apply rpJ_n (by omega) | rfl)) ?_
      refine g_istore_n dX6_readAsked_55 (by decide) rfl ?_
      refine g_iload_n dX6_readAsked_56 rfl ?_
      refine p_callS (co) okX6_isComparison lkX6_133 rfl dX6_readAsked_57 rfl (Nat.le_of_ble_eq_true rfl) (rm_le (by omega) (by decide)) ?_
      refine n_if_eq 87 dX6_readAsked_60 (by decide) (by first | (with_reducible exact cB _) | ((with_reducible apply cN_eq0) <;> omega) | exact Iff.rfl) (fun c60 => by exfalso; first | omega | exact absurd trivial c60 | exact c60 | (simp at c60)) (fun c60 => ?_)
      refine g_aload_n dX6_readAsked_63 rfl ?_
      refine g_callV (ad) okX6_advance lkX6_112 rfl (by first | rfl | exact pv_shx) rfl (by omega) (by omega) dX6_readAsked_64 rfl (Nat.le_of_ble_eq_true rfl) (rm_le (by omega) (by decide)) ?_
      rintro v nx' I2 J2 P2 ⟨rfl, rfl, rfl, rfl, q2⟩
      have s2 := hS _ _ q2
      refine g_aload_n dX6_readAsked_67 rfl ?_
      refine g_iload_n dX6_readAsked_68 rfl ?_
      refine g_callV (s2) okX6_readSum lkX6_118 rfl (by first | rfl | exact pv_shx) rfl (by omega) (by omega) dX6_readAsked_69 rfl (Nat.le_of_ble_eq_true rfl) (rm_le (by omega) (by decide)) ?_
      rintro v nx' I3 J3 P3 ⟨rfl, rfl, rfl, rfl, q3⟩
      have aa := c_add (x := 20000 + tkS (tkK tx n) r1) (J := J3) (P := P3) hP hA hB.1 q3 rl2
      refine g_aload_n dX6_readAsked_72 rfl ?_
      refine g_getP dX6_readAsked_73 fdX6_37 rfl (by first | rfl | exact pv_shx) (by omega) (by omega) (by decide) rfl (hPA) ?_
      refine g_sipush (v := nI 20000) dX6_readAsked_76 (by decide) ?_
      refine g_iload_n dX6_readAsked_79 rfl ?_
      refine n_iadd dX6_readAsked_80 (by first | (with_reducible exact nI_add _ _) | rfl) ?_
      refine g_callV (aa) okX0_add lkX6_124 rfl (s0) rfl (by omega) (by omega) dX6_readAsked_81 rfl (Nat.le_of_ble_eq_true rfl) (rm_le (by omega) (by decide)) ?_
      rintro v nx' I4 J4 P4 ⟨rfl, rfl, rfl, rfl, q4⟩
      refine g_goto 92 dX6_readAsked_84 (by decide) ?_
      exact g_vret dX6_readAsked_92 rfl (⟨rfl, rfl, rfl, rfl, q4⟩)
    · rw [if_neg d] at co ⊢
      have rf := c_refuse (f := 1) (I := I1) (J := J1) (P := P1) hP hA hB.1 q1 (by omega)
      refine g_aload_n dX6_readAsked_51 rfl ?_
      refine n_getI dX6_readAsked_52 fdX6_49 rfl (by first | rfl | exact pv_shx) (by omega) (by omega) (by decide) rfl (by repeat (first | exact tk1 | (apply rd_s; done) | apply rd_n (by omega) | apply rp_s | apply rp_n (by omega) | (apply rdL_s; done) | apply rdL_n (by omega) | apply rpJ_s | apply rpJ_n (by omega) | rfl)) ?_
      refine g_istore_n dX6_readAsked_55 (by decide) rfl ?_
      refine g_iload_n dX6_readAsked_56 rfl ?_
      refine p_callS (co) okX6_isComparison lkX6_133 rfl dX6_readAsked_57 rfl (Nat.le_of_ble_eq_true rfl) (rm_le (by omega) (by decide)) ?_
      refine n_if_eq 87 dX6_readAsked_60 (by decide) (by first | (with_reducible exact cB _) | ((with_reducible apply cN_eq0) <;> omega) | exact Iff.rfl) (fun c60 => ?_) (fun c60 => by exfalso; first | omega | exact absurd trivial c60 | exact c60 | (simp at c60))
      refine g_aload_n dX6_readAsked_87 rfl ?_
      refine g_iconst (v := nI 1) dX6_readAsked_88 (by decide) ?_
      refine g_callV (rf) okX6_refuse lkX6_98 rfl (by first | rfl | exact pv_shx) rfl (by omega) (by omega) dX6_readAsked_89 rfl (Nat.le_of_ble_eq_true rfl) (rm_le (by omega) (by decide)) ?_
      rintro v nx' I2 J2 P2 ⟨rfl, rfl, rfl, rfl, q2⟩
      exact g_vret dX6_readAsked_92 rfl (⟨rfl, rfl, rfl, rfl, q2⟩)
theorem c_asks (hP : pvOkP P) (hPA : P 144 11 = some A) (hA : aAd A) (hB : rB tx n cT srt I0) : ∀ D, D ≤ 8 → cAsk tx n cT A srt I0 J P D
  | 0, h => c_ask hP hPA hA hB h (fun D' e => absurd e (by omega))
  | D + 1, h => c_ask hP hPA hA hB h (fun D' e => by cases e; exact c_asks hP hPA hA hB D (by omega))
theorem c_ands {Z : pvZT} {mv : Int32} {i : Nat} (hP : pvOkP P) (hPA : P 144 11 = some A) (hA : aAd A) (hB : rB tx n cT srt I0) : ∀ f rc I kk, psS tx n cT A I0 rc I → kk ≤ 300 → (∀ cd k, rc = .ok (cd, k) → n ≤ k + f ∧ kk < k) → (∀ I', psS tx n cT A I0 (Zr (tkK tx n) n (rdA (tkK tx n) srt n 8) sgA rc) I' → pvG mX6_readEither (pvR 20 0 0) Z 64 [.ref 144, .int mv, .int (nI i), .retAddr 0] [] 0 0 224 I' J P) → pvG mX6_readEither (pvR 20 0 0) Z 22 [.ref 144, .int mv, .int (nI i), .int (nI kk)] [] 0 0 224 I J P := by
  obtain ⟨⟨s0, s1, s2, s3, s4⟩, h149, h194⟩ := hA.sh
  have hT : ∀ j, tkK tx n j ≠ 0 → j < n := fun j hj => tkK_lt hj
  have hO := c_asks (J := J) hP hPA hA hB 8 (Nat.le_refl _)
  have stop : ∀ rc I kk, psS tx n cT A I0 rc I → kk ≤ 300 → ¬ sgA (tkS (tkK tx n) rc) = true → (∀ I', psS tx n cT A I0 (Zr (tkK tx n) n (rdA (tkK tx n) srt n 8) sgA rc) I' → pvG mX6_readEither (pvR 20 0 0) Z 64 [.ref 144, .int mv, .int (nI i), .retAddr 0] [] 0 0 224 I' J P) → pvG mX6_readEither (pvR 20 0 0) Z 22 [.ref 144, .int mv, .int (nI i), .int (nI kk)] [] 0 0 224 I J P := by
    intro rc I kk hs hk hno K
    have htl := tkS_le (tx := tx) (n := n) (r := rc)
    have f4 := hs.2.1
    have g := K I (by rw [Zr_stop hno]; exact hs)
    have hno' : ¬ (tkS (tkK tx n) rc = 205) := fun z => hno (decide_eq_true z)
    by_cases c : kk < 300
    · skip
      refine g_iload_n dX6_readEither_22 rfl ?_
      refine g_sipush (v := nI 300) dX6_readEither_23 (by decide) ?_
      refine n_icmp_ge 64 dX6_readEither_26 (by decide) (by first | ((with_reducible apply cN_le) <;> omega) | ((with_reducible apply cI_len) <;> omega) | ((with_reducible apply cI_nle) <;> omega) | (with_reducible exact cI_le)) (fun c26 => by exfalso; first | omega | exact absurd trivial c26 | exact c26 | (simp at c26)) (fun c26 => ?_)
      refine g_aload_n dX6_readEither_29 rfl ?_
      refine n_getI dX6_readEither_30 fdX6_49 rfl (by first | rfl | exact pv_shx) (by omega) (by omega) (by decide) rfl (by repeat (first | exact f4 | (apply rd_s; done) | apply rd_n (by omega) | apply rp_s | apply rp_n (by omega) | (apply rdL_s; done) | apply rdL_n (by omega) | apply rpJ_s | apply rpJ_n (by omega) | rfl)) ?_
      refine g_sipush (v := nI 205) dX6_readEither_33 (by decide) ?_
      refine n_icmp_ne 64 dX6_readEither_36 (by decide) (by first | ((with_reducible apply cN_eq) <;> omega) | ((with_reducible apply cI_eqn) <;> omega) | exact Iff.rfl) (fun c36 => ?_) (fun c36 => by exfalso; first | omega | exact absurd trivial c36 | exact c36 | (simp at c36))
      exact g_drop _ (by repeat (first | exact trivial | refine ⟨Or.inr ⟨_, rfl⟩, ?_⟩ | refine ⟨Or.inl rfl, ?_⟩)) g
    · skip
      refine g_iload_n dX6_readEither_22 rfl ?_
      refine g_sipush (v := nI 300) dX6_readEither_23 (by decide) ?_
      refine n_icmp_ge 64 dX6_readEither_26 (by decide) (by first | ((with_reducible apply cN_le) <;> omega) | ((with_reducible apply cI_len) <;> omega) | ((with_reducible apply cI_nle) <;> omega) | (with_reducible exact cI_le)) (fun c26 => ?_) (fun c26 => by exfalso; first | omega | exact absurd trivial c26 | exact c26 | (simp at c26))
      exact g_drop _ (by repeat (first | exact trivial | refine ⟨Or.inr ⟨_, rfl⟩, ?_⟩ | refine ⟨Or.inl rfl, ?_⟩)) g
  intro f
  induction f with
  | zero =>
    intro rc I kk hs hk hc K
    refine stop rc I kk hs hk (fun z => ?_) K
    cases rc with
    | error x => cases z
    | ok v =>
      obtain ⟨cd, k⟩ := v
      have := (hc cd k rfl).1
      have e : tkK tx n k = 0 := tkK_end (by omega)
      rw [show tkS (tkK tx n) (.ok (cd, k)) = tkK tx n k from rfl, e] at z
      cases z
  | succ f ih =>
    intro rc I kk hs hk hc K
    by_cases hy : sgA (tkS (tkK tx n) rc) = true
    · have htl := tkS_le (tx := tx) (n := n) (r := rc)
      have f4 := hs.2.1
      have hy' : tkS (tkK tx n) rc = 205 := of_decide_eq_true hy
      obtain ⟨cd, k, rfl⟩ : ∃ cd k, rc = .ok (cd, k) := by
        cases rc with
        | error x => cases hy
        | ok v => exact ⟨v.1, v.2, rfl⟩
      have hk1 := hs.lt hB.1 rfl (show tkK tx n k ≠ 0 by have : tkS (tkK tx n) (.ok (cd, k)) = tkK tx n k := rfl; omega)
      have h300 := hB.1.1.2
      obtain ⟨hc1, hc2⟩ := hc cd k rfl
      have ad := c_advance (I := I) (J := J) (P := P) hP hA hB.1 hs (Or.inr (by omega))
      have rl2 : rlt (bindR (rdA (tkK tx n) srt n 8) (advR (.ok (cd, k)))) := rlt_bind hs.le (fun k => len_A 8 k)
      rw [Zr_step hT rfl gtA hy, hy'] at K
      have go : ∀ I3, psS tx n cT A I0 (addR 20205 (bindR (rdA (tkK tx n) srt n 8) (advR (.ok (cd, k))))) I3 → pvG mX6_readEither (pvR 20 0 0) Z 22 [.ref 144, .int mv, .int (nI i), .int (nI (kk + 1))] [] 0 0 224 I3 J P := fun I3 q3 => ih _ I3 (kk + 1) q3 (by omega) (fun cd' k' e => by
        cases hx : bindR (rdA (tkK tx n) srt n 8) (advR (.ok (cd, k))) with
        | error x => rw [hx] at e; cases e
        | ok v =>
          obtain ⟨cd2, k2⟩ := v
          rw [hx] at e
          cases e
          obtain ⟨cd0, k0, e0, hlt⟩ := bind_at gtA hx
          cases e0
          omega) K
      generalize ht : tkS (tkK tx n) (.ok (cd, k)) = t at *
      refine g_iload_n dX6_readEither_22 rfl ?_
      refine g_sipush (v := nI 300) dX6_readEither_23 (by decide) ?_
      refine n_icmp_ge 64 dX6_readEither_26 (by decide) (by first | ((with_reducible apply cN_le) <;> omega) | ((with_reducible apply cI_len) <;> omega) | ((with_reducible apply cI_nle) <;> omega) | (with_reducible exact cI_le)) (fun c26 => by exfalso; first | omega | exact absurd trivial c26 | exact c26 | (simp at c26)) (fun c26 => ?_)
      refine g_aload_n dX6_readEither_29 rfl ?_
      refine n_getI dX6_readEither_30 fdX6_49 rfl (by first | rfl | exact pv_shx) (by omega) (by omega) (by decide) rfl (by repeat (first | exact f4 | (apply rd_s; done) | apply rd_n (by omega) | apply rp_s | apply rp_n (by omega) | (apply rdL_s; done) | apply rdL_n (by omega) | apply rpJ_s | apply rpJ_n (by omega) | rfl)) ?_
      refine g_sipush (v := nI 205) dX6_readEither_33 (by decide) ?_
      refine n_icmp_ne 64 dX6_readEither_36 (by decide) (by first | ((with_reducible apply cN_eq) <;> omega) | ((with_reducible apply cI_eqn) <;> omega) | exact Iff.rfl) (fun c36 => by exfalso; first | omega | exact absurd trivial c36 | exact c36 | (simp at c36)) (fun c36 => ?_)
      refine g_aload_n dX6_readEither_39 rfl ?_
      refine g_callV (ad) okX6_advance lkX6_112 rfl (by first | rfl | exact pv_shx) rfl (by omega) (by omega) dX6_readEither_40 rfl (Nat.le_of_ble_eq_true rfl) (⟨by decide, by decide, by decide, by decide⟩) ?_
      rintro v nx' I1 J1 P1 ⟨rfl, rfl, rfl, rfl, q1⟩
      have su := hO _ _ q1
      refine g_aload_n dX6_readEither_43 rfl ?_
      refine g_iconst (v := nI 0) dX6_readEither_44 (by decide) ?_
      refine g_callV (su) okX6_readAsked lkX6_130 rfl (by first | rfl | exact pv_shx) rfl (by omega) (by omega) dX6_readEither_45 rfl (Nat.le_of_ble_eq_true rfl) (⟨by decide, by decide, by decide, by decide⟩) ?_
      rintro v nx' I2 J2 P2 ⟨rfl, rfl, rfl, rfl, q2⟩
      have aa := c_add (x := 20205) (J := J2) (P := P2) hP hA hB.1 q2 rl2
      refine g_aload_n dX6_readEither_48 rfl ?_
      refine g_getP dX6_readEither_49 fdX6_37 rfl (by first | rfl | exact pv_shx) (by omega) (by omega) (by decide) rfl (hPA) ?_
      refine g_sipush (v := nI 20205) dX6_readEither_52 (by decide) ?_
      refine g_callV (aa) okX0_add lkX6_124 rfl (s0) rfl (by omega) (by omega) dX6_readEither_55 rfl (Nat.le_of_ble_eq_true rfl) (⟨by decide, by decide, by decide, by decide⟩) ?_
      rintro v nx' I3 J3 P3 ⟨rfl, rfl, rfl, rfl, q3⟩
      refine g_iinc dX6_readEither_58 rfl (by first | (with_reducible exact nI_1 _) | exact nI_1 _ | exact pk_m1 _ | rfl) (by decide) rfl ?_
      refine g_goto 22 dX6_readEither_61 (by decide) ?_
      exact go _ q3
    · exact stop rc I kk hs hk hy K
theorem c_ors (hP : pvOkP P) (hPA : P 144 11 = some A) (hA : aAd A) (hB : rB tx n cT srt I0) {Q : pvQT} : ∀ f r2 I i mv, psS tx n cT A I0 r2 I → i ≤ 300 → (∀ cd k, r2 = .ok (cd, k) → n ≤ k + f ∧ i < k) → (∀ I', psS tx n cT A I0 (Zr (tkK tx n) n (rdCj (tkK tx n) srt n) sgO r2) I' → Q none 224 I' J P) → pvG mX6_readEither (pvR 20 0 0) (pvZ Q 0 0) 78 [.ref 144, .int mv, .int (nI i), .retAddr 0] [] 0 0 224 I J P := by
  obtain ⟨⟨s0, s1, s2, s3, s4⟩, h149, h194⟩ := hA.sh
  have hT : ∀ j, tkK tx n j ≠ 0 → j < n := fun j hj => tkK_lt hj
  have hO := c_asks (J := J) hP hPA hA hB 8 (Nat.le_refl _)
  have stop : ∀ r2 I i mv, psS tx n cT A I0 r2 I → i ≤ 300 → ¬ sgO (tkS (tkK tx n) r2) = true → (∀ I', psS tx n cT A I0 (Zr (tkK tx n) n (rdCj (tkK tx n) srt n) sgO r2) I' → Q none 224 I' J P) → pvG mX6_readEither (pvR 20 0 0) (pvZ Q 0 0) 78 [.ref 144, .int mv, .int (nI i), .retAddr 0] [] 0 0 224 I J P := by
    intro r2 I i mv hs hi hno K
    have htl := tkS_le (tx := tx) (n := n) (r := r2)
    have f4 := hs.2.1
    have g := K I (by rw [Zr_stop hno]; exact hs)
    have hno' : ¬ (tkS (tkK tx n) r2 = 204) := fun z => hno (decide_eq_true z)
    by_cases c : i + 1 < 300
    · skip
      refine g_aload_n dX6_readEither_78 rfl ?_
      refine n_getI dX6_readEither_79 fdX6_49 rfl (by first | rfl | exact pv_shx) (by omega) (by omega) (by decide) rfl (by repeat (first | exact f4 | (apply rd_s; done) | apply rd_n (by omega) | apply rp_s | apply rp_n (by omega) | (apply rdL_s; done) | apply rdL_n (by omega) | apply rpJ_s | apply rpJ_n (by omega) | rfl)) ?_
      refine g_sipush (v := nI 204) dX6_readEither_82 (by decide) ?_
      refine n_icmp_ne 92 dX6_readEither_85 (by decide) (by first | ((with_reducible apply cN_eq) <;> omega) | ((with_reducible apply cI_eqn) <;> omega) | exact Iff.rfl) (fun c85 => ?_) (fun c85 => by exfalso; first | omega | exact absurd trivial c85 | exact c85 | (simp at c85))
      refine g_iconst (v := nI 0) dX6_readEither_92 (by decide) ?_
      refine g_istore_n dX6_readEither_93 (by decide) rfl ?_
      refine g_iload_n dX6_readEither_94 rfl ?_
      refine n_if_eq 102 dX6_readEither_95 (by decide) (by first | (with_reducible exact cB _) | ((with_reducible apply cN_eq0) <;> omega) | exact Iff.rfl) (fun c95 => ?_) (fun c95 => by exfalso; first | omega | exact absurd trivial c95 | exact c95 | (simp at c95))
      refine g_iinc dX6_readEither_102 rfl (by first | (with_reducible exact nI_1 _) | exact nI_1 _ | exact pk_m1 _ | rfl) (by decide) rfl ?_
      refine g_goto 4 dX6_readEither_105 (by decide) ?_
      refine g_iload_n dX6_readEither_4 rfl ?_
      refine g_sipush (v := nI 300) dX6_readEither_5 (by decide) ?_
      refine n_icmp_ge 108 dX6_readEither_8 (by decide) (by first | ((with_reducible apply cN_le) <;> omega) | ((with_reducible apply cI_len) <;> omega) | ((with_reducible apply cI_nle) <;> omega) | (with_reducible exact cI_le)) (fun c8 => by exfalso; first | omega | exact absurd trivial c8 | exact c8 | (simp at c8)) (fun c8 => ?_)
      refine g_iload_n dX6_readEither_11 rfl ?_
      refine n_if_eq 108 dX6_readEither_12 (by decide) (by first | (with_reducible exact cB _) | ((with_reducible apply cN_eq0) <;> omega) | exact Iff.rfl) (fun c12 => ?_) (fun c12 => by exfalso; first | omega | exact absurd trivial c12 | exact c12 | (simp at c12))
      exact g_vret dX6_readEither_108 rfl (g)
    · skip
      refine g_aload_n dX6_readEither_78 rfl ?_
      refine n_getI dX6_readEither_79 fdX6_49 rfl (by first | rfl | exact pv_shx) (by omega) (by omega) (by decide) rfl (by repeat (first | exact f4 | (apply rd_s; done) | apply rd_n (by omega) | apply rp_s | apply rp_n (by omega) | (apply rdL_s; done) | apply rdL_n (by omega) | apply rpJ_s | apply rpJ_n (by omega) | rfl)) ?_
      refine g_sipush (v := nI 204) dX6_readEither_82 (by decide) ?_
      refine n_icmp_ne 92 dX6_readEither_85 (by decide) (by first | ((with_reducible apply cN_eq) <;> omega) | ((with_reducible apply cI_eqn) <;> omega) | exact Iff.rfl) (fun c85 => ?_) (fun c85 => by exfalso; first | omega | exact absurd trivial c85 | exact c85 | (simp at c85))
      refine g_iconst (v := nI 0) dX6_readEither_92 (by decide) ?_
      refine g_istore_n dX6_readEither_93 (by decide) rfl ?_
      refine g_iload_n dX6_readEither_94 rfl ?_
      refine n_if_eq 102 dX6_readEither_95 (by decide) (by first | (with_reducible exact cB _) | ((with_reducible apply cN_eq0) <;> omega) | exact Iff.rfl) (fun c95 => ?_) (fun c95 => by exfalso; first | omega | exact absurd trivial c95 | exact c95 | (simp at c95))
      refine g_iinc dX6_readEither_102 rfl (by first | (with_reducible exact nI_1 _) | exact nI_1 _ | exact pk_m1 _ | rfl) (by decide) rfl ?_
      refine g_goto 4 dX6_readEither_105 (by decide) ?_
      refine g_iload_n dX6_readEither_4 rfl ?_
      refine g_sipush (v := nI 300) dX6_readEither_5 (by decide) ?_
      refine n_icmp_ge 108 dX6_readEither_8 (by decide) (by first | ((with_reducible apply cN_le) <;> omega) | ((with_reducible apply cI_len) <;> omega) | ((with_reducible apply cI_nle) <;> omega) | (with_reducible exact cI_le)) (fun c8 => ?_) (fun c8 => by exfalso; first | omega | exact absurd trivial c8 | exact c8 | (simp at c8))
      exact g_vret dX6_readEither_108 rfl (g)
  intro f
  induction f with
  | zero =>
    intro r2 I i mv hs hi hc K
    refine stop r2 I i mv hs hi (fun z => ?_) K
    cases r2 with
    | error x => cases z
    | ok v =>
      obtain ⟨cd, k⟩ := v
      have := (hc cd k rfl).1
      have e : tkK tx n k = 0 := tkK_end (by omega)
      rw [show tkS (tkK tx n) (.ok (cd, k)) = tkK tx n k from rfl, e] at z
      cases z
  | succ f ih =>
    intro r2 I i mv hs hi hc K
    by_cases hy : sgO (tkS (tkK tx n) r2) = true
    · have htl := tkS_le (tx := tx) (n := n) (r := r2)
      have f4 := hs.2.1
      have hy' : tkS (tkK tx n) r2 = 204 := of_decide_eq_true hy
      obtain ⟨cd, k, rfl⟩ : ∃ cd k, r2 = .ok (cd, k) := by
        cases r2 with
        | error x => cases hy
        | ok v => exact ⟨v.1, v.2, rfl⟩
      have hk1 := hs.lt hB.1 rfl (show tkK tx n k ≠ 0 by have : tkS (tkK tx n) (.ok (cd, k)) = tkK tx n k := rfl; omega)
      have h300 := hB.1.1.2
      obtain ⟨hc1, hc2⟩ := hc cd k rfl
      have ad := c_advance (I := I) (J := J) (P := P) hP hA hB.1 hs (Or.inr (by omega))
      have rl2 : rlt (bindR (rdCj (tkK tx n) srt n) (advR (.ok (cd, k)))) := rlt_bind hs.le (fun k => len_Cj k)
      rw [Zr_step hT rfl gtCj hy, hy'] at K
      have go : ∀ I3 mv', psS tx n cT A I0 (addR 20204 (bindR (rdCj (tkK tx n) srt n) (advR (.ok (cd, k))))) I3 → pvG mX6_readEither (pvR 20 0 0) (pvZ Q 0 0) 78 [.ref 144, .int mv', .int (nI (i + 1)), .retAddr 0] [] 0 0 224 I3 J P := fun I3 mv' q3 => ih _ I3 (i + 1) mv' q3 (by omega) (fun cd' k' e => by
        cases hx : bindR (rdCj (tkK tx n) srt n) (advR (.ok (cd, k))) with
        | error x => rw [hx] at e; cases e
        | ok v =>
          obtain ⟨cd2, k2⟩ := v
          rw [hx] at e
          cases e
          obtain ⟨cd0, k0, e0, hlt⟩ := bind_at gtCj hx
          cases e0
          omega) K
      generalize ht : tkS (tkK tx n) (.ok (cd, k)) = t at *
      have mid : ∀ I1, psS tx n cT A I0 (advR (.ok (cd, k))) I1 → pvG mX6_readEither (pvR 20 0 0) (pvZ Q 0 0) 15 [.ref 144, .int (nI 1), .int (nI (i + 1)), .retAddr 0] [] 0 0 224 I1 J P := by
        intro I1 q1
        have su := hO _ _ q1
        refine g_aload_n dX6_readEither_15 rfl ?_
        refine g_iconst (v := nI 0) dX6_readEither_16 (by decide) ?_
        refine g_callV (su) okX6_readAsked lkX6_130 rfl (by first | rfl | exact pv_shx) rfl (by omega) (by omega) dX6_readEither_17 rfl (Nat.le_of_ble_eq_true rfl) (⟨by decide, by decide, by decide, by decide⟩) ?_
        rintro v nx' I2 J2 P2 ⟨rfl, rfl, rfl, rfl, q2⟩
        refine g_iconst (v := nI 0) dX6_readEither_20 (by decide) ?_
        refine g_istore_n dX6_readEither_21 (by decide) rfl ?_
        refine c_ands (mv := nI 1) (i := i + 1) hP hPA hA hB n _ I2 0 q2 (by omega) (fun cd' k' e => ⟨by omega, ?_⟩) (fun I3 q3 => ?_)
        · obtain ⟨cd0, k0, e0, hlt⟩ := bind_at gtA e
          omega
        · rw [← bind_Cj] at q3
          have aa := c_add (x := 20204) (J := J2) (P := P2) hP hA hB.1 q3 rl2
          refine g_iload_n dX6_readEither_64 rfl ?_
          refine n_if_le 78 dX6_readEither_65 (by decide) (by first | ((with_reducible apply cN_le0) <;> omega) | (with_reducible exact cI_le0)) (fun c65 => by exfalso; first | omega | exact absurd trivial c65 | exact c65 | (simp at c65)) (fun c65 => ?_)
          refine g_aload_n dX6_readEither_68 rfl ?_
          refine g_getP dX6_readEither_69 fdX6_37 rfl (by first | rfl | exact pv_shx) (by omega) (by omega) (by decide) rfl (hPA) ?_
          refine g_sipush (v := nI 20204) dX6_readEither_72 (by decide) ?_
          refine g_callV (aa) okX0_add lkX6_124 rfl (s0) rfl (by omega) (by omega) dX6_readEither_75 rfl (Nat.le_of_ble_eq_true rfl) (⟨by decide, by decide, by decide, by decide⟩) ?_
          rintro v nx' I4 J4 P4 ⟨rfl, rfl, rfl, rfl, q4⟩
          exact go _ _ q4
      refine g_aload_n dX6_readEither_78 rfl ?_
      refine n_getI dX6_readEither_79 fdX6_49 rfl (by first | rfl | exact pv_shx) (by omega) (by omega) (by decide) rfl (by repeat (first | exact f4 | (apply rd_s; done) | apply rd_n (by omega) | apply rp_s | apply rp_n (by omega) | (apply rdL_s; done) | apply rdL_n (by omega) | apply rpJ_s | apply rpJ_n (by omega) | rfl)) ?_
      refine g_sipush (v := nI 204) dX6_readEither_82 (by decide) ?_
      refine n_icmp_ne 92 dX6_readEither_85 (by decide) (by first | ((with_reducible apply cN_eq) <;> omega) | ((with_reducible apply cI_eqn) <;> omega) | exact Iff.rfl) (fun c85 => by exfalso; first | omega | exact absurd trivial c85 | exact c85 | (simp at c85)) (fun c85 => ?_)
      refine g_iconst (v := nI 1) dX6_readEither_88 (by decide) ?_
      refine g_goto 93 dX6_readEither_89 (by decide) ?_
      refine g_istore_n dX6_readEither_93 (by decide) rfl ?_
      refine g_iload_n dX6_readEither_94 rfl ?_
      refine n_if_eq 102 dX6_readEither_95 (by decide) (by first | (with_reducible exact cB _) | ((with_reducible apply cN_eq0) <;> omega) | exact Iff.rfl) (fun c95 => by exfalso; first | omega | exact absurd trivial c95 | exact c95 | (simp at c95)) (fun c95 => ?_)
      refine g_aload_n dX6_readEither_98 rfl ?_
      refine g_callV (ad) okX6_advance lkX6_112 rfl (by first | rfl | exact pv_shx) rfl (by omega) (by omega) dX6_readEither_99 rfl (Nat.le_of_ble_eq_true rfl) (⟨by decide, by decide, by decide, by decide⟩) ?_
      rintro v nx' I1 J1 P1 ⟨rfl, rfl, rfl, rfl, q1⟩
      refine g_iinc dX6_readEither_102 rfl (by first | (with_reducible exact nI_1 _) | exact nI_1 _ | exact pk_m1 _ | rfl) (by decide) rfl ?_
      refine g_goto 4 dX6_readEither_105 (by decide) ?_
      refine g_iload_n dX6_readEither_4 rfl ?_
      refine g_sipush (v := nI 300) dX6_readEither_5 (by decide) ?_
      refine n_icmp_ge 108 dX6_readEither_8 (by decide) (by first | ((with_reducible apply cN_le) <;> omega) | ((with_reducible apply cI_len) <;> omega) | ((with_reducible apply cI_nle) <;> omega) | (with_reducible exact cI_le)) (fun c8 => by exfalso; first | omega | exact absurd trivial c8 | exact c8 | (simp at c8)) (fun c8 => ?_)
      refine g_iload_n dX6_readEither_11 rfl ?_
      refine n_if_eq 108 dX6_readEither_12 (by decide) (by first | (with_reducible exact cB _) | ((with_reducible apply cN_eq0) <;> omega) | exact Iff.rfl) (fun c12 => by exfalso; first | omega | exact absurd trivial c12 | exact c12 | (simp at c12)) (fun c12 => ?_)
      exact mid _ q1
    · exact stop r2 I i mv hs hi hy K
theorem c_readEither (hP : pvOkP P) (hPA : P 144 11 = some A) (hA : aAd A) (hB : rB tx n cT srt I0) (hs : psS tx n cT A I0 r I) : pvMet mX6_readEither 20 0 0 [.ref 144] 224 I J P (pS tx n cT A I0 J P (bindR (rdE (tkK tx n) srt n) r)) := by
  have su := c_asks (J := J) hP hPA hA hB 8 (Nat.le_refl _) _ _ hs
  have h300 := hB.1.2.2.2
  rw [bind_E, bind_Cj]
  refine pvMet.of _ (by decide) rfl (Nat.le_of_ble_eq_true rfl) ?_
  refine g_iconst (v := nI 1) dX6_readEither_0 (by decide) ?_
  refine g_istore_n dX6_readEither_1 (by decide) rfl ?_
  refine g_iconst (v := nI 0) dX6_readEither_2 (by decide) ?_
  refine g_istore_n dX6_readEither_3 (by decide) rfl ?_
  refine g_iload_n dX6_readEither_4 rfl ?_
  refine g_sipush (v := nI 300) dX6_readEither_5 (by decide) ?_
  refine n_icmp_ge 108 dX6_readEither_8 (by decide) (by first | ((with_reducible apply cN_le) <;> omega) | ((with_reducible apply cI_len) <;> omega) | ((with_reducible apply cI_nle) <;> omega) | (with_reducible exact cI_le)) (fun c8 => by exfalso; first | omega | exact absurd trivial c8 | exact c8 | (simp at c8)) (fun c8 => ?_)
  refine g_iload_n dX6_readEither_11 rfl ?_
  refine n_if_eq 108 dX6_readEither_12 (by decide) (by first | (with_reducible exact cB _) | ((with_reducible apply cN_eq0) <;> omega) | exact Iff.rfl) (fun c12 => by exfalso; first | omega | exact absurd trivial c12 | exact c12 | (simp at c12)) (fun c12 => ?_)
  refine g_aload_n dX6_readEither_15 rfl ?_
  refine g_iconst (v := nI 0) dX6_readEither_16 (by decide) ?_
  refine g_callV (su) okX6_readAsked lkX6_130 rfl (by first | rfl | exact pv_shx) rfl (by omega) (by omega) dX6_readEither_17 rfl (Nat.le_of_ble_eq_true rfl) (⟨by decide, by decide, by decide, by decide⟩) ?_
  rintro v nx' I2 J2 P2 ⟨rfl, rfl, rfl, rfl, q2⟩
  refine g_iconst (v := nI 0) dX6_readEither_20 (by decide) ?_
  refine g_istore_n dX6_readEither_21 (by decide) rfl ?_
  refine c_ands (mv := nI 1) (i := 0) hP hPA hA hB n _ I2 0 q2 (by omega) (fun cd' k' e => ⟨by omega, ?_⟩) (fun I3 q3 => ?_)
  · obtain ⟨cd0, k0, e0, hlt⟩ := bind_at gtA e
    omega
  · skip
    refine g_iload_n dX6_readEither_64 rfl ?_
    refine n_if_le 78 dX6_readEither_65 (by decide) (by first | ((with_reducible apply cN_le0) <;> omega) | (with_reducible exact cI_le0)) (fun c65 => ?_) (fun c65 => by exfalso; first | omega | exact absurd trivial c65 | exact c65 | (simp at c65))
    refine c_ors hP hPA hA hB n _ I3 0 (nI 1) q3 (by omega) (fun cd' k' e => ⟨by omega, ?_⟩) (fun I' q' => ⟨rfl, rfl, rfl, rfl, q'⟩)
    rw [← bind_Cj] at e
    obtain ⟨cd0, k0, e0, hlt⟩ := bind_at gtCj e
    omega
end ASKS
