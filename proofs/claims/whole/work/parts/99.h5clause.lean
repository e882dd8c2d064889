/-! class: the reader: clauses -/
def seenN (cs : List pC) : Nat := cs.foldl (fun m c => m ||| 2 ^ c.1) 0
theorem seenN_app {cs : List pC} {c : pC} : seenN (cs ++ [c]) = seenN cs ||| 2 ^ c.1 := by unfold seenN; rw [List.foldl_append]; rfl
/-- a clause's end -/
def finR (T : Nat → Nat) (n s : Nat) (r : pR) : pR := if tkS T (addR 30000 (bindR (rdY T n s) r)) = 59 then advR (addR 30000 (bindR (rdY T n s) r)) else refR 1 (addR 30000 (bindR (rdY T n s) r))
theorem tkS_add {T : Nat → Nat} {x : Nat} {r : pR} : tkS T (addR x r) = tkS T r := by
  cases r with
  | error x => rfl
  | ok v => rfl
theorem fin_err {T : Nat → Nat} {n s : Nat} {x : Nat × Nat} : finR T n s (.error x) = .error x := by
  unfold finR
  rw [if_neg (show ¬ tkS T (addR 30000 (bindR (rdY T n s) (.error x))) = 59 from (by decide : ¬ (0 : Nat) = 59))]
  rfl
theorem fin_ok {T : Nat → Nat} {n s o k : Nat} {cd : List Nat} : finR T n s (.ok (cd, k)) = match rdB T n s o k with
    | .ok (c, k2) => .ok (cd ++ c.2.2 ++ [30000], k2)
    | .error x => .error x := by
  unfold finR
  cases hx : rdY T n s k with
  | error x =>
    have e : bindR (rdY T n s) (.ok (cd, k)) = .error x := by simp only [bindR, hx]
    have e2 : rdB T n s o k = .error x := by simp only [rdB]; rw [hx]
    rw [e, e2]
    rw [if_neg (show ¬ tkS T (addR 30000 (.error x)) = 59 from (by decide : ¬ (0 : Nat) = 59))]
    rfl
  | ok v =>
    obtain ⟨e1, k2⟩ := v
    have e : bindR (rdY T n s) (.ok (cd, k)) = .ok (cd ++ e1, k2) := by simp only [bindR, hx]
    have e2 : rdB T n s o k = if T k2 = 59 then .ok ((s, o, e1), k2 + 1) else .error (1, k2) := by simp only [rdB]; rw [hx]
    rw [e, e2]
    by_cases c : T k2 = 59
    · rw [if_pos (show tkS T (addR 30000 (.ok (cd ++ e1, k2))) = 59 from c), if_pos c]
      rfl
    · rw [if_neg (show ¬ tkS T (addR 30000 (.ok (cd ++ e1, k2))) = 59 from c), if_neg c]
      rfl
theorem rdB_c {T : Nat → Nat} {n s o k : Nat} {c : pC} {k2 : Nat} (h : rdB T n s o k = .ok (c, k2)) : c.1 = s ∧ c.2.1 = o := by
  simp only [rdB] at h
  split at h
  · split at h
    · cases h; exact ⟨rfl, rfl⟩
    · cases h
  · cases h
theorem seenN_bit {s : Nat} : ∀ cs : List pC, seenN cs / 2 ^ s % 2 = 1 ↔ seenB cs s = true := by
  apply camN_snoc
  · show 0 / 2 ^ s % 2 = 1 ↔ false = true
    rw [Nat.zero_div]; simp
  · intro cs c ih
    rw [seenN_app, bit_or, ih, seenB_app, Bool.or_eq_true, decide_eq_true_iff]
theorem seenN_lt : ∀ cs : List pC, (∀ c, c ∈ cs → c.1 ≤ 3) → seenN cs < 16 := by
  apply camN_snoc
  · intro _; decide
  · intro cs c ih h
    rw [seenN_app]
    have h1 := ih (fun x hx => h x (List.mem_append_left _ hx))
    have h2 := h c (by simp)
    have h3 : 2 ^ c.1 < 2 ^ 4 := Nat.pow_lt_pow_right (by decide) (by omega)
    exact Nat.or_lt_two_pow (n := 4) h1 h3
theorem sub_l {a b : Nat} (h : a + b < 2 ^ 31) : nI (a + b) - nI a = nI b := by
  have h1 : nI (a + b) - nI a = nI (a + b - a) := by (with_reducible apply pk_sub) <;> omega
  rw [h1, Nat.add_sub_cancel_left]
theorem lenY {T : Nat → Nat} {n s : Nat} (k : Nat) : lenL 0 (rdY T n s k) k := by
  intro e k2 h
  unfold rdY at h
  split at h
  · exact len_S (fun k => len_O 8 k) k e k2 h
  · unfold rdE at h
    cases hx : rdCj T s n k with
    | error x => rw [hx] at h; cases h
    | ok v =>
      obtain ⟨q, k1⟩ := v
      rw [hx] at h
      have h1 := len_Cj k q k1 hx
      have key : ∀ f q k, lenL q.length (rdOr T s n f q k) k := by
        intro f
        induction f with
        | zero => intro q k e2 k2 h; cases h; omega
        | succ f ih =>
          intro q k e2 k2 h
          simp only [rdOr] at h
          split at h
          · cases hy : rdCj T s n (k + 1) with
            | error x => rw [hy] at h; cases h
            | ok v =>
              obtain ⟨q2, k3⟩ := v
              rw [hy] at h
              have h2 := ih _ _ _ _ h
              have h3 := len_Cj (k + 1) q2 k3 hy
              simp only [List.length_append, List.length_singleton] at *
              omega
          · cases h; omega
      have h2 := key _ _ _ _ _ h
      omega
/-- a clause as the class keeps it -/
def clC (A : Nat) (I : pvI) (j : Nat) (c : pC) (cd : List Nat) : Prop := I (A + 1) j = nI c.1 ∧ (c.1 = 2 → I (A + 2) j = nI c.2.1) ∧ ∃ s, s + c.2.2.length < cd.length ∧ I (A + 3) j = nI s ∧ (∀ i, i < c.2.2.length → cd.getD (s + i) 0 = c.2.2.getD i 0) ∧ cd.getD (s + c.2.2.length) 0 = 30000
/-- an act as the class keeps it -/
def cAct (A : Nat) (I : pvI) (cs : List pC) (cd : List Nat) : Prop := I A 0 = nI cs.length ∧ cs.length ≤ 20 ∧ I A 1 = nI cd.length ∧ (∀ i, i < cd.length → I (A + 4) i = nI (cd.getD i 0)) ∧ (∀ j, j < cs.length → clC A I j (cs.getD j (0, 0, [])) cd) ∧ ∀ c, c ∈ cs → c.1 ≤ 3
/-- between two clauses -/
def cX (tx : Nat → Nat) (n cT A : Nat) (I : pvI) (k : Nat) (cs : List pC) (cd : List Nat) : Prop := rB0 tx n cT I ∧ (I 144 2 = nI 0 ∧ I 144 3 = -1 ∧ k ≤ cT ∧ I 144 7 = nI k ∧ I 144 8 = nI (tkK tx n k) ∧ I 144 10 = nI (seenN cs)) ∧ cd.length ≤ k ∧ cAct A I cs cd
def cBad (tx : Nat → Nat) (n f kf : Nat) (I : pvI) : Prop := (1 ≤ f ∧ f ≤ 6) ∧ I 144 2 = nI f ∧ I 144 3 = nI (tkP tx n kf) ∧ I 144 8 = nI 0
def frC (A : Nat) (I I' : pvI) : Prop := (∀ x, x ≠ 144 → (x < A ∨ A + 4 < x) → I' x = I x) ∧ (∀ j, j ∉ [2, 3, 7, 8, 9, 10] → I' 144 j = I 144 j)
def clP (tx : Nat → Nat) (n cT A : Nat) (I : pvI) (k : Nat) (cs : List pC) (cd : List Nat) (I' : pvI) : Prop := frC A I I' ∧ match rdC (tkK tx n) n cs k with
  | .ok (c, k2) => cX tx n cT A I' k2 (cs ++ [c]) (cd ++ c.2.2 ++ [30000])
  | .error (f, kf) => cBad tx n f kf I'
def clQc (tx : Nat → Nat) (n cT A : Nat) (I : pvI) (J : pvJ) (P : pvP) (k : Nat) (cs : List pC) (cd : List Nat) : pvQT := pvq P (fun v I' J' => v = none ∧ J' = J ∧ clP tx n cT A I k cs cd I')
section CLS
variable {tx : Nat → Nat} {n cT A : Nat} {I0 I I' : pvI} {J : pvJ} {P : pvP} {r : pR}
theorem rB0.mv (h : rB0 tx n cT I) (h6 : I' 144 6 = I 144 6) (h1 : I' 146 = I 146) (h2 : I' 147 = I 147) : rB0 tx n cT I' := by
  unfold rB0 at h ⊢
  rw [h6, h1, h2]; exact h
theorem c_addClause {s nc l : Nat} (hP : pvOkP P) (hA : aAd A) (h0 : I A 0 = nI nc) (hn : nc < 20) (h1 : I A 1 = nI l) : pvMet mX0_addClause 0 0 0 [.ref A, .int (nI s)] 224 I J P (pvq P (fun v I' J' => v = none ∧ J' = J ∧ I' (A + 1) = upd (I (A + 1)) nc (nI s) ∧ I' (A + 2) = upd (I (A + 2)) nc (-1) ∧ I' (A + 3) = upd (I (A + 3)) nc (nI l) ∧ I' A = upd (I A) 0 (nI (nc + 1)) ∧ ∀ x, x ≠ A → x ≠ A + 1 → x ≠ A + 2 → x ≠ A + 3 → I' x = I x)) := by
  obtain ⟨⟨s0, s1, s2, s3, s4⟩, h149, h194⟩ := hA.sh
  obtain ⟨p2, p3, p4, p5⟩ := hA.pp hP
  refine pvMet.of _ (by decide) rfl (Nat.le_of_ble_eq_true rfl) ?_
  refine g_aload_n dX0_addClause_0 rfl ?_
  refine n_getI dX0_addClause_1 fdX0_24 rfl (by first | exact s0 | exact s1 | exact s2 | exact s3) (by omega) (by omega) (by decide) rfl (by repeat (first | exact h0 | exact h1 | (apply rd_s; done) | apply rd_n (by omega) | apply rp_s | apply rp_n (by omega) | (apply rdL_s; done) | apply rdL_n (by omega) | apply rpJ_s | apply rpJ_n (by omega) | rfl)) ?_
  refine g_bipush (v := nI 20) dX0_addClause_4 (by decide) ?_
  refine n_icmp_ge 52 dX0_addClause_6 (by decide) (by first | ((with_reducible apply cN_le) <;> omega) | ((with_reducible apply cI_len) <;> omega) | ((with_reducible apply cI_nle) <;> omega) | (with_reducible exact cI_le)) (fun c6 => by exfalso; first | omega | exact absurd trivial c6 | exact c6 | (simp at c6)) (fun c6 => ?_)
  refine g_aload_n dX0_addClause_9 rfl ?_
  refine g_getP dX0_addClause_10 fdX0_11 rfl (by first | exact s0 | exact s1 | exact s2 | exact s3) (by omega) (by omega) (by decide) rfl (by first | exact p2 | exact p3 | exact p4) ?_
  refine g_aload_n dX0_addClause_13 rfl ?_
  refine n_getI dX0_addClause_14 fdX0_24 rfl (by first | exact s0 | exact s1 | exact s2 | exact s3) (by omega) (by omega) (by decide) rfl (by repeat (first | exact h0 | exact h1 | (apply rd_s; done) | apply rd_n (by omega) | apply rp_s | apply rp_n (by omega) | (apply rdL_s; done) | apply rdL_n (by omega) | apply rpJ_s | apply rpJ_n (by omega) | rfl)) ?_
  refine g_iload_n dX0_addClause_17 rfl ?_
  refine n_iast dX0_addClause_18 (by first | exact s0 | exact s1 | exact s2 | exact s3) (by omega) (by omega) (by omega) (by decide) (rfl) (by omega) (by repeat (first | exact pvu_s | exact pvuJ_s | apply pvu_in (by omega) | apply pvuJ_in (by omega) | exact pvu_pvs | exact pvuJ_pvs)) ?_
  refine g_aload_n dX0_addClause_19 rfl ?_
  refine g_getP dX0_addClause_20 fdX0_15 rfl (by first | exact s0 | exact s1 | exact s2 | exact s3) (by omega) (by omega) (by decide) rfl (by first | exact p2 | exact p3 | exact p4) ?_
  refine g_aload_n dX0_addClause_23 rfl ?_
  refine n_getI dX0_addClause_24 fdX0_24 rfl (by first | exact s0 | exact s1 | exact s2 | exact s3) (by omega) (by omega) (by decide) rfl (by repeat (first | exact h0 | exact h1 | (apply rd_s; done) | apply rd_n (by omega) | apply rp_s | apply rp_n (by omega) | (apply rdL_s; done) | apply rdL_n (by omega) | apply rpJ_s | apply rpJ_n (by omega) | rfl)) ?_
  refine g_iconst (v := (-1)) dX0_addClause_27 (by decide) ?_
  refine n_iast dX0_addClause_28 (by first | exact s0 | exact s1 | exact s2 | exact s3) (by omega) (by omega) (by omega) (by decide) (rfl) (by omega) (by repeat (first | exact pvu_s | exact pvuJ_s | apply pvu_in (by omega) | apply pvuJ_in (by omega) | exact pvu_pvs | exact pvuJ_pvs)) ?_
  refine g_aload_n dX0_addClause_29 rfl ?_
  refine g_getP dX0_addClause_30 fdX0_18 rfl (by first | exact s0 | exact s1 | exact s2 | exact s3) (by omega) (by omega) (by decide) rfl (by first | exact p2 | exact p3 | exact p4) ?_
  refine g_aload_n dX0_addClause_33 rfl ?_
  refine n_getI dX0_addClause_34 fdX0_24 rfl (by first | exact s0 | exact s1 | exact s2 | exact s3) (by omega) (by omega) (by decide) rfl (by repeat (first | exact h0 | exact h1 | (apply rd_s; done) | apply rd_n (by omega) | apply rp_s | apply rp_n (by omega) | (apply rdL_s; done) | apply rdL_n (by omega) | apply rpJ_s | apply rpJ_n (by omega) | rfl)) ?_
  refine g_aload_n dX0_addClause_37 rfl ?_
  refine n_getI dX0_addClause_38 fdX0_28 rfl (by first | exact s0 | exact s1 | exact s2 | exact s3) (by omega) (by omega) (by decide) rfl (by repeat (first | exact h0 | exact h1 | (apply rd_s; done) | apply rd_n (by omega) | apply rp_s | apply rp_n (by omega) | (apply rdL_s; done) | apply rdL_n (by omega) | apply rpJ_s | apply rpJ_n (by omega) | rfl)) ?_
  refine n_iast dX0_addClause_41 (by first | exact s0 | exact s1 | exact s2 | exact s3) (by omega) (by omega) (by omega) (by decide) (rfl) (by omega) (by repeat (first | exact pvu_s | exact pvuJ_s | apply pvu_in (by omega) | apply pvuJ_in (by omega) | exact pvu_pvs | exact pvuJ_pvs)) ?_
  refine g_aload_n dX0_addClause_42 rfl ?_
  refine g_dup dX0_addClause_43 rfl ?_
  refine n_getI dX0_addClause_44 fdX0_24 rfl (by first | exact s0 | exact s1 | exact s2 | exact s3) (by omega) (by omega) (by decide) rfl (by repeat (first | exact h0 | exact h1 | (apply rd_s; done) | apply rd_n (by omega) | apply rp_s | apply rp_n (by omega) | (apply rdL_s; done) | apply rdL_n (by omega) | apply rpJ_s | apply rpJ_n (by omega) | rfl)) ?_
  refine g_iconst (v := nI 1) dX0_addClause_47 (by decide) ?_
  refine n_iadd dX0_addClause_48 (by first | (with_reducible exact nI_add _ _) | rfl) ?_
  refine n_putI dX0_addClause_49 fdX0_24 rfl (fun h => absurd h (by decide)) (by first | exact s0 | exact s1 | exact s2 | exact s3) (by omega) (by omega) (by decide) rfl (by repeat (first | exact pvu_s | exact pvuJ_s | apply pvu_in (by omega) | apply pvuJ_in (by omega) | exact pvu_pvs | exact pvuJ_pvs)) ?_
  exact g_vret dX0_addClause_52 rfl (⟨rfl, rfl, rfl, rfl, by simp [pvs], by simp [pvs], by simp [pvs], by simp [pvs], fun x z1 z2 z3 z4 => by simp [pvs, z1, z2, z3, z4]⟩)
theorem c_setOwner {nc : Nat} {v : Int32} (hP : pvOkP P) (hA : aAd A) (h0 : I A 0 = nI (nc + 1)) (hn : nc < 20) : pvMet mX0_setOwner 0 0 0 [.ref A, .int v] 224 I J P (pvq P (fun w I' J' => w = none ∧ J' = J ∧ I' = pvs I (A + 2) (upd (I (A + 2)) nc v))) := by
  obtain ⟨⟨s0, s1, s2, s3, s4⟩, h149, h194⟩ := hA.sh
  obtain ⟨p2, p3, p4, p5⟩ := hA.pp hP
  have e : nI (nc + 1) - nI 1 = nI nc := by rw [Nat.add_comm]; exact sub_l (by omega)
  refine pvMet.of _ (by decide) rfl (Nat.le_of_ble_eq_true rfl) ?_
  refine g_aload_n dX0_setOwner_0 rfl ?_
  refine n_getI dX0_setOwner_1 fdX0_24 rfl (by first | exact s0 | exact s2) (by omega) (by omega) (by decide) rfl (by repeat (first | exact h0 | (apply rd_s; done) | apply rd_n (by omega) | apply rp_s | apply rp_n (by omega) | (apply rdL_s; done) | apply rdL_n (by omega) | apply rpJ_s | apply rpJ_n (by omega) | rfl)) ?_
  refine n_if_le 19 dX0_setOwner_4 (by decide) (by first | ((with_reducible apply cN_le0) <;> omega) | (with_reducible exact cI_le0)) (fun c4 => by exfalso; first | omega | exact absurd trivial c4 | exact c4 | (simp at c4)) (fun c4 => ?_)
  refine g_aload_n dX0_setOwner_7 rfl ?_
  refine g_getP dX0_setOwner_8 fdX0_15 rfl (by first | exact s0 | exact s2) (by omega) (by omega) (by decide) rfl (p3) ?_
  refine g_aload_n dX0_setOwner_11 rfl ?_
  refine n_getI dX0_setOwner_12 fdX0_24 rfl (by first | exact s0 | exact s2) (by omega) (by omega) (by decide) rfl (by repeat (first | exact h0 | (apply rd_s; done) | apply rd_n (by omega) | apply rp_s | apply rp_n (by omega) | (apply rdL_s; done) | apply rdL_n (by omega) | apply rpJ_s | apply rpJ_n (by omega) | rfl)) ?_
  refine g_iconst (v := nI 1) dX0_setOwner_15 (by decide) ?_
  refine n_isub dX0_setOwner_16 (e) ?_
  refine g_iload_n dX0_setOwner_17 rfl ?_
  refine n_iast dX0_setOwner_18 (by first | exact s0 | exact s2) (by omega) (by omega) (by omega) (by decide) (rfl) (by omega) (by repeat (first | exact pvu_s | exact pvuJ_s | apply pvu_in (by omega) | apply pvuJ_in (by omega) | exact pvu_pvs | exact pvuJ_pvs)) ?_
  exact g_vret dX0_setOwner_19 rfl (⟨rfl, rfl, rfl, rfl, rfl⟩)
theorem c_readOwner {nc k : Nat} {cd : List Nat} (hP : pvOkP P) (hPA : P 144 11 = some A) (hA : aAd A) (hB : rB0 tx n cT I0) (hs : psS tx n cT A I0 (.ok (cd, k)) I) (h0 : I0 A 0 = nI (nc + 1)) (hn : nc < 20) : pvMet mX6_readOwner 1 0 0 [.ref 144] 224 I J P (pvq P (fun v I' J' => v = none ∧ J' = J ∧ if tkK tx n k < 1000 then psS tx n cT A I0 (.error (1, k)) I' else if 1009 < tkK tx n k then psS tx n cT A I0 (.error (2, k)) I' else psS tx n cT A (pvs I0 (A + 2) (upd (I0 (A + 2)) nc (nI (tkK tx n k - 1000)))) (.ok (cd, k + 1)) I')) := by
  obtain ⟨⟨s0, s1, s2, s3, s4⟩, h149, h194⟩ := hA.sh
  have f8 : I 144 8 = nI (tkK tx n k) := hs.2.1
  have ht : tkK tx n k ≤ 11000 := tkT_le
  by_cases c1 : tkK tx n k < 1000
  · have rf := c_refuse (f := 1) (I := I) (J := J) (P := P) hP hA hB hs (by omega)
    refine pvMet.of _ (by decide) rfl (Nat.le_of_ble_eq_true rfl) ?_
    refine g_aload_n dX6_readOwner_0 rfl ?_
    refine n_getI dX6_readOwner_1 fdX6_49 rfl (by first | rfl | exact pv_shx) (by omega) (by omega) (by decide) rfl (by repeat (first | exact f8 | (apply rd_s; done) | apply rd_n (by omega) | apply rp_s | apply rp_n (by omega) | (apply rdL_s; done) | apply rdL_n (by omega) | apply rpJ_s | apply rpJ_n (by omega) | rfl)) ?_
    refine g_sipush (v := nI 1000) dX6_readOwner_4 (by decide) ?_
    refine n_isub dX6_readOwner_7 (rfl) ?_
    refine g_istore_n dX6_readOwner_8 (by decide) rfl ?_
    refine g_iload_n dX6_readOwner_9 rfl ?_
    refine n_if_ge 21 dX6_readOwner_10 (by decide) (cI_ge0.trans (by rw [pk_sub_toInt (by omega) (by omega)])) (fun c10 => by exfalso; first | omega | exact absurd trivial c10 | exact c10 | (simp at c10)) (fun c10 => ?_)
    refine g_aload_n dX6_readOwner_13 rfl ?_
    refine g_iconst (v := nI 1) dX6_readOwner_14 (by decide) ?_
    refine g_callV (rf) okX6_refuse lkX6_98 rfl (by first | rfl | exact pv_shx) rfl (by omega) (by omega) dX6_readOwner_15 rfl (Nat.le_of_ble_eq_true rfl) (⟨by decide, by decide, by decide, by decide⟩) ?_
    rintro v nx' I1 J1 P1 ⟨rfl, rfl, rfl, rfl, q1⟩
    refine g_goto 47 dX6_readOwner_18 (by decide) ?_
    exact g_vret dX6_readOwner_47 rfl (⟨rfl, rfl, rfl, rfl, by rw [if_pos c1]; exact q1⟩)
  · skip
    by_cases c2 : 1009 < tkK tx n k
    · have rf := c_refuse (f := 2) (I := I) (J := J) (P := P) hP hA hB hs (by omega)
      refine pvMet.of _ (by decide) rfl (Nat.le_of_ble_eq_true rfl) ?_
      refine g_aload_n dX6_readOwner_0 rfl ?_
      refine n_getI dX6_readOwner_1 fdX6_49 rfl (by first | rfl | exact pv_shx) (by omega) (by omega) (by decide) rfl (by repeat (first | exact f8 | (apply rd_s; done) | apply rd_n (by omega) | apply rp_s | apply rp_n (by omega) | (apply rdL_s; done) | apply rdL_n (by omega) | apply rpJ_s | apply rpJ_n (by omega) | rfl)) ?_
      refine g_sipush (v := nI 1000) dX6_readOwner_4 (by decide) ?_
      refine n_isub dX6_readOwner_7 (by first | ((with_reducible apply pk_sub) <;> omega) | rfl) ?_
      refine g_istore_n dX6_readOwner_8 (by decide) rfl ?_
      refine g_iload_n dX6_readOwner_9 rfl ?_
      refine n_if_ge 21 dX6_readOwner_10 (by decide) (by first | ((with_reducible apply cN_ge0) <;> omega) | (with_reducible exact cI_ge0)) (fun c10 => ?_) (fun c10 => by exfalso; first | omega | exact absurd trivial c10 | exact c10 | (simp at c10))
      refine g_iload_n dX6_readOwner_21 rfl ?_
      refine g_bipush (v := nI 9) dX6_readOwner_22 (by decide) ?_
      refine n_icmp_le 35 dX6_readOwner_24 (by decide) (by first | ((with_reducible apply cN_le) <;> omega) | ((with_reducible apply cI_len) <;> omega) | ((with_reducible apply cI_nle) <;> omega) | (with_reducible exact cI_le)) (fun c24 => by exfalso; first | omega | exact absurd trivial c24 | exact c24 | (simp at c24)) (fun c24 => ?_)
      refine g_aload_n dX6_readOwner_27 rfl ?_
      refine g_iconst (v := nI 2) dX6_readOwner_28 (by decide) ?_
      refine g_callV (rf) okX6_refuse lkX6_98 rfl (by first | rfl | exact pv_shx) rfl (by omega) (by omega) dX6_readOwner_29 rfl (Nat.le_of_ble_eq_true rfl) (⟨by decide, by decide, by decide, by decide⟩) ?_
      rintro v nx' I1 J1 P1 ⟨rfl, rfl, rfl, rfl, q1⟩
      refine g_goto 47 dX6_readOwner_32 (by decide) ?_
      exact g_vret dX6_readOwner_47 rfl (⟨rfl, rfl, rfl, rfl, by rw [if_neg c1, if_pos c2]; exact q1⟩)
    · skip
      have ho : I A 0 = nI (nc + 1) := by rw [hs.1.2.2 0 (by decide)]; exact h0
      have so := c_setOwner (v := nI (tkK tx n k - 1000)) (I := I) (J := J) (P := P) hP hA ho hn
      obtain ⟨⟨f1, f2, f3⟩, -, g1, g2, g3, g4, g5, g6, g7⟩ := id hs
      have e2 : I (A + 2) = I0 (A + 2) := f1 _ (by omega) (by omega) (by omega)
      have hB' : rB0 tx n cT (pvs I0 (A + 2) (upd (I0 (A + 2)) nc (nI (tkK tx n k - 1000)))) := hB.mv (by rw [pvs_ne (by omega)]) (by rw [pvs_ne (by omega)]) (by rw [pvs_ne (by omega)])
      have hs2 : psS tx n cT A (pvs I0 (A + 2) (upd (I0 (A + 2)) nc (nI (tkK tx n k - 1000)))) (.ok (cd, k)) (pvs I (A + 2) (upd (I (A + 2)) nc (nI (tkK tx n k - 1000)))) := by
        refine ⟨⟨fun x z1 z2 z3 => ?_, fun j z1 z2 z3 z4 => ?_, fun j hj => ?_⟩, ?_, ?_, ?_, g3, ?_, ?_, g6, fun i hi => ?_⟩
        · by_cases e : x = A + 2
          · subst e; rw [pvs_eq, pvs_eq, e2]
          · rw [pvs_ne e, pvs_ne e]; exact f1 x z1 z2 z3
        · rw [pvs_ne (by omega), pvs_ne (by omega)]; exact f2 j z1 z2 z3 z4
        · rw [pvs_ne (by omega), pvs_ne (by omega)]; exact f3 j hj
        · rw [pvs_ne (by omega)]; exact f8
        · rw [pvs_ne (by omega)]; exact g1
        · rw [pvs_ne (by omega)]; exact g2
        · rw [pvs_ne (by omega)]; exact g4
        · rw [pvs_ne (by omega)]; exact g5
        · rw [pvs_ne (by omega)]; exact g7 i hi
      have ad := c_advance (J := J) (P := P) hP hA hB' hs2 (Or.inr (show tkK tx n k ≠ 0 by omega))
      refine pvMet.of _ (by decide) rfl (Nat.le_of_ble_eq_true rfl) ?_
      refine g_aload_n dX6_readOwner_0 rfl ?_
      refine n_getI dX6_readOwner_1 fdX6_49 rfl (by first | rfl | exact pv_shx) (by omega) (by omega) (by decide) rfl (by repeat (first | exact f8 | (apply rd_s; done) | apply rd_n (by omega) | apply rp_s | apply rp_n (by omega) | (apply rdL_s; done) | apply rdL_n (by omega) | apply rpJ_s | apply rpJ_n (by omega) | rfl)) ?_
      refine g_sipush (v := nI 1000) dX6_readOwner_4 (by decide) ?_
      refine n_isub dX6_readOwner_7 (by first | ((with_reducible apply pk_sub) <;> omega) | rfl) ?_
      refine g_istore_n dX6_readOwner_8 (by decide) rfl ?_
      refine g_iload_n dX6_readOwner_9 rfl ?_
      refine n_if_ge 21 dX6_readOwner_10 (by decide) (by first | ((with_reducible apply cN_ge0) <;> omega) | (with_reducible exact cI_ge0)) (fun c10 => ?_) (fun c10 => by exfalso; first | omega | exact absurd trivial c10 | exact c10 | (simp at c10))
      refine g_iload_n dX6_readOwner_21 rfl ?_
      refine g_bipush (v := nI 9) dX6_readOwner_22 (by decide) ?_
      refine n_icmp_le 35 dX6_readOwner_24 (by decide) (by first | ((with_reducible apply cN_le) <;> omega) | ((with_reducible apply cI_len) <;> omega) | ((with_reducible apply cI_nle) <;> omega) | (with_reducible exact cI_le)) (fun c24 => ?_) (fun c24 => by exfalso; first | omega | exact absurd trivial c24 | exact c24 | (simp at c24))
      refine g_aload_n dX6_readOwner_35 rfl ?_
      refine g_getP dX6_readOwner_36 fdX6_37 rfl (by first | rfl | exact pv_shx) (by omega) (by omega) (by decide) rfl (hPA) ?_
      refine g_iload_n dX6_readOwner_39 rfl ?_
      refine g_callV (so) okX0_setOwner lkX6_127 rfl (s0) rfl (by omega) (by omega) dX6_readOwner_40 rfl (Nat.le_of_ble_eq_true rfl) (⟨by decide, by decide, by decide, by decide⟩) ?_
      rintro v nx' I1 J1 P1 ⟨rfl, rfl, rfl, rfl, rfl⟩
      refine g_aload_n dX6_readOwner_43 rfl ?_
      refine g_callV (ad) okX6_advance lkX6_112 rfl (by first | rfl | exact pv_shx) rfl (by omega) (by omega) dX6_readOwner_44 rfl (Nat.le_of_ble_eq_true rfl) (⟨by decide, by decide, by decide, by decide⟩) ?_
      rintro v nx' I1 J1 P1 ⟨rfl, rfl, rfl, rfl, q1⟩
      exact g_vret dX6_readOwner_47 rfl (⟨rfl, rfl, rfl, rfl, by rw [if_neg c1, if_neg c2]; exact q1⟩)
theorem cl_tail {s : Nat} {Q : pvQT} (hP : pvOkP P) (hPA : P 144 11 = some A) (hA : aAd A) (hB : rB tx n cT s I0) (hs : psS tx n cT A I0 r I) (hl : rlt (bindR (rdY (tkK tx n) n s) r)) (K : ∀ I', psS tx n cT A I0 (finR (tkK tx n) n s r) I' → Q none 224 I' J P) : pvG mX6_readClause (pvR 21 0 0) (pvZ Q 0 0) 128 [.ref 144] [] 0 0 224 I J P := by
  obtain ⟨⟨s0, s1, s2, s3, s4⟩, h149, h194⟩ := hA.sh
  have f9 : I 144 9 = nI s := by rw [hs.1.2.1 9 (by decide) (by decide) (by decide) (by decide)]; exact hB.2.1
  have hs3 := hB.2.2
  by_cases c : s = 1
  · have su := (c_oneSum (J := J) hP hPA hA hB 8 (Nat.le_refl _)).2 _ _ hs
    have eY : bindR (rdY (tkK tx n) n s) r = bindR (rdS (tkK tx n) n (rdO (tkK tx n) s n 8)) r := by rw [c]; exact bind_Y1
    rw [← eY] at su
    refine g_aload_n dX6_readClause_128 rfl ?_
    refine n_getI dX6_readClause_129 fdX6_95 rfl (by first | rfl | exact pv_shx) (by omega) (by omega) (by decide) rfl (by repeat (first | exact f9 | (apply rd_s; done) | apply rd_n (by omega) | apply rp_s | apply rp_n (by omega) | (apply rdL_s; done) | apply rdL_n (by omega) | apply rpJ_s | apply rpJ_n (by omega) | rfl)) ?_
    refine g_iconst (v := nI 1) dX6_readClause_132 (by decide) ?_
    refine n_icmp_ne 144 dX6_readClause_133 (by decide) (by first | ((with_reducible apply cN_eq) <;> omega) | ((with_reducible apply cI_eqn) <;> omega) | exact Iff.rfl) (fun c133 => by exfalso; first | omega | exact absurd trivial c133 | exact c133 | (simp at c133)) (fun c133 => ?_)
    refine g_aload_n dX6_readClause_136 rfl ?_
    refine g_iconst (v := nI 0) dX6_readClause_137 (by decide) ?_
    refine g_callV (su) okX6_readSum lkX6_118 rfl (by first | rfl | exact pv_shx) rfl (by omega) (by omega) dX6_readClause_138 rfl (Nat.le_of_ble_eq_true rfl) (⟨by decide, by decide, by decide, by decide⟩) ?_
    rintro v nx' I1 J1 P1 ⟨rfl, rfl, rfl, rfl, q1⟩
    refine g_goto 148 dX6_readClause_141 (by decide) ?_
    have rl := hl
    have aa := c_add (x := 30000) (J := J1) (P := P1) hP hA hB.1 q1 rl
    refine g_aload_n dX6_readClause_148 rfl ?_
    refine g_getP dX6_readClause_149 fdX6_37 rfl (by first | rfl | exact pv_shx) (by omega) (by omega) (by decide) rfl (hPA) ?_
    refine g_sipush (v := nI 30000) dX6_readClause_152 (by decide) ?_
    refine g_callV (aa) okX0_add lkX6_124 rfl (s0) rfl (by omega) (by omega) dX6_readClause_155 rfl (Nat.le_of_ble_eq_true rfl) (⟨by decide, by decide, by decide, by decide⟩) ?_
    rintro v nx' I2 J2 P2 ⟨rfl, rfl, rfl, rfl, q2⟩
    have f8 := q2.2.1
    have htl := tkS_le (tx := tx) (n := n) (r := addR 30000 (bindR (rdY (tkK tx n) n s) r))
    by_cases d : tkS (tkK tx n) (addR 30000 (bindR (rdY (tkK tx n) n s) r)) = 59
    · have ad := c_advance (J := J2) (P := P2) hP hA hB.1 q2 (Or.inr (by omega))
      have hf : finR (tkK tx n) n s r = advR (addR 30000 (bindR (rdY (tkK tx n) n s) r)) := by unfold finR; rw [if_pos d]
      rw [hf] at K
      refine g_aload_n dX6_readClause_158 rfl ?_
      refine n_getI dX6_readClause_159 fdX6_49 rfl (by first | rfl | exact pv_shx) (by omega) (by omega) (by decide) rfl (by repeat (first | exact f8 | (apply rd_s; done) | apply rd_n (by omega) | apply rp_s | apply rp_n (by omega) | (apply rdL_s; done) | apply rdL_n (by omega) | apply rpJ_s | apply rpJ_n (by omega) | rfl)) ?_
      refine g_bipush (v := nI 59) dX6_readClause_162 (by decide) ?_
      refine n_icmp_ne 174 dX6_readClause_164 (by decide) (by first | ((with_reducible apply cN_eq) <;> omega) | ((with_reducible apply cI_eqn) <;> omega) | exact Iff.rfl) (fun c164 => by exfalso; first | omega | exact absurd trivial c164 | exact c164 | (simp at c164)) (fun c164 => ?_)
      refine g_aload_n dX6_readClause_167 rfl ?_
      refine g_callV (ad) okX6_advance lkX6_112 rfl (by first | rfl | exact pv_shx) rfl (by omega) (by omega) dX6_readClause_168 rfl (Nat.le_of_ble_eq_true rfl) (⟨by decide, by decide, by decide, by decide⟩) ?_
      rintro v nx' I3 J3 P3 ⟨rfl, rfl, rfl, rfl, q3⟩
      refine g_goto 179 dX6_readClause_171 (by decide) ?_
      exact g_vret dX6_readClause_179 rfl (K _ q3)
    · have rf := c_refuse (f := 1) (J := J2) (P := P2) hP hA hB.1 q2 (by omega)
      have hf : finR (tkK tx n) n s r = refR 1 (addR 30000 (bindR (rdY (tkK tx n) n s) r)) := by unfold finR; rw [if_neg d]
      rw [hf] at K
      refine g_aload_n dX6_readClause_158 rfl ?_
      refine n_getI dX6_readClause_159 fdX6_49 rfl (by first | rfl | exact pv_shx) (by omega) (by omega) (by decide) rfl (by repeat (first | exact f8 | (apply rd_s; done) | apply rd_n (by omega) | apply rp_s | apply rp_n (by omega) | (apply rdL_s; done) | apply rdL_n (by omega) | apply rpJ_s | apply rpJ_n (by omega) | rfl)) ?_
      refine g_bipush (v := nI 59) dX6_readClause_162 (by decide) ?_
      refine n_icmp_ne 174 dX6_readClause_164 (by decide) (by first | ((with_reducible apply cN_eq) <;> omega) | ((with_reducible apply cI_eqn) <;> omega) | exact Iff.rfl) (fun c164 => ?_) (fun c164 => by exfalso; first | omega | exact absurd trivial c164 | exact c164 | (simp at c164))
      refine g_aload_n dX6_readClause_174 rfl ?_
      refine g_iconst (v := nI 1) dX6_readClause_175 (by decide) ?_
      refine g_callV (rf) okX6_refuse lkX6_98 rfl (by first | rfl | exact pv_shx) rfl (by omega) (by omega) dX6_readClause_176 rfl (Nat.le_of_ble_eq_true rfl) (⟨by decide, by decide, by decide, by decide⟩) ?_
      rintro v nx' I3 J3 P3 ⟨rfl, rfl, rfl, rfl, q3⟩
      exact g_vret dX6_readClause_179 rfl (K _ q3)
  · have su := c_readEither (J := J) hP hPA hA hB hs
    rw [← bind_Y c] at su
    refine g_aload_n dX6_readClause_128 rfl ?_
    refine n_getI dX6_readClause_129 fdX6_95 rfl (by first | rfl | exact pv_shx) (by omega) (by omega) (by decide) rfl (by repeat (first | exact f9 | (apply rd_s; done) | apply rd_n (by omega) | apply rp_s | apply rp_n (by omega) | (apply rdL_s; done) | apply rdL_n (by omega) | apply rpJ_s | apply rpJ_n (by omega) | rfl)) ?_
    refine g_iconst (v := nI 1) dX6_readClause_132 (by decide) ?_
    refine n_icmp_ne 144 dX6_readClause_133 (by decide) (by first | ((with_reducible apply cN_eq) <;> omega) | ((with_reducible apply cI_eqn) <;> omega) | exact Iff.rfl) (fun c133 => ?_) (fun c133 => by exfalso; first | omega | exact absurd trivial c133 | exact c133 | (simp at c133))
    refine g_aload_n dX6_readClause_144 rfl ?_
    refine g_callV (su) okX6_readEither lkX6_121 rfl (by first | rfl | exact pv_shx) rfl (by omega) (by omega) dX6_readClause_145 rfl (Nat.le_of_ble_eq_true rfl) (⟨by decide, by decide, by decide, by decide⟩) ?_
    rintro v nx' I1 J1 P1 ⟨rfl, rfl, rfl, rfl, q1⟩
    have rl := hl
    have aa := c_add (x := 30000) (J := J1) (P := P1) hP hA hB.1 q1 rl
    refine g_aload_n dX6_readClause_148 rfl ?_
    refine g_getP dX6_readClause_149 fdX6_37 rfl (by first | rfl | exact pv_shx) (by omega) (by omega) (by decide) rfl (hPA) ?_
    refine g_sipush (v := nI 30000) dX6_readClause_152 (by decide) ?_
    refine g_callV (aa) okX0_add lkX6_124 rfl (s0) rfl (by omega) (by omega) dX6_readClause_155 rfl (Nat.le_of_ble_eq_true rfl) (⟨by decide, by decide, by decide, by decide⟩) ?_
    rintro v nx' I2 J2 P2 ⟨rfl, rfl, rfl, rfl, q2⟩
    have f8 := q2.2.1
    have htl := tkS_le (tx := tx) (n := n) (r := addR 30000 (bindR (rdY (tkK tx n) n s) r))
    by_cases d : tkS (tkK tx n) (addR 30000 (bindR (rdY (tkK tx n) n s) r)) = 59
    · have ad := c_advance (J := J2) (P := P2) hP hA hB.1 q2 (Or.inr (by omega))
      have hf : finR (tkK tx n) n s r = advR (addR 30000 (bindR (rdY (tkK tx n) n s) r)) := by unfold finR; rw [if_pos d]
      rw [hf] at K
      refine g_aload_n dX6_readClause_158 rfl ?_
      refine n_getI dX6_readClause_159 fdX6_49 rfl (by first | rfl | exact pv_shx) (by omega) (by omega) (by decide) rfl (by repeat (first | exact f8 | (apply rd_s; done) | apply rd_n (by omega) | apply rp_s | apply rp_n (by omega) | (apply rdL_s; done) | apply rdL_n (by omega) | apply rpJ_s | apply rpJ_n (by omega) | rfl)) ?_
      refine g_bipush (v := nI 59) dX6_readClause_162 (by decide) ?_
      refine n_icmp_ne 174 dX6_readClause_164 (by decide) (by first | ((with_reducible apply cN_eq) <;> omega) | ((with_reducible apply cI_eqn) <;> omega) | exact Iff.rfl) (fun c164 => by exfalso; first | omega | exact absurd trivial c164 | exact c164 | (simp at c164)) (fun c164 => ?_)
      refine g_aload_n dX6_readClause_167 rfl ?_
      refine g_callV (ad) okX6_advance lkX6_112 rfl (by first | rfl | exact pv_shx) rfl (by omega) (by omega) dX6_readClause_168 rfl (Nat.le_of_ble_eq_true rfl) (⟨by decide, by decide, by decide, by decide⟩) ?_
      rintro v nx' I3 J3 P3 ⟨rfl, rfl, rfl, rfl, q3⟩
      refine g_goto 179 dX6_readClause_171 (by decide) ?_
      exact g_vret dX6_readClause_179 rfl (K _ q3)
    · have rf := c_refuse (f := 1) (J := J2) (P := P2) hP hA hB.1 q2 (by omega)
      have hf : finR (tkK tx n) n s r = refR 1 (addR 30000 (bindR (rdY (tkK tx n) n s) r)) := by unfold finR; rw [if_neg d]
      rw [hf] at K
      refine g_aload_n dX6_readClause_158 rfl ?_
      refine n_getI dX6_readClause_159 fdX6_49 rfl (by first | rfl | exact pv_shx) (by omega) (by omega) (by decide) rfl (by repeat (first | exact f8 | (apply rd_s; done) | apply rd_n (by omega) | apply rp_s | apply rp_n (by omega) | (apply rdL_s; done) | apply rdL_n (by omega) | apply rpJ_s | apply rpJ_n (by omega) | rfl)) ?_
      refine g_bipush (v := nI 59) dX6_readClause_162 (by decide) ?_
      refine n_icmp_ne 174 dX6_readClause_164 (by decide) (by first | ((with_reducible apply cN_eq) <;> omega) | ((with_reducible apply cI_eqn) <;> omega) | exact Iff.rfl) (fun c164 => ?_) (fun c164 => by exfalso; first | omega | exact absurd trivial c164 | exact c164 | (simp at c164))
      refine g_aload_n dX6_readClause_174 rfl ?_
      refine g_iconst (v := nI 1) dX6_readClause_175 (by decide) ?_
      refine g_callV (rf) okX6_refuse lkX6_98 rfl (by first | rfl | exact pv_shx) rfl (by omega) (by omega) dX6_readClause_176 rfl (Nat.le_of_ble_eq_true rfl) (⟨by decide, by decide, by decide, by decide⟩) ?_
      rintro v nx' I3 J3 P3 ⟨rfl, rfl, rfl, rfl, q3⟩
      exact g_vret dX6_readClause_179 rfl (K _ q3)
theorem cX.ps {k : Nat} {cs : List pC} {cd : List Nat} (hX : cX tx n cT A I k cs cd) (h2 : I' 144 2 = I 144 2) (h3 : I' 144 3 = I 144 3) (h7 : I' 144 7 = I 144 7) (h8 : I' 144 8 = I 144 8) (h1 : I' A 1 = I A 1) (h4 : I' (A + 4) = I (A + 4)) : psS tx n cT A I' (.ok (cd, k)) I' := by
  obtain ⟨x0, ⟨x1, x2, x3, x4, x5, x6⟩, x7, y0, y1, y2, y3, y4⟩ := hX
  exact ⟨⟨fun _ _ _ _ => rfl, fun _ _ _ _ _ => rfl, fun _ _ => rfl⟩, h8.trans x5, h2.trans x1, h3.trans x2, x3, h7.trans x4, h1.trans y2, x7, fun i hi => by rw [h4]; exact y3 i hi⟩
theorem clC.ext {j : Nat} {c : pC} {cd e : List Nat} (h : clC A I j c cd) (h1 : I' (A + 1) j = I (A + 1) j) (h2 : I' (A + 2) j = I (A + 2) j) (h3 : I' (A + 3) j = I (A + 3) j) : clC A I' j c (cd ++ e) := by
  obtain ⟨c1, c2, s, c3, c4, c5, c6⟩ := h
  exact ⟨h1.trans c1, fun z => h2.trans (c2 z), s, by rw [List.length_append]; omega, h3.trans c4, fun i hi => by rw [gdL (by omega)]; exact c5 i hi, by rw [gdL (by omega)]; exact c6⟩
/-- a base of a clause -/
def cBase (A : Nat) (I : pvI) (s o : Nat) (cs : List pC) (cd : List Nat) (Ib : pvI) : Prop := (∀ x, x ≠ 144 → (x < A ∨ A + 4 < x) → Ib x = I x) ∧ (∀ j, j ≠ 9 → j ≠ 10 → Ib 144 j = I 144 j) ∧ Ib 144 10 = nI (seenN cs ||| 2 ^ s) ∧ Ib A 0 = nI (cs.length + 1) ∧ (∀ j, j < cs.length → Ib (A + 1) j = I (A + 1) j ∧ Ib (A + 2) j = I (A + 2) j ∧ Ib (A + 3) j = I (A + 3) j) ∧ Ib (A + 1) cs.length = nI s ∧ (s = 2 → Ib (A + 2) cs.length = nI o) ∧ Ib (A + 3) cs.length = nI cd.length
theorem cl_fin {s o k k' : Nat} {cs : List pC} {cd : List Nat} {Ib : pvI} (hA : aAd A) (hX : cX tx n cT A I k cs cd) (hcs : cs.length < 20) (hs : s ≤ 3) (hb : cBase A I s o cs cd Ib) (q : psS tx n cT A Ib (finR (tkK tx n) n s (.ok (cd, k'))) I') : frC A I I' ∧ match rdB (tkK tx n) n s o k' with
    | .ok (c, k2) => cX tx n cT A I' k2 (cs ++ [c]) (cd ++ c.2.2 ++ [30000])
    | .error (f, kf) => cBad tx n f kf I' := by
  obtain ⟨-, h149, h194⟩ := hA.sh
  obtain ⟨x0, ⟨x1, x2, x3, x4, x5, x6⟩, x7, y0, y1, y2, y3, y4, y5⟩ := hX
  obtain ⟨b1, b2, b3, b4, b5, b6, b7, b8⟩ := hb
  rw [fin_ok (o := o)] at q
  obtain ⟨⟨f1, f2, f3⟩, f4, g⟩ := q
  refine ⟨⟨fun x z1 z2 => (f1 x z1 (by omega) (by omega)).trans (b1 x z1 z2), fun j hj => ?_⟩, ?_⟩
  · simp at hj
    exact (f2 j (by omega) (by omega) (by omega) (by omega)).trans (b2 j (by omega) (by omega))
  · cases hr : rdB (tkK tx n) n s o k' with
    | error v =>
      obtain ⟨f, kf⟩ := v
      rw [hr] at g f4
      obtain ⟨g1, g2, g3, g4, -⟩ := g
      exact ⟨⟨g1, g2⟩, g3, g4, f4⟩
    | ok v =>
      obtain ⟨c, k2⟩ := v
      rw [hr] at g f4
      obtain ⟨c1, c2⟩ := rdB_c hr
      obtain ⟨g1, g2, g3, g4, g5, g6, g7⟩ := g
      have hB0 : rB0 tx n cT I' := x0.mv (by rw [f2 6 (by decide) (by decide) (by decide) (by decide), b2 6 (by decide) (by decide)]) (by rw [f1 146 (by omega) (by omega) (by omega), b1 146 (by omega) (by omega)]) (by rw [f1 147 (by omega) (by omega) (by omega), b1 147 (by omega) (by omega)])
      have a1 : I' (A + 1) = Ib (A + 1) := f1 _ (by omega) (by omega) (by omega)
      have a2 : I' (A + 2) = Ib (A + 2) := f1 _ (by omega) (by omega) (by omega)
      have a3 : I' (A + 3) = Ib (A + 3) := f1 _ (by omega) (by omega) (by omega)
      have hlen : (cd ++ c.2.2 ++ [30000]).length = cd.length + c.2.2.length + 1 := by simp only [List.length_append, List.length_singleton]
      refine ⟨hB0, ⟨g1, g2, g3, g4, f4, ?_⟩, g6, ?_, ?_, g5, g7, fun j hj => ?_, fun c' hc' => ?_⟩
      · rw [f2 10 (by decide) (by decide) (by decide) (by decide), b3, seenN_app, c1]
      · rw [f3 0 (by decide), b4, List.length_append]; rfl
      · rw [List.length_append]; show cs.length + 1 ≤ 20; omega
      · rw [List.length_append] at hj
        replace hj : j < cs.length + 1 := hj
        by_cases e : j = cs.length
        · subst e
          rw [gdR (Nat.le_refl _), Nat.sub_self]
          show clC A I' cs.length c (cd ++ c.2.2 ++ [30000])
          refine ⟨by rw [a1, b6, c1], fun z => by rw [a2, b7 (by omega), c2], cd.length, by rw [hlen]; omega, by rw [a3, b8], fun i hi => ?_, ?_⟩
          · rw [List.append_assoc, gdR (by omega), show cd.length + i - cd.length = i by omega, gdL hi]
          · rw [gdR (by rw [List.length_append]; omega), List.length_append, show cd.length + c.2.2.length - (cd.length + c.2.2.length) = 0 by omega]
            rfl
        · rw [gdL (by omega), List.append_assoc]
          obtain ⟨d1, d2, d3⟩ := b5 j (by omega)
          exact (y4 j (by omega)).ext (by rw [a1]; exact d1) (by rw [a2]; exact d2) (by rw [a3]; exact d3)
      · rcases List.mem_append.mp hc' with z | z
        · exact y5 c' z
        · rw [List.mem_singleton.mp z, c1]; exact hs
end CLS
