/-! model: gas, best -/
def sp_gas (w h : Nat) (a : Nat → Int32) (k m hb : Int32) : Int32 := if (0 ≤ k.toInt ∧ k.toInt < cnt a 5) ∧ (0 ≤ m.toInt ∧ m.toInt ≤ 99) then nI (gasN w h a k.toNatClampNeg m.toNatClampNeg (decide (hb ≠ 0))) else -1
theorem t_gas {w h : Nat} {I : pvI} {J : pvJ} {P : pvP} (hP : pvOkP P) (hD : mDim w h I) (hF : mF w h (I 203)) (hrd : mRead (w * h) (I 203)) (hho : mHou (w * h) (I 203)) {k m hb : Int32} : pvMet mX12_gas 5 0 0 [.ref 202, .int k, .int m, .int hb] 224 I J P (mQ2 I J P (sp_gas w h (I 203) k m hb)) := by
  have hg := hF.1
  have hra := t_runAll (J := J) hP hD hF
  have hD' := hD
  obtain ⟨hw, hh, hw2, hh2⟩ := hD
  have hwh : 4 ≤ w * h ∧ w * h ≤ 64 := ⟨Nat.mul_le_mul hw2.1 hh2.1, Nat.mul_le_mul hw2.2 hh2.2⟩
  obtain ⟨nb, nb_b, nb_h⟩ := hg 5 (by decide)
  replace nb_b : nb ≤ 20 := nb_b
  have nb_e : cnt (I 203) 5 = nb := cnt_of nb_h (by omega)
  refine pvMet.of _ (by decide) rfl (Nat.le_of_ble_eq_true rfl) ?_
  refine g_aload_n dX12_gas_0 rfl ?_
  refine g_iload_n dX12_gas_1 rfl ?_
  refine p_callV (t_isHouse hP (by omega) nb_h) okX12_isHouse lkX12_162 rfl (by first | rfl | exact pv_shx) rfl (by omega) (by omega) dX12_gas_2 rfl (Nat.le_of_ble_eq_true rfl) (⟨by decide, by decide, by decide, by decide⟩) ?_
  refine n_if_eq 15 dX12_gas_5 (by decide) (by first | (with_reducible exact cB _) | ((with_reducible apply cN_eq0) <;> omega) | exact Iff.rfl) (fun c5 => ?_) (fun c5 => ?_)
  · skip
    refine g_iconst (v := (-1)) dX12_gas_15 (by decide) ?_
    exact g_iret dX12_gas_16 rfl (⟨rfl, rfl, by rw [sp_gas, if_neg (by omega)], mfix.rf, rfl⟩)
  · skip
    refine g_iload_n dX12_gas_8 rfl ?_
    refine p_callS (t_isWeek) okX12_isWeek lkX12_115 rfl dX12_gas_9 rfl (Nat.le_of_ble_eq_true rfl) (⟨by decide, by decide, by decide, by decide⟩) ?_
    refine n_if_ne 17 dX12_gas_12 (by decide) (by first | (with_reducible exact cB _) | ((with_reducible apply cN_eq0) <;> omega) | exact Iff.rfl) (fun c12 => ?_) (fun c12 => ?_)
    · skip
      obtain ⟨kn, hkn, rfl⟩ := cI_of (x := k) (n := nb) (by omega) (by omega) (by omega)
      obtain ⟨mn, hmn, rfl⟩ := cI_of (x := m) (n := 100) (by omega) (by omega) (by omega)
      have hans : sp_gas w h (I 203) (nI kn) (nI mn) hb = nI (gasN w h (I 203) kn mn (decide (hb ≠ 0))) := by rw [sp_gas, if_pos (by omega), nI_clamp (by omega : kn < 2 ^ 31), nI_clamp (by omega : mn < 2 ^ 31)]
      rw [hans]
      refine g_aload_n dX12_gas_17 rfl ?_
      refine g_callV (hra) okX12_runAll lkX12_149 rfl (by first | rfl | exact pv_shx) rfl (by omega) (by omega) dX12_gas_18 rfl (Nat.le_of_ble_eq_true rfl) (⟨by decide, by decide, by decide, by decide⟩) ?_
      rintro v nx' I1 J' P' ⟨rfl, rfl, rfl, rfl, g1, g2⟩
      have a1 := tb_move (w := w) (h := h) g1
      refine g_aload_n dX12_gas_21 rfl ?_
      refine g_iload_n dX12_gas_22 rfl ?_
      refine g_iload_n dX12_gas_23 rfl ?_
      refine g_iload_n dX12_gas_24 rfl ?_
      refine p_callV (t_gasOf (w := w) (h := h) hP (a1.2 hD') a1.1 hF hrd hho (high := decide (hb ≠ 0)) g2 (by omega) (by omega) (by simp)) okX12_gasOf lkX12_165 rfl (by first | rfl | exact pv_shx) rfl (by omega) (by omega) dX12_gas_25 rfl (Nat.le_of_ble_eq_true rfl) (⟨by decide, by decide, by decide, by decide⟩) ?_
      exact g_iret dX12_gas_28 rfl (⟨rfl, rfl, rfl, g1, rfl⟩)
    · skip
      refine g_iconst (v := (-1)) dX12_gas_15 (by decide) ?_
      exact g_iret dX12_gas_16 rfl (⟨rfl, rfl, by rw [sp_gas, if_neg (by omega)], mfix.rf, rfl⟩)

def wcost (a : Nat → Int32) (set : Nat) : Nat → Nat
  | 0 => 0
  | p + 1 => wcost a set p + set / 2 ^ p % 2 * cnt a (1600 + 2 * p + 1)
def wmost (f : Nat → Nat) (lt : Nat → Bool) : Nat → Nat
  | 0 => 0
  | s + 1 => if lt s = true then max (wmost f lt s) (f s) else wmost f lt s
def bst (cost most : Nat → Nat) (coins : Nat) : Nat → Option (Nat × Nat × Nat)
  | 0 => none
  | k + 1 => if coins < cost k then bst cost most coins k else match bst cost most coins k with
    | none => some (k, most k, cost k)
    | some (b, l, c) => if l < most k ∨ (most k = l ∧ c ≤ cost k) then some (b, l, c) else some (k, most k, cost k)
def mostN (w h : Nat) (a : Nat → Int32) (m set : Nat) : Nat := wmost (fun s => lostN w h a set none s m) (fun s => letB w h a s (cnt a 0)) (cnt a 3)
def bestO (w h : Nat) (a : Nat → Int32) (coins m : Nat) : Option (Nat × Nat × Nat) := bst (fun k => wcost a k (cnt a 10)) (mostN w h a m) coins (2 ^ cnt a 10)
def sp_best (w h : Nat) (a : Nat → Int32) (co m x : Int32) : Int32 := if (0 ≤ co.toInt ∧ co.toInt ≤ 99999) ∧ (0 ≤ m.toInt ∧ m.toInt ≤ 99) ∧ ((cnt a 0 : Int) ≤ m.toInt ∧ m.toInt ≤ cnt a 0 + 30) ∧ (0 ≤ x.toInt ∧ x.toInt ≤ 2) then (if nLet w h a (cnt a 0) = 0 then -1 else match bestO w h a co.toNatClampNeg m.toNatClampNeg with
    | none => -1
    | some (b, l, c) => if x.toInt = 0 then nI b else if x.toInt = 1 then nI c else nI l) else -1
theorem wcost_le {a : Nat → Int32} {set : Nat} (ha : ∀ p, p < cnt a 10 → cnt a (1600 + 2 * p + 1) ≤ 9999) : ∀ p, p ≤ cnt a 10 → wcost a set p ≤ 9999 * p
  | 0, _ => Nat.le_refl _
  | p + 1, hp => by
    have ih := wcost_le (set := set) ha p (by omega)
    have h1 : set / 2 ^ p % 2 ≤ 1 := by omega
    have h2 := ha p (by omega)
    have h3 : set / 2 ^ p % 2 * cnt a (1600 + 2 * p + 1) ≤ 1 * 9999 := Nat.mul_le_mul h1 h2
    show wcost a set p + _ ≤ _
    omega
theorem wmost_le {f : Nat → Nat} {lt : Nat → Bool} {n : Nat} (hf : ∀ s, f s ≤ n) : ∀ s, wmost f lt s ≤ n
  | 0 => Nat.zero_le _
  | s + 1 => by
    have ih := wmost_le (lt := lt) hf s
    have := hf s
    show (if lt s = true then max (wmost f lt s) (f s) else wmost f lt s) ≤ n
    split <;> omega
theorem bst_zero {cost most : Nat → Nat} {coins : Nat} (h0 : cost 0 = 0) : ∀ k, bst cost most coins (k + 1) ≠ none
  | 0 => by
    show (if coins < cost 0 then none else some _) ≠ none
    rw [if_neg (by omega)]; exact Option.some_ne_none _
  | k + 1 => by
    have ih := bst_zero (most := most) (coins := coins) h0 k
    intro hn
    have e : bst cost most coins (k + 1 + 1) = if coins < cost (k + 1) then bst cost most coins (k + 1) else match bst cost most coins (k + 1) with
      | none => some (k + 1, most (k + 1), cost (k + 1))
      | some (b, l, c) => if l < most (k + 1) ∨ (most (k + 1) = l ∧ c ≤ cost (k + 1)) then some (b, l, c) else some (k + 1, most (k + 1), cost (k + 1)) := rfl
    rw [e] at hn
    split at hn
    · exact ih hn
    · cases hb : bst cost most coins (k + 1) with
      | none => exact ih hb
      | some v =>
        obtain ⟨b, l, c⟩ := v
        rw [hb] at hn
        simp only at hn
        split at hn <;> cases hn
theorem wcost_0 {a : Nat → Int32} : ∀ p, wcost a 0 p = 0
  | 0 => rfl
  | p + 1 => by show wcost a 0 p + 0 / 2 ^ p % 2 * _ = 0; rw [wcost_0 p, Nat.zero_div]; simp
def mQL (l : List Nat) (I : pvI) (J : pvJ) (P : pvP) (r : Int32) : pvQT := pvq P (fun v I' J' => v = some (.int r) ∧ mfix I I' l ∧ J' = J)
abbrev LB : List Nat := 224 :: LR
theorem mfix.lr {I I' : pvI} (h : mfix I I' LR) : mfix I I' LB := fun k hk => h k (by simp at hk ⊢; omega)
theorem lostN_le {w h : Nat} {a : Nat → Int32} {wl s m : Nat} {wo : Option Nat} : lostN w h a wl wo s m ≤ 64 := sp_ct_le 64
abbrev bsV (o : Option (Nat × Nat × Nat)) : Int32 := match o with
  | none => -1
  | some v => nI v.1
abbrev bsL (o : Option (Nat × Nat × Nat)) : Nat := match o with
  | none => 0
  | some v => v.2.1
abbrev bsC (o : Option (Nat × Nat × Nat)) : Nat := match o with
  | none => 0
  | some v => v.2.2
theorem bst_le {cost most : Nat → Nat} {coins : Nat} : ∀ {k b l c}, bst cost most coins k = some (b, l, c) → b < k ∧ l = most b ∧ c = cost b
  | 0, b, l, c, h => by cases h
  | k + 1, b, l, c, h => by
    have e : bst cost most coins (k + 1) = if coins < cost k then bst cost most coins k else match bst cost most coins k with
      | none => some (k, most k, cost k)
      | some (b, l, c) => if l < most k ∨ (most k = l ∧ c ≤ cost k) then some (b, l, c) else some (k, most k, cost k) := rfl
    rw [e] at h
    split at h
    · have := bst_le h; exact ⟨by omega, this.2⟩
    · cases hb : bst cost most coins k with
      | none => rw [hb] at h; cases h; exact ⟨by omega, rfl, rfl⟩
      | some v =>
        obtain ⟨b', l', c'⟩ := v
        rw [hb] at h
        have := bst_le hb
        simp only at h
        split at h <;> cases h
        · exact ⟨by omega, this.2⟩
        · exact ⟨by omega, rfl, rfl⟩
/-- the greatest loss of a set: from the loop over the states -/
theorem b_most {w h : Nat} {I I1 : pvI} {J : pvJ} {P : pvP} {Z : pvZT} {co : Int32} {x : Int32} {m set cost : Nat} {v4 v5 v6 : Int32} (hP : pvOkP P) (hD : mDim w h I) (hF : mF w h (I 203)) (hm : m ≤ 99) (hset : set < 64) (h1 : mfix I I1 LB) (hl : ∀ s, s < cnt (I 203) 3 → I1 224 s = if letB w h (I 203) s (cnt (I 203) 0) = true then 1 else 0)
    (kk : ∀ I2, mfix I I2 LB → I2 224 = I1 224 → ∀ v10 v11, pvG mX12_best (pvR 5 0 0) Z 262 [.ref 202, .int co, .int (nI m), .int x, .int v4, .int v5, .int v6, .int (nI set), .int (nI cost), .int (nI (mostN w h (I 203) m set)), v10, v11] [] 0 0 224 I2 J P) :
    ∀ v11, pvG mX12_best (pvR 5 0 0) Z 202 [.ref 202, .int co, .int (nI m), .int x, .int v4, .int v5, .int v6, .int (nI set), .int (nI cost), .int (nI 0), .int (nI 0), v11] [] 0 0 224 I1 J P := by
  have hg := hF.1
  obtain ⟨ns, ns_b, ns_h⟩ := hg 3 (by decide)
  replace ns_b : ns ≤ 8 := ns_b
  have ns_e : cnt (I 203) 3 = ns := cnt_of ns_h (by omega)
  unfold mostN at kk
  generalize hf : (fun s => lostN w h (I 203) set none s m) = f at *
  generalize hlt : (fun s => letB w h (I 203) s (cnt (I 203) 0)) = lt at *
  have hfs : ∀ s, lostN w h (I 203) set none s m = f s := fun s => by rw [← hf]
  have hlts : ∀ s, letB w h (I 203) s (cnt (I 203) 0) = lt s := fun s => by rw [← hlt]
  have hfl : ∀ s, f s ≤ 64 := fun s => by rw [← hfs]; exact lostN_le
  have lp : ∀ q i I2, i + q = ns → mfix I I2 LB → I2 224 = I1 224 → pvG mX12_best (pvR 5 0 0) Z 202 [.ref 202, .int co, .int (nI m), .int x, .int v4, .int v5, .int v6, .int (nI set), .int (nI cost), .int (nI (wmost f lt i)), .int (nI i), .retAddr 0] [] 0 0 224 I2 J P := by
    intro q
    induction q with
    | zero =>
      intro i I2 hi g1 g2
      obtain rfl : i = ns := by omega
      have a2 : I2 203 3 = nI i := by rw [g1 203 (by decide)]; exact ns_h
      have k2 := kk I2 g1 g2 (.int (nI i)) (.retAddr 0)
      rw [ns_e] at k2
      refine g_iload dX12_best_202 rfl ?_
      refine g_aload_n dX12_best_204 rfl ?_
      refine g_getP dX12_best_205 fdX12_7 rfl (by first | rfl | exact pv_shx) (by omega) (by omega) (by decide) rfl (hP _ _ _ rfl) ?_
      refine g_iconst (v := nI 3) dX12_best_208 (by decide) ?_
      refine n_iald dX12_best_209 (by first | rfl | exact pv_shx) (by omega) (by omega) (by decide) (rfl) (by omega) (by repeat (first | exact a2 | (apply rd_s; done) | apply rd_n (by omega) | apply rp_s | apply rp_n (by omega) | (apply rdL_s; done) | apply rdL_n (by omega) | apply rpJ_s | apply rpJ_n (by omega) | rfl)) ?_
      refine n_icmp_ge 262 dX12_best_210 (by decide) (by first | ((with_reducible apply cN_le) <;> omega) | ((with_reducible apply cI_len) <;> omega) | ((with_reducible apply cI_nle) <;> omega) | (with_reducible exact cI_le)) (fun c210 => ?_) (fun c210 => by exfalso; first | omega | exact absurd trivial c210 | exact c210)
      exact k2
    | succ q ih =>
      intro i I2 hi g1 g2
      have a2 : I2 203 = I 203 := g1 203 (by decide)
      have a3 : I2 203 3 = nI ns := by rw [a2]; exact ns_h
      have l3 : I2 224 i = if lt i = true then 1 else 0 := by rw [g2, hl i (by omega), hlts]
      have hfi := hfl i
      have hml := wmost_le (lt := lt) hfl i
      have es : wmost f lt (i + 1) = if lt i = true then max (wmost f lt i) (f i) else wmost f lt i := rfl
      by_cases c1 : lt i = true
      · have d2 : mDim w h I2 := ⟨by rw [g1 202 (by decide)]; exact hD.1, by rw [g1 202 (by decide)]; exact hD.2.1, hD.2.2⟩
        have hr := t_run (w := w) (h := h) (I := I2) (J := J) (P := P) (s := i) (u := m) (wl := set) (wo := none) (u3 := -1) hP d2 (by rw [a2]; exact hF) (by rw [a2]; omega) hm hset wo_none
        rw [if_pos c1] at es
        refine g_iload dX12_best_202 rfl ?_
        refine g_aload_n dX12_best_204 rfl ?_
        refine g_getP dX12_best_205 fdX12_7 rfl (by first | rfl | exact pv_shx) (by omega) (by omega) (by decide) rfl (hP _ _ _ rfl) ?_
        refine g_iconst (v := nI 3) dX12_best_208 (by decide) ?_
        refine n_iald dX12_best_209 (by first | rfl | exact pv_shx) (by omega) (by omega) (by decide) (rfl) (by omega) (by repeat (first | exact a3 | exact l3 | (apply rd_s; done) | apply rd_n (by omega) | apply rp_s | apply rp_n (by omega) | (apply rdL_s; done) | apply rdL_n (by omega) | apply rpJ_s | apply rpJ_n (by omega) | rfl)) ?_
        refine n_icmp_ge 262 dX12_best_210 (by decide) (by first | ((with_reducible apply cN_le) <;> omega) | ((with_reducible apply cI_len) <;> omega) | ((with_reducible apply cI_nle) <;> omega) | (with_reducible exact cI_le)) (fun c210 => by exfalso; first | omega | exact absurd trivial c210 | exact c210) (fun c210 => ?_)
        refine g_aload_n dX12_best_213 rfl ?_
        refine g_getP dX12_best_214 fdX12_83 rfl (by first | rfl | exact pv_shx) (by omega) (by omega) (by decide) rfl (hP _ _ _ rfl) ?_
        refine g_iload dX12_best_217 rfl ?_
        refine n_zald dX12_best_219 (by first | rfl | exact pv_shx) (by omega) (by omega) (by decide) (rfl) (by omega) (by repeat (first | exact a3 | exact l3 | (apply rd_s; done) | apply rd_n (by omega) | apply rp_s | apply rp_n (by omega) | (apply rdL_s; done) | apply rdL_n (by omega) | apply rpJ_s | apply rpJ_n (by omega) | rfl)) ?_
        refine n_if_ne 226 dX12_best_220 (by decide) (by first | (with_reducible exact cB _) | ((with_reducible apply cN_eq0) <;> omega) | exact Iff.rfl) (fun c220 => ?_) (fun c220 => by exfalso; exact c220 c1)
        refine g_aload_n dX12_best_226 rfl ?_
        refine g_iload dX12_best_227 rfl ?_
        refine g_iload_n dX12_best_229 rfl ?_
        refine g_iconst (v := (-1)) dX12_best_230 (by decide) ?_
        refine g_iload dX12_best_231 rfl ?_
        refine g_callV (hr) okX12_run lkX12_135 rfl (by first | rfl | exact pv_shx) rfl (by omega) (by omega) dX12_best_233 rfl (Nat.le_of_ble_eq_true rfl) (⟨by decide, by decide, by decide, by decide⟩) ?_
        rintro v nx' I3 J' P' ⟨rfl, rfl, rfl, rfl, r1⟩
        have r2 := r1.2.2.2.2.2.2.2.1
        rw [a2] at r2
        have fo := (fwk_ok (w := w) (h := h) hF.2.1 (wl := set) (s := i) (m := m) (wo := none)).1
        have hla := t_lostAt (I := I3) (J := J') (P := P') (s := i) (m := m) (f := (fwk w h (I 203) set none i m).1) hP (by omega) hm (fun c hc => r2 m c (Nat.le_refl _) hc) fo
        rw [show sp_ct (fun c => 0 < (fwk w h (I 203) set none i m).1 c) 64 = f i from hfs i] at hla
        have g3 : mfix I I3 LB := fun k hk => by rw [r1.1 k (by simp at hk ⊢; omega)]; exact g1 k hk
        have g4 : I3 224 = I1 224 := by rw [r1.1 224 (by decide)]; exact g2
        have h4 := ih (i + 1) I3 (by omega) g3 g4
        rw [es] at h4
        refine g_aload_n dX12_best_236 rfl ?_
        refine g_iload dX12_best_237 rfl ?_
        refine g_iload_n dX12_best_239 rfl ?_
        refine p_callV (hla) okX12_lostAt lkX12_142 rfl (by first | rfl | exact pv_shx) rfl (by omega) (by omega) dX12_best_240 rfl (Nat.le_of_ble_eq_true rfl) (⟨by decide, by decide, by decide, by decide⟩) ?_
        refine g_istore dX12_best_243 (by decide) rfl ?_
        refine g_iload dX12_best_245 rfl ?_
        refine g_iload dX12_best_247 rfl ?_
        refine n_icmp_le 256 dX12_best_249 (by decide) (by first | ((with_reducible apply cN_le) <;> omega) | ((with_reducible apply cI_len) <;> omega) | ((with_reducible apply cI_nle) <;> omega) | (with_reducible exact cI_le)) (fun c249 => ?_) (fun c249 => ?_)
        · skip
          refine g_iinc dX12_best_256 rfl (by first | (with_reducible exact nI_1 _) | exact nI_1 _ | exact pk_m1 _ | rfl) (by decide) rfl ?_
          refine g_goto 202 dX12_best_259 (by decide) ?_
          first | (rw [show max (wmost f lt i) (f i) = wmost f lt i by omega] at h4; exact g_drop _ (by repeat (first | exact trivial | refine ⟨Or.inr ⟨_, rfl⟩, ?_⟩ | refine ⟨Or.inl rfl, ?_⟩)) h4) | (rw [show max (wmost f lt i) (f i) = f i by omega] at h4; exact g_drop _ (by repeat (first | exact trivial | refine ⟨Or.inr ⟨_, rfl⟩, ?_⟩ | refine ⟨Or.inl rfl, ?_⟩)) h4)
        · skip
          refine g_iload dX12_best_252 rfl ?_
          refine g_istore dX12_best_254 (by decide) rfl ?_
          refine g_iinc dX12_best_256 rfl (by first | (with_reducible exact nI_1 _) | exact nI_1 _ | exact pk_m1 _ | rfl) (by decide) rfl ?_
          refine g_goto 202 dX12_best_259 (by decide) ?_
          first | (rw [show max (wmost f lt i) (f i) = wmost f lt i by omega] at h4; exact g_drop _ (by repeat (first | exact trivial | refine ⟨Or.inr ⟨_, rfl⟩, ?_⟩ | refine ⟨Or.inl rfl, ?_⟩)) h4) | (rw [show max (wmost f lt i) (f i) = f i by omega] at h4; exact g_drop _ (by repeat (first | exact trivial | refine ⟨Or.inr ⟨_, rfl⟩, ?_⟩ | refine ⟨Or.inl rfl, ?_⟩)) h4)
      · rw [if_neg c1] at es
        have h4 := ih (i + 1) I2 (by omega) g1 g2
        rw [es] at h4
        refine g_iload dX12_best_202 rfl ?_
        refine g_aload_n dX12_best_204 rfl ?_
        refine g_getP dX12_best_205 fdX12_7 rfl (by first | rfl | exact pv_shx) (by omega) (by omega) (by decide) rfl (hP _ _ _ rfl) ?_
        refine g_iconst (v := nI 3) dX12_best_208 (by decide) ?_
        refine n_iald dX12_best_209 (by first | rfl | exact pv_shx) (by omega) (by omega) (by decide) (rfl) (by omega) (by repeat (first | exact a3 | exact l3 | (apply rd_s; done) | apply rd_n (by omega) | apply rp_s | apply rp_n (by omega) | (apply rdL_s; done) | apply rdL_n (by omega) | apply rpJ_s | apply rpJ_n (by omega) | rfl)) ?_
        refine n_icmp_ge 262 dX12_best_210 (by decide) (by first | ((with_reducible apply cN_le) <;> omega) | ((with_reducible apply cI_len) <;> omega) | ((with_reducible apply cI_nle) <;> omega) | (with_reducible exact cI_le)) (fun c210 => by exfalso; first | omega | exact absurd trivial c210 | exact c210) (fun c210 => ?_)
        refine g_aload_n dX12_best_213 rfl ?_
        refine g_getP dX12_best_214 fdX12_83 rfl (by first | rfl | exact pv_shx) (by omega) (by omega) (by decide) rfl (hP _ _ _ rfl) ?_
        refine g_iload dX12_best_217 rfl ?_
        refine n_zald dX12_best_219 (by first | rfl | exact pv_shx) (by omega) (by omega) (by decide) (rfl) (by omega) (by repeat (first | exact a3 | exact l3 | (apply rd_s; done) | apply rd_n (by omega) | apply rp_s | apply rp_n (by omega) | (apply rdL_s; done) | apply rdL_n (by omega) | apply rpJ_s | apply rpJ_n (by omega) | rfl)) ?_
        refine n_if_ne 226 dX12_best_220 (by decide) (by first | (with_reducible exact cB _) | ((with_reducible apply cN_eq0) <;> omega) | exact Iff.rfl) (fun c220 => by exfalso; exact c220 c1) (fun c220 => ?_)
        refine g_goto 256 dX12_best_223 (by decide) ?_
        refine g_iinc dX12_best_256 rfl (by first | (with_reducible exact nI_1 _) | exact nI_1 _ | exact pk_m1 _ | rfl) (by decide) rfl ?_
        refine g_goto 202 dX12_best_259 (by decide) ?_
        exact g_drop _ (by repeat (first | exact trivial | refine ⟨Or.inr ⟨_, rfl⟩, ?_⟩ | refine ⟨Or.inl rfl, ?_⟩)) h4
  intro v11
  exact g_drop _ (by repeat (first | exact trivial | refine ⟨Or.inr ⟨_, rfl⟩, ?_⟩ | refine ⟨Or.inl rfl, ?_⟩)) (lp ns 0 I1 (by omega) h1 rfl)
theorem b_cost {w h : Nat} {I I1 : pvI} {J : pvJ} {P : pvP} {Z : pvZT} {co : Int32} {x : Int32} {m set : Nat} {v4 v5 v6 : Int32} (hP : pvOkP P) (hF : mF w h (I 203)) (hset : set < 64) (h1 : I1 203 = I 203)
    (kk : ∀ v9, pvG mX12_best (pvR 5 0 0) Z 187 [.ref 202, .int co, .int (nI m), .int x, .int v4, .int v5, .int v6, .int (nI set), .int (nI (wcost (I 203) set (cnt (I 203) 10))), v9, .retAddr 0, .retAddr 0] [] 0 0 224 I1 J P) :
    pvG mX12_best (pvR 5 0 0) Z 141 [.ref 202, .int co, .int (nI m), .int x, .int v4, .int v5, .int v6, .int (nI set), .int (nI 0), .int (nI 0), .retAddr 0, .retAddr 0] [] 0 0 224 I1 J P := by
  have hg := hF.1
  obtain ⟨np, np_b, np_h⟩ := hg 10 (by decide)
  replace np_b : np ≤ 6 := np_b
  have np_e : cnt (I 203) 10 = np := cnt_of np_h (by omega)
  rw [np_e] at kk
  have np_1 : I1 203 10 = nI np := by rw [h1]; exact np_h
  have lp : ∀ q i, i + q = np → pvG mX12_best (pvR 5 0 0) Z 141 [.ref 202, .int co, .int (nI m), .int x, .int v4, .int v5, .int v6, .int (nI set), .int (nI (wcost (I 203) set i)), .int (nI i), .retAddr 0, .retAddr 0] [] 0 0 224 I1 J P := by
    intro q
    induction q with
    | zero =>
      intro i hi
      obtain rfl : i = np := by omega
      refine g_iload dX12_best_141 rfl ?_
      refine g_aload_n dX12_best_143 rfl ?_
      refine g_getP dX12_best_144 fdX12_7 rfl (by first | rfl | exact pv_shx) (by omega) (by omega) (by decide) rfl (hP _ _ _ rfl) ?_
      refine g_bipush (v := nI 10) dX12_best_147 (by decide) ?_
      refine n_iald dX12_best_149 (by first | rfl | exact pv_shx) (by omega) (by omega) (by decide) (rfl) (by omega) (by repeat (first | exact np_1 | (apply rd_s; done) | apply rd_n (by omega) | apply rp_s | apply rp_n (by omega) | (apply rdL_s; done) | apply rdL_n (by omega) | apply rpJ_s | apply rpJ_n (by omega) | rfl)) ?_
      refine n_icmp_ge 187 dX12_best_150 (by decide) (by first | ((with_reducible apply cN_le) <;> omega) | ((with_reducible apply cI_len) <;> omega) | ((with_reducible apply cI_nle) <;> omega) | (with_reducible exact cI_le)) (fun c150 => ?_) (fun c150 => by exfalso; first | omega | exact absurd trivial c150 | exact c150)
      exact kk _
    | succ q ih =>
      intro i hi
      have h4 := ih (i + 1) (by omega)
      obtain ⟨-, ⟨v, v1, v2⟩⟩ := hF.2.2.2.2.2 i (by omega)
      have v3 : cnt (I 203) (1600 + 2 * i + 1) = v := cnt_of v2 (by omega)
      have v4 : I1 203 (1600 + 2 * i + 1) = nI v := by rw [h1]; exact v2
      have hdv : set / 2 ^ i ≤ set := Nat.div_le_self _ _
      rw [show wcost (I 203) set (i + 1) = wcost (I 203) set i + set / 2 ^ i % 2 * cnt (I 203) (1600 + 2 * i + 1) from rfl, v3] at h4
      refine g_iload dX12_best_141 rfl ?_
      refine g_aload_n dX12_best_143 rfl ?_
      refine g_getP dX12_best_144 fdX12_7 rfl (by first | rfl | exact pv_shx) (by omega) (by omega) (by decide) rfl (hP _ _ _ rfl) ?_
      refine g_bipush (v := nI 10) dX12_best_147 (by decide) ?_
      refine n_iald dX12_best_149 (by first | rfl | exact pv_shx) (by omega) (by omega) (by decide) (rfl) (by omega) (by repeat (first | exact np_1 | exact v4 | (apply rd_s; done) | apply rd_n (by omega) | apply rp_s | apply rp_n (by omega) | (apply rdL_s; done) | apply rdL_n (by omega) | apply rpJ_s | apply rpJ_n (by omega) | rfl)) ?_
      refine n_icmp_ge 187 dX12_best_150 (by decide) (by first | ((with_reducible apply cN_le) <;> omega) | ((with_reducible apply cI_len) <;> omega) | ((with_reducible apply cI_nle) <;> omega) | (with_reducible exact cI_le)) (fun c150 => by exfalso; first | omega | exact absurd trivial c150 | exact c150) (fun c150 => ?_)
      refine g_iload dX12_best_153 rfl ?_
      refine g_iload dX12_best_155 rfl ?_
      refine g_iload dX12_best_157 rfl ?_
      refine n_ishr dX12_best_159 (nI_shr (by omega) (by omega)) ?_
      refine g_iconst (v := nI 1) dX12_best_160 (by decide) ?_
      refine n_iand dX12_best_161 (nI_and1 (by omega)) ?_
      refine g_aload_n dX12_best_162 rfl ?_
      refine g_getP dX12_best_163 fdX12_7 rfl (by first | rfl | exact pv_shx) (by omega) (by omega) (by decide) rfl (hP _ _ _ rfl) ?_
      refine g_sipush (v := nI 1600) dX12_best_166 (by decide) ?_
      refine g_iconst (v := nI 2) dX12_best_169 (by decide) ?_
      refine g_iload dX12_best_170 rfl ?_
      refine n_imul dX12_best_172 (by first | (with_reducible exact pk_mul _ _) | rfl) ?_
      refine n_iadd dX12_best_173 (by first | (with_reducible exact nI_add _ _) | rfl) ?_
      refine g_iconst (v := nI 1) dX12_best_174 (by decide) ?_
      refine n_iadd dX12_best_175 (by first | (with_reducible exact nI_add _ _) | rfl) ?_
      refine n_iald dX12_best_176 (by first | rfl | exact pv_shx) (by omega) (by omega) (by decide) (rfl) (by omega) (by repeat (first | exact np_1 | exact v4 | (apply rd_s; done) | apply rd_n (by omega) | apply rp_s | apply rp_n (by omega) | (apply rdL_s; done) | apply rdL_n (by omega) | apply rpJ_s | apply rpJ_n (by omega) | rfl)) ?_
      refine n_imul dX12_best_177 (by first | (with_reducible exact pk_mul _ _) | rfl) ?_
      refine n_iadd dX12_best_178 (by first | (with_reducible exact nI_add _ _) | rfl) ?_
      refine g_istore dX12_best_179 (by decide) rfl ?_
      refine g_iinc dX12_best_181 rfl (by first | (with_reducible exact nI_1 _) | exact nI_1 _ | exact pk_m1 _ | rfl) (by decide) rfl ?_
      refine g_goto 141 dX12_best_184 (by decide) ?_
      exact h4
  exact lp np 0 (by omega)
def bsAns (o : Option (Nat × Nat × Nat)) (x : Int32) : Int32 := match o with
  | none => -1
  | some (b, l, c) => if x.toInt = 0 then nI b else if x.toInt = 1 then nI c else nI l
theorem b_sets {w h : Nat} {I I1 : pvI} {J : pvJ} {P : pvP} {co m : Nat} {x : Int32} {Z : pvZT} (hP : pvOkP P) (hD : mDim w h I) (hF : mF w h (I 203)) (hm : m ≤ 99) (hco : co ≤ 99999) (hx : 0 ≤ x.toInt ∧ x.toInt ≤ 2) (h1 : mfix I I1 LB) (hl : ∀ s, s < cnt (I 203) 3 → I1 224 s = if letB w h (I 203) s (cnt (I 203) 0) = true then 1 else 0)
    (hZ : pvZ (mQL LB I J P (bsAns (bestO w h (I 203) co m) x)) 0 0 = Z) :
    ∀ v8 v9 v10 v11, pvG mX12_best (pvR 5 0 0) Z 121 [.ref 202, .int (nI co), .int (nI m), .int x, .int (-1), .int (nI 0), .int (nI 0), .int (nI 0), v8, v9, v10, v11] [] 0 0 224 I1 J P := by
  have hg := hF.1
  obtain ⟨np, np_b, np_h⟩ := hg 10 (by decide)
  replace np_b : np ≤ 6 := np_b
  have np_e : cnt (I 203) 10 = np := cnt_of np_h (by omega)
  have hpw : 2 ^ np ≤ 64 := Nat.le_trans (Nat.pow_le_pow_right (by decide) np_b) (by decide)
  have hpw1 : 1 ≤ 2 ^ np := Nat.one_le_two_pow
  have hcst : ∀ k, wcost (I 203) k np ≤ 59994 := fun k => by
    have := wcost_le (a := I 203) (set := k) (fun p hp => by obtain ⟨-, ⟨v, v1, v2⟩⟩ := hF.2.2.2.2.2 p hp; rw [cnt_of v2 (by omega)]; exact v1) np (by omega)
    omega
  have hmst : ∀ k, mostN w h (I 203) m k ≤ 64 := fun k => wmost_le (fun s => lostN_le) _
  have hbo : bestO w h (I 203) co m = bst (fun k => wcost (I 203) k np) (mostN w h (I 203) m) co (2 ^ np) := by unfold bestO; rw [np_e]
  have hnn : bst (fun k => wcost (I 203) k np) (mostN w h (I 203) m) co (2 ^ np) ≠ none := by
    have := bst_zero (cost := fun k => wcost (I 203) k np) (most := mostN w h (I 203) m) (coins := co) (wcost_0 np) (2 ^ np - 1)
    rwa [Nat.sub_add_cancel hpw1] at this
  rw [hbo] at hZ
  generalize hcf : (fun k => wcost (I 203) k np) = cf at *
  have hcs : ∀ k, wcost (I 203) k np = cf k := fun k => by rw [← hcf]
  have ms : ∀ set I2 (v4 v5 v6 : Int32), set < 64 → mfix I I2 LB → I2 224 = I1 224 → (∀ I3, mfix I I3 LB → I3 224 = I1 224 → ∀ v10 v11, pvG mX12_best (pvR 5 0 0) Z 262 [.ref 202, .int (nI co), .int (nI m), .int x, .int v4, .int v5, .int v6, .int (nI set), .int (nI (cf set)), .int (nI (mostN w h (I 203) m set)), v10, v11] [] 0 0 224 I3 J P) → ∀ v11, pvG mX12_best (pvR 5 0 0) Z 202 [.ref 202, .int (nI co), .int (nI m), .int x, .int v4, .int v5, .int v6, .int (nI set), .int (nI (cf set)), .int (nI 0), .int (nI 0), v11] [] 0 0 224 I2 J P := fun set I2 v4 v5 v6 hs g1 g2 kk => b_most (w := w) (h := h) (I := I) (I1 := I2) hP hD hF hm hs g1 (by rw [g2]; exact hl) (fun I3 e1 e2 => kk I3 e1 (e2.trans g2))
  have cs : ∀ set I2 (v4 v5 v6 : Int32), set < 64 → mfix I I2 LB → (∀ v9, pvG mX12_best (pvR 5 0 0) Z 187 [.ref 202, .int (nI co), .int (nI m), .int x, .int v4, .int v5, .int v6, .int (nI set), .int (nI (cf set)), v9, .retAddr 0, .retAddr 0] [] 0 0 224 I2 J P) → pvG mX12_best (pvR 5 0 0) Z 141 [.ref 202, .int (nI co), .int (nI m), .int x, .int v4, .int v5, .int v6, .int (nI set), .int (nI 0), .int (nI 0), .retAddr 0, .retAddr 0] [] 0 0 224 I2 J P := fun set I2 v4 v5 v6 hs g1 kk => b_cost (w := w) (h := h) (I := I) (I1 := I2) hP hF hs (g1 203 (by decide)) (by rw [np_e, hcs]; exact kk)
  generalize hmf : mostN w h (I 203) m = mf at *
  have lp : ∀ q i I2, i + q = 2 ^ np → mfix I I2 LB → I2 224 = I1 224 → pvG mX12_best (pvR 5 0 0) Z 121 [.ref 202, .int (nI co), .int (nI m), .int x, .int (bsV (bst cf mf co i)), .int (nI (bsL (bst cf mf co i))), .int (nI (bsC (bst cf mf co i))), .int (nI i), .retAddr 0, .retAddr 0, .retAddr 0, .retAddr 0] [] 0 0 224 I2 J P := by
    intro q
    induction q with
    | zero =>
      intro i I2 hi g1 g2
      obtain rfl : i = 2 ^ np := by omega
      have p2 : I2 203 10 = nI np := by rw [g1 203 (by decide)]; exact np_h
      subst hZ
      cases hb : bst cf mf co (2 ^ np) with
      | none => exact absurd hb hnn
      | some v =>
        obtain ⟨b, l, c⟩ := v
        simp only [bsAns]
        refine g_iload dX12_best_121 rfl ?_
        refine g_iconst (v := nI 1) dX12_best_123 (by decide) ?_
        refine g_aload_n dX12_best_124 rfl ?_
        refine g_getP dX12_best_125 fdX12_7 rfl (by first | rfl | exact pv_shx) (by omega) (by omega) (by decide) rfl (hP _ _ _ rfl) ?_
        refine g_bipush (v := nI 10) dX12_best_128 (by decide) ?_
        refine n_iald dX12_best_130 (by first | rfl | exact pv_shx) (by omega) (by omega) (by decide) (rfl) (by omega) (by repeat (first | exact p2 | (apply rd_s; done) | apply rd_n (by omega) | apply rp_s | apply rp_n (by omega) | (apply rdL_s; done) | apply rdL_n (by omega) | apply rpJ_s | apply rpJ_n (by omega) | rfl)) ?_
        refine n_ishl dX12_best_131 (nI_shl1 (by omega)) ?_
        refine n_icmp_ge 309 dX12_best_132 (by decide) (by first | ((with_reducible apply cN_le) <;> omega) | ((with_reducible apply cI_len) <;> omega) | ((with_reducible apply cI_nle) <;> omega) | (with_reducible exact cI_le)) (fun c132 => ?_) (fun c132 => by exfalso; first | omega | exact absurd trivial c132 | exact c132)
        refine g_iload_n dX12_best_309 rfl ?_
        refine n_if_ne 318 dX12_best_310 (by decide) (cI_eq.trans (by rw [show (0 : Int32).toInt = 0 from rfl])) (fun c310 => ?_) (fun c310 => ?_)
        · skip
          refine g_iload_n dX12_best_318 rfl ?_
          refine g_iconst (v := nI 1) dX12_best_319 (by decide) ?_
          refine n_icmp_ne 328 dX12_best_320 (by decide) (by first | ((with_reducible apply cN_eq) <;> omega) | ((with_reducible apply cI_eqn) <;> omega) | exact Iff.rfl) (fun c320 => ?_) (fun c320 => ?_)
          · skip
            refine g_iload dX12_best_328 rfl ?_
            exact g_iret dX12_best_330 rfl (⟨rfl, rfl, by first | rw [if_pos (by omega)] | rw [if_neg (by omega), if_pos (by omega)] | rw [if_neg (by omega), if_neg (by omega)], g1, rfl⟩)
          · skip
            refine g_iload dX12_best_323 rfl ?_
            refine g_goto 330 dX12_best_325 (by decide) ?_
            exact g_iret dX12_best_330 rfl (⟨rfl, rfl, by first | rw [if_pos (by omega)] | rw [if_neg (by omega), if_pos (by omega)] | rw [if_neg (by omega), if_neg (by omega)], g1, rfl⟩)
        · skip
          refine g_iload dX12_best_313 rfl ?_
          refine g_goto 330 dX12_best_315 (by decide) ?_
          exact g_iret dX12_best_330 rfl (⟨rfl, rfl, by first | rw [if_pos (by omega)] | rw [if_neg (by omega), if_pos (by omega)] | rw [if_neg (by omega), if_neg (by omega)], g1, rfl⟩)
    | succ q ih =>
      intro i I2 hi g1 g2
      have p2 : I2 203 10 = nI np := by rw [g1 203 (by decide)]; exact np_h
      have e : bst cf mf co (i + 1) = if co < cf i then bst cf mf co i else match bst cf mf co i with
        | none => some (i, mf i, cf i)
        | some (b, l, c) => if l < mf i ∨ (mf i = l ∧ c ≤ cf i) then some (b, l, c) else some (i, mf i, cf i) := rfl
      have hci := hcst i
      rw [hcs] at hci
      have hmi := hmst i
      refine ?_
      refine g_iload dX12_best_121 rfl ?_
      refine g_iconst (v := nI 1) dX12_best_123 (by decide) ?_
      refine g_aload_n dX12_best_124 rfl ?_
      refine g_getP dX12_best_125 fdX12_7 rfl (by first | rfl | exact pv_shx) (by omega) (by omega) (by decide) rfl (hP _ _ _ rfl) ?_
      refine g_bipush (v := nI 10) dX12_best_128 (by decide) ?_
      refine n_iald dX12_best_130 (by first | rfl | exact pv_shx) (by omega) (by omega) (by decide) (rfl) (by omega) (by repeat (first | exact p2 | (apply rd_s; done) | apply rd_n (by omega) | apply rp_s | apply rp_n (by omega) | (apply rdL_s; done) | apply rdL_n (by omega) | apply rpJ_s | apply rpJ_n (by omega) | rfl)) ?_
      refine n_ishl dX12_best_131 (nI_shl1 (by omega)) ?_
      refine n_icmp_ge 309 dX12_best_132 (by decide) (by first | ((with_reducible apply cN_le) <;> omega) | ((with_reducible apply cI_len) <;> omega) | ((with_reducible apply cI_nle) <;> omega) | (with_reducible exact cI_le)) (fun c132 => by exfalso; first | omega | exact absurd trivial c132 | exact c132) (fun c132 => ?_)
      refine g_iconst (v := nI 0) dX12_best_135 (by decide) ?_
      refine g_istore dX12_best_136 (by decide) rfl ?_
      refine g_iconst (v := nI 0) dX12_best_138 (by decide) ?_
      refine g_istore dX12_best_139 (by decide) rfl ?_
      refine g_drop _ (by repeat (first | exact trivial | refine ⟨Or.inr ⟨_, rfl⟩, ?_⟩ | refine ⟨Or.inl rfl, ?_⟩)) (cs i I2 (bsV (bst cf mf co i)) (nI (bsL (bst cf mf co i))) (nI (bsC (bst cf mf co i))) (by omega) g1 (fun v9 => ?_))
      by_cases c1 : co < cf i
      · have h4 := ih (i + 1) I2 (by omega) g1 g2
        rw [e, if_pos c1] at h4
        refine g_iload dX12_best_187 rfl ?_
        refine g_iload_n dX12_best_189 rfl ?_
        refine n_icmp_le 196 dX12_best_190 (by decide) (by first | ((with_reducible apply cN_le) <;> omega) | ((with_reducible apply cI_len) <;> omega) | ((with_reducible apply cI_nle) <;> omega) | (with_reducible exact cI_le)) (fun c190 => by exfalso; first | omega | exact absurd trivial c190 | exact c190) (fun c190 => ?_)
        refine g_goto 303 dX12_best_193 (by decide) ?_
        refine g_iinc dX12_best_303 rfl (by first | (with_reducible exact nI_1 _) | exact nI_1 _ | exact pk_m1 _ | rfl) (by decide) rfl ?_
        refine g_goto 121 dX12_best_306 (by decide) ?_
        exact g_drop _ (by repeat (first | exact trivial | refine ⟨Or.inr ⟨_, rfl⟩, ?_⟩ | refine ⟨Or.inl rfl, ?_⟩)) h4
      · rw [if_neg c1] at e
        refine g_iload dX12_best_187 rfl ?_
        refine g_iload_n dX12_best_189 rfl ?_
        refine n_icmp_le 196 dX12_best_190 (by decide) (by first | ((with_reducible apply cN_le) <;> omega) | ((with_reducible apply cI_len) <;> omega) | ((with_reducible apply cI_nle) <;> omega) | (with_reducible exact cI_le)) (fun c190 => ?_) (fun c190 => by exfalso; first | omega | exact absurd trivial c190 | exact c190)
        refine g_iconst (v := nI 0) dX12_best_196 (by decide) ?_
        refine g_istore dX12_best_197 (by decide) rfl ?_
        refine g_iconst (v := nI 0) dX12_best_199 (by decide) ?_
        refine g_istore dX12_best_200 (by decide) rfl ?_
        refine ms i I2 _ _ _ (by omega) g1 g2 (fun I3 g3 g4 v10 v11 => ?_) _
        have h4 := ih (i + 1) I3 (by omega) g3 g4
        cases hb : bst cf mf co i with
        | none =>
          rw [e, hb] at h4
          refine g_iload dX12_best_262 rfl ?_
          refine n_if_lt 291 dX12_best_264 (by decide) (cI_lt0) (fun c264 => ?_) (fun c264 => by exfalso; exact absurd (show ((-1 : Int32)).toInt < 0 by decide) c264)
          refine g_iload dX12_best_291 rfl ?_
          refine g_istore dX12_best_293 (by decide) rfl ?_
          refine g_iload dX12_best_295 rfl ?_
          refine g_istore dX12_best_297 (by decide) rfl ?_
          refine g_iload dX12_best_299 rfl ?_
          refine g_istore dX12_best_301 (by decide) rfl ?_
          refine g_iinc dX12_best_303 rfl (by first | (with_reducible exact nI_1 _) | exact nI_1 _ | exact pk_m1 _ | rfl) (by decide) rfl ?_
          refine g_goto 121 dX12_best_306 (by decide) ?_
          exact g_drop _ (by repeat (first | exact trivial | refine ⟨Or.inr ⟨_, rfl⟩, ?_⟩ | refine ⟨Or.inl rfl, ?_⟩)) h4
        | some v =>
          obtain ⟨b, l, c⟩ := v
          have hle := bst_le hb
          have hcl := hcst b
          rw [hcs] at hcl
          have hml := hmst b
          rw [e, hb] at h4
          dsimp only [bsV, bsL, bsC]
          by_cases c2 : l < mf i ∨ (mf i = l ∧ c ≤ cf i)
          · simp only [if_pos c2] at h4
            refine g_iload dX12_best_262 rfl ?_
            refine n_if_lt 291 dX12_best_264 (by decide) (by first | ((with_reducible apply cN_lt0) <;> omega) | (with_reducible exact cI_lt0)) (fun c264 => by exfalso; first | omega | exact absurd trivial c264 | exact c264) (fun c264 => ?_)
            refine g_iload dX12_best_267 rfl ?_
            refine g_iload dX12_best_269 rfl ?_
            refine n_icmp_gt 303 dX12_best_271 (by decide) (by first | ((with_reducible apply cN_lt) <;> omega) | ((with_reducible apply cI_ltn) <;> omega) | ((with_reducible apply cI_nlt) <;> omega) | (with_reducible exact cI_lt)) (fun c271 => ?_) (fun c271 => ?_)
            · skip
              refine g_iinc dX12_best_303 rfl (by first | (with_reducible exact nI_1 _) | exact nI_1 _ | exact pk_m1 _ | rfl) (by decide) rfl ?_
              refine g_goto 121 dX12_best_306 (by decide) ?_
              exact g_drop _ (by repeat (first | exact trivial | refine ⟨Or.inr ⟨_, rfl⟩, ?_⟩ | refine ⟨Or.inl rfl, ?_⟩)) h4
            · skip
              refine g_iload dX12_best_274 rfl ?_
              refine g_iload dX12_best_276 rfl ?_
              refine n_icmp_ne 291 dX12_best_278 (by decide) (by first | ((with_reducible apply cN_eq) <;> omega) | ((with_reducible apply cI_eqn) <;> omega) | exact Iff.rfl) (fun c278 => ?_) (fun c278 => ?_)
              · skip
                exfalso; omega
              · skip
                refine g_iload dX12_best_281 rfl ?_
                refine g_iload dX12_best_283 rfl ?_
                refine n_icmp_lt 291 dX12_best_285 (by decide) (by first | ((with_reducible apply cN_lt) <;> omega) | ((with_reducible apply cI_ltn) <;> omega) | ((with_reducible apply cI_nlt) <;> omega) | (with_reducible exact cI_lt)) (fun c285 => by exfalso; first | omega | exact absurd trivial c285 | exact c285) (fun c285 => ?_)
                refine g_goto 303 dX12_best_288 (by decide) ?_
                refine g_iinc dX12_best_303 rfl (by first | (with_reducible exact nI_1 _) | exact nI_1 _ | exact pk_m1 _ | rfl) (by decide) rfl ?_
                refine g_goto 121 dX12_best_306 (by decide) ?_
                exact g_drop _ (by repeat (first | exact trivial | refine ⟨Or.inr ⟨_, rfl⟩, ?_⟩ | refine ⟨Or.inl rfl, ?_⟩)) h4
          · simp only [if_neg c2] at h4
            refine g_iload dX12_best_262 rfl ?_
            refine n_if_lt 291 dX12_best_264 (by decide) (by first | ((with_reducible apply cN_lt0) <;> omega) | (with_reducible exact cI_lt0)) (fun c264 => by exfalso; first | omega | exact absurd trivial c264 | exact c264) (fun c264 => ?_)
            refine g_iload dX12_best_267 rfl ?_
            refine g_iload dX12_best_269 rfl ?_
            refine n_icmp_gt 303 dX12_best_271 (by decide) (by first | ((with_reducible apply cN_lt) <;> omega) | ((with_reducible apply cI_ltn) <;> omega) | ((with_reducible apply cI_nlt) <;> omega) | (with_reducible exact cI_lt)) (fun c271 => by exfalso; first | omega | exact absurd trivial c271 | exact c271) (fun c271 => ?_)
            refine g_iload dX12_best_274 rfl ?_
            refine g_iload dX12_best_276 rfl ?_
            refine n_icmp_ne 291 dX12_best_278 (by decide) (by first | ((with_reducible apply cN_eq) <;> omega) | ((with_reducible apply cI_eqn) <;> omega) | exact Iff.rfl) (fun c278 => ?_) (fun c278 => ?_)
            · skip
              refine g_iload dX12_best_291 rfl ?_
              refine g_istore dX12_best_293 (by decide) rfl ?_
              refine g_iload dX12_best_295 rfl ?_
              refine g_istore dX12_best_297 (by decide) rfl ?_
              refine g_iload dX12_best_299 rfl ?_
              refine g_istore dX12_best_301 (by decide) rfl ?_
              refine g_iinc dX12_best_303 rfl (by first | (with_reducible exact nI_1 _) | exact nI_1 _ | exact pk_m1 _ | rfl) (by decide) rfl ?_
              refine g_goto 121 dX12_best_306 (by decide) ?_
              exact g_drop _ (by repeat (first | exact trivial | refine ⟨Or.inr ⟨_, rfl⟩, ?_⟩ | refine ⟨Or.inl rfl, ?_⟩)) h4
            · skip
              refine g_iload dX12_best_281 rfl ?_
              refine g_iload dX12_best_283 rfl ?_
              refine n_icmp_lt 291 dX12_best_285 (by decide) (by first | ((with_reducible apply cN_lt) <;> omega) | ((with_reducible apply cI_ltn) <;> omega) | ((with_reducible apply cI_nlt) <;> omega) | (with_reducible exact cI_lt)) (fun c285 => ?_) (fun c285 => ?_)
              · skip
                refine g_iload dX12_best_291 rfl ?_
                refine g_istore dX12_best_293 (by decide) rfl ?_
                refine g_iload dX12_best_295 rfl ?_
                refine g_istore dX12_best_297 (by decide) rfl ?_
                refine g_iload dX12_best_299 rfl ?_
                refine g_istore dX12_best_301 (by decide) rfl ?_
                refine g_iinc dX12_best_303 rfl (by first | (with_reducible exact nI_1 _) | exact nI_1 _ | exact pk_m1 _ | rfl) (by decide) rfl ?_
                refine g_goto 121 dX12_best_306 (by decide) ?_
                exact g_drop _ (by repeat (first | exact trivial | refine ⟨Or.inr ⟨_, rfl⟩, ?_⟩ | refine ⟨Or.inl rfl, ?_⟩)) h4
              · skip
                exfalso; omega
  intro v8 v9 v10 v11
  exact g_drop _ (by repeat (first | exact trivial | refine ⟨Or.inr ⟨_, rfl⟩, ?_⟩ | refine ⟨Or.inl rfl, ?_⟩)) (lp (2 ^ np) 0 I1 (by omega) h1 rfl)
theorem t_best {w h : Nat} {I : pvI} {J : pvJ} {P : pvP} (hP : pvOkP P) (hD : mDim w h I) (hF : mF w h (I 203)) (hrd : mRead (w * h) (I 203)) {co m x : Int32} : pvMet mX12_best 5 0 0 [.ref 202, .int co, .int m, .int x] 224 I J P (mQL LB I J P (sp_best w h (I 203) co m x)) := by
  have hg := hF.1
  have hra := t_runAll (J := J) hP hD hF
  have hD' := hD
  obtain ⟨hw, hh, hw2, hh2⟩ := hD
  have hwh : 4 ≤ w * h ∧ w * h ≤ 64 := ⟨Nat.mul_le_mul hw2.1 hh2.1, Nat.mul_le_mul hw2.2 hh2.2⟩
  obtain ⟨ns, ns_b, ns_h⟩ := hg 3 (by decide)
  replace ns_b : ns ≤ 8 := ns_b
  have ns_e : cnt (I 203) 3 = ns := cnt_of ns_h (by omega)
  obtain ⟨clk, clk_b, clk_h⟩ := hg 0 (by decide)
  replace clk_b : clk ≤ 100 := clk_b
  have clk_e : cnt (I 203) 0 = clk := cnt_of clk_h (by omega)
  refine pvMet.of _ (by decide) rfl (Nat.le_of_ble_eq_true rfl) ?_
  refine g_iload_n dX12_best_0 rfl ?_
  refine g_iconst (v := nI 0) dX12_best_1 (by decide) ?_
  refine g_ldcw (v := nI 99999) dX12_best_2 kcX12_369 ?_
  refine p_callS (t_isIn (by first | exact nI_toInt (by omega) | exact pk_sub_toInt (by omega) (by omega)) (by first | exact nI_toInt (by omega) | exact pk_sub_toInt (by omega) (by omega))) okX12_isIn lkX12_96 rfl dX12_best_5 rfl (Nat.le_of_ble_eq_true rfl) (⟨by decide, by decide, by decide, by decide⟩) ?_
  refine n_if_eq 49 dX12_best_8 (by decide) (by first | (with_reducible exact cB _) | ((with_reducible apply cN_eq0) <;> omega) | exact Iff.rfl) (fun c8 => ?_) (fun c8 => ?_)
  · skip
    refine g_iconst (v := (-1)) dX12_best_49 (by decide) ?_
    exact g_iret dX12_best_50 rfl (⟨rfl, rfl, by rw [sp_best, if_neg (by omega)], mfix.rf, rfl⟩)
  · skip
    refine g_iload_n dX12_best_11 rfl ?_
    refine p_callS (t_isWeek) okX12_isWeek lkX12_115 rfl dX12_best_12 rfl (Nat.le_of_ble_eq_true rfl) (⟨by decide, by decide, by decide, by decide⟩) ?_
    refine n_if_eq 49 dX12_best_15 (by decide) (by first | (with_reducible exact cB _) | ((with_reducible apply cN_eq0) <;> omega) | exact Iff.rfl) (fun c15 => ?_) (fun c15 => ?_)
    · skip
      refine g_iconst (v := (-1)) dX12_best_49 (by decide) ?_
      exact g_iret dX12_best_50 rfl (⟨rfl, rfl, by rw [sp_best, if_neg (by omega)], mfix.rf, rfl⟩)
    · skip
      refine g_iload_n dX12_best_18 rfl ?_
      refine g_aload_n dX12_best_19 rfl ?_
      refine g_getP dX12_best_20 fdX12_7 rfl (by first | rfl | exact pv_shx) (by omega) (by omega) (by decide) rfl (hP _ _ _ rfl) ?_
      refine g_iconst (v := nI 0) dX12_best_23 (by decide) ?_
      refine n_iald dX12_best_24 (by first | rfl | exact pv_shx) (by omega) (by omega) (by decide) (rfl) (by omega) (by repeat (first | exact clk_h | (apply rd_s; done) | apply rd_n (by omega) | apply rp_s | apply rp_n (by omega) | (apply rdL_s; done) | apply rdL_n (by omega) | apply rpJ_s | apply rpJ_n (by omega) | rfl)) ?_
      refine g_aload_n dX12_best_25 rfl ?_
      refine g_getP dX12_best_26 fdX12_7 rfl (by first | rfl | exact pv_shx) (by omega) (by omega) (by decide) rfl (hP _ _ _ rfl) ?_
      refine g_iconst (v := nI 0) dX12_best_29 (by decide) ?_
      refine n_iald dX12_best_30 (by first | rfl | exact pv_shx) (by omega) (by omega) (by decide) (rfl) (by omega) (by repeat (first | exact clk_h | (apply rd_s; done) | apply rd_n (by omega) | apply rp_s | apply rp_n (by omega) | (apply rdL_s; done) | apply rdL_n (by omega) | apply rpJ_s | apply rpJ_n (by omega) | rfl)) ?_
      refine g_bipush (v := nI 30) dX12_best_31 (by decide) ?_
      refine n_iadd dX12_best_33 (by first | (with_reducible exact nI_add _ _) | rfl) ?_
      refine p_callS (t_isIn (L := clk) (H := clk + 30) (nI_toInt (by omega)) (nI_toInt (by omega))) okX12_isIn lkX12_96 rfl dX12_best_34 rfl (Nat.le_of_ble_eq_true rfl) (⟨by decide, by decide, by decide, by decide⟩) ?_
      refine n_if_eq 49 dX12_best_37 (by decide) (by first | (with_reducible exact cB _) | ((with_reducible apply cN_eq0) <;> omega) | exact Iff.rfl) (fun c37 => ?_) (fun c37 => ?_)
      · skip
        refine g_iconst (v := (-1)) dX12_best_49 (by decide) ?_
        exact g_iret dX12_best_50 rfl (⟨rfl, rfl, by rw [sp_best, if_neg (by omega)], mfix.rf, rfl⟩)
      · skip
        refine g_iload_n dX12_best_40 rfl ?_
        refine g_iconst (v := nI 0) dX12_best_41 (by decide) ?_
        refine g_iconst (v := nI 2) dX12_best_42 (by decide) ?_
        refine p_callS (t_isIn (by first | exact nI_toInt (by omega) | exact pk_sub_toInt (by omega) (by omega)) (by first | exact nI_toInt (by omega) | exact pk_sub_toInt (by omega) (by omega))) okX12_isIn lkX12_96 rfl dX12_best_43 rfl (Nat.le_of_ble_eq_true rfl) (⟨by decide, by decide, by decide, by decide⟩) ?_
        refine n_if_ne 51 dX12_best_46 (by decide) (by first | (with_reducible exact cB _) | ((with_reducible apply cN_eq0) <;> omega) | exact Iff.rfl) (fun c46 => ?_) (fun c46 => ?_)
        · skip
          obtain ⟨mn, hmn, rfl⟩ := cI_of (x := m) (n := 100) (by omega) (by omega) (by omega)
          obtain ⟨cn, hcn, rfl⟩ := cI_of (x := co) (n := 100000) (by omega) (by omega) (by omega)
          have hx : 0 ≤ x.toInt ∧ x.toInt ≤ 2 := by omega
          have hans : sp_best w h (I 203) (nI cn) (nI mn) x = if nLet w h (I 203) clk = 0 then -1 else bsAns (bestO w h (I 203) cn mn) x := by rw [sp_best, if_pos (by omega), nI_clamp (by omega : mn < 2 ^ 31), nI_clamp (by omega : cn < 2 ^ 31), clk_e]; rfl
          rw [hans]
          refine g_aload_n dX12_best_51 rfl ?_
          refine g_callV (hra) okX12_runAll lkX12_149 rfl (by first | rfl | exact pv_shx) rfl (by omega) (by omega) dX12_best_52 rfl (Nat.le_of_ble_eq_true rfl) (⟨by decide, by decide, by decide, by decide⟩) ?_
          rintro v nx' I1 J' P' ⟨rfl, rfl, rfl, rfl, g1, g2⟩
          have a1 := (tb_move (w := w) (h := h) g1).1
          have c1 : I1 203 0 = nI clk := by rw [a1]; exact clk_h
          have b2 := nLet_le (w := w) (h := h) (a := I 203) (kn := clk)
          have ml := t_manyLet (w := w) (h := h) (J := J') (kn := clk) hP a1 hg hF.2.1 hrd hwh.2 (by omega) g2
          rw [← show nLet w h (I 203) clk = sp_ct (fun s => letB w h (I 203) s clk = true) (cnt (I 203) 3) from rfl] at ml
          refine g_aload_n dX12_best_55 rfl ?_
          refine g_aload_n dX12_best_56 rfl ?_
          refine g_getP dX12_best_57 fdX12_7 rfl (by first | rfl | exact pv_shx) (by omega) (by omega) (by decide) rfl (hP _ _ _ rfl) ?_
          refine g_iconst (v := nI 0) dX12_best_60 (by decide) ?_
          refine n_iald dX12_best_61 (by first | rfl | exact pv_shx) (by omega) (by omega) (by decide) (rfl) (by omega) (c1) ?_
          refine p_callV (ml) okX12_manyLet lkX12_152 rfl (by first | rfl | exact pv_shx) rfl (by omega) (by omega) dX12_best_62 rfl (Nat.le_of_ble_eq_true rfl) (⟨by decide, by decide, by decide, by decide⟩) ?_
          refine n_if_ne 70 dX12_best_65 (by decide) (by first | (with_reducible exact cB _) | ((with_reducible apply cN_eq0) <;> omega) | exact Iff.rfl) (fun c65 => ?_) (fun c65 => ?_)
          · skip
            rw [if_neg (by omega)]
            generalize hZ : pvZ (mQL LB I J' P' (bsAns (bestO w h (I 203) cn mn) x)) 0 0 = Z
            have lp : ∀ q i I2, i + q = ns → (∀ k, k ≠ 224 → I2 k = I1 k) → (∀ s, s < i → I2 224 s = if letB w h (I 203) s clk = true then 1 else 0) → pvG mX12_best (pvR 5 0 0) Z 73 [.ref 202, .int (nI cn), .int (nI mn), .int x, .int (nI i), .retAddr 0, .retAddr 0, .retAddr 0, .retAddr 0, .retAddr 0, .retAddr 0, .retAddr 0] [] 0 0 224 I2 J' P' := by
              intro q
              induction q with
              | zero =>
                intro i I2 hi r1 r2
                obtain rfl : i = ns := by omega
                have n2 : I2 203 3 = nI i := by rw [r1 203 (by decide), a1]; exact ns_h
                refine g_iload dX12_best_73 rfl ?_
                refine g_aload_n dX12_best_75 rfl ?_
                refine g_getP dX12_best_76 fdX12_7 rfl (by first | rfl | exact pv_shx) (by omega) (by omega) (by decide) rfl (hP _ _ _ rfl) ?_
                refine g_iconst (v := nI 3) dX12_best_79 (by decide) ?_
                refine n_iald dX12_best_80 (by first | rfl | exact pv_shx) (by omega) (by omega) (by decide) (rfl) (by omega) (n2) ?_
                refine n_icmp_ge 109 dX12_best_81 (by decide) (by first | ((with_reducible apply cN_le) <;> omega) | ((with_reducible apply cI_len) <;> omega) | ((with_reducible apply cI_nle) <;> omega) | (with_reducible exact cI_le)) (fun c81 => ?_) (fun c81 => by exfalso; first | omega | exact absurd trivial c81 | exact c81)
                refine g_iconst (v := (-1)) dX12_best_109 (by decide) ?_
                refine g_istore dX12_best_110 (by decide) rfl ?_
                refine g_iconst (v := nI 0) dX12_best_112 (by decide) ?_
                refine g_istore dX12_best_113 (by decide) rfl ?_
                refine g_iconst (v := nI 0) dX12_best_115 (by decide) ?_
                refine g_istore dX12_best_116 (by decide) rfl ?_
                refine g_iconst (v := nI 0) dX12_best_118 (by decide) ?_
                refine g_istore dX12_best_119 (by decide) rfl ?_
                exact b_sets (w := w) (h := h) (I := I) (I1 := I2) hP hD' hF (by omega) (by omega) hx (fun k hk => by rw [r1 k (by simp at hk; omega)]; exact g1 k (by simp at hk ⊢; omega)) (by rw [ns_e, clk_e]; exact r2) hZ _ _ _ _
              | succ q ih =>
                intro i I2 hi r1 r2
                have a2 : I2 203 = I 203 := by rw [r1 203 (by decide), a1]
                have n2 : I2 203 3 = nI ns := by rw [a2]; exact ns_h
                have c2 : I2 203 0 = nI clk := by rw [a2]; exact clk_h
                have tb2 : tbOk w h (I 203) I2 (cnt (I 203) 3) := ⟨fun s m c h1 h2 h3 => by rw [r1 215 (by decide)]; exact g2.1 s m c h1 h2 h3, fun s h1 => by rw [r1 216 (by decide)]; exact g2.2 s h1⟩
                have il := t_isLet (w := w) (h := h) (I := I2) (J := J') (P := P') (s := i) (kn := clk) hP a2 hg hF.2.1 hrd hwh.2 (by omega) (by omega) tb2
                have h4 := ih (i + 1) (pvs I2 224 (upd (I2 224) i (if letB w h (I 203) i clk = true then 1 else 0))) (by omega) (fun k hk => by rw [pvs_ne hk]; exact r1 k hk) (fun s hs => by
                  rw [pvs_eq]
                  by_cases e : s = i
                  · subst e; simp [upd]
                  · simp only [upd, if_neg e]; exact r2 s (by omega))
                refine g_iload dX12_best_73 rfl ?_
                refine g_aload_n dX12_best_75 rfl ?_
                refine g_getP dX12_best_76 fdX12_7 rfl (by first | rfl | exact pv_shx) (by omega) (by omega) (by decide) rfl (hP _ _ _ rfl) ?_
                refine g_iconst (v := nI 3) dX12_best_79 (by decide) ?_
                refine n_iald dX12_best_80 (by first | rfl | exact pv_shx) (by omega) (by omega) (by decide) (rfl) (by omega) (n2) ?_
                refine n_icmp_ge 109 dX12_best_81 (by decide) (by first | ((with_reducible apply cN_le) <;> omega) | ((with_reducible apply cI_len) <;> omega) | ((with_reducible apply cI_nle) <;> omega) | (with_reducible exact cI_le)) (fun c81 => by exfalso; first | omega | exact absurd trivial c81 | exact c81) (fun c81 => ?_)
                refine g_aload_n dX12_best_84 rfl ?_
                refine g_getP dX12_best_85 fdX12_83 rfl (by first | rfl | exact pv_shx) (by omega) (by omega) (by decide) rfl (hP _ _ _ rfl) ?_
                refine g_iload dX12_best_88 rfl ?_
                refine g_aload_n dX12_best_90 rfl ?_
                refine g_iload dX12_best_91 rfl ?_
                refine g_aload_n dX12_best_93 rfl ?_
                refine g_getP dX12_best_94 fdX12_7 rfl (by first | rfl | exact pv_shx) (by omega) (by omega) (by decide) rfl (hP _ _ _ rfl) ?_
                refine g_iconst (v := nI 0) dX12_best_97 (by decide) ?_
                refine n_iald dX12_best_98 (by first | rfl | exact pv_shx) (by omega) (by omega) (by decide) (rfl) (by omega) (c2) ?_
                refine p_callV (il) okX12_isLet lkX12_145 rfl (by first | rfl | exact pv_shx) rfl (by omega) (by omega) dX12_best_99 rfl (Nat.le_of_ble_eq_true rfl) (⟨by decide, by decide, by decide, by decide⟩) ?_
                refine n_zast (by first | exact Or.inl rfl | exact Or.inr rfl | exact cB01 _) dX12_best_102 (by first | rfl | exact pv_shx) (by omega) (by omega) (by omega) (by decide) (rfl) (by omega) (by repeat (first | exact pvu_s | exact pvuJ_s | apply pvu_in (by omega) | apply pvuJ_in (by omega) | exact pvu_pvs | exact pvuJ_pvs)) ?_
                refine g_iinc dX12_best_103 rfl (by first | (with_reducible exact nI_1 _) | exact nI_1 _ | exact pk_m1 _ | rfl) (by decide) rfl ?_
                refine g_goto 73 dX12_best_106 (by decide) ?_
                exact g_drop _ (by repeat (first | exact trivial | refine ⟨Or.inr ⟨_, rfl⟩, ?_⟩ | refine ⟨Or.inl rfl, ?_⟩)) h4
            refine g_iconst (v := nI 0) dX12_best_70 (by decide) ?_
            refine g_istore dX12_best_71 (by decide) rfl ?_
            exact g_drop _ (by repeat (first | exact trivial | refine ⟨Or.inr ⟨_, rfl⟩, ?_⟩ | refine ⟨Or.inl rfl, ?_⟩)) (lp ns 0 I1 (by omega) (fun k _ => rfl) (fun s hs => absurd hs (Nat.not_lt_zero s)))
          · skip
            refine g_iconst (v := (-1)) dX12_best_68 (by decide) ?_
            exact g_iret dX12_best_69 rfl (⟨rfl, rfl, by rw [if_pos (by omega)], g1.lr, rfl⟩)
        · skip
          refine g_iconst (v := (-1)) dX12_best_49 (by decide) ?_
          exact g_iret dX12_best_50 rfl (⟨rfl, rfl, by rw [sp_best, if_neg (by omega)], mfix.rf, rfl⟩)
