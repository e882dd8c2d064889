/-! model: sums, by depth -/
section MSUM2
variable {tx : Nat → Nat} {n t0 srt : Nat} {I0 : pvI} {J0 : pvJ} {P : pvP} {Q : pvQT}
abbrev mBad (tx : Nat → Nat) (n t0 : Nat) (I0 : pvI) (J0 : pvJ) (P : pvP) (Q : pvQT) (r : pR) : Prop := ∀ f kf, r = .error (f, kf) → ∀ I' J' pl' op' wh' cd', mS tx n t0 I0 J0 I' J' kf pl' op' wh' cd' → Q (some (.int (nI f))) 224 I' J' P
def oneL (tx : Nat → Nat) (n t0 srt : Nat) (I0 : pvI) (J0 : pvJ) (P : pvP) (Q : pvQT) (D : Nat) : Prop := ∀ k pl op cd I J, op + D = 8 → mS tx n t0 I0 J0 I J k pl op false cd → nOp pl ≤ op → pl.length ≤ 3 * op + 2 → cd.length + pl.length ≤ k → plV pl →
  mBad tx n t0 I0 J0 P Q (rdO (tkK tx n) srt n D k) → (∀ e k2, rdO (tkK tx n) srt n D k = .ok (e, k2) → ∀ I' J', mS tx n t0 I0 J0 I' J' k2 (wEnd pl op (cd ++ e)).1 (wEnd pl op (cd ++ e)).2.1 true (wEnd pl op (cd ++ e)).2.2 → cd.length + e.length + pl.length ≤ k2 → k < k2 ∧ k2 ≤ n → HD P Q I' J') → HD P Q I J
def trmL (tx : Nat → Nat) (n t0 srt : Nat) (I0 : pvI) (J0 : pvJ) (P : pvP) (Q : pvQT) (D : Nat) : Prop := ∀ k lo op cd I J, op + D = 8 → mS tx n t0 I0 J0 I J k lo op false cd → nOp lo ≤ op → lo.length ≤ 3 * op + 1 → cd.length + lo.length ≤ k → plV lo → (∀ x r, lo = x :: r → x = 3 ∨ x = 4 ∨ x = 40) →
  mBad tx n t0 I0 J0 P Q (rdT (tkK tx n) n (rdO (tkK tx n) srt n D) k) → (∀ e k2, rdT (tkK tx n) n (rdO (tkK tx n) srt n D) k = .ok (e, k2) → ∀ I' J' pl' cd', mS tx n t0 I0 J0 I' J' k2 pl' op true cd' → stl 5 pl' cd' = (lo, cd ++ e) → nOp pl' ≤ op → pl'.length ≤ lo.length + 1 → cd'.length + pl'.length ≤ k2 → plV pl' → ¬ (tkK tx n k2 = 42 ∨ tkK tx n k2 = 47) → k < k2 ∧ k2 ≤ n → HD P Q I' J') → HD P Q I J
def sumL (tx : Nat → Nat) (n t0 srt : Nat) (I0 : pvI) (J0 : pvJ) (P : pvP) (Q : pvQT) (D : Nat) : Prop := ∀ k ba op cd I J, op + D = 8 → mS tx n t0 I0 J0 I J k ba op false cd → nOp ba ≤ op → ba.length ≤ 3 * op → cd.length + ba.length ≤ k → plV ba → (∀ x r, ba = x :: r → x = 40) →
  mBad tx n t0 I0 J0 P Q (rdS (tkK tx n) n (rdO (tkK tx n) srt n D) k) → (∀ e k2, rdS (tkK tx n) n (rdO (tkK tx n) srt n D) k = .ok (e, k2) → ∀ I' J' pl' cd', mS tx n t0 I0 J0 I' J' k2 pl' op true cd' → stl 3 pl' cd' = (ba, cd ++ e) → nOp pl' ≤ op → pl'.length ≤ ba.length + 2 → cd'.length + pl'.length ≤ k2 → plV pl' → ¬ (tkK tx n k2 = 42 ∨ tkK tx n k2 = 47) → ¬ (tkK tx n k2 = 43 ∨ tkK tx n k2 = 45) → k < k2 ∧ k2 ≤ n → HD P Q I' J') → HD P Q I J
theorem stl_stop {le : Nat} {lo cd : List Nat} (h : ∀ x r, lo = x :: r → ¬ (le ≤ x ∧ x < 40)) : stl le lo cd = (lo, cd) := by
  cases lo with
  | nil => rfl
  | cons x r => exact if_neg (h x r rfl)
theorem wEnd_stop {lo cd : List Nat} {op : Nat} (h : ∀ x r, lo = x :: r → x ≠ 2) : wEnd lo op cd = (lo, op, cd) := by
  cases lo with
  | nil => rfl
  | cons x r => exact if_neg (h x r rfl)
theorem nOp_op {x : Nat} {r : List Nat} (h : 3 ≤ x ∧ x ≤ 6) : nOp (x :: r) = nOp r := by
  show (if x = 2 ∨ x = 40 then 1 else 0) + nOp r = nOp r
  rw [if_neg (by omega)]; omega
theorem mS.k300 {I : pvI} {J : pvJ} {k : Nat} (h0 : mS0 tx n t0 srt I0) (hk : tkK tx n k ≠ 0) : k + 1 ≤ 300 := by
  have := tkK_lt hk
  have := h0.1.2.1
  omega
theorem t_goes1 {I : pvI} {J : pvJ} {k : Nat} {pl : List Nat} {op : Nat} {wh : Bool} {cd : List Nat} (hP : pvOkP P) (h : mS tx n t0 I0 J0 I J k pl op wh cd) (h3 : pl.length ≤ 160) (h5 : plV pl) (hT : tkK tx n k = 43 ∨ tkK tx n k = 45 ∨ tkK tx n k = 42 ∨ tkK tx n k = 47 ∨ (tkK tx n k = 41 ∧ 40 ∈ pl)) : pvMet mX12_goesOn 1 0 0 [.ref 202] 224 I J P (pvpu (.int 1) 224 I J P) := by
  have := t_goesOn (P := P) hP h rfl h3 h5
  rwa [if_pos hT] at this
theorem t_goes0 {I : pvI} {J : pvJ} {k : Nat} {pl : List Nat} {op : Nat} {wh : Bool} {cd : List Nat} (hP : pvOkP P) (h : mS tx n t0 I0 J0 I J k pl op wh cd) (h3 : pl.length ≤ 160) (h5 : plV pl) (hT : ¬ (tkK tx n k = 43 ∨ tkK tx n k = 45 ∨ tkK tx n k = 42 ∨ tkK tx n k = 47 ∨ (tkK tx n k = 41 ∧ 40 ∈ pl))) : pvMet mX12_goesOn 1 0 0 [.ref 202] 224 I J P (pvpu (.int 0) 224 I J P) := by
  have := t_goesOn (P := P) hP h rfl h3 h5
  rwa [if_neg hT] at this
theorem q_trm (hP : pvOkP P) (h0 : mS0 tx n t0 srt I0) {D : Nat} (hO : oneL tx n t0 srt I0 J0 P Q D) : trmL tx n t0 srt I0 J0 P Q D := by
  intro k lo op cd I J hD hs hn hl hb hV hlo bad kk
  have hlo2 : ∀ x r, lo = x :: r → x ≠ 2 := fun x r e => by have := hlo x r e; omega
  have hlo5 : ∀ x r, lo = x :: r → ¬ (5 ≤ x ∧ x < 40) := fun x r e => by have := hlo x r e; omega
  unfold rdT at bad kk
  have lp : ∀ f e k' I' J' pl' cd', n ≤ k' + f → mS tx n t0 I0 J0 I' J' k' pl' op true cd' → stl 5 pl' cd' = (lo, cd ++ e) → nOp pl' ≤ op → pl'.length ≤ lo.length + 1 → cd'.length + pl'.length ≤ k' → plV pl' → k < k' ∧ k' ≤ n →
      mBad tx n t0 I0 J0 P Q (rdP (tkK tx n) (rdO (tkK tx n) srt n D) f e k') → (∀ e2 k2, rdP (tkK tx n) (rdO (tkK tx n) srt n D) f e k' = .ok (e2, k2) → ∀ I' J' pl' cd', mS tx n t0 I0 J0 I' J' k2 pl' op true cd' → stl 5 pl' cd' = (lo, cd ++ e2) → nOp pl' ≤ op → pl'.length ≤ lo.length + 1 → cd'.length + pl'.length ≤ k2 → plV pl' → ¬ (tkK tx n k2 = 42 ∨ tkK tx n k2 = 47) → k < k2 ∧ k2 ≤ n → HD P Q I' J') → HD P Q I' J' := by
    intro f
    induction f with
    | zero =>
      intro e k' I' J' pl' cd' hk hs' he hn' hl' hb' hV' hkn bad' kk'
      exact kk' e k' rfl I' J' pl' cd' hs' he hn' hl' hb' hV' (by rw [tkK_end (by omega)]; decide) hkn
    | succ f ih =>
      intro e k' I' J' pl' cd' hk hs' he hn' hl' hb' hV' hkn bad' kk'
      have es : rdP (tkK tx n) (rdO (tkK tx n) srt n D) (f + 1) e k' = if tkK tx n k' = 42 ∨ tkK tx n k' = 47 then (match rdO (tkK tx n) srt n D (k' + 1) with
        | .ok (e2, k2) => rdP (tkK tx n) (rdO (tkK tx n) srt n D) f (e ++ e2 ++ [20000 + tkK tx n k']) k2
        | .error x => .error x) else .ok (e, k') := rfl
      by_cases c : tkK tx n k' = 42 ∨ tkK tx n k' = 47
      · rw [es, if_pos c] at bad' kk'
        have hk3 := mS.k300 (I := I') (J := J') h0 (k := k') (by omega)
        have hbh := t_behind_op (P := P) (T := tkK tx n k') (le := 5) hP h0 hs' rfl (Or.inr ⟨c, rfl⟩) (by omega) (by omega) hV'
        rw [he] at hbh
        have hob := opP_b (T := tkK tx n k')
        have hsl := stl_len (le := 5) (pl := pl') (cd := cd')
        rw [he] at hsl
        replace hsl : lo.length + (cd ++ e).length = pl'.length + cd'.length ∧ lo.length ≤ pl'.length := hsl
        refine h_beh hs'.who (t_goes1 hP hs' (by omega) hV' (by omega)) hbh (fun I2 J2 s2 => ?_)
        refine hO (k' + 1) (opP' (tkK tx n k') :: lo) op (cd ++ e) I2 J2 hD s2 (by rw [nOp_op hob]; exact hn) (by rw [List.length_cons]; omega) (by rw [List.length_cons]; omega) (fun y hy => ?_) (fun f' kf hf => bad' f' kf (by rw [hf])) (fun e2 k2 h2 I3 J3 s3 hb3 hk2 => ?_)
        · rcases List.mem_cons.mp hy with rfl | h
          · omega
          · exact hV y h
        · rw [h2] at bad' kk'
          rw [wEnd_stop (fun x r e => by cases e; omega)] at s3
          replace s3 : mS tx n t0 I0 J0 I3 J3 k2 (opP' (tkK tx n k') :: lo) op true (cd ++ e ++ e2) := s3
          rw [List.length_cons] at hb3
          refine ih (e ++ e2 ++ [20000 + tkK tx n k']) k2 I3 J3 (opP' (tkK tx n k') :: lo) (cd ++ e ++ e2) (by omega) s3 ?_ (by rw [nOp_op hob]; exact hn) (by rw [List.length_cons]; omega) (by rw [List.length_append, List.length_cons]; omega) (fun y hy => ?_) (by omega) bad' kk'
          · have e5 : stl 5 (opP' (tkK tx n k') :: lo) (cd ++ e ++ e2) = stl 5 lo (cd ++ e ++ e2 ++ [opI (opP' (tkK tx n k'))]) := if_pos ⟨by rcases c with c | c <;> rw [c] <;> decide, by omega⟩
            rw [e5, stl_stop hlo5, opI_P (by omega)]
            simp only [List.append_assoc]
          · rcases List.mem_cons.mp hy with rfl | h
            · omega
            · exact hV y h
      · rw [es, if_neg c] at kk'
        exact kk' e k' rfl I' J' pl' cd' hs' he hn' hl' hb' hV' c hkn
  refine hO k lo op cd I J hD hs hn (by omega) hb hV (fun f' kf hf => bad f' kf (by rw [hf])) (fun e2 k2 h2 I3 J3 s3 hb3 hk2 => ?_)
  rw [h2] at bad kk
  rw [wEnd_stop hlo2] at s3
  replace s3 : mS tx n t0 I0 J0 I3 J3 k2 lo op true (cd ++ e2) := s3
  exact lp (n - k2) e2 k2 I3 J3 lo (cd ++ e2) (by omega) s3 (stl_stop hlo5) hn (by omega) (by rw [List.length_append]; omega) hV hk2 bad kk
theorem q_sum (hP : pvOkP P) (h0 : mS0 tx n t0 srt I0) {D : Nat} (hO : oneL tx n t0 srt I0 J0 P Q D) : sumL tx n t0 srt I0 J0 P Q D := by
  have hTm := q_trm hP h0 hO
  intro k ba op cd I J hD hs hn hl hb hV hba bad kk
  have hba3 : ∀ x r, ba = x :: r → ¬ (3 ≤ x ∧ x < 40) := fun x r e => by have := hba x r e; omega
  unfold rdS at bad kk
  have lp : ∀ f e k' I' J' pl' cd', n ≤ k' + f → mS tx n t0 I0 J0 I' J' k' pl' op true cd' → stl 3 pl' cd' = (ba, cd ++ e) → nOp pl' ≤ op → pl'.length ≤ ba.length + 2 → cd'.length + pl'.length ≤ k' → plV pl' → ¬ (tkK tx n k' = 42 ∨ tkK tx n k' = 47) → k < k' ∧ k' ≤ n →
      mBad tx n t0 I0 J0 P Q (rdL (tkK tx n) n (rdO (tkK tx n) srt n D) f e k') → (∀ e2 k2, rdL (tkK tx n) n (rdO (tkK tx n) srt n D) f e k' = .ok (e2, k2) → ∀ I' J' pl' cd', mS tx n t0 I0 J0 I' J' k2 pl' op true cd' → stl 3 pl' cd' = (ba, cd ++ e2) → nOp pl' ≤ op → pl'.length ≤ ba.length + 2 → cd'.length + pl'.length ≤ k2 → plV pl' → ¬ (tkK tx n k2 = 42 ∨ tkK tx n k2 = 47) → ¬ (tkK tx n k2 = 43 ∨ tkK tx n k2 = 45) → k < k2 ∧ k2 ≤ n → HD P Q I' J') → HD P Q I' J' := by
    intro f
    induction f with
    | zero =>
      intro e k' I' J' pl' cd' hk hs' he hn' hl' hb' hV' hx hkn bad' kk'
      exact kk' e k' rfl I' J' pl' cd' hs' he hn' hl' hb' hV' hx (by rw [tkK_end (by omega)]; decide) hkn
    | succ f ih =>
      intro e k' I' J' pl' cd' hk hs' he hn' hl' hb' hV' hx hkn bad' kk'
      have es : rdL (tkK tx n) n (rdO (tkK tx n) srt n D) (f + 1) e k' = if tkK tx n k' = 43 ∨ tkK tx n k' = 45 then (match rdT (tkK tx n) n (rdO (tkK tx n) srt n D) (k' + 1) with
        | .ok (e2, k2) => rdL (tkK tx n) n (rdO (tkK tx n) srt n D) f (e ++ e2 ++ [20000 + tkK tx n k']) k2
        | .error x => .error x) else .ok (e, k') := rfl
      by_cases c : tkK tx n k' = 43 ∨ tkK tx n k' = 45
      · rw [es, if_pos c] at bad' kk'
        have hk3 := mS.k300 (I := I') (J := J') h0 (k := k') (by omega)
        have hbh := t_behind_op (P := P) (T := tkK tx n k') (le := 3) hP h0 hs' rfl (Or.inl ⟨c, rfl⟩) (by omega) (by omega) hV'
        rw [he] at hbh
        have hob := opP_b (T := tkK tx n k')
        have hsl := stl_len (le := 3) (pl := pl') (cd := cd')
        rw [he] at hsl
        replace hsl : ba.length + (cd ++ e).length = pl'.length + cd'.length ∧ ba.length ≤ pl'.length := hsl
        have hV2 : plV (opP' (tkK tx n k') :: ba) := fun y hy => by
          rcases List.mem_cons.mp hy with rfl | h
          · omega
          · exact hV y h
        refine h_beh hs'.who (t_goes1 hP hs' (by omega) hV' (by omega)) hbh (fun I2 J2 s2 => ?_)
        refine hTm (k' + 1) (opP' (tkK tx n k') :: ba) op (cd ++ e) I2 J2 hD s2 (by rw [nOp_op hob]; exact hn) (by rw [List.length_cons]; omega) (by rw [List.length_cons]; omega) hV2 (fun x r hxr => ?_) (fun f' kf hf => bad' f' kf (by rw [hf])) (fun e2 k2 h2 I3 J3 pl3 cd3 s3 he3 hn3 hl3 hb3 hV3 hx3 hk2 => ?_)
        · cases hxr; rcases c with c | c <;> rw [c] <;> decide
        · rw [h2] at bad' kk'
          rw [List.length_cons] at hl3
          have hsl3 := stl_len (le := 5) (pl := pl3) (cd := cd3)
          rw [he3] at hsl3
          replace hsl3 : (opP' (tkK tx n k') :: ba).length + (cd ++ e ++ e2).length = pl3.length + cd3.length ∧ _ := hsl3
          rw [List.length_cons, List.length_append] at hsl3
          refine ih (e ++ e2 ++ [20000 + tkK tx n k']) k2 I3 J3 pl3 cd3 (by omega) s3 ?_ hn3 (by omega) hb3 hV3 hx3 (by omega) bad' kk'
          rw [stl_35, he3]
          have e5 : stl 3 (opP' (tkK tx n k') :: ba) (cd ++ e ++ e2) = stl 3 ba (cd ++ e ++ e2 ++ [opI (opP' (tkK tx n k'))]) := if_pos ⟨by omega, by omega⟩
          show stl 3 (opP' (tkK tx n k') :: ba) (cd ++ e ++ e2) = _
          rw [e5, stl_stop hba3, opI_P (by omega)]
          simp only [List.append_assoc]
      · rw [es, if_neg c] at kk'
        exact kk' e k' rfl I' J' pl' cd' hs' he hn' hl' hb' hV' hx c hkn
  refine hTm k ba op cd I J hD hs hn (by omega) hb hV (fun x r e => Or.inr (Or.inr (hba x r e))) (fun f' kf hf => bad f' kf (by rw [hf])) (fun e2 k2 h2 I3 J3 pl3 cd3 s3 he3 hn3 hl3 hb3 hV3 hx3 hk2 => ?_)
  rw [h2] at bad kk
  exact lp (n - k2) e2 k2 I3 J3 pl3 cd3 (by omega) s3 (by rw [stl_35, he3]; exact stl_stop hba3) hn3 (by omega) hb3 hV3 hx3 hk2 bad kk
theorem q_atom (hP : pvOkP P) (h0 : mS0 tx n t0 srt I0) {D k : Nat} {pl : List Nat} {op : Nat} {cd : List Nat} {I : pvI} {J : pvJ} (hD : op ≤ 8) (hs : mS tx n t0 I0 J0 I J k pl op false cd) (hn : nOp pl ≤ op) (hl : pl.length ≤ 3 * op + 2) (hb : cd.length + pl.length ≤ k) (hV : plV pl) (hT : ¬ (tkK tx n k = 40 ∨ tkK tx n k = 45)) (bad : mBad tx n t0 I0 J0 P Q (atomT (tkK tx n) srt k))
    (kk : ∀ e k2, atomT (tkK tx n) srt k = .ok (e, k2) → ∀ I' J', mS tx n t0 I0 J0 I' J' k2 (wEnd pl op (cd ++ e)).1 (wEnd pl op (cd ++ e)).2.1 true (wEnd pl op (cd ++ e)).2.2 → cd.length + e.length + pl.length ≤ k2 → k < k2 ∧ k2 ≤ n → HD P Q I' J') : HD P Q I J := by
  have htk := tokR_b hs.tok
  by_cases c : bgF srt op (tkK tx n k) = 0
  · have h207 : 207 ≤ tkK tx n k := by
      unfold bgF at c
      by_cases c1 : 1000 ≤ tkK tx n k
      · omega
      · rw [if_neg c1] at c
        by_cases c2 : 207 ≤ tkK tx n k
        · exact c2
        · rw [if_neg c2, if_neg hT] at c; cases c
    have ea : atomT (tkK tx n) srt k = .ok ([atI (tkK tx n k)], k + 1) := by
      unfold atomT atI
      unfold bgF at c
      by_cases c1 : 1000 ≤ tkK tx n k
      · rw [if_pos c1] at c ⊢
        rw [if_pos c1]
        by_cases c2 : 10999 < tkK tx n k
        · rw [if_pos c2] at c; cases c
        · rw [if_neg c2]
      · rw [if_neg c1] at c ⊢
        rw [if_neg c1]
        rw [if_pos h207] at c ⊢
        by_cases c2 : barB srt (tkK tx n k - 207) = true
        · rw [if_pos c2] at c; cases c
        · rw [if_neg c2]
    have hk3 := mS.k300 (I := I) (J := J) h0 (k := k) (by omega)
    refine h_beg0 hs.who (t_begin_atom hP h0 hs rfl hD c h207 hn (by omega) (by omega) hV) (fun I' J' s' => kk _ _ ea I' J' s' (by rw [List.length_singleton]; omega) (by have := tkK_lt (tx := tx) (n := n) (k := k) (by omega); omega))
  · have ea : atomT (tkK tx n) srt k = .error (bgF srt op (tkK tx n k), k) := by
      unfold atomT
      unfold bgF at c ⊢
      by_cases c1 : 1000 ≤ tkK tx n k
      · rw [if_pos c1] at c ⊢
        rw [if_pos c1]
        by_cases c2 : 10999 < tkK tx n k
        · rw [if_pos c2, if_pos c2]
        · rw [if_neg c2] at c; exact absurd rfl c
      · rw [if_neg c1] at c ⊢
        rw [if_neg c1]
        by_cases c3 : 207 ≤ tkK tx n k
        · rw [if_pos c3] at c ⊢
          rw [if_pos c3]
          by_cases c2 : barB srt (tkK tx n k - 207) = true
          · rw [if_pos c2, if_pos c2]
          · rw [if_neg c2] at c; exact absurd rfl c
        · rw [if_neg c3, if_neg c3, if_neg hT]
    have hlt : bgF srt op (tkK tx n k) < 10 := by
      unfold bgF
      repeat (first | omega | split)
    exact h_begF c hlt hs.who (t_begin_bad h0 hs rfl hD c) (fun I' J' s' => bad _ _ ea I' J' _ _ _ _ s')
theorem q_one (hP : pvOkP P) (h0 : mS0 tx n t0 srt I0) : ∀ D, oneL tx n t0 srt I0 J0 P Q D
  | 0 => by
    intro k pl op cd I J hD hs hn hl hb hV bad kk
    have es : rdO (tkK tx n) srt n 0 k = if tkK tx n k = 40 ∨ tkK tx n k = 45 then .error (3, k) else atomT (tkK tx n) srt k := rfl
    by_cases c : tkK tx n k = 40 ∨ tkK tx n k = 45
    · rw [es, if_pos c] at bad
      have hb3 : bgF srt op (tkK tx n k) = 3 := by unfold bgF; rw [if_neg (by omega), if_neg (by omega), if_pos c, if_pos (by omega)]
      exact h_begF (by rw [hb3]; decide) (by rw [hb3]; decide) hs.who (t_begin_bad h0 hs rfl (by omega) (by rw [hb3]; decide)) (fun I' J' s' => by rw [hb3]; exact bad 3 k rfl I' J' _ _ _ _ s')
    · rw [es, if_neg c] at bad kk
      exact q_atom hP h0 (D := 0) (by omega) hs hn hl hb hV c bad kk
  | D + 1 => by
    have hO := q_one hP h0 D
    have hS := q_sum hP h0 hO
    intro k pl op cd I J hD hs hn hl hb hV bad kk
    have es : rdO (tkK tx n) srt n (D + 1) k = if tkK tx n k = 40 then (match rdS (tkK tx n) n (rdO (tkK tx n) srt n D) (k + 1) with
      | .ok (e, k2) => if tkK tx n k2 = 41 then .ok (e, k2 + 1) else .error (1, k2)
      | .error x => .error x) else if tkK tx n k = 45 then (match rdO (tkK tx n) srt n D (k + 1) with
      | .ok (e, k2) => .ok (e ++ [40000], k2)
      | .error x => .error x) else atomT (tkK tx n) srt k := rfl
    by_cases c : tkK tx n k = 40
    · rw [es, if_pos c] at bad kk
      have hbo := t_begin_open (P := P) hP h0 hs rfl (by omega) (Or.inl c) (by omega)
      rw [if_pos c] at hbo
      have hV2 : plV (40 :: pl) := fun y hy => by
        rcases List.mem_cons.mp hy with rfl | h
        · omega
        · exact hV y h
      refine h_beg0 hs.who hbo (fun I2 J2 s2 => ?_)
      refine hS (k + 1) (40 :: pl) (op + 1) cd I2 J2 (by omega) s2 (by show 1 + nOp pl ≤ _; omega) (by rw [List.length_cons]; omega) (by rw [List.length_cons]; omega) hV2 (fun x r e => by cases e; rfl) (fun f' kf hf => bad f' kf (by rw [hf])) (fun e k2 h2 I3 J3 pl3 cd3 s3 he3 hn3 hl3 hb3 hV3 hx3 hy3 hk2 => ?_)
      rw [h2] at bad kk
      rw [List.length_cons] at hl3
      have hsl3 := stl_len (le := 3) (pl := pl3) (cd := cd3)
      rw [he3] at hsl3
      replace hsl3 : (40 :: pl).length + (cd ++ e).length = pl3.length + cd3.length ∧ _ := hsl3
      rw [List.length_cons, List.length_append] at hsl3
      have hm40 : 40 ∈ pl3 := by
        have : ∀ (l c : List Nat), 40 ∈ (stl 3 l c).1 → 40 ∈ l := by
          intro l
          induction l with
          | nil => intro c h; exact h
          | cons x r ih =>
            intro c h
            have e5 : stl 3 (x :: r) c = if 3 ≤ x ∧ x < 40 then stl 3 r (c ++ [opI x]) else (x :: r, c) := rfl
            rw [e5] at h
            split at h
            · exact List.mem_cons_of_mem _ (ih _ h)
            · exact h
        exact this pl3 cd3 (by rw [he3]; exact List.mem_cons_self ..)
      by_cases c2 : tkK tx n k2 = 41
      · simp only [if_pos c2] at kk
        have hk3 := mS.k300 (I := I3) (J := J3) h0 (k := k2) (by omega)
        refine h_beh s3.who (t_goes1 hP s3 (by omega) hV3 (Or.inr (Or.inr (Or.inr (Or.inr ⟨c2, hm40⟩))))) (t_behind_close hP h0 s3 c2 he3 hn3 (by omega) (by omega) (by omega) hV3) (fun I4 J4 s4 => ?_)
        rw [show op + 1 - 1 = op by omega] at s4
        exact kk e (k2 + 1) rfl I4 J4 s4 (by omega) (by have := tkK_lt (tx := tx) (n := n) (k := k2) (by omega); omega)
      · simp only [if_neg c2] at bad
        have hcd : cd3.length + pl3.length ≤ 320 := by have := h0.1.2.1; omega
        have st := t_settle (P := P) (le := 3) hP h0 s3 (by omega) (by omega) hcd hV3
        rw [he3] at st
        exact h_exit (by rw [List.length_cons]; omega) s3.who (t_goes0 hP s3 (by omega) hV3 (by omega)) st (fun I4 J4 s4 => by rw [if_neg (by rw [List.length_cons]; omega)]; exact bad 1 k2 rfl I4 J4 _ _ _ _ s4)
    · rw [if_neg c] at es
      by_cases c5 : tkK tx n k = 45
      · rw [es, if_pos c5] at bad kk
        have hbo := t_begin_open (P := P) hP h0 hs rfl (by omega) (Or.inr c5) (by omega)
        rw [if_neg c] at hbo
        have hV2 : plV (2 :: pl) := fun y hy => by
          rcases List.mem_cons.mp hy with rfl | h
          · omega
          · exact hV y h
        refine h_beg0 hs.who hbo (fun I2 J2 s2 => ?_)
        refine hO (k + 1) (2 :: pl) (op + 1) cd I2 J2 (by omega) s2 (by show 1 + nOp pl ≤ _; omega) (by rw [List.length_cons]; omega) (by rw [List.length_cons]; omega) hV2 (fun f' kf hf => bad f' kf (by rw [hf])) (fun e k2 h2 I3 J3 s3 hb3 hk2 => ?_)
        rw [h2] at kk
        have ew : wEnd (2 :: pl) (op + 1) (cd ++ e) = wEnd pl op (cd ++ (e ++ [40000])) := by
          rw [← List.append_assoc]; rfl
        rw [ew] at s3
        rw [List.length_cons] at hb3
        exact kk _ _ rfl I3 J3 s3 (by rw [List.length_append, List.length_singleton]; omega) (by omega)
      · rw [es, if_neg c5] at bad kk
        exact q_atom hP h0 (D := D + 1) (by omega) hs hn hl hb hV (by omega) bad kk
/-- summed: all of it -/
theorem t_summed {I : pvI} {J : pvJ} {k : Nat} {pl : List Nat} {op D : Nat} {wh : Bool} {cd : List Nat} (hP : pvOkP P) (h0 : mS0 tx n t0 srt I0) (h : mS tx n t0 I0 J0 I J k pl op wh cd) (hD : op + D = 8) (hb : cd.length ≤ k) (hkn : k ≤ n) : pvMet mX12_summed 5 0 0 [.ref 202] 224 I J P (pvq P (fun v I' J' => match rdS (tkK tx n) n (rdO (tkK tx n) srt n D) k with
    | .ok (e, k2) => v = some (.int (nI 0)) ∧ mS tx n t0 I0 J0 I' J' k2 [] op true (cd ++ e) ∧ cd.length + e.length ≤ k2 ∧ k < k2 ∧ k2 ≤ n ∧ (tkK tx n k2 ≠ 43 ∧ tkK tx n k2 ≠ 45 ∧ tkK tx n k2 ≠ 42 ∧ tkK tx n k2 ≠ 47)
    | .error (f, kf) => v = some (.int (nI f)) ∧ ∃ pl' op' wh' cd', mS tx n t0 I0 J0 I' J' kf pl' op' wh' cd')) := by
  have s1 := (h.none).p33 false
  rw [pvs_eq, pvs_pvs] at s1
  have hn300 := h0.1.2.1
  generalize hQ : (pvq P (fun v I' J' => match rdS (tkK tx n) n (rdO (tkK tx n) srt n D) k with
    | .ok (e, k2) => v = some (.int (nI 0)) ∧ mS tx n t0 I0 J0 I' J' k2 [] op true (cd ++ e) ∧ cd.length + e.length ≤ k2 ∧ k < k2 ∧ k2 ≤ n ∧ (tkK tx n k2 ≠ 43 ∧ tkK tx n k2 ≠ 45 ∧ tkK tx n k2 ≠ 42 ∧ tkK tx n k2 ≠ 47)
    | .error (f, kf) => v = some (.int (nI f)) ∧ ∃ pl' op' wh' cd', mS tx n t0 I0 J0 I' J' kf pl' op' wh' cd')) = Q
  have h6 : HD P Q (pvs I 202 (upd (upd (I 202) 31 (nI 0)) 33 0)) J := by
    refine q_sum hP h0 (q_one hP h0 D) k [] op cd _ J hD s1 (Nat.zero_le _) (Nat.zero_le _) (by simpa using hb) (fun y hy => by cases hy) (fun x r e => by cases e) (fun f kf hf I' J' pl' op' wh' cd' s' => ?_) (fun e k2 h2 I3 J3 pl3 cd3 s3 he3 hn3 hl3 hb3 hV3 hx3 hy3 hk2 => ?_)
    · rw [← hQ]
      refine ⟨rfl, rfl, ?_⟩
      rw [hf]
      exact ⟨rfl, pl', op', wh', cd', s'⟩
    · have hno : ¬ 40 ∈ pl3 := fun hm => by
        have : ∀ (l c : List Nat), 40 ∈ l → 40 ∈ (stl 3 l c).1 := by
          intro l
          induction l with
          | nil => intro c h; cases h
          | cons x r ih =>
            intro c h
            have e5 : stl 3 (x :: r) c = if 3 ≤ x ∧ x < 40 then stl 3 r (c ++ [opI x]) else (x :: r, c) := rfl
            rw [e5]
            split
            · rename_i hc
              rcases List.mem_cons.mp h with h | h
              · omega
              · exact ih _ h
            · exact h
        have h40 := this pl3 cd3 hm
        rw [he3] at h40
        cases h40
      have st := t_settle (P := P) (le := 3) hP h0 s3 (by omega) (by simp at hl3; omega) (by omega) hV3
      rw [he3] at st
      refine h_exit (Nat.zero_le _) s3.who (t_goes0 hP s3 (by simp at hl3; omega) hV3 (fun z => ?_)) st (fun I4 J4 s4 => ?_)
      · rcases z with z | z | z | z | z
        · omega
        · omega
        · omega
        · omega
        · exact hno z.2
      · rw [← hQ]
        refine ⟨rfl, rfl, ?_⟩
        rw [h2]
        have hsl3 := stl_len (le := 3) (pl := pl3) (cd := cd3)
        rw [he3] at hsl3
        replace hsl3 : 0 + (cd ++ e).length = pl3.length + cd3.length ∧ _ := hsl3
        rw [List.length_append] at hsl3
        exact ⟨rfl, s4, by omega, hk2.1, hk2.2, by omega⟩
  refine pvMet.of _ (by decide) rfl (Nat.le_of_ble_eq_true rfl) ?_
  refine g_aload_n dX12_summed_0 rfl ?_
  refine g_iconst (v := nI 0) dX12_summed_1 (by decide) ?_
  refine n_putI dX12_summed_2 fdX12_225 rfl (fun h => absurd h (by decide)) (by first | rfl | exact pv_shx) (by omega) (by omega) (by decide) rfl (by repeat (first | exact pvu_s | exact pvuJ_s | apply pvu_in (by omega) | apply pvuJ_in (by omega) | exact pvu_pvs | exact pvuJ_pvs)) ?_
  refine g_aload_n dX12_summed_5 rfl ?_
  refine g_iconst (v := nI 0) dX12_summed_6 (by decide) ?_
  refine n_putZ (by first | exact Or.inl rfl | exact Or.inr rfl | exact cB01 _) dX12_summed_7 fdX12_228 rfl (fun h => absurd h (by decide)) (by first | rfl | exact pv_shx) (by omega) (by omega) (by decide) rfl (by repeat (first | exact pvu_s | exact pvuJ_s | apply pvu_in (by omega) | apply pvuJ_in (by omega) | exact pvu_pvs | exact pvuJ_pvs)) ?_
  exact g_drop _ (by repeat (first | exact trivial | refine ⟨Or.inr ⟨_, rfl⟩, ?_⟩ | refine ⟨Or.inl rfl, ?_⟩)) h6
end MSUM2
