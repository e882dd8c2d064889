/-! model: the weeks' leaving -/
abbrev sp_tk (a : Nat → Int32) (p : Nat) : Prop := (a (1200 + 5 * p + 4)).toInt < 0 ∧ (cnt a 0 : Int) ≤ (a (1080 + 5 * cnt a (1200 + 5 * p) + 4)).toInt ∧ cnt a (1200 + 5 * p + 2) ≤ cnt a (1080 + 5 * cnt a (1200 + 5 * p) + 3) + 100 * cnt a (1200 + 5 * p + 3) + cnt a 14 * sp_ct (sp_kgP a (a (1200 + 5 * p + 1))) (cnt a 6)
def sp_step (a : Nat → Int32) (p : Nat) : Nat → Int32 := if sp_tk a p then upd (upd a (1200 + 5 * p + 4) (a 0)) 7 (a 7 + nI 1) else a
def sp_pass (a : Nat → Int32) : Nat → Nat → Int32
  | 0 => a
  | n + 1 => sp_step (sp_pass a n) n
def sp_any (a : Nat → Int32) : Nat → Bool
  | 0 => false
  | n + 1 => sp_any a n || decide (sp_tk (sp_pass a n) n)
def sp_lv : Nat → (Nat → Int32) → Nat → Int32
  | 0, a => a
  | k + 1, a => if sp_any a (cnt a 6) = true then sp_lv k (sp_pass a (cnt a 6)) else sp_pass a (cnt a 6)
/-- what a step leaves as it is -/
def sp_keep (a b : Nat → Int32) : Prop := ∀ i, i ≠ 7 → (∀ p, p < 60 → i ≠ 1200 + 5 * p + 4) → b i = a i
theorem sp_keep.rf {a : Nat → Int32} : sp_keep a a := fun _ _ _ => rfl
theorem sp_keep.tr {a b c : Nat → Int32} (h : sp_keep a b) (h2 : sp_keep b c) : sp_keep a c := fun i h1 h3 => (h2 i h1 h3).trans (h i h1 h3)
theorem sp_step_keep {a : Nat → Int32} {p : Nat} (hp : p < 60) : sp_keep a (sp_step a p) := by
  intro i h1 h2
  unfold sp_step
  split
  · have := h2 p hp
    simp [upd, h1, this]
  · rfl
theorem sp_pass_keep {a : Nat → Int32} : ∀ {n : Nat}, n ≤ 60 → sp_keep a (sp_pass a n)
  | 0, _ => sp_keep.rf
  | n + 1, h => (sp_pass_keep (by omega)).tr (sp_step_keep (by omega))
theorem sp_keep_cnt {a b : Nat → Int32} (h : sp_keep a b) {i : Nat} (h1 : i ≠ 7) (h2 : ∀ p, p < 60 → i ≠ 1200 + 5 * p + 4) : cnt b i = cnt a i := by
  unfold cnt
  rw [h i h1 h2]
/-- the invariant of leaving -/
def mLv (n : Nat) (a : Nat → Int32) : Prop := mPer a ∧ mHou n a ∧ mWent a ∧ mG a
theorem sp_here_step {a : Nat → Int32} {p q : Nat} (hp : p < 60) (ha : ¬ (a 0).toInt < 0) (hq : q < 60) : sp_here (sp_step a p) q ↔ sp_here a q ∧ ¬ (q = p ∧ sp_tk a p) := by
  unfold sp_step
  by_cases h : sp_tk a p
  · rw [if_pos h]
    by_cases e : q = p
    · subst e
      have h7 : (1200 + 5 * q + 4) ≠ 7 := by omega
      simp only [sp_here, upd, if_neg h7, if_pos]
      exact ⟨fun z => absurd z ha, fun z => absurd ⟨trivial, h⟩ z.2⟩
    · have : (1200 + 5 * q + 4) ≠ (1200 + 5 * p + 4) := by omega
      have h7 : (1200 + 5 * q + 4) ≠ 7 := by omega
      simp only [sp_here, upd, if_neg h7, if_neg this]
      simp [e]
  · rw [if_neg h]
    simp [h]
theorem sp_ct_one {p q : Nat → Prop} [DecidablePred p] [DecidablePred q] {i : Nat} (hi : ¬ p i) (hi2 : q i) (h : ∀ k, k ≠ i → (q k ↔ p k)) : ∀ {n}, i < n → sp_ct q n = sp_ct p n + 1
  | 0, hn => absurd hn (Nat.not_lt_zero i)
  | n + 1, hn => by
    show sp_ct q n + _ = sp_ct p n + _ + 1
    by_cases e : i = n
    · subst e
      rw [if_pos hi2, if_neg hi, sp_ct_cong (p := q) (q := p) (fun k hk => h k (by omega))]
    · rw [sp_ct_one hi hi2 h (n := n) (by omega)]
      have := h n (fun z => e z.symm)
      by_cases hp : p n
      · rw [if_pos hp, if_pos (this.mpr hp)]
      · rw [if_neg hp, if_neg (fun z => hp (this.mp z))]
theorem sp_l1 {A B T : Prop} (hT : T) : (¬ (A ∧ ¬ (B ∧ T))) ↔ (¬ A ∨ B) := by
  by_cases A <;> by_cases B <;> simp_all
theorem sp_l2 {A B T : Prop} (hT : T) : (A ∧ ¬ (B ∧ T)) ↔ (A ∧ ¬ B) := by
  by_cases A <;> by_cases B <;> simp_all
theorem mLv_step {n : Nat} {a : Nat → Int32} {p : Nat} (hp : p < cnt a 6) (h : mLv n a) : mLv n (sp_step a p) ∧ (sp_tk a p → sp_ct (sp_here (sp_step a p)) (cnt a 6) < sp_ct (sp_here a) (cnt a 6)) := by
  obtain ⟨h1, h2, h3, h4⟩ := h
  obtain ⟨np, np_b, np_h⟩ := h4 6 (by decide)
  replace np_b : np ≤ 60 := np_b
  have np_e : cnt a 6 = np := cnt_of np_h (by omega)
  obtain ⟨clk, clk_b, clk_h⟩ := h4 0 (by decide)
  replace clk_b : clk ≤ 100 := clk_b
  have clk_e : cnt a 0 = clk := cnt_of clk_h (by omega)
  have k := sp_step_keep (a := a) (p := p) (by omega)
  have c5 : cnt (sp_step a p) 5 = cnt a 5 := sp_keep_cnt k (by decide) (by omega)
  have c6 : cnt (sp_step a p) 6 = cnt a 6 := sp_keep_cnt k (by decide) (by omega)
  have a0 : (a 0).toInt = clk := by rw [clk_h, nI_toInt (by omega)]
  have hs : ∀ q, q < 60 → (sp_here (sp_step a p) q ↔ sp_here a q ∧ ¬ (q = p ∧ sp_tk a p)) := fun q hq => sp_here_step (by omega) (by omega) hq
  have ct : sp_tk a p → sp_ct (fun q => ¬ sp_here (sp_step a p) q) np = sp_ct (fun q => ¬ sp_here a q) np + 1 ∧ sp_ct (sp_here a) np = sp_ct (sp_here (sp_step a p)) np + 1 := by
    intro ht
    refine ⟨?_, ?_⟩
    · rw [sp_ct_cong (p := fun q => ¬ sp_here (sp_step a p) q) (q := fun q => ¬ sp_here a q ∨ q = p) (fun q hq => by rw [hs q (by omega)]; exact sp_l1 ht)]
      exact sp_ct_one (i := p) (fun z => z ht.1) (Or.inr rfl) (fun q hq => by simp [hq]) (by omega)
    · rw [sp_ct_cong (p := sp_here (sp_step a p)) (q := fun q => sp_here a q ∧ ¬ q = p) (fun q hq => by rw [hs q (by omega)]; exact sp_l2 ht)]
      exact sp_ct_one (i := p) (fun z => z.2 rfl) ht.1 (fun q hq => by simp [hq]) (by omega)
  refine ⟨⟨fun q hq => ?_, fun q hq => ?_, ?_, fun i hi => ?_⟩, fun ht => ?_⟩
  · rw [c6] at hq
    obtain ⟨g1, g2, g3, g4, g5⟩ := h1 q hq
    rw [c5, k _ (by omega) (by omega), k _ (by omega) (by omega), k _ (by omega) (by omega), k _ (by omega) (by omega)]
    refine ⟨g1, g2, g3, g4, ?_⟩
    unfold sp_step
    split
    · by_cases e : q = p
      · subst e
        rename_i ht
        have hm := ht.2.1
        rw [clk_e] at hm
        obtain ⟨hm1, hm2, hm3⟩ := g1
        rw [cnt_of hm3 (by have := h4 5 (by decide); obtain ⟨v, v1, v2⟩ := this; have : cnt a 5 = v := cnt_of v2 (by have : v ≤ 20 := v1; omega); have : v ≤ 20 := v1; omega)] at hm
        have ht5 := (h2 hm1 hm2).2.2.2.2
        have hc99 : clk ≤ 99 := by
          rcases ht5 with e5 | ⟨g, g1, g2⟩
          · rw [e5, show ((-1 : Int32)).toInt = -1 from rfl] at hm; omega
          · rw [g2, nI_toInt (by omega)] at hm; omega
        refine Or.inr ⟨clk, hc99, ?_⟩
        have h7 : (1200 + 5 * q + 4) ≠ 7 := by omega
        simp [upd, h7, clk_h]
      · have h7 : (1200 + 5 * q + 4) ≠ 7 := by omega
        have h8 : (1200 + 5 * q + 4) ≠ (1200 + 5 * p + 4) := by omega
        simp only [upd, if_neg h7, if_neg h8]
        exact g5
    · exact g5
  · rw [c5] at hq
    have h5 : cnt a 5 ≤ 20 := by
      obtain ⟨v, v1, v2⟩ := h4 5 (by decide)
      replace v1 : v ≤ 20 := v1
      rw [cnt_of v2 (by omega)]; exact v1
    rw [k _ (by omega) (by omega), k _ (by omega) (by omega), k _ (by omega) (by omega), k _ (by omega) (by omega), k _ (by omega) (by omega)]
    exact h2 q hq
  · unfold mWent at h3 ⊢
    rw [c6]
    by_cases ht : sp_tk a p
    · rw [np_e, (ct ht).1, ← nI_add]
      unfold sp_step
      rw [if_pos ht]
      simp only [upd, if_pos]
      rw [h3, np_e]
    · have e : sp_step a p = a := by unfold sp_step; rw [if_neg ht]
      rw [e]
      exact h3
  · by_cases e : i = 7
    · subst e
      by_cases ht : sp_tk a p
      · refine ⟨sp_ct (fun q => ¬ sp_here (sp_step a p) q) np, Nat.le_trans (sp_ct_le _) np_b, ?_⟩
        unfold mWent at h3
        rw [(ct ht).1, ← nI_add]
        unfold sp_step
        rw [if_pos ht]
        simp only [upd, if_pos]
        rw [h3, np_e]
      · have e : sp_step a p = a := by unfold sp_step; rw [if_neg ht]
        rw [e]
        exact h4 7 hi
    · rw [k i e (by omega)]
      exact h4 i hi
  · rw [np_e]
    have := (ct ht).2
    omega

/-- fewer locals known -/
def pvle : List Value → List Value → Prop
  | [], _ => True
  | v :: vs, w :: ws => (v = w ∨ ∃ k, v = .retAddr k) ∧ pvle vs ws
  | _ :: _, [] => False
theorem pvle_at : ∀ {vs ws : List Value}, pvle vs ws → ∀ (i : Nat) (v : Value), vs[i]? = some v → pvgd v = true → ws[i]? = some v
  | [], _, _, i, v, h, _ => by simp at h
  | w :: vs, [], hh, i, v, h, _ => hh.elim
  | w :: vs, u :: ws, hh, i, v, h, hg => by
    match i, h with
    | 0, h =>
      cases h
      rcases hh.1 with e | ⟨k, e⟩
      · rw [e]; rfl
      · subst e; simp [pvgd] at hg
    | i + 1, h => exact pvle_at hh.2 i v h hg
theorem g_drop {M : pvM} {R : Room} {Z : pvZT} {pc : Nat} {ls st : List Value} {kc kn nx : Nat} {I : pvI} {J : pvJ} {P : pvP} (ls' : List Value) (h : pvle ls' ls) (k : pvG M R Z pc ls' st kc kn nx I J P) : pvG M R Z pc ls st kc kn nx I J P := fun X p l e s m args below meth c H locs als hC hL => k X p l e s m args below meth c H locs als hC ⟨hL.1, hL.2.1, fun i v hi hg => hL.2.2 i v (pvle_at h i v hi hg) hg⟩
theorem mLv_pass {n : Nat} {a : Nat → Int32} (h : mLv n a) : ∀ {i : Nat}, i ≤ cnt a 6 → mLv n (sp_pass a i) ∧ cnt (sp_pass a i) 6 = cnt a 6 ∧ sp_ct (sp_here (sp_pass a i)) (cnt a 6) ≤ sp_ct (sp_here a) (cnt a 6) ∧ (sp_any a i = true → sp_ct (sp_here (sp_pass a i)) (cnt a 6) < sp_ct (sp_here a) (cnt a 6))
  | 0, _ => ⟨h, rfl, Nat.le_refl _, fun z => by cases z⟩
  | i + 1, hi => by
    obtain ⟨g1, g2, g3, g4⟩ := mLv_pass h (i := i) (by omega)
    have g := mLv_step (p := i) (by rw [g2]; omega) g1
    have h60 : cnt a 6 ≤ 60 := by
      obtain ⟨v, v1, v2⟩ := h.2.2.2 6 (by decide)
      replace v1 : v ≤ 60 := v1
      rw [cnt_of v2 (by omega)]; exact v1
    have e6 : cnt (sp_step (sp_pass a i) i) 6 = cnt a 6 := (sp_keep_cnt (sp_step_keep (by omega)) (by decide) (by omega)).trans g2
    rw [g2] at g
    refine ⟨g.1, e6, ?_, fun z => ?_⟩
    · by_cases ht : sp_tk (sp_pass a i) i
      · exact Nat.le_trans (Nat.le_of_lt (g.2 ht)) g3
      · have e : sp_step (sp_pass a i) i = sp_pass a i := by unfold sp_step; rw [if_neg ht]
        show sp_ct (sp_here (sp_step (sp_pass a i) i)) _ ≤ _
        rw [e]; exact g3
    · by_cases ht : sp_tk (sp_pass a i) i
      · exact Nat.lt_of_lt_of_le (g.2 ht) g3
      · have e : sp_step (sp_pass a i) i = sp_pass a i := by unfold sp_step; rw [if_neg ht]
        show sp_ct (sp_here (sp_step (sp_pass a i) i)) _ < _
        rw [e]
        refine g4 ?_
        have : (sp_any a i || decide (sp_tk (sp_pass a i) i)) = true := z
        simpa [ht] using this
theorem t_leave {N : Nat} {I : pvI} {J : pvJ} {P : pvP} (hP : pvOkP P) (hl : mLv N (I 203)) : pvMet mX12_leave 1 0 0 [.ref 202] 224 I J P (pvq P (fun v I' J' => v = none ∧ I' = pvs I 203 (sp_lv 61 (I 203)) ∧ J' = J)) := by
  have out : ∀ k a, mLv N a → cnt a 6 = cnt (I 203) 6 → sp_ct (sp_here a) (cnt a 6) < k → sp_lv k a = sp_lv 61 (I 203) → pvG mX12_leave (pvR 1 0 0) (pvZ (pvq P (fun v I' J' => v = none ∧ I' = pvs I 203 (sp_lv 61 (I 203)) ∧ J' = J)) 0 0) 2 [.ref 202, .int (nI 1), .retAddr 0, .retAddr 0, .retAddr 0] [] 0 0 224 (pvs I 203 a) J P := by
    intro k
    induction k with
    | zero => intro a _ _ h; omega
    | succ k ih =>
      intro a ha h6 hlt hF
      obtain ⟨np, np_b, np_h⟩ := ha.2.2.2 6 (by decide)
      replace np_b : np ≤ 60 := np_b
      have np_e : cnt a 6 = np := cnt_of np_h (by omega)
      have inn : ∀ q i, i + q = np → pvG mX12_leave (pvR 1 0 0) (pvZ (pvq P (fun v I' J' => v = none ∧ I' = pvs I 203 (sp_lv 61 (I 203)) ∧ J' = J)) 0 0) 10 [.ref 202, .int (nI (if sp_any a i = true then 1 else 0)), .int (nI i), .retAddr 0, .retAddr 0] [] 0 0 224 (pvs I 203 (sp_pass a i)) J P := by
        intro q
        induction q with
        | zero =>
          intro i hi
          obtain rfl : i = np := by omega
          obtain ⟨g1, g2, g3, g4⟩ := mLv_pass ha (i := i) (by omega)
          have hnp : sp_pass a i 6 = nI i := by rw [sp_pass_keep (by omega) 6 (by decide) (by omega), np_h]
          rw [np_e] at g2 g3 g4 hlt
          by_cases hany : sp_any a i = true
          · rw [if_pos hany]
            have hF2 : sp_lv (k + 1) a = sp_lv k (sp_pass a i) := by
              show (if sp_any a (cnt a 6) = true then sp_lv k (sp_pass a (cnt a 6)) else sp_pass a (cnt a 6)) = _
              rw [np_e, if_pos hany]
            refine g_iload_n dX12_leave_10 rfl ?_
            refine g_aload_n dX12_leave_11 rfl ?_
            refine g_getP dX12_leave_12 fdX12_7 rfl (by first | rfl | exact pv_shx) (by omega) (by omega) (by decide) rfl (hP _ _ _ rfl) ?_
            refine g_bipush (v := nI 6) dX12_leave_15 (by decide) ?_
            refine n_iald dX12_leave_17 (by first | rfl | exact pv_shx) (by omega) (by omega) (by decide) (rfl) (by omega) (by repeat (first | exact hnp | (apply rd_s; done) | apply rd_n (by omega) | apply rp_s | apply rp_n (by omega) | (apply rdL_s; done) | apply rdL_n (by omega) | apply rpJ_s | apply rpJ_n (by omega) | rfl)) ?_
            refine n_icmp_ge 164 dX12_leave_18 (by decide) (by first | ((with_reducible apply cN_le) <;> omega) | ((with_reducible apply cI_len) <;> omega) | ((with_reducible apply cI_nle) <;> omega) | (with_reducible exact cI_le)) (fun c18 => ?_) (fun c18 => by exfalso; first | omega | exact absurd trivial c18 | exact c18)
            refine g_goto 2 dX12_leave_164 (by decide) ?_
            refine g_drop [.ref 202, .int (nI 1), .retAddr 0, .retAddr 0, .retAddr 0] (by repeat (first | exact trivial | refine ⟨Or.inr ⟨_, rfl⟩, ?_⟩ | refine ⟨Or.inl rfl, ?_⟩)) ?_
            exact ih _ g1 (by rw [g2, ← h6, np_e]) (by rw [g2]; have := g4 hany; omega) (hF2.symm.trans hF)
          · rw [if_neg hany]
            have hF2 : sp_lv (k + 1) a = sp_pass a i := by
              show (if sp_any a (cnt a 6) = true then sp_lv k (sp_pass a (cnt a 6)) else sp_pass a (cnt a 6)) = _
              rw [np_e, if_neg hany]
            refine g_iload_n dX12_leave_10 rfl ?_
            refine g_aload_n dX12_leave_11 rfl ?_
            refine g_getP dX12_leave_12 fdX12_7 rfl (by first | rfl | exact pv_shx) (by omega) (by omega) (by decide) rfl (hP _ _ _ rfl) ?_
            refine g_bipush (v := nI 6) dX12_leave_15 (by decide) ?_
            refine n_iald dX12_leave_17 (by first | rfl | exact pv_shx) (by omega) (by omega) (by decide) (rfl) (by omega) (by repeat (first | exact hnp | (apply rd_s; done) | apply rd_n (by omega) | apply rp_s | apply rp_n (by omega) | (apply rdL_s; done) | apply rdL_n (by omega) | apply rpJ_s | apply rpJ_n (by omega) | rfl)) ?_
            refine n_icmp_ge 164 dX12_leave_18 (by decide) (by first | ((with_reducible apply cN_le) <;> omega) | ((with_reducible apply cI_len) <;> omega) | ((with_reducible apply cI_nle) <;> omega) | (with_reducible exact cI_le)) (fun c18 => ?_) (fun c18 => by exfalso; first | omega | exact absurd trivial c18 | exact c18)
            refine g_goto 2 dX12_leave_164 (by decide) ?_
            refine g_iload_n dX12_leave_2 rfl ?_
            refine n_if_eq 167 dX12_leave_3 (by decide) (by first | (with_reducible exact cB _) | ((with_reducible apply cN_eq0) <;> omega) | exact Iff.rfl) (fun c3 => ?_) (fun c3 => by exfalso; first | omega | exact absurd trivial c3 | exact c3)
            exact g_vret dX12_leave_167 rfl (⟨rfl, rfl, rfl, by rw [← hF, hF2], rfl⟩)
        | succ q ihq =>
          intro i hi
          obtain ⟨g1, g2, g3, g4⟩ := mLv_pass ha (i := i) (by omega)
          have hnp : sp_pass a i 6 = nI np := by rw [sp_pass_keep (by omega) 6 (by decide) (by omega), np_h]
          have e1 : sp_pass a (i + 1) = sp_step (sp_pass a i) i := rfl
          have e2 : sp_any a (i + 1) = (sp_any a i || decide (sp_tk (sp_pass a i) i)) := rfl
          have hnext := ihq (i + 1) (by omega)
          rw [e1, e2] at hnext
          generalize sp_pass a i = b at *
          generalize sp_any a i = fl at *
          obtain ⟨⟨hm, hm1, hm2⟩, ⟨kn, kn1, kn2⟩, ⟨ak, ak1, ak2⟩, ⟨hd, hd1, hd2⟩, hgo⟩ := g1.1 i (by rw [g2]; omega)
          obtain ⟨nb, nb_b, nb_h⟩ := g1.2.2.2 5 (by decide)
          replace nb_b : nb ≤ 20 := nb_b
          have nb_e : cnt b 5 = nb := cnt_of nb_h (by omega)
          obtain ⟨-, -, -, ⟨pr, pr1, pr2⟩, htl⟩ := g1.2.1 hm hm1
          obtain ⟨pl, pl_b, pl_h⟩ := g1.2.2.2 14 (by decide)
          replace pl_b : pl ≤ 999 := pl_b
          obtain ⟨clk, clk_b, clk_h⟩ := g1.2.2.2 0 (by decide)
          replace clk_b : clk ≤ 100 := clk_b
          have hkg : sp_ct (sp_kgP b (nI kn)) np ≤ 60 := Nat.le_trans (sp_ct_le _) np_b
          have hpk : pl * sp_ct (sp_kgP b (nI kn)) np ≤ 999 * 60 := Nat.mul_le_mul pl_b hkg
          have htk : sp_tk b i ↔ (b (1200 + 5 * i + 4)).toInt < 0 ∧ (clk : Int) ≤ (b (1080 + 5 * hm + 4)).toInt ∧ ak ≤ pr + 100 * hd + pl * sp_ct (sp_kgP b (nI kn)) np := by
            rw [sp_tk, cnt_of hm2 (by omega), cnt_of clk_h (by omega), cnt_of ak2 (by omega), cnt_of pr2 (by omega), cnt_of hd2 (by omega), cnt_of pl_h (by omega), kn2, g2, np_e]
          generalize hkge : sp_ct (sp_kgP b (nI kn)) np = kg at *
          refine g_iload_n dX12_leave_10 rfl ?_
          refine g_aload_n dX12_leave_11 rfl ?_
          refine g_getP dX12_leave_12 fdX12_7 rfl (by first | rfl | exact pv_shx) (by omega) (by omega) (by decide) rfl (hP _ _ _ rfl) ?_
          refine g_bipush (v := nI 6) dX12_leave_15 (by decide) ?_
          refine n_iald dX12_leave_17 (by first | rfl | exact pv_shx) (by omega) (by omega) (by decide) (rfl) (by omega) (by repeat (first | exact hnp | exact hm2 | exact kn2 | exact ak2 | exact hd2 | exact pr2 | exact pl_h | exact clk_h | (apply rd_s; done) | apply rd_n (by omega) | apply rp_s | apply rp_n (by omega) | (apply rdL_s; done) | apply rdL_n (by omega) | apply rpJ_s | apply rpJ_n (by omega) | rfl)) ?_
          refine n_icmp_ge 164 dX12_leave_18 (by decide) (by first | ((with_reducible apply cN_le) <;> omega) | ((with_reducible apply cI_len) <;> omega) | ((with_reducible apply cI_nle) <;> omega) | (with_reducible exact cI_le)) (fun c18 => by exfalso; first | omega | exact absurd trivial c18 | exact c18) (fun c18 => ?_)
          refine g_sipush (v := nI 1200) dX12_leave_21 (by decide) ?_
          refine g_iconst (v := nI 5) dX12_leave_24 (by decide) ?_
          refine g_iload_n dX12_leave_25 rfl ?_
          refine n_imul dX12_leave_26 (by first | (with_reducible exact pk_mul _ _) | rfl) ?_
          refine n_iadd dX12_leave_27 (by first | (with_reducible exact nI_add _ _) | rfl) ?_
          refine g_istore_n dX12_leave_28 (by decide) rfl ?_
          refine g_sipush (v := nI 1080) dX12_leave_29 (by decide) ?_
          refine g_iconst (v := nI 5) dX12_leave_32 (by decide) ?_
          refine g_aload_n dX12_leave_33 rfl ?_
          refine g_getP dX12_leave_34 fdX12_7 rfl (by first | rfl | exact pv_shx) (by omega) (by omega) (by decide) rfl (hP _ _ _ rfl) ?_
          refine g_iload_n dX12_leave_37 rfl ?_
          refine n_iald dX12_leave_38 (by first | rfl | exact pv_shx) (by omega) (by omega) (by decide) (rfl) (by omega) (by repeat (first | exact hnp | exact hm2 | exact kn2 | exact ak2 | exact hd2 | exact pr2 | exact pl_h | exact clk_h | (apply rd_s; done) | apply rd_n (by omega) | apply rp_s | apply rp_n (by omega) | (apply rdL_s; done) | apply rdL_n (by omega) | apply rpJ_s | apply rpJ_n (by omega) | rfl)) ?_
          refine n_imul dX12_leave_39 (by first | (with_reducible exact pk_mul _ _) | rfl) ?_
          refine n_iadd dX12_leave_40 (by first | (with_reducible exact nI_add _ _) | rfl) ?_
          refine g_istore dX12_leave_41 (by decide) rfl ?_
          refine g_aload_n dX12_leave_43 rfl ?_
          refine g_getP dX12_leave_44 fdX12_7 rfl (by first | rfl | exact pv_shx) (by omega) (by omega) (by decide) rfl (hP _ _ _ rfl) ?_
          refine g_iload_n dX12_leave_47 rfl ?_
          refine g_iconst (v := nI 4) dX12_leave_48 (by decide) ?_
          refine n_iadd dX12_leave_49 (by first | (with_reducible exact nI_add _ _) | rfl) ?_
          refine n_iald dX12_leave_50 (by first | rfl | exact pv_shx) (by omega) (by omega) (by decide) (rfl) (by omega) (by repeat (first | exact hnp | exact hm2 | exact kn2 | exact ak2 | exact hd2 | exact pr2 | exact pl_h | exact clk_h | (apply rd_s; done) | apply rd_n (by omega) | apply rp_s | apply rp_n (by omega) | (apply rdL_s; done) | apply rdL_n (by omega) | apply rpJ_s | apply rpJ_n (by omega) | rfl)) ?_
          refine n_if_ge 158 dX12_leave_51 (by decide) (by first | ((with_reducible apply cN_ge0) <;> omega) | (with_reducible exact cI_ge0)) (fun c51 => ?_) (fun c51 => ?_)
          · skip
            have hno : ¬ sp_tk b i := by rw [htk]; omega
            rw [show sp_step b i = b by unfold sp_step; rw [if_neg hno], show (fl || decide (sp_tk b i)) = fl by simp [hno]] at hnext
            refine g_iinc dX12_leave_158 rfl (by first | (with_reducible exact nI_1 _) | exact nI_1 _ | exact pk_m1 _ | rfl) (by decide) rfl ?_
            refine g_goto 10 dX12_leave_161 (by decide) ?_
            refine g_drop [.ref 202, .int (nI (if fl = true then 1 else 0)), .int (nI (i + 1)), .retAddr 0, .retAddr 0] (by repeat (first | exact trivial | refine ⟨Or.inr ⟨_, rfl⟩, ?_⟩ | refine ⟨Or.inl rfl, ?_⟩)) ?_
            exact hnext
          · skip
            refine g_aload_n dX12_leave_54 rfl ?_
            refine g_getP dX12_leave_55 fdX12_7 rfl (by first | rfl | exact pv_shx) (by omega) (by omega) (by decide) rfl (hP _ _ _ rfl) ?_
            refine g_iload dX12_leave_58 rfl ?_
            refine g_iconst (v := nI 4) dX12_leave_60 (by decide) ?_
            refine n_iadd dX12_leave_61 (by first | (with_reducible exact nI_add _ _) | rfl) ?_
            refine n_iald dX12_leave_62 (by first | rfl | exact pv_shx) (by omega) (by omega) (by decide) (rfl) (by omega) (by repeat (first | exact hnp | exact hm2 | exact kn2 | exact ak2 | exact hd2 | exact pr2 | exact pl_h | exact clk_h | (apply rd_s; done) | apply rd_n (by omega) | apply rp_s | apply rp_n (by omega) | (apply rdL_s; done) | apply rdL_n (by omega) | apply rpJ_s | apply rpJ_n (by omega) | rfl)) ?_
            refine g_aload_n dX12_leave_63 rfl ?_
            refine g_getP dX12_leave_64 fdX12_7 rfl (by first | rfl | exact pv_shx) (by omega) (by omega) (by decide) rfl (hP _ _ _ rfl) ?_
            refine g_iconst (v := nI 0) dX12_leave_67 (by decide) ?_
            refine n_iald dX12_leave_68 (by first | rfl | exact pv_shx) (by omega) (by omega) (by decide) (rfl) (by omega) (by repeat (first | exact hnp | exact hm2 | exact kn2 | exact ak2 | exact hd2 | exact pr2 | exact pl_h | exact clk_h | (apply rd_s; done) | apply rd_n (by omega) | apply rp_s | apply rp_n (by omega) | (apply rdL_s; done) | apply rdL_n (by omega) | apply rpJ_s | apply rpJ_n (by omega) | rfl)) ?_
            refine n_icmp_ge 75 dX12_leave_69 (by decide) (by first | ((with_reducible apply cN_le) <;> omega) | ((with_reducible apply cI_len) <;> omega) | ((with_reducible apply cI_nle) <;> omega) | (with_reducible exact cI_le)) (fun c69 => ?_) (fun c69 => ?_)
            · skip
              refine g_aload_n dX12_leave_75 rfl ?_
              refine g_getP dX12_leave_76 fdX12_7 rfl (by first | rfl | exact pv_shx) (by omega) (by omega) (by decide) rfl (hP _ _ _ rfl) ?_
              refine g_iload dX12_leave_79 rfl ?_
              refine g_iconst (v := nI 3) dX12_leave_81 (by decide) ?_
              refine n_iadd dX12_leave_82 (by first | (with_reducible exact nI_add _ _) | rfl) ?_
              refine n_iald dX12_leave_83 (by first | rfl | exact pv_shx) (by omega) (by omega) (by decide) (rfl) (by omega) (by repeat (first | exact hnp | exact hm2 | exact kn2 | exact ak2 | exact hd2 | exact pr2 | exact pl_h | exact clk_h | (apply rd_s; done) | apply rd_n (by omega) | apply rp_s | apply rp_n (by omega) | (apply rdL_s; done) | apply rdL_n (by omega) | apply rpJ_s | apply rpJ_n (by omega) | rfl)) ?_
              refine g_bipush (v := nI 100) dX12_leave_84 (by decide) ?_
              refine g_aload_n dX12_leave_86 rfl ?_
              refine g_getP dX12_leave_87 fdX12_7 rfl (by first | rfl | exact pv_shx) (by omega) (by omega) (by decide) rfl (hP _ _ _ rfl) ?_
              refine g_iload_n dX12_leave_90 rfl ?_
              refine g_iconst (v := nI 3) dX12_leave_91 (by decide) ?_
              refine n_iadd dX12_leave_92 (by first | (with_reducible exact nI_add _ _) | rfl) ?_
              refine n_iald dX12_leave_93 (by first | rfl | exact pv_shx) (by omega) (by omega) (by decide) (rfl) (by omega) (by repeat (first | exact hnp | exact hm2 | exact kn2 | exact ak2 | exact hd2 | exact pr2 | exact pl_h | exact clk_h | (apply rd_s; done) | apply rd_n (by omega) | apply rp_s | apply rp_n (by omega) | (apply rdL_s; done) | apply rdL_n (by omega) | apply rpJ_s | apply rpJ_n (by omega) | rfl)) ?_
              refine n_imul dX12_leave_94 (by first | (with_reducible exact pk_mul _ _) | rfl) ?_
              refine n_iadd dX12_leave_95 (by first | (with_reducible exact nI_add _ _) | rfl) ?_
              refine g_aload_n dX12_leave_96 rfl ?_
              refine g_getP dX12_leave_97 fdX12_7 rfl (by first | rfl | exact pv_shx) (by omega) (by omega) (by decide) rfl (hP _ _ _ rfl) ?_
              refine g_bipush (v := nI 14) dX12_leave_100 (by decide) ?_
              refine n_iald dX12_leave_102 (by first | rfl | exact pv_shx) (by omega) (by omega) (by decide) (rfl) (by omega) (by repeat (first | exact hnp | exact hm2 | exact kn2 | exact ak2 | exact hd2 | exact pr2 | exact pl_h | exact clk_h | (apply rd_s; done) | apply rd_n (by omega) | apply rp_s | apply rp_n (by omega) | (apply rdL_s; done) | apply rdL_n (by omega) | apply rpJ_s | apply rpJ_n (by omega) | rfl)) ?_
              refine g_aload_n dX12_leave_103 rfl ?_
              refine g_aload_n dX12_leave_104 rfl ?_
              refine g_getP dX12_leave_105 fdX12_7 rfl (by first | rfl | exact pv_shx) (by omega) (by omega) (by decide) rfl (hP _ _ _ rfl) ?_
              refine g_iload_n dX12_leave_108 rfl ?_
              refine g_iconst (v := nI 1) dX12_leave_109 (by decide) ?_
              refine n_iadd dX12_leave_110 (by first | (with_reducible exact nI_add _ _) | rfl) ?_
              refine n_iald dX12_leave_111 (by first | rfl | exact pv_shx) (by omega) (by omega) (by decide) (rfl) (by omega) (by repeat (first | exact hnp | exact hm2 | exact kn2 | exact ak2 | exact hd2 | exact pr2 | exact pl_h | exact clk_h | (apply rd_s; done) | apply rd_n (by omega) | apply rp_s | apply rp_n (by omega) | (apply rdL_s; done) | apply rdL_n (by omega) | apply rpJ_s | apply rpJ_n (by omega) | rfl)) ?_
              refine p_callV (hkge ▸ t_kinGone hP (I := pvs I 203 b) (np := np) (rp_s hnp) np_b (k := nI kn)) okX12_kinGone lkX12_172 rfl (by first | rfl | exact pv_shx) rfl (by omega) (by omega) dX12_leave_112 rfl (Nat.le_of_ble_eq_true rfl) (⟨by decide, by decide, by decide, by decide⟩) ?_
              refine n_imul dX12_leave_115 (by first | (with_reducible exact pk_mul _ _) | rfl) ?_
              refine n_iadd dX12_leave_116 (by first | (with_reducible exact nI_add _ _) | rfl) ?_
              refine g_aload_n dX12_leave_117 rfl ?_
              refine g_getP dX12_leave_118 fdX12_7 rfl (by first | rfl | exact pv_shx) (by omega) (by omega) (by decide) rfl (hP _ _ _ rfl) ?_
              refine g_iload_n dX12_leave_121 rfl ?_
              refine g_iconst (v := nI 2) dX12_leave_122 (by decide) ?_
              refine n_iadd dX12_leave_123 (by first | (with_reducible exact nI_add _ _) | rfl) ?_
              refine n_iald dX12_leave_124 (by first | rfl | exact pv_shx) (by omega) (by omega) (by decide) (rfl) (by omega) (by repeat (first | exact hnp | exact hm2 | exact kn2 | exact ak2 | exact hd2 | exact pr2 | exact pl_h | exact clk_h | (apply rd_s; done) | apply rd_n (by omega) | apply rp_s | apply rp_n (by omega) | (apply rdL_s; done) | apply rdL_n (by omega) | apply rpJ_s | apply rpJ_n (by omega) | rfl)) ?_
              refine n_icmp_ge 131 dX12_leave_125 (by decide) (by first | ((with_reducible apply cN_le) <;> omega) | ((with_reducible apply cI_len) <;> omega) | ((with_reducible apply cI_nle) <;> omega) | (with_reducible exact cI_le)) (fun c125 => ?_) (fun c125 => ?_)
              · skip
                refine g_aload_n dX12_leave_131 rfl ?_
                refine g_getP dX12_leave_132 fdX12_7 rfl (by first | rfl | exact pv_shx) (by omega) (by omega) (by decide) rfl (hP _ _ _ rfl) ?_
                refine g_iload_n dX12_leave_135 rfl ?_
                refine g_iconst (v := nI 4) dX12_leave_136 (by decide) ?_
                refine n_iadd dX12_leave_137 (by first | (with_reducible exact nI_add _ _) | rfl) ?_
                refine g_aload_n dX12_leave_138 rfl ?_
                refine g_getP dX12_leave_139 fdX12_7 rfl (by first | rfl | exact pv_shx) (by omega) (by omega) (by decide) rfl (hP _ _ _ rfl) ?_
                refine g_iconst (v := nI 0) dX12_leave_142 (by decide) ?_
                refine n_iald dX12_leave_143 (by first | rfl | exact pv_shx) (by omega) (by omega) (by decide) (rfl) (by omega) (by repeat (first | exact hnp | exact hm2 | exact kn2 | exact ak2 | exact hd2 | exact pr2 | exact pl_h | exact clk_h | (apply rd_s; done) | apply rd_n (by omega) | apply rp_s | apply rp_n (by omega) | (apply rdL_s; done) | apply rdL_n (by omega) | apply rpJ_s | apply rpJ_n (by omega) | rfl)) ?_
                refine n_iast dX12_leave_144 (by first | rfl | exact pv_shx) (by omega) (by omega) (by omega) (by decide) (rfl) (by omega) (by repeat (first | exact pvu_s | exact pvuJ_s | apply pvu_in (by omega) | apply pvuJ_in (by omega) | exact pvu_pvs | exact pvuJ_pvs)) ?_
                refine g_aload_n dX12_leave_145 rfl ?_
                refine g_getP dX12_leave_146 fdX12_7 rfl (by first | rfl | exact pv_shx) (by omega) (by omega) (by decide) rfl (hP _ _ _ rfl) ?_
                refine g_bipush (v := nI 7) dX12_leave_149 (by decide) ?_
                refine g_dup2 dX12_leave_151 rfl rfl ?_
                refine n_iald dX12_leave_152 (by first | rfl | exact pv_shx) (by omega) (by omega) (by decide) (rfl) (by omega) (by repeat (first | exact hnp | exact hm2 | exact kn2 | exact ak2 | exact hd2 | exact pr2 | exact pl_h | exact clk_h | (apply rd_s; done) | apply rd_n (by omega) | apply rp_s | apply rp_n (by omega) | (apply rdL_s; done) | apply rdL_n (by omega) | apply rpJ_s | apply rpJ_n (by omega) | rfl)) ?_
                refine g_iconst (v := nI 1) dX12_leave_153 (by decide) ?_
                refine n_iadd dX12_leave_154 (by first | (with_reducible exact nI_add _ _) | rfl) ?_
                refine n_iast dX12_leave_155 (by first | rfl | exact pv_shx) (by omega) (by omega) (by omega) (by decide) (rfl) (by omega) (by repeat (first | exact pvu_s | exact pvuJ_s | apply pvu_in (by omega) | apply pvuJ_in (by omega) | exact pvu_pvs | exact pvuJ_pvs)) ?_
                have hyes : sp_tk b i := by rw [htk]; omega
                rw [show sp_step b i = upd (upd b (1200 + 5 * i + 4) (nI clk)) 7 (b 7 + nI 1) by unfold sp_step; rw [if_pos hyes, clk_h], show (fl || decide (sp_tk b i)) = true by simp [hyes], if_pos rfl] at hnext
                refine g_iconst (v := nI 1) dX12_leave_156 (by decide) ?_
                refine g_istore_n dX12_leave_157 (by decide) rfl ?_
                refine g_iinc dX12_leave_158 rfl (nI_1 _) (by decide) rfl ?_
                refine g_goto 10 dX12_leave_161 (by decide) ?_
                refine g_drop [.ref 202, .int (nI 1), .int (nI (i + 1)), .retAddr 0, .retAddr 0] (by repeat (first | exact trivial | refine ⟨Or.inr ⟨_, rfl⟩, ?_⟩ | refine ⟨Or.inl rfl, ?_⟩)) ?_
                exact hnext
              · skip
                refine g_goto 158 dX12_leave_128 (by decide) ?_
                have hno : ¬ sp_tk b i := by rw [htk]; omega
                rw [show sp_step b i = b by unfold sp_step; rw [if_neg hno], show (fl || decide (sp_tk b i)) = fl by simp [hno]] at hnext
                refine g_iinc dX12_leave_158 rfl (by first | (with_reducible exact nI_1 _) | exact nI_1 _ | exact pk_m1 _ | rfl) (by decide) rfl ?_
                refine g_goto 10 dX12_leave_161 (by decide) ?_
                refine g_drop [.ref 202, .int (nI (if fl = true then 1 else 0)), .int (nI (i + 1)), .retAddr 0, .retAddr 0] (by repeat (first | exact trivial | refine ⟨Or.inr ⟨_, rfl⟩, ?_⟩ | refine ⟨Or.inl rfl, ?_⟩)) ?_
                exact hnext
            · skip
              refine g_goto 158 dX12_leave_72 (by decide) ?_
              have hno : ¬ sp_tk b i := by rw [htk]; omega
              rw [show sp_step b i = b by unfold sp_step; rw [if_neg hno], show (fl || decide (sp_tk b i)) = fl by simp [hno]] at hnext
              refine g_iinc dX12_leave_158 rfl (by first | (with_reducible exact nI_1 _) | exact nI_1 _ | exact pk_m1 _ | rfl) (by decide) rfl ?_
              refine g_goto 10 dX12_leave_161 (by decide) ?_
              refine g_drop [.ref 202, .int (nI (if fl = true then 1 else 0)), .int (nI (i + 1)), .retAddr 0, .retAddr 0] (by repeat (first | exact trivial | refine ⟨Or.inr ⟨_, rfl⟩, ?_⟩ | refine ⟨Or.inl rfl, ?_⟩)) ?_
              exact hnext
      refine g_iload_n dX12_leave_2 rfl ?_
      refine n_if_eq 167 dX12_leave_3 (by decide) (by first | (with_reducible exact cB _) | ((with_reducible apply cN_eq0) <;> omega) | exact Iff.rfl) (fun c3 => by exfalso; first | omega | exact absurd trivial c3 | exact c3) (fun c3 => ?_)
      refine g_iconst (v := nI 0) dX12_leave_6 (by decide) ?_
      refine g_istore_n dX12_leave_7 (by decide) rfl ?_
      refine g_iconst (v := nI 0) dX12_leave_8 (by decide) ?_
      refine g_istore_n dX12_leave_9 (by decide) rfl ?_
      have h0 := inn np 0 (by omega)
      exact h0
  have hself : I = pvs I 203 (I 203) := pvs_self.symm
  have h0 := out 61 (I 203) hl rfl (by
    obtain ⟨np, np_b, np_h⟩ := hl.2.2.2 6 (by decide)
    replace np_b : np ≤ 60 := np_b
    rw [cnt_of np_h (by omega)]
    have := sp_ct_le (p := sp_here (I 203)) np
    omega) rfl
  rw [← hself] at h0
  refine pvMet.of _ (by decide) rfl (Nat.le_of_ble_eq_true rfl) ?_
  refine g_iconst (v := nI 1) dX12_leave_0 (by decide) ?_
  refine g_istore_n dX12_leave_1 (by decide) rfl ?_
  exact h0
