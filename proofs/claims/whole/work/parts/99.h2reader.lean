/-! class: the reader: what it keeps; its small steps -/
def aAd (A : Nat) : Prop := ∃ t, t < 10 ∧ A = 149 + 5 * t
theorem aAd_sh0 : ∀ t, t < 10 → pvSH (149 + 5 * t) = (5, 6) ∧ pvSH (149 + 5 * t + 1) = (0, 20) ∧ pvSH (149 + 5 * t + 2) = (0, 20) ∧ pvSH (149 + 5 * t + 3) = (0, 20) ∧ pvSH (149 + 5 * t + 4) = (0, 300) := by decide
theorem aAd_P0 : ∀ t, t < 10 → pvPP (149 + 5 * t) 2 = some (149 + 5 * t + 1) ∧ pvPP (149 + 5 * t) 3 = some (149 + 5 * t + 2) ∧ pvPP (149 + 5 * t) 4 = some (149 + 5 * t + 3) ∧ pvPP (149 + 5 * t) 5 = some (149 + 5 * t + 4) := by decide
theorem aAd.sh {A : Nat} (h : aAd A) : (pvSH A = (5, 6) ∧ pvSH (A + 1) = (0, 20) ∧ pvSH (A + 2) = (0, 20) ∧ pvSH (A + 3) = (0, 20) ∧ pvSH (A + 4) = (0, 300)) ∧ 149 ≤ A ∧ A ≤ 194 := by
  obtain ⟨t, ht, rfl⟩ := h
  exact ⟨aAd_sh0 t ht, by omega, by omega⟩
theorem aAd.pp {A : Nat} {P : pvP} (hP : pvOkP P) (h : aAd A) : P A 2 = some (A + 1) ∧ P A 3 = some (A + 2) ∧ P A 4 = some (A + 3) ∧ P A 5 = some (A + 4) := by
  obtain ⟨t, ht, rfl⟩ := h
  obtain ⟨h1, h2, h3, h4⟩ := aAd_P0 t ht
  exact ⟨hP _ _ _ h1, hP _ _ _ h2, hP _ _ _ h3, hP _ _ _ h4⟩
theorem nuC_le {tx : Nat → Nat} {p : Nat} : ∀ j, nuC tx p j ≤ 10000
  | 0 => Nat.zero_le _
  | j + 1 => Nat.min_le_left _ _
theorem tkT_le {tx : Nat → Nat} {n p : Nat} : tkT tx n p ≤ 11000 := by
  have h1 := nuC_le (tx := tx) (p := p) (rn isDg tx n p - p)
  have h2 : wdT tx p (rn isLt tx n p - p) ≤ 214 := by
    rcases wdF_lt (tx := tx) (p := p) (len := rn isLt tx n p - p) 15 with h | ⟨j, j1, j2, -⟩
    · unfold wdT; omega
    · unfold wdT; omega
  have h3 : isSg (tx p) = true → tx p ≤ 62 := fun z => by
    have := of_decide_eq_true z
    omega
  unfold tkT
  split
  · omega
  · split
    · omega
    · split
      · omega
      · split
        · split <;> omega
        · split
          · rename_i z; have := h3 z; omega
          · omega
/-- what stands while a clause is read -/
def rB0 (tx : Nat → Nat) (n cT : Nat) (I0 : pvI) : Prop := (I0 144 6 = nI cT ∧ cT ≤ 300) ∧ (∀ j, j ≤ cT → I0 146 j = nI (tkK tx n j) ∧ I0 147 j = nI (tkP tx n j)) ∧ ((∀ j, j < cT → tkK tx n j ≠ 0) ∧ tkK tx n cT = 0) ∧ n ≤ 300
def rB (tx : Nat → Nat) (n cT srt : Nat) (I0 : pvI) : Prop := rB0 tx n cT I0 ∧ I0 144 9 = nI srt ∧ srt ≤ 3
/-- what the reading of a clause may change -/
def pF (A : Nat) (I0 I : pvI) : Prop := (∀ x, x ≠ 144 → x ≠ A → x ≠ A + 4 → I x = I0 x) ∧ (∀ j, j ≠ 2 → j ≠ 3 → j ≠ 7 → j ≠ 8 → I 144 j = I0 144 j) ∧ (∀ j, j ≠ 1 → I A j = I0 A j)
def psS (tx : Nat → Nat) (n cT A : Nat) (I0 : pvI) (r : pR) (I : pvI) : Prop := pF A I0 I ∧ I 144 8 = nI (tkS (tkK tx n) r) ∧ match r with
  | .ok (cd, k) => I 144 2 = nI 0 ∧ I 144 3 = -1 ∧ k ≤ cT ∧ I 144 7 = nI k ∧ I A 1 = nI cd.length ∧ cd.length ≤ k ∧ ∀ i, i < cd.length → I (A + 4) i = nI (cd.getD i 0)
  | .error (f, kf) => 1 ≤ f ∧ f ≤ 6 ∧ I 144 2 = nI f ∧ I 144 3 = nI (tkP tx n kf) ∧ ∃ l, l ≤ 300 ∧ I A 1 = nI l
def pS (tx : Nat → Nat) (n cT A : Nat) (I0 : pvI) (J : pvJ) (P : pvP) (r : pR) : pvQT := pvq P (fun v I' J' => v = none ∧ J' = J ∧ psS tx n cT A I0 r I')
def rlt (r : pR) : Prop := ∀ cd k, r = .ok (cd, k) → cd.length < k
theorem rlt_adv {r : pR} (h : ∀ cd k, r = .ok (cd, k) → cd.length ≤ k) : rlt (advR r) := by
  intro cd k e
  cases r with
  | error x => cases e
  | ok v =>
    obtain ⟨c, j⟩ := v
    have h1 := h c j rfl
    cases e
    omega
theorem rlt_bind {r : pR} {f : Nat → pR} (h : ∀ cd k, r = .ok (cd, k) → cd.length ≤ k) (hf : ∀ k, lenL 0 (f k) k) : rlt (bindR f (advR r)) := by
  intro cd k e
  cases r with
  | error x => cases e
  | ok v =>
    obtain ⟨c, j⟩ := v
    have h1 := h c j rfl
    simp only [bindR, advR] at e
    cases hx : f (j + 1) with
    | error x => rw [hx] at e; cases e
    | ok v =>
      obtain ⟨e2, k2⟩ := v
      rw [hx] at e
      cases e
      have := hf (j + 1) e2 k hx
      rw [List.length_append]
      omega
section RDR
variable {tx : Nat → Nat} {n cT A srt : Nat} {I0 I : pvI} {J : pvJ} {P : pvP} {r : pR}
theorem psS.le (h : psS tx n cT A I0 r I) : ∀ cd k, r = .ok (cd, k) → cd.length ≤ k := by
  rintro cd k rfl
  exact h.2.2.2.2.2.2.2.1
theorem psS.lt (hB : rB0 tx n cT I0) (h : psS tx n cT A I0 r I) {cd : List Nat} {k : Nat} (e : r = .ok (cd, k)) (ht : tkK tx n k ≠ 0) : k < cT := by
  subst e
  have h1 : k ≤ cT := h.2.2.2.2.1
  rcases Nat.lt_or_ge k cT with z | z
  · exact z
  · exact absurd (by rw [show k = cT by omega]; exact hB.2.2.1.2) ht
theorem tkS_le : tkS (tkK tx n) r ≤ 11000 := by
  cases r with
  | error x => exact Nat.zero_le _
  | ok v => exact tkT_le
theorem c_refuse {f : Nat} (hP : pvOkP P) (hA : aAd A) (hB : rB0 tx n cT I0) (hs : psS tx n cT A I0 r I) (hf : 1 ≤ f ∧ f ≤ 6) : pvMet mX6_refuse 0 0 0 [.ref 144, .int (nI f)] 224 I J P (pS tx n cT A I0 J P (refR f r)) := by
  obtain ⟨-, h149, h194⟩ := hA.sh
  obtain ⟨⟨f1, f2, f3⟩, f4, g⟩ := hs
  have pf : ∀ u : Nat → Int32, (∀ j, j ≠ 2 → j ≠ 3 → j ≠ 7 → j ≠ 8 → u j = I 144 j) → pF A I0 (pvs I 144 u) := fun u hu => ⟨fun x z1 z2 z3 => by rw [pvs_ne z1]; exact f1 x z1 z2 z3, fun j z1 z2 z3 z4 => by rw [pvs_eq, hu j z1 z2 z3 z4]; exact f2 j z1 z2 z3 z4, fun j hj => by rw [pvs_ne (by omega)]; exact f3 j hj⟩
  cases r with
  | error x =>
    obtain ⟨e, ke⟩ := x
    obtain ⟨g1, g2, g3, g4, l, g5, g6⟩ := g
    refine pvMet.of _ (by decide) rfl (Nat.le_of_ble_eq_true rfl) ?_
    refine g_aload_n dX6_refuse_0 rfl ?_
    refine n_getI dX6_refuse_1 fdX6_15 rfl (by first | rfl | exact pv_shx) (by omega) (by omega) (by decide) rfl (by repeat (first | exact g3 | (apply rd_s; done) | apply rd_n (by omega) | apply rp_s | apply rp_n (by omega) | (apply rdL_s; done) | apply rdL_n (by omega) | apply rpJ_s | apply rpJ_n (by omega) | rfl)) ?_
    refine n_if_ne 25 dX6_refuse_4 (by decide) (by first | (with_reducible exact cB _) | ((with_reducible apply cN_eq0) <;> omega) | exact Iff.rfl) (fun c4 => ?_) (fun c4 => by exfalso; first | omega | exact absurd trivial c4 | exact c4 | (simp at c4))
    refine g_aload_n dX6_refuse_25 rfl ?_
    refine g_iconst (v := nI 0) dX6_refuse_26 (by decide) ?_
    refine n_putI dX6_refuse_27 fdX6_49 rfl (fun h => absurd h (by decide)) (by first | rfl | exact pv_shx) (by omega) (by omega) (by decide) rfl (by repeat (first | exact pvu_s | exact pvuJ_s | apply pvu_in (by omega) | apply pvuJ_in (by omega) | exact pvu_pvs | exact pvuJ_pvs)) ?_
    exact g_vret dX6_refuse_30 rfl (⟨rfl, rfl, rfl, rfl, pf _ (fun j z1 z2 z3 z4 => by simp [upd, z4]), by rw [pvs_eq]; exact updS, g1, g2, by rw [pvs_eq]; simp [upd, g3], by rw [pvs_eq]; simp [upd, g4], l, g5, by rw [pvs_ne (by omega)]; exact g6⟩)
  | ok v =>
    obtain ⟨cd, k⟩ := v
    obtain ⟨g1, g2, g3, g4, g5, g6, g7⟩ := g
    have hp : I 147 k = nI (tkP tx n k) := by rw [f1 147 (by omega) (by omega) (by omega)]; exact (hB.2.1 k g3).2
    have h300 := hB.1.2
    refine pvMet.of _ (by decide) rfl (Nat.le_of_ble_eq_true rfl) ?_
    refine g_aload_n dX6_refuse_0 rfl ?_
    refine n_getI dX6_refuse_1 fdX6_15 rfl (by first | rfl | exact pv_shx) (by omega) (by omega) (by decide) rfl (by repeat (first | exact g1 | exact g4 | exact hp | (apply rd_s; done) | apply rd_n (by omega) | apply rp_s | apply rp_n (by omega) | (apply rdL_s; done) | apply rdL_n (by omega) | apply rpJ_s | apply rpJ_n (by omega) | rfl)) ?_
    refine n_if_ne 25 dX6_refuse_4 (by decide) (by first | (with_reducible exact cB _) | ((with_reducible apply cN_eq0) <;> omega) | exact Iff.rfl) (fun c4 => by exfalso; first | omega | exact absurd trivial c4 | exact c4 | (simp at c4)) (fun c4 => ?_)
    refine g_aload_n dX6_refuse_7 rfl ?_
    refine g_iload_n dX6_refuse_8 rfl ?_
    refine n_putI dX6_refuse_9 fdX6_15 rfl (fun h => absurd h (by decide)) (by first | rfl | exact pv_shx) (by omega) (by omega) (by decide) rfl (by repeat (first | exact pvu_s | exact pvuJ_s | apply pvu_in (by omega) | apply pvuJ_in (by omega) | exact pvu_pvs | exact pvuJ_pvs)) ?_
    refine g_aload_n dX6_refuse_12 rfl ?_
    refine g_aload_n dX6_refuse_13 rfl ?_
    refine g_getP dX6_refuse_14 fdX6_25 rfl (by first | rfl | exact pv_shx) (by omega) (by omega) (by decide) rfl (hP _ _ _ rfl) ?_
    refine g_aload_n dX6_refuse_17 rfl ?_
    refine n_getI dX6_refuse_18 fdX6_46 rfl (by first | rfl | exact pv_shx) (by omega) (by omega) (by decide) rfl (by repeat (first | exact g1 | exact g4 | exact hp | (apply rd_s; done) | apply rd_n (by omega) | apply rp_s | apply rp_n (by omega) | (apply rdL_s; done) | apply rdL_n (by omega) | apply rpJ_s | apply rpJ_n (by omega) | rfl)) ?_
    refine n_iald dX6_refuse_21 (by first | rfl | exact pv_shx) (by omega) (by omega) (by decide) (rfl) (by omega) (by repeat (first | exact g1 | exact g4 | exact hp | (apply rd_s; done) | apply rd_n (by omega) | apply rp_s | apply rp_n (by omega) | (apply rdL_s; done) | apply rdL_n (by omega) | apply rpJ_s | apply rpJ_n (by omega) | rfl)) ?_
    refine n_putI dX6_refuse_22 fdX6_19 rfl (fun h => absurd h (by decide)) (by first | rfl | exact pv_shx) (by omega) (by omega) (by decide) rfl (by repeat (first | exact pvu_s | exact pvuJ_s | apply pvu_in (by omega) | apply pvuJ_in (by omega) | exact pvu_pvs | exact pvuJ_pvs)) ?_
    refine g_aload_n dX6_refuse_25 rfl ?_
    refine g_iconst (v := nI 0) dX6_refuse_26 (by decide) ?_
    refine n_putI dX6_refuse_27 fdX6_49 rfl (fun h => absurd h (by decide)) (by first | rfl | exact pv_shx) (by omega) (by omega) (by decide) rfl (by repeat (first | exact pvu_s | exact pvuJ_s | apply pvu_in (by omega) | apply pvuJ_in (by omega) | exact pvu_pvs | exact pvuJ_pvs)) ?_
    exact g_vret dX6_refuse_30 rfl (⟨rfl, rfl, rfl, rfl, pf _ (fun j z1 z2 z3 z4 => by simp [upd, z1, z2, z4]), by rw [pvs_eq]; exact updS, hf.1, hf.2, by rw [pvs_eq]; simp [upd], by rw [pvs_eq]; simp [upd], cd.length, by omega, by rw [pvs_ne (by omega)]; exact g5⟩)
theorem c_advance (hP : pvOkP P) (hA : aAd A) (hB : rB0 tx n cT I0) (hs : psS tx n cT A I0 r I) (ht : (∃ x, r = .error x) ∨ tkS (tkK tx n) r ≠ 0) : pvMet mX6_advance 0 0 0 [.ref 144] 224 I J P (pS tx n cT A I0 J P (advR r)) := by
  obtain ⟨-, h149, h194⟩ := hA.sh
  have hs' := hs
  obtain ⟨⟨f1, f2, f3⟩, f4, g⟩ := hs
  have pf : ∀ u : Nat → Int32, (∀ j, j ≠ 2 → j ≠ 3 → j ≠ 7 → j ≠ 8 → u j = I 144 j) → pF A I0 (pvs I 144 u) := fun u hu => ⟨fun x z1 z2 z3 => by rw [pvs_ne z1]; exact f1 x z1 z2 z3, fun j z1 z2 z3 z4 => by rw [pvs_eq, hu j z1 z2 z3 z4]; exact f2 j z1 z2 z3 z4, fun j hj => by rw [pvs_ne (by omega)]; exact f3 j hj⟩
  cases r with
  | error x =>
    obtain ⟨e, ke⟩ := x
    have g3 := g.2.2.1
    have ge := g.1
    have ge2 := g.2.1
    refine pvMet.of _ (by decide) rfl (Nat.le_of_ble_eq_true rfl) ?_
    refine g_aload_n dX6_advance_0 rfl ?_
    refine n_getI dX6_advance_1 fdX6_15 rfl (by first | rfl | exact pv_shx) (by omega) (by omega) (by decide) rfl (by repeat (first | exact g3 | (apply rd_s; done) | apply rd_n (by omega) | apply rp_s | apply rp_n (by omega) | (apply rdL_s; done) | apply rdL_n (by omega) | apply rpJ_s | apply rpJ_n (by omega) | rfl)) ?_
    refine n_if_ne 41 dX6_advance_4 (by decide) (by first | (with_reducible exact cB _) | ((with_reducible apply cN_eq0) <;> omega) | exact Iff.rfl) (fun c4 => ?_) (fun c4 => by exfalso; first | omega | exact absurd trivial c4 | exact c4 | (simp at c4))
    exact g_vret dX6_advance_41 rfl (⟨rfl, rfl, rfl, rfl, hs'⟩)
  | ok v =>
    obtain ⟨cd, k⟩ := v
    have ht0 : tkK tx n k ≠ 0 := by
      rcases ht with ⟨x, z⟩ | z
      · cases z
      · exact z
    have hk := hs'.lt hB rfl ht0
    obtain ⟨g1, g2, g3, g4, g5, g6, g7⟩ := g
    have h6 : I 144 6 = nI cT := by rw [f2 6 (by decide) (by decide) (by decide) (by decide)]; exact hB.1.1
    have hp : I 146 (k + 1) = nI (tkK tx n (k + 1)) := by rw [f1 146 (by omega) (by omega) (by omega)]; exact (hB.2.1 (k + 1) (by omega)).1
    have h300 := hB.1.2
    refine pvMet.of _ (by decide) rfl (Nat.le_of_ble_eq_true rfl) ?_
    refine g_aload_n dX6_advance_0 rfl ?_
    refine n_getI dX6_advance_1 fdX6_15 rfl (by first | rfl | exact pv_shx) (by omega) (by omega) (by decide) rfl (by repeat (first | exact g1 | exact g4 | exact h6 | exact hp | (apply rd_s; done) | apply rd_n (by omega) | apply rp_s | apply rp_n (by omega) | (apply rdL_s; done) | apply rdL_n (by omega) | apply rpJ_s | apply rpJ_n (by omega) | rfl)) ?_
    refine n_if_ne 41 dX6_advance_4 (by decide) (by first | (with_reducible exact cB _) | ((with_reducible apply cN_eq0) <;> omega) | exact Iff.rfl) (fun c4 => by exfalso; first | omega | exact absurd trivial c4 | exact c4 | (simp at c4)) (fun c4 => ?_)
    refine g_aload_n dX6_advance_7 rfl ?_
    refine n_getI dX6_advance_8 fdX6_46 rfl (by first | rfl | exact pv_shx) (by omega) (by omega) (by decide) rfl (by repeat (first | exact g1 | exact g4 | exact h6 | exact hp | (apply rd_s; done) | apply rd_n (by omega) | apply rp_s | apply rp_n (by omega) | (apply rdL_s; done) | apply rdL_n (by omega) | apply rpJ_s | apply rpJ_n (by omega) | rfl)) ?_
    refine g_aload_n dX6_advance_11 rfl ?_
    refine n_getI dX6_advance_12 fdX6_55 rfl (by first | rfl | exact pv_shx) (by omega) (by omega) (by decide) rfl (by repeat (first | exact g1 | exact g4 | exact h6 | exact hp | (apply rd_s; done) | apply rd_n (by omega) | apply rp_s | apply rp_n (by omega) | (apply rdL_s; done) | apply rdL_n (by omega) | apply rpJ_s | apply rpJ_n (by omega) | rfl)) ?_
    refine n_icmp_ge 41 dX6_advance_15 (by decide) (by first | ((with_reducible apply cN_le) <;> omega) | ((with_reducible apply cI_len) <;> omega) | ((with_reducible apply cI_nle) <;> omega) | (with_reducible exact cI_le)) (fun c15 => by exfalso; first | omega | exact absurd trivial c15 | exact c15 | (simp at c15)) (fun c15 => ?_)
    refine g_aload_n dX6_advance_18 rfl ?_
    refine g_dup dX6_advance_19 rfl ?_
    refine n_getI dX6_advance_20 fdX6_46 rfl (by first | rfl | exact pv_shx) (by omega) (by omega) (by decide) rfl (by repeat (first | exact g1 | exact g4 | exact h6 | exact hp | (apply rd_s; done) | apply rd_n (by omega) | apply rp_s | apply rp_n (by omega) | (apply rdL_s; done) | apply rdL_n (by omega) | apply rpJ_s | apply rpJ_n (by omega) | rfl)) ?_
    refine g_iconst (v := nI 1) dX6_advance_23 (by decide) ?_
    refine n_iadd dX6_advance_24 (by first | (with_reducible exact nI_add _ _) | rfl) ?_
    refine n_putI dX6_advance_25 fdX6_46 rfl (fun h => absurd h (by decide)) (by first | rfl | exact pv_shx) (by omega) (by omega) (by decide) rfl (by repeat (first | exact pvu_s | exact pvuJ_s | apply pvu_in (by omega) | apply pvuJ_in (by omega) | exact pvu_pvs | exact pvuJ_pvs)) ?_
    refine g_aload_n dX6_advance_28 rfl ?_
    refine g_aload_n dX6_advance_29 rfl ?_
    refine g_getP dX6_advance_30 fdX6_22 rfl (by first | rfl | exact pv_shx) (by omega) (by omega) (by decide) rfl (hP _ _ _ rfl) ?_
    refine g_aload_n dX6_advance_33 rfl ?_
    refine n_getI dX6_advance_34 fdX6_46 rfl (by first | rfl | exact pv_shx) (by omega) (by omega) (by decide) rfl (by repeat (first | exact g1 | exact g4 | exact h6 | exact hp | (apply rd_s; done) | apply rd_n (by omega) | apply rp_s | apply rp_n (by omega) | (apply rdL_s; done) | apply rdL_n (by omega) | apply rpJ_s | apply rpJ_n (by omega) | rfl)) ?_
    refine n_iald dX6_advance_37 (by first | rfl | exact pv_shx) (by omega) (by omega) (by decide) (rfl) (by omega) (by repeat (first | exact g1 | exact g4 | exact h6 | exact hp | (apply rd_s; done) | apply rd_n (by omega) | apply rp_s | apply rp_n (by omega) | (apply rdL_s; done) | apply rdL_n (by omega) | apply rpJ_s | apply rpJ_n (by omega) | rfl)) ?_
    refine n_putI dX6_advance_38 fdX6_49 rfl (fun h => absurd h (by decide)) (by first | rfl | exact pv_shx) (by omega) (by omega) (by decide) rfl (by repeat (first | exact pvu_s | exact pvuJ_s | apply pvu_in (by omega) | apply pvuJ_in (by omega) | exact pvu_pvs | exact pvuJ_pvs)) ?_
    exact g_vret dX6_advance_41 rfl (⟨rfl, rfl, rfl, rfl, pf _ (fun j z1 z2 z3 z4 => by simp [upd, z3, z4]), by rw [pvs_eq]; exact updS, by rw [pvs_eq]; simp [upd, g1], by rw [pvs_eq]; simp [upd, g2], by omega, by rw [pvs_eq]; simp [upd], by rw [pvs_ne (by omega)]; exact g5, by omega, fun i hi => by rw [pvs_ne (by omega)]; exact g7 i hi⟩)
theorem c_add {x : Nat} (hP : pvOkP P) (hA : aAd A) (hB : rB0 tx n cT I0) (hs : psS tx n cT A I0 r I) (hl : rlt r) : pvMet mX0_add 0 0 0 [.ref A, .int (nI x)] 224 I J P (pS tx n cT A I0 J P (addR x r)) := by
  obtain ⟨⟨s0, s1, s2, s3, s4⟩, h149, h194⟩ := hA.sh
  obtain ⟨p2, p3, p4, p5⟩ := hA.pp hP
  have h300 := hB.1.2
  have hs' := hs
  obtain ⟨⟨f1, f2, f3⟩, f4, g⟩ := hs
  have pf : ∀ u v : Nat → Int32, (∀ j, j ≠ 1 → v j = I A j) → pF A I0 (pvs (pvs I A v) (A + 4) u) := fun u v hv => ⟨fun x z1 z2 z3 => by rw [pvs_ne z3, pvs_ne z2]; exact f1 x z1 z2 z3, fun j z1 z2 z3 z4 => by rw [pvs_ne (by omega), pvs_ne (by omega)]; exact f2 j z1 z2 z3 z4, fun j hj => by rw [pvs_ne (by omega), pvs_eq, hv j hj]; exact f3 j hj⟩
  cases r with
  | error y =>
    obtain ⟨e, ke⟩ := y
    obtain ⟨g1, g2, g3, g4, l, g5, g6⟩ := g
    by_cases c : l < 300
    · skip
      refine pvMet.of _ (by decide) rfl (Nat.le_of_ble_eq_true rfl) ?_
      refine g_aload_n dX0_add_0 rfl ?_
      refine n_getI dX0_add_1 fdX0_28 rfl (by first | exact s0 | exact s4) (by omega) (by omega) (by decide) rfl (by repeat (first | exact g6 | (apply rd_s; done) | apply rd_n (by omega) | apply rp_s | apply rp_n (by omega) | (apply rdL_s; done) | apply rdL_n (by omega) | apply rpJ_s | apply rpJ_n (by omega) | rfl)) ?_
      refine g_sipush (v := nI 300) dX0_add_4 (by decide) ?_
      refine n_icmp_ge 30 dX0_add_7 (by decide) (by first | ((with_reducible apply cN_le) <;> omega) | ((with_reducible apply cI_len) <;> omega) | ((with_reducible apply cI_nle) <;> omega) | (with_reducible exact cI_le)) (fun c7 => by exfalso; first | omega | exact absurd trivial c7 | exact c7 | (simp at c7)) (fun c7 => ?_)
      refine g_aload_n dX0_add_10 rfl ?_
      refine g_getP dX0_add_11 fdX0_21 rfl (by first | exact s0 | exact s4) (by omega) (by omega) (by decide) rfl (p5) ?_
      refine g_aload_n dX0_add_14 rfl ?_
      refine n_getI dX0_add_15 fdX0_28 rfl (by first | exact s0 | exact s4) (by omega) (by omega) (by decide) rfl (by repeat (first | exact g6 | (apply rd_s; done) | apply rd_n (by omega) | apply rp_s | apply rp_n (by omega) | (apply rdL_s; done) | apply rdL_n (by omega) | apply rpJ_s | apply rpJ_n (by omega) | rfl)) ?_
      refine g_iload_n dX0_add_18 rfl ?_
      refine n_iast dX0_add_19 (by first | exact s0 | exact s4) (by omega) (by omega) (by omega) (by decide) (rfl) (by omega) (by repeat (first | exact pvu_s | exact pvuJ_s | apply pvu_in (by omega) | apply pvuJ_in (by omega) | exact pvu_pvs | exact pvuJ_pvs)) ?_
      refine g_aload_n dX0_add_20 rfl ?_
      refine g_dup dX0_add_21 rfl ?_
      refine n_getI dX0_add_22 fdX0_28 rfl (by first | exact s0 | exact s4) (by omega) (by omega) (by decide) rfl (by repeat (first | exact g6 | (apply rd_s; done) | apply rd_n (by omega) | apply rp_s | apply rp_n (by omega) | (apply rdL_s; done) | apply rdL_n (by omega) | apply rpJ_s | apply rpJ_n (by omega) | rfl)) ?_
      refine g_iconst (v := nI 1) dX0_add_25 (by decide) ?_
      refine n_iadd dX0_add_26 (by first | (with_reducible exact nI_add _ _) | rfl) ?_
      refine n_putI dX0_add_27 fdX0_28 rfl (fun h => absurd h (by decide)) (by first | exact s0 | exact s4) (by omega) (by omega) (by decide) rfl (by repeat (first | exact pvu_s | exact pvuJ_s | apply pvu_in (by omega) | apply pvuJ_in (by omega) | exact pvu_pvs | exact pvuJ_pvs)) ?_
      exact g_vret dX0_add_30 rfl (⟨rfl, rfl, rfl, rfl, pf _ _ (fun j hj => by simp [upd, hj]), by rw [pvs_ne (by omega), pvs_ne (by omega)]; exact f4, g1, g2, by rw [pvs_ne (by omega), pvs_ne (by omega)]; exact g3, by rw [pvs_ne (by omega), pvs_ne (by omega)]; exact g4, l + 1, by omega, by rw [pvs_ne (by omega), pvs_eq]; simp [upd]⟩)
    · skip
      refine pvMet.of _ (by decide) rfl (Nat.le_of_ble_eq_true rfl) ?_
      refine g_aload_n dX0_add_0 rfl ?_
      refine n_getI dX0_add_1 fdX0_28 rfl (by first | exact s0 | exact s4) (by omega) (by omega) (by decide) rfl (by repeat (first | exact g6 | (apply rd_s; done) | apply rd_n (by omega) | apply rp_s | apply rp_n (by omega) | (apply rdL_s; done) | apply rdL_n (by omega) | apply rpJ_s | apply rpJ_n (by omega) | rfl)) ?_
      refine g_sipush (v := nI 300) dX0_add_4 (by decide) ?_
      refine n_icmp_ge 30 dX0_add_7 (by decide) (by first | ((with_reducible apply cN_le) <;> omega) | ((with_reducible apply cI_len) <;> omega) | ((with_reducible apply cI_nle) <;> omega) | (with_reducible exact cI_le)) (fun c7 => ?_) (fun c7 => by exfalso; first | omega | exact absurd trivial c7 | exact c7 | (simp at c7))
      exact g_vret dX0_add_30 rfl (⟨rfl, rfl, rfl, rfl, hs'⟩)
  | ok v =>
    obtain ⟨cd, k⟩ := v
    obtain ⟨g1, g2, g3, g4, g5, g6, g7⟩ := g
    have hlt := hl cd k rfl
    refine pvMet.of _ (by decide) rfl (Nat.le_of_ble_eq_true rfl) ?_
    refine g_aload_n dX0_add_0 rfl ?_
    refine n_getI dX0_add_1 fdX0_28 rfl (by first | exact s0 | exact s4) (by omega) (by omega) (by decide) rfl (by repeat (first | exact g5 | (apply rd_s; done) | apply rd_n (by omega) | apply rp_s | apply rp_n (by omega) | (apply rdL_s; done) | apply rdL_n (by omega) | apply rpJ_s | apply rpJ_n (by omega) | rfl)) ?_
    refine g_sipush (v := nI 300) dX0_add_4 (by decide) ?_
    refine n_icmp_ge 30 dX0_add_7 (by decide) (by first | ((with_reducible apply cN_le) <;> omega) | ((with_reducible apply cI_len) <;> omega) | ((with_reducible apply cI_nle) <;> omega) | (with_reducible exact cI_le)) (fun c7 => by exfalso; first | omega | exact absurd trivial c7 | exact c7 | (simp at c7)) (fun c7 => ?_)
    refine g_aload_n dX0_add_10 rfl ?_
    refine g_getP dX0_add_11 fdX0_21 rfl (by first | exact s0 | exact s4) (by omega) (by omega) (by decide) rfl (p5) ?_
    refine g_aload_n dX0_add_14 rfl ?_
    refine n_getI dX0_add_15 fdX0_28 rfl (by first | exact s0 | exact s4) (by omega) (by omega) (by decide) rfl (by repeat (first | exact g5 | (apply rd_s; done) | apply rd_n (by omega) | apply rp_s | apply rp_n (by omega) | (apply rdL_s; done) | apply rdL_n (by omega) | apply rpJ_s | apply rpJ_n (by omega) | rfl)) ?_
    refine g_iload_n dX0_add_18 rfl ?_
    refine n_iast dX0_add_19 (by first | exact s0 | exact s4) (by omega) (by omega) (by omega) (by decide) (rfl) (by omega) (by repeat (first | exact pvu_s | exact pvuJ_s | apply pvu_in (by omega) | apply pvuJ_in (by omega) | exact pvu_pvs | exact pvuJ_pvs)) ?_
    refine g_aload_n dX0_add_20 rfl ?_
    refine g_dup dX0_add_21 rfl ?_
    refine n_getI dX0_add_22 fdX0_28 rfl (by first | exact s0 | exact s4) (by omega) (by omega) (by decide) rfl (by repeat (first | exact g5 | (apply rd_s; done) | apply rd_n (by omega) | apply rp_s | apply rp_n (by omega) | (apply rdL_s; done) | apply rdL_n (by omega) | apply rpJ_s | apply rpJ_n (by omega) | rfl)) ?_
    refine g_iconst (v := nI 1) dX0_add_25 (by decide) ?_
    refine n_iadd dX0_add_26 (by first | (with_reducible exact nI_add _ _) | rfl) ?_
    refine n_putI dX0_add_27 fdX0_28 rfl (fun h => absurd h (by decide)) (by first | exact s0 | exact s4) (by omega) (by omega) (by decide) rfl (by repeat (first | exact pvu_s | exact pvuJ_s | apply pvu_in (by omega) | apply pvuJ_in (by omega) | exact pvu_pvs | exact pvuJ_pvs)) ?_
    exact g_vret dX0_add_30 rfl (⟨rfl, rfl, rfl, rfl, pf _ _ (fun j hj => by simp [upd, hj]), by rw [pvs_ne (by omega), pvs_ne (by omega)]; exact f4, by rw [pvs_ne (by omega), pvs_ne (by omega)]; exact g1, by rw [pvs_ne (by omega), pvs_ne (by omega)]; exact g2, g3, by rw [pvs_ne (by omega), pvs_ne (by omega)]; exact g4, by rw [pvs_ne (by omega), pvs_eq, List.length_append]; simp [upd], by rw [List.length_append]; exact hlt, fun i hi => by
  rw [pvs_eq]
  rw [List.length_append] at hi
  replace hi : i < cd.length + 1 := hi
  by_cases e : i = cd.length
  · subst e; simp [upd]
  · rw [updI e, g7 i (by omega), gdL (by omega)]⟩)
theorem c_faultOfOne {dp : Nat} (hB : rB tx n cT srt I0) (hs : psS tx n cT A I0 r I) (hd : dp ≤ 8) : pvMet mX6_faultOfOne 0 0 0 [.ref 144, .int (nI dp)] 224 I J P (pvpu (.int (nI (bgF srt dp (tkS (tkK tx n) r)))) 224 I J P) := by
  have ht := tkS_le (tx := tx) (n := n) (r := r)
  obtain ⟨⟨f1, f2, f3⟩, f4, -⟩ := hs
  have f9 : I 144 9 = nI srt := by rw [f2 9 (by decide) (by decide) (by decide) (by decide)]; exact hB.2.1
  have hsr := hB.2.2
  generalize tkS (tkK tx n) r = t at *
  by_cases h1 : 1000 ≤ t
  · by_cases h2 : 10999 < t
    · rw [show bgF srt dp t = 2 by unfold bgF; rw [if_pos h1, if_pos h2]]
      refine pvMet.of _ (by decide) rfl (Nat.le_of_ble_eq_true rfl) ?_
      refine g_aload_n dX6_faultOfOne_0 rfl ?_
      refine n_getI dX6_faultOfOne_1 fdX6_49 rfl (by first | rfl | exact pv_shx) (by omega) (by omega) (by decide) rfl (by repeat (first | exact f4 | (apply rd_s; done) | apply rd_n (by omega) | apply rp_s | apply rp_n (by omega) | (apply rdL_s; done) | apply rdL_n (by omega) | apply rpJ_s | apply rpJ_n (by omega) | rfl)) ?_
      refine g_sipush (v := nI 1000) dX6_faultOfOne_4 (by decide) ?_
      refine n_icmp_lt 30 dX6_faultOfOne_7 (by decide) (by first | ((with_reducible apply cN_lt) <;> omega) | ((with_reducible apply cI_ltn) <;> omega) | ((with_reducible apply cI_nlt) <;> omega) | (with_reducible exact cI_lt)) (fun c7 => by exfalso; first | omega | exact absurd trivial c7 | exact c7 | (simp at c7)) (fun c7 => ?_)
      refine g_aload_n dX6_faultOfOne_10 rfl ?_
      refine n_getI dX6_faultOfOne_11 fdX6_49 rfl (by first | rfl | exact pv_shx) (by omega) (by omega) (by decide) rfl (by repeat (first | exact f4 | (apply rd_s; done) | apply rd_n (by omega) | apply rp_s | apply rp_n (by omega) | (apply rdL_s; done) | apply rdL_n (by omega) | apply rpJ_s | apply rpJ_n (by omega) | rfl)) ?_
      refine g_sipush (v := nI 1000) dX6_faultOfOne_14 (by decide) ?_
      refine n_isub dX6_faultOfOne_17 (by first | ((with_reducible apply pk_sub) <;> omega) | rfl) ?_
      refine g_sipush (v := nI 9999) dX6_faultOfOne_18 (by decide) ?_
      refine n_icmp_le 28 dX6_faultOfOne_21 (by decide) (by first | ((with_reducible apply cN_le) <;> omega) | ((with_reducible apply cI_len) <;> omega) | ((with_reducible apply cI_nle) <;> omega) | (with_reducible exact cI_le)) (fun c21 => by exfalso; first | omega | exact absurd trivial c21 | exact c21 | (simp at c21)) (fun c21 => ?_)
      refine g_iconst (v := nI 2) dX6_faultOfOne_24 (by decide) ?_
      refine g_goto 29 dX6_faultOfOne_25 (by decide) ?_
      exact g_iret dX6_faultOfOne_29 rfl (⟨rfl, rfl, rfl, rfl, rfl⟩)
    · rw [show bgF srt dp t = 0 by unfold bgF; rw [if_pos h1, if_neg h2]]
      refine pvMet.of _ (by decide) rfl (Nat.le_of_ble_eq_true rfl) ?_
      refine g_aload_n dX6_faultOfOne_0 rfl ?_
      refine n_getI dX6_faultOfOne_1 fdX6_49 rfl (by first | rfl | exact pv_shx) (by omega) (by omega) (by decide) rfl (by repeat (first | exact f4 | (apply rd_s; done) | apply rd_n (by omega) | apply rp_s | apply rp_n (by omega) | (apply rdL_s; done) | apply rdL_n (by omega) | apply rpJ_s | apply rpJ_n (by omega) | rfl)) ?_
      refine g_sipush (v := nI 1000) dX6_faultOfOne_4 (by decide) ?_
      refine n_icmp_lt 30 dX6_faultOfOne_7 (by decide) (by first | ((with_reducible apply cN_lt) <;> omega) | ((with_reducible apply cI_ltn) <;> omega) | ((with_reducible apply cI_nlt) <;> omega) | (with_reducible exact cI_lt)) (fun c7 => by exfalso; first | omega | exact absurd trivial c7 | exact c7 | (simp at c7)) (fun c7 => ?_)
      refine g_aload_n dX6_faultOfOne_10 rfl ?_
      refine n_getI dX6_faultOfOne_11 fdX6_49 rfl (by first | rfl | exact pv_shx) (by omega) (by omega) (by decide) rfl (by repeat (first | exact f4 | (apply rd_s; done) | apply rd_n (by omega) | apply rp_s | apply rp_n (by omega) | (apply rdL_s; done) | apply rdL_n (by omega) | apply rpJ_s | apply rpJ_n (by omega) | rfl)) ?_
      refine g_sipush (v := nI 1000) dX6_faultOfOne_14 (by decide) ?_
      refine n_isub dX6_faultOfOne_17 (by first | ((with_reducible apply pk_sub) <;> omega) | rfl) ?_
      refine g_sipush (v := nI 9999) dX6_faultOfOne_18 (by decide) ?_
      refine n_icmp_le 28 dX6_faultOfOne_21 (by decide) (by first | ((with_reducible apply cN_le) <;> omega) | ((with_reducible apply cI_len) <;> omega) | ((with_reducible apply cI_nle) <;> omega) | (with_reducible exact cI_le)) (fun c21 => ?_) (fun c21 => by exfalso; first | omega | exact absurd trivial c21 | exact c21 | (simp at c21))
      refine g_iconst (v := nI 0) dX6_faultOfOne_28 (by decide) ?_
      exact g_iret dX6_faultOfOne_29 rfl (⟨rfl, rfl, rfl, rfl, rfl⟩)
  · by_cases h2 : 207 ≤ t
    · have eb : bgF srt dp t = if (5 ≤ t - 207 ∧ srt ≠ 3) ∨ (t - 207 ≤ 2 ∧ srt = 2) then 5 else 0 := by
        unfold bgF barB
        rw [if_neg h1, if_pos h2]
        simp only [decide_eq_true_eq]
      rw [eb]
      by_cases h3 : 5 ≤ t - 207
      · by_cases h4 : srt = 3
        · rw [if_neg (by omega)]
          refine pvMet.of _ (by decide) rfl (Nat.le_of_ble_eq_true rfl) ?_
          refine g_aload_n dX6_faultOfOne_0 rfl ?_
          refine n_getI dX6_faultOfOne_1 fdX6_49 rfl (by first | rfl | exact pv_shx) (by omega) (by omega) (by decide) rfl (by repeat (first | exact f4 | exact f9 | (apply rd_s; done) | apply rd_n (by omega) | apply rp_s | apply rp_n (by omega) | (apply rdL_s; done) | apply rdL_n (by omega) | apply rpJ_s | apply rpJ_n (by omega) | rfl)) ?_
          refine g_sipush (v := nI 1000) dX6_faultOfOne_4 (by decide) ?_
          refine n_icmp_lt 30 dX6_faultOfOne_7 (by decide) (by first | ((with_reducible apply cN_lt) <;> omega) | ((with_reducible apply cI_ltn) <;> omega) | ((with_reducible apply cI_nlt) <;> omega) | (with_reducible exact cI_lt)) (fun c7 => ?_) (fun c7 => by exfalso; first | omega | exact absurd trivial c7 | exact c7 | (simp at c7))
          refine g_aload_n dX6_faultOfOne_30 rfl ?_
          refine n_getI dX6_faultOfOne_31 fdX6_49 rfl (by first | rfl | exact pv_shx) (by omega) (by omega) (by decide) rfl (by repeat (first | exact f4 | exact f9 | (apply rd_s; done) | apply rd_n (by omega) | apply rp_s | apply rp_n (by omega) | (apply rdL_s; done) | apply rdL_n (by omega) | apply rpJ_s | apply rpJ_n (by omega) | rfl)) ?_
          refine g_bipush (v := nI 40) dX6_faultOfOne_34 (by decide) ?_
          refine n_icmp_eq 48 dX6_faultOfOne_36 (by decide) (by first | ((with_reducible apply cN_eq) <;> omega) | ((with_reducible apply cI_eqn) <;> omega) | exact Iff.rfl) (fun c36 => by exfalso; first | omega | exact absurd trivial c36 | exact c36 | (simp at c36)) (fun c36 => ?_)
          refine g_aload_n dX6_faultOfOne_39 rfl ?_
          refine n_getI dX6_faultOfOne_40 fdX6_49 rfl (by first | rfl | exact pv_shx) (by omega) (by omega) (by decide) rfl (by repeat (first | exact f4 | exact f9 | (apply rd_s; done) | apply rd_n (by omega) | apply rp_s | apply rp_n (by omega) | (apply rdL_s; done) | apply rdL_n (by omega) | apply rpJ_s | apply rpJ_n (by omega) | rfl)) ?_
          refine g_bipush (v := nI 45) dX6_faultOfOne_43 (by decide) ?_
          refine n_icmp_ne 60 dX6_faultOfOne_45 (by decide) (by first | ((with_reducible apply cN_eq) <;> omega) | ((with_reducible apply cI_eqn) <;> omega) | exact Iff.rfl) (fun c45 => ?_) (fun c45 => by exfalso; first | omega | exact absurd trivial c45 | exact c45 | (simp at c45))
          refine g_aload_n dX6_faultOfOne_60 rfl ?_
          refine n_getI dX6_faultOfOne_61 fdX6_49 rfl (by first | rfl | exact pv_shx) (by omega) (by omega) (by decide) rfl (by repeat (first | exact f4 | exact f9 | (apply rd_s; done) | apply rd_n (by omega) | apply rp_s | apply rp_n (by omega) | (apply rdL_s; done) | apply rdL_n (by omega) | apply rpJ_s | apply rpJ_n (by omega) | rfl)) ?_
          refine g_sipush (v := nI 207) dX6_faultOfOne_64 (by decide) ?_
          refine n_isub dX6_faultOfOne_67 (by first | ((with_reducible apply pk_sub) <;> omega) | rfl) ?_
          refine g_istore_n dX6_faultOfOne_68 (by decide) rfl ?_
          refine g_iload_n dX6_faultOfOne_69 rfl ?_
          refine n_if_ge 75 dX6_faultOfOne_70 (by decide) (by first | ((with_reducible apply cN_ge0) <;> omega) | (with_reducible exact cI_ge0)) (fun c70 => ?_) (fun c70 => by exfalso; first | omega | exact absurd trivial c70 | exact c70 | (simp at c70))
          refine g_iload_n dX6_faultOfOne_75 rfl ?_
          refine g_iconst (v := nI 5) dX6_faultOfOne_76 (by decide) ?_
          refine n_icmp_lt 84 dX6_faultOfOne_77 (by decide) (by first | ((with_reducible apply cN_lt) <;> omega) | ((with_reducible apply cI_ltn) <;> omega) | ((with_reducible apply cI_nlt) <;> omega) | (with_reducible exact cI_lt)) (fun c77 => by exfalso; first | omega | exact absurd trivial c77 | exact c77 | (simp at c77)) (fun c77 => ?_)
          refine g_iconst (v := nI 1) dX6_faultOfOne_80 (by decide) ?_
          refine g_goto 85 dX6_faultOfOne_81 (by decide) ?_
          refine g_istore_n dX6_faultOfOne_85 (by decide) rfl ?_
          refine g_iload_n dX6_faultOfOne_86 rfl ?_
          refine g_iconst (v := nI 2) dX6_faultOfOne_87 (by decide) ?_
          refine n_icmp_gt 95 dX6_faultOfOne_88 (by decide) (by first | ((with_reducible apply cN_lt) <;> omega) | ((with_reducible apply cI_ltn) <;> omega) | ((with_reducible apply cI_nlt) <;> omega) | (with_reducible exact cI_lt)) (fun c88 => ?_) (fun c88 => by exfalso; first | omega | exact absurd trivial c88 | exact c88 | (simp at c88))
          refine g_iconst (v := nI 0) dX6_faultOfOne_95 (by decide) ?_
          refine g_istore dX6_faultOfOne_96 (by decide) rfl ?_
          refine g_iload_n dX6_faultOfOne_98 rfl ?_
          refine n_if_eq 110 dX6_faultOfOne_99 (by decide) (by first | (with_reducible exact cB _) | ((with_reducible apply cN_eq0) <;> omega) | exact Iff.rfl) (fun c99 => by exfalso; first | omega | exact absurd trivial c99 | exact c99 | (simp at c99)) (fun c99 => ?_)
          refine g_aload_n dX6_faultOfOne_102 rfl ?_
          refine n_getI dX6_faultOfOne_103 fdX6_95 rfl (by first | rfl | exact pv_shx) (by omega) (by omega) (by decide) rfl (by repeat (first | exact f4 | exact f9 | (apply rd_s; done) | apply rd_n (by omega) | apply rp_s | apply rp_n (by omega) | (apply rdL_s; done) | apply rdL_n (by omega) | apply rpJ_s | apply rpJ_n (by omega) | rfl)) ?_
          refine g_iconst (v := nI 3) dX6_faultOfOne_106 (by decide) ?_
          refine n_icmp_ne 123 dX6_faultOfOne_107 (by decide) (by first | ((with_reducible apply cN_eq) <;> omega) | ((with_reducible apply cI_eqn) <;> omega) | exact Iff.rfl) (fun c107 => by exfalso; first | omega | exact absurd trivial c107 | exact c107 | (simp at c107)) (fun c107 => ?_)
          refine g_iload dX6_faultOfOne_110 rfl ?_
          refine n_if_eq 127 dX6_faultOfOne_112 (by decide) (by first | (with_reducible exact cB _) | ((with_reducible apply cN_eq0) <;> omega) | exact Iff.rfl) (fun c112 => ?_) (fun c112 => by exfalso; first | omega | exact absurd trivial c112 | exact c112 | (simp at c112))
          refine g_iconst (v := nI 0) dX6_faultOfOne_127 (by decide) ?_
          exact g_iret dX6_faultOfOne_128 rfl (⟨rfl, rfl, rfl, rfl, rfl⟩)
        · rw [if_pos (by omega)]
          refine pvMet.of _ (by decide) rfl (Nat.le_of_ble_eq_true rfl) ?_
          refine g_aload_n dX6_faultOfOne_0 rfl ?_
          refine n_getI dX6_faultOfOne_1 fdX6_49 rfl (by first | rfl | exact pv_shx) (by omega) (by omega) (by decide) rfl (by repeat (first | exact f4 | exact f9 | (apply rd_s; done) | apply rd_n (by omega) | apply rp_s | apply rp_n (by omega) | (apply rdL_s; done) | apply rdL_n (by omega) | apply rpJ_s | apply rpJ_n (by omega) | rfl)) ?_
          refine g_sipush (v := nI 1000) dX6_faultOfOne_4 (by decide) ?_
          refine n_icmp_lt 30 dX6_faultOfOne_7 (by decide) (by first | ((with_reducible apply cN_lt) <;> omega) | ((with_reducible apply cI_ltn) <;> omega) | ((with_reducible apply cI_nlt) <;> omega) | (with_reducible exact cI_lt)) (fun c7 => ?_) (fun c7 => by exfalso; first | omega | exact absurd trivial c7 | exact c7 | (simp at c7))
          refine g_aload_n dX6_faultOfOne_30 rfl ?_
          refine n_getI dX6_faultOfOne_31 fdX6_49 rfl (by first | rfl | exact pv_shx) (by omega) (by omega) (by decide) rfl (by repeat (first | exact f4 | exact f9 | (apply rd_s; done) | apply rd_n (by omega) | apply rp_s | apply rp_n (by omega) | (apply rdL_s; done) | apply rdL_n (by omega) | apply rpJ_s | apply rpJ_n (by omega) | rfl)) ?_
          refine g_bipush (v := nI 40) dX6_faultOfOne_34 (by decide) ?_
          refine n_icmp_eq 48 dX6_faultOfOne_36 (by decide) (by first | ((with_reducible apply cN_eq) <;> omega) | ((with_reducible apply cI_eqn) <;> omega) | exact Iff.rfl) (fun c36 => by exfalso; first | omega | exact absurd trivial c36 | exact c36 | (simp at c36)) (fun c36 => ?_)
          refine g_aload_n dX6_faultOfOne_39 rfl ?_
          refine n_getI dX6_faultOfOne_40 fdX6_49 rfl (by first | rfl | exact pv_shx) (by omega) (by omega) (by decide) rfl (by repeat (first | exact f4 | exact f9 | (apply rd_s; done) | apply rd_n (by omega) | apply rp_s | apply rp_n (by omega) | (apply rdL_s; done) | apply rdL_n (by omega) | apply rpJ_s | apply rpJ_n (by omega) | rfl)) ?_
          refine g_bipush (v := nI 45) dX6_faultOfOne_43 (by decide) ?_
          refine n_icmp_ne 60 dX6_faultOfOne_45 (by decide) (by first | ((with_reducible apply cN_eq) <;> omega) | ((with_reducible apply cI_eqn) <;> omega) | exact Iff.rfl) (fun c45 => ?_) (fun c45 => by exfalso; first | omega | exact absurd trivial c45 | exact c45 | (simp at c45))
          refine g_aload_n dX6_faultOfOne_60 rfl ?_
          refine n_getI dX6_faultOfOne_61 fdX6_49 rfl (by first | rfl | exact pv_shx) (by omega) (by omega) (by decide) rfl (by repeat (first | exact f4 | exact f9 | (apply rd_s; done) | apply rd_n (by omega) | apply rp_s | apply rp_n (by omega) | (apply rdL_s; done) | apply rdL_n (by omega) | apply rpJ_s | apply rpJ_n (by omega) | rfl)) ?_
          refine g_sipush (v := nI 207) dX6_faultOfOne_64 (by decide) ?_
          refine n_isub dX6_faultOfOne_67 (by first | ((with_reducible apply pk_sub) <;> omega) | rfl) ?_
          refine g_istore_n dX6_faultOfOne_68 (by decide) rfl ?_
          refine g_iload_n dX6_faultOfOne_69 rfl ?_
          refine n_if_ge 75 dX6_faultOfOne_70 (by decide) (by first | ((with_reducible apply cN_ge0) <;> omega) | (with_reducible exact cI_ge0)) (fun c70 => ?_) (fun c70 => by exfalso; first | omega | exact absurd trivial c70 | exact c70 | (simp at c70))
          refine g_iload_n dX6_faultOfOne_75 rfl ?_
          refine g_iconst (v := nI 5) dX6_faultOfOne_76 (by decide) ?_
          refine n_icmp_lt 84 dX6_faultOfOne_77 (by decide) (by first | ((with_reducible apply cN_lt) <;> omega) | ((with_reducible apply cI_ltn) <;> omega) | ((with_reducible apply cI_nlt) <;> omega) | (with_reducible exact cI_lt)) (fun c77 => by exfalso; first | omega | exact absurd trivial c77 | exact c77 | (simp at c77)) (fun c77 => ?_)
          refine g_iconst (v := nI 1) dX6_faultOfOne_80 (by decide) ?_
          refine g_goto 85 dX6_faultOfOne_81 (by decide) ?_
          refine g_istore_n dX6_faultOfOne_85 (by decide) rfl ?_
          refine g_iload_n dX6_faultOfOne_86 rfl ?_
          refine g_iconst (v := nI 2) dX6_faultOfOne_87 (by decide) ?_
          refine n_icmp_gt 95 dX6_faultOfOne_88 (by decide) (by first | ((with_reducible apply cN_lt) <;> omega) | ((with_reducible apply cI_ltn) <;> omega) | ((with_reducible apply cI_nlt) <;> omega) | (with_reducible exact cI_lt)) (fun c88 => ?_) (fun c88 => by exfalso; first | omega | exact absurd trivial c88 | exact c88 | (simp at c88))
          refine g_iconst (v := nI 0) dX6_faultOfOne_95 (by decide) ?_
          refine g_istore dX6_faultOfOne_96 (by decide) rfl ?_
          refine g_iload_n dX6_faultOfOne_98 rfl ?_
          refine n_if_eq 110 dX6_faultOfOne_99 (by decide) (by first | (with_reducible exact cB _) | ((with_reducible apply cN_eq0) <;> omega) | exact Iff.rfl) (fun c99 => by exfalso; first | omega | exact absurd trivial c99 | exact c99 | (simp at c99)) (fun c99 => ?_)
          refine g_aload_n dX6_faultOfOne_102 rfl ?_
          refine n_getI dX6_faultOfOne_103 fdX6_95 rfl (by first | rfl | exact pv_shx) (by omega) (by omega) (by decide) rfl (by repeat (first | exact f4 | exact f9 | (apply rd_s; done) | apply rd_n (by omega) | apply rp_s | apply rp_n (by omega) | (apply rdL_s; done) | apply rdL_n (by omega) | apply rpJ_s | apply rpJ_n (by omega) | rfl)) ?_
          refine g_iconst (v := nI 3) dX6_faultOfOne_106 (by decide) ?_
          refine n_icmp_ne 123 dX6_faultOfOne_107 (by decide) (by first | ((with_reducible apply cN_eq) <;> omega) | ((with_reducible apply cI_eqn) <;> omega) | exact Iff.rfl) (fun c107 => ?_) (fun c107 => by exfalso; first | omega | exact absurd trivial c107 | exact c107 | (simp at c107))
          refine g_iconst (v := nI 5) dX6_faultOfOne_123 (by decide) ?_
          refine g_goto 128 dX6_faultOfOne_124 (by decide) ?_
          exact g_iret dX6_faultOfOne_128 rfl (⟨rfl, rfl, rfl, rfl, rfl⟩)
      · by_cases h4 : t - 207 ≤ 2
        · by_cases h5 : srt = 2
          · rw [if_pos (by omega)]
            refine pvMet.of _ (by decide) rfl (Nat.le_of_ble_eq_true rfl) ?_
            refine g_aload_n dX6_faultOfOne_0 rfl ?_
            refine n_getI dX6_faultOfOne_1 fdX6_49 rfl (by first | rfl | exact pv_shx) (by omega) (by omega) (by decide) rfl (by repeat (first | exact f4 | exact f9 | (apply rd_s; done) | apply rd_n (by omega) | apply rp_s | apply rp_n (by omega) | (apply rdL_s; done) | apply rdL_n (by omega) | apply rpJ_s | apply rpJ_n (by omega) | rfl)) ?_
            refine g_sipush (v := nI 1000) dX6_faultOfOne_4 (by decide) ?_
            refine n_icmp_lt 30 dX6_faultOfOne_7 (by decide) (by first | ((with_reducible apply cN_lt) <;> omega) | ((with_reducible apply cI_ltn) <;> omega) | ((with_reducible apply cI_nlt) <;> omega) | (with_reducible exact cI_lt)) (fun c7 => ?_) (fun c7 => by exfalso; first | omega | exact absurd trivial c7 | exact c7 | (simp at c7))
            refine g_aload_n dX6_faultOfOne_30 rfl ?_
            refine n_getI dX6_faultOfOne_31 fdX6_49 rfl (by first | rfl | exact pv_shx) (by omega) (by omega) (by decide) rfl (by repeat (first | exact f4 | exact f9 | (apply rd_s; done) | apply rd_n (by omega) | apply rp_s | apply rp_n (by omega) | (apply rdL_s; done) | apply rdL_n (by omega) | apply rpJ_s | apply rpJ_n (by omega) | rfl)) ?_
            refine g_bipush (v := nI 40) dX6_faultOfOne_34 (by decide) ?_
            refine n_icmp_eq 48 dX6_faultOfOne_36 (by decide) (by first | ((with_reducible apply cN_eq) <;> omega) | ((with_reducible apply cI_eqn) <;> omega) | exact Iff.rfl) (fun c36 => by exfalso; first | omega | exact absurd trivial c36 | exact c36 | (simp at c36)) (fun c36 => ?_)
            refine g_aload_n dX6_faultOfOne_39 rfl ?_
            refine n_getI dX6_faultOfOne_40 fdX6_49 rfl (by first | rfl | exact pv_shx) (by omega) (by omega) (by decide) rfl (by repeat (first | exact f4 | exact f9 | (apply rd_s; done) | apply rd_n (by omega) | apply rp_s | apply rp_n (by omega) | (apply rdL_s; done) | apply rdL_n (by omega) | apply rpJ_s | apply rpJ_n (by omega) | rfl)) ?_
            refine g_bipush (v := nI 45) dX6_faultOfOne_43 (by decide) ?_
            refine n_icmp_ne 60 dX6_faultOfOne_45 (by decide) (by first | ((with_reducible apply cN_eq) <;> omega) | ((with_reducible apply cI_eqn) <;> omega) | exact Iff.rfl) (fun c45 => ?_) (fun c45 => by exfalso; first | omega | exact absurd trivial c45 | exact c45 | (simp at c45))
            refine g_aload_n dX6_faultOfOne_60 rfl ?_
            refine n_getI dX6_faultOfOne_61 fdX6_49 rfl (by first | rfl | exact pv_shx) (by omega) (by omega) (by decide) rfl (by repeat (first | exact f4 | exact f9 | (apply rd_s; done) | apply rd_n (by omega) | apply rp_s | apply rp_n (by omega) | (apply rdL_s; done) | apply rdL_n (by omega) | apply rpJ_s | apply rpJ_n (by omega) | rfl)) ?_
            refine g_sipush (v := nI 207) dX6_faultOfOne_64 (by decide) ?_
            refine n_isub dX6_faultOfOne_67 (by first | ((with_reducible apply pk_sub) <;> omega) | rfl) ?_
            refine g_istore_n dX6_faultOfOne_68 (by decide) rfl ?_
            refine g_iload_n dX6_faultOfOne_69 rfl ?_
            refine n_if_ge 75 dX6_faultOfOne_70 (by decide) (by first | ((with_reducible apply cN_ge0) <;> omega) | (with_reducible exact cI_ge0)) (fun c70 => ?_) (fun c70 => by exfalso; first | omega | exact absurd trivial c70 | exact c70 | (simp at c70))
            refine g_iload_n dX6_faultOfOne_75 rfl ?_
            refine g_iconst (v := nI 5) dX6_faultOfOne_76 (by decide) ?_
            refine n_icmp_lt 84 dX6_faultOfOne_77 (by decide) (by first | ((with_reducible apply cN_lt) <;> omega) | ((with_reducible apply cI_ltn) <;> omega) | ((with_reducible apply cI_nlt) <;> omega) | (with_reducible exact cI_lt)) (fun c77 => ?_) (fun c77 => by exfalso; first | omega | exact absurd trivial c77 | exact c77 | (simp at c77))
            refine g_iconst (v := nI 0) dX6_faultOfOne_84 (by decide) ?_
            refine g_istore_n dX6_faultOfOne_85 (by decide) rfl ?_
            refine g_iload_n dX6_faultOfOne_86 rfl ?_
            refine g_iconst (v := nI 2) dX6_faultOfOne_87 (by decide) ?_
            refine n_icmp_gt 95 dX6_faultOfOne_88 (by decide) (by first | ((with_reducible apply cN_lt) <;> omega) | ((with_reducible apply cI_ltn) <;> omega) | ((with_reducible apply cI_nlt) <;> omega) | (with_reducible exact cI_lt)) (fun c88 => by exfalso; first | omega | exact absurd trivial c88 | exact c88 | (simp at c88)) (fun c88 => ?_)
            refine g_iconst (v := nI 1) dX6_faultOfOne_91 (by decide) ?_
            refine g_goto 96 dX6_faultOfOne_92 (by decide) ?_
            refine g_istore dX6_faultOfOne_96 (by decide) rfl ?_
            refine g_iload_n dX6_faultOfOne_98 rfl ?_
            refine n_if_eq 110 dX6_faultOfOne_99 (by decide) (by first | (with_reducible exact cB _) | ((with_reducible apply cN_eq0) <;> omega) | exact Iff.rfl) (fun c99 => ?_) (fun c99 => by exfalso; first | omega | exact absurd trivial c99 | exact c99 | (simp at c99))
            refine g_iload dX6_faultOfOne_110 rfl ?_
            refine n_if_eq 127 dX6_faultOfOne_112 (by decide) (by first | (with_reducible exact cB _) | ((with_reducible apply cN_eq0) <;> omega) | exact Iff.rfl) (fun c112 => by exfalso; first | omega | exact absurd trivial c112 | exact c112 | (simp at c112)) (fun c112 => ?_)
            refine g_aload_n dX6_faultOfOne_115 rfl ?_
            refine n_getI dX6_faultOfOne_116 fdX6_95 rfl (by first | rfl | exact pv_shx) (by omega) (by omega) (by decide) rfl (by repeat (first | exact f4 | exact f9 | (apply rd_s; done) | apply rd_n (by omega) | apply rp_s | apply rp_n (by omega) | (apply rdL_s; done) | apply rdL_n (by omega) | apply rpJ_s | apply rpJ_n (by omega) | rfl)) ?_
            refine g_iconst (v := nI 2) dX6_faultOfOne_119 (by decide) ?_
            refine n_icmp_ne 127 dX6_faultOfOne_120 (by decide) (by first | ((with_reducible apply cN_eq) <;> omega) | ((with_reducible apply cI_eqn) <;> omega) | exact Iff.rfl) (fun c120 => by exfalso; first | omega | exact absurd trivial c120 | exact c120 | (simp at c120)) (fun c120 => ?_)
            refine g_iconst (v := nI 5) dX6_faultOfOne_123 (by decide) ?_
            refine g_goto 128 dX6_faultOfOne_124 (by decide) ?_
            exact g_iret dX6_faultOfOne_128 rfl (⟨rfl, rfl, rfl, rfl, rfl⟩)
          · rw [if_neg (by omega)]
            refine pvMet.of _ (by decide) rfl (Nat.le_of_ble_eq_true rfl) ?_
            refine g_aload_n dX6_faultOfOne_0 rfl ?_
            refine n_getI dX6_faultOfOne_1 fdX6_49 rfl (by first | rfl | exact pv_shx) (by omega) (by omega) (by decide) rfl (by repeat (first | exact f4 | exact f9 | (apply rd_s; done) | apply rd_n (by omega) | apply rp_s | apply rp_n (by omega) | (apply rdL_s; done) | apply rdL_n (by omega) | apply rpJ_s | apply rpJ_n (by omega) | rfl)) ?_
            refine g_sipush (v := nI 1000) dX6_faultOfOne_4 (by decide) ?_
            refine n_icmp_lt 30 dX6_faultOfOne_7 (by decide) (by first | ((with_reducible apply cN_lt) <;> omega) | ((with_reducible apply cI_ltn) <;> omega) | ((with_reducible apply cI_nlt) <;> omega) | (with_reducible exact cI_lt)) (fun c7 => ?_) (fun c7 => by exfalso; first | omega | exact absurd trivial c7 | exact c7 | (simp at c7))
            refine g_aload_n dX6_faultOfOne_30 rfl ?_
            refine n_getI dX6_faultOfOne_31 fdX6_49 rfl (by first | rfl | exact pv_shx) (by omega) (by omega) (by decide) rfl (by repeat (first | exact f4 | exact f9 | (apply rd_s; done) | apply rd_n (by omega) | apply rp_s | apply rp_n (by omega) | (apply rdL_s; done) | apply rdL_n (by omega) | apply rpJ_s | apply rpJ_n (by omega) | rfl)) ?_
            refine g_bipush (v := nI 40) dX6_faultOfOne_34 (by decide) ?_
            refine n_icmp_eq 48 dX6_faultOfOne_36 (by decide) (by first | ((with_reducible apply cN_eq) <;> omega) | ((with_reducible apply cI_eqn) <;> omega) | exact Iff.rfl) (fun c36 => by exfalso; first | omega | exact absurd trivial c36 | exact c36 | (simp at c36)) (fun c36 => ?_)
            refine g_aload_n dX6_faultOfOne_39 rfl ?_
            refine n_getI dX6_faultOfOne_40 fdX6_49 rfl (by first | rfl | exact pv_shx) (by omega) (by omega) (by decide) rfl (by repeat (first | exact f4 | exact f9 | (apply rd_s; done) | apply rd_n (by omega) | apply rp_s | apply rp_n (by omega) | (apply rdL_s; done) | apply rdL_n (by omega) | apply rpJ_s | apply rpJ_n (by omega) | rfl)) ?_
            refine g_bipush (v := nI 45) dX6_faultOfOne_43 (by decide) ?_
            refine n_icmp_ne 60 dX6_faultOfOne_45 (by decide) (by first | ((with_reducible apply cN_eq) <;> omega) | ((with_reducible apply cI_eqn) <;> omega) | exact Iff.rfl) (fun c45 => ?_) (fun c45 => by exfalso; first | omega | exact absurd trivial c45 | exact c45 | (simp at c45))
            refine g_aload_n dX6_faultOfOne_60 rfl ?_
            refine n_getI dX6_faultOfOne_61 fdX6_49 rfl (by first | rfl | exact pv_shx) (by omega) (by omega) (by decide) rfl (by repeat (first | exact f4 | exact f9 | (apply rd_s; done) | apply rd_n (by omega) | apply rp_s | apply rp_n (by omega) | (apply rdL_s; done) | apply rdL_n (by omega) | apply rpJ_s | apply rpJ_n (by omega) | rfl)) ?_
            refine g_sipush (v := nI 207) dX6_faultOfOne_64 (by decide) ?_
            refine n_isub dX6_faultOfOne_67 (by first | ((with_reducible apply pk_sub) <;> omega) | rfl) ?_
            refine g_istore_n dX6_faultOfOne_68 (by decide) rfl ?_
            refine g_iload_n dX6_faultOfOne_69 rfl ?_
            refine n_if_ge 75 dX6_faultOfOne_70 (by decide) (by first | ((with_reducible apply cN_ge0) <;> omega) | (with_reducible exact cI_ge0)) (fun c70 => ?_) (fun c70 => by exfalso; first | omega | exact absurd trivial c70 | exact c70 | (simp at c70))
            refine g_iload_n dX6_faultOfOne_75 rfl ?_
            refine g_iconst (v := nI 5) dX6_faultOfOne_76 (by decide) ?_
            refine n_icmp_lt 84 dX6_faultOfOne_77 (by decide) (by first | ((with_reducible apply cN_lt) <;> omega) | ((with_reducible apply cI_ltn) <;> omega) | ((with_reducible apply cI_nlt) <;> omega) | (with_reducible exact cI_lt)) (fun c77 => ?_) (fun c77 => by exfalso; first | omega | exact absurd trivial c77 | exact c77 | (simp at c77))
            refine g_iconst (v := nI 0) dX6_faultOfOne_84 (by decide) ?_
            refine g_istore_n dX6_faultOfOne_85 (by decide) rfl ?_
            refine g_iload_n dX6_faultOfOne_86 rfl ?_
            refine g_iconst (v := nI 2) dX6_faultOfOne_87 (by decide) ?_
            refine n_icmp_gt 95 dX6_faultOfOne_88 (by decide) (by first | ((with_reducible apply cN_lt) <;> omega) | ((with_reducible apply cI_ltn) <;> omega) | ((with_reducible apply cI_nlt) <;> omega) | (with_reducible exact cI_lt)) (fun c88 => by exfalso; first | omega | exact absurd trivial c88 | exact c88 | (simp at c88)) (fun c88 => ?_)
            refine g_iconst (v := nI 1) dX6_faultOfOne_91 (by decide) ?_
            refine g_goto 96 dX6_faultOfOne_92 (by decide) ?_
            refine g_istore dX6_faultOfOne_96 (by decide) rfl ?_
            refine g_iload_n dX6_faultOfOne_98 rfl ?_
            refine n_if_eq 110 dX6_faultOfOne_99 (by decide) (by first | (with_reducible exact cB _) | ((with_reducible apply cN_eq0) <;> omega) | exact Iff.rfl) (fun c99 => ?_) (fun c99 => by exfalso; first | omega | exact absurd trivial c99 | exact c99 | (simp at c99))
            refine g_iload dX6_faultOfOne_110 rfl ?_
            refine n_if_eq 127 dX6_faultOfOne_112 (by decide) (by first | (with_reducible exact cB _) | ((with_reducible apply cN_eq0) <;> omega) | exact Iff.rfl) (fun c112 => by exfalso; first | omega | exact absurd trivial c112 | exact c112 | (simp at c112)) (fun c112 => ?_)
            refine g_aload_n dX6_faultOfOne_115 rfl ?_
            refine n_getI dX6_faultOfOne_116 fdX6_95 rfl (by first | rfl | exact pv_shx) (by omega) (by omega) (by decide) rfl (by repeat (first | exact f4 | exact f9 | (apply rd_s; done) | apply rd_n (by omega) | apply rp_s | apply rp_n (by omega) | (apply rdL_s; done) | apply rdL_n (by omega) | apply rpJ_s | apply rpJ_n (by omega) | rfl)) ?_
            refine g_iconst (v := nI 2) dX6_faultOfOne_119 (by decide) ?_
            refine n_icmp_ne 127 dX6_faultOfOne_120 (by decide) (by first | ((with_reducible apply cN_eq) <;> omega) | ((with_reducible apply cI_eqn) <;> omega) | exact Iff.rfl) (fun c120 => ?_) (fun c120 => by exfalso; first | omega | exact absurd trivial c120 | exact c120 | (simp at c120))
            refine g_iconst (v := nI 0) dX6_faultOfOne_127 (by decide) ?_
            exact g_iret dX6_faultOfOne_128 rfl (⟨rfl, rfl, rfl, rfl, rfl⟩)
        · rw [if_neg (by omega)]
          refine pvMet.of _ (by decide) rfl (Nat.le_of_ble_eq_true rfl) ?_
          refine g_aload_n dX6_faultOfOne_0 rfl ?_
          refine n_getI dX6_faultOfOne_1 fdX6_49 rfl (by first | rfl | exact pv_shx) (by omega) (by omega) (by decide) rfl (by repeat (first | exact f4 | exact f9 | (apply rd_s; done) | apply rd_n (by omega) | apply rp_s | apply rp_n (by omega) | (apply rdL_s; done) | apply rdL_n (by omega) | apply rpJ_s | apply rpJ_n (by omega) | rfl)) ?_
          refine g_sipush (v := nI 1000) dX6_faultOfOne_4 (by decide) ?_
          refine n_icmp_lt 30 dX6_faultOfOne_7 (by decide) (by first | ((with_reducible apply cN_lt) <;> omega) | ((with_reducible apply cI_ltn) <;> omega) | ((with_reducible apply cI_nlt) <;> omega) | (with_reducible exact cI_lt)) (fun c7 => ?_) (fun c7 => by exfalso; first | omega | exact absurd trivial c7 | exact c7 | (simp at c7))
          refine g_aload_n dX6_faultOfOne_30 rfl ?_
          refine n_getI dX6_faultOfOne_31 fdX6_49 rfl (by first | rfl | exact pv_shx) (by omega) (by omega) (by decide) rfl (by repeat (first | exact f4 | exact f9 | (apply rd_s; done) | apply rd_n (by omega) | apply rp_s | apply rp_n (by omega) | (apply rdL_s; done) | apply rdL_n (by omega) | apply rpJ_s | apply rpJ_n (by omega) | rfl)) ?_
          refine g_bipush (v := nI 40) dX6_faultOfOne_34 (by decide) ?_
          refine n_icmp_eq 48 dX6_faultOfOne_36 (by decide) (by first | ((with_reducible apply cN_eq) <;> omega) | ((with_reducible apply cI_eqn) <;> omega) | exact Iff.rfl) (fun c36 => by exfalso; first | omega | exact absurd trivial c36 | exact c36 | (simp at c36)) (fun c36 => ?_)
          refine g_aload_n dX6_faultOfOne_39 rfl ?_
          refine n_getI dX6_faultOfOne_40 fdX6_49 rfl (by first | rfl | exact pv_shx) (by omega) (by omega) (by decide) rfl (by repeat (first | exact f4 | exact f9 | (apply rd_s; done) | apply rd_n (by omega) | apply rp_s | apply rp_n (by omega) | (apply rdL_s; done) | apply rdL_n (by omega) | apply rpJ_s | apply rpJ_n (by omega) | rfl)) ?_
          refine g_bipush (v := nI 45) dX6_faultOfOne_43 (by decide) ?_
          refine n_icmp_ne 60 dX6_faultOfOne_45 (by decide) (by first | ((with_reducible apply cN_eq) <;> omega) | ((with_reducible apply cI_eqn) <;> omega) | exact Iff.rfl) (fun c45 => ?_) (fun c45 => by exfalso; first | omega | exact absurd trivial c45 | exact c45 | (simp at c45))
          refine g_aload_n dX6_faultOfOne_60 rfl ?_
          refine n_getI dX6_faultOfOne_61 fdX6_49 rfl (by first | rfl | exact pv_shx) (by omega) (by omega) (by decide) rfl (by repeat (first | exact f4 | exact f9 | (apply rd_s; done) | apply rd_n (by omega) | apply rp_s | apply rp_n (by omega) | (apply rdL_s; done) | apply rdL_n (by omega) | apply rpJ_s | apply rpJ_n (by omega) | rfl)) ?_
          refine g_sipush (v := nI 207) dX6_faultOfOne_64 (by decide) ?_
          refine n_isub dX6_faultOfOne_67 (by first | ((with_reducible apply pk_sub) <;> omega) | rfl) ?_
          refine g_istore_n dX6_faultOfOne_68 (by decide) rfl ?_
          refine g_iload_n dX6_faultOfOne_69 rfl ?_
          refine n_if_ge 75 dX6_faultOfOne_70 (by decide) (by first | ((with_reducible apply cN_ge0) <;> omega) | (with_reducible exact cI_ge0)) (fun c70 => ?_) (fun c70 => by exfalso; first | omega | exact absurd trivial c70 | exact c70 | (simp at c70))
          refine g_iload_n dX6_faultOfOne_75 rfl ?_
          refine g_iconst (v := nI 5) dX6_faultOfOne_76 (by decide) ?_
          refine n_icmp_lt 84 dX6_faultOfOne_77 (by decide) (by first | ((with_reducible apply cN_lt) <;> omega) | ((with_reducible apply cI_ltn) <;> omega) | ((with_reducible apply cI_nlt) <;> omega) | (with_reducible exact cI_lt)) (fun c77 => ?_) (fun c77 => by exfalso; first | omega | exact absurd trivial c77 | exact c77 | (simp at c77))
          refine g_iconst (v := nI 0) dX6_faultOfOne_84 (by decide) ?_
          refine g_istore_n dX6_faultOfOne_85 (by decide) rfl ?_
          refine g_iload_n dX6_faultOfOne_86 rfl ?_
          refine g_iconst (v := nI 2) dX6_faultOfOne_87 (by decide) ?_
          refine n_icmp_gt 95 dX6_faultOfOne_88 (by decide) (by first | ((with_reducible apply cN_lt) <;> omega) | ((with_reducible apply cI_ltn) <;> omega) | ((with_reducible apply cI_nlt) <;> omega) | (with_reducible exact cI_lt)) (fun c88 => ?_) (fun c88 => by exfalso; first | omega | exact absurd trivial c88 | exact c88 | (simp at c88))
          refine g_iconst (v := nI 0) dX6_faultOfOne_95 (by decide) ?_
          refine g_istore dX6_faultOfOne_96 (by decide) rfl ?_
          refine g_iload_n dX6_faultOfOne_98 rfl ?_
          refine n_if_eq 110 dX6_faultOfOne_99 (by decide) (by first | (with_reducible exact cB _) | ((with_reducible apply cN_eq0) <;> omega) | exact Iff.rfl) (fun c99 => ?_) (fun c99 => by exfalso; first | omega | exact absurd trivial c99 | exact c99 | (simp at c99))
          refine g_iload dX6_faultOfOne_110 rfl ?_
          refine n_if_eq 127 dX6_faultOfOne_112 (by decide) (by first | (with_reducible exact cB _) | ((with_reducible apply cN_eq0) <;> omega) | exact Iff.rfl) (fun c112 => ?_) (fun c112 => by exfalso; first | omega | exact absurd trivial c112 | exact c112 | (simp at c112))
          refine g_iconst (v := nI 0) dX6_faultOfOne_127 (by decide) ?_
          exact g_iret dX6_faultOfOne_128 rfl (⟨rfl, rfl, rfl, rfl, rfl⟩)
    · have eb : bgF srt dp t = if t = 40 ∨ t = 45 then (if dp = 8 then 3 else 0) else 1 := by
        unfold bgF
        rw [if_neg h1, if_neg h2]
      rw [eb]
      by_cases h3 : t = 40
      · rw [if_pos (Or.inl h3)]
        by_cases h4 : dp = 8
        · rw [if_pos h4]
          refine pvMet.of _ (by decide) rfl (Nat.le_of_ble_eq_true rfl) ?_
          refine g_aload_n dX6_faultOfOne_0 rfl ?_
          refine n_getI dX6_faultOfOne_1 fdX6_49 rfl (by first | rfl | exact pv_shx) (by omega) (by omega) (by decide) rfl (by repeat (first | exact f4 | (apply rd_s; done) | apply rd_n (by omega) | apply rp_s | apply rp_n (by omega) | (apply rdL_s; done) | apply rdL_n (by omega) | apply rpJ_s | apply rpJ_n (by omega) | rfl)) ?_
          refine g_sipush (v := nI 1000) dX6_faultOfOne_4 (by decide) ?_
          refine n_icmp_lt 30 dX6_faultOfOne_7 (by decide) (by first | ((with_reducible apply cN_lt) <;> omega) | ((with_reducible apply cI_ltn) <;> omega) | ((with_reducible apply cI_nlt) <;> omega) | (with_reducible exact cI_lt)) (fun c7 => ?_) (fun c7 => by exfalso; first | omega | exact absurd trivial c7 | exact c7 | (simp at c7))
          refine g_aload_n dX6_faultOfOne_30 rfl ?_
          refine n_getI dX6_faultOfOne_31 fdX6_49 rfl (by first | rfl | exact pv_shx) (by omega) (by omega) (by decide) rfl (by repeat (first | exact f4 | (apply rd_s; done) | apply rd_n (by omega) | apply rp_s | apply rp_n (by omega) | (apply rdL_s; done) | apply rdL_n (by omega) | apply rpJ_s | apply rpJ_n (by omega) | rfl)) ?_
          refine g_bipush (v := nI 40) dX6_faultOfOne_34 (by decide) ?_
          refine n_icmp_eq 48 dX6_faultOfOne_36 (by decide) (by first | ((with_reducible apply cN_eq) <;> omega) | ((with_reducible apply cI_eqn) <;> omega) | exact Iff.rfl) (fun c36 => ?_) (fun c36 => by exfalso; first | omega | exact absurd trivial c36 | exact c36 | (simp at c36))
          refine g_iload_n dX6_faultOfOne_48 rfl ?_
          refine g_bipush (v := nI 8) dX6_faultOfOne_49 (by decide) ?_
          refine n_icmp_lt 58 dX6_faultOfOne_51 (by decide) (by first | ((with_reducible apply cN_lt) <;> omega) | ((with_reducible apply cI_ltn) <;> omega) | ((with_reducible apply cI_nlt) <;> omega) | (with_reducible exact cI_lt)) (fun c51 => by exfalso; first | omega | exact absurd trivial c51 | exact c51 | (simp at c51)) (fun c51 => ?_)
          refine g_iconst (v := nI 3) dX6_faultOfOne_54 (by decide) ?_
          refine g_goto 59 dX6_faultOfOne_55 (by decide) ?_
          exact g_iret dX6_faultOfOne_59 rfl (⟨rfl, rfl, rfl, rfl, rfl⟩)
        · rw [if_neg h4]
          refine pvMet.of _ (by decide) rfl (Nat.le_of_ble_eq_true rfl) ?_
          refine g_aload_n dX6_faultOfOne_0 rfl ?_
          refine n_getI dX6_faultOfOne_1 fdX6_49 rfl (by first | rfl | exact pv_shx) (by omega) (by omega) (by decide) rfl (by repeat (first | exact f4 | (apply rd_s; done) | apply rd_n (by omega) | apply rp_s | apply rp_n (by omega) | (apply rdL_s; done) | apply rdL_n (by omega) | apply rpJ_s | apply rpJ_n (by omega) | rfl)) ?_
          refine g_sipush (v := nI 1000) dX6_faultOfOne_4 (by decide) ?_
          refine n_icmp_lt 30 dX6_faultOfOne_7 (by decide) (by first | ((with_reducible apply cN_lt) <;> omega) | ((with_reducible apply cI_ltn) <;> omega) | ((with_reducible apply cI_nlt) <;> omega) | (with_reducible exact cI_lt)) (fun c7 => ?_) (fun c7 => by exfalso; first | omega | exact absurd trivial c7 | exact c7 | (simp at c7))
          refine g_aload_n dX6_faultOfOne_30 rfl ?_
          refine n_getI dX6_faultOfOne_31 fdX6_49 rfl (by first | rfl | exact pv_shx) (by omega) (by omega) (by decide) rfl (by repeat (first | exact f4 | (apply rd_s; done) | apply rd_n (by omega) | apply rp_s | apply rp_n (by omega) | (apply rdL_s; done) | apply rdL_n (by omega) | apply rpJ_s | apply rpJ_n (by omega) | rfl)) ?_
          refine g_bipush (v := nI 40) dX6_faultOfOne_34 (by decide) ?_
          refine n_icmp_eq 48 dX6_faultOfOne_36 (by decide) (by first | ((with_reducible apply cN_eq) <;> omega) | ((with_reducible apply cI_eqn) <;> omega) | exact Iff.rfl) (fun c36 => ?_) (fun c36 => by exfalso; first | omega | exact absurd trivial c36 | exact c36 | (simp at c36))
          refine g_iload_n dX6_faultOfOne_48 rfl ?_
          refine g_bipush (v := nI 8) dX6_faultOfOne_49 (by decide) ?_
          refine n_icmp_lt 58 dX6_faultOfOne_51 (by decide) (by first | ((with_reducible apply cN_lt) <;> omega) | ((with_reducible apply cI_ltn) <;> omega) | ((with_reducible apply cI_nlt) <;> omega) | (with_reducible exact cI_lt)) (fun c51 => ?_) (fun c51 => by exfalso; first | omega | exact absurd trivial c51 | exact c51 | (simp at c51))
          refine g_iconst (v := nI 0) dX6_faultOfOne_58 (by decide) ?_
          exact g_iret dX6_faultOfOne_59 rfl (⟨rfl, rfl, rfl, rfl, rfl⟩)
      · by_cases h5 : t = 45
        · rw [if_pos (Or.inr h5)]
          by_cases h4 : dp = 8
          · rw [if_pos h4]
            refine pvMet.of _ (by decide) rfl (Nat.le_of_ble_eq_true rfl) ?_
            refine g_aload_n dX6_faultOfOne_0 rfl ?_
            refine n_getI dX6_faultOfOne_1 fdX6_49 rfl (by first | rfl | exact pv_shx) (by omega) (by omega) (by decide) rfl (by repeat (first | exact f4 | (apply rd_s; done) | apply rd_n (by omega) | apply rp_s | apply rp_n (by omega) | (apply rdL_s; done) | apply rdL_n (by omega) | apply rpJ_s | apply rpJ_n (by omega) | rfl)) ?_
            refine g_sipush (v := nI 1000) dX6_faultOfOne_4 (by decide) ?_
            refine n_icmp_lt 30 dX6_faultOfOne_7 (by decide) (by first | ((with_reducible apply cN_lt) <;> omega) | ((with_reducible apply cI_ltn) <;> omega) | ((with_reducible apply cI_nlt) <;> omega) | (with_reducible exact cI_lt)) (fun c7 => ?_) (fun c7 => by exfalso; first | omega | exact absurd trivial c7 | exact c7 | (simp at c7))
            refine g_aload_n dX6_faultOfOne_30 rfl ?_
            refine n_getI dX6_faultOfOne_31 fdX6_49 rfl (by first | rfl | exact pv_shx) (by omega) (by omega) (by decide) rfl (by repeat (first | exact f4 | (apply rd_s; done) | apply rd_n (by omega) | apply rp_s | apply rp_n (by omega) | (apply rdL_s; done) | apply rdL_n (by omega) | apply rpJ_s | apply rpJ_n (by omega) | rfl)) ?_
            refine g_bipush (v := nI 40) dX6_faultOfOne_34 (by decide) ?_
            refine n_icmp_eq 48 dX6_faultOfOne_36 (by decide) (by first | ((with_reducible apply cN_eq) <;> omega) | ((with_reducible apply cI_eqn) <;> omega) | exact Iff.rfl) (fun c36 => by exfalso; first | omega | exact absurd trivial c36 | exact c36 | (simp at c36)) (fun c36 => ?_)
            refine g_aload_n dX6_faultOfOne_39 rfl ?_
            refine n_getI dX6_faultOfOne_40 fdX6_49 rfl (by first | rfl | exact pv_shx) (by omega) (by omega) (by decide) rfl (by repeat (first | exact f4 | (apply rd_s; done) | apply rd_n (by omega) | apply rp_s | apply rp_n (by omega) | (apply rdL_s; done) | apply rdL_n (by omega) | apply rpJ_s | apply rpJ_n (by omega) | rfl)) ?_
            refine g_bipush (v := nI 45) dX6_faultOfOne_43 (by decide) ?_
            refine n_icmp_ne 60 dX6_faultOfOne_45 (by decide) (by first | ((with_reducible apply cN_eq) <;> omega) | ((with_reducible apply cI_eqn) <;> omega) | exact Iff.rfl) (fun c45 => by exfalso; first | omega | exact absurd trivial c45 | exact c45 | (simp at c45)) (fun c45 => ?_)
            refine g_iload_n dX6_faultOfOne_48 rfl ?_
            refine g_bipush (v := nI 8) dX6_faultOfOne_49 (by decide) ?_
            refine n_icmp_lt 58 dX6_faultOfOne_51 (by decide) (by first | ((with_reducible apply cN_lt) <;> omega) | ((with_reducible apply cI_ltn) <;> omega) | ((with_reducible apply cI_nlt) <;> omega) | (with_reducible exact cI_lt)) (fun c51 => by exfalso; first | omega | exact absurd trivial c51 | exact c51 | (simp at c51)) (fun c51 => ?_)
            refine g_iconst (v := nI 3) dX6_faultOfOne_54 (by decide) ?_
            refine g_goto 59 dX6_faultOfOne_55 (by decide) ?_
            exact g_iret dX6_faultOfOne_59 rfl (⟨rfl, rfl, rfl, rfl, rfl⟩)
          · rw [if_neg h4]
            refine pvMet.of _ (by decide) rfl (Nat.le_of_ble_eq_true rfl) ?_
            refine g_aload_n dX6_faultOfOne_0 rfl ?_
            refine n_getI dX6_faultOfOne_1 fdX6_49 rfl (by first | rfl | exact pv_shx) (by omega) (by omega) (by decide) rfl (by repeat (first | exact f4 | (apply rd_s; done) | apply rd_n (by omega) | apply rp_s | apply rp_n (by omega) | (apply rdL_s; done) | apply rdL_n (by omega) | apply rpJ_s | apply rpJ_n (by omega) | rfl)) ?_
            refine g_sipush (v := nI 1000) dX6_faultOfOne_4 (by decide) ?_
            refine n_icmp_lt 30 dX6_faultOfOne_7 (by decide) (by first | ((with_reducible apply cN_lt) <;> omega) | ((with_reducible apply cI_ltn) <;> omega) | ((with_reducible apply cI_nlt) <;> omega) | (with_reducible exact cI_lt)) (fun c7 => ?_) (fun c7 => by exfalso; first | omega | exact absurd trivial c7 | exact c7 | (simp at c7))
            refine g_aload_n dX6_faultOfOne_30 rfl ?_
            refine n_getI dX6_faultOfOne_31 fdX6_49 rfl (by first | rfl | exact pv_shx) (by omega) (by omega) (by decide) rfl (by repeat (first | exact f4 | (apply rd_s; done) | apply rd_n (by omega) | apply rp_s | apply rp_n (by omega) | (apply rdL_s; done) | apply rdL_n (by omega) | apply rpJ_s | apply rpJ_n (by omega) | rfl)) ?_
            refine g_bipush (v := nI 40) dX6_faultOfOne_34 (by decide) ?_
            refine n_icmp_eq 48 dX6_faultOfOne_36 (by decide) (by first | ((with_reducible apply cN_eq) <;> omega) | ((with_reducible apply cI_eqn) <;> omega) | exact Iff.rfl) (fun c36 => by exfalso; first | omega | exact absurd trivial c36 | exact c36 | (simp at c36)) (fun c36 => ?_)
            refine g_aload_n dX6_faultOfOne_39 rfl ?_
            refine n_getI dX6_faultOfOne_40 fdX6_49 rfl (by first | rfl | exact pv_shx) (by omega) (by omega) (by decide) rfl (by repeat (first | exact f4 | (apply rd_s; done) | apply rd_n (by omega) | apply rp_s | apply rp_n (by omega) | (apply rdL_s; done) | apply rdL_n (by omega) | apply rpJ_s | apply rpJ_n (by omega) | rfl)) ?_
            refine g_bipush (v := nI 45) dX6_faultOfOne_43 (by decide) ?_
            refine n_icmp_ne 60 dX6_faultOfOne_45 (by decide) (by first | ((with_reducible apply cN_eq) <;> omega) | ((with_reducible apply cI_eqn) <;> omega) | exact Iff.rfl) (fun c45 => by exfalso; first | omega | exact absurd trivial c45 | exact c45 | (simp at c45)) (fun c45 => ?_)
            refine g_iload_n dX6_faultOfOne_48 rfl ?_
            refine g_bipush (v := nI 8) dX6_faultOfOne_49 (by decide) ?_
            refine n_icmp_lt 58 dX6_faultOfOne_51 (by decide) (by first | ((with_reducible apply cN_lt) <;> omega) | ((with_reducible apply cI_ltn) <;> omega) | ((with_reducible apply cI_nlt) <;> omega) | (with_reducible exact cI_lt)) (fun c51 => ?_) (fun c51 => by exfalso; first | omega | exact absurd trivial c51 | exact c51 | (simp at c51))
            refine g_iconst (v := nI 0) dX6_faultOfOne_58 (by decide) ?_
            exact g_iret dX6_faultOfOne_59 rfl (⟨rfl, rfl, rfl, rfl, rfl⟩)
        · rw [if_neg (by omega)]
          refine pvMet.of _ (by decide) rfl (Nat.le_of_ble_eq_true rfl) ?_
          refine g_aload_n dX6_faultOfOne_0 rfl ?_
          refine n_getI dX6_faultOfOne_1 fdX6_49 rfl (by first | rfl | exact pv_shx) (by omega) (by omega) (by decide) rfl (by repeat (first | exact f4 | (apply rd_s; done) | apply rd_n (by omega) | apply rp_s | apply rp_n (by omega) | (apply rdL_s; done) | apply rdL_n (by omega) | apply rpJ_s | apply rpJ_n (by omega) | rfl)) ?_
          refine g_sipush (v := nI 1000) dX6_faultOfOne_4 (by decide) ?_
          refine n_icmp_lt 30 dX6_faultOfOne_7 (by decide) (by first | ((with_reducible apply cN_lt) <;> omega) | ((with_reducible apply cI_ltn) <;> omega) | ((with_reducible apply cI_nlt) <;> omega) | (with_reducible exact cI_lt)) (fun c7 => ?_) (fun c7 => by exfalso; first | omega | exact absurd trivial c7 | exact c7 | (simp at c7))
          refine g_aload_n dX6_faultOfOne_30 rfl ?_
          refine n_getI dX6_faultOfOne_31 fdX6_49 rfl (by first | rfl | exact pv_shx) (by omega) (by omega) (by decide) rfl (by repeat (first | exact f4 | (apply rd_s; done) | apply rd_n (by omega) | apply rp_s | apply rp_n (by omega) | (apply rdL_s; done) | apply rdL_n (by omega) | apply rpJ_s | apply rpJ_n (by omega) | rfl)) ?_
          refine g_bipush (v := nI 40) dX6_faultOfOne_34 (by decide) ?_
          refine n_icmp_eq 48 dX6_faultOfOne_36 (by decide) (by first | ((with_reducible apply cN_eq) <;> omega) | ((with_reducible apply cI_eqn) <;> omega) | exact Iff.rfl) (fun c36 => by exfalso; first | omega | exact absurd trivial c36 | exact c36 | (simp at c36)) (fun c36 => ?_)
          refine g_aload_n dX6_faultOfOne_39 rfl ?_
          refine n_getI dX6_faultOfOne_40 fdX6_49 rfl (by first | rfl | exact pv_shx) (by omega) (by omega) (by decide) rfl (by repeat (first | exact f4 | (apply rd_s; done) | apply rd_n (by omega) | apply rp_s | apply rp_n (by omega) | (apply rdL_s; done) | apply rdL_n (by omega) | apply rpJ_s | apply rpJ_n (by omega) | rfl)) ?_
          refine g_bipush (v := nI 45) dX6_faultOfOne_43 (by decide) ?_
          refine n_icmp_ne 60 dX6_faultOfOne_45 (by decide) (by first | ((with_reducible apply cN_eq) <;> omega) | ((with_reducible apply cI_eqn) <;> omega) | exact Iff.rfl) (fun c45 => ?_) (fun c45 => by exfalso; first | omega | exact absurd trivial c45 | exact c45 | (simp at c45))
          refine g_aload_n dX6_faultOfOne_60 rfl ?_
          refine n_getI dX6_faultOfOne_61 fdX6_49 rfl (by first | rfl | exact pv_shx) (by omega) (by omega) (by decide) rfl (by repeat (first | exact f4 | (apply rd_s; done) | apply rd_n (by omega) | apply rp_s | apply rp_n (by omega) | (apply rdL_s; done) | apply rdL_n (by omega) | apply rpJ_s | apply rpJ_n (by omega) | rfl)) ?_
          refine g_sipush (v := nI 207) dX6_faultOfOne_64 (by decide) ?_
          refine n_isub dX6_faultOfOne_67 (rfl) ?_
          refine g_istore_n dX6_faultOfOne_68 (by decide) rfl ?_
          refine g_iload_n dX6_faultOfOne_69 rfl ?_
          refine n_if_ge 75 dX6_faultOfOne_70 (by decide) (cI_ge0.trans (by rw [pk_sub_toInt (by omega) (by omega)])) (fun c70 => by exfalso; first | omega | exact absurd trivial c70 | exact c70 | (simp at c70)) (fun c70 => ?_)
          refine g_iconst (v := nI 1) dX6_faultOfOne_73 (by decide) ?_
          exact g_iret dX6_faultOfOne_74 rfl (⟨rfl, rfl, rfl, rfl, rfl⟩)
end RDR
