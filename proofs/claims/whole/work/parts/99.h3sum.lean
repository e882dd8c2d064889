/-! class: the reader: sums -/
theorem rm_le {d d2 L : Nat} (h : d2 + 1 ≤ d) (hL : 8 + (L + 11) ≤ 60) : d2 + 1 ≤ (pvR d 0 0).frames ∧ 8 + (L + 11) + 60 * d2 ≤ (pvR d 0 0).locals ∧ 0 + 0 ≤ (pvR d 0 0).cells ∧ 0 + 0 ≤ (pvR d 0 0).slots := ⟨h, by show _ ≤ 60 * d; omega, Nat.le_refl _, Nat.le_refl _⟩
theorem bgF_le {srt op t : Nat} : bgF srt op t ≤ 5 := by
  unfold bgF
  repeat (first | omega | split)
theorem rdO_bad {T : Nat → Nat} {srt n D k : Nat} (hD : D ≤ 8) (h : bgF srt (8 - D) (T k) ≠ 0) : rdO T srt n D k = .error (bgF srt (8 - D) (T k), k) := by
  have at0 : T k ≠ 40 → T k ≠ 45 → atomT T srt k = .error (bgF srt (8 - D) (T k), k) := fun z1 z2 => by
    unfold bgF at h ⊢
    unfold atomT
    by_cases c1 : 1000 ≤ T k
    · rw [if_pos c1] at h ⊢
      by_cases c2 : 10999 < T k
      · rw [if_pos c1, if_pos c2]; rw [if_pos c2]
      · rw [if_neg c2] at h; exact absurd rfl h
    · rw [if_neg c1] at h ⊢
      rw [if_neg c1]
      by_cases c2 : 207 ≤ T k
      · rw [if_pos c2] at h ⊢
        rw [if_pos c2]
        by_cases c3 : barB srt (T k - 207) = true
        · rw [if_pos c3, if_pos c3]
        · rw [if_neg c3] at h; exact absurd rfl h
      · rw [if_neg c2, if_neg c2, if_neg (by omega)]
  have op : T k = 40 ∨ T k = 45 → D = 0 ∧ bgF srt (8 - D) (T k) = 3 := fun z => by
    have e : bgF srt (8 - D) (T k) = if 8 - D = 8 then 3 else 0 := by
      unfold bgF
      rw [if_neg (by omega), if_neg (by omega), if_pos z]
    rw [e] at h ⊢
    by_cases c : 8 - D = 8
    · rw [if_pos c]; exact ⟨by omega, rfl⟩
    · rw [if_neg c] at h; exact absurd rfl h
  by_cases z : T k = 40 ∨ T k = 45
  · obtain ⟨h1, h2⟩ := op z
    rw [h2]
    subst h1
    simp only [rdO]
    rw [if_pos z]
  · cases D with
    | zero =>
      simp only [rdO]
      rw [if_neg z]; exact at0 (fun y => z (Or.inl y)) (fun y => z (Or.inr y))
    | succ D =>
      simp only [rdO]
      rw [if_neg (fun y => z (Or.inl y)), if_neg (fun y => z (Or.inr y))]; exact at0 (fun y => z (Or.inl y)) (fun y => z (Or.inr y))
theorem atom_ok {T : Nat → Nat} {srt op k : Nat} (h : bgF srt op (T k) = 0) (h1 : T k ≠ 40) (h2 : T k ≠ 45) : 207 ≤ T k ∧ T k ≤ 10999 ∧ atomT T srt k = .ok ([if 1000 ≤ T k then T k - 1000 else 10000 + (T k - 207)], k + 1) := by
  unfold bgF at h
  unfold atomT
  by_cases c1 : 1000 ≤ T k
  · rw [if_pos c1] at h
    by_cases c2 : 10999 < T k
    · rw [if_pos c2] at h; cases h
    · rw [if_pos c1, if_neg c2, if_pos c1]
      exact ⟨by omega, by omega, rfl⟩
  · rw [if_neg c1] at h
    rw [if_neg c1, if_neg c1]
    by_cases c2 : 207 ≤ T k
    · rw [if_pos c2] at h ⊢
      by_cases c3 : barB srt (T k - 207) = true
      · rw [if_pos c3] at h; cases h
      · rw [if_neg c3]
        exact ⟨c2, by omega, rfl⟩
    · rw [if_neg c2, if_neg (by omega)] at h; cases h
theorem gtO {tx : Nat → Nat} {n srt D : Nat} (k : Nat) (e : List Nat) (k2 : Nat) (h : rdO (tkK tx n) srt n D k = .ok (e, k2)) : k < k2 := by
  have h1 := wf_O (srt := srt) (n := n) (tkK_b (tx := tx) (n := n)) D k e k2 h
  have h2 := len_O (srt := srt) (n := n) (T := tkK tx n) D k e k2 h
  cases e with
  | nil =>
    have := h1.2 0 0
    cases this
  | cons x l => rw [List.length_cons] at h2; omega
theorem gtT {tx : Nat → Nat} {n srt D : Nat} (k : Nat) (e : List Nat) (k2 : Nat) (h : rdT (tkK tx n) n (rdO (tkK tx n) srt n D) k = .ok (e, k2)) : k < k2 := by
  have key : ∀ f e k, ∀ e2 k2, rdP (tkK tx n) (rdO (tkK tx n) srt n D) f e k = .ok (e2, k2) → k ≤ k2 := by
    intro f
    induction f with
    | zero => intro e k e2 k2 h; cases h; exact Nat.le_refl _
    | succ f ih =>
      intro e k e2 k2 h
      simp only [rdP] at h
      split at h
      · cases hx : rdO (tkK tx n) srt n D (k + 1) with
        | error x => rw [hx] at h; cases h
        | ok v =>
          obtain ⟨e3, k3⟩ := v
          rw [hx] at h
          have := gtO _ _ _ hx
          have := ih _ _ _ _ h
          omega
      · cases h; exact Nat.le_refl _
  unfold rdT at h
  cases hx : rdO (tkK tx n) srt n D k with
  | error x => rw [hx] at h; cases h
  | ok v =>
    obtain ⟨e3, k3⟩ := v
    rw [hx] at h
    have := gtO _ _ _ hx
    have := key _ _ _ _ _ h
    omega
section SUMS
variable {tx : Nat → Nat} {n cT A srt : Nat} {I0 I : pvI} {J : pvJ} {P : pvP} {r : pR}
def cOne (tx : Nat → Nat) (n cT A srt : Nat) (I0 : pvI) (J : pvJ) (P : pvP) (D : Nat) : Prop := ∀ r I, psS tx n cT A I0 r I → pvMet mX6_readOne (2 * D + 1) 0 0 [.ref 144, .int (nI (8 - D))] 224 I J P (pS tx n cT A I0 J P (bindR (rdO (tkK tx n) srt n D) r))
def cSum (tx : Nat → Nat) (n cT A srt : Nat) (I0 : pvI) (J : pvJ) (P : pvP) (D : Nat) : Prop := ∀ r I, psS tx n cT A I0 r I → pvMet mX6_readSum (2 * D + 2) 0 0 [.ref 144, .int (nI (8 - D))] 224 I J P (pS tx n cT A I0 J P (bindR (rdS (tkK tx n) n (rdO (tkK tx n) srt n D)) r))
theorem bind_at {f : Nat → pR} {cd : List Nat} {k : Nat} (hg : ∀ k e k2, f k = .ok (e, k2) → k < k2) (e : bindR f r = .ok (cd, k)) : ∃ cd0 k0, r = .ok (cd0, k0) ∧ k0 < k := by
  cases r with
  | error x => cases e
  | ok v =>
    obtain ⟨cd0, k0⟩ := v
    simp only [bindR] at e
    cases hx : f k0 with
    | error x => rw [hx] at e; cases e
    | ok v =>
      obtain ⟨e2, k2⟩ := v
      rw [hx] at e
      cases e
      exact ⟨cd0, k0, rfl, hg _ _ _ hx⟩
theorem c_one {D : Nat} (hP : pvOkP P) (hPA : P 144 11 = some A) (hA : aAd A) (hB : rB tx n cT srt I0) (hD : D ≤ 8) (hL : ∀ D', D = D' + 1 → cOne tx n cT A srt I0 J P D' ∧ cSum tx n cT A srt I0 J P D') : cOne tx n cT A srt I0 J P D := by
  intro r I hs
  obtain ⟨⟨s0, s1, s2, s3, s4⟩, h149, h194⟩ := hA.sh
  have fo := c_faultOfOne (dp := 8 - D) (J := J) (P := P) hB hs (by omega)
  have f4 := hs.2.1
  have hbl := bgF_le (srt := srt) (op := 8 - D) (t := tkS (tkK tx n) r)
  have htl := tkS_le (tx := tx) (n := n) (r := r)
  by_cases hb : bgF srt (8 - D) (tkS (tkK tx n) r) = 0
  · cases r with
    | error x =>
      exfalso
      have : bgF srt (8 - D) 0 = 1 := rfl
      have h0 : tkS (tkK tx n) (Except.error x) = 0 := rfl
      rw [h0] at hb
      omega
    | ok v =>
      obtain ⟨cd, k⟩ := v
      replace hb : bgF srt (8 - D) (tkK tx n k) = 0 := hb
      replace htl : tkK tx n k ≤ 11000 := htl
      replace f4 : I 144 8 = nI (tkK tx n k) := f4
      have hne : tkK tx n k ≠ 0 := fun z => by
        rw [z] at hb
        have : bgF srt (8 - D) 0 = 1 := rfl
        omega
      have ad := c_advance (I := I) (J := J) (P := P) hP hA hB.1 hs (Or.inr hne)
      replace fo : pvMet mX6_faultOfOne 0 0 0 [.ref 144, .int (nI (8 - D))] 224 I J P (pvpu (.int (nI 0)) 224 I J P) := by
        have e : nI (bgF srt (8 - D) (tkS (tkK tx n) (.ok (cd, k)))) = nI 0 := congrArg nI hb
        rw [e] at fo
        exact fo
      have hle := hs.le cd k rfl
      have rl1 : rlt (advR (.ok (cd, k))) := rlt_adv hs.le
      by_cases t40 : tkK tx n k = 40
      · have hD1 : ∃ D', D = D' + 1 := by
          cases D with
          | zero => exfalso; rw [t40] at hb; exact absurd hb (show ¬ bgF srt (8 - 0) 40 = 0 from (by decide : ¬ (3 : Nat) = 0))
          | succ D' => exact ⟨D', rfl⟩
        obtain ⟨D', rfl⟩ := hD1
        obtain ⟨-, lS⟩ := hL D' rfl
        refine pvMet.of _ (by decide) rfl (Nat.le_of_ble_eq_true rfl) ?_
        refine g_aload_n dX6_readOne_0 rfl ?_
        refine n_getI dX6_readOne_1 fdX6_49 rfl (by first | rfl | exact pv_shx) (by omega) (by omega) (by decide) rfl (by repeat (first | exact f4 | (apply rd_s; done) | apply rd_n (by omega) | apply rp_s | apply rp_n (by omega) | (apply rdL_s; done) | apply rdL_n (by omega) | apply rpJ_s | apply rpJ_n (by omega) | rfl)) ?_
        refine g_istore_n dX6_readOne_4 (by decide) rfl ?_
        refine g_aload_n dX6_readOne_5 rfl ?_
        refine g_iload_n dX6_readOne_6 rfl ?_
        refine p_callV (fo) okX6_faultOfOne lkX6_140 rfl (by first | rfl | exact pv_shx) rfl (by omega) (by omega) dX6_readOne_7 rfl (Nat.le_of_ble_eq_true rfl) (rm_le (by omega) (by decide)) ?_
        refine g_istore_n dX6_readOne_10 (by decide) rfl ?_
        refine g_iload_n dX6_readOne_11 rfl ?_
        refine n_if_eq 21 dX6_readOne_12 (by decide) (by first | (with_reducible exact cB _) | ((with_reducible apply cN_eq0) <;> omega) | exact Iff.rfl) (fun c12 => ?_) (fun c12 => by exfalso; first | omega | exact absurd trivial c12 | exact c12 | (simp at c12))
        refine g_aload_n dX6_readOne_21 rfl ?_
        refine g_callV (ad) okX6_advance lkX6_112 rfl (by first | rfl | exact pv_shx) rfl (by omega) (by omega) dX6_readOne_22 rfl (Nat.le_of_ble_eq_true rfl) (rm_le (by omega) (by decide)) ?_
        rintro v nx' I1 J1 P1 ⟨rfl, rfl, rfl, rfl, q1⟩
        have su := lS _ _ q1
        generalize hr2 : bindR (rdS (tkK tx n) n (rdO (tkK tx n) srt n D')) (advR (.ok (cd, k))) = r2 at su
        replace hr2 := hr2.symm
        refine g_iload_n dX6_readOne_25 rfl ?_
        refine g_bipush (v := nI 40) dX6_readOne_26 (by decide) ?_
        refine n_icmp_ne 62 dX6_readOne_28 (by decide) (by first | ((with_reducible apply cN_eq) <;> omega) | ((with_reducible apply cI_eqn) <;> omega) | exact Iff.rfl) (fun c28 => by exfalso; first | omega | exact absurd trivial c28 | exact c28 | (simp at c28)) (fun c28 => ?_)
        refine g_aload_n dX6_readOne_31 rfl ?_
        refine g_iload_n dX6_readOne_32 rfl ?_
        refine g_iconst (v := nI 1) dX6_readOne_33 (by decide) ?_
        refine n_iadd dX6_readOne_34 ((nI_add _ _).trans (congrArg nI (show 8 - (D' + 1) + 1 = 8 - D' by omega))) ?_
        refine g_callV (su) okX6_readSum lkX6_118 rfl (by first | rfl | exact pv_shx) rfl (by omega) (by omega) dX6_readOne_35 rfl (Nat.le_of_ble_eq_true rfl) (rm_le (by omega) (by decide)) ?_
        rintro v nx' I2 J2 P2 ⟨rfl, rfl, rfl, rfl, q2⟩
        have tk2 := q2.2.1
        by_cases d : tkS (tkK tx n) r2 = 41
        · have ad := c_advance (I := I2) (J := J2) (P := P2) hP hA hB.1 q2 (Or.inr (by omega))
          have e := bind_O_open (n := n) (srt := srt) (T := tkK tx n) (D := D') (r := .ok (cd, k)) rfl t40 hr2
          rw [if_pos d] at e
          rw [e]
          refine g_aload_n dX6_readOne_38 rfl ?_
          refine n_getI dX6_readOne_39 fdX6_49 rfl (by first | rfl | exact pv_shx) (by omega) (by omega) (by decide) rfl (by repeat (first | exact tk2 | (apply rd_s; done) | apply rd_n (by omega) | apply rp_s | apply rp_n (by omega) | (apply rdL_s; done) | apply rdL_n (by omega) | apply rpJ_s | apply rpJ_n (by omega) | rfl)) ?_
          refine g_bipush (v := nI 41) dX6_readOne_42 (by decide) ?_
          refine n_icmp_ne 54 dX6_readOne_44 (by decide) (by first | ((with_reducible apply cN_eq) <;> omega) | ((with_reducible apply cI_eqn) <;> omega) | exact Iff.rfl) (fun c44 => by exfalso; first | omega | exact absurd trivial c44 | exact c44 | (simp at c44)) (fun c44 => ?_)
          refine g_aload_n dX6_readOne_47 rfl ?_
          refine g_callV (ad) okX6_advance lkX6_112 rfl (by first | rfl | exact pv_shx) rfl (by omega) (by omega) dX6_readOne_48 rfl (Nat.le_of_ble_eq_true rfl) (rm_le (by omega) (by decide)) ?_
          rintro v nx' I3 J3 P3 ⟨rfl, rfl, rfl, rfl, q3⟩
          refine g_goto 125 dX6_readOne_51 (by decide) ?_
          exact g_vret dX6_readOne_125 rfl (⟨rfl, rfl, rfl, rfl, q3⟩)
        · have rf := c_refuse (f := 1) (I := I2) (J := J2) (P := P2) hP hA hB.1 q2 (by omega)
          have e := bind_O_open (n := n) (srt := srt) (T := tkK tx n) (D := D') (r := .ok (cd, k)) rfl t40 hr2
          rw [if_neg d] at e
          rw [e]
          have tb2 := tkS_le (tx := tx) (n := n) (r := r2)
          refine g_aload_n dX6_readOne_38 rfl ?_
          refine n_getI dX6_readOne_39 fdX6_49 rfl (by first | rfl | exact pv_shx) (by omega) (by omega) (by decide) rfl (by repeat (first | exact tk2 | (apply rd_s; done) | apply rd_n (by omega) | apply rp_s | apply rp_n (by omega) | (apply rdL_s; done) | apply rdL_n (by omega) | apply rpJ_s | apply rpJ_n (by omega) | rfl)) ?_
          refine g_bipush (v := nI 41) dX6_readOne_42 (by decide) ?_
          refine n_icmp_ne 54 dX6_readOne_44 (by decide) (by first | ((with_reducible apply cN_eq) <;> omega) | ((with_reducible apply cI_eqn) <;> omega) | exact Iff.rfl) (fun c44 => ?_) (fun c44 => by exfalso; first | omega | exact absurd trivial c44 | exact c44 | (simp at c44))
          refine g_aload_n dX6_readOne_54 rfl ?_
          refine g_iconst (v := nI 1) dX6_readOne_55 (by decide) ?_
          refine g_callV (rf) okX6_refuse lkX6_98 rfl (by first | rfl | exact pv_shx) rfl (by omega) (by omega) dX6_readOne_56 rfl (Nat.le_of_ble_eq_true rfl) (rm_le (by omega) (by decide)) ?_
          rintro v nx' I3 J3 P3 ⟨rfl, rfl, rfl, rfl, q3⟩
          refine g_goto 125 dX6_readOne_59 (by decide) ?_
          exact g_vret dX6_readOne_125 rfl (⟨rfl, rfl, rfl, rfl, q3⟩)
      · by_cases t45 : tkK tx n k = 45
        · have hD1 : ∃ D', D = D' + 1 := by
            cases D with
            | zero => exfalso; rw [t45] at hb; exact absurd hb (show ¬ bgF srt (8 - 0) 45 = 0 from (by decide : ¬ (3 : Nat) = 0))
            | succ D' => exact ⟨D', rfl⟩
          obtain ⟨D', rfl⟩ := hD1
          obtain ⟨lO, -⟩ := hL D' rfl
          rw [bind_O_neg (n := n) (srt := srt) (T := tkK tx n) (D := D') rfl t45]
          have rl2 : rlt (bindR (rdO (tkK tx n) srt n D') (advR (.ok (cd, k)))) := rlt_bind hs.le (fun k => len_O D' k)
          refine pvMet.of _ (by decide) rfl (Nat.le_of_ble_eq_true rfl) ?_
          refine g_aload_n dX6_readOne_0 rfl ?_
          refine n_getI dX6_readOne_1 fdX6_49 rfl (by first | rfl | exact pv_shx) (by omega) (by omega) (by decide) rfl (by repeat (first | exact f4 | (apply rd_s; done) | apply rd_n (by omega) | apply rp_s | apply rp_n (by omega) | (apply rdL_s; done) | apply rdL_n (by omega) | apply rpJ_s | apply rpJ_n (by omega) | rfl)) ?_
          refine g_istore_n dX6_readOne_4 (by decide) rfl ?_
          refine g_aload_n dX6_readOne_5 rfl ?_
          refine g_iload_n dX6_readOne_6 rfl ?_
          refine p_callV (fo) okX6_faultOfOne lkX6_140 rfl (by first | rfl | exact pv_shx) rfl (by omega) (by omega) dX6_readOne_7 rfl (Nat.le_of_ble_eq_true rfl) (rm_le (by omega) (by decide)) ?_
          refine g_istore_n dX6_readOne_10 (by decide) rfl ?_
          refine g_iload_n dX6_readOne_11 rfl ?_
          refine n_if_eq 21 dX6_readOne_12 (by decide) (by first | (with_reducible exact cB _) | ((with_reducible apply cN_eq0) <;> omega) | exact Iff.rfl) (fun c12 => ?_) (fun c12 => by exfalso; first | omega | exact absurd trivial c12 | exact c12 | (simp at c12))
          refine g_aload_n dX6_readOne_21 rfl ?_
          refine g_callV (ad) okX6_advance lkX6_112 rfl (by first | rfl | exact pv_shx) rfl (by omega) (by omega) dX6_readOne_22 rfl (Nat.le_of_ble_eq_true rfl) (rm_le (by omega) (by decide)) ?_
          rintro v nx' I1 J1 P1 ⟨rfl, rfl, rfl, rfl, q1⟩
          have su := lO _ _ q1
          refine g_iload_n dX6_readOne_25 rfl ?_
          refine g_bipush (v := nI 40) dX6_readOne_26 (by decide) ?_
          refine n_icmp_ne 62 dX6_readOne_28 (by decide) (by first | ((with_reducible apply cN_eq) <;> omega) | ((with_reducible apply cI_eqn) <;> omega) | exact Iff.rfl) (fun c28 => ?_) (fun c28 => by exfalso; first | omega | exact absurd trivial c28 | exact c28 | (simp at c28))
          refine g_iload_n dX6_readOne_62 rfl ?_
          refine g_bipush (v := nI 45) dX6_readOne_63 (by decide) ?_
          refine n_icmp_ne 87 dX6_readOne_65 (by decide) (by first | ((with_reducible apply cN_eq) <;> omega) | ((with_reducible apply cI_eqn) <;> omega) | exact Iff.rfl) (fun c65 => by exfalso; first | omega | exact absurd trivial c65 | exact c65 | (simp at c65)) (fun c65 => ?_)
          refine g_aload_n dX6_readOne_68 rfl ?_
          refine g_iload_n dX6_readOne_69 rfl ?_
          refine g_iconst (v := nI 1) dX6_readOne_70 (by decide) ?_
          refine n_iadd dX6_readOne_71 ((nI_add _ _).trans (congrArg nI (show 8 - (D' + 1) + 1 = 8 - D' by omega))) ?_
          refine g_callV (su) okX6_readOne lkX6_137 rfl (by first | rfl | exact pv_shx) rfl (by omega) (by omega) dX6_readOne_72 rfl (Nat.le_of_ble_eq_true rfl) (rm_le (by omega) (by decide)) ?_
          rintro v nx' I2 J2 P2 ⟨rfl, rfl, rfl, rfl, q2⟩
          have aa := c_add (x := 40000) (J := J2) (P := P2) hP hA hB.1 q2 rl2
          refine g_aload_n dX6_readOne_75 rfl ?_
          refine g_getP dX6_readOne_76 fdX6_37 rfl (by first | rfl | exact pv_shx) (by omega) (by omega) (by decide) rfl (hPA) ?_
          refine g_ldc (v := nI 40000) dX6_readOne_79 kcX6_143 ?_
          refine g_callV (aa) okX0_add lkX6_124 rfl (s0) rfl (by omega) (by omega) dX6_readOne_81 rfl (Nat.le_of_ble_eq_true rfl) (rm_le (by omega) (by decide)) ?_
          rintro v nx' I3 J3 P3 ⟨rfl, rfl, rfl, rfl, q3⟩
          refine g_goto 125 dX6_readOne_84 (by decide) ?_
          exact g_vret dX6_readOne_125 rfl (⟨rfl, rfl, rfl, rfl, q3⟩)
        · obtain ⟨a1, a2, a3⟩ := atom_ok hb t40 t45
          rw [bind_O_atom (n := n) (srt := srt) (T := tkK tx n) (D := D) rfl t40 t45 a3]
          by_cases c1 : 1000 ≤ tkK tx n k
          · rw [if_pos c1]
            refine pvMet.of _ (by decide) rfl (Nat.le_of_ble_eq_true rfl) ?_
            refine g_aload_n dX6_readOne_0 rfl ?_
            refine n_getI dX6_readOne_1 fdX6_49 rfl (by first | rfl | exact pv_shx) (by omega) (by omega) (by decide) rfl (by repeat (first | exact f4 | (apply rd_s; done) | apply rd_n (by omega) | apply rp_s | apply rp_n (by omega) | (apply rdL_s; done) | apply rdL_n (by omega) | apply rpJ_s | apply rpJ_n (by omega) | rfl)) ?_
            refine g_istore_n dX6_readOne_4 (by decide) rfl ?_
            refine g_aload_n dX6_readOne_5 rfl ?_
            refine g_iload_n dX6_readOne_6 rfl ?_
            refine p_callV (fo) okX6_faultOfOne lkX6_140 rfl (by first | rfl | exact pv_shx) rfl (by omega) (by omega) dX6_readOne_7 rfl (Nat.le_of_ble_eq_true rfl) (rm_le (by omega) (by decide)) ?_
            refine g_istore_n dX6_readOne_10 (by decide) rfl ?_
            refine g_iload_n dX6_readOne_11 rfl ?_
            refine n_if_eq 21 dX6_readOne_12 (by decide) (by first | (with_reducible exact cB _) | ((with_reducible apply cN_eq0) <;> omega) | exact Iff.rfl) (fun c12 => ?_) (fun c12 => by exfalso; first | omega | exact absurd trivial c12 | exact c12 | (simp at c12))
            refine g_aload_n dX6_readOne_21 rfl ?_
            refine g_callV (ad) okX6_advance lkX6_112 rfl (by first | rfl | exact pv_shx) rfl (by omega) (by omega) dX6_readOne_22 rfl (Nat.le_of_ble_eq_true rfl) (rm_le (by omega) (by decide)) ?_
            rintro v nx' I1 J1 P1 ⟨rfl, rfl, rfl, rfl, q1⟩
            have aa := c_add (x := tkK tx n k - 1000) (J := J1) (P := P1) hP hA hB.1 q1 rl1
            refine g_iload_n dX6_readOne_25 rfl ?_
            refine g_bipush (v := nI 40) dX6_readOne_26 (by decide) ?_
            refine n_icmp_ne 62 dX6_readOne_28 (by decide) (by first | ((with_reducible apply cN_eq) <;> omega) | ((with_reducible apply cI_eqn) <;> omega) | exact Iff.rfl) (fun c28 => ?_) (fun c28 => by exfalso; first | omega | exact absurd trivial c28 | exact c28 | (simp at c28))
            refine g_iload_n dX6_readOne_62 rfl ?_
            refine g_bipush (v := nI 45) dX6_readOne_63 (by decide) ?_
            refine n_icmp_ne 87 dX6_readOne_65 (by decide) (by first | ((with_reducible apply cN_eq) <;> omega) | ((with_reducible apply cI_eqn) <;> omega) | exact Iff.rfl) (fun c65 => ?_) (fun c65 => by exfalso; first | omega | exact absurd trivial c65 | exact c65 | (simp at c65))
            refine g_iload_n dX6_readOne_87 rfl ?_
            refine g_sipush (v := nI 1000) dX6_readOne_88 (by decide) ?_
            refine n_icmp_lt 109 dX6_readOne_91 (by decide) (by first | ((with_reducible apply cN_lt) <;> omega) | ((with_reducible apply cI_ltn) <;> omega) | ((with_reducible apply cI_nlt) <;> omega) | (with_reducible exact cI_lt)) (fun c91 => by exfalso; first | omega | exact absurd trivial c91 | exact c91 | (simp at c91)) (fun c91 => ?_)
            refine g_aload_n dX6_readOne_94 rfl ?_
            refine g_getP dX6_readOne_95 fdX6_37 rfl (by first | rfl | exact pv_shx) (by omega) (by omega) (by decide) rfl (hPA) ?_
            refine g_iload_n dX6_readOne_98 rfl ?_
            refine g_sipush (v := nI 1000) dX6_readOne_99 (by decide) ?_
            refine n_isub dX6_readOne_102 (by first | ((with_reducible apply pk_sub) <;> omega) | rfl) ?_
            refine g_callV (aa) okX0_add lkX6_124 rfl (s0) rfl (by omega) (by omega) dX6_readOne_103 rfl (Nat.le_of_ble_eq_true rfl) (rm_le (by omega) (by decide)) ?_
            rintro v nx' I3 J3 P3 ⟨rfl, rfl, rfl, rfl, q3⟩
            refine g_goto 125 dX6_readOne_106 (by decide) ?_
            exact g_vret dX6_readOne_125 rfl (⟨rfl, rfl, rfl, rfl, q3⟩)
          · rw [if_neg c1, show 10000 + (tkK tx n k - 207) = 10000 + tkK tx n k - 207 by omega]
            refine pvMet.of _ (by decide) rfl (Nat.le_of_ble_eq_true rfl) ?_
            refine g_aload_n dX6_readOne_0 rfl ?_
            refine n_getI dX6_readOne_1 fdX6_49 rfl (by first | rfl | exact pv_shx) (by omega) (by omega) (by decide) rfl (by repeat (first | exact f4 | (apply rd_s; done) | apply rd_n (by omega) | apply rp_s | apply rp_n (by omega) | (apply rdL_s; done) | apply rdL_n (by omega) | apply rpJ_s | apply rpJ_n (by omega) | rfl)) ?_
            refine g_istore_n dX6_readOne_4 (by decide) rfl ?_
            refine g_aload_n dX6_readOne_5 rfl ?_
            refine g_iload_n dX6_readOne_6 rfl ?_
            refine p_callV (fo) okX6_faultOfOne lkX6_140 rfl (by first | rfl | exact pv_shx) rfl (by omega) (by omega) dX6_readOne_7 rfl (Nat.le_of_ble_eq_true rfl) (rm_le (by omega) (by decide)) ?_
            refine g_istore_n dX6_readOne_10 (by decide) rfl ?_
            refine g_iload_n dX6_readOne_11 rfl ?_
            refine n_if_eq 21 dX6_readOne_12 (by decide) (by first | (with_reducible exact cB _) | ((with_reducible apply cN_eq0) <;> omega) | exact Iff.rfl) (fun c12 => ?_) (fun c12 => by exfalso; first | omega | exact absurd trivial c12 | exact c12 | (simp at c12))
            refine g_aload_n dX6_readOne_21 rfl ?_
            refine g_callV (ad) okX6_advance lkX6_112 rfl (by first | rfl | exact pv_shx) rfl (by omega) (by omega) dX6_readOne_22 rfl (Nat.le_of_ble_eq_true rfl) (rm_le (by omega) (by decide)) ?_
            rintro v nx' I1 J1 P1 ⟨rfl, rfl, rfl, rfl, q1⟩
            have aa := c_add (x := 10000 + tkK tx n k - 207) (J := J1) (P := P1) hP hA hB.1 q1 rl1
            refine g_iload_n dX6_readOne_25 rfl ?_
            refine g_bipush (v := nI 40) dX6_readOne_26 (by decide) ?_
            refine n_icmp_ne 62 dX6_readOne_28 (by decide) (by first | ((with_reducible apply cN_eq) <;> omega) | ((with_reducible apply cI_eqn) <;> omega) | exact Iff.rfl) (fun c28 => ?_) (fun c28 => by exfalso; first | omega | exact absurd trivial c28 | exact c28 | (simp at c28))
            refine g_iload_n dX6_readOne_62 rfl ?_
            refine g_bipush (v := nI 45) dX6_readOne_63 (by decide) ?_
            refine n_icmp_ne 87 dX6_readOne_65 (by decide) (by first | ((with_reducible apply cN_eq) <;> omega) | ((with_reducible apply cI_eqn) <;> omega) | exact Iff.rfl) (fun c65 => ?_) (fun c65 => by exfalso; first | omega | exact absurd trivial c65 | exact c65 | (simp at c65))
            refine g_iload_n dX6_readOne_87 rfl ?_
            refine g_sipush (v := nI 1000) dX6_readOne_88 (by decide) ?_
            refine n_icmp_lt 109 dX6_readOne_91 (by decide) (by first | ((with_reducible apply cN_lt) <;> omega) | ((with_reducible apply cI_ltn) <;> omega) | ((with_reducible apply cI_nlt) <;> omega) | (with_reducible exact cI_lt)) (fun c91 => ?_) (fun c91 => by exfalso; first | omega | exact absurd trivial c91 | exact c91 | (simp at c91))
            refine g_aload_n dX6_readOne_109 rfl ?_
            refine g_getP dX6_readOne_110 fdX6_37 rfl (by first | rfl | exact pv_shx) (by omega) (by omega) (by decide) rfl (hPA) ?_
            refine g_sipush (v := nI 10000) dX6_readOne_113 (by decide) ?_
            refine g_iload_n dX6_readOne_116 rfl ?_
            refine n_iadd dX6_readOne_117 (by first | (with_reducible exact nI_add _ _) | rfl) ?_
            refine g_sipush (v := nI 207) dX6_readOne_118 (by decide) ?_
            refine n_isub dX6_readOne_121 (by first | ((with_reducible apply pk_sub) <;> omega) | rfl) ?_
            refine g_callV (aa) okX0_add lkX6_124 rfl (s0) rfl (by omega) (by omega) dX6_readOne_122 rfl (Nat.le_of_ble_eq_true rfl) (rm_le (by omega) (by decide)) ?_
            rintro v nx' I3 J3 P3 ⟨rfl, rfl, rfl, rfl, q3⟩
            exact g_vret dX6_readOne_125 rfl (⟨rfl, rfl, rfl, rfl, q3⟩)
  · have e : bindR (rdO (tkK tx n) srt n D) r = refR (bgF srt (8 - D) (tkS (tkK tx n) r)) r := by
      cases r with
      | error x => rfl
      | ok v => obtain ⟨cd, k⟩ := v; exact bind_err rfl (rdO_bad hD hb)
    rw [e]
    have rf := c_refuse (f := bgF srt (8 - D) (tkS (tkK tx n) r)) (J := J) (P := P) hP hA hB.1 hs (by omega)
    refine pvMet.of _ (by decide) rfl (Nat.le_of_ble_eq_true rfl) ?_
    refine g_aload_n dX6_readOne_0 rfl ?_
    refine n_getI dX6_readOne_1 fdX6_49 rfl (by first | rfl | exact pv_shx) (by omega) (by omega) (by decide) rfl (by repeat (first | exact f4 | (apply rd_s; done) | apply rd_n (by omega) | apply rp_s | apply rp_n (by omega) | (apply rdL_s; done) | apply rdL_n (by omega) | apply rpJ_s | apply rpJ_n (by omega) | rfl)) ?_
    refine g_istore_n dX6_readOne_4 (by decide) rfl ?_
    refine g_aload_n dX6_readOne_5 rfl ?_
    refine g_iload_n dX6_readOne_6 rfl ?_
    refine p_callV (fo) okX6_faultOfOne lkX6_140 rfl (by first | rfl | exact pv_shx) rfl (by omega) (by omega) dX6_readOne_7 rfl (Nat.le_of_ble_eq_true rfl) (rm_le (by omega) (by decide)) ?_
    refine g_istore_n dX6_readOne_10 (by decide) rfl ?_
    refine g_iload_n dX6_readOne_11 rfl ?_
    refine n_if_eq 21 dX6_readOne_12 (by decide) (by first | (with_reducible exact cB _) | ((with_reducible apply cN_eq0) <;> omega) | exact Iff.rfl) (fun c12 => by exfalso; first | omega | exact absurd trivial c12 | exact c12 | (simp at c12)) (fun c12 => ?_)
    refine g_aload_n dX6_readOne_15 rfl ?_
    refine g_iload_n dX6_readOne_16 rfl ?_
    refine g_callV (rf) okX6_refuse lkX6_98 rfl (by first | rfl | exact pv_shx) rfl (by omega) (by omega) dX6_readOne_17 rfl (Nat.le_of_ble_eq_true rfl) (rm_le (by omega) (by decide)) ?_
    rintro v nx' I3 J3 P3 ⟨rfl, rfl, rfl, rfl, q3⟩
    exact g_vret dX6_readOne_20 rfl (⟨rfl, rfl, rfl, rfl, q3⟩)
theorem c_prod {D : Nat} {Z : pvZT} {jv : Int32} {i : Nat} (hP : pvOkP P) (hPA : P 144 11 = some A) (hA : aAd A) (hB : rB tx n cT srt I0) (hD : D ≤ 8) (hO : cOne tx n cT A srt I0 J P D) : ∀ f rc I kk, psS tx n cT A I0 rc I → kk ≤ 300 → (∀ cd k, rc = .ok (cd, k) → n ≤ k + f ∧ kk < k) → (∀ I', psS tx n cT A I0 (Zr (tkK tx n) n (rdO (tkK tx n) srt n D) sgP rc) I' → pvG mX6_readSum (pvR (2 * D + 2) 0 0) Z 83 [.ref 144, .int (nI (8 - D)), .int jv, .int (nI i), .retAddr 0, .retAddr 0] [] 0 0 224 I' J P) → pvG mX6_readSum (pvR (2 * D + 2) 0 0) Z 23 [.ref 144, .int (nI (8 - D)), .int jv, .int (nI i), .int (nI kk), .retAddr 0] [] 0 0 224 I J P := by
  obtain ⟨⟨s0, s1, s2, s3, s4⟩, h149, h194⟩ := hA.sh
  have hT : ∀ j, tkK tx n j ≠ 0 → j < n := fun j hj => tkK_lt hj
  intro f
  induction f with
  | zero =>
    intro rc I kk hs hk hc K
    have htl := tkS_le (tx := tx) (n := n) (r := rc)
    have f4 := hs.2.1
    have hno : ¬ sgP (tkS (tkK tx n) rc) = true := fun z => by
      cases rc with
      | error x => cases z
      | ok v =>
        obtain ⟨cd, k⟩ := v
        have := (hc cd k rfl).1
        have e : tkK tx n k = 0 := tkK_end (by omega)
        rw [show tkS (tkK tx n) (.ok (cd, k)) = tkK tx n k from rfl, e] at z
        cases z
    have g := K I (by rw [Zr_stop hno]; exact hs)
    have hno' := of_decide_eq_false (p := tkS (tkK tx n) rc = 42 ∨ tkS (tkK tx n) rc = 47) (by simpa [sgP] using hno)
    by_cases c : kk < 300
    · skip
      refine g_iload dX6_readSum_23 rfl ?_
      refine g_sipush (v := nI 300) dX6_readSum_25 (by decide) ?_
      refine n_icmp_ge 83 dX6_readSum_28 (by decide) (by first | ((with_reducible apply cN_le) <;> omega) | ((with_reducible apply cI_len) <;> omega) | ((with_reducible apply cI_nle) <;> omega) | (with_reducible exact cI_le)) (fun c28 => by exfalso; first | omega | exact absurd trivial c28 | exact c28 | (simp at c28)) (fun c28 => ?_)
      refine g_aload_n dX6_readSum_31 rfl ?_
      refine n_getI dX6_readSum_32 fdX6_49 rfl (by first | rfl | exact pv_shx) (by omega) (by omega) (by decide) rfl (by repeat (first | exact f4 | (apply rd_s; done) | apply rd_n (by omega) | apply rp_s | apply rp_n (by omega) | (apply rdL_s; done) | apply rdL_n (by omega) | apply rpJ_s | apply rpJ_n (by omega) | rfl)) ?_
      refine g_bipush (v := nI 42) dX6_readSum_35 (by decide) ?_
      refine n_icmp_eq 49 dX6_readSum_37 (by decide) (by first | ((with_reducible apply cN_eq) <;> omega) | ((with_reducible apply cI_eqn) <;> omega) | exact Iff.rfl) (fun c37 => by exfalso; first | omega | exact absurd trivial c37 | exact c37 | (simp at c37)) (fun c37 => ?_)
      refine g_aload_n dX6_readSum_40 rfl ?_
      refine n_getI dX6_readSum_41 fdX6_49 rfl (by first | rfl | exact pv_shx) (by omega) (by omega) (by decide) rfl (by repeat (first | exact f4 | (apply rd_s; done) | apply rd_n (by omega) | apply rp_s | apply rp_n (by omega) | (apply rdL_s; done) | apply rdL_n (by omega) | apply rpJ_s | apply rpJ_n (by omega) | rfl)) ?_
      refine g_bipush (v := nI 47) dX6_readSum_44 (by decide) ?_
      refine n_icmp_ne 83 dX6_readSum_46 (by decide) (by first | ((with_reducible apply cN_eq) <;> omega) | ((with_reducible apply cI_eqn) <;> omega) | exact Iff.rfl) (fun c46 => ?_) (fun c46 => by exfalso; first | omega | exact absurd trivial c46 | exact c46 | (simp at c46))
      exact g_drop _ (by repeat (first | exact trivial | refine ⟨Or.inr ⟨_, rfl⟩, ?_⟩ | refine ⟨Or.inl rfl, ?_⟩)) g
    · skip
      refine g_iload dX6_readSum_23 rfl ?_
      refine g_sipush (v := nI 300) dX6_readSum_25 (by decide) ?_
      refine n_icmp_ge 83 dX6_readSum_28 (by decide) (by first | ((with_reducible apply cN_le) <;> omega) | ((with_reducible apply cI_len) <;> omega) | ((with_reducible apply cI_nle) <;> omega) | (with_reducible exact cI_le)) (fun c28 => ?_) (fun c28 => by exfalso; first | omega | exact absurd trivial c28 | exact c28 | (simp at c28))
      exact g_drop _ (by repeat (first | exact trivial | refine ⟨Or.inr ⟨_, rfl⟩, ?_⟩ | refine ⟨Or.inl rfl, ?_⟩)) g
  | succ f ih =>
    intro rc I kk hs hk hc K
    have htl := tkS_le (tx := tx) (n := n) (r := rc)
    have f4 := hs.2.1
    by_cases hy : sgP (tkS (tkK tx n) rc) = true
    · have hy' : tkS (tkK tx n) rc = 42 ∨ tkS (tkK tx n) rc = 47 := of_decide_eq_true hy
      obtain ⟨cd, k, rfl⟩ : ∃ cd k, rc = .ok (cd, k) := by
        cases rc with
        | error x => cases hy
        | ok v => exact ⟨v.1, v.2, rfl⟩
      have hk1 := hs.lt hB.1 rfl (show tkK tx n k ≠ 0 by have : tkS (tkK tx n) (.ok (cd, k)) = tkK tx n k := rfl; omega)
      have h300 := hB.1.1.2
      obtain ⟨hc1, hc2⟩ := hc cd k rfl
      have ad := c_advance (I := I) (J := J) (P := P) hP hA hB.1 hs (Or.inr (by omega))
      have rl2 : rlt (bindR (rdO (tkK tx n) srt n D) (advR (.ok (cd, k)))) := rlt_bind hs.le (fun k => len_O D k)
      rw [Zr_step hT rfl gtO hy] at K
      have go : ∀ I3, psS tx n cT A I0 (addR (20000 + tkS (tkK tx n) (.ok (cd, k))) (bindR (rdO (tkK tx n) srt n D) (advR (.ok (cd, k))))) I3 → pvG mX6_readSum (pvR (2 * D + 2) 0 0) Z 23 [.ref 144, .int (nI (8 - D)), .int jv, .int (nI i), .int (nI (kk + 1)), .retAddr 0] [] 0 0 224 I3 J P := fun I3 q3 => ih _ I3 (kk + 1) q3 (by omega) (fun cd' k' e => by
        cases hx : bindR (rdO (tkK tx n) srt n D) (advR (.ok (cd, k))) with
        | error x => rw [hx] at e; cases e
        | ok v =>
          obtain ⟨cd2, k2⟩ := v
          rw [hx] at e
          cases e
          obtain ⟨cd0, k0, e0, hlt⟩ := bind_at gtO hx
          cases e0
          omega) K
      generalize ht : tkS (tkK tx n) (.ok (cd, k)) = t at *
      rcases hy' with t42 | t47
      · skip
        refine g_iload dX6_readSum_23 rfl ?_
        refine g_sipush (v := nI 300) dX6_readSum_25 (by decide) ?_
        refine n_icmp_ge 83 dX6_readSum_28 (by decide) (by first | ((with_reducible apply cN_le) <;> omega) | ((with_reducible apply cI_len) <;> omega) | ((with_reducible apply cI_nle) <;> omega) | (with_reducible exact cI_le)) (fun c28 => by exfalso; first | omega | exact absurd trivial c28 | exact c28 | (simp at c28)) (fun c28 => ?_)
        refine g_aload_n dX6_readSum_31 rfl ?_
        refine n_getI dX6_readSum_32 fdX6_49 rfl (by first | rfl | exact pv_shx) (by omega) (by omega) (by decide) rfl (by repeat (first | exact f4 | (apply rd_s; done) | apply rd_n (by omega) | apply rp_s | apply rp_n (by omega) | (apply rdL_s; done) | apply rdL_n (by omega) | apply rpJ_s | apply rpJ_n (by omega) | rfl)) ?_
        refine g_bipush (v := nI 42) dX6_readSum_35 (by decide) ?_
        refine n_icmp_eq 49 dX6_readSum_37 (by decide) (by first | ((with_reducible apply cN_eq) <;> omega) | ((with_reducible apply cI_eqn) <;> omega) | exact Iff.rfl) (fun c37 => ?_) (fun c37 => by exfalso; first | omega | exact absurd trivial c37 | exact c37 | (simp at c37))
        refine g_aload_n dX6_readSum_49 rfl ?_
        refine n_getI dX6_readSum_50 fdX6_49 rfl (by first | rfl | exact pv_shx) (by omega) (by omega) (by decide) rfl (by repeat (first | exact f4 | (apply rd_s; done) | apply rd_n (by omega) | apply rp_s | apply rp_n (by omega) | (apply rdL_s; done) | apply rdL_n (by omega) | apply rpJ_s | apply rpJ_n (by omega) | rfl)) ?_
        refine g_istore dX6_readSum_53 (by decide) rfl ?_
        refine g_aload_n dX6_readSum_55 rfl ?_
        refine g_callV (ad) okX6_advance lkX6_112 rfl (by first | rfl | exact pv_shx) rfl (by omega) (by omega) dX6_readSum_56 rfl (Nat.le_of_ble_eq_true rfl) (rm_le (by omega) (by decide)) ?_
        rintro v nx' I1 J1 P1 ⟨rfl, rfl, rfl, rfl, q1⟩
        have su := hO _ _ q1
        refine g_aload_n dX6_readSum_59 rfl ?_
        refine g_iload_n dX6_readSum_60 rfl ?_
        refine g_callV (su) okX6_readOne lkX6_137 rfl (by first | rfl | exact pv_shx) rfl (by omega) (by omega) dX6_readSum_61 rfl (Nat.le_of_ble_eq_true rfl) (rm_le (by omega) (by decide)) ?_
        rintro v nx' I2 J2 P2 ⟨rfl, rfl, rfl, rfl, q2⟩
        have aa := c_add (x := 20000 + t) (J := J2) (P := P2) hP hA hB.1 q2 rl2
        refine g_aload_n dX6_readSum_64 rfl ?_
        refine g_getP dX6_readSum_65 fdX6_37 rfl (by first | rfl | exact pv_shx) (by omega) (by omega) (by decide) rfl (hPA) ?_
        refine g_sipush (v := nI 20000) dX6_readSum_68 (by decide) ?_
        refine g_iload dX6_readSum_71 rfl ?_
        refine n_iadd dX6_readSum_73 (by first | (with_reducible exact nI_add _ _) | rfl) ?_
        refine g_callV (aa) okX0_add lkX6_124 rfl (s0) rfl (by omega) (by omega) dX6_readSum_74 rfl (Nat.le_of_ble_eq_true rfl) (rm_le (by omega) (by decide)) ?_
        rintro v nx' I3 J3 P3 ⟨rfl, rfl, rfl, rfl, q3⟩
        refine g_iinc dX6_readSum_77 rfl (by first | (with_reducible exact nI_1 _) | exact nI_1 _ | exact pk_m1 _ | rfl) (by decide) rfl ?_
        refine g_goto 23 dX6_readSum_80 (by decide) ?_
        exact g_drop _ (by repeat (first | exact trivial | refine ⟨Or.inr ⟨_, rfl⟩, ?_⟩ | refine ⟨Or.inl rfl, ?_⟩)) (go _ q3)
      · skip
        refine g_iload dX6_readSum_23 rfl ?_
        refine g_sipush (v := nI 300) dX6_readSum_25 (by decide) ?_
        refine n_icmp_ge 83 dX6_readSum_28 (by decide) (by first | ((with_reducible apply cN_le) <;> omega) | ((with_reducible apply cI_len) <;> omega) | ((with_reducible apply cI_nle) <;> omega) | (with_reducible exact cI_le)) (fun c28 => by exfalso; first | omega | exact absurd trivial c28 | exact c28 | (simp at c28)) (fun c28 => ?_)
        refine g_aload_n dX6_readSum_31 rfl ?_
        refine n_getI dX6_readSum_32 fdX6_49 rfl (by first | rfl | exact pv_shx) (by omega) (by omega) (by decide) rfl (by repeat (first | exact f4 | (apply rd_s; done) | apply rd_n (by omega) | apply rp_s | apply rp_n (by omega) | (apply rdL_s; done) | apply rdL_n (by omega) | apply rpJ_s | apply rpJ_n (by omega) | rfl)) ?_
        refine g_bipush (v := nI 42) dX6_readSum_35 (by decide) ?_
        refine n_icmp_eq 49 dX6_readSum_37 (by decide) (by first | ((with_reducible apply cN_eq) <;> omega) | ((with_reducible apply cI_eqn) <;> omega) | exact Iff.rfl) (fun c37 => by exfalso; first | omega | exact absurd trivial c37 | exact c37 | (simp at c37)) (fun c37 => ?_)
        refine g_aload_n dX6_readSum_40 rfl ?_
        refine n_getI dX6_readSum_41 fdX6_49 rfl (by first | rfl | exact pv_shx) (by omega) (by omega) (by decide) rfl (by repeat (first | exact f4 | (apply rd_s; done) | apply rd_n (by omega) | apply rp_s | apply rp_n (by omega) | (apply rdL_s; done) | apply rdL_n (by omega) | apply rpJ_s | apply rpJ_n (by omega) | rfl)) ?_
        refine g_bipush (v := nI 47) dX6_readSum_44 (by decide) ?_
        refine n_icmp_ne 83 dX6_readSum_46 (by decide) (by first | ((with_reducible apply cN_eq) <;> omega) | ((with_reducible apply cI_eqn) <;> omega) | exact Iff.rfl) (fun c46 => by exfalso; first | omega | exact absurd trivial c46 | exact c46 | (simp at c46)) (fun c46 => ?_)
        refine g_aload_n dX6_readSum_49 rfl ?_
        refine n_getI dX6_readSum_50 fdX6_49 rfl (by first | rfl | exact pv_shx) (by omega) (by omega) (by decide) rfl (by repeat (first | exact f4 | (apply rd_s; done) | apply rd_n (by omega) | apply rp_s | apply rp_n (by omega) | (apply rdL_s; done) | apply rdL_n (by omega) | apply rpJ_s | apply rpJ_n (by omega) | rfl)) ?_
        refine g_istore dX6_readSum_53 (by decide) rfl ?_
        refine g_aload_n dX6_readSum_55 rfl ?_
        refine g_callV (ad) okX6_advance lkX6_112 rfl (by first | rfl | exact pv_shx) rfl (by omega) (by omega) dX6_readSum_56 rfl (Nat.le_of_ble_eq_true rfl) (rm_le (by omega) (by decide)) ?_
        rintro v nx' I1 J1 P1 ⟨rfl, rfl, rfl, rfl, q1⟩
        have su := hO _ _ q1
        refine g_aload_n dX6_readSum_59 rfl ?_
        refine g_iload_n dX6_readSum_60 rfl ?_
        refine g_callV (su) okX6_readOne lkX6_137 rfl (by first | rfl | exact pv_shx) rfl (by omega) (by omega) dX6_readSum_61 rfl (Nat.le_of_ble_eq_true rfl) (rm_le (by omega) (by decide)) ?_
        rintro v nx' I2 J2 P2 ⟨rfl, rfl, rfl, rfl, q2⟩
        have aa := c_add (x := 20000 + t) (J := J2) (P := P2) hP hA hB.1 q2 rl2
        refine g_aload_n dX6_readSum_64 rfl ?_
        refine g_getP dX6_readSum_65 fdX6_37 rfl (by first | rfl | exact pv_shx) (by omega) (by omega) (by decide) rfl (hPA) ?_
        refine g_sipush (v := nI 20000) dX6_readSum_68 (by decide) ?_
        refine g_iload dX6_readSum_71 rfl ?_
        refine n_iadd dX6_readSum_73 (by first | (with_reducible exact nI_add _ _) | rfl) ?_
        refine g_callV (aa) okX0_add lkX6_124 rfl (s0) rfl (by omega) (by omega) dX6_readSum_74 rfl (Nat.le_of_ble_eq_true rfl) (rm_le (by omega) (by decide)) ?_
        rintro v nx' I3 J3 P3 ⟨rfl, rfl, rfl, rfl, q3⟩
        refine g_iinc dX6_readSum_77 rfl (by first | (with_reducible exact nI_1 _) | exact nI_1 _ | exact pk_m1 _ | rfl) (by decide) rfl ?_
        refine g_goto 23 dX6_readSum_80 (by decide) ?_
        exact g_drop _ (by repeat (first | exact trivial | refine ⟨Or.inr ⟨_, rfl⟩, ?_⟩ | refine ⟨Or.inl rfl, ?_⟩)) (go _ q3)
    · have g := K I (by rw [Zr_stop hy]; exact hs)
      have hno' : ¬ (tkS (tkK tx n) rc = 42 ∨ tkS (tkK tx n) rc = 47) := fun z => hy (decide_eq_true z)
      by_cases c : kk < 300
      · skip
        refine g_iload dX6_readSum_23 rfl ?_
        refine g_sipush (v := nI 300) dX6_readSum_25 (by decide) ?_
        refine n_icmp_ge 83 dX6_readSum_28 (by decide) (by first | ((with_reducible apply cN_le) <;> omega) | ((with_reducible apply cI_len) <;> omega) | ((with_reducible apply cI_nle) <;> omega) | (with_reducible exact cI_le)) (fun c28 => by exfalso; first | omega | exact absurd trivial c28 | exact c28 | (simp at c28)) (fun c28 => ?_)
        refine g_aload_n dX6_readSum_31 rfl ?_
        refine n_getI dX6_readSum_32 fdX6_49 rfl (by first | rfl | exact pv_shx) (by omega) (by omega) (by decide) rfl (by repeat (first | exact f4 | (apply rd_s; done) | apply rd_n (by omega) | apply rp_s | apply rp_n (by omega) | (apply rdL_s; done) | apply rdL_n (by omega) | apply rpJ_s | apply rpJ_n (by omega) | rfl)) ?_
        refine g_bipush (v := nI 42) dX6_readSum_35 (by decide) ?_
        refine n_icmp_eq 49 dX6_readSum_37 (by decide) (by first | ((with_reducible apply cN_eq) <;> omega) | ((with_reducible apply cI_eqn) <;> omega) | exact Iff.rfl) (fun c37 => by exfalso; first | omega | exact absurd trivial c37 | exact c37 | (simp at c37)) (fun c37 => ?_)
        refine g_aload_n dX6_readSum_40 rfl ?_
        refine n_getI dX6_readSum_41 fdX6_49 rfl (by first | rfl | exact pv_shx) (by omega) (by omega) (by decide) rfl (by repeat (first | exact f4 | (apply rd_s; done) | apply rd_n (by omega) | apply rp_s | apply rp_n (by omega) | (apply rdL_s; done) | apply rdL_n (by omega) | apply rpJ_s | apply rpJ_n (by omega) | rfl)) ?_
        refine g_bipush (v := nI 47) dX6_readSum_44 (by decide) ?_
        refine n_icmp_ne 83 dX6_readSum_46 (by decide) (by first | ((with_reducible apply cN_eq) <;> omega) | ((with_reducible apply cI_eqn) <;> omega) | exact Iff.rfl) (fun c46 => ?_) (fun c46 => by exfalso; first | omega | exact absurd trivial c46 | exact c46 | (simp at c46))
        exact g_drop _ (by repeat (first | exact trivial | refine ⟨Or.inr ⟨_, rfl⟩, ?_⟩ | refine ⟨Or.inl rfl, ?_⟩)) g
      · skip
        refine g_iload dX6_readSum_23 rfl ?_
        refine g_sipush (v := nI 300) dX6_readSum_25 (by decide) ?_
        refine n_icmp_ge 83 dX6_readSum_28 (by decide) (by first | ((with_reducible apply cN_le) <;> omega) | ((with_reducible apply cI_len) <;> omega) | ((with_reducible apply cI_nle) <;> omega) | (with_reducible exact cI_le)) (fun c28 => ?_) (fun c28 => by exfalso; first | omega | exact absurd trivial c28 | exact c28 | (simp at c28))
        exact g_drop _ (by repeat (first | exact trivial | refine ⟨Or.inr ⟨_, rfl⟩, ?_⟩ | refine ⟨Or.inl rfl, ?_⟩)) g
theorem c_terms {D : Nat} (hP : pvOkP P) (hPA : P 144 11 = some A) (hA : aAd A) (hB : rB tx n cT srt I0) (hD : D ≤ 8) (hO : cOne tx n cT A srt I0 J P D) {Q : pvQT} : ∀ f r2 I i jv, psS tx n cT A I0 r2 I → i ≤ 300 → (∀ cd k, r2 = .ok (cd, k) → n ≤ k + f ∧ i < k) → (∀ I', psS tx n cT A I0 (Zr (tkK tx n) n (rdT (tkK tx n) n (rdO (tkK tx n) srt n D)) sgL r2) I' → Q none 224 I' J P) → pvG mX6_readSum (pvR (2 * D + 2) 0 0) (pvZ Q 0 0) 100 [.ref 144, .int (nI (8 - D)), .int jv, .int (nI i), .retAddr 0, .retAddr 0] [] 0 0 224 I J P := by
  obtain ⟨⟨s0, s1, s2, s3, s4⟩, h149, h194⟩ := hA.sh
  have hT : ∀ j, tkK tx n j ≠ 0 → j < n := fun j hj => tkK_lt hj
  have stop : ∀ r2 I i jv, psS tx n cT A I0 r2 I → i ≤ 300 → ¬ sgL (tkS (tkK tx n) r2) = true → (∀ I', psS tx n cT A I0 (Zr (tkK tx n) n (rdT (tkK tx n) n (rdO (tkK tx n) srt n D)) sgL r2) I' → Q none 224 I' J P) → pvG mX6_readSum (pvR (2 * D + 2) 0 0) (pvZ Q 0 0) 100 [.ref 144, .int (nI (8 - D)), .int jv, .int (nI i), .retAddr 0, .retAddr 0] [] 0 0 224 I J P := by
    intro r2 I i jv hs hi hno K
    have htl := tkS_le (tx := tx) (n := n) (r := r2)
    have f4 := hs.2.1
    have g := K I (by rw [Zr_stop hno]; exact hs)
    have hno' : ¬ (tkS (tkK tx n) r2 = 43 ∨ tkS (tkK tx n) r2 = 45) := fun z => hno (decide_eq_true z)
    by_cases c : i + 1 < 300
    · skip
      refine g_aload_n dX6_readSum_100 rfl ?_
      refine n_getI dX6_readSum_101 fdX6_49 rfl (by first | rfl | exact pv_shx) (by omega) (by omega) (by decide) rfl (by repeat (first | exact f4 | (apply rd_s; done) | apply rd_n (by omega) | apply rp_s | apply rp_n (by omega) | (apply rdL_s; done) | apply rdL_n (by omega) | apply rpJ_s | apply rpJ_n (by omega) | rfl)) ?_
      refine g_bipush (v := nI 43) dX6_readSum_104 (by decide) ?_
      refine n_icmp_eq 118 dX6_readSum_106 (by decide) (by first | ((with_reducible apply cN_eq) <;> omega) | ((with_reducible apply cI_eqn) <;> omega) | exact Iff.rfl) (fun c106 => by exfalso; first | omega | exact absurd trivial c106 | exact c106 | (simp at c106)) (fun c106 => ?_)
      refine g_aload_n dX6_readSum_109 rfl ?_
      refine n_getI dX6_readSum_110 fdX6_49 rfl (by first | rfl | exact pv_shx) (by omega) (by omega) (by decide) rfl (by repeat (first | exact f4 | (apply rd_s; done) | apply rd_n (by omega) | apply rp_s | apply rp_n (by omega) | (apply rdL_s; done) | apply rdL_n (by omega) | apply rpJ_s | apply rpJ_n (by omega) | rfl)) ?_
      refine g_bipush (v := nI 45) dX6_readSum_113 (by decide) ?_
      refine n_icmp_ne 125 dX6_readSum_115 (by decide) (by first | ((with_reducible apply cN_eq) <;> omega) | ((with_reducible apply cI_eqn) <;> omega) | exact Iff.rfl) (fun c115 => ?_) (fun c115 => by exfalso; first | omega | exact absurd trivial c115 | exact c115 | (simp at c115))
      refine g_iconst (v := nI 0) dX6_readSum_125 (by decide) ?_
      refine g_istore_n dX6_readSum_126 (by decide) rfl ?_
      refine g_iload_n dX6_readSum_127 rfl ?_
      refine n_if_eq 135 dX6_readSum_128 (by decide) (by first | (with_reducible exact cB _) | ((with_reducible apply cN_eq0) <;> omega) | exact Iff.rfl) (fun c128 => ?_) (fun c128 => by exfalso; first | omega | exact absurd trivial c128 | exact c128 | (simp at c128))
      refine g_iinc dX6_readSum_135 rfl (by first | (with_reducible exact nI_1 _) | exact nI_1 _ | exact pk_m1 _ | rfl) (by decide) rfl ?_
      refine g_goto 4 dX6_readSum_138 (by decide) ?_
      refine g_iload_n dX6_readSum_4 rfl ?_
      refine g_sipush (v := nI 300) dX6_readSum_5 (by decide) ?_
      refine n_icmp_ge 141 dX6_readSum_8 (by decide) (by first | ((with_reducible apply cN_le) <;> omega) | ((with_reducible apply cI_len) <;> omega) | ((with_reducible apply cI_nle) <;> omega) | (with_reducible exact cI_le)) (fun c8 => by exfalso; first | omega | exact absurd trivial c8 | exact c8 | (simp at c8)) (fun c8 => ?_)
      refine g_iload_n dX6_readSum_11 rfl ?_
      refine n_if_eq 141 dX6_readSum_12 (by decide) (by first | (with_reducible exact cB _) | ((with_reducible apply cN_eq0) <;> omega) | exact Iff.rfl) (fun c12 => ?_) (fun c12 => by exfalso; first | omega | exact absurd trivial c12 | exact c12 | (simp at c12))
      exact g_vret dX6_readSum_141 rfl (g)
    · skip
      refine g_aload_n dX6_readSum_100 rfl ?_
      refine n_getI dX6_readSum_101 fdX6_49 rfl (by first | rfl | exact pv_shx) (by omega) (by omega) (by decide) rfl (by repeat (first | exact f4 | (apply rd_s; done) | apply rd_n (by omega) | apply rp_s | apply rp_n (by omega) | (apply rdL_s; done) | apply rdL_n (by omega) | apply rpJ_s | apply rpJ_n (by omega) | rfl)) ?_
      refine g_bipush (v := nI 43) dX6_readSum_104 (by decide) ?_
      refine n_icmp_eq 118 dX6_readSum_106 (by decide) (by first | ((with_reducible apply cN_eq) <;> omega) | ((with_reducible apply cI_eqn) <;> omega) | exact Iff.rfl) (fun c106 => by exfalso; first | omega | exact absurd trivial c106 | exact c106 | (simp at c106)) (fun c106 => ?_)
      refine g_aload_n dX6_readSum_109 rfl ?_
      refine n_getI dX6_readSum_110 fdX6_49 rfl (by first | rfl | exact pv_shx) (by omega) (by omega) (by decide) rfl (by repeat (first | exact f4 | (apply rd_s; done) | apply rd_n (by omega) | apply rp_s | apply rp_n (by omega) | (apply rdL_s; done) | apply rdL_n (by omega) | apply rpJ_s | apply rpJ_n (by omega) | rfl)) ?_
      refine g_bipush (v := nI 45) dX6_readSum_113 (by decide) ?_
      refine n_icmp_ne 125 dX6_readSum_115 (by decide) (by first | ((with_reducible apply cN_eq) <;> omega) | ((with_reducible apply cI_eqn) <;> omega) | exact Iff.rfl) (fun c115 => ?_) (fun c115 => by exfalso; first | omega | exact absurd trivial c115 | exact c115 | (simp at c115))
      refine g_iconst (v := nI 0) dX6_readSum_125 (by decide) ?_
      refine g_istore_n dX6_readSum_126 (by decide) rfl ?_
      refine g_iload_n dX6_readSum_127 rfl ?_
      refine n_if_eq 135 dX6_readSum_128 (by decide) (by first | (with_reducible exact cB _) | ((with_reducible apply cN_eq0) <;> omega) | exact Iff.rfl) (fun c128 => ?_) (fun c128 => by exfalso; first | omega | exact absurd trivial c128 | exact c128 | (simp at c128))
      refine g_iinc dX6_readSum_135 rfl (by first | (with_reducible exact nI_1 _) | exact nI_1 _ | exact pk_m1 _ | rfl) (by decide) rfl ?_
      refine g_goto 4 dX6_readSum_138 (by decide) ?_
      refine g_iload_n dX6_readSum_4 rfl ?_
      refine g_sipush (v := nI 300) dX6_readSum_5 (by decide) ?_
      refine n_icmp_ge 141 dX6_readSum_8 (by decide) (by first | ((with_reducible apply cN_le) <;> omega) | ((with_reducible apply cI_len) <;> omega) | ((with_reducible apply cI_nle) <;> omega) | (with_reducible exact cI_le)) (fun c8 => ?_) (fun c8 => by exfalso; first | omega | exact absurd trivial c8 | exact c8 | (simp at c8))
      exact g_vret dX6_readSum_141 rfl (g)
  intro f
  induction f with
  | zero =>
    intro r2 I i jv hs hi hc K
    refine stop r2 I i jv hs hi (fun z => ?_) K
    cases r2 with
    | error x => cases z
    | ok v =>
      obtain ⟨cd, k⟩ := v
      have := (hc cd k rfl).1
      have e : tkK tx n k = 0 := tkK_end (by omega)
      rw [show tkS (tkK tx n) (.ok (cd, k)) = tkK tx n k from rfl, e] at z
      cases z
  | succ f ih =>
    intro r2 I i jv hs hi hc K
    by_cases hy : sgL (tkS (tkK tx n) r2) = true
    · have htl := tkS_le (tx := tx) (n := n) (r := r2)
      have f4 := hs.2.1
      have hy' : tkS (tkK tx n) r2 = 43 ∨ tkS (tkK tx n) r2 = 45 := of_decide_eq_true hy
      obtain ⟨cd, k, rfl⟩ : ∃ cd k, r2 = .ok (cd, k) := by
        cases r2 with
        | error x => cases hy
        | ok v => exact ⟨v.1, v.2, rfl⟩
      have hk1 := hs.lt hB.1 rfl (show tkK tx n k ≠ 0 by have : tkS (tkK tx n) (.ok (cd, k)) = tkK tx n k := rfl; omega)
      have h300 := hB.1.1.2
      obtain ⟨hc1, hc2⟩ := hc cd k rfl
      have ad := c_advance (I := I) (J := J) (P := P) hP hA hB.1 hs (Or.inr (by omega))
      have rl2 : rlt (bindR (rdT (tkK tx n) n (rdO (tkK tx n) srt n D)) (advR (.ok (cd, k)))) := rlt_bind hs.le (fun k => len_T (fun k => len_O D k) k)
      rw [Zr_step hT rfl gtT hy] at K
      have go : ∀ I3 jv', psS tx n cT A I0 (addR (20000 + tkS (tkK tx n) (.ok (cd, k))) (bindR (rdT (tkK tx n) n (rdO (tkK tx n) srt n D)) (advR (.ok (cd, k))))) I3 → pvG mX6_readSum (pvR (2 * D + 2) 0 0) (pvZ Q 0 0) 100 [.ref 144, .int (nI (8 - D)), .int jv', .int (nI (i + 1)), .retAddr 0, .retAddr 0] [] 0 0 224 I3 J P := fun I3 jv' q3 => ih _ I3 (i + 1) jv' q3 (by omega) (fun cd' k' e => by
        cases hx : bindR (rdT (tkK tx n) n (rdO (tkK tx n) srt n D)) (advR (.ok (cd, k))) with
        | error x => rw [hx] at e; cases e
        | ok v =>
          obtain ⟨cd2, k2⟩ := v
          rw [hx] at e
          cases e
          obtain ⟨cd0, k0, e0, hlt⟩ := bind_at gtT hx
          cases e0
          omega) K
      generalize ht : tkS (tkK tx n) (.ok (cd, k)) = t at *
      have hm1 : (nI t = -1) ↔ False := by
        rw [cI_m1, nI_toInt (by omega)]
        exact ⟨fun z => by omega, False.elim⟩
      have mid : ∀ I1, psS tx n cT A I0 (advR (.ok (cd, k))) I1 → pvG mX6_readSum (pvR (2 * D + 2) 0 0) (pvZ Q 0 0) 15 [.ref 144, .int (nI (8 - D)), .int (nI t), .int (nI (i + 1)), .retAddr 0, .retAddr 0] [] 0 0 224 I1 J P := by
        intro I1 q1
        have su := hO _ _ q1
        refine g_aload_n dX6_readSum_15 rfl ?_
        refine g_iload_n dX6_readSum_16 rfl ?_
        refine g_callV (su) okX6_readOne lkX6_137 rfl (by first | rfl | exact pv_shx) rfl (by omega) (by omega) dX6_readSum_17 rfl (Nat.le_of_ble_eq_true rfl) (rm_le (by omega) (by decide)) ?_
        rintro v nx' I2 J2 P2 ⟨rfl, rfl, rfl, rfl, q2⟩
        refine g_iconst (v := nI 0) dX6_readSum_20 (by decide) ?_
        refine g_istore dX6_readSum_21 (by decide) rfl ?_
        refine g_drop _ (by repeat (first | exact trivial | refine ⟨Or.inr ⟨_, rfl⟩, ?_⟩ | refine ⟨Or.inl rfl, ?_⟩)) (c_prod (jv := nI t) (i := i + 1) hP hPA hA hB hD hO n _ I2 0 q2 (by omega) (fun cd' k' e => ⟨by omega, ?_⟩) (fun I3 q3 => ?_))
        · obtain ⟨cd0, k0, e0, hlt⟩ := bind_at gtO e
          omega
        · rw [← bind_T] at q3
          have aa := c_add (x := 20000 + t) (J := J2) (P := P2) hP hA hB.1 q3 rl2
          refine g_iload_n dX6_readSum_83 rfl ?_
          refine g_iconst (v := (-1)) dX6_readSum_84 (by decide) ?_
          refine n_icmp_eq 100 dX6_readSum_85 (by decide) (hm1) (fun c85 => by exfalso; first | omega | exact absurd trivial c85 | exact c85 | (simp at c85)) (fun c85 => ?_)
          refine g_aload_n dX6_readSum_88 rfl ?_
          refine g_getP dX6_readSum_89 fdX6_37 rfl (by first | rfl | exact pv_shx) (by omega) (by omega) (by decide) rfl (hPA) ?_
          refine g_sipush (v := nI 20000) dX6_readSum_92 (by decide) ?_
          refine g_iload_n dX6_readSum_95 rfl ?_
          refine n_iadd dX6_readSum_96 (by first | (with_reducible exact nI_add _ _) | rfl) ?_
          refine g_callV (aa) okX0_add lkX6_124 rfl (s0) rfl (by omega) (by omega) dX6_readSum_97 rfl (Nat.le_of_ble_eq_true rfl) (rm_le (by omega) (by decide)) ?_
          rintro v nx' I4 J4 P4 ⟨rfl, rfl, rfl, rfl, q4⟩
          exact go _ _ q4
      rcases hy' with t43 | t45
      · skip
        refine g_aload_n dX6_readSum_100 rfl ?_
        refine n_getI dX6_readSum_101 fdX6_49 rfl (by first | rfl | exact pv_shx) (by omega) (by omega) (by decide) rfl (by repeat (first | exact f4 | (apply rd_s; done) | apply rd_n (by omega) | apply rp_s | apply rp_n (by omega) | (apply rdL_s; done) | apply rdL_n (by omega) | apply rpJ_s | apply rpJ_n (by omega) | rfl)) ?_
        refine g_bipush (v := nI 43) dX6_readSum_104 (by decide) ?_
        refine n_icmp_eq 118 dX6_readSum_106 (by decide) (by first | ((with_reducible apply cN_eq) <;> omega) | ((with_reducible apply cI_eqn) <;> omega) | exact Iff.rfl) (fun c106 => ?_) (fun c106 => by exfalso; first | omega | exact absurd trivial c106 | exact c106 | (simp at c106))
        refine g_aload_n dX6_readSum_118 rfl ?_
        refine n_getI dX6_readSum_119 fdX6_49 rfl (by first | rfl | exact pv_shx) (by omega) (by omega) (by decide) rfl (by repeat (first | exact f4 | (apply rd_s; done) | apply rd_n (by omega) | apply rp_s | apply rp_n (by omega) | (apply rdL_s; done) | apply rdL_n (by omega) | apply rpJ_s | apply rpJ_n (by omega) | rfl)) ?_
        refine g_goto 126 dX6_readSum_122 (by decide) ?_
        refine g_istore_n dX6_readSum_126 (by decide) rfl ?_
        refine g_iload_n dX6_readSum_127 rfl ?_
        refine n_if_eq 135 dX6_readSum_128 (by decide) (by first | (with_reducible exact cB _) | ((with_reducible apply cN_eq0) <;> omega) | exact Iff.rfl) (fun c128 => by exfalso; first | omega | exact absurd trivial c128 | exact c128 | (simp at c128)) (fun c128 => ?_)
        refine g_aload_n dX6_readSum_131 rfl ?_
        refine g_callV (ad) okX6_advance lkX6_112 rfl (by first | rfl | exact pv_shx) rfl (by omega) (by omega) dX6_readSum_132 rfl (Nat.le_of_ble_eq_true rfl) (rm_le (by omega) (by decide)) ?_
        rintro v nx' I1 J1 P1 ⟨rfl, rfl, rfl, rfl, q1⟩
        refine g_iinc dX6_readSum_135 rfl (by first | (with_reducible exact nI_1 _) | exact nI_1 _ | exact pk_m1 _ | rfl) (by decide) rfl ?_
        refine g_goto 4 dX6_readSum_138 (by decide) ?_
        refine g_iload_n dX6_readSum_4 rfl ?_
        refine g_sipush (v := nI 300) dX6_readSum_5 (by decide) ?_
        refine n_icmp_ge 141 dX6_readSum_8 (by decide) (by first | ((with_reducible apply cN_le) <;> omega) | ((with_reducible apply cI_len) <;> omega) | ((with_reducible apply cI_nle) <;> omega) | (with_reducible exact cI_le)) (fun c8 => by exfalso; first | omega | exact absurd trivial c8 | exact c8 | (simp at c8)) (fun c8 => ?_)
        refine g_iload_n dX6_readSum_11 rfl ?_
        refine n_if_eq 141 dX6_readSum_12 (by decide) (by first | (with_reducible exact cB _) | ((with_reducible apply cN_eq0) <;> omega) | exact Iff.rfl) (fun c12 => by exfalso; first | omega | exact absurd trivial c12 | exact c12 | (simp at c12)) (fun c12 => ?_)
        exact mid _ q1
      · skip
        refine g_aload_n dX6_readSum_100 rfl ?_
        refine n_getI dX6_readSum_101 fdX6_49 rfl (by first | rfl | exact pv_shx) (by omega) (by omega) (by decide) rfl (by repeat (first | exact f4 | (apply rd_s; done) | apply rd_n (by omega) | apply rp_s | apply rp_n (by omega) | (apply rdL_s; done) | apply rdL_n (by omega) | apply rpJ_s | apply rpJ_n (by omega) | rfl)) ?_
        refine g_bipush (v := nI 43) dX6_readSum_104 (by decide) ?_
        refine n_icmp_eq 118 dX6_readSum_106 (by decide) (by first | ((with_reducible apply cN_eq) <;> omega) | ((with_reducible apply cI_eqn) <;> omega) | exact Iff.rfl) (fun c106 => by exfalso; first | omega | exact absurd trivial c106 | exact c106 | (simp at c106)) (fun c106 => ?_)
        refine g_aload_n dX6_readSum_109 rfl ?_
        refine n_getI dX6_readSum_110 fdX6_49 rfl (by first | rfl | exact pv_shx) (by omega) (by omega) (by decide) rfl (by repeat (first | exact f4 | (apply rd_s; done) | apply rd_n (by omega) | apply rp_s | apply rp_n (by omega) | (apply rdL_s; done) | apply rdL_n (by omega) | apply rpJ_s | apply rpJ_n (by omega) | rfl)) ?_
        refine g_bipush (v := nI 45) dX6_readSum_113 (by decide) ?_
        refine n_icmp_ne 125 dX6_readSum_115 (by decide) (by first | ((with_reducible apply cN_eq) <;> omega) | ((with_reducible apply cI_eqn) <;> omega) | exact Iff.rfl) (fun c115 => by exfalso; first | omega | exact absurd trivial c115 | exact c115 | (simp at c115)) (fun c115 => ?_)
        refine g_aload_n dX6_readSum_118 rfl ?_
        refine n_getI dX6_readSum_119 fdX6_49 rfl (by first | rfl | exact pv_shx) (by omega) (by omega) (by decide) rfl (by repeat (first | exact f4 | (apply rd_s; done) | apply rd_n (by omega) | apply rp_s | apply rp_n (by omega) | (apply rdL_s; done) | apply rdL_n (by omega) | apply rpJ_s | apply rpJ_n (by omega) | rfl)) ?_
        refine g_goto 126 dX6_readSum_122 (by decide) ?_
        refine g_istore_n dX6_readSum_126 (by decide) rfl ?_
        refine g_iload_n dX6_readSum_127 rfl ?_
        refine n_if_eq 135 dX6_readSum_128 (by decide) (by first | (with_reducible exact cB _) | ((with_reducible apply cN_eq0) <;> omega) | exact Iff.rfl) (fun c128 => by exfalso; first | omega | exact absurd trivial c128 | exact c128 | (simp at c128)) (fun c128 => ?_)
        refine g_aload_n dX6_readSum_131 rfl ?_
        refine g_callV (ad) okX6_advance lkX6_112 rfl (by first | rfl | exact pv_shx) rfl (by omega) (by omega) dX6_readSum_132 rfl (Nat.le_of_ble_eq_true rfl) (rm_le (by omega) (by decide)) ?_
        rintro v nx' I1 J1 P1 ⟨rfl, rfl, rfl, rfl, q1⟩
        refine g_iinc dX6_readSum_135 rfl (by first | (with_reducible exact nI_1 _) | exact nI_1 _ | exact pk_m1 _ | rfl) (by decide) rfl ?_
        refine g_goto 4 dX6_readSum_138 (by decide) ?_
        refine g_iload_n dX6_readSum_4 rfl ?_
        refine g_sipush (v := nI 300) dX6_readSum_5 (by decide) ?_
        refine n_icmp_ge 141 dX6_readSum_8 (by decide) (by first | ((with_reducible apply cN_le) <;> omega) | ((with_reducible apply cI_len) <;> omega) | ((with_reducible apply cI_nle) <;> omega) | (with_reducible exact cI_le)) (fun c8 => by exfalso; first | omega | exact absurd trivial c8 | exact c8 | (simp at c8)) (fun c8 => ?_)
        refine g_iload_n dX6_readSum_11 rfl ?_
        refine n_if_eq 141 dX6_readSum_12 (by decide) (by first | (with_reducible exact cB _) | ((with_reducible apply cN_eq0) <;> omega) | exact Iff.rfl) (fun c12 => by exfalso; first | omega | exact absurd trivial c12 | exact c12 | (simp at c12)) (fun c12 => ?_)
        exact mid _ q1
    · exact stop r2 I i jv hs hi hy K
theorem c_sum {D : Nat} (hP : pvOkP P) (hPA : P 144 11 = some A) (hA : aAd A) (hB : rB tx n cT srt I0) (hD : D ≤ 8) (hO : cOne tx n cT A srt I0 J P D) : cSum tx n cT A srt I0 J P D := by
  intro r I hs
  have su := hO _ _ hs
  have h300 := hB.1.2.2.2
  rw [bind_S, bind_T]
  have e12 : ((-1 : Int32) = 0) ↔ False := by decide
  have e85 : ((-1 : Int32) = -1) ↔ True := by decide
  refine pvMet.of _ (by decide) rfl (Nat.le_of_ble_eq_true rfl) ?_
  refine g_iconst (v := (-1)) dX6_readSum_0 (by decide) ?_
  refine g_istore_n dX6_readSum_1 (by decide) rfl ?_
  refine g_iconst (v := nI 0) dX6_readSum_2 (by decide) ?_
  refine g_istore_n dX6_readSum_3 (by decide) rfl ?_
  refine g_iload_n dX6_readSum_4 rfl ?_
  refine g_sipush (v := nI 300) dX6_readSum_5 (by decide) ?_
  refine n_icmp_ge 141 dX6_readSum_8 (by decide) (by first | ((with_reducible apply cN_le) <;> omega) | ((with_reducible apply cI_len) <;> omega) | ((with_reducible apply cI_nle) <;> omega) | (with_reducible exact cI_le)) (fun c8 => by exfalso; first | omega | exact absurd trivial c8 | exact c8 | (simp at c8)) (fun c8 => ?_)
  refine g_iload_n dX6_readSum_11 rfl ?_
  refine n_if_eq 141 dX6_readSum_12 (by decide) (e12) (fun c12 => by exfalso; first | omega | exact absurd trivial c12 | exact c12 | (simp at c12)) (fun c12 => ?_)
  refine g_aload_n dX6_readSum_15 rfl ?_
  refine g_iload_n dX6_readSum_16 rfl ?_
  refine g_callV (su) okX6_readOne lkX6_137 rfl (by first | rfl | exact pv_shx) rfl (by omega) (by omega) dX6_readSum_17 rfl (Nat.le_of_ble_eq_true rfl) (rm_le (by omega) (by decide)) ?_
  rintro v nx' I2 J2 P2 ⟨rfl, rfl, rfl, rfl, q2⟩
  refine g_iconst (v := nI 0) dX6_readSum_20 (by decide) ?_
  refine g_istore dX6_readSum_21 (by decide) rfl ?_
  refine g_drop _ (by repeat (first | exact trivial | refine ⟨Or.inr ⟨_, rfl⟩, ?_⟩ | refine ⟨Or.inl rfl, ?_⟩)) (c_prod (jv := -1) (i := 0) hP hPA hA hB hD hO n _ I2 0 q2 (by omega) (fun cd' k' e => ⟨by omega, ?_⟩) (fun I3 q3 => ?_))
  · obtain ⟨cd0, k0, e0, hlt⟩ := bind_at gtO e
    omega
  · skip
    refine g_iload_n dX6_readSum_83 rfl ?_
    refine g_iconst (v := (-1)) dX6_readSum_84 (by decide) ?_
    refine n_icmp_eq 100 dX6_readSum_85 (by decide) (e85) (fun c85 => ?_) (fun c85 => by exfalso; first | omega | exact absurd trivial c85 | exact c85 | (simp at c85))
    refine c_terms hP hPA hA hB hD hO n _ I3 0 (-1) q3 (by omega) (fun cd' k' e => ⟨by omega, ?_⟩) (fun I' q' => ⟨rfl, rfl, rfl, rfl, q'⟩)
    rw [← bind_T] at e
    obtain ⟨cd0, k0, e0, hlt⟩ := bind_at gtT e
    omega
theorem c_oneSum (hP : pvOkP P) (hPA : P 144 11 = some A) (hA : aAd A) (hB : rB tx n cT srt I0) : ∀ D, D ≤ 8 → cOne tx n cT A srt I0 J P D ∧ cSum tx n cT A srt I0 J P D
  | 0, h => by
    have h1 : cOne tx n cT A srt I0 J P 0 := c_one hP hPA hA hB h (fun D' e => absurd e (by omega))
    exact ⟨h1, c_sum hP hPA hA hB h h1⟩
  | D + 1, h => by
    have ih := c_oneSum hP hPA hA hB D (by omega)
    have h1 : cOne tx n cT A srt I0 J P (D + 1) := c_one hP hPA hA hB h (fun D' e => by cases e; exact ih)
    exact ⟨h1, c_sum hP hPA hA hB h h1⟩
end SUMS
