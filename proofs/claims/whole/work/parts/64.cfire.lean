/-! class: a fire's beginning of a week -/
def mfJ (J J' : pvJ) (l : List Nat) : Prop := ∀ k, k ∉ l → J' k = J k
theorem mfJ.rf {J : pvJ} {l : List Nat} : mfJ J J l := fun _ _ => rfl
theorem mfJ.tr {J J' J'' : pvJ} {l : List Nat} (h : mfJ J J' l) (h2 : mfJ J' J'' l) : mfJ J J'' l := fun k hk => (h2 k hk).trans (h k hk)
/-- addresses of fires: eight, and the trial -/
def fAd (F : Nat) : Prop := ∃ s, s < 9 ∧ F = 90 + 6 * s
theorem fAd_sh0 : ∀ s, s < 9 → pvSH (90 + 6 * s) = (6, 15) ∧ pvSH (90 + 6 * s + 1) = (0, 64) ∧ pvSH (90 + 6 * s + 2) = (0, 64) ∧ pvSH (90 + 6 * s + 3) = (1, 100) ∧ pvSH (90 + 6 * s + 4) = (1, 100) ∧ pvSH (90 + 6 * s + 5) = (1, 100) := by decide
theorem fAd_P0 : ∀ s, s < 9 → pvPP (90 + 6 * s) 10 = some (90 + 6 * s + 1) ∧ pvPP (90 + 6 * s) 11 = some (90 + 6 * s + 2) ∧ pvPP (90 + 6 * s) 12 = some (90 + 6 * s + 3) ∧ pvPP (90 + 6 * s) 13 = some (90 + 6 * s + 4) ∧ pvPP (90 + 6 * s) 14 = some (90 + 6 * s + 5) := by decide
theorem fAd.sh {F : Nat} (h : fAd F) : (pvSH F = (6, 15) ∧ pvSH (F + 1) = (0, 64) ∧ pvSH (F + 2) = (0, 64) ∧ pvSH (F + 3) = (1, 100) ∧ pvSH (F + 4) = (1, 100) ∧ pvSH (F + 5) = (1, 100)) ∧ 90 ≤ F ∧ F ≤ 138 := by
  obtain ⟨s, hs, rfl⟩ := h
  exact ⟨fAd_sh0 s hs, by omega, by omega⟩
theorem fAd.pp {F : Nat} {P : pvP} (hP : pvOkP P) (h : fAd F) : P F 10 = some (F + 1) ∧ P F 11 = some (F + 2) ∧ P F 12 = some (F + 3) ∧ P F 13 = some (F + 4) ∧ P F 14 = some (F + 5) := by
  obtain ⟨s, hs, rfl⟩ := h
  obtain ⟨h1, h2, h3, h4, h5⟩ := fAd_P0 s hs
  exact ⟨hP _ _ _ h1, hP _ _ _ h2, hP _ _ _ h3, hP _ _ _ h4, hP _ _ _ h5⟩
-- sets from a cell on
def rst (f : Nat → Bool) (p : Nat) : Nat → Bool := fun c => decide (p ≤ c) && f c
theorem rst_or {f : Nat → Bool} : ∀ q p, p + q = 64 → (∃ l, p ≤ l ∧ l < 64 ∧ f l = true ∧ ∀ c, p ≤ c → c < l → f c = false) ∨ (∀ c, p ≤ c → c < 64 → f c = false)
  | 0, p, h => Or.inr (fun c h1 h2 => by omega)
  | q + 1, p, h => by
    by_cases hp : f p = true
    · exact Or.inl ⟨p, Nat.le_refl _, by omega, hp, fun c h1 h2 => by omega⟩
    · have hp2 : f p = false := by simpa using hp
      rcases rst_or (f := f) q (p + 1) (by omega) with ⟨l, l1, l2, l3, l4⟩ | h0
      · refine Or.inl ⟨l, by omega, l2, l3, fun c h1 h2 => ?_⟩
        by_cases e : c = p
        · rw [e]; exact hp2
        · exact l4 c (by omega) h2
      · refine Or.inr (fun c h1 h2 => ?_)
        by_cases e : c = p
        · rw [e]; exact hp2
        · exact h0 c (by omega) h2
section RST
variable {f : Nat → Bool} {p l : Nat}
theorem rst_hit (h1 : p ≤ l) (h3 : f l = true) : rst f p l = true := by simp [rst, h1, h3]
theorem rst_bel (h4 : ∀ c, p ≤ c → c < l → f c = false) : ∀ c, c < l → rst f p c = false := fun c hc => by
  unfold rst
  by_cases h : p ≤ c
  · rw [h4 c h hc, Bool.and_false]
  · simp [h]
theorem rst_next (h1 : p ≤ l) (h2 : l < 64) (h3 : f l = true) (h4 : ∀ c, p ≤ c → c < l → f c = false) : mk (rst f p) &&& (mk (rst f p) - 1) = mk (rst f (l + 1)) := by
  rw [mk_rest h2 (rst_hit h1 h3) (rst_bel h4)]
  refine mk_cong (fun c hc => ?_)
  unfold rst
  by_cases h : l < c
  · simp [h, show p ≤ c by omega, show l + 1 ≤ c by omega]
  · simp [h, show ¬ l + 1 ≤ c by omega]
theorem rst_one (h1 : p ≤ l) (h2 : l < 64) (h3 : f l = true) (h4 : ∀ c, p ≤ c → c < l → f c = false) : mk (rst f p) &&& -mk (rst f p) = mk (fun c => decide (c = l)) := mk_one h2 (rst_hit h1 h3) (rst_bel h4)
theorem rst_zero (h : ∀ c, p ≤ c → c < 64 → f c = false) : mk (rst f p) = 0 := mk_eq0.mpr (fun c hc => by
  unfold rst
  by_cases hp : p ≤ c
  · rw [h c hp hc, Bool.and_false]
  · simp [hp])
theorem rst_ne (h1 : p ≤ l) (h2 : l < 64) (h3 : f l = true) : ¬ mk (rst f p) = 0 := fun z => by
  have := mk_eq0.mp z l h2
  rw [rst_hit h1 h3] at this
  cases this
theorem rst_0 : mk (rst f 0) = mk f := mk_cong (fun c _ => by simp [rst])
end RST
theorem f_note {F m sn : Nat} {I : pvI} {J : pvJ} {P : pvP} (hP : pvOkP P) (hA : fAd F) (h4 : I F 4 = nI m) (hm : m ≤ 99) (h5 : I F 5 = nI sn) (hs : sn ≤ 100) : pvMet mX1_note 1 0 0 [.ref F] 224 I J P (pvq P (fun v I' J' => v = none ∧ I' = pvs I F (upd (I F) 5 (nI (max sn (m + 1)))) ∧ J' (F + 3) = vp_updL (J (F + 3)) m (J F 6) ∧ J' (F + 4) = vp_updL (J (F + 4)) m (J F 7) ∧ mfJ J J' [F + 3, F + 4])) := by
  obtain ⟨⟨s0, s1, s2, s3, s4, s5⟩, h90, h138⟩ := hA.sh
  obtain ⟨p10, p11, p12, p13, p14⟩ := hA.pp hP
  refine pvMet.of _ (by decide) rfl (Nat.le_of_ble_eq_true rfl) ?_
  refine g_aload_n dX1_note_0 rfl ?_
  refine g_getP dX1_note_1 fdX1_25 rfl (by first | exact s0 | exact s3 | exact s4) (by omega) (by omega) (by decide) rfl (by first | exact p12 | exact p13) ?_
  refine g_aload_n dX1_note_4 rfl ?_
  refine n_getI dX1_note_5 fdX1_15 rfl (by first | exact s0 | exact s3 | exact s4) (by omega) (by omega) (by decide) rfl (by repeat (first | exact h4 | exact h5 | (apply rd_s; done) | apply rd_n (by omega) | apply rp_s | apply rp_n (by omega) | (apply rdL_s; done) | apply rdL_n (by omega) | apply rpJ_s | apply rpJ_n (by omega) | rfl)) ?_
  refine g_aload_n dX1_note_8 rfl ?_
  refine n_getJ dX1_note_9 fdX1_54 rfl (by first | exact s0 | exact s3 | exact s4) (by omega) (by omega) (by decide) rfl (by repeat (first | exact h4 | exact h5 | (apply rd_s; done) | apply rd_n (by omega) | apply rp_s | apply rp_n (by omega) | (apply rdL_s; done) | apply rdL_n (by omega) | apply rpJ_s | apply rpJ_n (by omega) | rfl)) ?_
  refine n_last dX1_note_12 (by first | exact s0 | exact s3 | exact s4) (by omega) (by omega) (by omega) (by decide) (rfl) (by omega) (by repeat (first | exact pvu_s | exact pvuJ_s | apply pvu_in (by omega) | apply pvuJ_in (by omega) | exact pvu_pvs | exact pvuJ_pvs)) ?_
  refine g_aload_n dX1_note_13 rfl ?_
  refine g_getP dX1_note_14 fdX1_29 rfl (by first | exact s0 | exact s3 | exact s4) (by omega) (by omega) (by decide) rfl (by first | exact p12 | exact p13) ?_
  refine g_aload_n dX1_note_17 rfl ?_
  refine n_getI dX1_note_18 fdX1_15 rfl (by first | exact s0 | exact s3 | exact s4) (by omega) (by omega) (by decide) rfl (by repeat (first | exact h4 | exact h5 | (apply rd_s; done) | apply rd_n (by omega) | apply rp_s | apply rp_n (by omega) | (apply rdL_s; done) | apply rdL_n (by omega) | apply rpJ_s | apply rpJ_n (by omega) | rfl)) ?_
  refine g_aload_n dX1_note_21 rfl ?_
  refine n_getJ dX1_note_22 fdX1_58 rfl (by first | exact s0 | exact s3 | exact s4) (by omega) (by omega) (by decide) rfl (by repeat (first | exact h4 | exact h5 | (apply rd_s; done) | apply rd_n (by omega) | apply rp_s | apply rp_n (by omega) | (apply rdL_s; done) | apply rdL_n (by omega) | apply rpJ_s | apply rpJ_n (by omega) | rfl)) ?_
  refine n_last dX1_note_25 (by first | exact s0 | exact s3 | exact s4) (by omega) (by omega) (by omega) (by decide) (rfl) (by omega) (by repeat (first | exact pvu_s | exact pvuJ_s | apply pvu_in (by omega) | apply pvuJ_in (by omega) | exact pvu_pvs | exact pvuJ_pvs)) ?_
  refine g_aload_n dX1_note_26 rfl ?_
  refine g_aload_n dX1_note_27 rfl ?_
  refine n_getI dX1_note_28 fdX1_45 rfl (by first | exact s0 | exact s3 | exact s4) (by omega) (by omega) (by decide) rfl (by repeat (first | exact h4 | exact h5 | (apply rd_s; done) | apply rd_n (by omega) | apply rp_s | apply rp_n (by omega) | (apply rdL_s; done) | apply rdL_n (by omega) | apply rpJ_s | apply rpJ_n (by omega) | rfl)) ?_
  refine g_aload_n dX1_note_31 rfl ?_
  refine n_getI dX1_note_32 fdX1_15 rfl (by first | exact s0 | exact s3 | exact s4) (by omega) (by omega) (by decide) rfl (by repeat (first | exact h4 | exact h5 | (apply rd_s; done) | apply rd_n (by omega) | apply rp_s | apply rp_n (by omega) | (apply rdL_s; done) | apply rdL_n (by omega) | apply rpJ_s | apply rpJ_n (by omega) | rfl)) ?_
  refine g_iconst (v := nI 1) dX1_note_35 (by decide) ?_
  refine n_iadd dX1_note_36 (by first | (with_reducible exact nI_add _ _) | rfl) ?_
  refine g_mmax dX1_note_37 lkX1_121 (by decide) (Nat.le_of_ble_eq_true rfl) (by decide) (by decide) (by first | exact mm_max (by omega) (by omega) | rfl) ?_
  refine n_putI dX1_note_40 fdX1_45 rfl (fun h => absurd h (by decide)) (by first | exact s0 | exact s3 | exact s4) (by omega) (by omega) (by decide) rfl (by repeat (first | exact pvu_s | exact pvuJ_s | apply pvu_in (by omega) | apply pvuJ_in (by omega) | exact pvu_pvs | exact pvuJ_pvs)) ?_
  exact g_vret dX1_note_43 rfl (⟨rfl, rfl, rfl, rfl, by simp [pvsJ], by simp [pvsJ], fun x hx => by simp at hx; simp [pvsJ, hx]⟩)
/-- the sets and numbers of a fire as it stands -/
def fCu (F : Nat) (cat : Nat) (r : fS) (I : pvI) (J : pvJ) : Prop := J F 6 = mk (mB r) ∧ J F 7 = mk (mT r) ∧ J F 8 = mk (mU r) ∧ (∀ c, c < 64 → I (F + 1) c = nI (r.2.1 c)) ∧ (∀ c, c < 64 → I (F + 2) c = nI (r.2.2 c)) ∧ ∃ wm, J F 9 = mk wm ∧ ∀ c, c < 64 → 0 < r.2.1 c → r.1 c ≠ 1 → 0 < r.2.2 c → wm c = true
/-- what it keeps of a week -/
def fWk (F m : Nat) (b : fS) (met : Nat → Bool) (J : pvJ) : Prop := J (F + 3) m = mk (mB b) ∧ J (F + 4) m = mk (mT b) ∧ J (F + 5) m = mk met
def metB (w h : Nat) (a : Nat → Int32) (wl : Nat) (wo : Option Nat) (s m : Nat) : Nat → Bool := fun c => decide (nw1 a s m (fraw w h a wl wo s m).2.1 (cuB w h a m) (fraw w h a wl wo s m).1 c ≠ 0)
/-- a fire's frame -/
def fFr (F : Nat) (I : pvI) (J : pvJ) (I' : pvI) (J' : pvJ) : Prop := mfix I I' [F, F + 1, F + 2] ∧ mfJ J J' [F, F + 3, F + 4, F + 5] ∧ (∀ j, j ≠ 4 → j ≠ 5 → I' F j = I F j) ∧ J' F 3 = J F 3
theorem fFr.rf {F : Nat} {I : pvI} {J : pvJ} : fFr F I J I J := ⟨fun _ _ => rfl, fun _ _ => rfl, fun _ _ _ => rfl, rfl⟩
theorem fFr.tr {F : Nat} {I I' I'' : pvI} {J J' J'' : pvJ} (h : fFr F I J I' J') (h2 : fFr F I' J' I'' J'') : fFr F I J I'' J'' := ⟨h.1.tr h2.1, h.2.1.tr h2.2.1, fun j h3 h4 => (h2.2.2.1 j h3 h4).trans (h.2.2.1 j h3 h4), h2.2.2.2.trans h.2.2.2⟩
theorem updL_self {f : Nat → Int64} {k : Nat} {x : Int64} (h : f k = x) : vp_updL f k x = f := by
  funext j
  by_cases e : j = k
  · subst e; simp [vp_updL, h]
  · simp [vp_updL, e]
def stQ (w h : Nat) (a : Nat → Int32) (wl : Nat) (wo : Option Nat) (s F m sn cat : Nat) (I : pvI) (J : pvJ) (P : pvP) : pvQT := pvq P (fun v I' J' => v = none ∧ fCu F cat (fwk w h a wl wo s m) I' J' ∧ fWk F m (fwk w h a wl wo s m) (metB w h a wl wo s m) J' ∧ fFr F I J I' J' ∧ I' F 4 = nI m ∧ I' F 5 = nI (max sn (m + 1)) ∧ ∀ k, k ≠ m → J' (F + 3) k = J (F + 3) k ∧ J' (F + 4) k = J (F + 4) k ∧ J' (F + 5) k = J (F + 5) k)
section STL
variable {w h : Nat} {a : Nat → Int32} {wl : Nat} {wo : Option Nat} {s F m sn cat : Nat} {I : pvI} {J : pvJ} {P : pvP}
theorem k_set1 {Z : pvZT} {f : Nat → Bool} {cu : Int64} {tg : Nat → Int32} (hP : pvOkP P) (hA : fAd F)
    (kk : pvG mX1_settle (pvR 2 0 0) Z 114 [.ref F, .ref 3, .long cu, .retAddr 0, .retAddr 0, .retAddr 0, .retAddr 0] [] 0 0 224 (pvs I (F + 1) (fun c => if c < 64 ∧ f c = true then nI 0 else tg c)) J P) : ∀ q p i, 64 - p ≤ q → i ≤ p → p ≤ 64 → pvG mX1_settle (pvR 2 0 0) Z 74 [.ref F, .ref 3, .long cu, .retAddr 0, .long (mk (rst f p)), .retAddr 0, .int (nI i)] [] 0 0 224 (pvs I (F + 1) (fun c => if c < p ∧ f c = true then nI 0 else tg c)) J P := by
  obtain ⟨⟨s0, s1, s2, s3, s4, s5⟩, h90, h138⟩ := hA.sh
  obtain ⟨p10, p11, p12, p13, p14⟩ := hA.pp hP
  intro q
  induction q with
  | zero =>
    intro p i h1 h2 h3
    obtain rfl : p = 64 := by omega
    have hz : mk (rst f 64) = 0 := rst_zero (fun c h1 h2 => by omega)
    by_cases c76 : i < 64
    · skip
      refine g_iload dX1_settle_74 rfl ?_
      refine g_bipush (v := nI 64) dX1_settle_76 (by decide) ?_
      refine n_icmp_ge 114 dX1_settle_78 (by decide) (by first | ((with_reducible apply cN_le) <;> omega) | ((with_reducible apply cI_len) <;> omega) | ((with_reducible apply cI_nle) <;> omega) | (with_reducible exact cI_le)) (fun c78 => by exfalso; first | omega | exact absurd trivial c78 | exact c78 | (simp at c78)) (fun c78 => ?_)
      refine g_lload dX1_settle_81 rfl ?_
      refine g_lconst (v := 0) dX1_settle_83 (by decide) ?_
      refine g_lcmp dX1_settle_84 ?_
      refine n_if_eq 114 dX1_settle_85 (by decide) (lg_cmp_eq _ _) (fun c85 => ?_) (fun c85 => by exfalso; exact c85 hz)
      exact g_drop _ (by repeat (first | exact trivial | refine ⟨Or.inr ⟨_, rfl⟩, ?_⟩ | refine ⟨Or.inl rfl, ?_⟩)) kk
    · skip
      refine g_iload dX1_settle_74 rfl ?_
      refine g_bipush (v := nI 64) dX1_settle_76 (by decide) ?_
      refine n_icmp_ge 114 dX1_settle_78 (by decide) (by first | ((with_reducible apply cN_le) <;> omega) | ((with_reducible apply cI_len) <;> omega) | ((with_reducible apply cI_nle) <;> omega) | (with_reducible exact cI_le)) (fun c78 => ?_) (fun c78 => by exfalso; first | omega | exact absurd trivial c78 | exact c78 | (simp at c78))
      exact g_drop _ (by repeat (first | exact trivial | refine ⟨Or.inr ⟨_, rfl⟩, ?_⟩ | refine ⟨Or.inl rfl, ?_⟩)) kk
  | succ q ih =>
    intro p i h1 h2 h3
    rcases rst_or (f := f) (64 - p) p (by omega) with ⟨l, l1, l2, l3, l4⟩ | h0
    · have lo := t_lowest (nx := 224) (f := rst f p) (I := pvs I (F + 1) (fun c => if c < p ∧ f c = true then nI 0 else tg c)) (J := J) (P := P) l2 (rst_hit l1 l3) (rst_bel l4)
      have nx := ih (l + 1) (i + 1) (by omega) (by omega) (by omega)
      have e : (fun c => if c < l + 1 ∧ f c = true then nI 0 else tg c) = upd (fun c => if c < p ∧ f c = true then nI 0 else tg c) l (nI 0) := by
        funext c
        by_cases z : c = l
        · subst z; simp [upd, l3]
        · simp only [upd, if_neg z]
          by_cases z2 : f c = true
          · by_cases z3 : c < p
            · rw [if_pos ⟨by omega, z2⟩, if_pos ⟨z3, z2⟩]
            · by_cases z4 : c < l
              · have := l4 c (by omega) z4; rw [z2] at this; cases this
              · rw [if_neg (by omega), if_neg (by omega)]
          · rw [if_neg (fun y => z2 y.2), if_neg (fun y => z2 y.2)]
      rw [e] at nx
      refine g_iload dX1_settle_74 rfl ?_
      refine g_bipush (v := nI 64) dX1_settle_76 (by decide) ?_
      refine n_icmp_ge 114 dX1_settle_78 (by decide) (by first | ((with_reducible apply cN_le) <;> omega) | ((with_reducible apply cI_len) <;> omega) | ((with_reducible apply cI_nle) <;> omega) | (with_reducible exact cI_le)) (fun c78 => by exfalso; first | omega | exact absurd trivial c78 | exact c78 | (simp at c78)) (fun c78 => ?_)
      refine g_lload dX1_settle_81 rfl ?_
      refine g_lconst (v := 0) dX1_settle_83 (by decide) ?_
      refine g_lcmp dX1_settle_84 ?_
      refine n_if_eq 114 dX1_settle_85 (by decide) (lg_cmp_eq _ _) (fun c85 => by exfalso; exact rst_ne l1 l2 l3 c85) (fun c85 => ?_)
      refine g_aload_n dX1_settle_88 rfl ?_
      refine g_getP dX1_settle_89 fdX1_18 rfl (by first | exact s0 | exact s1) (by omega) (by omega) (by decide) rfl (p10) ?_
      refine g_lload dX1_settle_92 rfl ?_
      refine p_callNS (lo) okX11_lowest lkX1_115 rfl dX1_settle_94 rfl (Nat.le_of_ble_eq_true rfl) (⟨by decide, by decide, by decide, by decide⟩) ?_
      refine g_iconst (v := nI 0) dX1_settle_97 (by decide) ?_
      refine n_iast dX1_settle_98 (by first | exact s0 | exact s1) (by omega) (by omega) (by omega) (by decide) (rfl) (by omega) (by repeat (first | exact pvu_s | exact pvuJ_s | apply pvu_in (by omega) | apply pvuJ_in (by omega) | exact pvu_pvs | exact pvuJ_pvs)) ?_
      refine g_lload dX1_settle_99 rfl ?_
      refine g_lload dX1_settle_101 rfl ?_
      refine g_lconst (v := 1) dX1_settle_103 (by decide) ?_
      refine n_lsub dX1_settle_104 (rfl) ?_
      refine n_land dX1_settle_105 (rst_next l1 l2 l3 l4) ?_
      refine g_lstore dX1_settle_106 (by decide) rfl ?_
      refine g_iinc dX1_settle_108 rfl (by first | (with_reducible exact nI_1 _) | exact nI_1 _ | exact pk_m1 _ | rfl) (by decide) rfl ?_
      refine g_goto 74 dX1_settle_111 (by decide) ?_
      exact nx
    · have e : (fun c => if c < p ∧ f c = true then nI 0 else tg c) = (fun c => if c < 64 ∧ f c = true then nI 0 else tg c) := by
        funext c
        by_cases z2 : f c = true
        · by_cases z3 : c < p
          · rw [if_pos ⟨z3, z2⟩, if_pos ⟨by omega, z2⟩]
          · by_cases z4 : c < 64
            · have := h0 c (by omega) z4; rw [z2] at this; cases this
            · rw [if_neg (by omega), if_neg (by omega)]
        · rw [if_neg (fun y => z2 y.2), if_neg (fun y => z2 y.2)]
      rw [e]
      have hz : mk (rst f p) = 0 := rst_zero h0
      by_cases c76 : i < 64
      · skip
        refine g_iload dX1_settle_74 rfl ?_
        refine g_bipush (v := nI 64) dX1_settle_76 (by decide) ?_
        refine n_icmp_ge 114 dX1_settle_78 (by decide) (by first | ((with_reducible apply cN_le) <;> omega) | ((with_reducible apply cI_len) <;> omega) | ((with_reducible apply cI_nle) <;> omega) | (with_reducible exact cI_le)) (fun c78 => by exfalso; first | omega | exact absurd trivial c78 | exact c78 | (simp at c78)) (fun c78 => ?_)
        refine g_lload dX1_settle_81 rfl ?_
        refine g_lconst (v := 0) dX1_settle_83 (by decide) ?_
        refine g_lcmp dX1_settle_84 ?_
        refine n_if_eq 114 dX1_settle_85 (by decide) (lg_cmp_eq _ _) (fun c85 => ?_) (fun c85 => by exfalso; exact c85 hz)
        exact g_drop _ (by repeat (first | exact trivial | refine ⟨Or.inr ⟨_, rfl⟩, ?_⟩ | refine ⟨Or.inl rfl, ?_⟩)) kk
      · skip
        refine g_iload dX1_settle_74 rfl ?_
        refine g_bipush (v := nI 64) dX1_settle_76 (by decide) ?_
        refine n_icmp_ge 114 dX1_settle_78 (by decide) (by first | ((with_reducible apply cN_le) <;> omega) | ((with_reducible apply cI_len) <;> omega) | ((with_reducible apply cI_nle) <;> omega) | (with_reducible exact cI_le)) (fun c78 => ?_) (fun c78 => by exfalso; first | omega | exact absurd trivial c78 | exact c78 | (simp at c78))
        exact g_drop _ (by repeat (first | exact trivial | refine ⟨Or.inr ⟨_, rfl⟩, ?_⟩ | refine ⟨Or.inl rfl, ?_⟩)) kk
end STL
