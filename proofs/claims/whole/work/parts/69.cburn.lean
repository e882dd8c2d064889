/-! class: warming, cooling, burning down -/
theorem nb_inj {w h c d e x : Nat} (hw : 2 ≤ w) (hd : d < 4) (he : e < 4) (h1 : sp_nb w h c d = some x) (h2 : sp_nb w h c e = some x) : d = e := by
  have k : ∀ d, d < 4 → sp_nb w h c d = some x → (d = 0 ∧ x = c + 1) ∨ (d = 1 ∧ x = c - 1 ∧ 0 < c) ∨ (d = 2 ∧ x = c + w) ∨ (d = 3 ∧ x = c - w ∧ w ≤ c) := by
    intro d hd hn
    rcases (show d = 0 ∨ d = 1 ∨ d = 2 ∨ d = 3 by omega) with rfl | rfl | rfl | rfl
    · rw [sp_nb0] at hn
      split at hn
      · cases hn; exact Or.inl ⟨rfl, rfl⟩
      · cases hn
    · rw [sp_nb1] at hn
      split at hn
      · rename_i hz
        cases hn
        refine Or.inr (Or.inl ⟨rfl, rfl, ?_⟩)
        rcases Nat.eq_zero_or_pos c with z | z
        · subst z; simp at hz
        · exact z
      · cases hn
    · rw [sp_nb2] at hn
      split at hn
      · cases hn; exact Or.inr (Or.inr (Or.inl ⟨rfl, rfl⟩))
      · cases hn
    · rw [sp_nb3] at hn
      split at hn
      · rename_i hz
        cases hn
        refine Or.inr (Or.inr (Or.inr ⟨rfl, rfl, ?_⟩))
        rcases Nat.lt_or_ge c w with z | z
        · rw [Nat.div_eq_of_lt z] at hz; omega
        · exact z
      · cases hn
  have := k d hd h1
  have := k e he h2
  omega
theorem nb_count1 {w h c N : Nat} {nw : Nat → Nat} (hw : 2 ≤ w) (hwh : w * h ≤ N) (hc : c < w * h) : ∀ k, k ≤ 4 → sp_ct (fun x => (anyB (fun d => decide (sp_nb w h c d = some x)) k && decide (nw x = 1)) = true) N = byN w h nw c k
  | 0, _ => by
    show _ = 0
    rw [sp_ct_cong (q := fun _ => False) (fun x _ => by simp [anyB])]
    have : ∀ n, sp_ct (fun _ => False) n = 0 := fun n => by
      induction n with
      | zero => rfl
      | succ n ih => show sp_ct _ n + (if False then 1 else 0) = 0; rw [ih]; rfl
    exact this N
  | k + 1, hk => by
    have ih := nb_count1 (nw := nw) hw hwh hc k (by omega)
    have es : byN w h nw c (k + 1) = byN w h nw c k + (match sp_nb w h c k with
      | some x => if nw x = 1 then 1 else 0
      | none => 0) := rfl
    rw [es]
    cases hn : sp_nb w h c k with
    | none =>
      show _ = byN w h nw c k + 0
      rw [Nat.add_zero, ← ih]
      refine sp_ct_cong (fun x _ => ?_)
      rw [anyB_s, hn]
      simp
    | some y =>
      have hy := sp_nb_lt (by omega) hc hn
      by_cases h1 : nw y = 1
      · show _ = byN w h nw c k + (if nw y = 1 then 1 else 0)
        rw [if_pos h1, ← ih]
        refine sp_ct_one (i := y) ?_ ?_ (fun x hx => ?_) (by omega)
        · intro z
          rw [Bool.and_eq_true] at z
          obtain ⟨d, d1, d2⟩ := anyB_iff.mp z.1
          have := nb_inj hw (by omega) (by omega) (of_decide_eq_true d2) hn
          omega
        · rw [anyB_s, hn]; simp [h1]
        · rw [anyB_s, hn]
          have : ¬ (some y = some x) := fun z => hx (by cases z; rfl)
          simp [this]
      · show _ = byN w h nw c k + (if nw y = 1 then 1 else 0)
        rw [if_neg h1, Nat.add_zero, ← ih]
        refine sp_ct_cong (fun x _ => ?_)
        rw [anyB_s, hn]
        by_cases e : y = x
        · subst e; simp [h1]
        · have : ¬ (some y = some x) := fun z => e (by cases z; rfl)
          simp [this]
theorem spr_one {w h c x : Nat} (hc : c < w * h) : spr w h (fun y => decide (y = c)) x = anyB (fun d => decide (sp_nb w h c d = some x)) 4 := by
  apply bool_eq
  rw [spr_iff, anyB_iff]
  constructor
  · rintro ⟨y, y1, y2, d, d1, d2⟩
    obtain rfl := of_decide_eq_true y2
    exact ⟨d, d1, decide_eq_true d2⟩
  · rintro ⟨d, d1, d2⟩
    exact ⟨c, hc, decide_eq_true rfl, d, d1, of_decide_eq_true d2⟩
theorem nb_count {w h c N : Nat} {b : fS} (hw : 2 ≤ w) (hwh : w * h ≤ N) (hc : c < w * h) : sp_ct (fun x => (spr w h (fun y => decide (y = c)) x && mB b x) = true) N = byN w h b.1 c 4 := by
  rw [← nb_count1 hw hwh hc 4 (Nat.le_refl 4)]
  refine sp_ct_cong (fun x _ => ?_)
  rw [spr_one hc]
  rfl
theorem by_zero {w h c : Nat} {b : fS} (hw : 2 ≤ w) (hc : c < w * h) (hs : spr w h (mB b) c = false) : ∀ k, k ≤ 4 → byN w h b.1 c k = 0
  | 0, _ => rfl
  | k + 1, hk => by
    have ih := by_zero hw hc hs k (by omega)
    have es : byN w h b.1 c (k + 1) = byN w h b.1 c k + (match sp_nb w h c k with
      | some x => if b.1 x = 1 then 1 else 0
      | none => 0) := rfl
    rw [es, ih]
    cases hn : sp_nb w h c k with
    | none => rfl
    | some y =>
      show 0 + (if b.1 y = 1 then 1 else 0) = 0
      rw [if_neg]
      intro z
      obtain ⟨e, e1, e2⟩ := nb_sym hw hc (by omega) hn
      have : spr w h (mB b) c = true := spr_iff.mpr ⟨y, sp_nb_lt (by omega) hc hn, decide_eq_true z, e, e1, e2⟩
      rw [hs] at this
      cases this
theorem mm_sub {t x : Nat} (ht : t < 2 ^ 30) (hx : x < 2 ^ 30) : (if nI 0 < nI t - nI x then nI t - nI x else nI 0) = nI (t - x) := by
  have e := pk_sub_toInt ht hx
  by_cases h : x < t
  · rw [if_pos, pk_sub (by omega)]
    rw [Int32.lt_iff_toInt_lt, e, nI_toInt (by decide)]
    omega
  · rw [if_neg, show t - x = 0 by omega]
    rw [Int32.lt_iff_toInt_lt, e, nI_toInt (by decide)]
    omega
section WRM
variable {w h F : Nat} {b : fS} {au : Nat → Bool} {I : pvI} {J : pvJ} {P : pvP}
/-- the cells that grow warmer -/
def wmF (w h : Nat) (b : fS) (au : Nat → Bool) (c : Nat) : Bool := ((spr w h (mB b) c && mU b c) && !mB b c) && au c
def cgF (w h : Nat) (cat : Nat) (b : fS) (au : Nat → Bool) (c : Nat) : Bool := wmF w h b au c && decide (cat ≤ b.2.2 c + byN w h b.1 c 4)
theorem k_warm {cat : Nat} {Z : pvZT} {a2 : Int64} (hP : pvOkP P) (hA : fAd F) (hg : gridOk w h I J) (h8 : I 4 8 = nI cat) (hcat : cat ≤ 20) (v6 : J F 6 = mk (mB b)) (v2 : ∀ c, c < 64 → I (F + 2) c = nI (b.2.2 c)) (hht : ∀ c, b.2.2 c ≤ 1000) (hl : ∀ c, wmF w h b au c = true → c < w * h)
    (kk : pvG mX1_warmUp (pvR 2 0 0) Z 141 [.ref F, .ref 3, .long a2, .retAddr 0, .retAddr 0, .retAddr 0, .long (mk (cgF w h cat b au)), .retAddr 0, .retAddr 0, .retAddr 0, .retAddr 0, .retAddr 0] [] 0 0 224 (pvs I (F + 2) (fun c => if c < 64 ∧ wmF w h b au c = true then nI (b.2.2 c + byN w h b.1 c 4) else I (F + 2) c)) J P) : ∀ q p i, 64 - p ≤ q → i ≤ p → p ≤ 64 → pvG mX1_warmUp (pvR 2 0 0) Z 46 [.ref F, .ref 3, .long a2, .retAddr 0, .long (mk (rst (wmF w h b au) p)), .retAddr 0, .long (mk (fun c => decide (c < p) && cgF w h cat b au c)), .retAddr 0, .int (nI i), .retAddr 0, .retAddr 0, .retAddr 0] [] 0 0 224 (pvs I (F + 2) (fun c => if c < p ∧ wmF w h b au c = true then nI (b.2.2 c + byN w h b.1 c 4) else I (F + 2) c)) J P := by
  obtain ⟨⟨s0, s1, s2, s3, s4, s5⟩, h90, h138⟩ := hA.sh
  obtain ⟨p10, p11, p12, p13, p14⟩ := hA.pp hP
  have hwh := hg.wh
  have hw := hg.2.2.2.2.2.2.1
  have ex : ∀ p i, i ≤ p → p ≤ 64 → (∀ c, p ≤ c → c < 64 → wmF w h b au c = false) → pvG mX1_warmUp (pvR 2 0 0) Z 46 [.ref F, .ref 3, .long a2, .retAddr 0, .long (mk (rst (wmF w h b au) p)), .retAddr 0, .long (mk (fun c => decide (c < p) && cgF w h cat b au c)), .retAddr 0, .int (nI i), .retAddr 0, .retAddr 0, .retAddr 0] [] 0 0 224 (pvs I (F + 2) (fun c => if c < p ∧ wmF w h b au c = true then nI (b.2.2 c + byN w h b.1 c 4) else I (F + 2) c)) J P := by
    intro p i h2 h3 h0
    have e : (fun c => if c < p ∧ wmF w h b au c = true then nI (b.2.2 c + byN w h b.1 c 4) else I (F + 2) c) = (fun c => if c < 64 ∧ wmF w h b au c = true then nI (b.2.2 c + byN w h b.1 c 4) else I (F + 2) c) := by
      funext c
      by_cases z2 : wmF w h b au c = true
      · by_cases z3 : c < p
        · rw [if_pos ⟨z3, z2⟩, if_pos ⟨by omega, z2⟩]
        · by_cases z4 : c < 64
          · have := h0 c (by omega) z4; rw [z2] at this; cases this
          · rw [if_neg (by omega), if_neg (by omega)]
      · rw [if_neg (fun y => z2 y.2), if_neg (fun y => z2 y.2)]
    have e2 : mk (fun c => decide (c < p) && cgF w h cat b au c) = mk (cgF w h cat b au) := mk_cong (fun c hc => by
      by_cases z3 : c < p
      · simp [z3]
      · have : cgF w h cat b au c = false := by unfold cgF; rw [h0 c (by omega) hc, Bool.false_and]
        rw [this, Bool.and_false])
    rw [e, e2]
    have hz : mk (rst (wmF w h b au) p) = 0 := rst_zero h0
    by_cases c76 : i < 64
    · skip
      refine g_iload dX1_warmUp_46 rfl ?_
      refine g_bipush (v := nI 64) dX1_warmUp_48 (by decide) ?_
      refine n_icmp_ge 141 dX1_warmUp_50 (by decide) (by first | ((with_reducible apply cN_le) <;> omega) | ((with_reducible apply cI_len) <;> omega) | ((with_reducible apply cI_nle) <;> omega) | (with_reducible exact cI_le)) (fun c50 => by exfalso; first | omega | exact absurd trivial c50 | exact c50 | (simp at c50)) (fun c50 => ?_)
      refine g_lload dX1_warmUp_53 rfl ?_
      refine g_lconst (v := 0) dX1_warmUp_55 (by decide) ?_
      refine g_lcmp dX1_warmUp_56 ?_
      refine n_if_eq 141 dX1_warmUp_57 (by decide) (lg_cmp_eq _ _) (fun c57 => ?_) (fun c57 => by exfalso; exact c57 hz)
      exact g_drop _ (by repeat (first | exact trivial | refine ⟨Or.inr ⟨_, rfl⟩, ?_⟩ | refine ⟨Or.inl rfl, ?_⟩)) kk
    · skip
      refine g_iload dX1_warmUp_46 rfl ?_
      refine g_bipush (v := nI 64) dX1_warmUp_48 (by decide) ?_
      refine n_icmp_ge 141 dX1_warmUp_50 (by decide) (by first | ((with_reducible apply cN_le) <;> omega) | ((with_reducible apply cI_len) <;> omega) | ((with_reducible apply cI_nle) <;> omega) | (with_reducible exact cI_le)) (fun c50 => ?_) (fun c50 => by exfalso; first | omega | exact absurd trivial c50 | exact c50 | (simp at c50))
      exact g_drop _ (by repeat (first | exact trivial | refine ⟨Or.inr ⟨_, rfl⟩, ?_⟩ | refine ⟨Or.inl rfl, ?_⟩)) kk
  intro q
  induction q with
  | zero =>
    intro p i h1 h2 h3
    exact ex p i h2 h3 (fun c z1 z2 => by omega)
  | succ q ih =>
    intro p i h1 h2 h3
    rcases rst_or (f := wmF w h b au) (64 - p) p (by omega) with ⟨l, l1, l2, l3, l4⟩ | h0
    · generalize hI1 : pvs I (F + 2) (fun c => if c < p ∧ wmF w h b au c = true then nI (b.2.2 c + byN w h b.1 c 4) else I (F + 2) c) = I1
      have hlw := hl l l3
      have lo := t_lowest (nx := 224) (f := rst (wmF w h b au) p) (I := I1) (J := J) (P := P) l2 (rst_hit l1 l3) (rst_bel l4)
      have nx := ih (l + 1) (i + 1) (by omega) (by omega) (by omega)
      have e : (fun c => if c < l + 1 ∧ wmF w h b au c = true then nI (b.2.2 c + byN w h b.1 c 4) else I (F + 2) c) = upd (fun c => if c < p ∧ wmF w h b au c = true then nI (b.2.2 c + byN w h b.1 c 4) else I (F + 2) c) l (nI (b.2.2 l + byN w h b.1 l 4)) := by
        funext c
        by_cases z : c = l
        · subst z; simp [upd, l3]
        · simp only [upd, if_neg z]
          by_cases z2 : wmF w h b au c = true
          · by_cases z3 : c < p
            · rw [if_pos ⟨by omega, z2⟩, if_pos ⟨z3, z2⟩]
            · by_cases z4 : c < l
              · have := l4 c (by omega) z4; rw [z2] at this; cases this
              · rw [if_neg (by omega), if_neg (by omega)]
          · rw [if_neg (fun y => z2 y.2), if_neg (fun y => z2 y.2)]
      have hm : pvs I (F + 2) (fun c => if c < l + 1 ∧ wmF w h b au c = true then nI (b.2.2 c + byN w h b.1 c 4) else I (F + 2) c) = pvs I1 (F + 2) (upd (I1 (F + 2)) l (nI (b.2.2 l + byN w h b.1 l 4))) := by
        rw [e, ← hI1, pvs_eq, pvs_pvs]
      rw [hm] at nx
      have g1 : gridOk w h I1 J := by rw [← hI1]; unfold gridOk; rw [pvs_ne (by omega)]; exact hg
      have sp := c_spread (P := P) g1 (f := fun y => decide (y = l)) (fun c hc => by rw [of_decide_eq_true hc]; exact hlw)
      have hcnt := nb_count (b := b) hw.1 hwh.2 hlw
      have bc := t_bitCount (nx := 224) (f := fun x => spr w h (fun y => decide (y = l)) x && mB b x) (I := I1) (J := J) (P := P)
      rw [hcnt] at bc
      have hby := byN_le (w := w) (h := h) (nw := b.1) (c := l) 4
      have hhl := hht l
      have r2 : I1 (F + 2) l = nI (b.2.2 l) := by rw [← hI1, pvs_eq]; rw [if_neg (by omega)]; exact v2 l l2
      have r8 : I1 4 8 = nI cat := by rw [← hI1, pvs_ne (by omega)]; exact h8
      have cgl : cgF w h cat b au l = decide (cat ≤ b.2.2 l + byN w h b.1 l 4) := by unfold cgF; rw [l3, Bool.true_and]
      have none : ∀ c, p ≤ c → c < l → cgF w h cat b au c = false := fun c z1 z2 => by unfold cgF; rw [l4 c z1 z2, Bool.false_and]
      by_cases hcg : cat ≤ b.2.2 l + byN w h b.1 l 4
      · have eg : mk (fun c => decide (c < p) && cgF w h cat b au c) ||| mk (fun c => decide (c = l)) = mk (fun c => decide (c < l + 1) && cgF w h cat b au c) := by
          rw [mk_or]
          refine mk_cong (fun c hc => ?_)
          by_cases z : c = l
          · subst z; rw [cgl]; simp [hcg]
          · by_cases z3 : c < p
            · simp [z, z3, show c < l + 1 by omega]
            · by_cases z4 : c < l
              · rw [none c (by omega) z4]; simp [z]
              · simp [z, z3, show ¬ c < l + 1 by omega]
        refine g_iload dX1_warmUp_46 rfl ?_
        refine g_bipush (v := nI 64) dX1_warmUp_48 (by decide) ?_
        refine n_icmp_ge 141 dX1_warmUp_50 (by decide) (by first | ((with_reducible apply cN_le) <;> omega) | ((with_reducible apply cI_len) <;> omega) | ((with_reducible apply cI_nle) <;> omega) | (with_reducible exact cI_le)) (fun c50 => by exfalso; first | omega | exact absurd trivial c50 | exact c50 | (simp at c50)) (fun c50 => ?_)
        refine g_lload dX1_warmUp_53 rfl ?_
        refine g_lconst (v := 0) dX1_warmUp_55 (by decide) ?_
        refine g_lcmp dX1_warmUp_56 ?_
        refine n_if_eq 141 dX1_warmUp_57 (by decide) (lg_cmp_eq _ _) (fun c57 => by exfalso; exact rst_ne l1 l2 l3 c57) (fun c57 => ?_)
        refine g_lload dX1_warmUp_60 rfl ?_
        refine g_lload dX1_warmUp_62 rfl ?_
        refine n_lneg dX1_warmUp_64 (rfl) ?_
        refine n_land dX1_warmUp_65 (rst_one l1 l2 l3 l4) ?_
        refine g_lstore dX1_warmUp_66 (by decide) rfl ?_
        refine g_lload dX1_warmUp_68 rfl ?_
        refine p_callNS (lo) okX11_lowest lkX1_115 rfl dX1_warmUp_70 rfl (Nat.le_of_ble_eq_true rfl) (⟨by decide, by decide, by decide, by decide⟩) ?_
        refine g_istore dX1_warmUp_73 (by decide) rfl ?_
        refine g_lload dX1_warmUp_75 rfl ?_
        refine g_lload dX1_warmUp_77 rfl ?_
        refine g_lconst (v := 1) dX1_warmUp_79 (by decide) ?_
        refine n_lsub dX1_warmUp_80 (rfl) ?_
        refine n_land dX1_warmUp_81 (rst_next l1 l2 l3 l4) ?_
        refine g_lstore dX1_warmUp_82 (by decide) rfl ?_
        refine g_drop [.ref F, .ref 3, .long a2, .retAddr 0, .long (mk (rst (wmF w h b au) (l + 1))), .retAddr 0, .long (mk (fun c => decide (c < p) && cgF w h cat b au c)), .retAddr 0, .int (nI i), .long (mk (fun c => decide (c = l))), .retAddr 0, .int (nI l)] (by repeat (first | exact trivial | refine ⟨Or.inr ⟨_, rfl⟩, ?_⟩ | refine ⟨Or.inl rfl, ?_⟩)) ?_
        refine g_aload_n dX1_warmUp_84 rfl ?_
        refine g_getP dX1_warmUp_85 fdX1_22 rfl (by first | exact s0 | exact s2 | rfl) (by omega) (by omega) (by decide) rfl (by first | exact p11 | exact hP _ _ _ rfl) ?_
        refine g_iload dX1_warmUp_88 rfl ?_
        refine g_dup2 dX1_warmUp_90 rfl rfl ?_
        refine n_iald dX1_warmUp_91 (by first | exact s0 | exact s2 | rfl) (by omega) (by omega) (by decide) (rfl) (by omega) (by repeat (first | exact r2 | exact r8 | exact v6 | (apply rd_s; done) | apply rd_n (by omega) | apply rp_s | apply rp_n (by omega) | (apply rdL_s; done) | apply rdL_n (by omega) | apply rpJ_s | apply rpJ_n (by omega) | rfl)) ?_
        refine g_aload_n dX1_warmUp_92 rfl ?_
        refine g_getP dX1_warmUp_93 fdX1_124 rfl (by first | exact s0 | exact s2 | rfl) (by omega) (by omega) (by decide) rfl (by first | exact p11 | exact hP _ _ _ rfl) ?_
        refine g_lload dX1_warmUp_96 rfl ?_
        refine p_callV (sp) okX2_spread lkX1_147 rfl (by first | rfl | exact pv_shx) rfl (by omega) (by omega) dX1_warmUp_98 rfl (Nat.le_of_ble_eq_true rfl) (⟨by decide, by decide, by decide, by decide⟩) ?_
        refine g_aload_n dX1_warmUp_101 rfl ?_
        refine n_getJ dX1_warmUp_102 fdX1_54 rfl (by first | exact s0 | exact s2 | rfl) (by omega) (by omega) (by decide) rfl (by repeat (first | exact r2 | exact r8 | exact v6 | (apply rd_s; done) | apply rd_n (by omega) | apply rp_s | apply rp_n (by omega) | (apply rdL_s; done) | apply rdL_n (by omega) | apply rpJ_s | apply rpJ_n (by omega) | rfl)) ?_
        refine n_land dX1_warmUp_105 (mk_and) ?_
        refine p_callS (bc) okJ13_bitCount_95d88 lkX1_172 rfl dX1_warmUp_106 rfl (Nat.le_of_ble_eq_true rfl) (⟨by decide, by decide, by decide, by decide⟩) ?_
        refine n_iadd dX1_warmUp_109 (by first | (with_reducible exact nI_add _ _) | rfl) ?_
        refine n_iast dX1_warmUp_110 (by first | exact s0 | exact s2 | rfl) (by omega) (by omega) (by omega) (by decide) (rfl) (by omega) (by repeat (first | exact pvu_s | exact pvuJ_s | apply pvu_in (by omega) | apply pvuJ_in (by omega) | exact pvu_pvs | exact pvuJ_pvs)) ?_
        refine g_aload_n dX1_warmUp_111 rfl ?_
        refine g_getP dX1_warmUp_112 fdX1_22 rfl (by first | exact s0 | exact s2 | rfl) (by omega) (by omega) (by decide) rfl (by first | exact p11 | exact hP _ _ _ rfl) ?_
        refine g_iload dX1_warmUp_115 rfl ?_
        refine n_iald dX1_warmUp_117 (by first | exact s0 | exact s2 | rfl) (by omega) (by omega) (by decide) (rfl) (by omega) (by repeat (first | exact r2 | exact r8 | exact v6 | (apply rd_s; done) | apply rd_n (by omega) | apply rp_s | apply rp_n (by omega) | (apply rdL_s; done) | apply rdL_n (by omega) | apply rpJ_s | apply rpJ_n (by omega) | rfl)) ?_
        refine g_aload_n dX1_warmUp_118 rfl ?_
        refine g_getP dX1_warmUp_119 fdX1_87 rfl (by first | exact s0 | exact s2 | rfl) (by omega) (by omega) (by decide) rfl (by first | exact p11 | exact hP _ _ _ rfl) ?_
        refine n_getI dX1_warmUp_122 fdX1_177 rfl (by first | exact s0 | exact s2 | rfl) (by omega) (by omega) (by decide) rfl (by repeat (first | exact r2 | exact r8 | exact v6 | (apply rd_s; done) | apply rd_n (by omega) | apply rp_s | apply rp_n (by omega) | (apply rdL_s; done) | apply rdL_n (by omega) | apply rpJ_s | apply rpJ_n (by omega) | rfl)) ?_
        refine n_icmp_lt 135 dX1_warmUp_125 (by decide) (by first | ((with_reducible apply cN_lt) <;> omega) | ((with_reducible apply cI_ltn) <;> omega) | ((with_reducible apply cI_nlt) <;> omega) | (with_reducible exact cI_lt)) (fun c125 => by exfalso; first | omega | exact absurd trivial c125 | exact c125 | (simp at c125)) (fun c125 => ?_)
        refine g_lload dX1_warmUp_128 rfl ?_
        refine g_lload dX1_warmUp_130 rfl ?_
        refine n_lor dX1_warmUp_132 (eg) ?_
        refine g_lstore dX1_warmUp_133 (by decide) rfl ?_
        refine g_iinc dX1_warmUp_135 rfl (by first | (with_reducible exact nI_1 _) | exact nI_1 _ | exact pk_m1 _ | rfl) (by decide) rfl ?_
        refine g_goto 46 dX1_warmUp_138 (by decide) ?_
        exact g_drop _ (by repeat (first | exact trivial | refine ⟨Or.inr ⟨_, rfl⟩, ?_⟩ | refine ⟨Or.inl rfl, ?_⟩)) nx
      · have eg : mk (fun c => decide (c < p) && cgF w h cat b au c) = mk (fun c => decide (c < l + 1) && cgF w h cat b au c) := by
          refine mk_cong (fun c hc => ?_)
          by_cases z : c = l
          · subst z; rw [cgl]; simp [hcg]
          · by_cases z3 : c < p
            · simp [z3, show c < l + 1 by omega]
            · by_cases z4 : c < l
              · rw [none c (by omega) z4]; simp
              · simp [z3, show ¬ c < l + 1 by omega]
        rw [← eg] at nx
        refine g_iload dX1_warmUp_46 rfl ?_
        refine g_bipush (v := nI 64) dX1_warmUp_48 (by decide) ?_
        refine n_icmp_ge 141 dX1_warmUp_50 (by decide) (by first | ((with_reducible apply cN_le) <;> omega) | ((with_reducible apply cI_len) <;> omega) | ((with_reducible apply cI_nle) <;> omega) | (with_reducible exact cI_le)) (fun c50 => by exfalso; first | omega | exact absurd trivial c50 | exact c50 | (simp at c50)) (fun c50 => ?_)
        refine g_lload dX1_warmUp_53 rfl ?_
        refine g_lconst (v := 0) dX1_warmUp_55 (by decide) ?_
        refine g_lcmp dX1_warmUp_56 ?_
        refine n_if_eq 141 dX1_warmUp_57 (by decide) (lg_cmp_eq _ _) (fun c57 => by exfalso; exact rst_ne l1 l2 l3 c57) (fun c57 => ?_)
        refine g_lload dX1_warmUp_60 rfl ?_
        refine g_lload dX1_warmUp_62 rfl ?_
        refine n_lneg dX1_warmUp_64 (rfl) ?_
        refine n_land dX1_warmUp_65 (rst_one l1 l2 l3 l4) ?_
        refine g_lstore dX1_warmUp_66 (by decide) rfl ?_
        refine g_lload dX1_warmUp_68 rfl ?_
        refine p_callNS (lo) okX11_lowest lkX1_115 rfl dX1_warmUp_70 rfl (Nat.le_of_ble_eq_true rfl) (⟨by decide, by decide, by decide, by decide⟩) ?_
        refine g_istore dX1_warmUp_73 (by decide) rfl ?_
        refine g_lload dX1_warmUp_75 rfl ?_
        refine g_lload dX1_warmUp_77 rfl ?_
        refine g_lconst (v := 1) dX1_warmUp_79 (by decide) ?_
        refine n_lsub dX1_warmUp_80 (rfl) ?_
        refine n_land dX1_warmUp_81 (rst_next l1 l2 l3 l4) ?_
        refine g_lstore dX1_warmUp_82 (by decide) rfl ?_
        refine g_drop [.ref F, .ref 3, .long a2, .retAddr 0, .long (mk (rst (wmF w h b au) (l + 1))), .retAddr 0, .long (mk (fun c => decide (c < p) && cgF w h cat b au c)), .retAddr 0, .int (nI i), .long (mk (fun c => decide (c = l))), .retAddr 0, .int (nI l)] (by repeat (first | exact trivial | refine ⟨Or.inr ⟨_, rfl⟩, ?_⟩ | refine ⟨Or.inl rfl, ?_⟩)) ?_
        refine g_aload_n dX1_warmUp_84 rfl ?_
        refine g_getP dX1_warmUp_85 fdX1_22 rfl (by first | exact s0 | exact s2 | rfl) (by omega) (by omega) (by decide) rfl (by first | exact p11 | exact hP _ _ _ rfl) ?_
        refine g_iload dX1_warmUp_88 rfl ?_
        refine g_dup2 dX1_warmUp_90 rfl rfl ?_
        refine n_iald dX1_warmUp_91 (by first | exact s0 | exact s2 | rfl) (by omega) (by omega) (by decide) (rfl) (by omega) (by repeat (first | exact r2 | exact r8 | exact v6 | (apply rd_s; done) | apply rd_n (by omega) | apply rp_s | apply rp_n (by omega) | (apply rdL_s; done) | apply rdL_n (by omega) | apply rpJ_s | apply rpJ_n (by omega) | rfl)) ?_
        refine g_aload_n dX1_warmUp_92 rfl ?_
        refine g_getP dX1_warmUp_93 fdX1_124 rfl (by first | exact s0 | exact s2 | rfl) (by omega) (by omega) (by decide) rfl (by first | exact p11 | exact hP _ _ _ rfl) ?_
        refine g_lload dX1_warmUp_96 rfl ?_
        refine p_callV (sp) okX2_spread lkX1_147 rfl (by first | rfl | exact pv_shx) rfl (by omega) (by omega) dX1_warmUp_98 rfl (Nat.le_of_ble_eq_true rfl) (⟨by decide, by decide, by decide, by decide⟩) ?_
        refine g_aload_n dX1_warmUp_101 rfl ?_
        refine n_getJ dX1_warmUp_102 fdX1_54 rfl (by first | exact s0 | exact s2 | rfl) (by omega) (by omega) (by decide) rfl (by repeat (first | exact r2 | exact r8 | exact v6 | (apply rd_s; done) | apply rd_n (by omega) | apply rp_s | apply rp_n (by omega) | (apply rdL_s; done) | apply rdL_n (by omega) | apply rpJ_s | apply rpJ_n (by omega) | rfl)) ?_
        refine n_land dX1_warmUp_105 (mk_and) ?_
        refine p_callS (bc) okJ13_bitCount_95d88 lkX1_172 rfl dX1_warmUp_106 rfl (Nat.le_of_ble_eq_true rfl) (⟨by decide, by decide, by decide, by decide⟩) ?_
        refine n_iadd dX1_warmUp_109 (by first | (with_reducible exact nI_add _ _) | rfl) ?_
        refine n_iast dX1_warmUp_110 (by first | exact s0 | exact s2 | rfl) (by omega) (by omega) (by omega) (by decide) (rfl) (by omega) (by repeat (first | exact pvu_s | exact pvuJ_s | apply pvu_in (by omega) | apply pvuJ_in (by omega) | exact pvu_pvs | exact pvuJ_pvs)) ?_
        refine g_aload_n dX1_warmUp_111 rfl ?_
        refine g_getP dX1_warmUp_112 fdX1_22 rfl (by first | exact s0 | exact s2 | rfl) (by omega) (by omega) (by decide) rfl (by first | exact p11 | exact hP _ _ _ rfl) ?_
        refine g_iload dX1_warmUp_115 rfl ?_
        refine n_iald dX1_warmUp_117 (by first | exact s0 | exact s2 | rfl) (by omega) (by omega) (by decide) (rfl) (by omega) (by repeat (first | exact r2 | exact r8 | exact v6 | (apply rd_s; done) | apply rd_n (by omega) | apply rp_s | apply rp_n (by omega) | (apply rdL_s; done) | apply rdL_n (by omega) | apply rpJ_s | apply rpJ_n (by omega) | rfl)) ?_
        refine g_aload_n dX1_warmUp_118 rfl ?_
        refine g_getP dX1_warmUp_119 fdX1_87 rfl (by first | exact s0 | exact s2 | rfl) (by omega) (by omega) (by decide) rfl (by first | exact p11 | exact hP _ _ _ rfl) ?_
        refine n_getI dX1_warmUp_122 fdX1_177 rfl (by first | exact s0 | exact s2 | rfl) (by omega) (by omega) (by decide) rfl (by repeat (first | exact r2 | exact r8 | exact v6 | (apply rd_s; done) | apply rd_n (by omega) | apply rp_s | apply rp_n (by omega) | (apply rdL_s; done) | apply rdL_n (by omega) | apply rpJ_s | apply rpJ_n (by omega) | rfl)) ?_
        refine n_icmp_lt 135 dX1_warmUp_125 (by decide) (by first | ((with_reducible apply cN_lt) <;> omega) | ((with_reducible apply cI_ltn) <;> omega) | ((with_reducible apply cI_nlt) <;> omega) | (with_reducible exact cI_lt)) (fun c125 => ?_) (fun c125 => by exfalso; first | omega | exact absurd trivial c125 | exact c125 | (simp at c125))
        refine g_iinc dX1_warmUp_135 rfl (by first | (with_reducible exact nI_1 _) | exact nI_1 _ | exact pk_m1 _ | rfl) (by decide) rfl ?_
        refine g_goto 46 dX1_warmUp_138 (by decide) ?_
        exact g_drop _ (by repeat (first | exact trivial | refine ⟨Or.inr ⟨_, rfl⟩, ?_⟩ | refine ⟨Or.inl rfl, ?_⟩)) nx
    · exact ex p i h2 h3 h0
theorem f_warmUp {cat : Nat} {wm : Nat → Bool} (hP : pvOkP P) (hA : fAd F) (hg : gridOk w h I J) (h8 : I 4 8 = nI cat) (hcat : cat ≤ 20) (v6 : J F 6 = mk (mB b)) (v8 : J F 8 = mk (mU b)) (v9 : J F 9 = mk wm) (v2 : ∀ c, c < 64 → I (F + 2) c = nI (b.2.2 c)) (hht : ∀ c, b.2.2 c ≤ 1000) (hbw : ∀ c, mB b c = true → c < w * h) (hau : ∀ c, au c = true → c < w * h) : pvMet mX1_warmUp 2 0 0 [.ref F, .ref 3, .long (mk au)] 224 I J P (pvq P (fun v I' J' => v = some (.long (mk (cgF w h cat b au))) ∧ I' = pvs I (F + 2) (fun c => if c < 64 ∧ wmF w h b au c = true then nI (b.2.2 c + byN w h b.1 c 4) else I (F + 2) c) ∧ J' = pvsJ J F (vp_updL (J F) 9 (mk (fun c => wm c || wmF w h b au c))))) := by
  obtain ⟨⟨s0, s1, s2, s3, s4, s5⟩, h90, h138⟩ := hA.sh
  generalize hJ1 : pvsJ J F (vp_updL (J F) 9 (mk (fun c => wm c || wmF w h b au c))) = J1
  have g1 : gridOk w h I J1 := by rw [← hJ1]; unfold gridOk; rw [pvsJ_ne (by omega)]; exact hg
  have v6' : J1 F 6 = mk (mB b) := by rw [← hJ1, pvsJ_eq]; simp [vp_updL]; exact v6
  have sp := c_spread (P := P) hg (f := mB b) hbw
  have lp := k_warm (J := J1) (a2 := mk au) (Z := pvZ (pvq P (fun v I' J' => v = some (.long (mk (cgF w h cat b au))) ∧ I' = pvs I (F + 2) (fun c => if c < 64 ∧ wmF w h b au c = true then nI (b.2.2 c + byN w h b.1 c 4) else I (F + 2) c) ∧ J' = J1)) 0 0) hP hA g1 h8 hcat v6' v2 hht (fun c hc => by unfold wmF at hc; rw [Bool.and_eq_true] at hc; exact hau c hc.2) ?_ 64 0 0 (by omega) (by omega) (by omega)
  · rw [show (fun c => if c < 0 ∧ wmF w h b au c = true then nI (b.2.2 c + byN w h b.1 c 4) else I (F + 2) c) = I (F + 2) from by funext c; rw [if_neg (by omega)], pvs_self, show mk (fun c => decide (c < 0) && cgF w h cat b au c) = 0 from mk_eq0.mpr (fun c _ => by simp)] at lp
    have e4 : mk (fun c => (spr w h (mB b) c && mU b c) && !mB b c) &&& mk au = mk (rst (wmF w h b au) 0) := mk_and.trans rst_0.symm
    have e9 : mk wm ||| mk (rst (wmF w h b au) 0) = mk (fun c => wm c || wmF w h b au c) := by rw [rst_0, mk_or]
    refine pvMet.of _ (by decide) rfl (Nat.le_of_ble_eq_true rfl) ?_
    refine g_aload_n dX1_warmUp_0 rfl ?_
    refine g_getP dX1_warmUp_1 fdX1_124 rfl (by first | exact s0 | rfl) (by omega) (by omega) (by decide) rfl (hP _ _ _ rfl) ?_
    refine g_aload_n dX1_warmUp_4 rfl ?_
    refine n_getJ dX1_warmUp_5 fdX1_54 rfl (by first | exact s0 | rfl) (by omega) (by omega) (by decide) rfl (by repeat (first | exact v6 | exact v8 | exact v9 | (apply rd_s; done) | apply rd_n (by omega) | apply rp_s | apply rp_n (by omega) | (apply rdL_s; done) | apply rdL_n (by omega) | apply rpJ_s | apply rpJ_n (by omega) | rfl)) ?_
    refine p_callV (sp) okX2_spread lkX1_147 rfl (by first | rfl | exact pv_shx) rfl (by omega) (by omega) dX1_warmUp_8 rfl (Nat.le_of_ble_eq_true rfl) (⟨by decide, by decide, by decide, by decide⟩) ?_
    refine g_aload_n dX1_warmUp_11 rfl ?_
    refine n_getJ dX1_warmUp_12 fdX1_61 rfl (by first | exact s0 | rfl) (by omega) (by omega) (by decide) rfl (by repeat (first | exact v6 | exact v8 | exact v9 | (apply rd_s; done) | apply rd_n (by omega) | apply rp_s | apply rp_n (by omega) | (apply rdL_s; done) | apply rdL_n (by omega) | apply rpJ_s | apply rpJ_n (by omega) | rfl)) ?_
    refine n_land dX1_warmUp_15 (mk_and) ?_
    refine g_aload_n dX1_warmUp_16 rfl ?_
    refine n_getJ dX1_warmUp_17 fdX1_54 rfl (by first | exact s0 | rfl) (by omega) (by omega) (by decide) rfl (by repeat (first | exact v6 | exact v8 | exact v9 | (apply rd_s; done) | apply rd_n (by omega) | apply rp_s | apply rp_n (by omega) | (apply rdL_s; done) | apply rdL_n (by omega) | apply rpJ_s | apply rpJ_n (by omega) | rfl)) ?_
    refine g_ldc2 (v := (-1 : Int64)) dX1_warmUp_20 kcX1_119 ?_
    refine n_lxor dX1_warmUp_23 (mk_not) ?_
    refine n_land dX1_warmUp_24 (mk_and) ?_
    refine g_lload_n dX1_warmUp_25 rfl ?_
    refine n_land dX1_warmUp_26 (e4) ?_
    refine g_lstore dX1_warmUp_27 (by decide) rfl ?_
    refine g_aload_n dX1_warmUp_29 rfl ?_
    refine g_dup dX1_warmUp_30 rfl ?_
    refine n_getJ dX1_warmUp_31 fdX1_64 rfl (by first | exact s0 | rfl) (by omega) (by omega) (by decide) rfl (by repeat (first | exact v6 | exact v8 | exact v9 | (apply rd_s; done) | apply rd_n (by omega) | apply rp_s | apply rp_n (by omega) | (apply rdL_s; done) | apply rdL_n (by omega) | apply rpJ_s | apply rpJ_n (by omega) | rfl)) ?_
    refine g_lload dX1_warmUp_34 rfl ?_
    refine n_lor dX1_warmUp_36 (e9) ?_
    refine n_putJ dX1_warmUp_37 fdX1_64 rfl (fun h => absurd h (by decide)) (by first | exact s0 | rfl) (by omega) (by omega) (by decide) rfl (by repeat (first | exact pvu_s | exact pvuJ_s | apply pvu_in (by omega) | apply pvuJ_in (by omega) | exact pvu_pvs | exact pvuJ_pvs)) ?_
    rw [hJ1]
    refine g_lconst (v := 0) dX1_warmUp_40 (by decide) ?_
    refine g_lstore dX1_warmUp_41 (by decide) rfl ?_
    refine g_iconst (v := nI 0) dX1_warmUp_43 (by decide) ?_
    refine g_istore dX1_warmUp_44 (by decide) rfl ?_
    exact g_drop _ (by repeat (first | exact trivial | refine ⟨Or.inr ⟨_, rfl⟩, ?_⟩ | refine ⟨Or.inl rfl, ?_⟩)) lp
  · skip
    refine g_lload dX1_warmUp_141 rfl ?_
    exact g_lret dX1_warmUp_143 rfl (⟨rfl, rfl, rfl, rfl, rfl⟩)
end WRM
