/-! model: votes and gifts -/
def lmin : List Nat → Nat
  | [] => 0
  | x :: r => match r with
    | [] => x
    | _ :: _ => min x (lmin r)
theorem lmin_cons {x y : Nat} {r : List Nat} : lmin (x :: y :: r) = min x (lmin (y :: r)) := rfl
theorem lmin_spec : ∀ {l : List Nat}, l ≠ [] → lmin l ∈ l ∧ ∀ y, y ∈ l → lmin l ≤ y
  | [], h => absurd rfl h
  | [x], _ => ⟨List.mem_cons_self, fun y hy => by rw [List.mem_singleton.mp hy]; exact Nat.le_refl _⟩
  | x :: y :: r, _ => by
    obtain ⟨h1, h2⟩ := lmin_spec (l := y :: r) (by simp)
    rw [lmin_cons]
    refine ⟨?_, fun z hz => ?_⟩
    · rcases Nat.le_total x (lmin (y :: r)) with h | h
      · rw [Nat.min_eq_left h]; exact List.mem_cons_self
      · rw [Nat.min_eq_right h]; exact List.mem_cons_of_mem _ h1
    · rcases List.mem_cons.mp hz with rfl | hz
      · exact Nat.min_le_left _ _
      · exact Nat.le_trans (Nat.min_le_right _ _) (h2 z hz)
theorem lmin_eq {l : List Nat} {m : Nat} (h1 : m ∈ l) (h2 : ∀ y, y ∈ l → m ≤ y) : lmin l = m := by
  have hne : l ≠ [] := fun z => by rw [z] at h1; exact absurd h1 List.not_mem_nil
  obtain ⟨h3, h4⟩ := lmin_spec hne
  have := h4 m h1
  have := h2 _ h3
  omega
/-- the least sum of k of a list -/
def msum : Nat → List Nat → Nat
  | 0, _ => 0
  | k + 1, l => lmin l + msum k (l.erase (lmin l))
theorem msum_perm : ∀ {k : Nat} {l l' : List Nat}, l.Perm l' → msum k l = msum k l'
  | 0, _, _, _ => rfl
  | k + 1, l, l', h => by
    have hm : lmin l = lmin l' := by
      by_cases hne : l = []
      · subst hne; rw [h.nil_eq]
      · obtain ⟨h1, h2⟩ := lmin_spec hne
        exact (lmin_eq (h.mem_iff.mp h1) (fun y hy => h2 y (h.mem_iff.mpr hy))).symm
    show lmin l + msum k (l.erase (lmin l)) = lmin l' + msum k (l'.erase (lmin l'))
    rw [hm, msum_perm (h.erase (lmin l'))]
/-- places lo .. lo + n - 1 of an array as a list -/
def rl (f : Nat → Nat) : Nat → Nat → List Nat
  | _, 0 => []
  | lo, n + 1 => f lo :: rl f (lo + 1) n
theorem rl_cong {f g : Nat → Nat} : ∀ {n lo : Nat}, (∀ i, lo ≤ i → i < lo + n → f i = g i) → rl f lo n = rl g lo n
  | 0, _, _ => rfl
  | n + 1, lo, h => by
    show f lo :: rl f (lo + 1) n = g lo :: rl g (lo + 1) n
    rw [h lo (Nat.le_refl _) (by omega), rl_cong (fun i h1 h2 => h i (by omega) (by omega))]
theorem rl_mem {f : Nat → Nat} {y : Nat} : ∀ {n lo : Nat}, y ∈ rl f lo n ↔ ∃ i, lo ≤ i ∧ i < lo + n ∧ f i = y
  | 0, lo => ⟨fun h => absurd h List.not_mem_nil, fun ⟨i, h1, h2, _⟩ => by omega⟩
  | n + 1, lo => by
    show y ∈ f lo :: rl f (lo + 1) n ↔ _
    rw [List.mem_cons, rl_mem]
    constructor
    · rintro (h | ⟨i, h1, h2, h3⟩)
      · exact ⟨lo, Nat.le_refl _, by omega, h.symm⟩
      · exact ⟨i, by omega, by omega, h3⟩
    · rintro ⟨i, h1, h2, h3⟩
      by_cases e : i = lo
      · subst e; exact Or.inl h3.symm
      · exact Or.inr ⟨i, by omega, by omega, h3⟩
theorem rl_swap {f g : Nat → Nat} {b y : Nat} (hg : ∀ i, i ≠ b → g i = f i) (hb : g b = y) : ∀ {n lo : Nat}, lo ≤ b → b < lo + n → (f b :: rl g lo n).Perm (y :: rl f lo n)
  | 0, lo, h1, h2 => by omega
  | n + 1, lo, h1, h2 => by
    show (f b :: g lo :: rl g (lo + 1) n).Perm (y :: f lo :: rl f (lo + 1) n)
    by_cases e : b = lo
    · subst e
      rw [hb, rl_cong (f := g) (g := f) (fun i h3 h4 => hg i (by omega))]
      exact List.Perm.swap _ _ _
    · rw [hg lo (fun z => e z.symm)]
      have h := rl_swap hg hb (n := n) (lo := lo + 1) (by omega) (by omega)
      exact (List.Perm.swap _ _ _).trans ((h.cons (f lo)).trans (List.Perm.swap _ _ _))
/-- taking the least out -/
theorem rl_take {f g : Nat → Nat} {lo n b : Nat} (h1 : lo ≤ b) (h2 : b < lo + (n + 1)) (hmin : ∀ i, lo ≤ i → i < lo + (n + 1) → f b ≤ f i) (hg : ∀ i, i ≠ b → i ≠ lo → g i = f i) (hb : b ≠ lo → g b = f lo) : lmin (rl f lo (n + 1)) = f b ∧ ((rl f lo (n + 1)).erase (f b)).Perm (rl g (lo + 1) n) := by
  refine ⟨lmin_eq (rl_mem.mpr ⟨b, h1, h2, rfl⟩) (fun y hy => ?_), ?_⟩
  · obtain ⟨i, h3, h4, h5⟩ := rl_mem.mp hy
    rw [← h5]; exact hmin i h3 h4
  · show ((f lo :: rl f (lo + 1) n).erase (f b)).Perm _
    by_cases e : b = lo
    · subst e
      rw [List.erase_cons_head, rl_cong (f := f) (g := g) (fun i h3 h4 => (hg i (by omega) (by omega)).symm)]
    · have h := rl_swap (f := f) (g := fun i => if i = b then f lo else f i) (b := b) (y := f lo) (fun i hi => by simp [hi]) (by simp) (n := n) (lo := lo + 1) (by omega) (by omega)
      rw [rl_cong (f := fun i => if i = b then f lo else f i) (g := g) (fun i h3 h4 => by
        by_cases z : i = b
        · subst z; simp [hb e]
        · simp [z]; exact (hg i z (by omega)).symm)] at h
      have := h.symm.erase (f b)
      rw [List.erase_cons_head] at this
      exact this
def noL (a : Nat → Int32) (yb : Nat → Bool) : Nat → List Nat
  | 0 => []
  | p + 1 => noL a yb p ++ (if sp_here a p ∧ yb p = false then [cnt a (1200 + 5 * p + 2)] else [])
theorem noL_len {a : Nat → Int32} {yb : Nat → Bool} : ∀ p, (noL a yb p).length ≤ p
  | 0 => Nat.le_refl 0
  | p + 1 => by
    have := noL_len (a := a) (yb := yb) p
    show (noL a yb p ++ _).length ≤ p + 1
    rw [List.length_append]
    split <;> simp <;> omega
abbrev yeP (a : Nat → Int32) (yb : Nat → Bool) (p : Nat) : Prop := sp_here a p ∧ yb p = true
def yesB (w h : Nat) (a : Nat → Int32) (cl : Nat → List pC) (m p : Nat) : Bool := match cfN a cl 3 m with
  | none => false
  | some q => evT (nmH a (cnt a (1200 + 5 * p)) (gasN w h a (cnt a (1200 + 5 * p)) m true) m (cnt a (1200 + 5 * p + 3)) (cnt a (1200 + 5 * p + 2)) (cnt a (1200 + 5 * p + 1))) (cdC cl q)
/-- addresses that a count of votes changes -/
abbrev LV : List Nat := 202 :: 219 :: 221 :: 222 :: 223 :: LR
def asA (f : Nat → Int32) (l : List Nat) : Prop := ∀ j, j < l.length → f j = nI (l.getD j 0)
theorem asA_app {f : Nat → Int32} {l : List Nat} {x : Nat} (h : asA f l) : asA (upd f l.length (nI x)) (l ++ [x]) := by
  intro j hj
  rw [List.length_append, List.length_singleton] at hj
  by_cases e : j = l.length
  · subst e; simp [upd, List.getD]
  · simp only [upd, if_neg e]
    rw [h j (by omega)]
    simp [List.getD, List.getElem?_append_left (show j < l.length by omega)]
def voQ (w h : Nat) (a : Nat → Int32) (cl : Nat → List pC) (m : Nat) (I : pvI) (J : pvJ) (P : pvP) : pvQT := pvq P (fun v I' J' => v = none ∧ mfix I I' LV ∧ (∀ j, j ∉ [39, 40] → I' 202 j = I 202 j) ∧ (∀ x, x ≠ 220 → J' x = J x) ∧ I' 202 39 = nI (sp_ct (yeP a (yesB w h a cl m)) (cnt a 6)) ∧ I' 202 40 = nI (noL a (yesB w h a cl m) (cnt a 6)).length ∧ asA (I' 223) (noL a (yesB w h a cl m) (cnt a 6)))
theorem k_gases {w h m nb : Nat} {cl : Nat → List pC} {a : Nat → Int32} {I : pvI} {J : pvJ} {P : pvP} {Z : pvZT} (hP : pvOkP P) (hb : mBy w h cl a I) (htb : tbOk w h a I (cnt a 3)) (hm : m ≤ 99) (hnb : cnt a 5 = nb) (hnb2 : nb ≤ 20)
    (kk : ∀ g, (∀ k, k < nb → g k = nI (gasN w h a k m true)) → pvG mX12_count (pvR 5 0 0) Z 35 [.ref 202, .int (nI m), .retAddr 0, .retAddr 0, .retAddr 0] [] 0 0 224 (pvs I 222 g) J P) : pvG mX12_count (pvR 5 0 0) Z 4 [.ref 202, .int (nI m), .retAddr 0, .retAddr 0, .retAddr 0] [] 0 0 224 I J P := by
  obtain ⟨b1, b2, b3, b4, b5, b6, b7⟩ := id hb
  have nb_h : a 5 = nI nb := by
    obtain ⟨v, v1, v2⟩ := b3.1 5 (by decide)
    replace v1 : v ≤ 20 := v1
    rw [← hnb, cnt_of v2 (by omega)]; exact v2
  have nb_h' : I 203 5 = nI nb := by rw [b2]; exact nb_h
  have lp : ∀ q i g, i + q = nb → (∀ k, k < i → g k = nI (gasN w h a k m true)) → pvG mX12_count (pvR 5 0 0) Z 6 [.ref 202, .int (nI m), .int (nI i), .retAddr 0, .retAddr 0] [] 0 0 224 (pvs I 222 g) J P := by
    intro q
    induction q with
    | zero =>
      intro i g hi hg
      obtain rfl : i = nb := by omega
      refine g_iload_n dX12_count_6 rfl ?_
      refine g_aload_n dX12_count_7 rfl ?_
      refine g_getP dX12_count_8 fdX12_7 rfl (by first | rfl | exact pv_shx) (by omega) (by omega) (by decide) rfl (hP _ _ _ rfl) ?_
      refine g_iconst (v := nI 5) dX12_count_11 (by decide) ?_
      refine n_iald dX12_count_12 (by first | rfl | exact pv_shx) (by omega) (by omega) (by decide) (rfl) (by omega) (by repeat (first | exact nb_h' | (apply rd_s; done) | apply rd_n (by omega) | apply rp_s | apply rp_n (by omega) | (apply rdL_s; done) | apply rdL_n (by omega) | apply rpJ_s | apply rpJ_n (by omega) | rfl)) ?_
      refine n_icmp_ge 35 dX12_count_13 (by decide) (by first | ((with_reducible apply cN_le) <;> omega) | ((with_reducible apply cI_len) <;> omega) | ((with_reducible apply cI_nle) <;> omega) | (with_reducible exact cI_le)) (fun c13 => ?_) (fun c13 => by exfalso; first | omega | exact absurd trivial c13 | exact c13 | (simp at c13))
      exact g_drop _ (by repeat (first | exact trivial | refine ⟨Or.inr ⟨_, rfl⟩, ?_⟩ | refine ⟨Or.inl rfl, ?_⟩)) (kk g hg)
    | succ q ih =>
      intro i g hi hg
      have hf : mfix I (pvs I 222 g) [222] := fun x hx => pvs_ne (by simpa using hx)
      have hb1 := hb.fix hf (by decide) (by decide) (by decide)
      have htb1 := htb.fix hf (by decide) (by decide)
      have g2 := t_gasOf (J := J) (k := i) (high := true) (hb := nI 1) hP hb1.1 hb1.2.1 b3 b4 b5 htb1 (by omega) hm (by decide)
      refine g_iload_n dX12_count_6 rfl ?_
      refine g_aload_n dX12_count_7 rfl ?_
      refine g_getP dX12_count_8 fdX12_7 rfl (by first | rfl | exact pv_shx) (by omega) (by omega) (by decide) rfl (hP _ _ _ rfl) ?_
      refine g_iconst (v := nI 5) dX12_count_11 (by decide) ?_
      refine n_iald dX12_count_12 (by first | rfl | exact pv_shx) (by omega) (by omega) (by decide) (rfl) (by omega) (by repeat (first | exact nb_h' | (apply rd_s; done) | apply rd_n (by omega) | apply rp_s | apply rp_n (by omega) | (apply rdL_s; done) | apply rdL_n (by omega) | apply rpJ_s | apply rpJ_n (by omega) | rfl)) ?_
      refine n_icmp_ge 35 dX12_count_13 (by decide) (by first | ((with_reducible apply cN_le) <;> omega) | ((with_reducible apply cI_len) <;> omega) | ((with_reducible apply cI_nle) <;> omega) | (with_reducible exact cI_le)) (fun c13 => by exfalso; first | omega | exact absurd trivial c13 | exact c13 | (simp at c13)) (fun c13 => ?_)
      refine g_aload_n dX12_count_16 rfl ?_
      refine g_getP dX12_count_17 fdX12_77 rfl (by first | rfl | exact pv_shx) (by omega) (by omega) (by decide) rfl (hP _ _ _ rfl) ?_
      refine g_iload_n dX12_count_20 rfl ?_
      refine g_aload_n dX12_count_21 rfl ?_
      refine g_iload_n dX12_count_22 rfl ?_
      refine g_iload_n dX12_count_23 rfl ?_
      refine g_iconst (v := nI 1) dX12_count_24 (by decide) ?_
      refine p_callV (g2) okX12_gasOf lkX12_165 rfl (by first | rfl | exact pv_shx) rfl (by omega) (by omega) dX12_count_25 rfl (Nat.le_of_ble_eq_true rfl) (⟨by decide, by decide, by decide, by decide⟩) ?_
      refine n_iast dX12_count_28 (by first | rfl | exact pv_shx) (by omega) (by omega) (by omega) (by decide) (rfl) (by omega) (by repeat (first | exact pvu_s | exact pvuJ_s | apply pvu_in (by omega) | apply pvuJ_in (by omega) | exact pvu_pvs | exact pvuJ_pvs)) ?_
      refine g_iinc dX12_count_29 rfl (by first | (with_reducible exact nI_1 _) | exact nI_1 _ | exact pk_m1 _ | rfl) (by decide) rfl ?_
      refine g_goto 6 dX12_count_32 (by decide) ?_
      refine ih (i + 1) _ (by omega) (fun k hk => ?_)
      by_cases e : k = i
      · subst e; simp [upd]
      · simp only [upd, if_neg e]; exact hg k (by omega)
  have h0 := lp nb 0 (I 222) (by omega) (fun k hk => absurd hk (Nat.not_lt_zero k))
  rw [pvs_self] at h0
  refine g_iconst (v := nI 0) dX12_count_4 (by decide) ?_
  refine g_istore_n dX12_count_5 (by decide) rfl ?_
  exact h0
theorem mBy.fix2 {w h : Nat} {cl : Nat → List pC} {a : Nat → Int32} {I I' : pvI} (hb : mBy w h cl a I) (h0 : I' 202 0 = I 202 0) (h1 : I' 202 1 = I 202 1) (h2 : I' 203 = I 203) (h3 : I' 205 = I 205) : mBy w h cl a I' := by
  obtain ⟨b1, b2, b3, b4, b5, b6, b7⟩ := hb
  refine ⟨⟨by rw [h0]; exact b1.1, by rw [h1]; exact b1.2.1, b1.2.2⟩, by rw [h2]; exact b2, b3, b4, b5, b6, fun t ht => ?_⟩
  rw [h3]; exact b7 t ht
def vInv (w h : Nat) (a : Nat → Int32) (cl : Nat → List pC) (m : Nat) (I : pvI) (J : pvJ) (p : Nat) (I1 : pvI) (J1 : pvJ) : Prop := mfix I I1 [202, 219, 221, 222, 223] ∧ (∀ j, j ∉ [39, 40] → I1 202 j = I 202 j) ∧ (∀ x, x ≠ 220 → J1 x = J x) ∧ (∀ k, k < cnt a 5 → I1 222 k = nI (gasN w h a k m true)) ∧ I1 219 7 = nI m ∧ I1 202 39 = nI (sp_ct (yeP a (yesB w h a cl m)) p) ∧ I1 202 40 = nI (noL a (yesB w h a cl m) p).length ∧ asA (I1 223) (noL a (yesB w h a cl m) p)
theorem vInv.mv {w h m p : Nat} {a : Nat → Int32} {cl : Nat → List pC} {I I1 I2 : pvI} {J J1 J2 : pvJ} (hv : vInv w h a cl m I J p I1 J1) (hf : mfix I1 I2 [219, 221]) (h7 : I2 219 7 = nI m) (hj : ∀ x, x ≠ 220 → J2 x = J1 x) : vInv w h a cl m I J p I2 J2 := by
  obtain ⟨v1, v2, v3, v4, v5, v6, v7, v8⟩ := hv
  refine ⟨fun x hx => ?_, fun j hj' => ?_, fun x hx => (hj x hx).trans (v3 x hx), fun k hk => ?_, h7, ?_, ?_, ?_⟩
  · simp at hx
    rw [hf x (by simp; omega)]; exact v1 x (by simp; omega)
  · rw [hf 202 (by decide)]; exact v2 j hj'
  · rw [hf 222 (by decide)]; exact v4 k hk
  · rw [hf 202 (by decide)]; exact v6
  · rw [hf 202 (by decide)]; exact v7
  · rw [hf 223 (by decide)]; exact v8
theorem per_facts {a : Nat → Int32} {p : Nat} (hper : mPer a) (h5 : cnt a 5 ≤ 20) (hp : p < cnt a 6) : a (1200 + 5 * p) = nI (cnt a (1200 + 5 * p)) ∧ a (1200 + 5 * p + 1) = nI (cnt a (1200 + 5 * p + 1)) ∧ a (1200 + 5 * p + 2) = nI (cnt a (1200 + 5 * p + 2)) ∧ a (1200 + 5 * p + 3) = nI (cnt a (1200 + 5 * p + 3)) ∧ cnt a (1200 + 5 * p) < cnt a 5 ∧ cnt a (1200 + 5 * p + 1) ≤ 9 ∧ cnt a (1200 + 5 * p + 2) ≤ 9999 ∧ cnt a (1200 + 5 * p + 3) ≤ 9 := by
  obtain ⟨⟨x, x1, x2⟩, ⟨y, y1, y2⟩, ⟨z, z1, z2⟩, ⟨u, u1, u2⟩, -⟩ := hper p hp
  rw [cnt_of x2 (by omega), cnt_of y2 (by omega), cnt_of z2 (by omega), cnt_of u2 (by omega)]
  exact ⟨x2, y2, z2, u2, x1, y1, z1, u1⟩
abbrev HV (P : pvP) (Z : pvZT) (m p : Nat) (c : Int32) (I : pvI) (J : pvJ) : Prop := pvG mX12_count (pvR 5 0 0) Z 62 [.ref 202, .int (nI m), .int c, .int (nI p), .retAddr 0] [] 0 0 224 I J P
theorem k_no {w h m p : Nat} {a : Nat → Int32} {cl : Nat → List pC} {I I1 : pvI} {J J1 : pvJ} {P : pvP} {Z : pvZT} {c : Int32} (hP : pvOkP P) (hb : mBy w h cl a I) (hper : mPer a) (hp : p < cnt a 6) (hv : vInv w h a cl m I J p I1 J1) (hh : sp_here a p) (hy : yesB w h a cl m p = false)
    (kk : ∀ I2 J2, vInv w h a cl m I J (p + 1) I2 J2 → HV P Z m (p + 1) c I2 J2) : pvG mX12_count (pvR 5 0 0) Z 204 [.ref 202, .int (nI m), .int c, .int (nI p), .int (nI (1200 + 5 * p))] [] 0 0 224 I1 J1 P := by
  obtain ⟨f5, ⟨np, f61, f62, f63⟩, f8, fk⟩ := hou_facts hb
  obtain ⟨k0, k1, k2, k3, l0, l1, l2, l3⟩ := per_facts hper f5 hp
  have hv' := hv
  obtain ⟨v1, v2, v3, v4, v5, v6, v7, v8⟩ := hv
  have e203 : I1 203 = a := by rw [v1 203 (by decide)]; exact hb.2.1
  have g2 : I1 203 (1200 + 5 * p + 2) = nI (cnt a (1200 + 5 * p + 2)) := by rw [e203]; exact k2
  have hle := noL_len (a := a) (yb := yesB w h a cl m) p
  have en : noL a (yesB w h a cl m) (p + 1) = noL a (yesB w h a cl m) p ++ [cnt a (1200 + 5 * p + 2)] := by
    show _ ++ (if _ then _ else _) = _
    rw [if_pos ⟨hh, hy⟩]
  have ey : sp_ct (yeP a (yesB w h a cl m)) (p + 1) = sp_ct (yeP a (yesB w h a cl m)) p := by
    show _ + (if _ then 1 else 0) = _
    rw [if_neg (fun z => by have := z.2; rw [hy] at this; cases this)]
    rfl
  refine g_aload_n dX12_count_204 rfl ?_
  refine g_getP dX12_count_205 fdX12_80 rfl (by first | rfl | exact pv_shx) (by omega) (by omega) (by decide) rfl (hP _ _ _ rfl) ?_
  refine g_aload_n dX12_count_208 rfl ?_
  refine n_getI dX12_count_209 fdX12_360 rfl (by first | rfl | exact pv_shx) (by omega) (by omega) (by decide) rfl (by repeat (first | exact g2 | exact v7 | (apply rd_s; done) | apply rd_n (by omega) | apply rp_s | apply rp_n (by omega) | (apply rdL_s; done) | apply rdL_n (by omega) | apply rpJ_s | apply rpJ_n (by omega) | rfl)) ?_
  refine g_aload_n dX12_count_212 rfl ?_
  refine g_getP dX12_count_213 fdX12_7 rfl (by first | rfl | exact pv_shx) (by omega) (by omega) (by decide) rfl (hP _ _ _ rfl) ?_
  refine g_iload dX12_count_216 rfl ?_
  refine g_iconst (v := nI 2) dX12_count_218 (by decide) ?_
  refine n_iadd dX12_count_219 (by first | (with_reducible exact nI_add _ _) | rfl) ?_
  refine n_iald dX12_count_220 (by first | rfl | exact pv_shx) (by omega) (by omega) (by decide) (rfl) (by omega) (by repeat (first | exact g2 | exact v7 | (apply rd_s; done) | apply rd_n (by omega) | apply rp_s | apply rp_n (by omega) | (apply rdL_s; done) | apply rdL_n (by omega) | apply rpJ_s | apply rpJ_n (by omega) | rfl)) ?_
  refine n_iast dX12_count_221 (by first | rfl | exact pv_shx) (by omega) (by omega) (by omega) (by decide) (rfl) (by omega) (by repeat (first | exact pvu_s | exact pvuJ_s | apply pvu_in (by omega) | apply pvuJ_in (by omega) | exact pvu_pvs | exact pvuJ_pvs)) ?_
  refine g_aload_n dX12_count_222 rfl ?_
  refine g_dup dX12_count_223 rfl ?_
  refine n_getI dX12_count_224 fdX12_360 rfl (by first | rfl | exact pv_shx) (by omega) (by omega) (by decide) rfl (by repeat (first | exact g2 | exact v7 | (apply rd_s; done) | apply rd_n (by omega) | apply rp_s | apply rp_n (by omega) | (apply rdL_s; done) | apply rdL_n (by omega) | apply rpJ_s | apply rpJ_n (by omega) | rfl)) ?_
  refine g_iconst (v := nI 1) dX12_count_227 (by decide) ?_
  refine n_iadd dX12_count_228 (by first | (with_reducible exact nI_add _ _) | rfl) ?_
  refine n_putI dX12_count_229 fdX12_360 rfl (fun h => absurd h (by decide)) (by first | rfl | exact pv_shx) (by omega) (by omega) (by decide) rfl (by repeat (first | exact pvu_s | exact pvuJ_s | apply pvu_in (by omega) | apply pvuJ_in (by omega) | exact pvu_pvs | exact pvuJ_pvs)) ?_
  refine g_iinc dX12_count_232 rfl (by first | (with_reducible exact nI_1 _) | exact nI_1 _ | exact pk_m1 _ | rfl) (by decide) rfl ?_
  refine g_goto 62 dX12_count_235 (by decide) ?_
  refine g_drop _ (by repeat (first | exact trivial | refine ⟨Or.inr ⟨_, rfl⟩, ?_⟩ | refine ⟨Or.inl rfl, ?_⟩)) (kk _ _ ⟨fun x hx => ?_, fun j hj => ?_, v3, fun k hk => ?_, ?_, ?_, ?_, ?_⟩)
  · simp at hx; simp [pvs, hx]; exact v1 x (by simp [hx])
  · simp at hj; simp [pvs, upd, hj]; exact v2 j (by simp [hj])
  · simp [pvs]; exact v4 k hk
  · simp [pvs]; exact v5
  · rw [ey]; simp [pvs, upd]; exact v6
  · rw [en]; simp [pvs, upd]
  · rw [en]; simp [pvs]; exact asA_app v8
theorem k_yes {w h m p : Nat} {a : Nat → Int32} {cl : Nat → List pC} {I I1 : pvI} {J J1 : pvJ} {P : pvP} {Z : pvZT} {c : Int32} (hP : pvOkP P) (hb : mBy w h cl a I) (hp : p < cnt a 6) (hv : vInv w h a cl m I J p I1 J1) (hh : sp_here a p) (hy : yesB w h a cl m p = true)
    (kk : ∀ I2 J2, vInv w h a cl m I J (p + 1) I2 J2 → HV P Z m (p + 1) c I2 J2) : pvG mX12_count (pvR 5 0 0) Z 191 [.ref 202, .int (nI m), .int c, .int (nI p), .int (nI (1200 + 5 * p))] [] 0 0 224 I1 J1 P := by
  obtain ⟨f5, ⟨np, f61, f62, f63⟩, f8, fk⟩ := hou_facts hb
  obtain ⟨v1, v2, v3, v4, v5, v6, v7, v8⟩ := hv
  have hle := sp_ct_le (p := yeP a (yesB w h a cl m)) p
  have en : noL a (yesB w h a cl m) (p + 1) = noL a (yesB w h a cl m) p := by
    show _ ++ (if _ then _ else _) = _
    rw [if_neg (fun z => by have := z.2; rw [hy] at this; cases this), List.append_nil]
  have ey : sp_ct (yeP a (yesB w h a cl m)) (p + 1) = sp_ct (yeP a (yesB w h a cl m)) p + 1 := by
    show _ + (if _ then 1 else 0) = _
    rw [if_pos ⟨hh, hy⟩]
  refine g_aload_n dX12_count_191 rfl ?_
  refine g_dup dX12_count_192 rfl ?_
  refine n_getI dX12_count_193 fdX12_357 rfl (by first | rfl | exact pv_shx) (by omega) (by omega) (by decide) rfl (by repeat (first | exact v6 | (apply rd_s; done) | apply rd_n (by omega) | apply rp_s | apply rp_n (by omega) | (apply rdL_s; done) | apply rdL_n (by omega) | apply rpJ_s | apply rpJ_n (by omega) | rfl)) ?_
  refine g_iconst (v := nI 1) dX12_count_196 (by decide) ?_
  refine n_iadd dX12_count_197 (by first | (with_reducible exact nI_add _ _) | rfl) ?_
  refine n_putI dX12_count_198 fdX12_357 rfl (fun h => absurd h (by decide)) (by first | rfl | exact pv_shx) (by omega) (by omega) (by decide) rfl (by repeat (first | exact pvu_s | exact pvuJ_s | apply pvu_in (by omega) | apply pvuJ_in (by omega) | exact pvu_pvs | exact pvuJ_pvs)) ?_
  refine g_goto 232 dX12_count_201 (by decide) ?_
  refine g_iinc dX12_count_232 rfl (by first | (with_reducible exact nI_1 _) | exact nI_1 _ | exact pk_m1 _ | rfl) (by decide) rfl ?_
  refine g_goto 62 dX12_count_235 (by decide) ?_
  refine g_drop _ (by repeat (first | exact trivial | refine ⟨Or.inr ⟨_, rfl⟩, ?_⟩ | refine ⟨Or.inl rfl, ?_⟩)) (kk _ _ ⟨fun x hx => ?_, fun j hj => ?_, v3, fun k hk => ?_, ?_, ?_, ?_, ?_⟩)
  · simp at hx; simp [pvs, hx]; exact v1 x (by simp [hx])
  · simp at hj; simp [pvs, upd, hj]; exact v2 j (by simp [hj])
  · simp [pvs]; exact v4 k hk
  · simp [pvs]; exact v5
  · rw [ey]; simp [pvs, upd]
  · rw [en]; simp [pvs, upd]; exact v7
  · rw [en]; simp [pvs]; exact v8
theorem k_here {w h m p : Nat} {a : Nat → Int32} {cl : Nat → List pC} {I I1 : pvI} {J J1 : pvJ} {P : pvP} {Z : pvZT} (hP : pvOkP P) (hb : mBy w h cl a I) (hper : mPer a) (hm : m ≤ 99) (hp : p < cnt a 6) (hv : vInv w h a cl m I J p I1 J1) (hh : sp_here a p)
    (kk : ∀ I2 J2, vInv w h a cl m I J (p + 1) I2 J2 → HV P Z m (p + 1) (cfI (cfN a cl 3 m)) I2 J2) : HV P Z m p (cfI (cfN a cl 3 m)) I1 J1 := by
  have hwh : w * h ≤ 64 := Nat.mul_le_mul hb.1.2.2.1.2 hb.1.2.2.2.2
  have hmm := hm
  obtain ⟨f5, ⟨np, f61, f62, f63⟩, f8, fk⟩ := hou_facts hb
  obtain ⟨k0, k1, k2, k3, l0, l1, l2, l3⟩ := per_facts hper f5 hp
  have hv' := hv
  obtain ⟨v1, v2, v3, v4, v5, v6, v7, v8⟩ := hv'
  have e203 : I1 203 = a := by rw [v1 203 (by decide)]; exact hb.2.1
  have r : ∀ {i v}, a i = v → I1 203 i = v := fun h => by rw [e203]; exact h
  generalize hhm : cnt a (1200 + 5 * p) = hm at *
  obtain ⟨x1, x2, x3, x4⟩ := fk hm l0
  have g222 := v4 hm l0
  have nmq := t_name (I := I1) (J := J1) (k := hm) (g := nI (gasN w h a hm m true)) hP (np := np) (r f62) f61 (by omega)
  rw [e203, x1, x2] at nmq
  generalize hN4 : upd (upd (upd (upd (I1 219) 0 (nI (gasN w h a hm m true))) 1 (nI (cnt a (1080 + 5 * hm + 1)))) 2 (nI (cnt a (1080 + 5 * hm + 2)))) 3 (nI (sp_ct (poP a (nI hm)) np)) = N4 at nmq
  generalize hN7 : upd (upd (upd N4 4 (nI (cnt a (1200 + 5 * p + 3)))) 5 (nI (cnt a (1200 + 5 * p + 2)))) 6 (nI (cnt a (1200 + 5 * p + 1))) = N7
  generalize hI2 : pvs (pvs I1 221 (upd (I1 221) 0 (nI 0))) 219 N7 = I2
  have m2 : mfix I1 I2 [219, 221] := fun x hx => by simp at hx; rw [← hI2, pvs_ne (by omega), pvs_ne (by omega)]
  have h72 : I2 219 7 = nI m := by rw [← hI2, pvs_eq, ← hN7, ← hN4]; simp [upd]; exact v5
  have w2 := hv.mv m2 h72 (fun _ _ => rfl) (J2 := J1)
  have t2 : I2 221 0 = nI 0 := by rw [← hI2, pvs_ne (by decide), pvs_eq]; simp [upd]
  cases hq : cfN a cl 3 m with
  | none =>
    have hy : yesB w h a cl m p = false := by unfold yesB; rw [hq]
    rw [hq] at kk
    have kno := k_no (c := cfI none) (Z := Z) hP hb hper hp w2 hh hy kk
    refine g_iload_n dX12_count_62 rfl ?_
    refine g_aload_n dX12_count_63 rfl ?_
    refine g_getP dX12_count_64 fdX12_7 rfl (by first | rfl | exact pv_shx) (by omega) (by omega) (by decide) rfl (hP _ _ _ rfl) ?_
    refine g_bipush (v := nI 6) dX12_count_67 (by decide) ?_
    refine n_iald dX12_count_69 (by first | rfl | exact pv_shx) (by omega) (by omega) (by decide) (rfl) (by omega) (by repeat (first | exact r f62 | exact r k0 | exact r k1 | exact r k2 | exact r k3 | exact g222 | (apply rd_s; done) | apply rd_n (by omega) | apply rp_s | apply rp_n (by omega) | (apply rdL_s; done) | apply rdL_n (by omega) | apply rpJ_s | apply rpJ_n (by omega) | rfl)) ?_
    refine n_icmp_ge 238 dX12_count_70 (by decide) (by first | ((with_reducible apply cN_le) <;> omega) | ((with_reducible apply cI_len) <;> omega) | ((with_reducible apply cI_nle) <;> omega) | (with_reducible exact cI_le)) (fun c70 => by exfalso; first | omega | exact absurd trivial c70 | exact c70 | (simp at c70)) (fun c70 => ?_)
    refine g_sipush (v := nI 1200) dX12_count_73 (by decide) ?_
    refine g_iconst (v := nI 5) dX12_count_76 (by decide) ?_
    refine g_iload_n dX12_count_77 rfl ?_
    refine n_imul dX12_count_78 (by first | (with_reducible exact pk_mul _ _) | rfl) ?_
    refine n_iadd dX12_count_79 (by first | (with_reducible exact nI_add _ _) | rfl) ?_
    refine g_istore dX12_count_80 (by decide) rfl ?_
    refine g_aload_n dX12_count_82 rfl ?_
    refine g_getP dX12_count_83 fdX12_7 rfl (by first | rfl | exact pv_shx) (by omega) (by omega) (by decide) rfl (hP _ _ _ rfl) ?_
    refine g_iload dX12_count_86 rfl ?_
    refine g_iconst (v := nI 4) dX12_count_88 (by decide) ?_
    refine n_iadd dX12_count_89 (by first | (with_reducible exact nI_add _ _) | rfl) ?_
    refine n_iald dX12_count_90 (by first | rfl | exact pv_shx) (by omega) (by omega) (by decide) (rfl) (by omega) (by rw [e203]) ?_
    refine n_if_lt 97 dX12_count_91 (by decide) (cI_lt0) (fun c91 => ?_) (fun c91 => by exfalso; exact c91 hh)
    refine g_aload_n dX12_count_97 rfl ?_
    refine g_aload_n dX12_count_98 rfl ?_
    refine g_getP dX12_count_99 fdX12_7 rfl (by first | rfl | exact pv_shx) (by omega) (by omega) (by decide) rfl (hP _ _ _ rfl) ?_
    refine g_iload dX12_count_102 rfl ?_
    refine n_iald dX12_count_104 (by first | rfl | exact pv_shx) (by omega) (by omega) (by decide) (rfl) (by omega) (by repeat (first | exact r f62 | exact r k0 | exact r k1 | exact r k2 | exact r k3 | exact g222 | (apply rd_s; done) | apply rd_n (by omega) | apply rp_s | apply rp_n (by omega) | (apply rdL_s; done) | apply rdL_n (by omega) | apply rpJ_s | apply rpJ_n (by omega) | rfl)) ?_
    refine g_aload_n dX12_count_105 rfl ?_
    refine g_getP dX12_count_106 fdX12_77 rfl (by first | rfl | exact pv_shx) (by omega) (by omega) (by decide) rfl (hP _ _ _ rfl) ?_
    refine g_aload_n dX12_count_109 rfl ?_
    refine g_getP dX12_count_110 fdX12_7 rfl (by first | rfl | exact pv_shx) (by omega) (by omega) (by decide) rfl (hP _ _ _ rfl) ?_
    refine g_iload dX12_count_113 rfl ?_
    refine n_iald dX12_count_115 (by first | rfl | exact pv_shx) (by omega) (by omega) (by decide) (rfl) (by omega) (by repeat (first | exact r f62 | exact r k0 | exact r k1 | exact r k2 | exact r k3 | exact g222 | (apply rd_s; done) | apply rd_n (by omega) | apply rp_s | apply rp_n (by omega) | (apply rdL_s; done) | apply rdL_n (by omega) | apply rpJ_s | apply rpJ_n (by omega) | rfl)) ?_
    refine n_iald dX12_count_116 (by first | rfl | exact pv_shx) (by omega) (by omega) (by decide) (rfl) (by omega) (by repeat (first | exact r f62 | exact r k0 | exact r k1 | exact r k2 | exact r k3 | exact g222 | (apply rd_s; done) | apply rd_n (by omega) | apply rp_s | apply rp_n (by omega) | (apply rdL_s; done) | apply rdL_n (by omega) | apply rpJ_s | apply rpJ_n (by omega) | rfl)) ?_
    refine g_callV (nmq) okX12_name lkX12_339 rfl (by first | rfl | exact pv_shx) rfl (by omega) (by omega) dX12_count_117 rfl (Nat.le_of_ble_eq_true rfl) (⟨by decide, by decide, by decide, by decide⟩) ?_
    rintro v nx' I' J' P' ⟨rfl, rfl, rfl, rfl, rfl⟩
    refine g_aload_n dX12_count_120 rfl ?_
    refine g_getP dX12_count_121 fdX12_67 rfl (by first | rfl | exact pv_shx) (by omega) (by omega) (by decide) rfl (hP _ _ _ rfl) ?_
    refine g_iconst (v := nI 4) dX12_count_124 (by decide) ?_
    refine g_aload_n dX12_count_125 rfl ?_
    refine g_getP dX12_count_126 fdX12_7 rfl (by first | rfl | exact pv_shx) (by omega) (by omega) (by decide) rfl (hP _ _ _ rfl) ?_
    refine g_iload dX12_count_129 rfl ?_
    refine g_iconst (v := nI 3) dX12_count_131 (by decide) ?_
    refine n_iadd dX12_count_132 (by first | (with_reducible exact nI_add _ _) | rfl) ?_
    refine n_iald dX12_count_133 (by first | rfl | exact pv_shx) (by omega) (by omega) (by decide) (rfl) (by omega) (by repeat (first | exact r f62 | exact r k0 | exact r k1 | exact r k2 | exact r k3 | exact g222 | (apply rd_s; done) | apply rd_n (by omega) | apply rp_s | apply rp_n (by omega) | (apply rdL_s; done) | apply rdL_n (by omega) | apply rpJ_s | apply rpJ_n (by omega) | rfl)) ?_
    refine n_iast dX12_count_134 (by first | rfl | exact pv_shx) (by omega) (by omega) (by omega) (by decide) (rfl) (by omega) (by repeat (first | exact pvu_s | exact pvuJ_s | apply pvu_in (by omega) | apply pvuJ_in (by omega) | exact pvu_pvs | exact pvuJ_pvs)) ?_
    refine g_aload_n dX12_count_135 rfl ?_
    refine g_getP dX12_count_136 fdX12_67 rfl (by first | rfl | exact pv_shx) (by omega) (by omega) (by decide) rfl (hP _ _ _ rfl) ?_
    refine g_iconst (v := nI 5) dX12_count_139 (by decide) ?_
    refine g_aload_n dX12_count_140 rfl ?_
    refine g_getP dX12_count_141 fdX12_7 rfl (by first | rfl | exact pv_shx) (by omega) (by omega) (by decide) rfl (hP _ _ _ rfl) ?_
    refine g_iload dX12_count_144 rfl ?_
    refine g_iconst (v := nI 2) dX12_count_146 (by decide) ?_
    refine n_iadd dX12_count_147 (by first | (with_reducible exact nI_add _ _) | rfl) ?_
    refine n_iald dX12_count_148 (by first | rfl | exact pv_shx) (by omega) (by omega) (by decide) (rfl) (by omega) (by repeat (first | exact r f62 | exact r k0 | exact r k1 | exact r k2 | exact r k3 | exact g222 | (apply rd_s; done) | apply rd_n (by omega) | apply rp_s | apply rp_n (by omega) | (apply rdL_s; done) | apply rdL_n (by omega) | apply rpJ_s | apply rpJ_n (by omega) | rfl)) ?_
    refine n_iast dX12_count_149 (by first | rfl | exact pv_shx) (by omega) (by omega) (by omega) (by decide) (rfl) (by omega) (by repeat (first | exact pvu_s | exact pvuJ_s | apply pvu_in (by omega) | apply pvuJ_in (by omega) | exact pvu_pvs | exact pvuJ_pvs)) ?_
    refine g_aload_n dX12_count_150 rfl ?_
    refine g_getP dX12_count_151 fdX12_67 rfl (by first | rfl | exact pv_shx) (by omega) (by omega) (by decide) rfl (hP _ _ _ rfl) ?_
    refine g_bipush (v := nI 6) dX12_count_154 (by decide) ?_
    refine g_aload_n dX12_count_156 rfl ?_
    refine g_getP dX12_count_157 fdX12_7 rfl (by first | rfl | exact pv_shx) (by omega) (by omega) (by decide) rfl (hP _ _ _ rfl) ?_
    refine g_iload dX12_count_160 rfl ?_
    refine g_iconst (v := nI 1) dX12_count_162 (by decide) ?_
    refine n_iadd dX12_count_163 (by first | (with_reducible exact nI_add _ _) | rfl) ?_
    refine n_iald dX12_count_164 (by first | rfl | exact pv_shx) (by omega) (by omega) (by decide) (rfl) (by omega) (by repeat (first | exact r f62 | exact r k0 | exact r k1 | exact r k2 | exact r k3 | exact g222 | (apply rd_s; done) | apply rd_n (by omega) | apply rp_s | apply rp_n (by omega) | (apply rdL_s; done) | apply rdL_n (by omega) | apply rpJ_s | apply rpJ_n (by omega) | rfl)) ?_
    refine n_iast dX12_count_165 (by first | rfl | exact pv_shx) (by omega) (by omega) (by omega) (by decide) (rfl) (by omega) (by repeat (first | exact pvu_s | exact pvuJ_s | apply pvu_in (by omega) | apply pvuJ_in (by omega) | exact pvu_pvs | exact pvuJ_pvs)) ?_
    refine g_aload_n dX12_count_166 rfl ?_
    refine g_getP dX12_count_167 fdX12_74 rfl (by first | rfl | exact pv_shx) (by omega) (by omega) (by decide) rfl (hP _ _ _ rfl) ?_
    refine g_iconst (v := nI 0) dX12_count_170 (by decide) ?_
    refine g_iconst (v := nI 0) dX12_count_171 (by decide) ?_
    refine n_zast (by first | exact Or.inl rfl | exact Or.inr rfl | exact cB01 _) dX12_count_172 (by first | rfl | exact pv_shx) (by omega) (by omega) (by omega) (by decide) (rfl) (by omega) (by repeat (first | exact pvu_s | exact pvuJ_s | apply pvu_in (by omega) | apply pvuJ_in (by omega) | exact pvu_pvs | exact pvuJ_pvs)) ?_
    rw [hN7, hI2]
    refine g_iload_n dX12_count_173 rfl ?_
    refine n_if_lt 182 dX12_count_174 (by decide) (cI_lt0.trans (by rw [show (cfI none).toInt = -1 from rfl])) (fun c174 => ?_) (fun c174 => by exfalso; first | omega | exact absurd trivial c174 | exact c174 | (simp at c174))
    refine g_aload_n dX12_count_182 rfl ?_
    refine g_getP dX12_count_183 fdX12_74 rfl (by first | rfl | exact pv_shx) (by omega) (by omega) (by decide) rfl (hP _ _ _ rfl) ?_
    refine g_iconst (v := nI 0) dX12_count_186 (by decide) ?_
    refine n_zald dX12_count_187 (by first | rfl | exact pv_shx) (by omega) (by omega) (by decide) (rfl) (by omega) (t2) ?_
    refine n_if_eq 204 dX12_count_188 (by decide) (by first | (with_reducible exact cB _) | ((with_reducible apply cN_eq0) <;> omega) | exact Iff.rfl) (fun c188 => ?_) (fun c188 => by exfalso; first | omega | exact absurd trivial c188 | exact c188 | (simp at c188))
    exact g_drop _ (by repeat (first | exact trivial | refine ⟨Or.inr ⟨_, rfl⟩, ?_⟩ | refine ⟨Or.inl rfl, ?_⟩)) kno
  | some q =>
    obtain ⟨b1, b2, b3, b4, b5, b6, b7⟩ := id hb
    obtain ⟨p1, p2, p3⟩ := cfN_some b6 f8 hq
    obtain ⟨y1, y2⟩ := b7 q.1 p1
    have hq20 := y1.2.1
    obtain ⟨-, -, -, o4⟩ := y2 _ (getD_mem p2)
    rw [p3] at o4
    have o4 := o4 (by decide)
    have ey : yesB w h a cl m p = evT (nmH a hm (gasN w h a hm m true) m (cnt a (1200 + 5 * p + 3)) (cnt a (1200 + 5 * p + 2)) (cnt a (1200 + 5 * p + 1))) (cdC cl q) := by unfold yesB; rw [hq, hhm]
    have gle := gasN_le (w := w) (h := h) (a := a) (m := m) (high := true) hwh x3
    have hnm : nmA (I2 219) 3 (nmH a hm (gasN w h a hm m true) m (cnt a (1200 + 5 * p + 3)) (cnt a (1200 + 5 * p + 2)) (cnt a (1200 + 5 * p + 1))) := nmA_of (fun i hi hbr => by
      have hs := sp_ct_le (p := poP a (nI hm)) np
      have hs2 : hsP a hm = sp_ct (poP a (nI hm)) np := by unfold hsP; rw [f63]
      rw [← hI2, pvs_eq, ← hN7, ← hN4]
      rcases (show i = 0 ∨ i = 1 ∨ i = 2 ∨ i = 3 ∨ i = 4 ∨ i = 5 ∨ i = 6 ∨ i = 7 by omega) with rfl | rfl | rfl | rfl | rfl | rfl | rfl | rfl
      · exact ⟨rfl, by show gasN w h a hm m true ≤ _; omega⟩
      · exact ⟨rfl, by show cnt a _ ≤ _; omega⟩
      · exact ⟨rfl, by show cnt a _ ≤ _; omega⟩
      · exact ⟨v5, by show m ≤ _; omega⟩
      · refine ⟨?_, by show hsP a hm ≤ _; omega⟩
        show nI (sp_ct (poP a (nI hm)) np) = nI (hsP a hm)
        rw [hs2]
      · exact ⟨rfl, by show cnt a _ ≤ _; omega⟩
      · exact ⟨rfl, by show cnt a _ ≤ _; omega⟩
      · exact ⟨rfl, by show cnt a _ ≤ _; omega⟩)
    have hx1 : clA (I2 205) (800 * q.1) (800 * q.1 + 1 + 6 * q.2) (cdC cl q) := by rw [m2 205 (by decide), v1 205 (by decide)]; exact clA_of y1 p2
    have wk := t_work (J := J1) hP (by omega : q.1 ≤ 9) (by omega) hx1 hnm o4.1 (by rw [show cdC cl q = ((cl q.1).getD q.2 (0, 0, [])).2.2 from rfl, o4.2 0]; simp)
    rw [evT_eq (e := cdC cl q) o4, ← ey] at wk
    rw [hq] at kk
    cases hy : yesB w h a cl m p with
    | false =>
      rw [hy] at wk
      have kno : ∀ (I3 : pvI) (J3 : pvJ), mfix I2 I3 [221] → (∀ x, x ≠ 220 → J3 x = J1 x) → _ := fun I3 J3 h1 h2 => k_no (I1 := I3) (J1 := J3) (c := cfI (some q)) (Z := Z) hP hb hper hp (w2.mv (fun x hx => h1 x (by simp at hx ⊢; omega)) (by rw [h1 219 (by decide)]; exact h72) h2) hh hy kk
      refine g_iload_n dX12_count_62 rfl ?_
      refine g_aload_n dX12_count_63 rfl ?_
      refine g_getP dX12_count_64 fdX12_7 rfl (by first | rfl | exact pv_shx) (by omega) (by omega) (by decide) rfl (hP _ _ _ rfl) ?_
      refine g_bipush (v := nI 6) dX12_count_67 (by decide) ?_
      refine n_iald dX12_count_69 (by first | rfl | exact pv_shx) (by omega) (by omega) (by decide) (rfl) (by omega) (by repeat (first | exact r f62 | exact r k0 | exact r k1 | exact r k2 | exact r k3 | exact g222 | (apply rd_s; done) | apply rd_n (by omega) | apply rp_s | apply rp_n (by omega) | (apply rdL_s; done) | apply rdL_n (by omega) | apply rpJ_s | apply rpJ_n (by omega) | rfl)) ?_
      refine n_icmp_ge 238 dX12_count_70 (by decide) (by first | ((with_reducible apply cN_le) <;> omega) | ((with_reducible apply cI_len) <;> omega) | ((with_reducible apply cI_nle) <;> omega) | (with_reducible exact cI_le)) (fun c70 => by exfalso; first | omega | exact absurd trivial c70 | exact c70 | (simp at c70)) (fun c70 => ?_)
      refine g_sipush (v := nI 1200) dX12_count_73 (by decide) ?_
      refine g_iconst (v := nI 5) dX12_count_76 (by decide) ?_
      refine g_iload_n dX12_count_77 rfl ?_
      refine n_imul dX12_count_78 (by first | (with_reducible exact pk_mul _ _) | rfl) ?_
      refine n_iadd dX12_count_79 (by first | (with_reducible exact nI_add _ _) | rfl) ?_
      refine g_istore dX12_count_80 (by decide) rfl ?_
      refine g_aload_n dX12_count_82 rfl ?_
      refine g_getP dX12_count_83 fdX12_7 rfl (by first | rfl | exact pv_shx) (by omega) (by omega) (by decide) rfl (hP _ _ _ rfl) ?_
      refine g_iload dX12_count_86 rfl ?_
      refine g_iconst (v := nI 4) dX12_count_88 (by decide) ?_
      refine n_iadd dX12_count_89 (by first | (with_reducible exact nI_add _ _) | rfl) ?_
      refine n_iald dX12_count_90 (by first | rfl | exact pv_shx) (by omega) (by omega) (by decide) (rfl) (by omega) (by rw [e203]) ?_
      refine n_if_lt 97 dX12_count_91 (by decide) (cI_lt0) (fun c91 => ?_) (fun c91 => by exfalso; exact c91 hh)
      refine g_aload_n dX12_count_97 rfl ?_
      refine g_aload_n dX12_count_98 rfl ?_
      refine g_getP dX12_count_99 fdX12_7 rfl (by first | rfl | exact pv_shx) (by omega) (by omega) (by decide) rfl (hP _ _ _ rfl) ?_
      refine g_iload dX12_count_102 rfl ?_
      refine n_iald dX12_count_104 (by first | rfl | exact pv_shx) (by omega) (by omega) (by decide) (rfl) (by omega) (by repeat (first | exact r f62 | exact r k0 | exact r k1 | exact r k2 | exact r k3 | exact g222 | (apply rd_s; done) | apply rd_n (by omega) | apply rp_s | apply rp_n (by omega) | (apply rdL_s; done) | apply rdL_n (by omega) | apply rpJ_s | apply rpJ_n (by omega) | rfl)) ?_
      refine g_aload_n dX12_count_105 rfl ?_
      refine g_getP dX12_count_106 fdX12_77 rfl (by first | rfl | exact pv_shx) (by omega) (by omega) (by decide) rfl (hP _ _ _ rfl) ?_
      refine g_aload_n dX12_count_109 rfl ?_
      refine g_getP dX12_count_110 fdX12_7 rfl (by first | rfl | exact pv_shx) (by omega) (by omega) (by decide) rfl (hP _ _ _ rfl) ?_
      refine g_iload dX12_count_113 rfl ?_
      refine n_iald dX12_count_115 (by first | rfl | exact pv_shx) (by omega) (by omega) (by decide) (rfl) (by omega) (by repeat (first | exact r f62 | exact r k0 | exact r k1 | exact r k2 | exact r k3 | exact g222 | (apply rd_s; done) | apply rd_n (by omega) | apply rp_s | apply rp_n (by omega) | (apply rdL_s; done) | apply rdL_n (by omega) | apply rpJ_s | apply rpJ_n (by omega) | rfl)) ?_
      refine n_iald dX12_count_116 (by first | rfl | exact pv_shx) (by omega) (by omega) (by decide) (rfl) (by omega) (by repeat (first | exact r f62 | exact r k0 | exact r k1 | exact r k2 | exact r k3 | exact g222 | (apply rd_s; done) | apply rd_n (by omega) | apply rp_s | apply rp_n (by omega) | (apply rdL_s; done) | apply rdL_n (by omega) | apply rpJ_s | apply rpJ_n (by omega) | rfl)) ?_
      refine g_callV (nmq) okX12_name lkX12_339 rfl (by first | rfl | exact pv_shx) rfl (by omega) (by omega) dX12_count_117 rfl (Nat.le_of_ble_eq_true rfl) (⟨by decide, by decide, by decide, by decide⟩) ?_
      rintro v nx' I' J' P' ⟨rfl, rfl, rfl, rfl, rfl⟩
      refine g_aload_n dX12_count_120 rfl ?_
      refine g_getP dX12_count_121 fdX12_67 rfl (by first | rfl | exact pv_shx) (by omega) (by omega) (by decide) rfl (hP _ _ _ rfl) ?_
      refine g_iconst (v := nI 4) dX12_count_124 (by decide) ?_
      refine g_aload_n dX12_count_125 rfl ?_
      refine g_getP dX12_count_126 fdX12_7 rfl (by first | rfl | exact pv_shx) (by omega) (by omega) (by decide) rfl (hP _ _ _ rfl) ?_
      refine g_iload dX12_count_129 rfl ?_
      refine g_iconst (v := nI 3) dX12_count_131 (by decide) ?_
      refine n_iadd dX12_count_132 (by first | (with_reducible exact nI_add _ _) | rfl) ?_
      refine n_iald dX12_count_133 (by first | rfl | exact pv_shx) (by omega) (by omega) (by decide) (rfl) (by omega) (by repeat (first | exact r f62 | exact r k0 | exact r k1 | exact r k2 | exact r k3 | exact g222 | (apply rd_s; done) | apply rd_n (by omega) | apply rp_s | apply rp_n (by omega) | (apply rdL_s; done) | apply rdL_n (by omega) | apply rpJ_s | apply rpJ_n (by omega) | rfl)) ?_
      refine n_iast dX12_count_134 (by first | rfl | exact pv_shx) (by omega) (by omega) (by omega) (by decide) (rfl) (by omega) (by repeat (first | exact pvu_s | exact pvuJ_s | apply pvu_in (by omega) | apply pvuJ_in (by omega) | exact pvu_pvs | exact pvuJ_pvs)) ?_
      refine g_aload_n dX12_count_135 rfl ?_
      refine g_getP dX12_count_136 fdX12_67 rfl (by first | rfl | exact pv_shx) (by omega) (by omega) (by decide) rfl (hP _ _ _ rfl) ?_
      refine g_iconst (v := nI 5) dX12_count_139 (by decide) ?_
      refine g_aload_n dX12_count_140 rfl ?_
      refine g_getP dX12_count_141 fdX12_7 rfl (by first | rfl | exact pv_shx) (by omega) (by omega) (by decide) rfl (hP _ _ _ rfl) ?_
      refine g_iload dX12_count_144 rfl ?_
      refine g_iconst (v := nI 2) dX12_count_146 (by decide) ?_
      refine n_iadd dX12_count_147 (by first | (with_reducible exact nI_add _ _) | rfl) ?_
      refine n_iald dX12_count_148 (by first | rfl | exact pv_shx) (by omega) (by omega) (by decide) (rfl) (by omega) (by repeat (first | exact r f62 | exact r k0 | exact r k1 | exact r k2 | exact r k3 | exact g222 | (apply rd_s; done) | apply rd_n (by omega) | apply rp_s | apply rp_n (by omega) | (apply rdL_s; done) | apply rdL_n (by omega) | apply rpJ_s | apply rpJ_n (by omega) | rfl)) ?_
      refine n_iast dX12_count_149 (by first | rfl | exact pv_shx) (by omega) (by omega) (by omega) (by decide) (rfl) (by omega) (by repeat (first | exact pvu_s | exact pvuJ_s | apply pvu_in (by omega) | apply pvuJ_in (by omega) | exact pvu_pvs | exact pvuJ_pvs)) ?_
      refine g_aload_n dX12_count_150 rfl ?_
      refine g_getP dX12_count_151 fdX12_67 rfl (by first | rfl | exact pv_shx) (by omega) (by omega) (by decide) rfl (hP _ _ _ rfl) ?_
      refine g_bipush (v := nI 6) dX12_count_154 (by decide) ?_
      refine g_aload_n dX12_count_156 rfl ?_
      refine g_getP dX12_count_157 fdX12_7 rfl (by first | rfl | exact pv_shx) (by omega) (by omega) (by decide) rfl (hP _ _ _ rfl) ?_
      refine g_iload dX12_count_160 rfl ?_
      refine g_iconst (v := nI 1) dX12_count_162 (by decide) ?_
      refine n_iadd dX12_count_163 (by first | (with_reducible exact nI_add _ _) | rfl) ?_
      refine n_iald dX12_count_164 (by first | rfl | exact pv_shx) (by omega) (by omega) (by decide) (rfl) (by omega) (by repeat (first | exact r f62 | exact r k0 | exact r k1 | exact r k2 | exact r k3 | exact g222 | (apply rd_s; done) | apply rd_n (by omega) | apply rp_s | apply rp_n (by omega) | (apply rdL_s; done) | apply rdL_n (by omega) | apply rpJ_s | apply rpJ_n (by omega) | rfl)) ?_
      refine n_iast dX12_count_165 (by first | rfl | exact pv_shx) (by omega) (by omega) (by omega) (by decide) (rfl) (by omega) (by repeat (first | exact pvu_s | exact pvuJ_s | apply pvu_in (by omega) | apply pvuJ_in (by omega) | exact pvu_pvs | exact pvuJ_pvs)) ?_
      refine g_aload_n dX12_count_166 rfl ?_
      refine g_getP dX12_count_167 fdX12_74 rfl (by first | rfl | exact pv_shx) (by omega) (by omega) (by decide) rfl (hP _ _ _ rfl) ?_
      refine g_iconst (v := nI 0) dX12_count_170 (by decide) ?_
      refine g_iconst (v := nI 0) dX12_count_171 (by decide) ?_
      refine n_zast (by first | exact Or.inl rfl | exact Or.inr rfl | exact cB01 _) dX12_count_172 (by first | rfl | exact pv_shx) (by omega) (by omega) (by omega) (by decide) (rfl) (by omega) (by repeat (first | exact pvu_s | exact pvuJ_s | apply pvu_in (by omega) | apply pvuJ_in (by omega) | exact pvu_pvs | exact pvuJ_pvs)) ?_
      rw [hN7, hI2]
      show pvG _ _ _ _ [.ref 202, .int (nI m), .int (nI (800 * q.1 + 1 + 6 * q.2)), .int (nI p), .int (nI (1200 + 5 * p))] _ _ _ _ _ _ _
      refine g_iload_n dX12_count_173 rfl ?_
      refine n_if_lt 182 dX12_count_174 (by decide) (by first | ((with_reducible apply cN_lt0) <;> omega) | (with_reducible exact cI_lt0)) (fun c174 => by exfalso; first | omega | exact absurd trivial c174 | exact c174 | (simp at c174)) (fun c174 => ?_)
      refine g_aload_n dX12_count_177 rfl ?_
      refine g_iload_n dX12_count_178 rfl ?_
      refine g_callV (wk) okX12_work lkX12_342 rfl (by first | rfl | exact pv_shx) rfl (by omega) (by omega) dX12_count_179 rfl (Nat.le_of_ble_eq_true rfl) (⟨by decide, by decide, by decide, by decide⟩) ?_
      rintro v nx' I3 J3 P' ⟨rfl, rfl, rfl, q1, q2, q3, q4⟩
      refine g_aload_n dX12_count_182 rfl ?_
      refine g_getP dX12_count_183 fdX12_74 rfl (by first | rfl | exact pv_shx) (by omega) (by omega) (by decide) rfl (hP _ _ _ rfl) ?_
      refine g_iconst (v := nI 0) dX12_count_186 (by decide) ?_
      refine n_zald dX12_count_187 (by first | rfl | exact pv_shx) (by omega) (by omega) (by decide) (rfl) (by omega) (tsA_hd q4) ?_
      refine n_if_eq 204 dX12_count_188 (by decide) (by first | (with_reducible exact cB _) | ((with_reducible apply cN_eq0) <;> omega) | exact Iff.rfl) (fun c188 => ?_) (fun c188 => by exfalso; first | omega | exact absurd trivial c188 | exact c188 | (simp at c188))
      exact g_drop _ (by repeat (first | exact trivial | refine ⟨Or.inr ⟨_, rfl⟩, ?_⟩ | refine ⟨Or.inl rfl, ?_⟩)) (kno I3 J3 q1 q2)
    | true =>
      rw [hy] at wk
      have kye : ∀ (I3 : pvI) (J3 : pvJ), mfix I2 I3 [221] → (∀ x, x ≠ 220 → J3 x = J1 x) → _ := fun I3 J3 h1 h2 => k_yes (I1 := I3) (J1 := J3) (c := cfI (some q)) (Z := Z) hP hb hp (w2.mv (fun x hx => h1 x (by simp at hx ⊢; omega)) (by rw [h1 219 (by decide)]; exact h72) h2) hh hy kk
      refine g_iload_n dX12_count_62 rfl ?_
      refine g_aload_n dX12_count_63 rfl ?_
      refine g_getP dX12_count_64 fdX12_7 rfl (by first | rfl | exact pv_shx) (by omega) (by omega) (by decide) rfl (hP _ _ _ rfl) ?_
      refine g_bipush (v := nI 6) dX12_count_67 (by decide) ?_
      refine n_iald dX12_count_69 (by first | rfl | exact pv_shx) (by omega) (by omega) (by decide) (rfl) (by omega) (by repeat (first | exact r f62 | exact r k0 | exact r k1 | exact r k2 | exact r k3 | exact g222 | (apply rd_s; done) | apply rd_n (by omega) | apply rp_s | apply rp_n (by omega) | (apply rdL_s; done) | apply rdL_n (by omega) | apply rpJ_s | apply rpJ_n (by omega) | rfl)) ?_
      refine n_icmp_ge 238 dX12_count_70 (by decide) (by first | ((with_reducible apply cN_le) <;> omega) | ((with_reducible apply cI_len) <;> omega) | ((with_reducible apply cI_nle) <;> omega) | (with_reducible exact cI_le)) (fun c70 => by exfalso; first | omega | exact absurd trivial c70 | exact c70 | (simp at c70)) (fun c70 => ?_)
      refine g_sipush (v := nI 1200) dX12_count_73 (by decide) ?_
      refine g_iconst (v := nI 5) dX12_count_76 (by decide) ?_
      refine g_iload_n dX12_count_77 rfl ?_
      refine n_imul dX12_count_78 (by first | (with_reducible exact pk_mul _ _) | rfl) ?_
      refine n_iadd dX12_count_79 (by first | (with_reducible exact nI_add _ _) | rfl) ?_
      refine g_istore dX12_count_80 (by decide) rfl ?_
      refine g_aload_n dX12_count_82 rfl ?_
      refine g_getP dX12_count_83 fdX12_7 rfl (by first | rfl | exact pv_shx) (by omega) (by omega) (by decide) rfl (hP _ _ _ rfl) ?_
      refine g_iload dX12_count_86 rfl ?_
      refine g_iconst (v := nI 4) dX12_count_88 (by decide) ?_
      refine n_iadd dX12_count_89 (by first | (with_reducible exact nI_add _ _) | rfl) ?_
      refine n_iald dX12_count_90 (by first | rfl | exact pv_shx) (by omega) (by omega) (by decide) (rfl) (by omega) (by rw [e203]) ?_
      refine n_if_lt 97 dX12_count_91 (by decide) (cI_lt0) (fun c91 => ?_) (fun c91 => by exfalso; exact c91 hh)
      refine g_aload_n dX12_count_97 rfl ?_
      refine g_aload_n dX12_count_98 rfl ?_
      refine g_getP dX12_count_99 fdX12_7 rfl (by first | rfl | exact pv_shx) (by omega) (by omega) (by decide) rfl (hP _ _ _ rfl) ?_
      refine g_iload dX12_count_102 rfl ?_
      refine n_iald dX12_count_104 (by first | rfl | exact pv_shx) (by omega) (by omega) (by decide) (rfl) (by omega) (by repeat (first | exact r f62 | exact r k0 | exact r k1 | exact r k2 | exact r k3 | exact g222 | (apply rd_s; done) | apply rd_n (by omega) | apply rp_s | apply rp_n (by omega) | (apply rdL_s; done) | apply rdL_n (by omega) | apply rpJ_s | apply rpJ_n (by omega) | rfl)) ?_
      refine g_aload_n dX12_count_105 rfl ?_
      refine g_getP dX12_count_106 fdX12_77 rfl (by first | rfl | exact pv_shx) (by omega) (by omega) (by decide) rfl (hP _ _ _ rfl) ?_
      refine g_aload_n dX12_count_109 rfl ?_
      refine g_getP dX12_count_110 fdX12_7 rfl (by first | rfl | exact pv_shx) (by omega) (by omega) (by decide) rfl (hP _ _ _ rfl) ?_
      refine g_iload dX12_count_113 rfl ?_
      refine n_iald dX12_count_115 (by first | rfl | exact pv_shx) (by omega) (by omega) (by decide) (rfl) (by omega) (by repeat (first | exact r f62 | exact r k0 | exact r k1 | exact r k2 | exact r k3 | exact g222 | (apply rd_s; done) | apply rd_n (by omega) | apply rp_s | apply rp_n (by omega) | (apply rdL_s; done) | apply rdL_n (by omega) | apply rpJ_s | apply rpJ_n (by omega) | rfl)) ?_
      refine n_iald dX12_count_116 (by first | rfl | exact pv_shx) (by omega) (by omega) (by decide) (rfl) (by omega) (by repeat (first | exact r f62 | exact r k0 | exact r k1 | exact r k2 | exact r k3 | exact g222 | (apply rd_s; done) | apply rd_n (by omega) | apply rp_s | apply rp_n (by omega) | (apply rdL_s; done) | apply rdL_n (by omega) | apply rpJ_s | apply rpJ_n (by omega) | rfl)) ?_
      refine g_callV (nmq) okX12_name lkX12_339 rfl (by first | rfl | exact pv_shx) rfl (by omega) (by omega) dX12_count_117 rfl (Nat.le_of_ble_eq_true rfl) (⟨by decide, by decide, by decide, by decide⟩) ?_
      rintro v nx' I' J' P' ⟨rfl, rfl, rfl, rfl, rfl⟩
      refine g_aload_n dX12_count_120 rfl ?_
      refine g_getP dX12_count_121 fdX12_67 rfl (by first | rfl | exact pv_shx) (by omega) (by omega) (by decide) rfl (hP _ _ _ rfl) ?_
      refine g_iconst (v := nI 4) dX12_count_124 (by decide) ?_
      refine g_aload_n dX12_count_125 rfl ?_
      refine g_getP dX12_count_126 fdX12_7 rfl (by first | rfl | exact pv_shx) (by omega) (by omega) (by decide) rfl (hP _ _ _ rfl) ?_
      refine g_iload dX12_count_129 rfl ?_
      refine g_iconst (v := nI 3) dX12_count_131 (by decide) ?_
      refine n_iadd dX12_count_132 (by first | (with_reducible exact nI_add _ _) | rfl) ?_
      refine n_iald dX12_count_133 (by first | rfl | exact pv_shx) (by omega) (by omega) (by decide) (rfl) (by omega) (by repeat (first | exact r f62 | exact r k0 | exact r k1 | exact r k2 | exact r k3 | exact g222 | (apply rd_s; done) | apply rd_n (by omega) | apply rp_s | apply rp_n (by omega) | (apply rdL_s; done) | apply rdL_n (by omega) | apply rpJ_s | apply rpJ_n (by omega) | rfl)) ?_
      refine n_iast dX12_count_134 (by first | rfl | exact pv_shx) (by omega) (by omega) (by omega) (by decide) (rfl) (by omega) (by repeat (first | exact pvu_s | exact pvuJ_s | apply pvu_in (by omega) | apply pvuJ_in (by omega) | exact pvu_pvs | exact pvuJ_pvs)) ?_
      refine g_aload_n dX12_count_135 rfl ?_
      refine g_getP dX12_count_136 fdX12_67 rfl (by first | rfl | exact pv_shx) (by omega) (by omega) (by decide) rfl (hP _ _ _ rfl) ?_
      refine g_iconst (v := nI 5) dX12_count_139 (by decide) ?_
      refine g_aload_n dX12_count_140 rfl ?_
      refine g_getP dX12_count_141 fdX12_7 rfl (by first | rfl | exact pv_shx) (by omega) (by omega) (by decide) rfl (hP _ _ _ rfl) ?_
      refine g_iload dX12_count_144 rfl ?_
      refine g_iconst (v := nI 2) dX12_count_146 (by decide) ?_
      refine n_iadd dX12_count_147 (by first | (with_reducible exact nI_add _ _) | rfl) ?_
      refine n_iald dX12_count_148 (by first | rfl | exact pv_shx) (by omega) (by omega) (by decide) (rfl) (by omega) (by repeat (first | exact r f62 | exact r k0 | exact r k1 | exact r k2 | exact r k3 | exact g222 | (apply rd_s; done) | apply rd_n (by omega) | apply rp_s | apply rp_n (by omega) | (apply rdL_s; done) | apply rdL_n (by omega) | apply rpJ_s | apply rpJ_n (by omega) | rfl)) ?_
      refine n_iast dX12_count_149 (by first | rfl | exact pv_shx) (by omega) (by omega) (by omega) (by decide) (rfl) (by omega) (by repeat (first | exact pvu_s | exact pvuJ_s | apply pvu_in (by omega) | apply pvuJ_in (by omega) | exact pvu_pvs | exact pvuJ_pvs)) ?_
      refine g_aload_n dX12_count_150 rfl ?_
      refine g_getP dX12_count_151 fdX12_67 rfl (by first | rfl | exact pv_shx) (by omega) (by omega) (by decide) rfl (hP _ _ _ rfl) ?_
      refine g_bipush (v := nI 6) dX12_count_154 (by decide) ?_
      refine g_aload_n dX12_count_156 rfl ?_
      refine g_getP dX12_count_157 fdX12_7 rfl (by first | rfl | exact pv_shx) (by omega) (by omega) (by decide) rfl (hP _ _ _ rfl) ?_
      refine g_iload dX12_count_160 rfl ?_
      refine g_iconst (v := nI 1) dX12_count_162 (by decide) ?_
      refine n_iadd dX12_count_163 (by first | (with_reducible exact nI_add _ _) | rfl) ?_
      refine n_iald dX12_count_164 (by first | rfl | exact pv_shx) (by omega) (by omega) (by decide) (rfl) (by omega) (by repeat (first | exact r f62 | exact r k0 | exact r k1 | exact r k2 | exact r k3 | exact g222 | (apply rd_s; done) | apply rd_n (by omega) | apply rp_s | apply rp_n (by omega) | (apply rdL_s; done) | apply rdL_n (by omega) | apply rpJ_s | apply rpJ_n (by omega) | rfl)) ?_
      refine n_iast dX12_count_165 (by first | rfl | exact pv_shx) (by omega) (by omega) (by omega) (by decide) (rfl) (by omega) (by repeat (first | exact pvu_s | exact pvuJ_s | apply pvu_in (by omega) | apply pvuJ_in (by omega) | exact pvu_pvs | exact pvuJ_pvs)) ?_
      refine g_aload_n dX12_count_166 rfl ?_
      refine g_getP dX12_count_167 fdX12_74 rfl (by first | rfl | exact pv_shx) (by omega) (by omega) (by decide) rfl (hP _ _ _ rfl) ?_
      refine g_iconst (v := nI 0) dX12_count_170 (by decide) ?_
      refine g_iconst (v := nI 0) dX12_count_171 (by decide) ?_
      refine n_zast (by first | exact Or.inl rfl | exact Or.inr rfl | exact cB01 _) dX12_count_172 (by first | rfl | exact pv_shx) (by omega) (by omega) (by omega) (by decide) (rfl) (by omega) (by repeat (first | exact pvu_s | exact pvuJ_s | apply pvu_in (by omega) | apply pvuJ_in (by omega) | exact pvu_pvs | exact pvuJ_pvs)) ?_
      rw [hN7, hI2]
      show pvG _ _ _ _ [.ref 202, .int (nI m), .int (nI (800 * q.1 + 1 + 6 * q.2)), .int (nI p), .int (nI (1200 + 5 * p))] _ _ _ _ _ _ _
      refine g_iload_n dX12_count_173 rfl ?_
      refine n_if_lt 182 dX12_count_174 (by decide) (by first | ((with_reducible apply cN_lt0) <;> omega) | (with_reducible exact cI_lt0)) (fun c174 => by exfalso; first | omega | exact absurd trivial c174 | exact c174 | (simp at c174)) (fun c174 => ?_)
      refine g_aload_n dX12_count_177 rfl ?_
      refine g_iload_n dX12_count_178 rfl ?_
      refine g_callV (wk) okX12_work lkX12_342 rfl (by first | rfl | exact pv_shx) rfl (by omega) (by omega) dX12_count_179 rfl (Nat.le_of_ble_eq_true rfl) (⟨by decide, by decide, by decide, by decide⟩) ?_
      rintro v nx' I3 J3 P' ⟨rfl, rfl, rfl, q1, q2, q3, q4⟩
      refine g_aload_n dX12_count_182 rfl ?_
      refine g_getP dX12_count_183 fdX12_74 rfl (by first | rfl | exact pv_shx) (by omega) (by omega) (by decide) rfl (hP _ _ _ rfl) ?_
      refine g_iconst (v := nI 0) dX12_count_186 (by decide) ?_
      refine n_zald dX12_count_187 (by first | rfl | exact pv_shx) (by omega) (by omega) (by decide) (rfl) (by omega) (tsA_hd q4) ?_
      refine n_if_eq 204 dX12_count_188 (by decide) (by first | (with_reducible exact cB _) | ((with_reducible apply cN_eq0) <;> omega) | exact Iff.rfl) (fun c188 => by exfalso; first | omega | exact absurd trivial c188 | exact c188 | (simp at c188)) (fun c188 => ?_)
      exact g_drop _ (by repeat (first | exact trivial | refine ⟨Or.inr ⟨_, rfl⟩, ?_⟩ | refine ⟨Or.inl rfl, ?_⟩)) (kye I3 J3 q1 q2)
theorem t_count {w h m : Nat} {cl : Nat → List pC} {a : Nat → Int32} {I : pvI} {J : pvJ} {P : pvP} (hP : pvOkP P) (hb : mBy w h cl a I) (hper : mPer a) (hm : m ≤ 99) : pvMet mX12_count 5 0 0 [.ref 202, .int (nI m)] 224 I J P (voQ w h a cl m I J P) := by
  obtain ⟨f5, ⟨np, f61, f62, f63⟩, f8, fk⟩ := hou_facts hb
  obtain ⟨b1, b2, b3, b4, b5, b6, b7⟩ := id hb
  have ra := t_runAll (J := J) hP b1 (by rw [b2]; exact b3)
  rw [b2] at ra
  have fin : ∀ I0 J0, mBy w h cl a I0 → mfix I I0 LR → J0 = J → ∀ q p I1 J1, p + q = np → vInv w h a cl m I0 J0 p I1 J1 → HV P (pvZ (voQ w h a cl m I J P) 0 0) m p (cfI (cfN a cl 3 m)) I1 J1 := by
    intro I0 J0 hb0 hf0 hj0 q
    subst hj0
    induction q with
    | zero =>
      intro p I1 J1 hpq hv
      obtain rfl : p = np := by omega
      obtain ⟨v1, v2, v3, v4, v5, v6, v7, v8⟩ := hv
      have f6 : I1 203 6 = nI p := by rw [v1 203 (by decide), hb0.2.1]; exact f62
      refine g_iload_n dX12_count_62 rfl ?_
      refine g_aload_n dX12_count_63 rfl ?_
      refine g_getP dX12_count_64 fdX12_7 rfl (by first | rfl | exact pv_shx) (by omega) (by omega) (by decide) rfl (hP _ _ _ rfl) ?_
      refine g_bipush (v := nI 6) dX12_count_67 (by decide) ?_
      refine n_iald dX12_count_69 (by first | rfl | exact pv_shx) (by omega) (by omega) (by decide) (rfl) (by omega) (by repeat (first | exact f6 | (apply rd_s; done) | apply rd_n (by omega) | apply rp_s | apply rp_n (by omega) | (apply rdL_s; done) | apply rdL_n (by omega) | apply rpJ_s | apply rpJ_n (by omega) | rfl)) ?_
      refine n_icmp_ge 238 dX12_count_70 (by decide) (by first | ((with_reducible apply cN_le) <;> omega) | ((with_reducible apply cI_len) <;> omega) | ((with_reducible apply cI_nle) <;> omega) | (with_reducible exact cI_le)) (fun c70 => ?_) (fun c70 => by exfalso; first | omega | exact absurd trivial c70 | exact c70 | (simp at c70))
      refine g_vret dX12_count_238 rfl (⟨rfl, rfl, rfl, fun x hx => ?_, fun j hj => ?_, v3, ?_, ?_, ?_⟩)
      · simp at hx; rw [v1 x (by simp; omega), hf0 x (by simp; omega)]
      · rw [v2 j hj, hf0 202 (by decide)]
      · rw [f63]; exact v6
      · rw [f63]; exact v7
      · rw [f63]; exact v8
    | succ q ih =>
      intro p I1 J1 hpq hv
      have kk : ∀ I2 J2, vInv w h a cl m I0 J0 (p + 1) I2 J2 → HV P (pvZ (voQ w h a cl m I J0 P) 0 0) m (p + 1) (cfI (cfN a cl 3 m)) I2 J2 := fun I2 J2 h2 => ih (p + 1) I2 J2 (by omega) h2
      by_cases hh : sp_here a p
      · exact k_here hP hb0 hper hm (by omega) hv hh kk
      · obtain ⟨v1, v2, v3, v4, v5, v6, v7, v8⟩ := id hv
        have e203 : I1 203 = a := by rw [v1 203 (by decide)]; exact hb0.2.1
        have f6 : I1 203 6 = nI np := by rw [e203]; exact f62
        have en : noL a (yesB w h a cl m) (p + 1) = noL a (yesB w h a cl m) p := by
          show _ ++ (if _ then _ else _) = _
          rw [if_neg (fun z => hh z.1), List.append_nil]
        have ey : sp_ct (yeP a (yesB w h a cl m)) (p + 1) = sp_ct (yeP a (yesB w h a cl m)) p := by
          show _ + (if _ then 1 else 0) = _
          rw [if_neg (fun z => hh z.1)]
          rfl
        have nx := kk I1 J1 ⟨v1, v2, v3, v4, v5, by rw [ey]; exact v6, by rw [en]; exact v7, by rw [en]; exact v8⟩
        refine g_iload_n dX12_count_62 rfl ?_
        refine g_aload_n dX12_count_63 rfl ?_
        refine g_getP dX12_count_64 fdX12_7 rfl (by first | rfl | exact pv_shx) (by omega) (by omega) (by decide) rfl (hP _ _ _ rfl) ?_
        refine g_bipush (v := nI 6) dX12_count_67 (by decide) ?_
        refine n_iald dX12_count_69 (by first | rfl | exact pv_shx) (by omega) (by omega) (by decide) (rfl) (by omega) (by repeat (first | exact f6 | (apply rd_s; done) | apply rd_n (by omega) | apply rp_s | apply rp_n (by omega) | (apply rdL_s; done) | apply rdL_n (by omega) | apply rpJ_s | apply rpJ_n (by omega) | rfl)) ?_
        refine n_icmp_ge 238 dX12_count_70 (by decide) (by first | ((with_reducible apply cN_le) <;> omega) | ((with_reducible apply cI_len) <;> omega) | ((with_reducible apply cI_nle) <;> omega) | (with_reducible exact cI_le)) (fun c70 => by exfalso; first | omega | exact absurd trivial c70 | exact c70 | (simp at c70)) (fun c70 => ?_)
        refine g_sipush (v := nI 1200) dX12_count_73 (by decide) ?_
        refine g_iconst (v := nI 5) dX12_count_76 (by decide) ?_
        refine g_iload_n dX12_count_77 rfl ?_
        refine n_imul dX12_count_78 (by first | (with_reducible exact pk_mul _ _) | rfl) ?_
        refine n_iadd dX12_count_79 (by first | (with_reducible exact nI_add _ _) | rfl) ?_
        refine g_istore dX12_count_80 (by decide) rfl ?_
        refine g_aload_n dX12_count_82 rfl ?_
        refine g_getP dX12_count_83 fdX12_7 rfl (by first | rfl | exact pv_shx) (by omega) (by omega) (by decide) rfl (hP _ _ _ rfl) ?_
        refine g_iload dX12_count_86 rfl ?_
        refine g_iconst (v := nI 4) dX12_count_88 (by decide) ?_
        refine n_iadd dX12_count_89 (by first | (with_reducible exact nI_add _ _) | rfl) ?_
        refine n_iald dX12_count_90 (by first | rfl | exact pv_shx) (by omega) (by omega) (by decide) (rfl) (by omega) (by rw [e203]) ?_
        refine n_if_lt 97 dX12_count_91 (by decide) (cI_lt0) (fun c91 => by exfalso; exact hh c91) (fun c91 => ?_)
        refine g_goto 232 dX12_count_94 (by decide) ?_
        refine g_iinc dX12_count_232 rfl (by first | (with_reducible exact nI_1 _) | exact nI_1 _ | exact pk_m1 _ | rfl) (by decide) rfl ?_
        refine g_goto 62 dX12_count_235 (by decide) ?_
        exact g_drop _ (by repeat (first | exact trivial | refine ⟨Or.inr ⟨_, rfl⟩, ?_⟩ | refine ⟨Or.inl rfl, ?_⟩)) nx
  refine pvMet.of _ (by decide) rfl (Nat.le_of_ble_eq_true rfl) ?_
  refine g_aload_n dX12_count_0 rfl ?_
  refine g_callV (ra) okX12_runAll lkX12_149 rfl (by first | rfl | exact pv_shx) rfl (by omega) (by omega) dX12_count_1 rfl (Nat.le_of_ble_eq_true rfl) (⟨by decide, by decide, by decide, by decide⟩) ?_
  rintro v nx' I0 J0 P' ⟨rfl, rfl, rfl, rfl, q1, q2⟩
  have hb0 := hb.fix q1 (by decide) (by decide) (by decide)
  refine k_gases (nb := cnt a 5) hP hb0 q2 hm rfl f5 (fun g hg => ?_)
  have hb1 : mBy w h cl a (pvs I0 222 g) := hb0.fix (l := [222]) (fun x hx => pvs_ne (by simpa using hx)) (by decide) (by decide) (by decide)
  have cf := t_clauseFor (J := J0) (s := 3) hP hb1.2.1 b3.1 b6 hb1.2.2.2.2.2.2 (by decide) hm
  refine g_aload_n dX12_count_35 rfl ?_
  refine g_iconst (v := nI 4) dX12_count_36 (by decide) ?_
  refine g_iload_n dX12_count_37 rfl ?_
  refine p_callV (cf) okX12_clauseFor lkX12_345 rfl (by first | rfl | exact pv_shx) rfl (by omega) (by omega) dX12_count_38 rfl (Nat.le_of_ble_eq_true rfl) (⟨by decide, by decide, by decide, by decide⟩) ?_
  refine g_istore_n dX12_count_41 (by decide) rfl ?_
  refine g_aload_n dX12_count_42 rfl ?_
  refine g_iconst (v := nI 0) dX12_count_43 (by decide) ?_
  refine n_putI dX12_count_44 fdX12_357 rfl (fun h => absurd h (by decide)) (by first | rfl | exact pv_shx) (by omega) (by omega) (by decide) rfl (by repeat (first | exact pvu_s | exact pvuJ_s | apply pvu_in (by omega) | apply pvuJ_in (by omega) | exact pvu_pvs | exact pvuJ_pvs)) ?_
  refine g_aload_n dX12_count_47 rfl ?_
  refine g_iconst (v := nI 0) dX12_count_48 (by decide) ?_
  refine n_putI dX12_count_49 fdX12_360 rfl (fun h => absurd h (by decide)) (by first | rfl | exact pv_shx) (by omega) (by omega) (by decide) rfl (by repeat (first | exact pvu_s | exact pvuJ_s | apply pvu_in (by omega) | apply pvuJ_in (by omega) | exact pvu_pvs | exact pvuJ_pvs)) ?_
  refine g_aload_n dX12_count_52 rfl ?_
  refine g_getP dX12_count_53 fdX12_67 rfl (by first | rfl | exact pv_shx) (by omega) (by omega) (by decide) rfl (hP _ _ _ rfl) ?_
  refine g_bipush (v := nI 7) dX12_count_56 (by decide) ?_
  refine g_iload_n dX12_count_58 rfl ?_
  refine n_iast dX12_count_59 (by first | rfl | exact pv_shx) (by omega) (by omega) (by omega) (by decide) (rfl) (by omega) (by repeat (first | exact pvu_s | exact pvuJ_s | apply pvu_in (by omega) | apply pvuJ_in (by omega) | exact pvu_pvs | exact pvuJ_pvs)) ?_
  refine g_iconst (v := nI 0) dX12_count_60 (by decide) ?_
  refine g_istore_n dX12_count_61 (by decide) rfl ?_
  refine g_drop _ (by repeat (first | exact trivial | refine ⟨Or.inr ⟨_, rfl⟩, ?_⟩ | refine ⟨Or.inl rfl, ?_⟩)) (fin I0 J0 hb0 q1 rfl np 0 _ _ (by omega) ⟨fun x hx => ?_, fun j hj => ?_, fun _ _ => rfl, fun k hk => ?_, ?_, ?_, ?_, fun j hj => absurd hj (Nat.not_lt_zero j)⟩)
  skip
  · simp at hx; simp [pvs, hx]
  · simp at hj; simp [pvs, upd, hj]
  · simp [pvs]; exact hg k hk
  · simp [pvs, upd]
  · simp [pvs, upd]; rfl
  · simp [pvs, upd]; rfl
