/-! class: best -/
def bE (o : Option (Nat × Nat × Nat)) : Nat × Nat × Nat := o.getD (0, 65, 0)
theorem bE_s {cost most : Nat → Nat} {co k : Nat} (hm : most k ≤ 64) : bE (bst cost most co (k + 1)) = if co < cost k then bE (bst cost most co k) else if most k < (bE (bst cost most co k)).2.1 ∨ (most k = (bE (bst cost most co k)).2.1 ∧ cost k < (bE (bst cost most co k)).2.2) then (k, most k, cost k) else bE (bst cost most co k) := by
  have e : bst cost most co (k + 1) = if co < cost k then bst cost most co k else match bst cost most co k with
      | none => some (k, most k, cost k)
      | some (b, l, c) => if l < most k ∨ (most k = l ∧ c ≤ cost k) then some (b, l, c) else some (k, most k, cost k) := rfl
  rw [e]
  by_cases c1 : co < cost k
  · rw [if_pos c1, if_pos c1]
  · rw [if_neg c1, if_neg c1]
    cases bst cost most co k with
    | none =>
      exact (if_pos (Or.inl (show most k < 65 by omega))).symm
    | some v =>
      obtain ⟨b, l, c⟩ := v
      show bE (if l < most k ∨ (most k = l ∧ c ≤ cost k) then some (b, l, c) else some (k, most k, cost k)) = if most k < l ∨ (most k = l ∧ cost k < c) then (k, most k, cost k) else (b, l, c)
      by_cases c2 : l < most k ∨ (most k = l ∧ c ≤ cost k)
      · rw [if_pos c2, if_neg (by omega)]; rfl
      · rw [if_neg c2, if_pos (by omega)]; rfl
theorem bE_le {cost most : Nat → Nat} {co k C : Nat} (hm : ∀ i, i < k → most i ≤ 64) (hc : ∀ i, i < k → cost i ≤ C) : (bE (bst cost most co k)).1 ≤ k ∧ (bE (bst cost most co k)).2.1 ≤ 65 ∧ (bE (bst cost most co k)).2.2 ≤ C := by
  cases hb : bst cost most co k with
  | none => exact ⟨Nat.zero_le _, Nat.le_refl _, Nat.zero_le _⟩
  | some v =>
    obtain ⟨b, l, c⟩ := v
    obtain ⟨h1, h2, h3⟩ := bst_le hb
    show b ≤ k ∧ l ≤ 65 ∧ c ≤ C
    have := hm b h1
    have := hc b h1
    omega
theorem wmost_cong {f f' : Nat → Nat} {lt lt' : Nat → Bool} : ∀ n, (∀ s, s < n → f' s = f s ∧ lt' s = lt s) → wmost f' lt' n = wmost f lt n
  | 0, _ => rfl
  | n + 1, hh => by
    have ih := wmost_cong n (fun s hs => hh s (by omega))
    show (if lt' n = true then max (wmost f' lt' n) (f' n) else wmost f' lt' n) = if lt n = true then max (wmost f lt n) (f n) else wmost f lt n
    rw [ih, (hh n (by omega)).1, (hh n (by omega)).2]
theorem bst_cong {cost cost' most most' : Nat → Nat} {co : Nat} : ∀ n, (∀ s, s < n → cost' s = cost s ∧ most' s = most s) → bst cost' most' co n = bst cost most co n
  | 0, _ => rfl
  | n + 1, hh => by
    have ih := bst_cong (co := co) n (fun s hs => hh s (by omega))
    show (if co < cost' n then bst cost' most' co n else match bst cost' most' co n with
      | none => some (n, most' n, cost' n)
      | some (b, l, c) => if l < most' n ∨ (most' n = l ∧ c ≤ cost' n) then some (b, l, c) else some (n, most' n, cost' n)) = if co < cost n then bst cost most co n else match bst cost most co n with
      | none => some (n, most n, cost n)
      | some (b, l, c) => if l < most n ∨ (most n = l ∧ c ≤ cost n) then some (b, l, c) else some (n, most n, cost n)
    rw [ih, (hh n (by omega)).1, (hh n (by omega)).2]
theorem wcost_cong {a a' : Nat → Int32} {set : Nat} : ∀ p, (∀ i, i < p → cnt a' (1600 + 2 * i + 1) = cnt a (1600 + 2 * i + 1)) → wcost a' set p = wcost a set p
  | 0, _ => rfl
  | p + 1, hh => by
    have ih := wcost_cong (set := set) p (fun i hi => hh i (by omega))
    show wcost a' set p + set / 2 ^ p % 2 * cnt a' (1600 + 2 * p + 1) = wcost a set p + set / 2 ^ p % 2 * cnt a (1600 + 2 * p + 1)
    rw [ih, hh p (by omega)]
section BST
variable {w h : Nat} {a a' : Nat → Int32} {I I' : pvI} {J J' : pvJ} {P : pvP}
theorem letB_al {s kn : Nat} (hw : 0 < w) (hwh : w * h ≤ 64) (hi : mInv w h a) (hs : s < 8) (hl : sAl a a') : letB w h a' s kn = letB w h a s kn := by
  obtain ⟨l1, l2, l3, l4⟩ := hl
  have n4 : cnt a 4 ≤ 200 := hi.1.1.le (by decide)
  unfold letB
  rw [l1.c (by omega) (by omega)]
  congr 1
  apply anyB_cong
  intro r hr
  obtain ⟨-, ⟨m, m1, m2⟩, -⟩ := hi.2.1 r hr
  have em : cnt a (280 + 4 * r + 1) = m := cnt_of m2 (by omega)
  unfold badB
  rw [l3.c (by omega) (by omega), l3.c (by omega) (by omega), l3.c (by omega) (by omega), l3.c (by omega) (by omega), (fwk.fr (wl := 0) (wo := none) hw hwh hi.1.1 hs (by omega : cnt a (280 + 4 * r + 1) ≤ 99) (Or.inl rfl) (l1.sub (by omega) (by omega)) (l2.sub (by omega) (by omega)) (l3.sub (by omega) (by omega)) (l4.sub (by omega) (by omega))).1]
theorem bestO_al {co m : Nat} (hw : 0 < w) (hwh : w * h ≤ 64) (hi : mInv w h a) (hm : m ≤ 99) (hl : sAl a a') : bestO w h a' co m = bestO w h a co m := by
  have n3 : cnt a 3 ≤ 8 := hi.1.1.le (by decide)
  have n10 : cnt a 10 ≤ 6 := hi.1.1.le (by decide)
  obtain ⟨l1, l2, l3, l4⟩ := id hl
  unfold bestO
  rw [l2.c (i := 10) (by omega) (by omega)]
  apply bst_cong
  intro k hk
  refine ⟨wcost_cong _ (fun i hi => l4.c (by omega) (by omega)), ?_⟩
  unfold mostN
  rw [l1.c (i := 3) (by omega) (by omega), l1.c (i := 0) (by omega) (by omega)]
  apply wmost_cong
  intro s hs
  refine ⟨?_, letB_al hw hwh hi (by omega) hl⟩
  unfold lostN
  rw [(fwk.fr (wl := k) (wo := none) hw hwh hi.1.1 (by omega : s < 8) hm (Or.inr ⟨l1.sub (by omega) (by omega), l2.sub (by omega) (by omega), l4.sub (by omega) (by omega), n10⟩) (l1.sub (by omega) (by omega)) (l2.sub (by omega) (by omega)) (l3.sub (by omega) (by omega)) (l4.sub (by omega) (by omega))).1]
/-- what was found best and is kept -/
def rCv (w h : Nat) (a : Nat → Int32) (co g : Nat) (I : pvI) : Prop := ∃ b l c, bestO w h a co g = some (b, l, c) ∧ I 43 5 = nI b ∧ I 43 6 = nI c ∧ I 43 7 = nI l
def rCac (w h : Nat) (a : Nat → Int32) (I : pvI) : Prop := I 43 3 = -1 ∨ ∃ co g, co ≤ 99999 ∧ g ≤ 99 ∧ I 43 3 = nI co ∧ I 43 4 = nI g ∧ rCv w h a co g I
theorem rCac.mv (hc : rCac w h a I) (e : I' 43 = I 43) : rCac w h a I' := by
  unfold rCac rCv at hc ⊢
  rw [e]; exact hc
theorem rCac.mt (hc : rCac w h a I) (hb : kB w h a I J) (hq : I' 43 3 = -1 ∨ (I' 43 = I 43 ∧ sAl a a')) : rCac w h a' I' := by
  rcases hq with z | ⟨z1, z2⟩
  · exact Or.inl z
  · rcases hc.mv z1 with y | ⟨co, g, y1, y2, y3, y4, b, l, c, y5, y6⟩
    · exact Or.inl y
    · have hwh := hb.1.wh
      have hw := hb.1.2.2.2.2.2.2.1
      exact Or.inr ⟨co, g, y1, y2, y3, y4, b, l, c, by rw [bestO_al (by omega) hwh.2 hb.2.2.2.2 y2 z2]; exact y5, y6⟩
theorem kB.w43 (hb : kB w h a I J) (ho : ∀ x, x ≠ 43 → I' x = I x) (h0 : I' 43 0 = I 43 0) : kB w h a I' J := by
  obtain ⟨hg, ⟨r0, r1, r2, r3, r4, r5, r6⟩, hf, ht, hi⟩ := hb
  exact ⟨hg.mv (ho 2 (by decide)) rfl, ⟨by rw [ho 3 (by decide)]; exact r0, r1.mv (fun x z1 z2 => ho x (by omega)) (fun _ _ _ => rfl), r2.mv (fun x z1 z2 => ho x (by omega)) (fun _ _ _ => rfl), r3.mv (fun x z1 z2 => ho x (by omega)), r4.mv (fun x z1 z2 => ho x (by omega)), r5.mv (fun x z1 z2 => ho x (by omega)), r6.mv (fun x z1 z2 => ho x (by omega)) h0⟩, hf.mv (fun x z1 z2 => ho x (by omega)) (fun _ _ _ => rfl), ht.mv (ho 138 (by decide)) rfl, hi⟩
theorem mF2.tr {I2 : pvI} {J2 : pvJ} (h1 : mF2 I J I' J') (h2 : mF2 I' J' I2 J2) : mF2 I J I2 J2 := fun x hx => ⟨(h2 x hx).1.trans (h1 x hx).1, (h2 x hx).2.trans (h1 x hx).2⟩
theorem qF.m2 (hq : qF I J I' J') : mF2 I J I' J' := fun x hx => hq x (by omega)
def fbQ (w h : Nat) (a : Nat → Int32) (co g : Nat) (I : pvI) (J : pvJ) (P : pvP) : pvQT := pvq P (fun v I' J' => v = none ∧ kB w h a I' J' ∧ mF2 I J I' J' ∧ I' 43 3 = nI co ∧ I' 43 4 = nI g ∧ rCv w h a co g I')
theorem c_findBest {co g : Nat} (hP : pvOkP P) (hb : kB w h a I J) (hco : co ≤ 99999) (h0 : cnt a 0 ≤ g) (hg : g ≤ 99) : pvMet mX11_findBest 7 0 0 [.ref 1, .int (nI co), .int (nI g), .int (nI (ltN w h a (cnt a 0)))] 224 I J P (fbQ w h a co g I J P) := by
  have n10 := hb.n10.1
  have hp6 : 2 ^ cnt a 10 ≤ 64 := Nat.le_trans (Nat.pow_le_pow_right (n := 2) (by decide) n10) (by decide)
  have hcl : ∀ k, wcost a k (cnt a 10) ≤ 59994 := fun k => by
    have := wcost_le (a := a) (set := k) (fun p hp => (hb.pl hp).2.2.1) (cnt a 10) (Nat.le_refl _)
    omega
  have hml : ∀ k, mostN w h a g k ≤ 64 := fun k => wmost_le (fun s => lostN_le) _
  have hll := ltN_lt (w := w) (h := h) (a := a) (kn := cnt a 0) hb.n3.1
  have gl : ∀ I1 J1 k B, kB w h a I1 J1 → k < 64 → B ≤ 65 → pvMet mX11_greatestLost 6 0 0 [.ref 1, .long (mk (fun c => wlB a k c (cnt a 10))), .int (nI g), .int (nI (ltN w h a (cnt a 0))), .int (nI B)] 224 I1 J1 P (grQ w h a B (mostN w h a g k) I1 J1 P) := fun I1 J1 k B h1 hk hB => c_grLost hP h1 hk hB h0 hg
  have gc : ∀ I1 J1 k, kB w h a I1 J1 → k < 64 → pvMet mX8_costOf 1 0 0 [.ref 43, .int (nI k)] 224 I1 J1 P (pvpu (.int (nI (wcost a k (cnt a 10)))) 224 I1 J1 P) := fun I1 J1 k h1 hk => c_costOf hP h1 hk
  have fin : ∀ b l c, bst (fun k => wcost a k (cnt a 10)) (mostN w h a g) co (2 ^ cnt a 10) = some (b, l, c) → bestO w h a co g = some (b, l, c) := fun b l c z => z
  have hz := bst_zero (most := mostN w h a g) (coins := co) (cost := fun k => wcost a k (cnt a 10)) (wcost_0 _) (2 ^ cnt a 10 - 1)
  rw [Nat.sub_add_cancel (Nat.one_le_two_pow)] at hz
  generalize hcost : (fun k => wcost a k (cnt a 10)) = cost at *
  have hcs : ∀ k, wcost a k (cnt a 10) = cost k := fun k => by rw [← hcost]
  simp only [hcs] at hcl gc
  generalize mostN w h a g = most at *
  generalize ltN w h a (cnt a 0) = ln at *
  have lp : ∀ q k I1 J1, k + q = 2 ^ cnt a 10 → kB w h a I1 J1 → mF2 I J I1 J1 → I1 43 5 = nI (bE (bst cost most co k)).1 → I1 43 6 = nI (bE (bst cost most co k)).2.2 → I1 43 7 = nI (bE (bst cost most co k)).2.1 → pvG mX11_findBest (pvR 7 0 0) (pvZ (fbQ w h a co g I J P) 0 0) 31 [.ref 1, .int (nI co), .int (nI g), .int (nI ln), .ref 43, .int (nI k), .retAddr 0, .retAddr 0] [] 0 0 224 I1 J1 P := by
    intro q
    induction q with
    | zero =>
      intro k I1 J1 hk h1 h2 b5 b6 b7
      obtain rfl : k = 2 ^ cnt a 10 := by omega
      have r10 := h1.n10.2
      have done : fbQ w h a co g I J P none 224 (pvs I1 43 (upd (upd (I1 43) 3 (nI co)) 4 (nI g))) J1 P := by
        refine ⟨rfl, rfl, rfl, h1.w43 (fun x hx => pvs_ne hx) (by rw [pvs_eq]; simp [upd]), fun x hx => by rw [pvs_ne (by omega)]; exact h2 x hx, by rw [pvs_eq]; simp [upd], by rw [pvs_eq]; simp [upd], ?_⟩
        cases ho : bst cost most co (2 ^ cnt a 10) with
        | none => exact absurd ho hz
        | some v =>
          obtain ⟨b, l, c⟩ := v
          rw [ho] at b5 b6 b7
          replace b5 : I1 43 5 = nI b := b5
          replace b6 : I1 43 6 = nI c := b6
          replace b7 : I1 43 7 = nI l := b7
          exact ⟨b, l, c, fin b l c ho, by rw [pvs_eq]; simpa [upd] using b5, by rw [pvs_eq]; simpa [upd] using b6, by rw [pvs_eq]; simpa [upd] using b7⟩
      refine g_iload dX11_findBest_31 rfl ?_
      refine g_iconst (v := nI 1) dX11_findBest_33 (by decide) ?_
      refine g_aload dX11_findBest_34 rfl ?_
      refine n_getI dX11_findBest_36 fdX11_391 rfl (by first | rfl | exact pv_shx) (by omega) (by omega) (by decide) rfl (by repeat (first | exact r10 | (apply rd_s; done) | apply rd_n (by omega) | apply rp_s | apply rp_n (by omega) | (apply rdL_s; done) | apply rdL_n (by omega) | apply rpJ_s | apply rpJ_n (by omega) | rfl)) ?_
      refine n_ishl dX11_findBest_39 (nI_shl1 (by omega)) ?_
      refine n_icmp_ge 135 dX11_findBest_40 (by decide) (by first | ((with_reducible apply cN_le) <;> omega) | ((with_reducible apply cI_len) <;> omega) | ((with_reducible apply cI_nle) <;> omega) | (with_reducible exact cI_le)) (fun c40 => ?_) (fun c40 => by exfalso; first | omega | exact absurd trivial c40 | exact c40 | (simp at c40))
      refine g_aload dX11_findBest_135 rfl ?_
      refine g_iload_n dX11_findBest_137 rfl ?_
      refine n_putI dX11_findBest_138 fdX11_398 rfl (fun h => absurd h (by decide)) (by first | rfl | exact pv_shx) (by omega) (by omega) (by decide) rfl (by repeat (first | exact pvu_s | exact pvuJ_s | apply pvu_in (by omega) | apply pvuJ_in (by omega) | exact pvu_pvs | exact pvuJ_pvs)) ?_
      refine g_aload dX11_findBest_141 rfl ?_
      refine g_iload_n dX11_findBest_143 rfl ?_
      refine n_putI dX11_findBest_144 fdX11_401 rfl (fun h => absurd h (by decide)) (by first | rfl | exact pv_shx) (by omega) (by omega) (by decide) rfl (by repeat (first | exact pvu_s | exact pvuJ_s | apply pvu_in (by omega) | apply pvuJ_in (by omega) | exact pvu_pvs | exact pvuJ_pvs)) ?_
      exact g_vret dX11_findBest_147 rfl (done)
    | succ q ih =>
      intro k I1 J1 hk h1 h2 b5 b6 b7
      have r10 := h1.n10.2
      have co1 := gc I1 J1 k h1 (by omega)
      have es := bE_s (cost := cost) (most := most) (co := co) (k := k) (hml k)
      obtain ⟨y1, y2, y3⟩ := bE_le (cost := cost) (most := most) (co := co) (k := k) (fun i _ => hml i) (fun i _ => hcl i)
      have hck := hcl k
      have hmk := hml k
      generalize bE (bst cost most co k) = o at *
      obtain ⟨b, l, c⟩ := o
      replace b5 : I1 43 5 = nI b := b5
      replace b6 : I1 43 6 = nI c := b6
      replace b7 : I1 43 7 = nI l := b7
      replace y1 : b ≤ k := y1
      replace y2 : l ≤ 65 := y2
      replace y3 : c ≤ 59994 := y3
      replace es : bE (bst cost most co (k + 1)) = if co < cost k then (b, l, c) else if most k < l ∨ (most k = l ∧ cost k < c) then (k, most k, cost k) else (b, l, c) := es
      by_cases c1 : co < cost k
      · rw [if_pos c1] at es
        have nx := ih (k + 1) I1 J1 (by omega) h1 h2 (by rw [es]; exact b5) (by rw [es]; exact b6) (by rw [es]; exact b7)
        refine g_iload dX11_findBest_31 rfl ?_
        refine g_iconst (v := nI 1) dX11_findBest_33 (by decide) ?_
        refine g_aload dX11_findBest_34 rfl ?_
        refine n_getI dX11_findBest_36 fdX11_391 rfl (by first | rfl | exact pv_shx) (by omega) (by omega) (by decide) rfl (by repeat (first | exact r10 | (apply rd_s; done) | apply rd_n (by omega) | apply rp_s | apply rp_n (by omega) | (apply rdL_s; done) | apply rdL_n (by omega) | apply rpJ_s | apply rpJ_n (by omega) | rfl)) ?_
        refine n_ishl dX11_findBest_39 (nI_shl1 (by omega)) ?_
        refine n_icmp_ge 135 dX11_findBest_40 (by decide) (by first | ((with_reducible apply cN_le) <;> omega) | ((with_reducible apply cI_len) <;> omega) | ((with_reducible apply cI_nle) <;> omega) | (with_reducible exact cI_le)) (fun c40 => by exfalso; first | omega | exact absurd trivial c40 | exact c40 | (simp at c40)) (fun c40 => ?_)
        refine g_aload dX11_findBest_43 rfl ?_
        refine g_iload dX11_findBest_45 rfl ?_
        refine p_callV (co1) okX8_costOf lkX11_513 rfl (by first | rfl | exact pv_shx) rfl (by omega) (by omega) dX11_findBest_47 rfl (Nat.le_of_ble_eq_true rfl) (⟨by decide, by decide, by decide, by decide⟩) ?_
        refine g_istore dX11_findBest_50 (by decide) rfl ?_
        refine g_iload dX11_findBest_52 rfl ?_
        refine g_iload_n dX11_findBest_54 rfl ?_
        refine n_icmp_gt 129 dX11_findBest_55 (by decide) (by first | ((with_reducible apply cN_lt) <;> omega) | ((with_reducible apply cI_ltn) <;> omega) | ((with_reducible apply cI_nlt) <;> omega) | (with_reducible exact cI_lt)) (fun c55 => ?_) (fun c55 => by exfalso; first | omega | exact absurd trivial c55 | exact c55 | (simp at c55))
        refine g_iinc dX11_findBest_129 rfl (by first | (with_reducible exact nI_1 _) | exact nI_1 _ | exact pk_m1 _ | rfl) (by decide) rfl ?_
        refine g_goto 31 dX11_findBest_132 (by decide) ?_
        exact g_drop _ (by repeat (first | exact trivial | refine ⟨Or.inr ⟨_, rfl⟩, ?_⟩ | refine ⟨Or.inl rfl, ?_⟩)) nx
      · have cl1 := c_cellsOf (set := k) hP h1 (by omega)
        have gr1 := gl I1 J1 k l h1 (by omega) (by omega)
        refine g_iload dX11_findBest_31 rfl ?_
        refine g_iconst (v := nI 1) dX11_findBest_33 (by decide) ?_
        refine g_aload dX11_findBest_34 rfl ?_
        refine n_getI dX11_findBest_36 fdX11_391 rfl (by first | rfl | exact pv_shx) (by omega) (by omega) (by decide) rfl (by repeat (first | exact r10 | exact b7 | (apply rd_s; done) | apply rd_n (by omega) | apply rp_s | apply rp_n (by omega) | (apply rdL_s; done) | apply rdL_n (by omega) | apply rpJ_s | apply rpJ_n (by omega) | rfl)) ?_
        refine n_ishl dX11_findBest_39 (nI_shl1 (by omega)) ?_
        refine n_icmp_ge 135 dX11_findBest_40 (by decide) (by first | ((with_reducible apply cN_le) <;> omega) | ((with_reducible apply cI_len) <;> omega) | ((with_reducible apply cI_nle) <;> omega) | (with_reducible exact cI_le)) (fun c40 => by exfalso; first | omega | exact absurd trivial c40 | exact c40 | (simp at c40)) (fun c40 => ?_)
        refine g_aload dX11_findBest_43 rfl ?_
        refine g_iload dX11_findBest_45 rfl ?_
        refine p_callV (co1) okX8_costOf lkX11_513 rfl (by first | rfl | exact pv_shx) rfl (by omega) (by omega) dX11_findBest_47 rfl (Nat.le_of_ble_eq_true rfl) (⟨by decide, by decide, by decide, by decide⟩) ?_
        refine g_istore dX11_findBest_50 (by decide) rfl ?_
        refine g_iload dX11_findBest_52 rfl ?_
        refine g_iload_n dX11_findBest_54 rfl ?_
        refine n_icmp_gt 129 dX11_findBest_55 (by decide) (by first | ((with_reducible apply cN_lt) <;> omega) | ((with_reducible apply cI_ltn) <;> omega) | ((with_reducible apply cI_nlt) <;> omega) | (with_reducible exact cI_lt)) (fun c55 => by exfalso; first | omega | exact absurd trivial c55 | exact c55 | (simp at c55)) (fun c55 => ?_)
        refine g_aload_n dX11_findBest_58 rfl ?_
        refine g_aload dX11_findBest_59 rfl ?_
        refine g_iload dX11_findBest_61 rfl ?_
        refine p_callV (cl1) okX8_cellsOf lkX11_516 rfl (by first | rfl | exact pv_shx) rfl (by omega) (by omega) dX11_findBest_63 rfl (Nat.le_of_ble_eq_true rfl) (⟨by decide, by decide, by decide, by decide⟩) ?_
        refine g_iload_n dX11_findBest_66 rfl ?_
        refine g_iload_n dX11_findBest_67 rfl ?_
        refine g_aload dX11_findBest_68 rfl ?_
        refine n_getI dX11_findBest_70 fdX11_413 rfl (by first | rfl | exact pv_shx) (by omega) (by omega) (by decide) rfl (by repeat (first | exact r10 | exact b7 | (apply rd_s; done) | apply rd_n (by omega) | apply rp_s | apply rp_n (by omega) | (apply rdL_s; done) | apply rdL_n (by omega) | apply rpJ_s | apply rpJ_n (by omega) | rfl)) ?_
        refine g_callV (gr1) okX11_greatestLost lkX11_519 rfl (by first | rfl | exact pv_shx) rfl (by omega) (by omega) dX11_findBest_73 rfl (Nat.le_of_ble_eq_true rfl) (⟨by decide, by decide, by decide, by decide⟩) ?_
        rintro v nx' I2 J2 P' ⟨rfl, rfl, r, rfl, rl, hr, q1, q2⟩
        have e43 : I2 43 = I1 43 := (q2 43 (by omega)).1
        have g7 : I2 43 7 = nI l := by rw [e43]; exact b7
        have g6 : I2 43 6 = nI c := by rw [e43]; exact b6
        have g5 : I2 43 5 = nI b := by rw [e43]; exact b5
        have nx0 := ih (k + 1) I2 J2 (by omega) q1 (h2.tr q2.m2)
        by_cases d1 : r < l
        · have er : r = most k := by omega
          rw [if_neg c1, if_pos (Or.inl (by omega))] at es
          have nx := ih (k + 1) (pvs I2 43 (upd (upd (upd (I2 43) 7 (nI r)) 6 (nI (cost k))) 5 (nI k))) J2 (by omega) (q1.w43 (fun x hx => pvs_ne hx) (by rw [pvs_eq]; simp [upd])) (fun x hx => by rw [pvs_ne (by omega)]; exact h2.tr q2.m2 x hx) (by rw [es, pvs_eq]; simp [upd]) (by rw [es, pvs_eq]; simp [upd]) (by rw [es, pvs_eq]; simp [upd, er])
          refine g_istore dX11_findBest_76 (by decide) rfl ?_
          refine g_iload dX11_findBest_78 rfl ?_
          refine g_aload dX11_findBest_80 rfl ?_
          refine n_getI dX11_findBest_82 fdX11_413 rfl (by first | rfl | exact pv_shx) (by omega) (by omega) (by decide) rfl (by repeat (first | exact g7 | (apply rd_s; done) | apply rd_n (by omega) | apply rp_s | apply rp_n (by omega) | (apply rdL_s; done) | apply rdL_n (by omega) | apply rpJ_s | apply rpJ_n (by omega) | rfl)) ?_
          refine n_icmp_lt 108 dX11_findBest_85 (by decide) (by first | ((with_reducible apply cN_lt) <;> omega) | ((with_reducible apply cI_ltn) <;> omega) | ((with_reducible apply cI_nlt) <;> omega) | (with_reducible exact cI_lt)) (fun c85 => ?_) (fun c85 => by exfalso; first | omega | exact absurd trivial c85 | exact c85 | (simp at c85))
          refine g_aload dX11_findBest_108 rfl ?_
          refine g_iload dX11_findBest_110 rfl ?_
          refine n_putI dX11_findBest_112 fdX11_413 rfl (fun h => absurd h (by decide)) (by first | rfl | exact pv_shx) (by omega) (by omega) (by decide) rfl (by repeat (first | exact pvu_s | exact pvuJ_s | apply pvu_in (by omega) | apply pvuJ_in (by omega) | exact pvu_pvs | exact pvuJ_pvs)) ?_
          refine g_aload dX11_findBest_115 rfl ?_
          refine g_iload dX11_findBest_117 rfl ?_
          refine n_putI dX11_findBest_119 fdX11_410 rfl (fun h => absurd h (by decide)) (by first | rfl | exact pv_shx) (by omega) (by omega) (by decide) rfl (by repeat (first | exact pvu_s | exact pvuJ_s | apply pvu_in (by omega) | apply pvuJ_in (by omega) | exact pvu_pvs | exact pvuJ_pvs)) ?_
          refine g_aload dX11_findBest_122 rfl ?_
          refine g_iload dX11_findBest_124 rfl ?_
          refine n_putI dX11_findBest_126 fdX11_407 rfl (fun h => absurd h (by decide)) (by first | rfl | exact pv_shx) (by omega) (by omega) (by decide) rfl (by repeat (first | exact pvu_s | exact pvuJ_s | apply pvu_in (by omega) | apply pvuJ_in (by omega) | exact pvu_pvs | exact pvuJ_pvs)) ?_
          refine g_iinc dX11_findBest_129 rfl (by first | (with_reducible exact nI_1 _) | exact nI_1 _ | exact pk_m1 _ | rfl) (by decide) rfl ?_
          refine g_goto 31 dX11_findBest_132 (by decide) ?_
          exact g_drop _ (by repeat (first | exact trivial | refine ⟨Or.inr ⟨_, rfl⟩, ?_⟩ | refine ⟨Or.inl rfl, ?_⟩)) nx
        · by_cases d2 : r = l
          · have er : r = most k := by omega
            by_cases d3 : cost k < c
            · rw [if_neg c1, if_pos (Or.inr ⟨by omega, d3⟩)] at es
              have nx := ih (k + 1) (pvs I2 43 (upd (upd (upd (I2 43) 7 (nI r)) 6 (nI (cost k))) 5 (nI k))) J2 (by omega) (q1.w43 (fun x hx => pvs_ne hx) (by rw [pvs_eq]; simp [upd])) (fun x hx => by rw [pvs_ne (by omega)]; exact h2.tr q2.m2 x hx) (by rw [es, pvs_eq]; simp [upd]) (by rw [es, pvs_eq]; simp [upd]) (by rw [es, pvs_eq]; simp [upd, er])
              refine g_istore dX11_findBest_76 (by decide) rfl ?_
              refine g_iload dX11_findBest_78 rfl ?_
              refine g_aload dX11_findBest_80 rfl ?_
              refine n_getI dX11_findBest_82 fdX11_413 rfl (by first | rfl | exact pv_shx) (by omega) (by omega) (by decide) rfl (by repeat (first | exact g7 | exact g6 | (apply rd_s; done) | apply rd_n (by omega) | apply rp_s | apply rp_n (by omega) | (apply rdL_s; done) | apply rdL_n (by omega) | apply rpJ_s | apply rpJ_n (by omega) | rfl)) ?_
              refine n_icmp_lt 108 dX11_findBest_85 (by decide) (by first | ((with_reducible apply cN_lt) <;> omega) | ((with_reducible apply cI_ltn) <;> omega) | ((with_reducible apply cI_nlt) <;> omega) | (with_reducible exact cI_lt)) (fun c85 => by exfalso; first | omega | exact absurd trivial c85 | exact c85 | (simp at c85)) (fun c85 => ?_)
              refine g_iload dX11_findBest_88 rfl ?_
              refine g_aload dX11_findBest_90 rfl ?_
              refine n_getI dX11_findBest_92 fdX11_413 rfl (by first | rfl | exact pv_shx) (by omega) (by omega) (by decide) rfl (by repeat (first | exact g7 | exact g6 | (apply rd_s; done) | apply rd_n (by omega) | apply rp_s | apply rp_n (by omega) | (apply rdL_s; done) | apply rdL_n (by omega) | apply rpJ_s | apply rpJ_n (by omega) | rfl)) ?_
              refine n_icmp_ne 129 dX11_findBest_95 (by decide) (by first | ((with_reducible apply cN_eq) <;> omega) | ((with_reducible apply cI_eqn) <;> omega) | exact Iff.rfl) (fun c95 => by exfalso; first | omega | exact absurd trivial c95 | exact c95 | (simp at c95)) (fun c95 => ?_)
              refine g_iload dX11_findBest_98 rfl ?_
              refine g_aload dX11_findBest_100 rfl ?_
              refine n_getI dX11_findBest_102 fdX11_410 rfl (by first | rfl | exact pv_shx) (by omega) (by omega) (by decide) rfl (by repeat (first | exact g7 | exact g6 | (apply rd_s; done) | apply rd_n (by omega) | apply rp_s | apply rp_n (by omega) | (apply rdL_s; done) | apply rdL_n (by omega) | apply rpJ_s | apply rpJ_n (by omega) | rfl)) ?_
              refine n_icmp_ge 129 dX11_findBest_105 (by decide) (by first | ((with_reducible apply cN_le) <;> omega) | ((with_reducible apply cI_len) <;> omega) | ((with_reducible apply cI_nle) <;> omega) | (with_reducible exact cI_le)) (fun c105 => by exfalso; first | omega | exact absurd trivial c105 | exact c105 | (simp at c105)) (fun c105 => ?_)
              refine g_aload dX11_findBest_108 rfl ?_
              refine g_iload dX11_findBest_110 rfl ?_
              refine n_putI dX11_findBest_112 fdX11_413 rfl (fun h => absurd h (by decide)) (by first | rfl | exact pv_shx) (by omega) (by omega) (by decide) rfl (by repeat (first | exact pvu_s | exact pvuJ_s | apply pvu_in (by omega) | apply pvuJ_in (by omega) | exact pvu_pvs | exact pvuJ_pvs)) ?_
              refine g_aload dX11_findBest_115 rfl ?_
              refine g_iload dX11_findBest_117 rfl ?_
              refine n_putI dX11_findBest_119 fdX11_410 rfl (fun h => absurd h (by decide)) (by first | rfl | exact pv_shx) (by omega) (by omega) (by decide) rfl (by repeat (first | exact pvu_s | exact pvuJ_s | apply pvu_in (by omega) | apply pvuJ_in (by omega) | exact pvu_pvs | exact pvuJ_pvs)) ?_
              refine g_aload dX11_findBest_122 rfl ?_
              refine g_iload dX11_findBest_124 rfl ?_
              refine n_putI dX11_findBest_126 fdX11_407 rfl (fun h => absurd h (by decide)) (by first | rfl | exact pv_shx) (by omega) (by omega) (by decide) rfl (by repeat (first | exact pvu_s | exact pvuJ_s | apply pvu_in (by omega) | apply pvuJ_in (by omega) | exact pvu_pvs | exact pvuJ_pvs)) ?_
              refine g_iinc dX11_findBest_129 rfl (by first | (with_reducible exact nI_1 _) | exact nI_1 _ | exact pk_m1 _ | rfl) (by decide) rfl ?_
              refine g_goto 31 dX11_findBest_132 (by decide) ?_
              exact g_drop _ (by repeat (first | exact trivial | refine ⟨Or.inr ⟨_, rfl⟩, ?_⟩ | refine ⟨Or.inl rfl, ?_⟩)) nx
            · rw [if_neg c1, if_neg (by omega)] at es
              have nx := nx0 (by rw [es]; exact g5) (by rw [es]; exact g6) (by rw [es]; exact g7)
              refine g_istore dX11_findBest_76 (by decide) rfl ?_
              refine g_iload dX11_findBest_78 rfl ?_
              refine g_aload dX11_findBest_80 rfl ?_
              refine n_getI dX11_findBest_82 fdX11_413 rfl (by first | rfl | exact pv_shx) (by omega) (by omega) (by decide) rfl (by repeat (first | exact g7 | exact g6 | (apply rd_s; done) | apply rd_n (by omega) | apply rp_s | apply rp_n (by omega) | (apply rdL_s; done) | apply rdL_n (by omega) | apply rpJ_s | apply rpJ_n (by omega) | rfl)) ?_
              refine n_icmp_lt 108 dX11_findBest_85 (by decide) (by first | ((with_reducible apply cN_lt) <;> omega) | ((with_reducible apply cI_ltn) <;> omega) | ((with_reducible apply cI_nlt) <;> omega) | (with_reducible exact cI_lt)) (fun c85 => by exfalso; first | omega | exact absurd trivial c85 | exact c85 | (simp at c85)) (fun c85 => ?_)
              refine g_iload dX11_findBest_88 rfl ?_
              refine g_aload dX11_findBest_90 rfl ?_
              refine n_getI dX11_findBest_92 fdX11_413 rfl (by first | rfl | exact pv_shx) (by omega) (by omega) (by decide) rfl (by repeat (first | exact g7 | exact g6 | (apply rd_s; done) | apply rd_n (by omega) | apply rp_s | apply rp_n (by omega) | (apply rdL_s; done) | apply rdL_n (by omega) | apply rpJ_s | apply rpJ_n (by omega) | rfl)) ?_
              refine n_icmp_ne 129 dX11_findBest_95 (by decide) (by first | ((with_reducible apply cN_eq) <;> omega) | ((with_reducible apply cI_eqn) <;> omega) | exact Iff.rfl) (fun c95 => by exfalso; first | omega | exact absurd trivial c95 | exact c95 | (simp at c95)) (fun c95 => ?_)
              refine g_iload dX11_findBest_98 rfl ?_
              refine g_aload dX11_findBest_100 rfl ?_
              refine n_getI dX11_findBest_102 fdX11_410 rfl (by first | rfl | exact pv_shx) (by omega) (by omega) (by decide) rfl (by repeat (first | exact g7 | exact g6 | (apply rd_s; done) | apply rd_n (by omega) | apply rp_s | apply rp_n (by omega) | (apply rdL_s; done) | apply rdL_n (by omega) | apply rpJ_s | apply rpJ_n (by omega) | rfl)) ?_
              refine n_icmp_ge 129 dX11_findBest_105 (by decide) (by first | ((with_reducible apply cN_le) <;> omega) | ((with_reducible apply cI_len) <;> omega) | ((with_reducible apply cI_nle) <;> omega) | (with_reducible exact cI_le)) (fun c105 => ?_) (fun c105 => by exfalso; first | omega | exact absurd trivial c105 | exact c105 | (simp at c105))
              refine g_iinc dX11_findBest_129 rfl (by first | (with_reducible exact nI_1 _) | exact nI_1 _ | exact pk_m1 _ | rfl) (by decide) rfl ?_
              refine g_goto 31 dX11_findBest_132 (by decide) ?_
              exact g_drop _ (by repeat (first | exact trivial | refine ⟨Or.inr ⟨_, rfl⟩, ?_⟩ | refine ⟨Or.inl rfl, ?_⟩)) nx
          · rw [if_neg c1, if_neg (by omega)] at es
            have nx := nx0 (by rw [es]; exact g5) (by rw [es]; exact g6) (by rw [es]; exact g7)
            refine g_istore dX11_findBest_76 (by decide) rfl ?_
            refine g_iload dX11_findBest_78 rfl ?_
            refine g_aload dX11_findBest_80 rfl ?_
            refine n_getI dX11_findBest_82 fdX11_413 rfl (by first | rfl | exact pv_shx) (by omega) (by omega) (by decide) rfl (by repeat (first | exact g7 | (apply rd_s; done) | apply rd_n (by omega) | apply rp_s | apply rp_n (by omega) | (apply rdL_s; done) | apply rdL_n (by omega) | apply rpJ_s | apply rpJ_n (by omega) | rfl)) ?_
            refine n_icmp_lt 108 dX11_findBest_85 (by decide) (by first | ((with_reducible apply cN_lt) <;> omega) | ((with_reducible apply cI_ltn) <;> omega) | ((with_reducible apply cI_nlt) <;> omega) | (with_reducible exact cI_lt)) (fun c85 => by exfalso; first | omega | exact absurd trivial c85 | exact c85 | (simp at c85)) (fun c85 => ?_)
            refine g_iload dX11_findBest_88 rfl ?_
            refine g_aload dX11_findBest_90 rfl ?_
            refine n_getI dX11_findBest_92 fdX11_413 rfl (by first | rfl | exact pv_shx) (by omega) (by omega) (by decide) rfl (by repeat (first | exact g7 | (apply rd_s; done) | apply rd_n (by omega) | apply rp_s | apply rp_n (by omega) | (apply rdL_s; done) | apply rdL_n (by omega) | apply rpJ_s | apply rpJ_n (by omega) | rfl)) ?_
            refine n_icmp_ne 129 dX11_findBest_95 (by decide) (by first | ((with_reducible apply cN_eq) <;> omega) | ((with_reducible apply cI_eqn) <;> omega) | exact Iff.rfl) (fun c95 => ?_) (fun c95 => by exfalso; first | omega | exact absurd trivial c95 | exact c95 | (simp at c95))
            refine g_iinc dX11_findBest_129 rfl (by first | (with_reducible exact nI_1 _) | exact nI_1 _ | exact pk_m1 _ | rfl) (by decide) rfl ?_
            refine g_goto 31 dX11_findBest_132 (by decide) ?_
            exact g_drop _ (by repeat (first | exact trivial | refine ⟨Or.inr ⟨_, rfl⟩, ?_⟩ | refine ⟨Or.inl rfl, ?_⟩)) nx
  have go := lp (2 ^ cnt a 10) 0 (pvs I 43 (upd (upd (upd (I 43) 7 (nI 65)) 6 (nI 0)) 5 (nI 0))) J (by omega) (hb.w43 (fun x hx => pvs_ne hx) (by rw [pvs_eq]; simp [upd])) (fun x hx => by rw [pvs_ne (by omega)]; exact ⟨rfl, rfl⟩) (by rw [pvs_eq]; simp [upd]; rfl) (by rw [pvs_eq]; simp [upd]; rfl) (by rw [pvs_eq]; simp [upd]; rfl)
  refine pvMet.of _ (by decide) rfl (Nat.le_of_ble_eq_true rfl) ?_
  refine g_aload_n dX11_findBest_0 rfl ?_
  refine g_getP dX11_findBest_1 fdX11_32 rfl (by first | rfl | exact pv_shx) (by omega) (by omega) (by decide) rfl (hP _ _ _ rfl) ?_
  refine g_getP dX11_findBest_4 fdX11_180 rfl (by first | rfl | exact pv_shx) (by omega) (by omega) (by decide) rfl (hP _ _ _ rfl) ?_
  refine g_astore dX11_findBest_7 (by decide) rfl ?_
  refine g_aload dX11_findBest_9 rfl ?_
  refine g_bipush (v := nI 65) dX11_findBest_11 (by decide) ?_
  refine n_putI dX11_findBest_13 fdX11_413 rfl (fun h => absurd h (by decide)) (by first | rfl | exact pv_shx) (by omega) (by omega) (by decide) rfl (by repeat (first | exact pvu_s | exact pvuJ_s | apply pvu_in (by omega) | apply pvuJ_in (by omega) | exact pvu_pvs | exact pvuJ_pvs)) ?_
  refine g_aload dX11_findBest_16 rfl ?_
  refine g_iconst (v := nI 0) dX11_findBest_18 (by decide) ?_
  refine n_putI dX11_findBest_19 fdX11_410 rfl (fun h => absurd h (by decide)) (by first | rfl | exact pv_shx) (by omega) (by omega) (by decide) rfl (by repeat (first | exact pvu_s | exact pvuJ_s | apply pvu_in (by omega) | apply pvuJ_in (by omega) | exact pvu_pvs | exact pvuJ_pvs)) ?_
  refine g_aload dX11_findBest_22 rfl ?_
  refine g_iconst (v := nI 0) dX11_findBest_24 (by decide) ?_
  refine n_putI dX11_findBest_25 fdX11_407 rfl (fun h => absurd h (by decide)) (by first | rfl | exact pv_shx) (by omega) (by omega) (by decide) rfl (by repeat (first | exact pvu_s | exact pvuJ_s | apply pvu_in (by omega) | apply pvuJ_in (by omega) | exact pvu_pvs | exact pvuJ_pvs)) ?_
  refine g_iconst (v := nI 0) dX11_findBest_28 (by decide) ?_
  refine g_istore dX11_findBest_29 (by decide) rfl ?_
  exact g_drop _ (by repeat (first | exact trivial | refine ⟨Or.inr ⟨_, rfl⟩, ?_⟩ | refine ⟨Or.inl rfl, ?_⟩)) go
def bstQ (w h : Nat) (a : Nat → Int32) (I : pvI) (J : pvJ) (P : pvP) (r : Int32) : pvQT := pvq P (fun v I' J' => v = some (.int r) ∧ kB w h a I' J' ∧ mF2 I J I' J' ∧ rCac w h a I')
theorem c_best {co m x : Int32} (hP : pvOkP P) (hb : kB w h a I J) (hc : rCac w h a I) : pvMet mX11_best 8 0 0 [.ref 1, .int co, .int m, .int x] 224 I J P (bstQ w h a I J P (sp_best w h a co m x)) := by
  obtain ⟨n3, r3⟩ := hb.n3
  obtain ⟨n0, r0⟩ := hb.n0
  have i1 := c_within (nx := 224) (v := co) (lo := nI 0) (hi := nI 99999) (L := 0) (H := 99999) (I := I) (J := J) (P := P) (by decide) (by decide)
  have i2 := c_isWeekToCome (v := m) (J := J) hP r0 n0
  have i3 := c_within (nx := 224) (v := x) (lo := nI 0) (hi := nI 2) (L := 0) (H := 2) (I := I) (J := J) (P := P) (by decide) (by decide)
  by_cases h1 : 0 ≤ co.toInt ∧ co.toInt ≤ 99999
  · rw [if_pos h1] at i1
    by_cases h2 : (cnt a 0 : Int) ≤ m.toInt ∧ m.toInt ≤ 99
    · rw [if_pos h2] at i2
      obtain ⟨mn, hmn, rfl⟩ := cI_of (x := m) (n := 100) (by omega) (by omega) (by omega)
      have em : (nI mn).toInt = mn := nI_toInt (by omega)
      by_cases h3 : cnt a 0 + 30 < mn
      · skip
        refine pvMet.of _ (by decide) rfl (Nat.le_of_ble_eq_true rfl) ?_
        refine g_iload_n dX11_best_0 rfl ?_
        refine g_iconst (v := nI 0) dX11_best_1 (by decide) ?_
        refine g_ldcw (v := nI 99999) dX11_best_2 kcX11_397 ?_
        refine p_callS (i1) okX11_within lkX11_85 rfl dX11_best_5 rfl (Nat.le_of_ble_eq_true rfl) (⟨by decide, by decide, by decide, by decide⟩) ?_
        refine n_if_eq 42 dX11_best_8 (by decide) (by first | (with_reducible exact cB _) | ((with_reducible apply cN_eq0) <;> omega) | exact Iff.rfl) (fun c8 => by exfalso; first | omega | exact absurd trivial c8 | exact c8 | (simp at c8)) (fun c8 => ?_)
        refine g_aload_n dX11_best_11 rfl ?_
        refine g_iload_n dX11_best_12 rfl ?_
        refine p_callV (i2) okX11_isWeekToCome lkX11_306 rfl (by first | rfl | exact pv_shx) rfl (by omega) (by omega) dX11_best_13 rfl (Nat.le_of_ble_eq_true rfl) (⟨by decide, by decide, by decide, by decide⟩) ?_
        refine n_if_eq 42 dX11_best_16 (by decide) (by first | (with_reducible exact cB _) | ((with_reducible apply cN_eq0) <;> omega) | exact Iff.rfl) (fun c16 => by exfalso; first | omega | exact absurd trivial c16 | exact c16 | (simp at c16)) (fun c16 => ?_)
        refine g_iload_n dX11_best_19 rfl ?_
        refine g_aload_n dX11_best_20 rfl ?_
        refine g_getP dX11_best_21 fdX11_32 rfl (by first | rfl | exact pv_shx) (by omega) (by omega) (by decide) rfl (hP _ _ _ rfl) ?_
        refine n_getI dX11_best_24 fdX11_77 rfl (by first | rfl | exact pv_shx) (by omega) (by omega) (by decide) rfl (by repeat (first | exact r0 | (apply rd_s; done) | apply rd_n (by omega) | apply rp_s | apply rp_n (by omega) | (apply rdL_s; done) | apply rdL_n (by omega) | apply rpJ_s | apply rpJ_n (by omega) | rfl)) ?_
        refine g_bipush (v := nI 30) dX11_best_27 (by decide) ?_
        refine n_iadd dX11_best_29 (by first | (with_reducible exact nI_add _ _) | rfl) ?_
        refine n_icmp_gt 42 dX11_best_30 (by decide) (by first | ((with_reducible apply cN_lt) <;> omega) | ((with_reducible apply cI_ltn) <;> omega) | ((with_reducible apply cI_nlt) <;> omega) | (with_reducible exact cI_lt)) (fun c30 => ?_) (fun c30 => by exfalso; first | omega | exact absurd trivial c30 | exact c30 | (simp at c30))
        refine g_iconst (v := (-1)) dX11_best_42 (by decide) ?_
        exact g_iret dX11_best_43 rfl (⟨rfl, rfl, by rw [sp_best, if_neg (fun z => by have := z.2.2.1; omega)], hb, mF2.rf, hc⟩)
      · by_cases hx : 0 ≤ x.toInt ∧ x.toInt ≤ 2
        · rw [if_pos hx] at i3
          obtain ⟨con, hcon, rfl⟩ := cI_of (x := co) (n := 100000) (by omega) (by omega) (by omega)
          obtain ⟨xn, hxn, rfl⟩ := cI_of (x := x) (n := 3) (by omega) (by omega) (by omega)
          have se := c_see (m := cnt a 0) hP hb n0
          refine pvMet.of _ (by decide) rfl (Nat.le_of_ble_eq_true rfl) ?_
          refine g_iload_n dX11_best_0 rfl ?_
          refine g_iconst (v := nI 0) dX11_best_1 (by decide) ?_
          refine g_ldcw (v := nI 99999) dX11_best_2 kcX11_397 ?_
          refine p_callS (i1) okX11_within lkX11_85 rfl dX11_best_5 rfl (Nat.le_of_ble_eq_true rfl) (⟨by decide, by decide, by decide, by decide⟩) ?_
          refine n_if_eq 42 dX11_best_8 (by decide) (by first | (with_reducible exact cB _) | ((with_reducible apply cN_eq0) <;> omega) | exact Iff.rfl) (fun c8 => by exfalso; first | omega | exact absurd trivial c8 | exact c8 | (simp at c8)) (fun c8 => ?_)
          refine g_aload_n dX11_best_11 rfl ?_
          refine g_iload_n dX11_best_12 rfl ?_
          refine p_callV (i2) okX11_isWeekToCome lkX11_306 rfl (by first | rfl | exact pv_shx) rfl (by omega) (by omega) dX11_best_13 rfl (Nat.le_of_ble_eq_true rfl) (⟨by decide, by decide, by decide, by decide⟩) ?_
          refine n_if_eq 42 dX11_best_16 (by decide) (by first | (with_reducible exact cB _) | ((with_reducible apply cN_eq0) <;> omega) | exact Iff.rfl) (fun c16 => by exfalso; first | omega | exact absurd trivial c16 | exact c16 | (simp at c16)) (fun c16 => ?_)
          refine g_iload_n dX11_best_19 rfl ?_
          refine g_aload_n dX11_best_20 rfl ?_
          refine g_getP dX11_best_21 fdX11_32 rfl (by first | rfl | exact pv_shx) (by omega) (by omega) (by decide) rfl (hP _ _ _ rfl) ?_
          refine n_getI dX11_best_24 fdX11_77 rfl (by first | rfl | exact pv_shx) (by omega) (by omega) (by decide) rfl (by repeat (first | exact r0 | (apply rd_s; done) | apply rd_n (by omega) | apply rp_s | apply rp_n (by omega) | (apply rdL_s; done) | apply rdL_n (by omega) | apply rpJ_s | apply rpJ_n (by omega) | rfl)) ?_
          refine g_bipush (v := nI 30) dX11_best_27 (by decide) ?_
          refine n_iadd dX11_best_29 (by first | (with_reducible exact nI_add _ _) | rfl) ?_
          refine n_icmp_gt 42 dX11_best_30 (by decide) (by first | ((with_reducible apply cN_lt) <;> omega) | ((with_reducible apply cI_ltn) <;> omega) | ((with_reducible apply cI_nlt) <;> omega) | (with_reducible exact cI_lt)) (fun c30 => by exfalso; first | omega | exact absurd trivial c30 | exact c30 | (simp at c30)) (fun c30 => ?_)
          refine g_iload_n dX11_best_33 rfl ?_
          refine g_iconst (v := nI 0) dX11_best_34 (by decide) ?_
          refine g_iconst (v := nI 2) dX11_best_35 (by decide) ?_
          refine p_callS (i3) okX11_within lkX11_85 rfl dX11_best_36 rfl (Nat.le_of_ble_eq_true rfl) (⟨by decide, by decide, by decide, by decide⟩) ?_
          refine n_if_ne 44 dX11_best_39 (by decide) (by first | (with_reducible exact cB _) | ((with_reducible apply cN_eq0) <;> omega) | exact Iff.rfl) (fun c39 => ?_) (fun c39 => by exfalso; first | omega | exact absurd trivial c39 | exact c39 | (simp at c39))
          refine g_aload_n dX11_best_44 rfl ?_
          refine g_aload_n dX11_best_45 rfl ?_
          refine g_getP dX11_best_46 fdX11_32 rfl (by first | rfl | exact pv_shx) (by omega) (by omega) (by decide) rfl (hP _ _ _ rfl) ?_
          refine n_getI dX11_best_49 fdX11_77 rfl (by first | rfl | exact pv_shx) (by omega) (by omega) (by decide) rfl (by repeat (first | exact r0 | (apply rd_s; done) | apply rd_n (by omega) | apply rp_s | apply rp_n (by omega) | (apply rdL_s; done) | apply rdL_n (by omega) | apply rpJ_s | apply rpJ_n (by omega) | rfl)) ?_
          refine g_callV (se) okX11_see lkX11_236 rfl (by first | rfl | exact pv_shx) rfl (by omega) (by omega) dX11_best_52 rfl (Nat.le_of_ble_eq_true rfl) (⟨by decide, by decide, by decide, by decide⟩) ?_
          rintro v nx' I1 J1 P' ⟨rfl, rfl, rfl, q1, q2, q3, q4⟩
          have la := c_letNow hP q1 q3 (by omega)
          have hll := ltN_lt (w := w) (h := h) (a := a) (kn := cnt a 0) n3
          have hlz := ltN_0 (w := w) (h := h) (a := a) (kn := cnt a 0)
          have ex : (nI xn).toInt = xn := nI_toInt (by omega)
          have hans : ∀ b l c, nLet w h a (cnt a 0) ≠ 0 → bestO w h a con mn = some (b, l, c) → sp_best w h a (nI con) (nI mn) (nI xn) = if xn = 0 then nI b else if xn = 1 then nI c else nI l := by
            intro b l c z e
            rw [sp_best, if_pos ⟨h1, ⟨by omega, by omega⟩, ⟨by omega, by omega⟩, hx⟩, nI_clamp (by omega : con < 2 ^ 31), nI_clamp (by omega : mn < 2 ^ 31), ex, if_neg z, e]
            rcases (show xn = 0 ∨ xn = 1 ∨ xn = 2 by omega) with rfl | rfl | rfl
            · rfl
            · rfl
            · rfl
          have hans0 : nLet w h a (cnt a 0) = 0 → sp_best w h a (nI con) (nI mn) (nI xn) = -1 := by
            intro z
            rw [sp_best, if_pos ⟨h1, ⟨by omega, by omega⟩, ⟨by omega, by omega⟩, hx⟩, if_pos z]
          by_cases z : nLet w h a (cnt a 0) = 0
          · have lz : ltN w h a (cnt a 0) = 0 := hlz.mpr z
            rw [hans0 z]
            rw [lz] at la
            refine g_aload_n dX11_best_55 rfl ?_
            refine p_callV (la) okX11_letNow lkX11_239 rfl (by first | rfl | exact pv_shx) rfl (by omega) (by omega) dX11_best_56 rfl (Nat.le_of_ble_eq_true rfl) (⟨by decide, by decide, by decide, by decide⟩) ?_
            refine g_istore dX11_best_59 (by decide) rfl ?_
            refine g_iload dX11_best_61 rfl ?_
            refine n_if_ne 68 dX11_best_63 (by decide) (by first | (with_reducible exact cB _) | ((with_reducible apply cN_eq0) <;> omega) | exact Iff.rfl) (fun c63 => by exfalso; first | omega | exact absurd trivial c63 | exact c63 | (simp at c63)) (fun c63 => ?_)
            refine g_iconst (v := (-1)) dX11_best_66 (by decide) ?_
            exact g_iret dX11_best_67 rfl (⟨rfl, rfl, rfl, q1, q2.m2, hc.mv (q2 43 (by omega)).1⟩)
          · have lz : ltN w h a (cnt a 0) ≠ 0 := fun y => z (hlz.mp y)
            generalize hln : ltN w h a (cnt a 0) = ln at *
            have fin : ∀ I2 J2, kB w h a I2 J2 → mF2 I J I2 J2 → I2 43 3 = nI con → I2 43 4 = nI mn → rCv w h a con mn I2 → pvG mX11_best (pvR 8 0 0) (pvZ (bstQ w h a I J P' (sp_best w h a (nI con) (nI mn) (nI xn))) 0 0) 103 [.ref 1, .int (nI con), .int (nI mn), .int (nI xn), .int (nI ln), .ref 43] [] 0 0 224 I2 J2 P' := by
              intro I2 J2 k1 k2 k3 k4 k5
              have rc : rCac w h a I2 := Or.inr ⟨con, mn, by omega, by omega, k3, k4, k5⟩
              obtain ⟨b, l, c, e1, e2, e3, e4⟩ := k5
              rw [hans b l c z e1]
              rcases (show xn = 0 ∨ xn = 1 ∨ xn = 2 by omega) with rfl | rfl | rfl
              · skip
                refine g_iload_n dX11_best_103 rfl ?_
                refine n_if_ne 113 dX11_best_104 (by decide) (by first | (with_reducible exact cB _) | ((with_reducible apply cN_eq0) <;> omega) | exact Iff.rfl) (fun c104 => by exfalso; first | omega | exact absurd trivial c104 | exact c104 | (simp at c104)) (fun c104 => ?_)
                refine g_aload dX11_best_107 rfl ?_
                refine n_getI dX11_best_109 fdX11_407 rfl (by first | rfl | exact pv_shx) (by omega) (by omega) (by decide) rfl (by repeat (first | exact e2 | exact e3 | exact e4 | (apply rd_s; done) | apply rd_n (by omega) | apply rp_s | apply rp_n (by omega) | (apply rdL_s; done) | apply rdL_n (by omega) | apply rpJ_s | apply rpJ_n (by omega) | rfl)) ?_
                exact g_iret dX11_best_112 rfl (⟨rfl, rfl, rfl, k1, k2, rc⟩)
              · skip
                refine g_iload_n dX11_best_103 rfl ?_
                refine n_if_ne 113 dX11_best_104 (by decide) (by first | (with_reducible exact cB _) | ((with_reducible apply cN_eq0) <;> omega) | exact Iff.rfl) (fun c104 => ?_) (fun c104 => by exfalso; first | omega | exact absurd trivial c104 | exact c104 | (simp at c104))
                refine g_iload_n dX11_best_113 rfl ?_
                refine g_iconst (v := nI 1) dX11_best_114 (by decide) ?_
                refine n_icmp_ne 126 dX11_best_115 (by decide) (by first | ((with_reducible apply cN_eq) <;> omega) | ((with_reducible apply cI_eqn) <;> omega) | exact Iff.rfl) (fun c115 => by exfalso; first | omega | exact absurd trivial c115 | exact c115 | (simp at c115)) (fun c115 => ?_)
                refine g_aload dX11_best_118 rfl ?_
                refine n_getI dX11_best_120 fdX11_410 rfl (by first | rfl | exact pv_shx) (by omega) (by omega) (by decide) rfl (by repeat (first | exact e2 | exact e3 | exact e4 | (apply rd_s; done) | apply rd_n (by omega) | apply rp_s | apply rp_n (by omega) | (apply rdL_s; done) | apply rdL_n (by omega) | apply rpJ_s | apply rpJ_n (by omega) | rfl)) ?_
                refine g_goto 131 dX11_best_123 (by decide) ?_
                exact g_iret dX11_best_131 rfl (⟨rfl, rfl, rfl, k1, k2, rc⟩)
              · skip
                refine g_iload_n dX11_best_103 rfl ?_
                refine n_if_ne 113 dX11_best_104 (by decide) (by first | (with_reducible exact cB _) | ((with_reducible apply cN_eq0) <;> omega) | exact Iff.rfl) (fun c104 => ?_) (fun c104 => by exfalso; first | omega | exact absurd trivial c104 | exact c104 | (simp at c104))
                refine g_iload_n dX11_best_113 rfl ?_
                refine g_iconst (v := nI 1) dX11_best_114 (by decide) ?_
                refine n_icmp_ne 126 dX11_best_115 (by decide) (by first | ((with_reducible apply cN_eq) <;> omega) | ((with_reducible apply cI_eqn) <;> omega) | exact Iff.rfl) (fun c115 => ?_) (fun c115 => by exfalso; first | omega | exact absurd trivial c115 | exact c115 | (simp at c115))
                refine g_aload dX11_best_126 rfl ?_
                refine n_getI dX11_best_128 fdX11_413 rfl (by first | rfl | exact pv_shx) (by omega) (by omega) (by decide) rfl (by repeat (first | exact e2 | exact e3 | exact e4 | (apply rd_s; done) | apply rd_n (by omega) | apply rp_s | apply rp_n (by omega) | (apply rdL_s; done) | apply rdL_n (by omega) | apply rpJ_s | apply rpJ_n (by omega) | rfl)) ?_
                exact g_iret dX11_best_131 rfl (⟨rfl, rfl, rfl, k1, k2, rc⟩)
            refine g_aload_n dX11_best_55 rfl ?_
            refine p_callV (la) okX11_letNow lkX11_239 rfl (by first | rfl | exact pv_shx) rfl (by omega) (by omega) dX11_best_56 rfl (Nat.le_of_ble_eq_true rfl) (⟨by decide, by decide, by decide, by decide⟩) ?_
            refine g_istore dX11_best_59 (by decide) rfl ?_
            refine g_iload dX11_best_61 rfl ?_
            refine n_if_ne 68 dX11_best_63 (by decide) (by first | (with_reducible exact cB _) | ((with_reducible apply cN_eq0) <;> omega) | exact Iff.rfl) (fun c63 => ?_) (fun c63 => by exfalso; first | omega | exact absurd trivial c63 | exact c63 | (simp at c63))
            have rc1 := hc.mv (I' := I1) (q2 43 (by omega)).1
            have fb := c_findBest (co := con) (g := mn) hP q1 (by omega) (by omega) (by omega)
            rw [hln] at fb
            have fi : ∀ I2 J2, fbQ w h a con mn I1 J1 P' none 224 I2 J2 P' → pvG mX11_best (pvR 8 0 0) (pvZ (bstQ w h a I J P' (sp_best w h a (nI con) (nI mn) (nI xn))) 0 0) 103 [.ref 1, .int (nI con), .int (nI mn), .int (nI xn), .int (nI ln), .ref 43] [] 0 0 224 I2 J2 P' := by
              rintro I2 J2 ⟨-, -, -, k1, k2, k3, k4, k5⟩
              exact fin I2 J2 k1 (q2.m2.tr k2) k3 k4 k5
            rcases rc1 with z | ⟨co', g', y1, y2, y3, y4, y5⟩
            · have hne : ((-1 : Int32) = nI con) ↔ False := by
                rw [eq_comm, cI_m1, nI_toInt (by omega)]
                exact ⟨fun z => by omega, False.elim⟩
              refine g_aload_n dX11_best_68 rfl ?_
              refine g_getP dX11_best_69 fdX11_32 rfl (by first | rfl | exact pv_shx) (by omega) (by omega) (by decide) rfl (hP _ _ _ rfl) ?_
              refine g_getP dX11_best_72 fdX11_180 rfl (by first | rfl | exact pv_shx) (by omega) (by omega) (by decide) rfl (hP _ _ _ rfl) ?_
              refine g_astore dX11_best_75 (by decide) rfl ?_
              refine g_aload dX11_best_77 rfl ?_
              refine n_getI dX11_best_79 fdX11_398 rfl (by first | rfl | exact pv_shx) (by omega) (by omega) (by decide) rfl (by repeat (first | exact z | (apply rd_s; done) | apply rd_n (by omega) | apply rp_s | apply rp_n (by omega) | (apply rdL_s; done) | apply rdL_n (by omega) | apply rpJ_s | apply rpJ_n (by omega) | rfl)) ?_
              refine g_iload_n dX11_best_82 rfl ?_
              refine n_icmp_ne 95 dX11_best_83 (by decide) (hne) (fun c83 => ?_) (fun c83 => by exfalso; first | omega | exact absurd trivial c83 | exact c83 | (simp at c83))
              refine g_aload_n dX11_best_95 rfl ?_
              refine g_iload_n dX11_best_96 rfl ?_
              refine g_iload_n dX11_best_97 rfl ?_
              refine g_iload dX11_best_98 rfl ?_
              refine g_callV (fb) okX11_findBest lkX11_404 rfl (by first | rfl | exact pv_shx) rfl (by omega) (by omega) dX11_best_100 rfl (Nat.le_of_ble_eq_true rfl) (⟨by decide, by decide, by decide, by decide⟩) ?_
              rintro v nx' I2 J2 P2 ⟨rfl, rfl, rfl, hq⟩
              exact fi I2 J2 ⟨rfl, rfl, rfl, hq⟩
            · by_cases d1 : co' = con
              · by_cases d2 : g' = mn
                · subst d1 d2
                  refine g_aload_n dX11_best_68 rfl ?_
                  refine g_getP dX11_best_69 fdX11_32 rfl (by first | rfl | exact pv_shx) (by omega) (by omega) (by decide) rfl (hP _ _ _ rfl) ?_
                  refine g_getP dX11_best_72 fdX11_180 rfl (by first | rfl | exact pv_shx) (by omega) (by omega) (by decide) rfl (hP _ _ _ rfl) ?_
                  refine g_astore dX11_best_75 (by decide) rfl ?_
                  refine g_aload dX11_best_77 rfl ?_
                  refine n_getI dX11_best_79 fdX11_398 rfl (by first | rfl | exact pv_shx) (by omega) (by omega) (by decide) rfl (by repeat (first | exact y3 | exact y4 | (apply rd_s; done) | apply rd_n (by omega) | apply rp_s | apply rp_n (by omega) | (apply rdL_s; done) | apply rdL_n (by omega) | apply rpJ_s | apply rpJ_n (by omega) | rfl)) ?_
                  refine g_iload_n dX11_best_82 rfl ?_
                  refine n_icmp_ne 95 dX11_best_83 (by decide) (by first | ((with_reducible apply cN_eq) <;> omega) | ((with_reducible apply cI_eqn) <;> omega) | exact Iff.rfl) (fun c83 => by exfalso; first | omega | exact absurd trivial c83 | exact c83 | (simp at c83)) (fun c83 => ?_)
                  refine g_aload dX11_best_86 rfl ?_
                  refine n_getI dX11_best_88 fdX11_401 rfl (by first | rfl | exact pv_shx) (by omega) (by omega) (by decide) rfl (by repeat (first | exact y3 | exact y4 | (apply rd_s; done) | apply rd_n (by omega) | apply rp_s | apply rp_n (by omega) | (apply rdL_s; done) | apply rdL_n (by omega) | apply rpJ_s | apply rpJ_n (by omega) | rfl)) ?_
                  refine g_iload_n dX11_best_91 rfl ?_
                  refine n_icmp_eq 103 dX11_best_92 (by decide) (by first | ((with_reducible apply cN_eq) <;> omega) | ((with_reducible apply cI_eqn) <;> omega) | exact Iff.rfl) (fun c92 => ?_) (fun c92 => by exfalso; first | omega | exact absurd trivial c92 | exact c92 | (simp at c92))
                  exact fin I1 J1 q1 q2.m2 y3 y4 y5
                · skip
                  refine g_aload_n dX11_best_68 rfl ?_
                  refine g_getP dX11_best_69 fdX11_32 rfl (by first | rfl | exact pv_shx) (by omega) (by omega) (by decide) rfl (hP _ _ _ rfl) ?_
                  refine g_getP dX11_best_72 fdX11_180 rfl (by first | rfl | exact pv_shx) (by omega) (by omega) (by decide) rfl (hP _ _ _ rfl) ?_
                  refine g_astore dX11_best_75 (by decide) rfl ?_
                  refine g_aload dX11_best_77 rfl ?_
                  refine n_getI dX11_best_79 fdX11_398 rfl (by first | rfl | exact pv_shx) (by omega) (by omega) (by decide) rfl (by repeat (first | exact y3 | exact y4 | (apply rd_s; done) | apply rd_n (by omega) | apply rp_s | apply rp_n (by omega) | (apply rdL_s; done) | apply rdL_n (by omega) | apply rpJ_s | apply rpJ_n (by omega) | rfl)) ?_
                  refine g_iload_n dX11_best_82 rfl ?_
                  refine n_icmp_ne 95 dX11_best_83 (by decide) (by first | ((with_reducible apply cN_eq) <;> omega) | ((with_reducible apply cI_eqn) <;> omega) | exact Iff.rfl) (fun c83 => by exfalso; first | omega | exact absurd trivial c83 | exact c83 | (simp at c83)) (fun c83 => ?_)
                  refine g_aload dX11_best_86 rfl ?_
                  refine n_getI dX11_best_88 fdX11_401 rfl (by first | rfl | exact pv_shx) (by omega) (by omega) (by decide) rfl (by repeat (first | exact y3 | exact y4 | (apply rd_s; done) | apply rd_n (by omega) | apply rp_s | apply rp_n (by omega) | (apply rdL_s; done) | apply rdL_n (by omega) | apply rpJ_s | apply rpJ_n (by omega) | rfl)) ?_
                  refine g_iload_n dX11_best_91 rfl ?_
                  refine n_icmp_eq 103 dX11_best_92 (by decide) (by first | ((with_reducible apply cN_eq) <;> omega) | ((with_reducible apply cI_eqn) <;> omega) | exact Iff.rfl) (fun c92 => by exfalso; first | omega | exact absurd trivial c92 | exact c92 | (simp at c92)) (fun c92 => ?_)
                  refine g_aload_n dX11_best_95 rfl ?_
                  refine g_iload_n dX11_best_96 rfl ?_
                  refine g_iload_n dX11_best_97 rfl ?_
                  refine g_iload dX11_best_98 rfl ?_
                  refine g_callV (fb) okX11_findBest lkX11_404 rfl (by first | rfl | exact pv_shx) rfl (by omega) (by omega) dX11_best_100 rfl (Nat.le_of_ble_eq_true rfl) (⟨by decide, by decide, by decide, by decide⟩) ?_
                  rintro v nx' I2 J2 P2 ⟨rfl, rfl, rfl, hq⟩
                  exact fi I2 J2 ⟨rfl, rfl, rfl, hq⟩
              · skip
                refine g_aload_n dX11_best_68 rfl ?_
                refine g_getP dX11_best_69 fdX11_32 rfl (by first | rfl | exact pv_shx) (by omega) (by omega) (by decide) rfl (hP _ _ _ rfl) ?_
                refine g_getP dX11_best_72 fdX11_180 rfl (by first | rfl | exact pv_shx) (by omega) (by omega) (by decide) rfl (hP _ _ _ rfl) ?_
                refine g_astore dX11_best_75 (by decide) rfl ?_
                refine g_aload dX11_best_77 rfl ?_
                refine n_getI dX11_best_79 fdX11_398 rfl (by first | rfl | exact pv_shx) (by omega) (by omega) (by decide) rfl (by repeat (first | exact y3 | (apply rd_s; done) | apply rd_n (by omega) | apply rp_s | apply rp_n (by omega) | (apply rdL_s; done) | apply rdL_n (by omega) | apply rpJ_s | apply rpJ_n (by omega) | rfl)) ?_
                refine g_iload_n dX11_best_82 rfl ?_
                refine n_icmp_ne 95 dX11_best_83 (by decide) (by first | ((with_reducible apply cN_eq) <;> omega) | ((with_reducible apply cI_eqn) <;> omega) | exact Iff.rfl) (fun c83 => ?_) (fun c83 => by exfalso; first | omega | exact absurd trivial c83 | exact c83 | (simp at c83))
                refine g_aload_n dX11_best_95 rfl ?_
                refine g_iload_n dX11_best_96 rfl ?_
                refine g_iload_n dX11_best_97 rfl ?_
                refine g_iload dX11_best_98 rfl ?_
                refine g_callV (fb) okX11_findBest lkX11_404 rfl (by first | rfl | exact pv_shx) rfl (by omega) (by omega) dX11_best_100 rfl (Nat.le_of_ble_eq_true rfl) (⟨by decide, by decide, by decide, by decide⟩) ?_
                rintro v nx' I2 J2 P2 ⟨rfl, rfl, rfl, hq⟩
                exact fi I2 J2 ⟨rfl, rfl, rfl, hq⟩
        · rw [if_neg hx] at i3
          refine pvMet.of _ (by decide) rfl (Nat.le_of_ble_eq_true rfl) ?_
          refine g_iload_n dX11_best_0 rfl ?_
          refine g_iconst (v := nI 0) dX11_best_1 (by decide) ?_
          refine g_ldcw (v := nI 99999) dX11_best_2 kcX11_397 ?_
          refine p_callS (i1) okX11_within lkX11_85 rfl dX11_best_5 rfl (Nat.le_of_ble_eq_true rfl) (⟨by decide, by decide, by decide, by decide⟩) ?_
          refine n_if_eq 42 dX11_best_8 (by decide) (by first | (with_reducible exact cB _) | ((with_reducible apply cN_eq0) <;> omega) | exact Iff.rfl) (fun c8 => by exfalso; first | omega | exact absurd trivial c8 | exact c8 | (simp at c8)) (fun c8 => ?_)
          refine g_aload_n dX11_best_11 rfl ?_
          refine g_iload_n dX11_best_12 rfl ?_
          refine p_callV (i2) okX11_isWeekToCome lkX11_306 rfl (by first | rfl | exact pv_shx) rfl (by omega) (by omega) dX11_best_13 rfl (Nat.le_of_ble_eq_true rfl) (⟨by decide, by decide, by decide, by decide⟩) ?_
          refine n_if_eq 42 dX11_best_16 (by decide) (by first | (with_reducible exact cB _) | ((with_reducible apply cN_eq0) <;> omega) | exact Iff.rfl) (fun c16 => by exfalso; first | omega | exact absurd trivial c16 | exact c16 | (simp at c16)) (fun c16 => ?_)
          refine g_iload_n dX11_best_19 rfl ?_
          refine g_aload_n dX11_best_20 rfl ?_
          refine g_getP dX11_best_21 fdX11_32 rfl (by first | rfl | exact pv_shx) (by omega) (by omega) (by decide) rfl (hP _ _ _ rfl) ?_
          refine n_getI dX11_best_24 fdX11_77 rfl (by first | rfl | exact pv_shx) (by omega) (by omega) (by decide) rfl (by repeat (first | exact r0 | (apply rd_s; done) | apply rd_n (by omega) | apply rp_s | apply rp_n (by omega) | (apply rdL_s; done) | apply rdL_n (by omega) | apply rpJ_s | apply rpJ_n (by omega) | rfl)) ?_
          refine g_bipush (v := nI 30) dX11_best_27 (by decide) ?_
          refine n_iadd dX11_best_29 (by first | (with_reducible exact nI_add _ _) | rfl) ?_
          refine n_icmp_gt 42 dX11_best_30 (by decide) (by first | ((with_reducible apply cN_lt) <;> omega) | ((with_reducible apply cI_ltn) <;> omega) | ((with_reducible apply cI_nlt) <;> omega) | (with_reducible exact cI_lt)) (fun c30 => by exfalso; first | omega | exact absurd trivial c30 | exact c30 | (simp at c30)) (fun c30 => ?_)
          refine g_iload_n dX11_best_33 rfl ?_
          refine g_iconst (v := nI 0) dX11_best_34 (by decide) ?_
          refine g_iconst (v := nI 2) dX11_best_35 (by decide) ?_
          refine p_callS (i3) okX11_within lkX11_85 rfl dX11_best_36 rfl (Nat.le_of_ble_eq_true rfl) (⟨by decide, by decide, by decide, by decide⟩) ?_
          refine n_if_ne 44 dX11_best_39 (by decide) (by first | (with_reducible exact cB _) | ((with_reducible apply cN_eq0) <;> omega) | exact Iff.rfl) (fun c39 => by exfalso; first | omega | exact absurd trivial c39 | exact c39 | (simp at c39)) (fun c39 => ?_)
          refine g_iconst (v := (-1)) dX11_best_42 (by decide) ?_
          exact g_iret dX11_best_43 rfl (⟨rfl, rfl, by rw [sp_best, if_neg (fun z => hx z.2.2.2)], hb, mF2.rf, hc⟩)
    · rw [if_neg h2] at i2
      refine pvMet.of _ (by decide) rfl (Nat.le_of_ble_eq_true rfl) ?_
      refine g_iload_n dX11_best_0 rfl ?_
      refine g_iconst (v := nI 0) dX11_best_1 (by decide) ?_
      refine g_ldcw (v := nI 99999) dX11_best_2 kcX11_397 ?_
      refine p_callS (i1) okX11_within lkX11_85 rfl dX11_best_5 rfl (Nat.le_of_ble_eq_true rfl) (⟨by decide, by decide, by decide, by decide⟩) ?_
      refine n_if_eq 42 dX11_best_8 (by decide) (by first | (with_reducible exact cB _) | ((with_reducible apply cN_eq0) <;> omega) | exact Iff.rfl) (fun c8 => by exfalso; first | omega | exact absurd trivial c8 | exact c8 | (simp at c8)) (fun c8 => ?_)
      refine g_aload_n dX11_best_11 rfl ?_
      refine g_iload_n dX11_best_12 rfl ?_
      refine p_callV (i2) okX11_isWeekToCome lkX11_306 rfl (by first | rfl | exact pv_shx) rfl (by omega) (by omega) dX11_best_13 rfl (Nat.le_of_ble_eq_true rfl) (⟨by decide, by decide, by decide, by decide⟩) ?_
      refine n_if_eq 42 dX11_best_16 (by decide) (by first | (with_reducible exact cB _) | ((with_reducible apply cN_eq0) <;> omega) | exact Iff.rfl) (fun c16 => ?_) (fun c16 => by exfalso; first | omega | exact absurd trivial c16 | exact c16 | (simp at c16))
      refine g_iconst (v := (-1)) dX11_best_42 (by decide) ?_
      exact g_iret dX11_best_43 rfl (⟨rfl, rfl, by rw [sp_best, if_neg (fun z => h2 ⟨z.2.2.1.1, z.2.1.2⟩)], hb, mF2.rf, hc⟩)
  · rw [if_neg h1] at i1
    refine pvMet.of _ (by decide) rfl (Nat.le_of_ble_eq_true rfl) ?_
    refine g_iload_n dX11_best_0 rfl ?_
    refine g_iconst (v := nI 0) dX11_best_1 (by decide) ?_
    refine g_ldcw (v := nI 99999) dX11_best_2 kcX11_397 ?_
    refine p_callS (i1) okX11_within lkX11_85 rfl dX11_best_5 rfl (Nat.le_of_ble_eq_true rfl) (⟨by decide, by decide, by decide, by decide⟩) ?_
    refine n_if_eq 42 dX11_best_8 (by decide) (by first | (with_reducible exact cB _) | ((with_reducible apply cN_eq0) <;> omega) | exact Iff.rfl) (fun c8 => ?_) (fun c8 => by exfalso; first | omega | exact absurd trivial c8 | exact c8 | (simp at c8))
    refine g_iconst (v := (-1)) dX11_best_42 (by decide) ?_
    exact g_iret dX11_best_43 rfl (⟨rfl, rfl, by rw [sp_best, if_neg (fun z => h1 z.1)], hb, mF2.rf, hc⟩)
end BST
