/-! class: gas -/
theorem crd {w q r : Nat} (hr : r < w) : (w * q + r) % w = r ∧ (w * q + r) / w = q := ⟨by rw [Nat.mul_add_mod, Nat.mod_eq_of_lt hr], by rw [Nat.mul_add_div (by omega), Nat.div_eq_of_lt hr, Nat.add_zero]⟩
theorem crd_of {w c q r : Nat} (hr : r < w) (e : c = w * q + r) : c % w = r ∧ c / w = q := by subst e; exact crd hr
theorem nb_crd {w h x c d : Nat} (hw : 0 < w) (hd : d < 4) (hn : sp_nb w h x d = some c) : (c % w = x % w + 1 ∧ c / w = x / w) ∨ (c % w + 1 = x % w ∧ c / w = x / w) ∨ (c % w = x % w ∧ c / w = x / w + 1) ∨ (c % w = x % w ∧ c / w + 1 = x / w) := by
  have e := Nat.div_add_mod x w
  have hm := Nat.mod_lt x hw
  rcases (show d = 0 ∨ d = 1 ∨ d = 2 ∨ d = 3 by omega) with rfl | rfl | rfl | rfl
  · rw [sp_nb0] at hn
    by_cases z : x % w + 1 < w
    · rw [if_pos z] at hn; cases hn
      exact Or.inl (crd_of (q := x / w) z (by omega))
    · rw [if_neg z] at hn; cases hn
  · rw [sp_nb1] at hn
    by_cases z : 0 < x % w
    · rw [if_pos z] at hn; cases hn
      obtain ⟨h1, h2⟩ := crd_of (c := x - 1) (q := x / w) (r := x % w - 1) (w := w) (by omega) (by omega)
      exact Or.inr (Or.inl ⟨by omega, h2⟩)
    · rw [if_neg z] at hn; cases hn
  · rw [sp_nb2] at hn
    by_cases z : x / w + 1 < h
    · rw [if_pos z] at hn; cases hn
      have : w * (x / w + 1) = w * (x / w) + w := Nat.mul_succ w (x / w)
      obtain ⟨h1, h2⟩ := crd_of (c := x + w) (q := x / w + 1) (r := x % w) (w := w) hm (by omega)
      exact Or.inr (Or.inr (Or.inl ⟨h1, h2⟩))
    · rw [if_neg z] at hn; cases hn
  · rw [sp_nb3] at hn
    by_cases z : 0 < x / w
    · rw [if_pos z] at hn; cases hn
      obtain ⟨q, hq⟩ : ∃ q, x / w = q + 1 := ⟨x / w - 1, by omega⟩
      rw [hq] at e ⊢
      have : w * (q + 1) = w * q + w := Nat.mul_succ w q
      obtain ⟨h1, h2⟩ := crd_of (c := x - w) (q := q) (r := x % w) (w := w) hm (by omega)
      exact Or.inr (Or.inr (Or.inr ⟨h1, by omega⟩))
    · rw [if_neg z] at hn; cases hn
theorem nb_far {w h x c d home : Nat} (hw : 0 < w) (hd : d < 4) (hn : sp_nb w h x d = some c) : farN w c home ≤ farN w x home + 1 := by
  have := nb_crd hw hd hn
  unfold farN ndist
  repeat' split
  all_goals omega
theorem far_nb {w h c home : Nat} (hw : 0 < w) (hc : c < w * h) (hh : home < w * h) (hf : 0 < farN w c home) : ∃ d x, d < 4 ∧ sp_nb w h c d = some x ∧ farN w x home + 1 = farN w c home := by
  have hm := Nat.mod_lt home hw
  have hq : home / w < h := Nat.div_lt_of_lt_mul hh
  have key : ∀ d x, d < 4 → sp_nb w h c d = some x → farN w x home + 1 = farN w c home → ∃ d x, d < 4 ∧ sp_nb w h c d = some x ∧ farN w x home + 1 = farN w c home := fun d x h1 h2 h3 => ⟨d, x, h1, h2, h3⟩
  by_cases c1 : c % w < home % w
  · have e : sp_nb w h c 0 = some (c + 1) := by rw [sp_nb0, if_pos (by omega)]
    refine key 0 _ (by decide) e ?_
    have e0 := Nat.div_add_mod c w
    obtain ⟨z1, z2⟩ := crd_of (c := c + 1) (q := c / w) (r := c % w + 1) (w := w) (by omega) (by omega)
    unfold farN ndist
    rw [z1, z2]
    repeat' split
    all_goals omega
  · by_cases c2 : home % w < c % w
    · have e : sp_nb w h c 1 = some (c - 1) := by rw [sp_nb1, if_pos (by omega)]
      refine key 1 _ (by decide) e ?_
      have e0 := Nat.div_add_mod c w
      have hcm := Nat.mod_lt c hw
      obtain ⟨z1, z2⟩ := crd_of (c := c - 1) (q := c / w) (r := c % w - 1) (w := w) (by omega) (by omega)
      unfold farN ndist
      rw [z1, z2]
      repeat' split
      all_goals omega
    · by_cases c3 : c / w < home / w
      · have e : sp_nb w h c 2 = some (c + w) := by rw [sp_nb2, if_pos (by omega)]
        refine key 2 _ (by decide) e ?_
        have e0 := Nat.div_add_mod c w
        have hcm := Nat.mod_lt c hw
        have : w * (c / w + 1) = w * (c / w) + w := Nat.mul_succ w (c / w)
        obtain ⟨z1, z2⟩ := crd_of (c := c + w) (q := c / w + 1) (r := c % w) (w := w) hcm (by omega)
        unfold farN ndist
        rw [z1, z2]
        repeat' split
        all_goals omega
      · have c4 : home / w < c / w := by
          unfold farN ndist at hf
          rcases Nat.lt_or_ge (home / w) (c / w) with z | z
          · exact z
          · rw [if_neg c1, if_neg c3] at hf
            omega
        have c5 : 0 < c / w := Nat.lt_of_le_of_lt (Nat.zero_le _) c4
        have e : sp_nb w h c 3 = some (c - w) := by rw [sp_nb3, if_pos c5]
        refine key 3 _ (by decide) e ?_
        have e0 := Nat.div_add_mod c w
        have hcm := Nat.mod_lt c hw
        obtain ⟨q, hq'⟩ : ∃ q, c / w = q + 1 := ⟨c / w - 1, by omega⟩
        have : w * (q + 1) = w * q + w := Nat.mul_succ w q
        rw [hq'] at e0
        obtain ⟨z1, z2⟩ := crd_of (c := c - w) (q := q) (r := c % w) (w := w) hcm (by omega)
        unfold farN ndist
        rw [z1, z2]
        repeat' split
        all_goals omega
/-- the cells within d steps of a house -/
def nrB (w h home d : Nat) : Nat → Bool := fun c => decide (c < w * h) && decide (farN w c home ≤ d)
theorem nr_iff {w h home d c : Nat} : nrB w h home d c = true ↔ c < w * h ∧ farN w c home ≤ d := by
  unfold nrB
  rw [Bool.and_eq_true, decide_eq_true_iff, decide_eq_true_iff]
theorem nr_step {w h home d c : Nat} (hw : 2 ≤ w) (hh : home < w * h) : (nrB w h home d c || spr w h (nrB w h home d) c) = nrB w h home (d + 1) c := by
  have key : ∀ {p q : Bool}, (p = true ↔ q = true) → p = q := fun {p q} h => by cases p <;> cases q <;> simp_all
  apply key
  rw [Bool.or_eq_true, nr_iff, nr_iff, spr_iff]
  constructor
  · rintro (⟨z1, z2⟩ | ⟨x, z1, z2, e, z3, z4⟩)
    · exact ⟨z1, by omega⟩
    · have := nb_far (home := home) (by omega) z3 z4
      have := (nr_iff.mp z2).2
      exact ⟨sp_nb_lt (by omega) z1 z4, by omega⟩
  · rintro ⟨z1, z2⟩
    by_cases z : farN w c home ≤ d
    · exact Or.inl ⟨z1, z⟩
    · obtain ⟨e, x, y1, y2, y3⟩ := far_nb (by omega) z1 hh (show 0 < farN w c home by omega)
      have hx := sp_nb_lt (by omega) z1 y2
      obtain ⟨e', y4, y5⟩ := nb_sym hw z1 y1 y2
      exact Or.inr ⟨x, hx, nr_iff.mpr ⟨hx, by omega⟩, e', y4, y5⟩
theorem nr_zero {w h home c : Nat} (hw : 0 < w) (hh : home < w * h) : nrB w h home 0 c = decide (c = home) := by
  have key : ∀ {p q : Bool}, (p = true ↔ q = true) → p = q := fun {p q} h => by cases p <;> cases q <;> simp_all
  apply key
  rw [nr_iff, decide_eq_true_iff]
  constructor
  · rintro ⟨z1, z2⟩
    have e1 := Nat.div_add_mod c w
    have e2 := Nat.div_add_mod home w
    unfold farN ndist at z2
    have h1 : c % w = home % w := by
      revert z2
      repeat' split
      all_goals omega
    have h2 : c / w = home / w := by
      revert z2
      repeat' split
      all_goals omega
    rw [h1, h2] at e1
    omega
  · rintro rfl
    refine ⟨hh, ?_⟩
    unfold farN ndist
    rw [if_neg (Nat.lt_irrefl _), if_neg (Nat.lt_irrefl _)]
    omega
def nrN (w h home : Nat) (st : Nat → Nat) : Nat → Nat → Nat
  | 0, _ => 0
  | d + 1, n => nrN w h home st d n + sp_ct (fun c => (decide (st c = 1) && nrB w h home d c) = true) n
theorem nrN_le {w h home n : Nat} {st : Nat → Nat} : ∀ d, nrN w h home st d n ≤ d * n
  | 0 => by show 0 ≤ _; omega
  | d + 1 => by
    have ih := nrN_le (w := w) (h := h) (home := home) (n := n) (st := st) d
    have := sp_ct_le (p := fun c => (decide (st c = 1) && nrB w h home d c) = true) n
    show nrN w h home st d n + _ ≤ _
    rw [Nat.succ_mul]
    omega
theorem nrN_s {w h home n : Nat} {st : Nat → Nat} : ∀ d, nrN w h home st d (n + 1) = nrN w h home st d n + (if n < w * h ∧ st n = 1 then d - farN w n home else 0)
  | 0 => by
    show 0 = 0 + _
    split <;> omega
  | d + 1 => by
    have ih := nrN_s (w := w) (h := h) (home := home) (n := n) (st := st) d
    show nrN w h home st d (n + 1) + (sp_ct (fun c => (decide (st c = 1) && nrB w h home d c) = true) n + (if (decide (st n = 1) && nrB w h home d n) = true then 1 else 0)) = (nrN w h home st d n + sp_ct (fun c => (decide (st c = 1) && nrB w h home d c) = true) n) + _
    rw [ih]
    have e : ((decide (st n = 1) && nrB w h home d n) = true) ↔ ((n < w * h ∧ st n = 1) ∧ farN w n home ≤ d) := by
      rw [Bool.and_eq_true, nr_iff, decide_eq_true_iff]
      constructor
      · rintro ⟨h1, h2, h3⟩; exact ⟨⟨h2, h1⟩, h3⟩
      · rintro ⟨⟨h2, h1⟩, h3⟩; exact ⟨h1, h2, h3⟩
    by_cases z : n < w * h ∧ st n = 1
    · rw [if_pos z, if_pos z]
      by_cases y : farN w n home ≤ d
      · rw [if_pos (e.mpr ⟨z, y⟩)]; omega
      · rw [if_neg (fun q => y (e.mp q).2)]; omega
    · rw [if_neg z, if_neg z, if_neg (fun q => z (e.mp q).1)]
      omega
theorem nrN_g {w h home : Nat} {st : Nat → Nat} : ∀ n, n ≤ w * h → nrN w h home st 4 n = gsum w st home n
  | 0, _ => rfl
  | n + 1, hn => by
    have ih := nrN_g (w := w) (h := h) (home := home) (st := st) n (by omega)
    rw [nrN_s, ih]
    show _ = gsum w st home n + _
    congr 1
    by_cases z : st n = 1
    · rw [if_pos ⟨by omega, z⟩]
      by_cases y : farN w n home < 4
      · rw [if_pos ⟨y, z⟩]
      · rw [if_neg (fun q => y q.1)]; omega
    · rw [if_neg (fun q => z q.2), if_neg (fun q => z q.2)]
theorem nrN_x {w h home : Nat} {st : Nat → Nat} : ∀ k, nrN w h home st 4 (w * h + k) = gsum w st home (w * h)
  | 0 => nrN_g _ (Nat.le_refl _)
  | k + 1 => by
    show nrN w h home st 4 (w * h + k + 1) = _
    rw [nrN_s, nrN_x k, if_neg (fun z => by omega)]
    rfl
section GAS
variable {w h : Nat} {a : Nat → Int32} {I : pvI} {J : pvJ} {P : pvP}
theorem c_nearness {home : Nat} {r : fS} (hP : pvOkP P) (hg : gridOk w h I J) (hh : home < w * h) : pvMet mX11_nearness 1 0 0 [.ref 1, .long (mk (mB r)), .int (nI home)] 224 I J P (pvpu (.int (nI (gsum w r.1 home (w * h)))) 224 I J P) := by
  have hwh := hg.wh
  have hw := hg.2.2.2.2.2.2.1
  have bt := t_bit (nx := 224) (k := home) (I := I) (J := J) (P := P) (by omega)
  rw [show mk (fun c => decide (c = home)) = mk (nrB w h home 0) from mk_cong (fun c _ => (nr_zero (by omega) hh).symm)] at bt
  have hfin : nrN w h home r.1 4 64 = gsum w r.1 home (w * h) := by
    obtain ⟨k, hk⟩ : ∃ k, 64 = w * h + k := ⟨64 - w * h, by omega⟩
    rw [hk]
    exact nrN_x k
  have lp : ∀ q d, d + q = 4 → pvG mX11_nearness (pvR 1 0 0) (pvZ (pvpu (.int (nI (gsum w r.1 home (w * h)))) 224 I J P) 0 0) 12 [.ref 1, .long (mk (mB r)), .retAddr 0, .int (nI home), .long (mk (nrB w h home d)), .retAddr 0, .int (nI (nrN w h home r.1 d 64)), .int (nI d)] [] 0 0 224 I J P := by
    intro q
    induction q with
    | zero =>
      intro d hd
      obtain rfl : d = 4 := by omega
      rw [hfin]
      refine g_iload dX11_nearness_12 rfl ?_
      refine g_iconst (v := nI 3) dX11_nearness_14 (by decide) ?_
      refine n_icmp_gt 50 dX11_nearness_15 (by decide) (by first | ((with_reducible apply cN_lt) <;> omega) | ((with_reducible apply cI_ltn) <;> omega) | ((with_reducible apply cI_nlt) <;> omega) | (with_reducible exact cI_lt)) (fun c15 => ?_) (fun c15 => by exfalso; first | omega | exact absurd trivial c15 | exact c15 | (simp at c15))
      refine g_iload dX11_nearness_50 rfl ?_
      exact g_iret dX11_nearness_52 rfl (⟨rfl, rfl, rfl, rfl, rfl⟩)
    | succ q ih =>
      intro d hd
      have nx := ih (d + 1) (by omega)
      have bc := t_bitCount (nx := 224) (f := fun c => mB r c && nrB w h home d c) (I := I) (J := J) (P := P)
      have sp := c_spread (P := P) hg (f := nrB w h home d) (fun c hc => (nr_iff.mp hc).1)
      have l1 := nrN_le (w := w) (h := h) (home := home) (n := 64) (st := r.1) d
      have l2 : d * 64 ≤ 4 * 64 := Nat.mul_le_mul_right _ (by omega)
      have l3 := sp_ct_le (p := fun c => (mB r c && nrB w h home d c) = true) 64
      have es : nrN w h home r.1 (d + 1) 64 = nrN w h home r.1 d 64 + sp_ct (fun c => (mB r c && nrB w h home d c) = true) 64 := rfl
      rw [es] at nx
      generalize sp_ct (fun c => (mB r c && nrB w h home d c) = true) 64 = N at *
      generalize nrN w h home r.1 d 64 = M at *
      have e2 : mk (nrB w h home d) ||| mk (spr w h (nrB w h home d)) = mk (nrB w h home (d + 1)) := mk_or.trans (mk_cong (fun c _ => nr_step (by omega) hh))
      refine g_iload dX11_nearness_12 rfl ?_
      refine g_iconst (v := nI 3) dX11_nearness_14 (by decide) ?_
      refine n_icmp_gt 50 dX11_nearness_15 (by decide) (by first | ((with_reducible apply cN_lt) <;> omega) | ((with_reducible apply cI_ltn) <;> omega) | ((with_reducible apply cI_nlt) <;> omega) | (with_reducible exact cI_lt)) (fun c15 => by exfalso; first | omega | exact absurd trivial c15 | exact c15 | (simp at c15)) (fun c15 => ?_)
      refine g_iload dX11_nearness_18 rfl ?_
      refine g_lload_n dX11_nearness_20 rfl ?_
      refine g_lload dX11_nearness_21 rfl ?_
      refine n_land dX11_nearness_23 (mk_and) ?_
      refine p_callS (bc) okJ13_bitCount_95d88 lkX11_426 rfl dX11_nearness_24 rfl (Nat.le_of_ble_eq_true rfl) (⟨by decide, by decide, by decide, by decide⟩) ?_
      refine n_iadd dX11_nearness_27 (by first | (with_reducible exact nI_add _ _) | rfl) ?_
      refine g_istore dX11_nearness_28 (by decide) rfl ?_
      refine g_lload dX11_nearness_30 rfl ?_
      refine g_aload_n dX11_nearness_32 rfl ?_
      refine g_getP dX11_nearness_33 fdX11_21 rfl (by first | rfl | exact pv_shx) (by omega) (by omega) (by decide) rfl (hP _ _ _ rfl) ?_
      refine g_lload dX11_nearness_36 rfl ?_
      refine p_callV (sp) okX2_spread lkX11_472 rfl (by first | rfl | exact pv_shx) rfl (by omega) (by omega) dX11_nearness_38 rfl (Nat.le_of_ble_eq_true rfl) (⟨by decide, by decide, by decide, by decide⟩) ?_
      refine n_lor dX11_nearness_41 (e2) ?_
      refine g_lstore dX11_nearness_42 (by decide) rfl ?_
      refine g_iinc dX11_nearness_44 rfl (by first | (with_reducible exact nI_1 _) | exact nI_1 _ | exact pk_m1 _ | rfl) (by decide) rfl ?_
      refine g_goto 12 dX11_nearness_47 (by decide) ?_
      exact nx
  refine pvMet.of _ (by decide) rfl (Nat.le_of_ble_eq_true rfl) ?_
  refine g_iload_n dX11_nearness_0 rfl ?_
  refine p_callS (bt) okX11_bit lkX11_468 rfl dX11_nearness_1 rfl (Nat.le_of_ble_eq_true rfl) (⟨by decide, by decide, by decide, by decide⟩) ?_
  refine g_lstore dX11_nearness_4 (by decide) rfl ?_
  refine g_iconst (v := nI 0) dX11_nearness_6 (by decide) ?_
  refine g_istore dX11_nearness_7 (by decide) rfl ?_
  refine g_iconst (v := nI 0) dX11_nearness_9 (by decide) ?_
  refine g_istore dX11_nearness_10 (by decide) rfl ?_
  exact lp 4 0 rfl
theorem kB.n5 (hb : kB w h a I J) : cnt a 5 ≤ 20 ∧ I 27 0 = nI (cnt a 5) := by
  obtain ⟨k3, k3b, -⟩ := mG_eq hb.2.2.2.2.1.1 (i := 5) (by decide)
  exact ⟨k3b, by rw [hb.2.1.2.2.2.2.1.1]; exact k3⟩
theorem c_gasOf {k m g : Nat} {hi : Int32} {high : Bool} (hP : pvOkP P) (hb : kB w h a I J) (hse : seenT w h a g I J) (hmg : m ≤ g) (hg : g ≤ 99) (hk : k < cnt a 5) (hhb : hi = 0 ↔ high = false) : pvMet mX11_gasOf 2 0 0 [.ref 1, .int (nI k), .int (nI m), .int hi, .int (nI (ltN w h a (cnt a 0)))] 224 I J P (pvpu (.int (nI (gasN w h a k m high))) 224 I J P) := by
  obtain ⟨n3, r3⟩ := hb.n3
  obtain ⟨n5, -⟩ := hb.n5
  have hwh := hb.1.wh
  obtain ⟨⟨hm1, hm2, hm3⟩, ⟨cr, cr1, cr2⟩, -⟩ := hb.2.2.2.2.2.2.1.2.1 k hk
  have hm4 : cnt a (1080 + 5 * k) = hm1 := cnt_of hm3 (by omega)
  have cr3 : cnt a (1080 + 5 * k + 1) = cr := cnt_of cr2 (by omega)
  have rc : I 28 k = nI hm1 := by rw [(hb.2.1.2.2.2.2.1.2.1 k hk).1]; exact hm3
  have rk : I 29 k = nI cr := by rw [(hb.2.1.2.2.2.2.1.2.1 k hk).2.1]; exact cr2
  have hgl : ∀ s, gsum w (fwk w h a 0 none s m).1 hm1 (w * h) ≤ 256 := fun s => by
    have h1 := gsum_le (w := w) (st := (fwk w h a 0 none s m).1) (home := hm1) (w * h)
    omega
  unfold gasN
  generalize hfs : gasS w h a k m = fs at *
  have hfsv : ∀ s, fs s = gsum w (fwk w h a 0 none s m).1 hm1 (w * h) * cr := fun s => by rw [← hfs]; unfold gasS; rw [hm4, cr3]
  have hfle : ∀ s, fs s ≤ 2304 := fun s => by
    rw [hfsv s]
    exact Nat.le_trans (Nat.mul_le_mul (hgl s) cr1) (by decide)
  have hll := ltN_lt (w := w) (h := h) (a := a) (kn := cnt a 0) n3
  have hdm : ∀ i, ltN w h a (cnt a 0) / 2 ^ i % 2 = 1 ↔ (i < cnt a 3 ∧ letB w h a i (cnt a 0) = true) := fun i => bN_dm
  generalize ltN w h a (cnt a 0) = lt at *
  generalize hlt : (fun s => letB w h a s (cnt a 0)) = lf at *
  have hlf : ∀ s, letB w h a s (cnt a 0) = lf s := fun s => by rw [← hlt]
  generalize hZ : pvZ (pvpu (.int (nI ((gsB fs lf high (cnt a 3)).getD 0))) 224 I J P) 0 0 = Z
  have lp : ∀ q s, s + q = cnt a 3 → pvG mX11_gasOf (pvR 2 0 0) Z 6 [.ref 1, .int (nI k), .int (nI m), .int hi, .int (nI lt), .int (stv (gsB fs lf high s)), .int (nI s), .retAddr 0] [] 0 0 224 I J P := by
    intro q
    induction q with
    | zero =>
      intro s hs
      obtain rfl : s = cnt a 3 := by omega
      subst hZ
      cases hb' : gsB fs lf high (cnt a 3) with
      | none =>
        refine g_iload dX11_gasOf_6 rfl ?_
        refine g_aload_n dX11_gasOf_8 rfl ?_
        refine g_getP dX11_gasOf_9 fdX11_32 rfl (by first | rfl | exact pv_shx) (by omega) (by omega) (by decide) rfl (hP _ _ _ rfl) ?_
        refine g_getP dX11_gasOf_12 fdX11_163 rfl (by first | rfl | exact pv_shx) (by omega) (by omega) (by decide) rfl (hP _ _ _ rfl) ?_
        refine n_getI dX11_gasOf_15 fdX11_167 rfl (by first | rfl | exact pv_shx) (by omega) (by omega) (by decide) rfl (by repeat (first | exact r3 | (apply rd_s; done) | apply rd_n (by omega) | apply rp_s | apply rp_n (by omega) | (apply rdL_s; done) | apply rdL_n (by omega) | apply rpJ_s | apply rpJ_n (by omega) | rfl)) ?_
        refine n_icmp_ge 111 dX11_gasOf_18 (by decide) (by first | ((with_reducible apply cN_le) <;> omega) | ((with_reducible apply cI_len) <;> omega) | ((with_reducible apply cI_nle) <;> omega) | (with_reducible exact cI_le)) (fun c18 => ?_) (fun c18 => by exfalso; first | omega | exact absurd trivial c18 | exact c18 | (simp at c18))
        refine g_iconst (v := nI 0) dX11_gasOf_111 (by decide) ?_
        refine g_iload dX11_gasOf_112 rfl ?_
        refine g_mmax dX11_gasOf_114 lkX11_15 (by decide) (Nat.le_of_ble_eq_true rfl) (by decide) (by decide) (show (if nI 0 < (-1 : Int32) then (-1 : Int32) else nI 0) = nI 0 from rfl) ?_
        exact g_iret dX11_gasOf_117 rfl (⟨rfl, rfl, rfl, rfl, rfl⟩)
      | some b =>
        have hbl := gsB_le hfle hb'
        refine g_iload dX11_gasOf_6 rfl ?_
        refine g_aload_n dX11_gasOf_8 rfl ?_
        refine g_getP dX11_gasOf_9 fdX11_32 rfl (by first | rfl | exact pv_shx) (by omega) (by omega) (by decide) rfl (hP _ _ _ rfl) ?_
        refine g_getP dX11_gasOf_12 fdX11_163 rfl (by first | rfl | exact pv_shx) (by omega) (by omega) (by decide) rfl (hP _ _ _ rfl) ?_
        refine n_getI dX11_gasOf_15 fdX11_167 rfl (by first | rfl | exact pv_shx) (by omega) (by omega) (by decide) rfl (by repeat (first | exact r3 | (apply rd_s; done) | apply rd_n (by omega) | apply rp_s | apply rp_n (by omega) | (apply rdL_s; done) | apply rdL_n (by omega) | apply rpJ_s | apply rpJ_n (by omega) | rfl)) ?_
        refine n_icmp_ge 111 dX11_gasOf_18 (by decide) (by first | ((with_reducible apply cN_le) <;> omega) | ((with_reducible apply cI_len) <;> omega) | ((with_reducible apply cI_nle) <;> omega) | (with_reducible exact cI_le)) (fun c18 => ?_) (fun c18 => by exfalso; first | omega | exact absurd trivial c18 | exact c18 | (simp at c18))
        refine g_iconst (v := nI 0) dX11_gasOf_111 (by decide) ?_
        refine g_iload dX11_gasOf_112 rfl ?_
        refine g_mmax dX11_gasOf_114 lkX11_15 (by decide) (Nat.le_of_ble_eq_true rfl) (by decide) (by decide) ((mm_max (a := 0) (b := b) (by omega) (by omega)).trans (by rw [show max 0 b = b by omega])) ?_
        exact g_iret dX11_gasOf_117 rfl (⟨rfl, rfl, rfl, rfl, rfl⟩)
    | succ q ih =>
      intro s hs
      have nx := ih (s + 1) (by omega)
      have ii := c_isIn (nx := 224) (k := s) (I := I) (J := J) (P := P) (n := lt) (by omega) (by omega)
      have e : gsB fs lf high (s + 1) = if lf s = true then (match gsB fs lf high s with
        | none => some (fs s)
        | some b => if (if high = true then b < fs s else fs s < b) then some (fs s) else some b) else gsB fs lf high s := rfl
      obtain ⟨⟨s0, s1, s2, s3, s4, s5⟩, -⟩ := (fad_ok (show s < 9 by omega)).sh
      have p12 := ((fad_ok (show s < 9 by omega)).pp hP).2.2.1
      have bs := fad_lt (show s < 8 by omega)
      obtain ⟨sn, sn1, hv⟩ := hse s (by omega)
      have hfw := (hv.2.2.1 m (by omega)).1
      have ne := c_nearness (home := hm1) (r := fwk w h a 0 none s m) hP hb.1 hm2
      have fl := hfle s
      have mu : nI cr * nI (gsum w (fwk w h a 0 none s m).1 hm1 (w * h)) = nI (fs s) := by
        rw [hfsv s, pk_mul, Nat.mul_comm cr]
      by_cases hl : lf s = true
      · have hz : lt / 2 ^ s % 2 = 1 := (hdm s).mpr ⟨by omega, by rw [hlf]; exact hl⟩
        rw [if_pos hz] at ii
        rw [if_pos hl] at e
        have f31 : ∀ bv, stv (gsB fs lf high s) = bv → pvG mX11_gasOf (pvR 2 0 0) Z 74 [.ref 1, .int (nI k), .int (nI m), .int hi, .int (nI lt), .int bv, .int (nI s), .int (nI (fs s))] [] 0 0 224 I J P → pvG mX11_gasOf (pvR 2 0 0) Z 6 [.ref 1, .int (nI k), .int (nI m), .int hi, .int (nI lt), .int (stv (gsB fs lf high s)), .int (nI s), .retAddr 0] [] 0 0 224 I J P := by
          rintro bv rfl kk
          refine g_iload dX11_gasOf_6 rfl ?_
          refine g_aload_n dX11_gasOf_8 rfl ?_
          refine g_getP dX11_gasOf_9 fdX11_32 rfl (by first | rfl | exact pv_shx) (by omega) (by omega) (by decide) rfl (hP _ _ _ rfl) ?_
          refine g_getP dX11_gasOf_12 fdX11_163 rfl (by first | rfl | exact pv_shx) (by omega) (by omega) (by decide) rfl (hP _ _ _ rfl) ?_
          refine n_getI dX11_gasOf_15 fdX11_167 rfl (by first | rfl | exact pv_shx) (by omega) (by omega) (by decide) rfl (by repeat (first | exact r3 | exact rc | exact rk | exact hfw | (apply rd_s; done) | apply rd_n (by omega) | apply rp_s | apply rp_n (by omega) | (apply rdL_s; done) | apply rdL_n (by omega) | apply rpJ_s | apply rpJ_n (by omega) | rfl)) ?_
          refine n_icmp_ge 111 dX11_gasOf_18 (by decide) (by first | ((with_reducible apply cN_le) <;> omega) | ((with_reducible apply cI_len) <;> omega) | ((with_reducible apply cI_nle) <;> omega) | (with_reducible exact cI_le)) (fun c18 => by exfalso; first | omega | exact absurd trivial c18 | exact c18 | (simp at c18)) (fun c18 => ?_)
          refine g_iload dX11_gasOf_21 rfl ?_
          refine g_iload dX11_gasOf_23 rfl ?_
          refine p_callS (ii) okX11_isIn lkX11_243 rfl dX11_gasOf_25 rfl (Nat.le_of_ble_eq_true rfl) (⟨by decide, by decide, by decide, by decide⟩) ?_
          refine n_if_eq 105 dX11_gasOf_28 (by decide) (by first | (with_reducible exact cB _) | ((with_reducible apply cN_eq0) <;> omega) | exact Iff.rfl) (fun c28 => by exfalso; first | omega | exact absurd trivial c28 | exact c28 | (simp at c28)) (fun c28 => ?_)
          refine g_aload_n dX11_gasOf_31 rfl ?_
          refine g_getP dX11_gasOf_32 fdX11_32 rfl (by first | rfl | exact pv_shx) (by omega) (by omega) (by decide) rfl (hP _ _ _ rfl) ?_
          refine g_getP dX11_gasOf_35 fdX11_277 rfl (by first | rfl | exact pv_shx) (by omega) (by omega) (by decide) rfl (hP _ _ _ rfl) ?_
          refine g_getP dX11_gasOf_38 fdX11_458 rfl (by first | rfl | exact pv_shx) (by omega) (by omega) (by decide) rfl (hP _ _ _ rfl) ?_
          refine g_iload_n dX11_gasOf_41 rfl ?_
          refine n_iald dX11_gasOf_42 (by first | rfl | exact pv_shx) (by omega) (by omega) (by decide) (rfl) (by omega) (by repeat (first | exact r3 | exact rc | exact rk | exact hfw | (apply rd_s; done) | apply rd_n (by omega) | apply rp_s | apply rp_n (by omega) | (apply rdL_s; done) | apply rdL_n (by omega) | apply rpJ_s | apply rpJ_n (by omega) | rfl)) ?_
          refine g_aload_n dX11_gasOf_43 rfl ?_
          refine g_aload_n dX11_gasOf_44 rfl ?_
          refine g_getP dX11_gasOf_45 fdX11_41 rfl (by first | rfl | exact pv_shx) (by omega) (by omega) (by decide) rfl (hP _ _ _ rfl) ?_
          refine g_iload dX11_gasOf_48 rfl ?_
          refine g_aald _ dX11_gasOf_50 (by first | exact Or.inl rfl | exact Or.inr rfl) (by omega) (by omega) (by decide) (rfl) (by omega) (fires_P hP (by omega)) ?_
          refine g_getP dX11_gasOf_51 fdX11_212 rfl (s0) (by omega) (by omega) (by decide) rfl (p12) ?_
          refine g_iload_n dX11_gasOf_54 rfl ?_
          refine n_lald dX11_gasOf_55 (s3) (by omega) (by omega) (by decide) (rfl) (by omega) (by repeat (first | exact r3 | exact rc | exact rk | exact hfw | (apply rd_s; done) | apply rd_n (by omega) | apply rp_s | apply rp_n (by omega) | (apply rdL_s; done) | apply rdL_n (by omega) | apply rpJ_s | apply rpJ_n (by omega) | rfl)) ?_
          refine g_aload_n dX11_gasOf_56 rfl ?_
          refine g_getP dX11_gasOf_57 fdX11_32 rfl (by first | rfl | exact pv_shx) (by omega) (by omega) (by decide) rfl (hP _ _ _ rfl) ?_
          refine g_getP dX11_gasOf_60 fdX11_277 rfl (by first | rfl | exact pv_shx) (by omega) (by omega) (by decide) rfl (hP _ _ _ rfl) ?_
          refine g_getP dX11_gasOf_63 fdX11_461 rfl (by first | rfl | exact pv_shx) (by omega) (by omega) (by decide) rfl (hP _ _ _ rfl) ?_
          refine g_iload_n dX11_gasOf_66 rfl ?_
          refine n_iald dX11_gasOf_67 (by first | rfl | exact pv_shx) (by omega) (by omega) (by decide) (rfl) (by omega) (by repeat (first | exact r3 | exact rc | exact rk | exact hfw | (apply rd_s; done) | apply rd_n (by omega) | apply rp_s | apply rp_n (by omega) | (apply rdL_s; done) | apply rdL_n (by omega) | apply rpJ_s | apply rpJ_n (by omega) | rfl)) ?_
          refine p_callV (ne) okX11_nearness lkX11_464 rfl (by first | rfl | exact pv_shx) rfl (by omega) (by omega) dX11_gasOf_68 rfl (Nat.le_of_ble_eq_true rfl) (⟨by decide, by decide, by decide, by decide⟩) ?_
          refine n_imul dX11_gasOf_71 (mu) ?_
          refine g_istore dX11_gasOf_72 (by decide) rfl ?_
          exact kk
        obtain ⟨bst, hbst⟩ : ∃ b, gsB fs lf high s = b := ⟨_, rfl⟩
        rw [hbst] at e
        cases bst with
        | none =>
          rw [e] at nx
          refine f31 (-1) (by rw [hbst]; rfl) ?_
          refine g_iload dX11_gasOf_74 rfl ?_
          refine g_iconst (v := (-1)) dX11_gasOf_76 (by decide) ?_
          refine n_icmp_eq 101 dX11_gasOf_77 (by decide) (Iff.rfl) (fun c77 => ?_) (fun c77 => by exfalso; exact c77 rfl)
          refine g_iload dX11_gasOf_101 rfl ?_
          refine g_istore dX11_gasOf_103 (by decide) rfl ?_
          refine g_iinc dX11_gasOf_105 rfl (by first | (with_reducible exact nI_1 _) | exact nI_1 _ | exact pk_m1 _ | rfl) (by decide) rfl ?_
          refine g_goto 6 dX11_gasOf_108 (by decide) ?_
          exact g_drop _ (by repeat (first | exact trivial | refine ⟨Or.inr ⟨_, rfl⟩, ?_⟩ | refine ⟨Or.inl rfl, ?_⟩)) nx
        | some b =>
          have hbl := gsB_le hfle hbst
          refine f31 (nI b) (by rw [hbst]; rfl) ?_
          have hne : (nI b = -1) ↔ False := by
            rw [cI_m1, nI_toInt (by omega)]
            exact ⟨fun z => by omega, False.elim⟩
          cases hhi : high with
          | true =>
            have h0 : ¬ hi = 0 := fun z => by rw [hhb.mp z] at hhi; cases hhi
            rw [hhi] at e nx
            by_cases c : b < fs s
            · rw [show gsB fs lf true (s + 1) = some (fs s) from e.trans (if_pos (by rw [if_pos rfl]; exact c))] at nx
              refine g_iload dX11_gasOf_74 rfl ?_
              refine g_iconst (v := (-1)) dX11_gasOf_76 (by decide) ?_
              refine n_icmp_eq 101 dX11_gasOf_77 (by decide) (hne) (fun c77 => by exfalso; first | omega | exact absurd trivial c77 | exact c77 | (simp at c77)) (fun c77 => ?_)
              refine g_iload_n dX11_gasOf_80 rfl ?_
              refine n_if_eq 94 dX11_gasOf_81 (by decide) (Iff.rfl) (fun c81 => by exfalso; exact h0 c81) (fun c81 => ?_)
              refine g_iload dX11_gasOf_84 rfl ?_
              refine g_iload dX11_gasOf_86 rfl ?_
              refine n_icmp_le 105 dX11_gasOf_88 (by decide) (by first | ((with_reducible apply cN_le) <;> omega) | ((with_reducible apply cI_len) <;> omega) | ((with_reducible apply cI_nle) <;> omega) | (with_reducible exact cI_le)) (fun c88 => by exfalso; first | omega | exact absurd trivial c88 | exact c88 | (simp at c88)) (fun c88 => ?_)
              refine g_goto 101 dX11_gasOf_91 (by decide) ?_
              refine g_iload dX11_gasOf_101 rfl ?_
              refine g_istore dX11_gasOf_103 (by decide) rfl ?_
              refine g_iinc dX11_gasOf_105 rfl (by first | (with_reducible exact nI_1 _) | exact nI_1 _ | exact pk_m1 _ | rfl) (by decide) rfl ?_
              refine g_goto 6 dX11_gasOf_108 (by decide) ?_
              exact g_drop _ (by repeat (first | exact trivial | refine ⟨Or.inr ⟨_, rfl⟩, ?_⟩ | refine ⟨Or.inl rfl, ?_⟩)) nx
            · rw [show gsB fs lf true (s + 1) = some b from e.trans (if_neg (by rw [if_pos rfl]; exact c))] at nx
              refine g_iload dX11_gasOf_74 rfl ?_
              refine g_iconst (v := (-1)) dX11_gasOf_76 (by decide) ?_
              refine n_icmp_eq 101 dX11_gasOf_77 (by decide) (hne) (fun c77 => by exfalso; first | omega | exact absurd trivial c77 | exact c77 | (simp at c77)) (fun c77 => ?_)
              refine g_iload_n dX11_gasOf_80 rfl ?_
              refine n_if_eq 94 dX11_gasOf_81 (by decide) (Iff.rfl) (fun c81 => by exfalso; exact h0 c81) (fun c81 => ?_)
              refine g_iload dX11_gasOf_84 rfl ?_
              refine g_iload dX11_gasOf_86 rfl ?_
              refine n_icmp_le 105 dX11_gasOf_88 (by decide) (by first | ((with_reducible apply cN_le) <;> omega) | ((with_reducible apply cI_len) <;> omega) | ((with_reducible apply cI_nle) <;> omega) | (with_reducible exact cI_le)) (fun c88 => ?_) (fun c88 => by exfalso; first | omega | exact absurd trivial c88 | exact c88 | (simp at c88))
              refine g_iinc dX11_gasOf_105 rfl (by first | (with_reducible exact nI_1 _) | exact nI_1 _ | exact pk_m1 _ | rfl) (by decide) rfl ?_
              refine g_goto 6 dX11_gasOf_108 (by decide) ?_
              exact g_drop _ (by repeat (first | exact trivial | refine ⟨Or.inr ⟨_, rfl⟩, ?_⟩ | refine ⟨Or.inl rfl, ?_⟩)) nx
          | false =>
            have h0 : hi = 0 := hhb.mpr hhi
            rw [hhi] at e nx
            by_cases c : fs s < b
            · rw [show gsB fs lf false (s + 1) = some (fs s) from e.trans (if_pos (by rw [if_neg (by decide)]; exact c))] at nx
              refine g_iload dX11_gasOf_74 rfl ?_
              refine g_iconst (v := (-1)) dX11_gasOf_76 (by decide) ?_
              refine n_icmp_eq 101 dX11_gasOf_77 (by decide) (hne) (fun c77 => by exfalso; first | omega | exact absurd trivial c77 | exact c77 | (simp at c77)) (fun c77 => ?_)
              refine g_iload_n dX11_gasOf_80 rfl ?_
              refine n_if_eq 94 dX11_gasOf_81 (by decide) (Iff.rfl) (fun c81 => ?_) (fun c81 => by exfalso; exact c81 h0)
              refine g_iload dX11_gasOf_94 rfl ?_
              refine g_iload dX11_gasOf_96 rfl ?_
              refine n_icmp_ge 105 dX11_gasOf_98 (by decide) (by first | ((with_reducible apply cN_le) <;> omega) | ((with_reducible apply cI_len) <;> omega) | ((with_reducible apply cI_nle) <;> omega) | (with_reducible exact cI_le)) (fun c98 => by exfalso; first | omega | exact absurd trivial c98 | exact c98 | (simp at c98)) (fun c98 => ?_)
              refine g_iload dX11_gasOf_101 rfl ?_
              refine g_istore dX11_gasOf_103 (by decide) rfl ?_
              refine g_iinc dX11_gasOf_105 rfl (by first | (with_reducible exact nI_1 _) | exact nI_1 _ | exact pk_m1 _ | rfl) (by decide) rfl ?_
              refine g_goto 6 dX11_gasOf_108 (by decide) ?_
              exact g_drop _ (by repeat (first | exact trivial | refine ⟨Or.inr ⟨_, rfl⟩, ?_⟩ | refine ⟨Or.inl rfl, ?_⟩)) nx
            · rw [show gsB fs lf false (s + 1) = some b from e.trans (if_neg (by rw [if_neg (by decide)]; exact c))] at nx
              refine g_iload dX11_gasOf_74 rfl ?_
              refine g_iconst (v := (-1)) dX11_gasOf_76 (by decide) ?_
              refine n_icmp_eq 101 dX11_gasOf_77 (by decide) (hne) (fun c77 => by exfalso; first | omega | exact absurd trivial c77 | exact c77 | (simp at c77)) (fun c77 => ?_)
              refine g_iload_n dX11_gasOf_80 rfl ?_
              refine n_if_eq 94 dX11_gasOf_81 (by decide) (Iff.rfl) (fun c81 => ?_) (fun c81 => by exfalso; exact c81 h0)
              refine g_iload dX11_gasOf_94 rfl ?_
              refine g_iload dX11_gasOf_96 rfl ?_
              refine n_icmp_ge 105 dX11_gasOf_98 (by decide) (by first | ((with_reducible apply cN_le) <;> omega) | ((with_reducible apply cI_len) <;> omega) | ((with_reducible apply cI_nle) <;> omega) | (with_reducible exact cI_le)) (fun c98 => ?_) (fun c98 => by exfalso; first | omega | exact absurd trivial c98 | exact c98 | (simp at c98))
              refine g_iinc dX11_gasOf_105 rfl (by first | (with_reducible exact nI_1 _) | exact nI_1 _ | exact pk_m1 _ | rfl) (by decide) rfl ?_
              refine g_goto 6 dX11_gasOf_108 (by decide) ?_
              exact g_drop _ (by repeat (first | exact trivial | refine ⟨Or.inr ⟨_, rfl⟩, ?_⟩ | refine ⟨Or.inl rfl, ?_⟩)) nx
      · have hz : ¬ lt / 2 ^ s % 2 = 1 := fun z => hl (by rw [← hlf]; exact ((hdm s).mp z).2)
        rw [if_neg hz] at ii
        rw [if_neg hl] at e
        rw [e] at nx
        refine g_iload dX11_gasOf_6 rfl ?_
        refine g_aload_n dX11_gasOf_8 rfl ?_
        refine g_getP dX11_gasOf_9 fdX11_32 rfl (by first | rfl | exact pv_shx) (by omega) (by omega) (by decide) rfl (hP _ _ _ rfl) ?_
        refine g_getP dX11_gasOf_12 fdX11_163 rfl (by first | rfl | exact pv_shx) (by omega) (by omega) (by decide) rfl (hP _ _ _ rfl) ?_
        refine n_getI dX11_gasOf_15 fdX11_167 rfl (by first | rfl | exact pv_shx) (by omega) (by omega) (by decide) rfl (by repeat (first | exact r3 | (apply rd_s; done) | apply rd_n (by omega) | apply rp_s | apply rp_n (by omega) | (apply rdL_s; done) | apply rdL_n (by omega) | apply rpJ_s | apply rpJ_n (by omega) | rfl)) ?_
        refine n_icmp_ge 111 dX11_gasOf_18 (by decide) (by first | ((with_reducible apply cN_le) <;> omega) | ((with_reducible apply cI_len) <;> omega) | ((with_reducible apply cI_nle) <;> omega) | (with_reducible exact cI_le)) (fun c18 => by exfalso; first | omega | exact absurd trivial c18 | exact c18 | (simp at c18)) (fun c18 => ?_)
        refine g_iload dX11_gasOf_21 rfl ?_
        refine g_iload dX11_gasOf_23 rfl ?_
        refine p_callS (ii) okX11_isIn lkX11_243 rfl dX11_gasOf_25 rfl (Nat.le_of_ble_eq_true rfl) (⟨by decide, by decide, by decide, by decide⟩) ?_
        refine n_if_eq 105 dX11_gasOf_28 (by decide) (by first | (with_reducible exact cB _) | ((with_reducible apply cN_eq0) <;> omega) | exact Iff.rfl) (fun c28 => ?_) (fun c28 => by exfalso; first | omega | exact absurd trivial c28 | exact c28 | (simp at c28))
        refine g_iinc dX11_gasOf_105 rfl (by first | (with_reducible exact nI_1 _) | exact nI_1 _ | exact pk_m1 _ | rfl) (by decide) rfl ?_
        refine g_goto 6 dX11_gasOf_108 (by decide) ?_
        exact nx
  refine pvMet.of _ (by decide) rfl (Nat.le_of_ble_eq_true rfl) ?_
  refine g_iconst (v := (-1)) dX11_gasOf_0 (by decide) ?_
  refine g_istore dX11_gasOf_1 (by decide) rfl ?_
  refine g_iconst (v := nI 0) dX11_gasOf_3 (by decide) ?_
  refine g_istore dX11_gasOf_4 (by decide) rfl ?_
  subst hZ; exact g_drop _ (by repeat (first | exact trivial | refine ⟨Or.inr ⟨_, rfl⟩, ?_⟩ | refine ⟨Or.inl rfl, ?_⟩)) (lp (cnt a 3) 0 (by omega))
theorem c_gas {k m hb' : Int32} (hP : pvOkP P) (hb : kB w h a I J) : pvMet mX11_gas 7 0 0 [.ref 1, .int k, .int m, .int hb'] 224 I J P (kQ w h a I J P (sp_gas w h a k m hb')) := by
  obtain ⟨n3, r3⟩ := hb.n3
  obtain ⟨n5, r5⟩ := hb.n5
  have ih := c_hasHouse (v := k) (J := J) (P := P) r5 (by omega)
  have iw := c_isWeek (nx := 224) (v := m) (I := I) (J := J) (P := P)
  by_cases hk : 0 ≤ k.toInt ∧ k.toInt < cnt a 5
  · rw [if_pos hk] at ih
    by_cases hm : 0 ≤ m.toInt ∧ m.toInt ≤ 99
    · rw [if_pos hm] at iw
      obtain ⟨kn, hkn, rfl⟩ := cI_of (x := k) (n := cnt a 5) (by omega) (by omega) (by omega)
      obtain ⟨mn, hmn, rfl⟩ := cI_of (x := m) (n := 100) (by omega) (by omega) (by omega)
      have ans : sp_gas w h a (nI kn) (nI mn) hb' = nI (gasN w h a kn mn (decide (hb' ≠ 0))) := by
        rw [sp_gas, if_pos ⟨hk, hm⟩, nI_clamp (by omega), nI_clamp (by omega)]
      rw [ans]
      have se := c_see (m := mn) hP hb (by omega)
      have n0 := hb.n0.1
      refine pvMet.of _ (by decide) rfl (Nat.le_of_ble_eq_true rfl) ?_
      refine g_aload_n dX11_gas_0 rfl ?_
      refine g_getP dX11_gas_1 fdX11_32 rfl (by first | rfl | exact pv_shx) (by omega) (by omega) (by decide) rfl (hP _ _ _ rfl) ?_
      refine g_getP dX11_gas_4 fdX11_277 rfl (by first | rfl | exact pv_shx) (by omega) (by omega) (by decide) rfl (hP _ _ _ rfl) ?_
      refine g_iload_n dX11_gas_7 rfl ?_
      refine p_callV (ih) okX7_hasHouse lkX11_287 rfl (by first | rfl | exact pv_shx) rfl (by omega) (by omega) dX11_gas_8 rfl (Nat.le_of_ble_eq_true rfl) (⟨by decide, by decide, by decide, by decide⟩) ?_
      refine n_if_eq 21 dX11_gas_11 (by decide) (by first | (with_reducible exact cB _) | ((with_reducible apply cN_eq0) <;> omega) | exact Iff.rfl) (fun c11 => by exfalso; first | omega | exact absurd trivial c11 | exact c11 | (simp at c11)) (fun c11 => ?_)
      refine g_iload_n dX11_gas_14 rfl ?_
      refine p_callS (iw) okX11_isWeek lkX11_160 rfl dX11_gas_15 rfl (Nat.le_of_ble_eq_true rfl) (⟨by decide, by decide, by decide, by decide⟩) ?_
      refine n_if_ne 23 dX11_gas_18 (by decide) (by first | (with_reducible exact cB _) | ((with_reducible apply cN_eq0) <;> omega) | exact Iff.rfl) (fun c18 => ?_) (fun c18 => by exfalso; first | omega | exact absurd trivial c18 | exact c18 | (simp at c18))
      refine g_aload_n dX11_gas_23 rfl ?_
      refine g_iload_n dX11_gas_24 rfl ?_
      refine g_callV (se) okX11_see lkX11_236 rfl (by first | rfl | exact pv_shx) rfl (by omega) (by omega) dX11_gas_25 rfl (Nat.le_of_ble_eq_true rfl) (⟨by decide, by decide, by decide, by decide⟩) ?_
      rintro v nx' I1 J1 P' ⟨rfl, rfl, rfl, q1, q2, q3, q4⟩
      have la := c_letNow hP q1 q3 (by omega)
      have gs := c_gasOf (k := kn) (m := mn) (hi := hb') (high := decide (hb' ≠ 0)) hP q1 q3 (by omega) (by omega) hkn ⟨fun z => decide_eq_false (fun y => y z), fun z => Classical.not_not.mp (of_decide_eq_false z)⟩
      refine g_aload_n dX11_gas_28 rfl ?_
      refine g_iload_n dX11_gas_29 rfl ?_
      refine g_iload_n dX11_gas_30 rfl ?_
      refine g_iload_n dX11_gas_31 rfl ?_
      refine g_aload_n dX11_gas_32 rfl ?_
      refine p_callV (la) okX11_letNow lkX11_239 rfl (by first | rfl | exact pv_shx) rfl (by omega) (by omega) dX11_gas_33 rfl (Nat.le_of_ble_eq_true rfl) (⟨by decide, by decide, by decide, by decide⟩) ?_
      refine p_callV (gs) okX11_gasOf lkX11_290 rfl (by first | rfl | exact pv_shx) rfl (by omega) (by omega) dX11_gas_36 rfl (Nat.le_of_ble_eq_true rfl) (⟨by decide, by decide, by decide, by decide⟩) ?_
      exact g_iret dX11_gas_39 rfl (⟨rfl, rfl, rfl, q1, q2⟩)
    · rw [if_neg hm] at iw
      refine pvMet.of _ (by decide) rfl (Nat.le_of_ble_eq_true rfl) ?_
      refine g_aload_n dX11_gas_0 rfl ?_
      refine g_getP dX11_gas_1 fdX11_32 rfl (by first | rfl | exact pv_shx) (by omega) (by omega) (by decide) rfl (hP _ _ _ rfl) ?_
      refine g_getP dX11_gas_4 fdX11_277 rfl (by first | rfl | exact pv_shx) (by omega) (by omega) (by decide) rfl (hP _ _ _ rfl) ?_
      refine g_iload_n dX11_gas_7 rfl ?_
      refine p_callV (ih) okX7_hasHouse lkX11_287 rfl (by first | rfl | exact pv_shx) rfl (by omega) (by omega) dX11_gas_8 rfl (Nat.le_of_ble_eq_true rfl) (⟨by decide, by decide, by decide, by decide⟩) ?_
      refine n_if_eq 21 dX11_gas_11 (by decide) (by first | (with_reducible exact cB _) | ((with_reducible apply cN_eq0) <;> omega) | exact Iff.rfl) (fun c11 => by exfalso; first | omega | exact absurd trivial c11 | exact c11 | (simp at c11)) (fun c11 => ?_)
      refine g_iload_n dX11_gas_14 rfl ?_
      refine p_callS (iw) okX11_isWeek lkX11_160 rfl dX11_gas_15 rfl (Nat.le_of_ble_eq_true rfl) (⟨by decide, by decide, by decide, by decide⟩) ?_
      refine n_if_ne 23 dX11_gas_18 (by decide) (by first | (with_reducible exact cB _) | ((with_reducible apply cN_eq0) <;> omega) | exact Iff.rfl) (fun c18 => by exfalso; first | omega | exact absurd trivial c18 | exact c18 | (simp at c18)) (fun c18 => ?_)
      refine g_iconst (v := (-1)) dX11_gas_21 (by decide) ?_
      exact g_iret dX11_gas_22 rfl (⟨rfl, rfl, by rw [sp_gas, if_neg (fun z => hm z.2)], hb, qF.rf⟩)
  · rw [if_neg hk] at ih
    refine pvMet.of _ (by decide) rfl (Nat.le_of_ble_eq_true rfl) ?_
    refine g_aload_n dX11_gas_0 rfl ?_
    refine g_getP dX11_gas_1 fdX11_32 rfl (by first | rfl | exact pv_shx) (by omega) (by omega) (by decide) rfl (hP _ _ _ rfl) ?_
    refine g_getP dX11_gas_4 fdX11_277 rfl (by first | rfl | exact pv_shx) (by omega) (by omega) (by decide) rfl (hP _ _ _ rfl) ?_
    refine g_iload_n dX11_gas_7 rfl ?_
    refine p_callV (ih) okX7_hasHouse lkX11_287 rfl (by first | rfl | exact pv_shx) rfl (by omega) (by omega) dX11_gas_8 rfl (Nat.le_of_ble_eq_true rfl) (⟨by decide, by decide, by decide, by decide⟩) ?_
    refine n_if_eq 21 dX11_gas_11 (by decide) (by first | (with_reducible exact cB _) | ((with_reducible apply cN_eq0) <;> omega) | exact Iff.rfl) (fun c11 => ?_) (fun c11 => by exfalso; first | omega | exact absurd trivial c11 | exact c11 | (simp at c11))
    refine g_iconst (v := (-1)) dX11_gas_21 (by decide) ?_
    exact g_iret dX11_gas_22 rfl (⟨rfl, rfl, by rw [sp_gas, if_neg (fun z => hk z.1)], hb, qF.rf⟩)
end GAS
