/-! class: pour -/
theorem sumN_tail {f : Nat → Nat} {m : Nat} : ∀ k, (∀ j, m ≤ j → j < m + k → f j = 0) → sumN f (m + k) = sumN f m
  | 0, _ => rfl
  | k + 1, h => by
    show sumN f (m + k) + f (m + k) = _
    rw [sumN_tail k (fun j z1 z2 => h j z1 (by omega)), h (m + k) (by omega) (by omega), Nat.add_zero]
theorem sumN_ge {f : Nat → Nat} {j : Nat} : ∀ n, j < n → f j ≤ sumN f n
  | 0, h => absurd h (Nat.not_lt_zero j)
  | n + 1, h => by
    show f j ≤ sumN f n + f n
    by_cases e : j = n
    · subst e; omega
    · have := sumN_ge (f := f) n (show j < n by omega); omega
section POU
variable {w h : Nat} {a : Nat → Int32} {I : pvI} {J : pvJ} {P : pvP} {g : Nat → Nat}
theorem cam_at (hce : mCells a) (hclk : cnt a 0 < 100) {m c : Nat} (hm : m < 100) (hc : c < 64) (hb : fN a c + g c ≤ 20) : cnt (cameA a g) (1620 + 64 * m + c) = cnt a (1620 + 64 * m + c) + (if m = cnt a 0 then g c else 0) := by
  obtain ⟨v, v1, v2⟩ := hce.2.2 m c hm hc
  have hl : cnt a (1620 + 64 * m + c) ≤ fN a c := sumN_ge (f := fun m => cnt a (1620 + 64 * m + c)) 100 hm
  by_cases e : m = cnt a 0
  · have e2 : cameA a g (1620 + 64 * m + c) = nI (cnt a (1620 + 64 * m + c) + g c) := by
      unfold cameA
      rw [if_pos (by omega), show 1620 + 64 * m + c - (1620 + 64 * cnt a 0) = c by omega]
    rw [cnt_of e2 (by omega), if_pos e]
  · have e2 : cameA a g (1620 + 64 * m + c) = a (1620 + 64 * m + c) := by
      unfold cameA
      rw [if_neg (by omega), if_neg (by omega)]
    rw [if_neg e, Nat.add_zero]
    unfold cnt
    rw [e2]
theorem cam_fsum (hce : mCells a) (hclk : cnt a 0 < 100) {m c : Nat} (hm : m ≤ 100) (hc : c < 64) (hb : fN a c + g c ≤ 20) : fsum (cameA a g) m c = fsum a m c + (if cnt a 0 < m then g c else 0) := by
  unfold fsum
  rw [sumN_cong (g := fun k => cnt a (1620 + 64 * k + c) + if k = cnt a 0 then g c else 0) m (fun k hk => cam_at hce hclk (by omega) hc hb), sumN_at]
theorem c_pour {c t : Int32} (hP : pvOkP P) (hb : kB w h a I J) : pvMet mX11_pour 4 0 0 [.ref 1, .int c, .int t] 224 I J P (mtQ w h a I J P (sp_pour w h a c t)) := by
  obtain ⟨n0, r0⟩ := hb.n0
  have n1 := hb.n1.1
  have n2 := hb.n2.1
  have n3 := hb.n3.1
  have n4 := hb.n4.1
  have hwh := hb.1.wh
  have hi := hb.2.2.2.2
  obtain ⟨x1, x2, x3, x4, x5, x6, x7, x8, x9, x10⟩ := hb.2.1.2.1
  obtain ⟨k15, b15, -⟩ := mG_eq hi.1.1 (i := 15) (by decide)
  replace b15 : cnt a 15 ≤ 40 := b15
  have r15 : I 4 7 = nI (cnt a 15) := x7.trans k15
  have ip := c_isRoom (v := c) (a := a) hP hb.1 x1
  have it := c_within (nx := 224) (v := t) (lo := nI 1) (hi := nI 1000) (L := 1) (H := 1000) (I := I) (J := J) (P := P) (by decide) (by decide)
  have hr3 : ((0 ≤ c.toInt ∧ c.toInt < w * h) ∧ cnt a (20 + c.toNatClampNeg) = 3) ↔ ((0 ≤ c.toInt ∧ c.toInt < w * h) ∧ (a (20 + c.toNatClampNeg)).toInt = 3) := by
    constructor
    · rintro ⟨z1, z2⟩
      obtain ⟨q, hq, rfl⟩ := cI_of (x := c) (n := w * h) (by omega) (by omega) (by omega)
      rw [nI_clamp (by omega)] at z2 ⊢
      obtain ⟨v, y1, y2⟩ := hi.1.2.1.1 q (by omega)
      rw [cnt_of y2 (by omega)] at z2
      exact ⟨z1, by rw [y2, nI_toInt (by omega)]; omega⟩
    · rintro ⟨z1, z2⟩
      obtain ⟨q, hq, rfl⟩ := cI_of (x := c) (n := w * h) (by omega) (by omega) (by omega)
      rw [nI_clamp (by omega)] at z2 ⊢
      obtain ⟨v, y1, y2⟩ := hi.1.2.1.1 q (by omega)
      rw [y2, nI_toInt (by omega)] at z2
      exact ⟨z1, by rw [cnt_of y2 (by omega)]; omega⟩
  by_cases v1 : (0 ≤ c.toInt ∧ c.toInt < w * h) ∧ (a (20 + c.toNatClampNeg)).toInt = 3
  · rw [if_pos v1] at ip
    by_cases v2 : 1 ≤ t.toInt ∧ t.toInt ≤ 1000
    · rw [if_pos v2] at it
      by_cases v3 : cnt a 0 < 100
      · by_cases v4 : cnt a 15 < 40
        · have v1' := hr3.mpr v1
          obtain ⟨cn, hcn, rfl⟩ := cI_of (x := c) (n := w * h) (by omega) (by omega) (by omega)
          obtain ⟨tn, htn, rfl⟩ := cI_of (x := t) (n := 1001) (by omega) (by omega) (by omega)
          have ans : sp_pour w h a (nI cn) (nI tn) = (nI (pour1 w h a cn tn).2, cameA a (pour1 w h a cn tn).1) := by rw [sp_pour, if_pos ⟨v1'.1, v1'.2, v2, v3, v4⟩, nI_clamp (by omega), nI_clamp (by omega)]
          rw [ans]
          have hclk := v3
          have hce := hi.1.2.1
          have hok := pLy_ok (f0 := fN a) (ly := fun s => (sndL w h a cn s).1) (n := w * h) (t := tn) hi.2.2.2.1 64
          have cf := c_changedFrom (k := cnt a 0 + 1) hP hb.2.2.1 (by omega)
          have hG : pour1 w h a cn tn = pLy (fN a) (fun s => (sndL w h a cn s).1) (w * h) tn 64 := rfl
          rw [hG]
          generalize hgg : (pLy (fN a) (fun s => (sndL w h a cn s).1) (w * h) tn 64).1 = G at *
          have hb20 : ∀ c, c < 64 → fN a c + G c ≤ 20 := fun c hc => by have := hok.1 c hc; rw [hgg] at this; exact this
          have u : ∀ {i}, i < 1620 → i ≠ 15 → cameA a G i = a i := fun z1 z2 => cameA_low z1 z2
          have uc : ∀ {i}, i < 1620 → i ≠ 15 → cnt (cameA a G) i = cnt a i := fun z1 z2 => by unfold cnt; rw [u z1 z2]
          have u15 : cameA a G 15 = nI (cnt a 15 + 1) := by unfold cameA; rw [if_neg (by omega), if_pos rfl]
          have ga : ∀ lo hi', (hi' ≤ 15 ∨ (16 ≤ lo ∧ hi' ≤ 1620)) → ag lo hi' a (cameA a G) := fun lo hi' hz i z1 z2 => u (by omega) (by omega)
          have hg' : mG (cameA a G) := hi.1.1.one (i := 15) (v := cnt a 15 + 1) (by decide) (show cnt a 15 + 1 ≤ 40 by omega) u15 (fun j z1 z2 => u (by omega) z2)
          have fsN : ∀ m c, cnt a 0 < m → m ≤ 100 → c < 64 → fsum a m c = fN a c := fun m c z1 z2 z3 => by
            have := sumN_tail (f := fun k => cnt a (1620 + 64 * k + c)) (m := m) (100 - m) (fun j y1 y2 => hi.2.2.2.2.2.2.1 j c (by omega) (by omega) z3)
            rw [show m + (100 - m) = 100 by omega] at this
            exact this.symm
          have fNA : ∀ c, c < 64 → fN (cameA a G) c = fN a c + G c := fun c hc => by
            have := cam_fsum (g := G) hce hclk (m := 100) (Nat.le_refl _) hc (hb20 c hc)
            rw [if_pos hclk] at this
            exact this
          have hcl : mCells (cameA a G) := by
            refine ⟨fun q hq => by rw [u (by omega) (by omega)]; exact hce.1 q hq, fun q hq => by rw [u (by omega) (by omega)]; exact hce.2.1 q hq, fun m q hm hq => ?_⟩
            obtain ⟨v, y1, y2⟩ := hce.2.2 m q hm hq
            by_cases e : m = cnt a 0
            · have hl : cnt a (1620 + 64 * m + q) ≤ fN a q := sumN_ge (f := fun m => cnt a (1620 + 64 * m + q)) 100 hm
              have := hb20 q hq
              refine ⟨cnt a (1620 + 64 * m + q) + G q, by omega, ?_⟩
              unfold cameA
              rw [if_pos (by omega), show 1620 + 64 * m + q - (1620 + 64 * cnt a 0) = q by omega]
            · refine ⟨v, y1, ?_⟩
              unfold cameA
              rw [if_neg (by omega), if_neg (by omega)]; exact y2
          have hfil : mFill (cameA a G) := fun c hc => by rw [fNA c hc]; exact hb20 c hc
          have hah : mAh (cameA a G) := by
            refine ⟨fun m q z1 z2 z3 => ?_, fun r z => ?_⟩
            · rw [uc (by omega) (by omega)] at z1
              rw [cam_at hce hclk z2 z3 (hb20 q z3), if_neg (by omega), Nat.add_zero]
              exact hi.2.2.2.2.2.2.1 m q z1 z2 z3
            · rw [uc (by omega) (by omega)] at z
              rw [uc (by omega) (by omega), uc (by omega) (by omega)]
              exact hi.2.2.2.2.2.2.2 r z
          have no0 : ∀ (x : Nat → Int32) (m q : Nat), ¬ (cnt x 0 ≤ m ∧ wlB x 0 q (cnt x 10) = true) := fun x m q z => by
            obtain ⟨p, -, y⟩ := anyB_iff.mp z.2
            have := (of_decide_eq_true y).1
            rw [Nat.zero_div] at this
            omega
          refine pvMet.of _ (by decide) rfl (Nat.le_of_ble_eq_true rfl) ?_
          refine g_aload_n dX11_pour_0 rfl ?_
          refine g_iload_n dX11_pour_1 rfl ?_
          refine p_callV (ip) okX11_isRoom lkX11_133 rfl (by first | rfl | exact pv_shx) rfl (by omega) (by omega) dX11_pour_2 rfl (Nat.le_of_ble_eq_true rfl) (⟨by decide, by decide, by decide, by decide⟩) ?_
          refine n_if_eq 46 dX11_pour_5 (by decide) (by first | (with_reducible exact cB _) | ((with_reducible apply cN_eq0) <;> omega) | exact Iff.rfl) (fun c5 => by exfalso; first | omega | exact absurd trivial c5 | exact c5 | (simp at c5)) (fun c5 => ?_)
          refine g_iload_n dX11_pour_8 rfl ?_
          refine g_iconst (v := nI 1) dX11_pour_9 (by decide) ?_
          refine g_sipush (v := nI 1000) dX11_pour_10 (by decide) ?_
          refine p_callS (it) okX11_within lkX11_85 rfl dX11_pour_13 rfl (Nat.le_of_ble_eq_true rfl) (⟨by decide, by decide, by decide, by decide⟩) ?_
          refine n_if_eq 46 dX11_pour_16 (by decide) (by first | (with_reducible exact cB _) | ((with_reducible apply cN_eq0) <;> omega) | exact Iff.rfl) (fun c16 => by exfalso; first | omega | exact absurd trivial c16 | exact c16 | (simp at c16)) (fun c16 => ?_)
          refine g_aload_n dX11_pour_19 rfl ?_
          refine g_getP dX11_pour_20 fdX11_32 rfl (by first | rfl | exact pv_shx) (by omega) (by omega) (by decide) rfl (hP _ _ _ rfl) ?_
          refine n_getI dX11_pour_23 fdX11_77 rfl (by first | rfl | exact pv_shx) (by omega) (by omega) (by decide) rfl (by repeat (first | exact r0 | exact r15 | (apply rd_s; done) | apply rd_n (by omega) | apply rp_s | apply rp_n (by omega) | (apply rdL_s; done) | apply rdL_n (by omega) | apply rpJ_s | apply rpJ_n (by omega) | rfl)) ?_
          refine g_bipush (v := nI 100) dX11_pour_26 (by decide) ?_
          refine n_icmp_ge 46 dX11_pour_28 (by decide) (by first | ((with_reducible apply cN_le) <;> omega) | ((with_reducible apply cI_len) <;> omega) | ((with_reducible apply cI_nle) <;> omega) | (with_reducible exact cI_le)) (fun c28 => by exfalso; first | omega | exact absurd trivial c28 | exact c28 | (simp at c28)) (fun c28 => ?_)
          refine g_aload_n dX11_pour_31 rfl ?_
          refine g_getP dX11_pour_32 fdX11_32 rfl (by first | rfl | exact pv_shx) (by omega) (by omega) (by decide) rfl (hP _ _ _ rfl) ?_
          refine g_getP dX11_pour_35 fdX11_89 rfl (by first | rfl | exact pv_shx) (by omega) (by omega) (by decide) rfl (hP _ _ _ rfl) ?_
          refine n_getI dX11_pour_38 fdX11_136 rfl (by first | rfl | exact pv_shx) (by omega) (by omega) (by decide) rfl (by repeat (first | exact r0 | exact r15 | (apply rd_s; done) | apply rd_n (by omega) | apply rp_s | apply rp_n (by omega) | (apply rdL_s; done) | apply rdL_n (by omega) | apply rpJ_s | apply rpJ_n (by omega) | rfl)) ?_
          refine g_bipush (v := nI 40) dX11_pour_41 (by decide) ?_
          refine n_icmp_lt 48 dX11_pour_43 (by decide) (by first | ((with_reducible apply cN_lt) <;> omega) | ((with_reducible apply cI_ltn) <;> omega) | ((with_reducible apply cI_nlt) <;> omega) | (with_reducible exact cI_lt)) (fun c43 => ?_) (fun c43 => by exfalso; first | omega | exact absurd trivial c43 | exact c43 | (simp at c43))
          refine g_aload_n dX11_pour_48 rfl ?_
          refine g_aload_n dX11_pour_49 rfl ?_
          refine g_getP dX11_pour_50 fdX11_32 rfl (by first | rfl | exact pv_shx) (by omega) (by omega) (by decide) rfl (hP _ _ _ rfl) ?_
          refine n_getI dX11_pour_53 fdX11_77 rfl (by first | rfl | exact pv_shx) (by omega) (by omega) (by decide) rfl (by repeat (first | exact r0 | exact r15 | (apply rd_s; done) | apply rd_n (by omega) | apply rp_s | apply rp_n (by omega) | (apply rdL_s; done) | apply rdL_n (by omega) | apply rpJ_s | apply rpJ_n (by omega) | rfl)) ?_
          refine g_iconst (v := nI 1) dX11_pour_56 (by decide) ?_
          refine n_iadd dX11_pour_57 (by first | (with_reducible exact nI_add _ _) | rfl) ?_
          refine g_callV (cf) okX11_changedFrom lkX11_99 rfl (by first | rfl | exact pv_shx) rfl (by omega) (by omega) dX11_pour_58 rfl (Nat.le_of_ble_eq_true rfl) (⟨by decide, by decide, by decide, by decide⟩) ?_
          rintro v nx' I1 J1 P' ⟨rfl, rfl, rfl, rfl, q1⟩
          have f3 : I1 3 0 = nI (cnt a 0) := by rw [q1.o (x := 3) (by omega) (by omega)]; exact r0
          have rs := c_runSand (w := w) (h := h) (a := a) (c0 := cn) (I := I1) (J := J1) (t := tn) (k := cnt a 0) (np := cnt a 15) (f0 := fN a) hP (hb.1.mv (q1.o (x := 2) (by omega) (by omega)) (rfl : J1 2 = J1 2)) hcn (by omega) hclk (fun c hc => hi.2.2.2.1 c hc) (fun c hc => by rw [q1.o (x := 7) (by omega) (by omega)]; exact x3 c hc) x5 (by rw [q1.o (x := 4) (by omega) (by omega)]; exact r15) (by omega)
          refine g_aload_n dX11_pour_61 rfl ?_
          refine g_getP dX11_pour_62 fdX11_32 rfl (by first | rfl | exact pv_shx) (by omega) (by omega) (by decide) rfl (hP _ _ _ rfl) ?_
          refine g_getP dX11_pour_65 fdX11_89 rfl (by first | rfl | exact pv_shx) (by omega) (by omega) (by decide) rfl (hP _ _ _ rfl) ?_
          refine g_iload_n dX11_pour_68 rfl ?_
          refine g_iload_n dX11_pour_69 rfl ?_
          refine g_aload_n dX11_pour_70 rfl ?_
          refine g_getP dX11_pour_71 fdX11_32 rfl (by first | rfl | exact pv_shx) (by omega) (by omega) (by decide) rfl (hP _ _ _ rfl) ?_
          refine n_getI dX11_pour_74 fdX11_77 rfl (by first | rfl | exact pv_shx) (by omega) (by omega) (by decide) rfl (by repeat (first | exact f3 | (apply rd_s; done) | apply rd_n (by omega) | apply rp_s | apply rp_n (by omega) | (apply rdL_s; done) | apply rdL_n (by omega) | apply rpJ_s | apply rpJ_n (by omega) | rfl)) ?_
          refine g_callV (rs) okX3_runSand lkX11_139 rfl (by first | rfl | exact pv_shx) rfl (by omega) (by omega) dX11_pour_77 rfl (Nat.le_of_ble_eq_true rfl) (⟨by decide, by decide, by decide, by decide⟩) ?_
          rintro v nx' I2 J2 P'' ⟨rfl, rfl, rfl, e1, e2, e3, e4, e5, e6⟩
          have hw := hb.1.2.2.2.2.2.2.1
          have f4 : I2 4 = upd (I 4) 7 (nI (cnt a 15 + 1)) := e2.trans (by rw [q1.o (x := 4) (by omega) (by omega)])
          have o : ∀ z, z ≠ 7 → z ≠ 4 → z ≠ 43 → (z < 90 ∨ 138 ≤ z) → I2 z = I z := fun z z1 z2 z3 z4 => (e3 z z1 z2).trans (q1.o z3 z4)
          have ht : rGro w h 3 (cameA a G) I2 J2 := by
            refine ⟨?_, ?_, ?_, ?_, ?_, ?_, ?_, ?_, ?_, ?_⟩
            · intro c hc
              rw [o (3 + 2) (by omega) (by omega) (by omega) (by omega), u (by omega) (by omega)]; exact x1 c hc
            · intro c hc
              rw [o (3 + 3) (by omega) (by omega) (by omega) (by omega), u (by omega) (by omega)]; exact x2 c hc
            · intro c hc
              show I2 7 c = _
              rw [e1 c hc, fNA c hc, hgg]
            · intro m hm
              show J2 8 m = _
              by_cases z : cnt a 0 < m
              · rw [e4 m z hm]
                apply mk_cong
                intro c hc
                unfold fullB
                rw [cam_fsum hce hclk (by omega) hc (hb20 c hc), if_pos z, fsN m c z (by omega) hc, hgg]
              · rw [e5 m (by omega)]
                refine (x4 m hm).trans (mk_cong (fun c hc => ?_))
                unfold fullB
                rw [cam_fsum hce hclk (by omega) hc (hb20 c hc), if_neg z, Nat.add_zero]
            · rw [e6 (3 + 1) (by omega)]; exact x5.trans (mk_cong (fun c hc => by rw [uc (by omega) (by omega)]))
            · rw [e6 (3 + 1) (by omega)]; exact x6.trans (mk_cong (fun c hc => by rw [uc (by omega) (by omega)]))
            · show I2 4 7 = _
              rw [f4, updS, u15]
            · show I2 4 8 = _
              rw [f4, updI (by decide), u (by omega) (by omega)]; exact x8
            · show I2 4 9 = _
              rw [f4, updI (by decide), u (by omega) (by omega)]; exact x9
            · show I2 4 10 = _
              rw [f4, updI (by decide), u (by omega) (by omega)]; exact x10
          have hf' : rFir w h (cameA a G) I2 J2 := (hb.2.2.1.chg q1 (by omega) (uc (by omega) (by omega)) (fun s hs => ⟨u (by omega) (by omega), u (by omega) (by omega)⟩) (fun s j _ h8 hj hj2 => fwk_cong (by omega) hwh.2 ⟨fun c hc => uc (by omega) (by omega), fun c hc => uc (by omega) (by omega), uc (by omega) (by omega), uc (by omega) (by omega), uc (by omega) (by omega)⟩ ⟨uc (by omega) (by omega), uc (by omega) (by omega)⟩ (fun i _ => cutw.fr hi.1.1 (ga _ _ (by omega)) (ga _ _ (by omega)) i) (fun i z c hc => by rw [flw_sum i (no0 _ i c), flw_sum i (no0 _ i c), cam_fsum hce hclk (by omega) hc (hb20 c hc), if_neg (by omega), Nat.add_zero]) (fun i _ => hoB.fr hi.1.1 (ga _ _ (by omega)) (ga _ _ (by omega))))).mv (fun x z1 z2 => e3 x (by omega) (by omega)) (fun x z1 z2 => e6 x (by omega))
          have fin := hb.gro (I' := I2) (J' := J2) (fun z z1 z2 z3 => o z (by omega) (by omega) z2 z3) (fun z hz => e6 z (by omega)) (by rw [e3 43 (by omega) (by omega)]; exact q1.wk.1) (ga _ _ (by omega)) (ga _ _ (by omega)) (ga _ _ (by omega)) ht hg' hcl hfil ⟨(fun c z1 z2 => by rw [uc (by omega) (by omega)]; exact hi.2.2.2.2.2.1.1.1 c z1 z2), by rw [uc (by omega) (by omega)]; exact hi.2.2.2.2.2.1.1.2⟩ (fun c z1 z2 => by rw [uc (by omega) (by omega)]; exact hi.2.2.2.2.2.1.2 c z1 z2) hah hf'
          exact g_iret dX11_pour_80 rfl (⟨rfl, rfl, rfl, fin, fun z hz => ⟨o z (by omega) (by omega) (by omega) (by omega), e6 z (by omega)⟩, Or.inl (by rw [e3 43 (by omega) (by omega)]; exact q1.wk.2)⟩)
        · have ans : sp_pour w h a c t = (-1, a) := by rw [sp_pour, if_neg (fun z => v4 z.2.2.2.2)]
          rw [ans]
          refine pvMet.of _ (by decide) rfl (Nat.le_of_ble_eq_true rfl) ?_
          refine g_aload_n dX11_pour_0 rfl ?_
          refine g_iload_n dX11_pour_1 rfl ?_
          refine p_callV (ip) okX11_isRoom lkX11_133 rfl (by first | rfl | exact pv_shx) rfl (by omega) (by omega) dX11_pour_2 rfl (Nat.le_of_ble_eq_true rfl) (⟨by decide, by decide, by decide, by decide⟩) ?_
          refine n_if_eq 46 dX11_pour_5 (by decide) (by first | (with_reducible exact cB _) | ((with_reducible apply cN_eq0) <;> omega) | exact Iff.rfl) (fun c5 => by exfalso; first | omega | exact absurd trivial c5 | exact c5 | (simp at c5)) (fun c5 => ?_)
          refine g_iload_n dX11_pour_8 rfl ?_
          refine g_iconst (v := nI 1) dX11_pour_9 (by decide) ?_
          refine g_sipush (v := nI 1000) dX11_pour_10 (by decide) ?_
          refine p_callS (it) okX11_within lkX11_85 rfl dX11_pour_13 rfl (Nat.le_of_ble_eq_true rfl) (⟨by decide, by decide, by decide, by decide⟩) ?_
          refine n_if_eq 46 dX11_pour_16 (by decide) (by first | (with_reducible exact cB _) | ((with_reducible apply cN_eq0) <;> omega) | exact Iff.rfl) (fun c16 => by exfalso; first | omega | exact absurd trivial c16 | exact c16 | (simp at c16)) (fun c16 => ?_)
          refine g_aload_n dX11_pour_19 rfl ?_
          refine g_getP dX11_pour_20 fdX11_32 rfl (by first | rfl | exact pv_shx) (by omega) (by omega) (by decide) rfl (hP _ _ _ rfl) ?_
          refine n_getI dX11_pour_23 fdX11_77 rfl (by first | rfl | exact pv_shx) (by omega) (by omega) (by decide) rfl (by repeat (first | exact r0 | exact r15 | (apply rd_s; done) | apply rd_n (by omega) | apply rp_s | apply rp_n (by omega) | (apply rdL_s; done) | apply rdL_n (by omega) | apply rpJ_s | apply rpJ_n (by omega) | rfl)) ?_
          refine g_bipush (v := nI 100) dX11_pour_26 (by decide) ?_
          refine n_icmp_ge 46 dX11_pour_28 (by decide) (by first | ((with_reducible apply cN_le) <;> omega) | ((with_reducible apply cI_len) <;> omega) | ((with_reducible apply cI_nle) <;> omega) | (with_reducible exact cI_le)) (fun c28 => by exfalso; first | omega | exact absurd trivial c28 | exact c28 | (simp at c28)) (fun c28 => ?_)
          refine g_aload_n dX11_pour_31 rfl ?_
          refine g_getP dX11_pour_32 fdX11_32 rfl (by first | rfl | exact pv_shx) (by omega) (by omega) (by decide) rfl (hP _ _ _ rfl) ?_
          refine g_getP dX11_pour_35 fdX11_89 rfl (by first | rfl | exact pv_shx) (by omega) (by omega) (by decide) rfl (hP _ _ _ rfl) ?_
          refine n_getI dX11_pour_38 fdX11_136 rfl (by first | rfl | exact pv_shx) (by omega) (by omega) (by decide) rfl (by repeat (first | exact r0 | exact r15 | (apply rd_s; done) | apply rd_n (by omega) | apply rp_s | apply rp_n (by omega) | (apply rdL_s; done) | apply rdL_n (by omega) | apply rpJ_s | apply rpJ_n (by omega) | rfl)) ?_
          refine g_bipush (v := nI 40) dX11_pour_41 (by decide) ?_
          refine n_icmp_lt 48 dX11_pour_43 (by decide) (by first | ((with_reducible apply cN_lt) <;> omega) | ((with_reducible apply cI_ltn) <;> omega) | ((with_reducible apply cI_nlt) <;> omega) | (with_reducible exact cI_lt)) (fun c43 => by exfalso; first | omega | exact absurd trivial c43 | exact c43 | (simp at c43)) (fun c43 => ?_)
          refine g_iconst (v := (-1)) dX11_pour_46 (by decide) ?_
          exact g_iret dX11_pour_47 rfl (⟨rfl, rfl, rfl, hb, mF2.rf, Or.inr ⟨rfl, sAl.rf⟩⟩)
      · have ans : sp_pour w h a c t = (-1, a) := by rw [sp_pour, if_neg (fun z => v3 z.2.2.2.1)]
        rw [ans]
        refine pvMet.of _ (by decide) rfl (Nat.le_of_ble_eq_true rfl) ?_
        refine g_aload_n dX11_pour_0 rfl ?_
        refine g_iload_n dX11_pour_1 rfl ?_
        refine p_callV (ip) okX11_isRoom lkX11_133 rfl (by first | rfl | exact pv_shx) rfl (by omega) (by omega) dX11_pour_2 rfl (Nat.le_of_ble_eq_true rfl) (⟨by decide, by decide, by decide, by decide⟩) ?_
        refine n_if_eq 46 dX11_pour_5 (by decide) (by first | (with_reducible exact cB _) | ((with_reducible apply cN_eq0) <;> omega) | exact Iff.rfl) (fun c5 => by exfalso; first | omega | exact absurd trivial c5 | exact c5 | (simp at c5)) (fun c5 => ?_)
        refine g_iload_n dX11_pour_8 rfl ?_
        refine g_iconst (v := nI 1) dX11_pour_9 (by decide) ?_
        refine g_sipush (v := nI 1000) dX11_pour_10 (by decide) ?_
        refine p_callS (it) okX11_within lkX11_85 rfl dX11_pour_13 rfl (Nat.le_of_ble_eq_true rfl) (⟨by decide, by decide, by decide, by decide⟩) ?_
        refine n_if_eq 46 dX11_pour_16 (by decide) (by first | (with_reducible exact cB _) | ((with_reducible apply cN_eq0) <;> omega) | exact Iff.rfl) (fun c16 => by exfalso; first | omega | exact absurd trivial c16 | exact c16 | (simp at c16)) (fun c16 => ?_)
        refine g_aload_n dX11_pour_19 rfl ?_
        refine g_getP dX11_pour_20 fdX11_32 rfl (by first | rfl | exact pv_shx) (by omega) (by omega) (by decide) rfl (hP _ _ _ rfl) ?_
        refine n_getI dX11_pour_23 fdX11_77 rfl (by first | rfl | exact pv_shx) (by omega) (by omega) (by decide) rfl (by repeat (first | exact r0 | (apply rd_s; done) | apply rd_n (by omega) | apply rp_s | apply rp_n (by omega) | (apply rdL_s; done) | apply rdL_n (by omega) | apply rpJ_s | apply rpJ_n (by omega) | rfl)) ?_
        refine g_bipush (v := nI 100) dX11_pour_26 (by decide) ?_
        refine n_icmp_ge 46 dX11_pour_28 (by decide) (by first | ((with_reducible apply cN_le) <;> omega) | ((with_reducible apply cI_len) <;> omega) | ((with_reducible apply cI_nle) <;> omega) | (with_reducible exact cI_le)) (fun c28 => ?_) (fun c28 => by exfalso; first | omega | exact absurd trivial c28 | exact c28 | (simp at c28))
        refine g_iconst (v := (-1)) dX11_pour_46 (by decide) ?_
        exact g_iret dX11_pour_47 rfl (⟨rfl, rfl, rfl, hb, mF2.rf, Or.inr ⟨rfl, sAl.rf⟩⟩)
    · rw [if_neg v2] at it
      have ans : sp_pour w h a c t = (-1, a) := by rw [sp_pour, if_neg (fun z => v2 z.2.2.1)]
      rw [ans]
      refine pvMet.of _ (by decide) rfl (Nat.le_of_ble_eq_true rfl) ?_
      refine g_aload_n dX11_pour_0 rfl ?_
      refine g_iload_n dX11_pour_1 rfl ?_
      refine p_callV (ip) okX11_isRoom lkX11_133 rfl (by first | rfl | exact pv_shx) rfl (by omega) (by omega) dX11_pour_2 rfl (Nat.le_of_ble_eq_true rfl) (⟨by decide, by decide, by decide, by decide⟩) ?_
      refine n_if_eq 46 dX11_pour_5 (by decide) (by first | (with_reducible exact cB _) | ((with_reducible apply cN_eq0) <;> omega) | exact Iff.rfl) (fun c5 => by exfalso; first | omega | exact absurd trivial c5 | exact c5 | (simp at c5)) (fun c5 => ?_)
      refine g_iload_n dX11_pour_8 rfl ?_
      refine g_iconst (v := nI 1) dX11_pour_9 (by decide) ?_
      refine g_sipush (v := nI 1000) dX11_pour_10 (by decide) ?_
      refine p_callS (it) okX11_within lkX11_85 rfl dX11_pour_13 rfl (Nat.le_of_ble_eq_true rfl) (⟨by decide, by decide, by decide, by decide⟩) ?_
      refine n_if_eq 46 dX11_pour_16 (by decide) (by first | (with_reducible exact cB _) | ((with_reducible apply cN_eq0) <;> omega) | exact Iff.rfl) (fun c16 => ?_) (fun c16 => by exfalso; first | omega | exact absurd trivial c16 | exact c16 | (simp at c16))
      refine g_iconst (v := (-1)) dX11_pour_46 (by decide) ?_
      exact g_iret dX11_pour_47 rfl (⟨rfl, rfl, rfl, hb, mF2.rf, Or.inr ⟨rfl, sAl.rf⟩⟩)
  · rw [if_neg v1] at ip
    have ans : sp_pour w h a c t = (-1, a) := by rw [sp_pour, if_neg (fun z => v1 (hr3.mp ⟨z.1, z.2.1⟩))]
    rw [ans]
    refine pvMet.of _ (by decide) rfl (Nat.le_of_ble_eq_true rfl) ?_
    refine g_aload_n dX11_pour_0 rfl ?_
    refine g_iload_n dX11_pour_1 rfl ?_
    refine p_callV (ip) okX11_isRoom lkX11_133 rfl (by first | rfl | exact pv_shx) rfl (by omega) (by omega) dX11_pour_2 rfl (Nat.le_of_ble_eq_true rfl) (⟨by decide, by decide, by decide, by decide⟩) ?_
    refine n_if_eq 46 dX11_pour_5 (by decide) (by first | (with_reducible exact cB _) | ((with_reducible apply cN_eq0) <;> omega) | exact Iff.rfl) (fun c5 => ?_) (fun c5 => by exfalso; first | omega | exact absurd trivial c5 | exact c5 | (simp at c5))
    refine g_iconst (v := (-1)) dX11_pour_46 (by decide) ?_
    exact g_iret dX11_pour_47 rfl (⟨rfl, rfl, rfl, hb, mF2.rf, Or.inr ⟨rfl, sAl.rf⟩⟩)
end POU
