/-! model: the walk of blow -/
theorem t_blow {w h : Nat} {I : pvI} {J : pvJ} {P : pvP} {m : Nat} {wo : Option Nat} {u2 : Int32} {gn gf gc : Nat → Int32} {nw fl cu : Nat → Nat} (hP : pvOkP P) (hD : mDim w h I) (hF : mF w h (I 203)) (hm : m ≤ 99) (hu : ∀ k, k < 20 → (nI k = u2 ↔ wo = some k))
    (hn : I 208 = arN gn 64 nw) (hf : I 212 = arN gf 64 fl) (hc : I 213 = arN gc 64 cu) (bn : ∀ c, nw c ≤ 2) (bf : ∀ c, fl c ≤ 5000) (bc : ∀ c, cu c ≤ 1) :
    pvMet mX12_blow 2 0 0 [.ref 202, .int (nI m), .int u2] 224 I J P (pvq P (fun v I' J' => v = none ∧ J' = J ∧ mfix I I' [206, 207, 214] ∧ ∀ c, c < w * h → I' 214 c = nI (if auF w h (I 203) m wo (opF (I 203) nw cu fl) c = true then 1 else 0))) := by
  have hD' := hD
  obtain ⟨hg, hce, hst0, hT, hho, hpl⟩ := hF
  obtain ⟨hw, hh, hw2, hh2⟩ := hD
  have hwh : 4 ≤ w * h ∧ w * h ≤ 64 := ⟨Nat.mul_le_mul hw2.1 hh2.1, Nat.mul_le_mul hw2.2 hh2.2⟩
  obtain ⟨nh, nh_b, nh_h⟩ := hg 1 (by decide)
  replace nh_b : nh ≤ 20 := nh_b
  have nh_e : cnt (I 203) 1 = nh := cnt_of nh_h (by omega)
  obtain ⟨dr, dr_b, dr_h⟩ := hg 13 (by decide)
  replace dr_b : dr ≤ 30 := dr_b
  have dr_e : cnt (I 203) 13 = dr := cnt_of dr_h (by omega)
  generalize hZ : pvZ (pvq P (fun v I' J' => v = none ∧ J' = J ∧ mfix I I' [206, 207, 214] ∧ ∀ c, c < w * h → I' 214 c = nI (if auF w h (I 203) m wo (opF (I 203) nw cu fl) c = true then 1 else 0))) 0 0 = Z
  -- memories that differ in the three arrays alone
  have iso : ∀ Im : pvI, (∀ k, k ≠ 206 → k ≠ 207 → k ≠ 214 → Im k = I k) → ∀ c, c < 64 → pvMet mX12_isOpen 0 0 0 [.ref 202, .int (nI c)] 224 Im J P (pvpu (.int (if opP (I 203) nw cu fl c then 1 else 0)) 224 Im J P) := by
    intro Im hIm c hc64
    have e3 : Im 203 = I 203 := hIm 203 (by decide) (by decide) (by decide)
    have := t_isOpen (I := Im) (J := J) hP (by rw [e3]; exact hce) ((hIm 208 (by decide) (by decide) (by decide)).trans hn) ((hIm 212 (by decide) (by decide) (by decide)).trans hf) ((hIm 213 (by decide) (by decide) (by decide)).trans hc) bn bf bc hc64
    rw [e3] at this
    exact this
  have bes : ∀ Im : pvI, (∀ k, k ≠ 206 → k ≠ 207 → k ≠ 214 → Im k = I k) → ∀ c d, c < w * h → d < 4 → pvMet mX12_beside 1 0 0 [.ref 202, .int (nI c), .int (nI d)] 224 Im J P (pvpu (.int (sp_nbI w h c d)) 224 Im J P) := by
    intro Im hIm c d h1 h2
    have e2 : Im 202 = I 202 := hIm 202 (by decide) (by decide) (by decide)
    exact t_beside ⟨by rw [e2]; exact hw, by rw [e2]; exact hh, hw2, hh2⟩ h1 h2
  have k2 : ∀ (f1 f2 : Nat → Int32) k, k ≠ 206 → k ≠ 207 → k ≠ 214 → pvs (pvs I 207 f1) 206 f2 k = I k := fun f1 f2 k h1 h2 _ => by rw [pvs_ne h1, pvs_ne h2]
  have k3 : ∀ (f1 f2 f3 : Nat → Int32) k, k ≠ 206 → k ≠ 207 → k ≠ 214 → pvs (pvs (pvs I 207 f1) 206 f2) 214 f3 k = I k := fun f1 f2 f3 k h1 h2 h3 => by rw [pvs_ne h3, pvs_ne h1, pvs_ne h2]
  have opd : ∀ c, opF (I 203) nw cu fl c = decide (opP (I 203) nw cu fl c) := fun c => rfl
  generalize hop : opF (I 203) nw cu fl = op at *
  -- the air loop
  have air : ∀ (st : Nat → Option Nat) (rw' : Nat → Nat) (mn : Nat), (∀ k c, st c = some k ↔ k ≤ dr ∧ (airL w h (I 203) m wo op k).1 c = true) → ∀ q i (g : Nat → Int32), i + q = w * h → (∀ c, c < i → g c = nI (if auF w h (I 203) m wo op c = true then 1 else 0)) →
      pvG mX12_blow (pvR 2 0 0) Z 304 [.ref 202, .int (nI m), .int u2, .retAddr 0, .int (nI i), .retAddr 0, .retAddr 0, .retAddr 0] [] 0 0 224 (pvs (pvs (pvs I 207 (arN (I 207) mn rw')) 206 (arO (I 206) 64 st)) 214 g) J P := by
    intro st rw' mn hst q
    have seen : ∀ c, st c ≠ none ↔ (airL w h (I 203) m wo op dr).2 c = true := by
      intro c
      rw [bfs_seen]
      constructor
      · intro hne
        obtain ⟨k, hk⟩ := Option.ne_none_iff_exists'.mp hne
        exact ⟨k, ((hst k c).mp hk).1, ((hst k c).mp hk).2⟩
      · rintro ⟨k, h1, h2⟩
        rw [(hst k c).mpr ⟨h1, h2⟩]
        simp
    have seenl : ∀ c, (∃ k, st c = some k ∧ k + 1 ≤ dr) ↔ (1 ≤ dr ∧ (airL w h (I 203) m wo op (dr - 1)).2 c = true) := by
      intro c
      rw [bfs_seen]
      constructor
      · rintro ⟨k, h1, h2⟩
        exact ⟨by omega, k, by omega, ((hst k c).mp h1).2⟩
      · rintro ⟨h1, k, h2, h3⟩
        exact ⟨k, (hst k c).mpr ⟨by omega, h3⟩, by omega⟩
    have bst : ∀ c k, st c = some k → k ≤ 30 := fun c k hk => by have := ((hst k c).mp hk).1; omega
    induction q with
    | zero =>
      intro i g hi hgc
      obtain rfl : i = w * h := by omega
      subst hZ
      refine g_iload dX12_blow_304 rfl ?_
      refine g_aload_n dX12_blow_306 rfl ?_
      refine n_getI dX12_blow_307 fdX12_86 rfl (by first | rfl | exact pv_shx) (by omega) (by omega) (by decide) rfl (by repeat (first | exact hw | exact hh | (apply rd_s; done) | apply rd_n (by omega) | apply rp_s | apply rp_n (by omega) | (apply rdL_s; done) | apply rdL_n (by omega) | apply rpJ_s | apply rpJ_n (by omega) | rfl)) ?_
      refine g_aload_n dX12_blow_310 rfl ?_
      refine n_getI dX12_blow_311 fdX12_89 rfl (by first | rfl | exact pv_shx) (by omega) (by omega) (by decide) rfl (by repeat (first | exact hw | exact hh | (apply rd_s; done) | apply rd_n (by omega) | apply rp_s | apply rp_n (by omega) | (apply rdL_s; done) | apply rdL_n (by omega) | apply rpJ_s | apply rpJ_n (by omega) | rfl)) ?_
      refine n_imul dX12_blow_314 (by first | (with_reducible exact pk_mul _ _) | rfl) ?_
      refine n_icmp_ge 439 dX12_blow_315 (by decide) (by first | ((with_reducible apply cN_le) <;> omega) | ((with_reducible apply cI_len) <;> omega) | ((with_reducible apply cI_nle) <;> omega) | (with_reducible exact cI_le)) (fun c315 => ?_) (fun c315 => by exfalso; first | omega | exact absurd trivial c315 | exact c315)
      exact g_vret dX12_blow_439 rfl (⟨rfl, rfl, rfl, rfl, fun k hk => by simp at hk; exact k3 _ _ _ k hk.1 hk.2.1 hk.2.2, fun c hc' => by rw [pvs_eq]; exact hgc c hc'⟩)
    | succ q ih =>
      intro i g hi hgc
      have rs : arO (I 206) 64 st i = stv (st i) := arO_at (by omega)
      have nxt : ∀ (v : Nat) (ls' : List Value), pvle [.ref 202, .int (nI m), .int u2, .retAddr 0, .int (nI i), .retAddr 0, .retAddr 0, .retAddr 0] ls' → v = (if auF w h (I 203) m wo op i = true then 1 else 0) → pvG mX12_blow (pvR 2 0 0) Z 433 ls' [] 0 0 224 (pvs (pvs (pvs I 207 (arN (I 207) mn rw')) 206 (arO (I 206) 64 st)) 214 (upd g i (nI v))) J P := by
        intro v ls' hle hv
        refine g_drop _ hle ?_
        refine g_iinc dX12_blow_433 rfl (by first | (with_reducible exact nI_1 _) | exact nI_1 _ | exact pk_m1 _ | rfl) (by decide) rfl ?_
        refine g_goto 304 dX12_blow_436 (by decide) ?_
        exact ih (i + 1) _ (by omega) (fun c hc' => by by_cases e : c = i <;> simp [upd, e, hv]; exact hgc c (by omega))
      have au : auF w h (I 203) m wo op i = ((airL w h (I 203) m wo op dr).2 i || (!op i && anyB (fun d => match sp_nb w h i d with
          | some x => op x && (decide (1 ≤ dr) && (airL w h (I 203) m wo op (dr - 1)).2 x)
          | none => false) 4)) := by unfold auF; rw [dr_e]; rfl
      by_cases c1 : st i = none
      · have s0 : (airL w h (I 203) m wo op dr).2 i = false := by
          cases hs : (airL w h (I 203) m wo op dr).2 i with
          | false => rfl
          | true => exact absurd c1 ((seen i).mpr hs)
        rw [c1] at rs
        rw [s0, Bool.false_or] at au
        by_cases c2 : op i = true
        · have c2' : opP (I 203) nw cu fl i := by have := opd i; rw [c2] at this; exact of_decide_eq_true this.symm
          rw [c2, show (!true) = false from rfl, Bool.false_and] at au
          have i1 := iso (pvs (pvs (pvs I 207 (arN (I 207) mn rw')) 206 (arO (I 206) 64 st)) 214 (upd g i (nI 0))) (k3 _ _ _) i (by omega)
          rw [if_pos c2'] at i1
          refine g_iload dX12_blow_304 rfl ?_
          refine g_aload_n dX12_blow_306 rfl ?_
          refine n_getI dX12_blow_307 fdX12_86 rfl (by first | rfl | exact pv_shx) (by omega) (by omega) (by decide) rfl (by repeat (first | exact hw | exact hh | exact rs | (apply rd_s; done) | apply rd_n (by omega) | apply rp_s | apply rp_n (by omega) | (apply rdL_s; done) | apply rdL_n (by omega) | apply rpJ_s | apply rpJ_n (by omega) | rfl)) ?_
          refine g_aload_n dX12_blow_310 rfl ?_
          refine n_getI dX12_blow_311 fdX12_89 rfl (by first | rfl | exact pv_shx) (by omega) (by omega) (by decide) rfl (by repeat (first | exact hw | exact hh | exact rs | (apply rd_s; done) | apply rd_n (by omega) | apply rp_s | apply rp_n (by omega) | (apply rdL_s; done) | apply rdL_n (by omega) | apply rpJ_s | apply rpJ_n (by omega) | rfl)) ?_
          refine n_imul dX12_blow_314 (by first | (with_reducible exact pk_mul _ _) | rfl) ?_
          refine n_icmp_ge 439 dX12_blow_315 (by decide) (by first | ((with_reducible apply cN_le) <;> omega) | ((with_reducible apply cI_len) <;> omega) | ((with_reducible apply cI_nle) <;> omega) | (with_reducible exact cI_le)) (fun c315 => by exfalso; first | omega | exact absurd trivial c315 | exact c315) (fun c315 => ?_)
          refine g_aload_n dX12_blow_318 rfl ?_
          refine g_getP dX12_blow_319 fdX12_43 rfl (by first | rfl | exact pv_shx) (by omega) (by omega) (by decide) rfl (hP _ _ _ rfl) ?_
          refine g_iload dX12_blow_322 rfl ?_
          refine g_aload_n dX12_blow_324 rfl ?_
          refine g_getP dX12_blow_325 fdX12_19 rfl (by first | rfl | exact pv_shx) (by omega) (by omega) (by decide) rfl (hP _ _ _ rfl) ?_
          refine g_iload dX12_blow_328 rfl ?_
          refine n_iald dX12_blow_330 (by first | rfl | exact pv_shx) (by omega) (by omega) (by decide) (rfl) (by omega) (by repeat (first | exact hw | exact hh | exact rs | (apply rd_s; done) | apply rd_n (by omega) | apply rp_s | apply rp_n (by omega) | (apply rdL_s; done) | apply rdL_n (by omega) | apply rpJ_s | apply rpJ_n (by omega) | rfl)) ?_
          refine n_if_lt 338 dX12_blow_331 (by decide) (cI_lt0.trans (by rw [show (stv none).toInt = -1 from rfl])) (fun c331 => ?_) (fun c331 => by exfalso; first | omega | exact absurd trivial c331 | exact c331)
          refine g_iconst (v := nI 0) dX12_blow_338 (by decide) ?_
          refine n_zast (by first | exact Or.inl rfl | exact Or.inr rfl | exact cB01 _) dX12_blow_339 (by first | rfl | exact pv_shx) (by omega) (by omega) (by omega) (by decide) (rfl) (by omega) (by repeat (first | exact pvu_s | exact pvuJ_s | apply pvu_in (by omega) | apply pvuJ_in (by omega) | exact pvu_pvs | exact pvuJ_pvs)) ?_
          refine g_iconst (v := nI 0) dX12_blow_340 (by decide) ?_
          refine g_istore dX12_blow_341 (by decide) rfl ?_
          refine g_iload dX12_blow_343 rfl ?_
          refine g_iconst (v := nI 4) dX12_blow_345 (by decide) ?_
          refine n_icmp_ge 433 dX12_blow_346 (by decide) (by first | ((with_reducible apply cN_le) <;> omega) | ((with_reducible apply cI_len) <;> omega) | ((with_reducible apply cI_nle) <;> omega) | (with_reducible exact cI_le)) (fun c346 => by exfalso; first | omega | exact absurd trivial c346 | exact c346) (fun c346 => ?_)
          refine g_aload_n dX12_blow_349 rfl ?_
          refine g_getP dX12_blow_350 fdX12_43 rfl (by first | rfl | exact pv_shx) (by omega) (by omega) (by decide) rfl (hP _ _ _ rfl) ?_
          refine g_iload dX12_blow_353 rfl ?_
          refine n_zald dX12_blow_355 (by first | rfl | exact pv_shx) (by omega) (by omega) (by decide) (rfl) (by omega) (by repeat (first | exact hw | exact hh | exact rs | (apply rd_s; done) | apply rd_n (by omega) | apply rp_s | apply rp_n (by omega) | (apply rdL_s; done) | apply rdL_n (by omega) | apply rpJ_s | apply rpJ_n (by omega) | rfl)) ?_
          refine n_if_ne 433 dX12_blow_356 (by decide) (by first | (with_reducible exact cB _) | ((with_reducible apply cN_eq0) <;> omega) | exact Iff.rfl) (fun c356 => by exfalso; first | omega | exact absurd trivial c356 | exact c356) (fun c356 => ?_)
          refine g_aload_n dX12_blow_359 rfl ?_
          refine g_iload dX12_blow_360 rfl ?_
          refine p_callV (i1) okX12_isOpen lkX12_118 rfl (by first | rfl | exact pv_shx) rfl (by omega) (by omega) dX12_blow_362 rfl (Nat.le_of_ble_eq_true rfl) (⟨by decide, by decide, by decide, by decide⟩) ?_
          refine n_if_ne 433 dX12_blow_365 (by decide) (Iff.rfl) (fun c365 => ?_) (fun c365 => by exfalso; exact absurd c365 (by decide))
          exact nxt 0 _ (by repeat (first | exact trivial | refine ⟨Or.inr ⟨_, rfl⟩, ?_⟩ | refine ⟨Or.inl rfl, ?_⟩)) (by rw [au]; rfl)
        · have c2f : op i = false := by simpa using c2
          have c2' : ¬ opP (I 203) nw cu fl i := by have := opd i; rw [c2f] at this; exact of_decide_eq_false this.symm
          rw [c2f, show (!false) = true from rfl, Bool.true_and] at au
          -- the loop over directions: nothing found ahead of d
          have dl : ∀ q d, d + q = 4 → anyB (fun d => match sp_nb w h i d with
              | some x => op x && (decide (1 ≤ dr) && (airL w h (I 203) m wo op (dr - 1)).2 x)
              | none => false) d = false → pvG mX12_blow (pvR 2 0 0) Z 343 [.ref 202, .int (nI m), .int u2, .retAddr 0, .int (nI i), .int (nI d), .retAddr 0, .retAddr 0] [] 0 0 224 (pvs (pvs (pvs I 207 (arN (I 207) mn rw')) 206 (arO (I 206) 64 st)) 214 (upd g i (nI 0))) J P := by
            intro q
            induction q with
            | zero =>
              intro d hd hno
              obtain rfl : d = 4 := by omega
              rw [hno] at au
              refine g_iload dX12_blow_343 rfl ?_
              refine g_iconst (v := nI 4) dX12_blow_345 (by decide) ?_
              refine n_icmp_ge 433 dX12_blow_346 (by decide) (by first | ((with_reducible apply cN_le) <;> omega) | ((with_reducible apply cI_len) <;> omega) | ((with_reducible apply cI_nle) <;> omega) | (with_reducible exact cI_le)) (fun c346 => ?_) (fun c346 => by exfalso; first | omega | exact absurd trivial c346 | exact c346)
              exact nxt 0 _ (by repeat (first | exact trivial | refine ⟨Or.inr ⟨_, rfl⟩, ?_⟩ | refine ⟨Or.inl rfl, ?_⟩)) (by rw [au]; rfl)
            | succ q ihd =>
              intro d hd hno
              have hs5 : ∀ b, (match sp_nb w h i d with
                  | some x => op x && (decide (1 ≤ dr) && (airL w h (I 203) m wo op (dr - 1)).2 x)
                  | none => false) = b → anyB (fun d => match sp_nb w h i d with
                  | some x => op x && (decide (1 ≤ dr) && (airL w h (I 203) m wo op (dr - 1)).2 x)
                  | none => false) (d + 1) = b := by
                intro b hb
                show (anyB _ d || _) = b
                rw [hno, Bool.false_or]
                exact hb
              have i1 := iso (pvs (pvs (pvs I 207 (arN (I 207) mn rw')) 206 (arO (I 206) 64 st)) 214 (upd g i (nI 0))) (k3 _ _ _) i (by omega)
              rw [if_neg c2'] at i1
              have b1 := bes (pvs (pvs (pvs I 207 (arN (I 207) mn rw')) 206 (arO (I 206) 64 st)) 214 (upd g i (nI 0))) (k3 _ _ _) i d (by omega) (by omega)
              have back0 : ∀ v6 : Value, anyB (fun d => match sp_nb w h i d with
                  | some x => op x && (decide (1 ≤ dr) && (airL w h (I 203) m wo op (dr - 1)).2 x)
                  | none => false) (d + 1) = false → pvG mX12_blow (pvR 2 0 0) Z 427 [.ref 202, .int (nI m), .int u2, .retAddr 0, .int (nI i), .int (nI d), v6, .retAddr 0] [] 0 0 224 (pvs (pvs (pvs I 207 (arN (I 207) mn rw')) 206 (arO (I 206) 64 st)) 214 (upd g i (nI 0))) J P := by
                intro v6 hno2
                refine g_iinc dX12_blow_427 rfl (by first | (with_reducible exact nI_1 _) | exact nI_1 _ | exact pk_m1 _ | rfl) (by decide) rfl ?_
                refine g_goto 343 dX12_blow_430 (by decide) ?_
                refine g_drop [.ref 202, .int (nI m), .int u2, .retAddr 0, .int (nI i), .int (nI (d + 1)), .retAddr 0, .retAddr 0] (by repeat (first | exact trivial | refine ⟨Or.inr ⟨_, rfl⟩, ?_⟩ | refine ⟨Or.inl rfl, ?_⟩)) ?_
                exact ihd (d + 1) (by omega) hno2
              rcases hnb : sp_nb w h i d with _ | y
              · have hnI : sp_nbI w h i d = -1 := by rw [sp_nbI, hnb]
                rw [hnI] at b1
                rw [hnb] at hs5
                refine g_iload dX12_blow_343 rfl ?_
                refine g_iconst (v := nI 4) dX12_blow_345 (by decide) ?_
                refine n_icmp_ge 433 dX12_blow_346 (by decide) (by first | ((with_reducible apply cN_le) <;> omega) | ((with_reducible apply cI_len) <;> omega) | ((with_reducible apply cI_nle) <;> omega) | (with_reducible exact cI_le)) (fun c346 => by exfalso; first | omega | exact absurd trivial c346 | exact c346) (fun c346 => ?_)
                refine g_aload_n dX12_blow_349 rfl ?_
                refine g_getP dX12_blow_350 fdX12_43 rfl (by first | rfl | exact pv_shx) (by omega) (by omega) (by decide) rfl (hP _ _ _ rfl) ?_
                refine g_iload dX12_blow_353 rfl ?_
                refine n_zald dX12_blow_355 (by first | rfl | exact pv_shx) (by omega) (by omega) (by decide) (rfl) (by omega) (by repeat (first | exact rd_s | (apply rd_s; done) | apply rd_n (by omega) | apply rp_s | apply rp_n (by omega) | (apply rdL_s; done) | apply rdL_n (by omega) | apply rpJ_s | apply rpJ_n (by omega) | rfl)) ?_
                refine n_if_ne 433 dX12_blow_356 (by decide) (by first | (with_reducible exact cB _) | ((with_reducible apply cN_eq0) <;> omega) | exact Iff.rfl) (fun c356 => by exfalso; first | omega | exact absurd trivial c356 | exact c356) (fun c356 => ?_)
                refine g_aload_n dX12_blow_359 rfl ?_
                refine g_iload dX12_blow_360 rfl ?_
                refine p_callV (i1) okX12_isOpen lkX12_118 rfl (by first | rfl | exact pv_shx) rfl (by omega) (by omega) dX12_blow_362 rfl (Nat.le_of_ble_eq_true rfl) (⟨by decide, by decide, by decide, by decide⟩) ?_
                refine n_if_ne 433 dX12_blow_365 (by decide) (Iff.rfl) (fun c365 => by exfalso; exact c365 rfl) (fun c365 => ?_)
                refine g_aload_n dX12_blow_368 rfl ?_
                refine g_iload dX12_blow_369 rfl ?_
                refine g_iload dX12_blow_371 rfl ?_
                refine p_callV (b1) okX12_beside lkX12_111 rfl (by first | rfl | exact pv_shx) rfl (by omega) (by omega) dX12_blow_373 rfl (Nat.le_of_ble_eq_true rfl) (⟨by decide, by decide, by decide, by decide⟩) ?_
                refine g_istore dX12_blow_376 (by decide) rfl ?_
                refine g_aload_n dX12_blow_378 rfl ?_
                refine g_getP dX12_blow_379 fdX12_43 rfl (by first | rfl | exact pv_shx) (by omega) (by omega) (by decide) rfl (hP _ _ _ rfl) ?_
                refine g_iload dX12_blow_382 rfl ?_
                refine g_iload dX12_blow_384 rfl ?_
                refine n_if_lt 425 dX12_blow_386 (by decide) (cI_lt0.trans (by rw [show ((-1 : Int32)).toInt = -1 from rfl])) (fun c386 => ?_) (fun c386 => by exfalso; first | omega | exact absurd trivial c386 | exact c386)
                refine g_iconst (v := nI 0) dX12_blow_425 (by decide) ?_
                refine n_zast (by first | exact Or.inl rfl | exact Or.inr rfl | exact cB01 _) dX12_blow_426 (by first | rfl | exact pv_shx) (by omega) (by omega) (by omega) (by decide) (rfl) (by omega) (pvu_s.trans (by rw [fa_upd_twice2])) ?_
                exact back0 _ (hs5 false rfl)
              · have hnI : sp_nbI w h i d = nI y := by rw [sp_nbI, hnb]
                have hyl := sp_nb_lt (by omega) (show i < w * h by omega) hnb
                rw [hnI] at b1
                rw [hnb] at hs5
                have i2 := iso (pvs (pvs (pvs I 207 (arN (I 207) mn rw')) 206 (arO (I 206) 64 st)) 214 (upd g i (nI 0))) (k3 _ _ _) y (by omega)
                have rsy : arO (I 206) 64 st y = stv (st y) := arO_at (by omega)
                by_cases c3 : op y = true
                · have c3' : opP (I 203) nw cu fl y := by have := opd y; rw [c3] at this; exact of_decide_eq_true this.symm
                  rw [if_pos c3'] at i2
                  have hsy : (match some y with
                      | some x => op x && (decide (1 ≤ dr) && (airL w h (I 203) m wo op (dr - 1)).2 x)
                      | none => false) = (decide (1 ≤ dr) && (airL w h (I 203) m wo op (dr - 1)).2 y) := by
                    show (op y && _) = _
                    rw [c3, Bool.true_and]
                  by_cases c4 : ∃ k, st y = some k ∧ k + 1 ≤ dr
                  · obtain ⟨k, hk1, hk2⟩ := c4
                    have hsl := (seenl y).mp ⟨k, hk1, hk2⟩
                    rw [hk1] at rsy
                    have kk := bst y k hk1
                    have e1 : (stv (some k)).toInt = k := nI_toInt (by omega)
                    have hany : anyB (fun d => match sp_nb w h i d with
                        | some x => op x && (decide (1 ≤ dr) && (airL w h (I 203) m wo op (dr - 1)).2 x)
                        | none => false) 4 = true := anyB_iff.mpr ⟨d, by omega, by rw [hnb, hsy]; simp [hsl]⟩
                    rw [hany] at au
                    have i3 := iso (pvs (pvs (pvs I 207 (arN (I 207) mn rw')) 206 (arO (I 206) 64 st)) 214 (upd g i (nI 1))) (k3 _ _ _) i (by omega)
                    refine g_iload dX12_blow_343 rfl ?_
                    refine g_iconst (v := nI 4) dX12_blow_345 (by decide) ?_
                    refine n_icmp_ge 433 dX12_blow_346 (by decide) (by first | ((with_reducible apply cN_le) <;> omega) | ((with_reducible apply cI_len) <;> omega) | ((with_reducible apply cI_nle) <;> omega) | (with_reducible exact cI_le)) (fun c346 => by exfalso; first | omega | exact absurd trivial c346 | exact c346) (fun c346 => ?_)
                    refine g_aload_n dX12_blow_349 rfl ?_
                    refine g_getP dX12_blow_350 fdX12_43 rfl (by first | rfl | exact pv_shx) (by omega) (by omega) (by decide) rfl (hP _ _ _ rfl) ?_
                    refine g_iload dX12_blow_353 rfl ?_
                    refine n_zald dX12_blow_355 (by first | rfl | exact pv_shx) (by omega) (by omega) (by decide) (rfl) (by omega) (by repeat (first | exact rd_s | exact rsy | exact dr_h | (apply rd_s; done) | apply rd_n (by omega) | apply rp_s | apply rp_n (by omega) | (apply rdL_s; done) | apply rdL_n (by omega) | apply rpJ_s | apply rpJ_n (by omega) | rfl)) ?_
                    refine n_if_ne 433 dX12_blow_356 (by decide) (by first | (with_reducible exact cB _) | ((with_reducible apply cN_eq0) <;> omega) | exact Iff.rfl) (fun c356 => by exfalso; first | omega | exact absurd trivial c356 | exact c356) (fun c356 => ?_)
                    refine g_aload_n dX12_blow_359 rfl ?_
                    refine g_iload dX12_blow_360 rfl ?_
                    refine p_callV (i1) okX12_isOpen lkX12_118 rfl (by first | rfl | exact pv_shx) rfl (by omega) (by omega) dX12_blow_362 rfl (Nat.le_of_ble_eq_true rfl) (⟨by decide, by decide, by decide, by decide⟩) ?_
                    refine n_if_ne 433 dX12_blow_365 (by decide) (Iff.rfl) (fun c365 => by exfalso; exact c365 rfl) (fun c365 => ?_)
                    refine g_aload_n dX12_blow_368 rfl ?_
                    refine g_iload dX12_blow_369 rfl ?_
                    refine g_iload dX12_blow_371 rfl ?_
                    refine p_callV (b1) okX12_beside lkX12_111 rfl (by first | rfl | exact pv_shx) rfl (by omega) (by omega) dX12_blow_373 rfl (Nat.le_of_ble_eq_true rfl) (⟨by decide, by decide, by decide, by decide⟩) ?_
                    refine g_istore dX12_blow_376 (by decide) rfl ?_
                    refine g_aload_n dX12_blow_378 rfl ?_
                    refine g_getP dX12_blow_379 fdX12_43 rfl (by first | rfl | exact pv_shx) (by omega) (by omega) (by decide) rfl (hP _ _ _ rfl) ?_
                    refine g_iload dX12_blow_382 rfl ?_
                    refine g_iload dX12_blow_384 rfl ?_
                    refine n_if_lt 425 dX12_blow_386 (by decide) (by first | ((with_reducible apply cN_lt0) <;> omega) | (with_reducible exact cI_lt0)) (fun c386 => by exfalso; first | omega | exact absurd trivial c386 | exact c386) (fun c386 => ?_)
                    refine g_aload_n dX12_blow_389 rfl ?_
                    refine g_iload dX12_blow_390 rfl ?_
                    refine p_callV (i2) okX12_isOpen lkX12_118 rfl (by first | rfl | exact pv_shx) rfl (by omega) (by omega) dX12_blow_392 rfl (Nat.le_of_ble_eq_true rfl) (⟨by decide, by decide, by decide, by decide⟩) ?_
                    refine n_if_eq 425 dX12_blow_395 (by decide) (Iff.rfl) (fun c395 => by exfalso; exact absurd c395 (by decide)) (fun c395 => ?_)
                    refine g_aload_n dX12_blow_398 rfl ?_
                    refine g_getP dX12_blow_399 fdX12_19 rfl (by first | rfl | exact pv_shx) (by omega) (by omega) (by decide) rfl (hP _ _ _ rfl) ?_
                    refine g_iload dX12_blow_402 rfl ?_
                    refine n_iald dX12_blow_404 (by first | rfl | exact pv_shx) (by omega) (by omega) (by decide) (rfl) (by omega) (by repeat (first | exact rd_s | exact rsy | exact dr_h | (apply rd_s; done) | apply rd_n (by omega) | apply rp_s | apply rp_n (by omega) | (apply rdL_s; done) | apply rdL_n (by omega) | apply rpJ_s | apply rpJ_n (by omega) | rfl)) ?_
                    refine g_iconst (v := nI 0) dX12_blow_405 (by decide) ?_
                    refine g_aload_n dX12_blow_406 rfl ?_
                    refine g_getP dX12_blow_407 fdX12_7 rfl (by first | rfl | exact pv_shx) (by omega) (by omega) (by decide) rfl (hP _ _ _ rfl) ?_
                    refine g_bipush (v := nI 13) dX12_blow_410 (by decide) ?_
                    refine n_iald dX12_blow_412 (by first | rfl | exact pv_shx) (by omega) (by omega) (by decide) (rfl) (by omega) (by repeat (first | exact rd_s | exact rsy | exact dr_h | (apply rd_s; done) | apply rd_n (by omega) | apply rp_s | apply rp_n (by omega) | (apply rdL_s; done) | apply rdL_n (by omega) | apply rpJ_s | apply rpJ_n (by omega) | rfl)) ?_
                    refine g_iconst (v := nI 1) dX12_blow_413 (by decide) ?_
                    refine n_isub dX12_blow_414 (by first | ((with_reducible apply pk_sub) <;> omega) | rfl) ?_
                    refine p_callS (t_isIn (L := 0) (H := (dr : Int) - 1) (nI_toInt (by decide)) (by first | exact pk_sub_toInt (by omega) (by omega) | (rw [nI_toInt (by omega)]; omega))) okX12_isIn lkX12_96 rfl dX12_blow_415 rfl (Nat.le_of_ble_eq_true rfl) (⟨by decide, by decide, by decide, by decide⟩) ?_
                    refine n_if_eq 425 dX12_blow_418 (by decide) (by first | (with_reducible exact cB _) | ((with_reducible apply cN_eq0) <;> omega) | exact Iff.rfl) (fun c418 => by exfalso; first | omega | exact absurd trivial c418 | exact c418) (fun c418 => ?_)
                    refine g_iconst (v := nI 1) dX12_blow_421 (by decide) ?_
                    refine g_goto 426 dX12_blow_422 (by decide) ?_
                    refine n_zast (by first | exact Or.inl rfl | exact Or.inr rfl | exact cB01 _) dX12_blow_426 (by first | rfl | exact pv_shx) (by omega) (by omega) (by omega) (by decide) (rfl) (by omega) (pvu_s.trans (by rw [fa_upd_twice2])) ?_
                    refine g_iinc dX12_blow_427 rfl (nI_1 _) (by decide) rfl ?_
                    refine g_goto 343 dX12_blow_430 (by decide) ?_
                    by_cases hd4 : d + 1 = 4
                    · skip
                      refine g_iload dX12_blow_343 rfl ?_
                      refine g_iconst (v := nI 4) dX12_blow_345 (by decide) ?_
                      refine n_icmp_ge 433 dX12_blow_346 (by decide) (by first | ((with_reducible apply cN_le) <;> omega) | ((with_reducible apply cI_len) <;> omega) | ((with_reducible apply cI_nle) <;> omega) | (with_reducible exact cI_le)) (fun c346 => ?_) (fun c346 => by exfalso; first | omega | exact absurd trivial c346 | exact c346)
                      exact nxt 1 _ (by repeat (first | exact trivial | refine ⟨Or.inr ⟨_, rfl⟩, ?_⟩ | refine ⟨Or.inl rfl, ?_⟩)) (by rw [au]; rfl)
                    · skip
                      refine g_iload dX12_blow_343 rfl ?_
                      refine g_iconst (v := nI 4) dX12_blow_345 (by decide) ?_
                      refine n_icmp_ge 433 dX12_blow_346 (by decide) (by first | ((with_reducible apply cN_le) <;> omega) | ((with_reducible apply cI_len) <;> omega) | ((with_reducible apply cI_nle) <;> omega) | (with_reducible exact cI_le)) (fun c346 => by exfalso; first | omega | exact absurd trivial c346 | exact c346) (fun c346 => ?_)
                      refine g_aload_n dX12_blow_349 rfl ?_
                      refine g_getP dX12_blow_350 fdX12_43 rfl (by first | rfl | exact pv_shx) (by omega) (by omega) (by decide) rfl (hP _ _ _ rfl) ?_
                      refine g_iload dX12_blow_353 rfl ?_
                      refine n_zald dX12_blow_355 (by first | rfl | exact pv_shx) (by omega) (by omega) (by decide) (rfl) (by omega) (by repeat (first | exact rd_s | exact rsy | exact dr_h | (apply rd_s; done) | apply rd_n (by omega) | apply rp_s | apply rp_n (by omega) | (apply rdL_s; done) | apply rdL_n (by omega) | apply rpJ_s | apply rpJ_n (by omega) | rfl)) ?_
                      refine n_if_ne 433 dX12_blow_356 (by decide) (by first | (with_reducible exact cB _) | ((with_reducible apply cN_eq0) <;> omega) | exact Iff.rfl) (fun c356 => ?_) (fun c356 => by exfalso; first | omega | exact absurd trivial c356 | exact c356)
                      exact nxt 1 _ (by repeat (first | exact trivial | refine ⟨Or.inr ⟨_, rfl⟩, ?_⟩ | refine ⟨Or.inl rfl, ?_⟩)) (by rw [au]; rfl)
                  · have hsl : (decide (1 ≤ dr) && (airL w h (I 203) m wo op (dr - 1)).2 y) = false := by
                      cases hz : (decide (1 ≤ dr) && (airL w h (I 203) m wo op (dr - 1)).2 y) with
                      | false => rfl
                      | true =>
                        rw [Bool.and_eq_true] at hz
                        exact absurd ((seenl y).mpr ⟨of_decide_eq_true hz.1, hz.2⟩) c4
                    have e1 : ¬ (0 ≤ (stv (st y)).toInt ∧ (stv (st y)).toInt ≤ (dr : Int) - 1) := by
                      rcases hsty : st y with _ | k
                      · rw [show (stv none).toInt = -1 from rfl]; omega
                      · have kk := bst y k hsty
                        have : ¬ k + 1 ≤ dr := fun z => c4 ⟨k, hsty, z⟩
                        rw [show stv (some k) = nI k from rfl, nI_toInt (by omega)]
                        omega
                    refine g_iload dX12_blow_343 rfl ?_
                    refine g_iconst (v := nI 4) dX12_blow_345 (by decide) ?_
                    refine n_icmp_ge 433 dX12_blow_346 (by decide) (by first | ((with_reducible apply cN_le) <;> omega) | ((with_reducible apply cI_len) <;> omega) | ((with_reducible apply cI_nle) <;> omega) | (with_reducible exact cI_le)) (fun c346 => by exfalso; first | omega | exact absurd trivial c346 | exact c346) (fun c346 => ?_)
                    refine g_aload_n dX12_blow_349 rfl ?_
                    refine g_getP dX12_blow_350 fdX12_43 rfl (by first | rfl | exact pv_shx) (by omega) (by omega) (by decide) rfl (hP _ _ _ rfl) ?_
                    refine g_iload dX12_blow_353 rfl ?_
                    refine n_zald dX12_blow_355 (by first | rfl | exact pv_shx) (by omega) (by omega) (by decide) (rfl) (by omega) (by repeat (first | exact rd_s | exact rsy | exact dr_h | (apply rd_s; done) | apply rd_n (by omega) | apply rp_s | apply rp_n (by omega) | (apply rdL_s; done) | apply rdL_n (by omega) | apply rpJ_s | apply rpJ_n (by omega) | rfl)) ?_
                    refine n_if_ne 433 dX12_blow_356 (by decide) (by first | (with_reducible exact cB _) | ((with_reducible apply cN_eq0) <;> omega) | exact Iff.rfl) (fun c356 => by exfalso; first | omega | exact absurd trivial c356 | exact c356) (fun c356 => ?_)
                    refine g_aload_n dX12_blow_359 rfl ?_
                    refine g_iload dX12_blow_360 rfl ?_
                    refine p_callV (i1) okX12_isOpen lkX12_118 rfl (by first | rfl | exact pv_shx) rfl (by omega) (by omega) dX12_blow_362 rfl (Nat.le_of_ble_eq_true rfl) (⟨by decide, by decide, by decide, by decide⟩) ?_
                    refine n_if_ne 433 dX12_blow_365 (by decide) (Iff.rfl) (fun c365 => by exfalso; exact c365 rfl) (fun c365 => ?_)
                    refine g_aload_n dX12_blow_368 rfl ?_
                    refine g_iload dX12_blow_369 rfl ?_
                    refine g_iload dX12_blow_371 rfl ?_
                    refine p_callV (b1) okX12_beside lkX12_111 rfl (by first | rfl | exact pv_shx) rfl (by omega) (by omega) dX12_blow_373 rfl (Nat.le_of_ble_eq_true rfl) (⟨by decide, by decide, by decide, by decide⟩) ?_
                    refine g_istore dX12_blow_376 (by decide) rfl ?_
                    refine g_aload_n dX12_blow_378 rfl ?_
                    refine g_getP dX12_blow_379 fdX12_43 rfl (by first | rfl | exact pv_shx) (by omega) (by omega) (by decide) rfl (hP _ _ _ rfl) ?_
                    refine g_iload dX12_blow_382 rfl ?_
                    refine g_iload dX12_blow_384 rfl ?_
                    refine n_if_lt 425 dX12_blow_386 (by decide) (by first | ((with_reducible apply cN_lt0) <;> omega) | (with_reducible exact cI_lt0)) (fun c386 => by exfalso; first | omega | exact absurd trivial c386 | exact c386) (fun c386 => ?_)
                    refine g_aload_n dX12_blow_389 rfl ?_
                    refine g_iload dX12_blow_390 rfl ?_
                    refine p_callV (i2) okX12_isOpen lkX12_118 rfl (by first | rfl | exact pv_shx) rfl (by omega) (by omega) dX12_blow_392 rfl (Nat.le_of_ble_eq_true rfl) (⟨by decide, by decide, by decide, by decide⟩) ?_
                    refine n_if_eq 425 dX12_blow_395 (by decide) (Iff.rfl) (fun c395 => by exfalso; exact absurd c395 (by decide)) (fun c395 => ?_)
                    refine g_aload_n dX12_blow_398 rfl ?_
                    refine g_getP dX12_blow_399 fdX12_19 rfl (by first | rfl | exact pv_shx) (by omega) (by omega) (by decide) rfl (hP _ _ _ rfl) ?_
                    refine g_iload dX12_blow_402 rfl ?_
                    refine n_iald dX12_blow_404 (by first | rfl | exact pv_shx) (by omega) (by omega) (by decide) (rfl) (by omega) (by repeat (first | exact rd_s | exact rsy | exact dr_h | (apply rd_s; done) | apply rd_n (by omega) | apply rp_s | apply rp_n (by omega) | (apply rdL_s; done) | apply rdL_n (by omega) | apply rpJ_s | apply rpJ_n (by omega) | rfl)) ?_
                    refine g_iconst (v := nI 0) dX12_blow_405 (by decide) ?_
                    refine g_aload_n dX12_blow_406 rfl ?_
                    refine g_getP dX12_blow_407 fdX12_7 rfl (by first | rfl | exact pv_shx) (by omega) (by omega) (by decide) rfl (hP _ _ _ rfl) ?_
                    refine g_bipush (v := nI 13) dX12_blow_410 (by decide) ?_
                    refine n_iald dX12_blow_412 (by first | rfl | exact pv_shx) (by omega) (by omega) (by decide) (rfl) (by omega) (by repeat (first | exact rd_s | exact rsy | exact dr_h | (apply rd_s; done) | apply rd_n (by omega) | apply rp_s | apply rp_n (by omega) | (apply rdL_s; done) | apply rdL_n (by omega) | apply rpJ_s | apply rpJ_n (by omega) | rfl)) ?_
                    refine g_iconst (v := nI 1) dX12_blow_413 (by decide) ?_
                    refine n_isub dX12_blow_414 (by first | ((with_reducible apply pk_sub) <;> omega) | rfl) ?_
                    refine p_callS (t_isIn (L := 0) (H := (dr : Int) - 1) (nI_toInt (by decide)) (by first | exact pk_sub_toInt (by omega) (by omega) | (rw [nI_toInt (by omega)]; omega))) okX12_isIn lkX12_96 rfl dX12_blow_415 rfl (Nat.le_of_ble_eq_true rfl) (⟨by decide, by decide, by decide, by decide⟩) ?_
                    refine n_if_eq 425 dX12_blow_418 (by decide) (by first | (with_reducible exact cB _) | ((with_reducible apply cN_eq0) <;> omega) | exact Iff.rfl) (fun c418 => ?_) (fun c418 => by exfalso; exact c418 e1)
                    refine g_iconst (v := nI 0) dX12_blow_425 (by decide) ?_
                    refine n_zast (by first | exact Or.inl rfl | exact Or.inr rfl | exact cB01 _) dX12_blow_426 (by first | rfl | exact pv_shx) (by omega) (by omega) (by omega) (by decide) (rfl) (by omega) (pvu_s.trans (by rw [fa_upd_twice2])) ?_
                    exact back0 _ (hs5 false (hsy.trans hsl))
                · have c3f : op y = false := by simpa using c3
                  have c3' : ¬ opP (I 203) nw cu fl y := by have := opd y; rw [c3f] at this; exact of_decide_eq_false this.symm
                  rw [if_neg c3'] at i2
                  refine g_iload dX12_blow_343 rfl ?_
                  refine g_iconst (v := nI 4) dX12_blow_345 (by decide) ?_
                  refine n_icmp_ge 433 dX12_blow_346 (by decide) (by first | ((with_reducible apply cN_le) <;> omega) | ((with_reducible apply cI_len) <;> omega) | ((with_reducible apply cI_nle) <;> omega) | (with_reducible exact cI_le)) (fun c346 => by exfalso; first | omega | exact absurd trivial c346 | exact c346) (fun c346 => ?_)
                  refine g_aload_n dX12_blow_349 rfl ?_
                  refine g_getP dX12_blow_350 fdX12_43 rfl (by first | rfl | exact pv_shx) (by omega) (by omega) (by decide) rfl (hP _ _ _ rfl) ?_
                  refine g_iload dX12_blow_353 rfl ?_
                  refine n_zald dX12_blow_355 (by first | rfl | exact pv_shx) (by omega) (by omega) (by decide) (rfl) (by omega) (by repeat (first | exact rd_s | exact rsy | exact dr_h | (apply rd_s; done) | apply rd_n (by omega) | apply rp_s | apply rp_n (by omega) | (apply rdL_s; done) | apply rdL_n (by omega) | apply rpJ_s | apply rpJ_n (by omega) | rfl)) ?_
                  refine n_if_ne 433 dX12_blow_356 (by decide) (by first | (with_reducible exact cB _) | ((with_reducible apply cN_eq0) <;> omega) | exact Iff.rfl) (fun c356 => by exfalso; first | omega | exact absurd trivial c356 | exact c356) (fun c356 => ?_)
                  refine g_aload_n dX12_blow_359 rfl ?_
                  refine g_iload dX12_blow_360 rfl ?_
                  refine p_callV (i1) okX12_isOpen lkX12_118 rfl (by first | rfl | exact pv_shx) rfl (by omega) (by omega) dX12_blow_362 rfl (Nat.le_of_ble_eq_true rfl) (⟨by decide, by decide, by decide, by decide⟩) ?_
                  refine n_if_ne 433 dX12_blow_365 (by decide) (Iff.rfl) (fun c365 => by exfalso; exact c365 rfl) (fun c365 => ?_)
                  refine g_aload_n dX12_blow_368 rfl ?_
                  refine g_iload dX12_blow_369 rfl ?_
                  refine g_iload dX12_blow_371 rfl ?_
                  refine p_callV (b1) okX12_beside lkX12_111 rfl (by first | rfl | exact pv_shx) rfl (by omega) (by omega) dX12_blow_373 rfl (Nat.le_of_ble_eq_true rfl) (⟨by decide, by decide, by decide, by decide⟩) ?_
                  refine g_istore dX12_blow_376 (by decide) rfl ?_
                  refine g_aload_n dX12_blow_378 rfl ?_
                  refine g_getP dX12_blow_379 fdX12_43 rfl (by first | rfl | exact pv_shx) (by omega) (by omega) (by decide) rfl (hP _ _ _ rfl) ?_
                  refine g_iload dX12_blow_382 rfl ?_
                  refine g_iload dX12_blow_384 rfl ?_
                  refine n_if_lt 425 dX12_blow_386 (by decide) (by first | ((with_reducible apply cN_lt0) <;> omega) | (with_reducible exact cI_lt0)) (fun c386 => by exfalso; first | omega | exact absurd trivial c386 | exact c386) (fun c386 => ?_)
                  refine g_aload_n dX12_blow_389 rfl ?_
                  refine g_iload dX12_blow_390 rfl ?_
                  refine p_callV (i2) okX12_isOpen lkX12_118 rfl (by first | rfl | exact pv_shx) rfl (by omega) (by omega) dX12_blow_392 rfl (Nat.le_of_ble_eq_true rfl) (⟨by decide, by decide, by decide, by decide⟩) ?_
                  refine n_if_eq 425 dX12_blow_395 (by decide) (Iff.rfl) (fun c395 => ?_) (fun c395 => by exfalso; exact c395 rfl)
                  refine g_iconst (v := nI 0) dX12_blow_425 (by decide) ?_
                  refine n_zast (by first | exact Or.inl rfl | exact Or.inr rfl | exact cB01 _) dX12_blow_426 (by first | rfl | exact pv_shx) (by omega) (by omega) (by omega) (by decide) (rfl) (by omega) (pvu_s.trans (by rw [fa_upd_twice2])) ?_
                  exact back0 _ (hs5 false (by show (op y && _) = false; rw [c3f]; rfl))
          refine g_iload dX12_blow_304 rfl ?_
          refine g_aload_n dX12_blow_306 rfl ?_
          refine n_getI dX12_blow_307 fdX12_86 rfl (by first | rfl | exact pv_shx) (by omega) (by omega) (by decide) rfl (by repeat (first | exact hw | exact hh | exact rs | (apply rd_s; done) | apply rd_n (by omega) | apply rp_s | apply rp_n (by omega) | (apply rdL_s; done) | apply rdL_n (by omega) | apply rpJ_s | apply rpJ_n (by omega) | rfl)) ?_
          refine g_aload_n dX12_blow_310 rfl ?_
          refine n_getI dX12_blow_311 fdX12_89 rfl (by first | rfl | exact pv_shx) (by omega) (by omega) (by decide) rfl (by repeat (first | exact hw | exact hh | exact rs | (apply rd_s; done) | apply rd_n (by omega) | apply rp_s | apply rp_n (by omega) | (apply rdL_s; done) | apply rdL_n (by omega) | apply rpJ_s | apply rpJ_n (by omega) | rfl)) ?_
          refine n_imul dX12_blow_314 (by first | (with_reducible exact pk_mul _ _) | rfl) ?_
          refine n_icmp_ge 439 dX12_blow_315 (by decide) (by first | ((with_reducible apply cN_le) <;> omega) | ((with_reducible apply cI_len) <;> omega) | ((with_reducible apply cI_nle) <;> omega) | (with_reducible exact cI_le)) (fun c315 => by exfalso; first | omega | exact absurd trivial c315 | exact c315) (fun c315 => ?_)
          refine g_aload_n dX12_blow_318 rfl ?_
          refine g_getP dX12_blow_319 fdX12_43 rfl (by first | rfl | exact pv_shx) (by omega) (by omega) (by decide) rfl (hP _ _ _ rfl) ?_
          refine g_iload dX12_blow_322 rfl ?_
          refine g_aload_n dX12_blow_324 rfl ?_
          refine g_getP dX12_blow_325 fdX12_19 rfl (by first | rfl | exact pv_shx) (by omega) (by omega) (by decide) rfl (hP _ _ _ rfl) ?_
          refine g_iload dX12_blow_328 rfl ?_
          refine n_iald dX12_blow_330 (by first | rfl | exact pv_shx) (by omega) (by omega) (by decide) (rfl) (by omega) (by repeat (first | exact hw | exact hh | exact rs | (apply rd_s; done) | apply rd_n (by omega) | apply rp_s | apply rp_n (by omega) | (apply rdL_s; done) | apply rdL_n (by omega) | apply rpJ_s | apply rpJ_n (by omega) | rfl)) ?_
          refine n_if_lt 338 dX12_blow_331 (by decide) (cI_lt0.trans (by rw [show (stv none).toInt = -1 from rfl])) (fun c331 => ?_) (fun c331 => by exfalso; first | omega | exact absurd trivial c331 | exact c331)
          refine g_iconst (v := nI 0) dX12_blow_338 (by decide) ?_
          refine n_zast (by first | exact Or.inl rfl | exact Or.inr rfl | exact cB01 _) dX12_blow_339 (by first | rfl | exact pv_shx) (by omega) (by omega) (by omega) (by decide) (rfl) (by omega) (by repeat (first | exact pvu_s | exact pvuJ_s | apply pvu_in (by omega) | apply pvuJ_in (by omega) | exact pvu_pvs | exact pvuJ_pvs)) ?_
          refine g_iconst (v := nI 0) dX12_blow_340 (by decide) ?_
          refine g_istore dX12_blow_341 (by decide) rfl ?_
          exact dl 4 0 (by omega) rfl
      · have s0 := (seen i).mp c1
        obtain ⟨k, hk⟩ := Option.ne_none_iff_exists'.mp c1
        have kk := bst i k hk
        rw [hk] at rs
        rw [s0, Bool.true_or] at au
        have rs' : arO (I 206) 64 st i = nI k := rs
        refine g_iload dX12_blow_304 rfl ?_
        refine g_aload_n dX12_blow_306 rfl ?_
        refine n_getI dX12_blow_307 fdX12_86 rfl (by first | rfl | exact pv_shx) (by omega) (by omega) (by decide) rfl (by repeat (first | exact hw | exact hh | exact rs' | (apply rd_s; done) | apply rd_n (by omega) | apply rp_s | apply rp_n (by omega) | (apply rdL_s; done) | apply rdL_n (by omega) | apply rpJ_s | apply rpJ_n (by omega) | rfl)) ?_
        refine g_aload_n dX12_blow_310 rfl ?_
        refine n_getI dX12_blow_311 fdX12_89 rfl (by first | rfl | exact pv_shx) (by omega) (by omega) (by decide) rfl (by repeat (first | exact hw | exact hh | exact rs' | (apply rd_s; done) | apply rd_n (by omega) | apply rp_s | apply rp_n (by omega) | (apply rdL_s; done) | apply rdL_n (by omega) | apply rpJ_s | apply rpJ_n (by omega) | rfl)) ?_
        refine n_imul dX12_blow_314 (by first | (with_reducible exact pk_mul _ _) | rfl) ?_
        refine n_icmp_ge 439 dX12_blow_315 (by decide) (by first | ((with_reducible apply cN_le) <;> omega) | ((with_reducible apply cI_len) <;> omega) | ((with_reducible apply cI_nle) <;> omega) | (with_reducible exact cI_le)) (fun c315 => by exfalso; first | omega | exact absurd trivial c315 | exact c315) (fun c315 => ?_)
        refine g_aload_n dX12_blow_318 rfl ?_
        refine g_getP dX12_blow_319 fdX12_43 rfl (by first | rfl | exact pv_shx) (by omega) (by omega) (by decide) rfl (hP _ _ _ rfl) ?_
        refine g_iload dX12_blow_322 rfl ?_
        refine g_aload_n dX12_blow_324 rfl ?_
        refine g_getP dX12_blow_325 fdX12_19 rfl (by first | rfl | exact pv_shx) (by omega) (by omega) (by decide) rfl (hP _ _ _ rfl) ?_
        refine g_iload dX12_blow_328 rfl ?_
        refine n_iald dX12_blow_330 (by first | rfl | exact pv_shx) (by omega) (by omega) (by decide) (rfl) (by omega) (by repeat (first | exact hw | exact hh | exact rs' | (apply rd_s; done) | apply rd_n (by omega) | apply rp_s | apply rp_n (by omega) | (apply rdL_s; done) | apply rdL_n (by omega) | apply rpJ_s | apply rpJ_n (by omega) | rfl)) ?_
        refine n_if_lt 338 dX12_blow_331 (by decide) (by first | ((with_reducible apply cN_lt0) <;> omega) | (with_reducible exact cI_lt0)) (fun c331 => by exfalso; first | omega | exact absurd trivial c331 | exact c331) (fun c331 => ?_)
        refine g_iconst (v := nI 1) dX12_blow_334 (by decide) ?_
        refine g_goto 339 dX12_blow_335 (by decide) ?_
        refine n_zast (by first | exact Or.inl rfl | exact Or.inr rfl | exact cB01 _) dX12_blow_339 (by first | rfl | exact pv_shx) (by omega) (by omega) (by omega) (by decide) (rfl) (by omega) (by repeat (first | exact pvu_s | exact pvuJ_s | apply pvu_in (by omega) | apply pvuJ_in (by omega) | exact pvu_pvs | exact pvuJ_pvs)) ?_
        refine g_iconst (v := nI 0) dX12_blow_340 (by decide) ?_
        refine g_istore dX12_blow_341 (by decide) rfl ?_
        refine g_iload dX12_blow_343 rfl ?_
        refine g_iconst (v := nI 4) dX12_blow_345 (by decide) ?_
        refine n_icmp_ge 433 dX12_blow_346 (by decide) (by first | ((with_reducible apply cN_le) <;> omega) | ((with_reducible apply cI_len) <;> omega) | ((with_reducible apply cI_nle) <;> omega) | (with_reducible exact cI_le)) (fun c346 => by exfalso; first | omega | exact absurd trivial c346 | exact c346) (fun c346 => ?_)
        refine g_aload_n dX12_blow_349 rfl ?_
        refine g_getP dX12_blow_350 fdX12_43 rfl (by first | rfl | exact pv_shx) (by omega) (by omega) (by decide) rfl (hP _ _ _ rfl) ?_
        refine g_iload dX12_blow_353 rfl ?_
        refine n_zald dX12_blow_355 (by first | rfl | exact pv_shx) (by omega) (by omega) (by decide) (rfl) (by omega) (by repeat (first | exact hw | exact hh | exact rs' | (apply rd_s; done) | apply rd_n (by omega) | apply rp_s | apply rp_n (by omega) | (apply rdL_s; done) | apply rdL_n (by omega) | apply rpJ_s | apply rpJ_n (by omega) | rfl)) ?_
        refine n_if_ne 433 dX12_blow_356 (by decide) (by first | (with_reducible exact cB _) | ((with_reducible apply cN_eq0) <;> omega) | exact Iff.rfl) (fun c356 => ?_) (fun c356 => by exfalso; first | omega | exact absurd trivial c356 | exact c356)
        exact nxt 1 _ (by repeat (first | exact trivial | refine ⟨Or.inr ⟨_, rfl⟩, ?_⟩ | refine ⟨Or.inl rfl, ?_⟩)) (by rw [au]; rfl)
  -- the queue
  have que : ∀ f st rw' mn i, f + i = w * h + 1 → bfI (w * h) dr (hoB (I 203) m wo) op (adjB w h) st rw' mn i → pvG mX12_blow (pvR 2 0 0) Z 162 [.ref 202, .int (nI m), .int u2, .int (nI mn), .int (nI i), .retAddr 0, .retAddr 0, .retAddr 0] [] 0 0 224 (pvs (pvs I 207 (arN (I 207) mn rw')) 206 (arO (I 206) 64 st)) J P := by
    intro f
    induction f with
    | zero =>
      intro st rw' mn i hf hb
      have := bfI_mn hb
      have := hb.1
      omega
    | succ f ih =>
      intro st rw' mn i hfi hb
      have hmn := bfI_mn hb
      by_cases c0 : i < mn
      · have hrow : arN (I 207) mn rw' i = nI (rw' i) := arN_at c0
        have hx := (hb.2.1 i c0)
        obtain ⟨ki, hki⟩ := Option.ne_none_iff_exists'.mp hx.2
        have hkd := (hb.2.2.2.2.2.2.1 _ _ hki).2
        have hly := (hb.2.2.2.2.2.2.1 _ _ hki).1
        have rs : arO (I 206) 64 st (rw' i) = nI ki := by rw [arO_at (by omega), hki]; rfl
        have nxt : ∀ (st' : Nat → Option Nat) (rw2 : Nat → Nat) (mn' : Nat) (ls' : List Value), pvle [.ref 202, .int (nI m), .int u2, .int (nI mn'), .int (nI i), .retAddr 0, .retAddr 0, .retAddr 0] ls' → bfI (w * h) dr (hoB (I 203) m wo) op (adjB w h) st' rw2 mn' (i + 1) → pvG mX12_blow (pvR 2 0 0) Z 295 ls' [] 0 0 224 (pvs (pvs I 207 (arN (I 207) mn' rw2)) 206 (arO (I 206) 64 st')) J P := by
          intro st' rw2 mn' ls' hle hb'
          refine g_drop _ hle ?_
          refine g_iinc dX12_blow_295 rfl (by first | (with_reducible exact nI_1 _) | exact nI_1 _ | exact pk_m1 _ | rfl) (by decide) rfl ?_
          refine g_goto 162 dX12_blow_298 (by decide) ?_
          exact ih st' rw2 mn' (i + 1) (by omega) hb'
        by_cases c1 : ki = dr
        · subst c1
          refine g_iload dX12_blow_162 rfl ?_
          refine g_iload_n dX12_blow_164 rfl ?_
          refine n_icmp_ge 301 dX12_blow_165 (by decide) (by first | ((with_reducible apply cN_le) <;> omega) | ((with_reducible apply cI_len) <;> omega) | ((with_reducible apply cI_nle) <;> omega) | (with_reducible exact cI_le)) (fun c165 => by exfalso; first | omega | exact absurd trivial c165 | exact c165) (fun c165 => ?_)
          refine g_aload_n dX12_blow_168 rfl ?_
          refine g_getP dX12_blow_169 fdX12_22 rfl (by first | rfl | exact pv_shx) (by omega) (by omega) (by decide) rfl (hP _ _ _ rfl) ?_
          refine g_iload dX12_blow_172 rfl ?_
          refine n_iald dX12_blow_174 (by first | rfl | exact pv_shx) (by omega) (by omega) (by decide) (rfl) (by omega) (by repeat (first | exact hrow | exact rs | exact dr_h | (apply rd_s; done) | apply rd_n (by omega) | apply rp_s | apply rp_n (by omega) | (apply rdL_s; done) | apply rdL_n (by omega) | apply rpJ_s | apply rpJ_n (by omega) | rfl)) ?_
          refine g_istore dX12_blow_175 (by decide) rfl ?_
          refine g_aload_n dX12_blow_177 rfl ?_
          refine g_getP dX12_blow_178 fdX12_19 rfl (by first | rfl | exact pv_shx) (by omega) (by omega) (by decide) rfl (hP _ _ _ rfl) ?_
          refine g_iload dX12_blow_181 rfl ?_
          refine n_iald dX12_blow_183 (by first | rfl | exact pv_shx) (by omega) (by omega) (by decide) (rfl) (by omega) (by repeat (first | exact hrow | exact rs | exact dr_h | (apply rd_s; done) | apply rd_n (by omega) | apply rp_s | apply rp_n (by omega) | (apply rdL_s; done) | apply rdL_n (by omega) | apply rpJ_s | apply rpJ_n (by omega) | rfl)) ?_
          refine g_aload_n dX12_blow_184 rfl ?_
          refine g_getP dX12_blow_185 fdX12_7 rfl (by first | rfl | exact pv_shx) (by omega) (by omega) (by decide) rfl (hP _ _ _ rfl) ?_
          refine g_bipush (v := nI 13) dX12_blow_188 (by decide) ?_
          refine n_iald dX12_blow_190 (by first | rfl | exact pv_shx) (by omega) (by omega) (by decide) (rfl) (by omega) (by repeat (first | exact hrow | exact rs | exact dr_h | (apply rd_s; done) | apply rd_n (by omega) | apply rp_s | apply rp_n (by omega) | (apply rdL_s; done) | apply rdL_n (by omega) | apply rpJ_s | apply rpJ_n (by omega) | rfl)) ?_
          refine n_icmp_eq 295 dX12_blow_191 (by decide) (by first | ((with_reducible apply cN_eq) <;> omega) | ((with_reducible apply cI_eqn) <;> omega) | exact Iff.rfl) (fun c191 => ?_) (fun c191 => by exfalso; first | omega | exact absurd trivial c191 | exact c191)
          exact nxt st rw' mn _ (by repeat (first | exact trivial | refine ⟨Or.inr ⟨_, rfl⟩, ?_⟩ | refine ⟨Or.inl rfl, ?_⟩)) (bfI_next hb c0 hki (fun z => absurd z (Nat.lt_irrefl _)))
        · -- the directions
          have dl : ∀ q d st' rw2 mn', d + q = 4 → bfI (w * h) dr (hoB (I 203) m wo) op (adjB w h) st' rw2 mn' i → i < mn' → rw2 i = rw' i → st' (rw' i) = some ki → (∀ d' y, d' < d → sp_nb w h (rw' i) d' = some y → op y = true → st' y ≠ none) →
              pvG mX12_blow (pvR 2 0 0) Z 219 [.ref 202, .int (nI m), .int u2, .int (nI mn'), .int (nI i), .int (nI (rw' i)), .int (nI d), .retAddr 0] [] 0 0 224 (pvs (pvs I 207 (arN (I 207) mn' rw2)) 206 (arO (I 206) 64 st')) J P := by
            intro q
            induction q with
            | zero =>
              intro d st' rw2 mn' hd hb' hi' hr' hs' hdone
              obtain rfl : d = 4 := by omega
              refine g_iload dX12_blow_219 rfl ?_
              refine g_iconst (v := nI 4) dX12_blow_221 (by decide) ?_
              refine n_icmp_ge 295 dX12_blow_222 (by decide) (by first | ((with_reducible apply cN_le) <;> omega) | ((with_reducible apply cI_len) <;> omega) | ((with_reducible apply cI_nle) <;> omega) | (with_reducible exact cI_le)) (fun c222 => ?_) (fun c222 => by exfalso; first | omega | exact absurd trivial c222 | exact c222)
              refine nxt st' rw2 mn' _ (by repeat (first | exact trivial | refine ⟨Or.inr ⟨_, rfl⟩, ?_⟩ | refine ⟨Or.inl rfl, ?_⟩)) (bfI_next hb' hi' (by rw [hr']; exact hs') (fun _ c hadj hopc => ?_))
              rw [hr'] at hadj
              obtain ⟨d', hd', hdd⟩ := anyB_iff.mp hadj
              exact hdone d' c hd' (of_decide_eq_true hdd) hopc
            | succ q ihd =>
              intro d st' rw2 mn' hd hb' hi' hr' hs' hdone
              have hmn' := bfI_mn hb'
              have b1 := bes (pvs (pvs I 207 (arN (I 207) mn' rw2)) 206 (arO (I 206) 64 st')) (k2 _ _) (rw' i) d hx.1 (by omega)
              have rs1 : arO (I 206) 64 st' (rw' i) = nI ki := by rw [arO_at (by omega), hs']; rfl
              have ext : ∀ st2 : Nat → Option Nat, (∀ z, sp_nb w h (rw' i) d = some z → op z = true → st2 z ≠ none) → (∀ d' z, d' < d → sp_nb w h (rw' i) d' = some z → op z = true → st2 z ≠ none) → ∀ d' z, d' < d + 1 → sp_nb w h (rw' i) d' = some z → op z = true → st2 z ≠ none := by
                intro st2 e1 e2 d' z h1 h2 h3
                by_cases e : d' = d
                · subst e; exact e1 z h2 h3
                · exact e2 d' z (by omega) h2 h3
              have back0 : ∀ (st2 : Nat → Option Nat) (rw3 : Nat → Nat) (mn2 : Nat) (v7 : Value), bfI (w * h) dr (hoB (I 203) m wo) op (adjB w h) st2 rw3 mn2 i → i < mn2 → rw3 i = rw' i → st2 (rw' i) = some ki → (∀ d' y, d' < d + 1 → sp_nb w h (rw' i) d' = some y → op y = true → st2 y ≠ none) → pvG mX12_blow (pvR 2 0 0) Z 289 [.ref 202, .int (nI m), .int u2, .int (nI mn2), .int (nI i), .int (nI (rw' i)), .int (nI d), v7] [] 0 0 224 (pvs (pvs I 207 (arN (I 207) mn2 rw3)) 206 (arO (I 206) 64 st2)) J P := by
                intro st2 rw3 mn2 v7 g1 g2 g3 g4 g5
                refine g_iinc dX12_blow_289 rfl (by first | (with_reducible exact nI_1 _) | exact nI_1 _ | exact pk_m1 _ | rfl) (by decide) rfl ?_
                refine g_goto 219 dX12_blow_292 (by decide) ?_
                refine g_drop [.ref 202, .int (nI m), .int u2, .int (nI mn2), .int (nI i), .int (nI (rw' i)), .int (nI (d + 1)), .retAddr 0] (by repeat (first | exact trivial | refine ⟨Or.inr ⟨_, rfl⟩, ?_⟩ | refine ⟨Or.inl rfl, ?_⟩)) ?_
                exact ihd (d + 1) st2 rw3 mn2 (by omega) g1 g2 g3 g4 g5
              rcases hnb : sp_nb w h (rw' i) d with _ | y
              · have hnI : sp_nbI w h (rw' i) d = -1 := by rw [sp_nbI, hnb]
                rw [hnI] at b1
                refine g_iload dX12_blow_219 rfl ?_
                refine g_iconst (v := nI 4) dX12_blow_221 (by decide) ?_
                refine n_icmp_ge 295 dX12_blow_222 (by decide) (by first | ((with_reducible apply cN_le) <;> omega) | ((with_reducible apply cI_len) <;> omega) | ((with_reducible apply cI_nle) <;> omega) | (with_reducible exact cI_le)) (fun c222 => by exfalso; first | omega | exact absurd trivial c222 | exact c222) (fun c222 => ?_)
                refine g_aload_n dX12_blow_225 rfl ?_
                refine g_iload dX12_blow_226 rfl ?_
                refine g_iload dX12_blow_228 rfl ?_
                refine p_callV (b1) okX12_beside lkX12_111 rfl (by first | rfl | exact pv_shx) rfl (by omega) (by omega) dX12_blow_230 rfl (Nat.le_of_ble_eq_true rfl) (⟨by decide, by decide, by decide, by decide⟩) ?_
                refine g_istore dX12_blow_233 (by decide) rfl ?_
                refine g_iload dX12_blow_235 rfl ?_
                refine n_if_lt 289 dX12_blow_237 (by decide) (cI_lt0.trans (by rw [show ((-1 : Int32)).toInt = -1 from rfl])) (fun c237 => ?_) (fun c237 => by exfalso; first | omega | exact absurd trivial c237 | exact c237)
                exact back0 st' rw2 mn' _ hb' hi' hr' hs' (ext st' (fun z hz => by rw [hnb] at hz; cases hz) hdone)
              · have hnI : sp_nbI w h (rw' i) d = nI y := by rw [sp_nbI, hnb]
                have hyl := sp_nb_lt (by omega) hx.1 hnb
                rw [hnI] at b1
                have i2 := iso (pvs (pvs I 207 (arN (I 207) mn' rw2)) 206 (arO (I 206) 64 st')) (k2 _ _) y (by omega)
                have rsy : arO (I 206) 64 st' y = stv (st' y) := arO_at (by omega)
                by_cases c2 : st' y = none
                · rw [c2] at rsy
                  by_cases c3 : op y = true
                  · have c3' : opP (I 203) nw cu fl y := by have := opd y; rw [c3] at this; exact of_decide_eq_true this.symm
                    rw [if_pos c3'] at i2
                    have hadj : adjB w h (rw2 i) y = true := by rw [hr']; exact anyB_iff.mpr ⟨d, by omega, decide_eq_true hnb⟩
                    have hpush := bfI_push hb' hi' (by rw [hr']; exact hs') (by omega) c2 hyl c3 hadj
                    have hmn2 := bfI_mn hpush
                    have hne : ¬ rw' i = y := fun z => by rw [z, c2] at hs'; cases hs'
                    have g := back0 _ _ (mn' + 1) (.int (nI y)) hpush (by omega) (by simp [updN, Nat.ne_of_lt hi', hr']) (by rw [updO_n hne]; exact hs') (ext _ (fun z hz _ => by rw [hnb] at hz; cases hz; rw [updO_s]; simp) (fun d' z h1 h2 h3 => Classical.byCases (fun e2 : z = y => by rw [e2, updO_s]; simp) (fun e2 => by rw [updO_n e2]; exact hdone d' z h1 h2 h3)))
                    rw [← arN_push, ← arO_upd (by omega)] at g
                    refine g_iload dX12_blow_219 rfl ?_
                    refine g_iconst (v := nI 4) dX12_blow_221 (by decide) ?_
                    refine n_icmp_ge 295 dX12_blow_222 (by decide) (by first | ((with_reducible apply cN_le) <;> omega) | ((with_reducible apply cI_len) <;> omega) | ((with_reducible apply cI_nle) <;> omega) | (with_reducible exact cI_le)) (fun c222 => by exfalso; first | omega | exact absurd trivial c222 | exact c222) (fun c222 => ?_)
                    refine g_aload_n dX12_blow_225 rfl ?_
                    refine g_iload dX12_blow_226 rfl ?_
                    refine g_iload dX12_blow_228 rfl ?_
                    refine p_callV (b1) okX12_beside lkX12_111 rfl (by first | rfl | exact pv_shx) rfl (by omega) (by omega) dX12_blow_230 rfl (Nat.le_of_ble_eq_true rfl) (⟨by decide, by decide, by decide, by decide⟩) ?_
                    refine g_istore dX12_blow_233 (by decide) rfl ?_
                    refine g_iload dX12_blow_235 rfl ?_
                    refine n_if_lt 289 dX12_blow_237 (by decide) (by first | ((with_reducible apply cN_lt0) <;> omega) | (with_reducible exact cI_lt0)) (fun c237 => by exfalso; first | omega | exact absurd trivial c237 | exact c237) (fun c237 => ?_)
                    refine g_aload_n dX12_blow_240 rfl ?_
                    refine g_getP dX12_blow_241 fdX12_19 rfl (by first | rfl | exact pv_shx) (by omega) (by omega) (by decide) rfl (hP _ _ _ rfl) ?_
                    refine g_iload dX12_blow_244 rfl ?_
                    refine n_iald dX12_blow_246 (by first | rfl | exact pv_shx) (by omega) (by omega) (by decide) (rfl) (by omega) (by repeat (first | exact rsy | exact rs1 | (apply rd_s; done) | apply rd_n (by omega) | apply rp_s | apply rp_n (by omega) | (apply rdL_s; done) | apply rdL_n (by omega) | apply rpJ_s | apply rpJ_n (by omega) | rfl)) ?_
                    refine n_if_ge 289 dX12_blow_247 (by decide) (cI_ge0.trans (by rw [show (stv none).toInt = -1 from rfl])) (fun c247 => by exfalso; first | omega | exact absurd trivial c247 | exact c247) (fun c247 => ?_)
                    refine g_aload_n dX12_blow_250 rfl ?_
                    refine g_iload dX12_blow_251 rfl ?_
                    refine p_callV (i2) okX12_isOpen lkX12_118 rfl (by first | rfl | exact pv_shx) rfl (by omega) (by omega) dX12_blow_253 rfl (Nat.le_of_ble_eq_true rfl) (⟨by decide, by decide, by decide, by decide⟩) ?_
                    refine n_if_ne 262 dX12_blow_256 (by decide) (Iff.rfl) (fun c256 => ?_) (fun c256 => by exfalso; exact absurd c256 (by decide))
                    refine g_aload_n dX12_blow_262 rfl ?_
                    refine g_getP dX12_blow_263 fdX12_19 rfl (by first | rfl | exact pv_shx) (by omega) (by omega) (by decide) rfl (hP _ _ _ rfl) ?_
                    refine g_iload dX12_blow_266 rfl ?_
                    refine g_aload_n dX12_blow_268 rfl ?_
                    refine g_getP dX12_blow_269 fdX12_19 rfl (by first | rfl | exact pv_shx) (by omega) (by omega) (by decide) rfl (hP _ _ _ rfl) ?_
                    refine g_iload dX12_blow_272 rfl ?_
                    refine n_iald dX12_blow_274 (by first | rfl | exact pv_shx) (by omega) (by omega) (by decide) (rfl) (by omega) (by repeat (first | exact rsy | exact rs1 | (apply rd_s; done) | apply rd_n (by omega) | apply rp_s | apply rp_n (by omega) | (apply rdL_s; done) | apply rdL_n (by omega) | apply rpJ_s | apply rpJ_n (by omega) | rfl)) ?_
                    refine g_iconst (v := nI 1) dX12_blow_275 (by decide) ?_
                    refine n_iadd dX12_blow_276 (by first | (with_reducible exact nI_add _ _) | rfl) ?_
                    refine n_iast dX12_blow_277 (by first | rfl | exact pv_shx) (by omega) (by omega) (by omega) (by decide) (rfl) (by omega) (by repeat (first | exact pvu_s | exact pvuJ_s | apply pvu_in (by omega) | apply pvuJ_in (by omega) | exact pvu_pvs | exact pvuJ_pvs)) ?_
                    refine g_aload_n dX12_blow_278 rfl ?_
                    refine g_getP dX12_blow_279 fdX12_22 rfl (by first | rfl | exact pv_shx) (by omega) (by omega) (by decide) rfl (hP _ _ _ rfl) ?_
                    refine g_iload_n dX12_blow_282 rfl ?_
                    refine g_iload dX12_blow_283 rfl ?_
                    refine n_iast dX12_blow_285 (by first | rfl | exact pv_shx) (by omega) (by omega) (by omega) (by decide) (rfl) (by omega) (by repeat (first | exact pvu_s | exact pvuJ_s | apply pvu_in (by omega) | apply pvuJ_in (by omega) | exact pvu_pvs | exact pvuJ_pvs)) ?_
                    refine g_iinc dX12_blow_286 rfl (by first | (with_reducible exact nI_1 _) | exact nI_1 _ | exact pk_m1 _ | rfl) (by decide) rfl ?_
                    exact g
                  · have c3f : op y = false := by simpa using c3
                    have c3' : ¬ opP (I 203) nw cu fl y := by have := opd y; rw [c3f] at this; exact of_decide_eq_false this.symm
                    rw [if_neg c3'] at i2
                    refine g_iload dX12_blow_219 rfl ?_
                    refine g_iconst (v := nI 4) dX12_blow_221 (by decide) ?_
                    refine n_icmp_ge 295 dX12_blow_222 (by decide) (by first | ((with_reducible apply cN_le) <;> omega) | ((with_reducible apply cI_len) <;> omega) | ((with_reducible apply cI_nle) <;> omega) | (with_reducible exact cI_le)) (fun c222 => by exfalso; first | omega | exact absurd trivial c222 | exact c222) (fun c222 => ?_)
                    refine g_aload_n dX12_blow_225 rfl ?_
                    refine g_iload dX12_blow_226 rfl ?_
                    refine g_iload dX12_blow_228 rfl ?_
                    refine p_callV (b1) okX12_beside lkX12_111 rfl (by first | rfl | exact pv_shx) rfl (by omega) (by omega) dX12_blow_230 rfl (Nat.le_of_ble_eq_true rfl) (⟨by decide, by decide, by decide, by decide⟩) ?_
                    refine g_istore dX12_blow_233 (by decide) rfl ?_
                    refine g_iload dX12_blow_235 rfl ?_
                    refine n_if_lt 289 dX12_blow_237 (by decide) (by first | ((with_reducible apply cN_lt0) <;> omega) | (with_reducible exact cI_lt0)) (fun c237 => by exfalso; first | omega | exact absurd trivial c237 | exact c237) (fun c237 => ?_)
                    refine g_aload_n dX12_blow_240 rfl ?_
                    refine g_getP dX12_blow_241 fdX12_19 rfl (by first | rfl | exact pv_shx) (by omega) (by omega) (by decide) rfl (hP _ _ _ rfl) ?_
                    refine g_iload dX12_blow_244 rfl ?_
                    refine n_iald dX12_blow_246 (by first | rfl | exact pv_shx) (by omega) (by omega) (by decide) (rfl) (by omega) (by repeat (first | exact rsy | exact rs1 | (apply rd_s; done) | apply rd_n (by omega) | apply rp_s | apply rp_n (by omega) | (apply rdL_s; done) | apply rdL_n (by omega) | apply rpJ_s | apply rpJ_n (by omega) | rfl)) ?_
                    refine n_if_ge 289 dX12_blow_247 (by decide) (cI_ge0.trans (by rw [show (stv none).toInt = -1 from rfl])) (fun c247 => by exfalso; first | omega | exact absurd trivial c247 | exact c247) (fun c247 => ?_)
                    refine g_aload_n dX12_blow_250 rfl ?_
                    refine g_iload dX12_blow_251 rfl ?_
                    refine p_callV (i2) okX12_isOpen lkX12_118 rfl (by first | rfl | exact pv_shx) rfl (by omega) (by omega) dX12_blow_253 rfl (Nat.le_of_ble_eq_true rfl) (⟨by decide, by decide, by decide, by decide⟩) ?_
                    refine n_if_ne 262 dX12_blow_256 (by decide) (Iff.rfl) (fun c256 => by exfalso; exact c256 rfl) (fun c256 => ?_)
                    refine g_goto 289 dX12_blow_259 (by decide) ?_
                    exact back0 st' rw2 mn' _ hb' hi' hr' hs' (ext st' (fun z hz h3 => by rw [hnb] at hz; cases hz; rw [c3f] at h3; cases h3) hdone)
                · obtain ⟨k, hk⟩ := Option.ne_none_iff_exists'.mp c2
                  have kd := (hb'.2.2.2.2.2.2.1 _ _ hk).2
                  have rsy' : arO (I 206) 64 st' y = nI k := by rw [rsy, hk]; rfl
                  refine g_iload dX12_blow_219 rfl ?_
                  refine g_iconst (v := nI 4) dX12_blow_221 (by decide) ?_
                  refine n_icmp_ge 295 dX12_blow_222 (by decide) (by first | ((with_reducible apply cN_le) <;> omega) | ((with_reducible apply cI_len) <;> omega) | ((with_reducible apply cI_nle) <;> omega) | (with_reducible exact cI_le)) (fun c222 => by exfalso; first | omega | exact absurd trivial c222 | exact c222) (fun c222 => ?_)
                  refine g_aload_n dX12_blow_225 rfl ?_
                  refine g_iload dX12_blow_226 rfl ?_
                  refine g_iload dX12_blow_228 rfl ?_
                  refine p_callV (b1) okX12_beside lkX12_111 rfl (by first | rfl | exact pv_shx) rfl (by omega) (by omega) dX12_blow_230 rfl (Nat.le_of_ble_eq_true rfl) (⟨by decide, by decide, by decide, by decide⟩) ?_
                  refine g_istore dX12_blow_233 (by decide) rfl ?_
                  refine g_iload dX12_blow_235 rfl ?_
                  refine n_if_lt 289 dX12_blow_237 (by decide) (by first | ((with_reducible apply cN_lt0) <;> omega) | (with_reducible exact cI_lt0)) (fun c237 => by exfalso; first | omega | exact absurd trivial c237 | exact c237) (fun c237 => ?_)
                  refine g_aload_n dX12_blow_240 rfl ?_
                  refine g_getP dX12_blow_241 fdX12_19 rfl (by first | rfl | exact pv_shx) (by omega) (by omega) (by decide) rfl (hP _ _ _ rfl) ?_
                  refine g_iload dX12_blow_244 rfl ?_
                  refine n_iald dX12_blow_246 (by first | rfl | exact pv_shx) (by omega) (by omega) (by decide) (rfl) (by omega) (by repeat (first | exact rsy' | exact rs1 | (apply rd_s; done) | apply rd_n (by omega) | apply rp_s | apply rp_n (by omega) | (apply rdL_s; done) | apply rdL_n (by omega) | apply rpJ_s | apply rpJ_n (by omega) | rfl)) ?_
                  refine n_if_ge 289 dX12_blow_247 (by decide) (by first | ((with_reducible apply cN_ge0) <;> omega) | (with_reducible exact cI_ge0)) (fun c247 => ?_) (fun c247 => by exfalso; first | omega | exact absurd trivial c247 | exact c247)
                  exact back0 st' rw2 mn' _ hb' hi' hr' hs' (ext st' (fun z hz _ => by rw [hnb] at hz; cases hz; exact c2) hdone)
          have d0 := dl 4 0 st rw' mn (by omega) hb c0 rfl hki (fun d' y h1 => absurd h1 (Nat.not_lt_zero _))
          by_cases c2 : ki = 0
          · subst c2
            refine g_iload dX12_blow_162 rfl ?_
            refine g_iload_n dX12_blow_164 rfl ?_
            refine n_icmp_ge 301 dX12_blow_165 (by decide) (by first | ((with_reducible apply cN_le) <;> omega) | ((with_reducible apply cI_len) <;> omega) | ((with_reducible apply cI_nle) <;> omega) | (with_reducible exact cI_le)) (fun c165 => by exfalso; first | omega | exact absurd trivial c165 | exact c165) (fun c165 => ?_)
            refine g_aload_n dX12_blow_168 rfl ?_
            refine g_getP dX12_blow_169 fdX12_22 rfl (by first | rfl | exact pv_shx) (by omega) (by omega) (by decide) rfl (hP _ _ _ rfl) ?_
            refine g_iload dX12_blow_172 rfl ?_
            refine n_iald dX12_blow_174 (by first | rfl | exact pv_shx) (by omega) (by omega) (by decide) (rfl) (by omega) (by repeat (first | exact hrow | exact rs | exact dr_h | (apply rd_s; done) | apply rd_n (by omega) | apply rp_s | apply rp_n (by omega) | (apply rdL_s; done) | apply rdL_n (by omega) | apply rpJ_s | apply rpJ_n (by omega) | rfl)) ?_
            refine g_istore dX12_blow_175 (by decide) rfl ?_
            refine g_aload_n dX12_blow_177 rfl ?_
            refine g_getP dX12_blow_178 fdX12_19 rfl (by first | rfl | exact pv_shx) (by omega) (by omega) (by decide) rfl (hP _ _ _ rfl) ?_
            refine g_iload dX12_blow_181 rfl ?_
            refine n_iald dX12_blow_183 (by first | rfl | exact pv_shx) (by omega) (by omega) (by decide) (rfl) (by omega) (by repeat (first | exact hrow | exact rs | exact dr_h | (apply rd_s; done) | apply rd_n (by omega) | apply rp_s | apply rp_n (by omega) | (apply rdL_s; done) | apply rdL_n (by omega) | apply rpJ_s | apply rpJ_n (by omega) | rfl)) ?_
            refine g_aload_n dX12_blow_184 rfl ?_
            refine g_getP dX12_blow_185 fdX12_7 rfl (by first | rfl | exact pv_shx) (by omega) (by omega) (by decide) rfl (hP _ _ _ rfl) ?_
            refine g_bipush (v := nI 13) dX12_blow_188 (by decide) ?_
            refine n_iald dX12_blow_190 (by first | rfl | exact pv_shx) (by omega) (by omega) (by decide) (rfl) (by omega) (by repeat (first | exact hrow | exact rs | exact dr_h | (apply rd_s; done) | apply rd_n (by omega) | apply rp_s | apply rp_n (by omega) | (apply rdL_s; done) | apply rdL_n (by omega) | apply rpJ_s | apply rpJ_n (by omega) | rfl)) ?_
            refine n_icmp_eq 295 dX12_blow_191 (by decide) (by first | ((with_reducible apply cN_eq) <;> omega) | ((with_reducible apply cI_eqn) <;> omega) | exact Iff.rfl) (fun c191 => by exfalso; first | omega | exact absurd trivial c191 | exact c191) (fun c191 => ?_)
            refine g_aload_n dX12_blow_194 rfl ?_
            refine g_getP dX12_blow_195 fdX12_19 rfl (by first | rfl | exact pv_shx) (by omega) (by omega) (by decide) rfl (hP _ _ _ rfl) ?_
            refine g_iload dX12_blow_198 rfl ?_
            refine n_iald dX12_blow_200 (by first | rfl | exact pv_shx) (by omega) (by omega) (by decide) (rfl) (by omega) (by repeat (first | exact hrow | exact rs | exact dr_h | (apply rd_s; done) | apply rd_n (by omega) | apply rp_s | apply rp_n (by omega) | (apply rdL_s; done) | apply rdL_n (by omega) | apply rpJ_s | apply rpJ_n (by omega) | rfl)) ?_
            refine n_if_le 216 dX12_blow_201 (by decide) (by first | ((with_reducible apply cN_le0) <;> omega) | (with_reducible exact cI_le0)) (fun c201 => ?_) (fun c201 => by exfalso; first | omega | exact absurd trivial c201 | exact c201)
            refine g_iconst (v := nI 0) dX12_blow_216 (by decide) ?_
            refine g_istore dX12_blow_217 (by decide) rfl ?_
            exact d0
          · have hopx : op (rw' i) = true := by
              obtain ⟨k, rfl⟩ : ∃ k, ki = k + 1 := ⟨ki - 1, by omega⟩
              exact (bfs_L.mp hly).1
            have c3' : opP (I 203) nw cu fl (rw' i) := by have := opd (rw' i); rw [hopx] at this; exact of_decide_eq_true this.symm
            have i2 := iso (pvs (pvs I 207 (arN (I 207) mn rw')) 206 (arO (I 206) 64 st)) (k2 _ _) (rw' i) (by omega)
            rw [if_pos c3'] at i2
            refine g_iload dX12_blow_162 rfl ?_
            refine g_iload_n dX12_blow_164 rfl ?_
            refine n_icmp_ge 301 dX12_blow_165 (by decide) (by first | ((with_reducible apply cN_le) <;> omega) | ((with_reducible apply cI_len) <;> omega) | ((with_reducible apply cI_nle) <;> omega) | (with_reducible exact cI_le)) (fun c165 => by exfalso; first | omega | exact absurd trivial c165 | exact c165) (fun c165 => ?_)
            refine g_aload_n dX12_blow_168 rfl ?_
            refine g_getP dX12_blow_169 fdX12_22 rfl (by first | rfl | exact pv_shx) (by omega) (by omega) (by decide) rfl (hP _ _ _ rfl) ?_
            refine g_iload dX12_blow_172 rfl ?_
            refine n_iald dX12_blow_174 (by first | rfl | exact pv_shx) (by omega) (by omega) (by decide) (rfl) (by omega) (by repeat (first | exact hrow | exact rs | exact dr_h | (apply rd_s; done) | apply rd_n (by omega) | apply rp_s | apply rp_n (by omega) | (apply rdL_s; done) | apply rdL_n (by omega) | apply rpJ_s | apply rpJ_n (by omega) | rfl)) ?_
            refine g_istore dX12_blow_175 (by decide) rfl ?_
            refine g_aload_n dX12_blow_177 rfl ?_
            refine g_getP dX12_blow_178 fdX12_19 rfl (by first | rfl | exact pv_shx) (by omega) (by omega) (by decide) rfl (hP _ _ _ rfl) ?_
            refine g_iload dX12_blow_181 rfl ?_
            refine n_iald dX12_blow_183 (by first | rfl | exact pv_shx) (by omega) (by omega) (by decide) (rfl) (by omega) (by repeat (first | exact hrow | exact rs | exact dr_h | (apply rd_s; done) | apply rd_n (by omega) | apply rp_s | apply rp_n (by omega) | (apply rdL_s; done) | apply rdL_n (by omega) | apply rpJ_s | apply rpJ_n (by omega) | rfl)) ?_
            refine g_aload_n dX12_blow_184 rfl ?_
            refine g_getP dX12_blow_185 fdX12_7 rfl (by first | rfl | exact pv_shx) (by omega) (by omega) (by decide) rfl (hP _ _ _ rfl) ?_
            refine g_bipush (v := nI 13) dX12_blow_188 (by decide) ?_
            refine n_iald dX12_blow_190 (by first | rfl | exact pv_shx) (by omega) (by omega) (by decide) (rfl) (by omega) (by repeat (first | exact hrow | exact rs | exact dr_h | (apply rd_s; done) | apply rd_n (by omega) | apply rp_s | apply rp_n (by omega) | (apply rdL_s; done) | apply rdL_n (by omega) | apply rpJ_s | apply rpJ_n (by omega) | rfl)) ?_
            refine n_icmp_eq 295 dX12_blow_191 (by decide) (by first | ((with_reducible apply cN_eq) <;> omega) | ((with_reducible apply cI_eqn) <;> omega) | exact Iff.rfl) (fun c191 => by exfalso; first | omega | exact absurd trivial c191 | exact c191) (fun c191 => ?_)
            refine g_aload_n dX12_blow_194 rfl ?_
            refine g_getP dX12_blow_195 fdX12_19 rfl (by first | rfl | exact pv_shx) (by omega) (by omega) (by decide) rfl (hP _ _ _ rfl) ?_
            refine g_iload dX12_blow_198 rfl ?_
            refine n_iald dX12_blow_200 (by first | rfl | exact pv_shx) (by omega) (by omega) (by decide) (rfl) (by omega) (by repeat (first | exact hrow | exact rs | exact dr_h | (apply rd_s; done) | apply rd_n (by omega) | apply rp_s | apply rp_n (by omega) | (apply rdL_s; done) | apply rdL_n (by omega) | apply rpJ_s | apply rpJ_n (by omega) | rfl)) ?_
            refine n_if_le 216 dX12_blow_201 (by decide) (by first | ((with_reducible apply cN_le0) <;> omega) | (with_reducible exact cI_le0)) (fun c201 => by exfalso; first | omega | exact absurd trivial c201 | exact c201) (fun c201 => ?_)
            refine g_aload_n dX12_blow_204 rfl ?_
            refine g_iload dX12_blow_205 rfl ?_
            refine p_callV (i2) okX12_isOpen lkX12_118 rfl (by first | rfl | exact pv_shx) rfl (by omega) (by omega) dX12_blow_207 rfl (Nat.le_of_ble_eq_true rfl) (⟨by decide, by decide, by decide, by decide⟩) ?_
            refine n_if_ne 216 dX12_blow_210 (by decide) (Iff.rfl) (fun c210 => ?_) (fun c210 => by exfalso; exact absurd c210 (by decide))
            refine g_iconst (v := nI 0) dX12_blow_216 (by decide) ?_
            refine g_istore dX12_blow_217 (by decide) rfl ?_
            exact d0
      · have hb0 := hb.1
        obtain rfl : i = mn := by omega
        have he := bfI_end hb
        have g := air st rw' i he (w * h) 0 (I 214) (by omega) (fun c hc' => absurd hc' (Nat.not_lt_zero _))
        rw [← show pvs (pvs I 207 (arN (I 207) i rw')) 206 (arO (I 206) 64 st) 214 = I 214 by rw [pvs_ne (by decide), pvs_ne (by decide)], pvs_self] at g
        refine g_iload dX12_blow_162 rfl ?_
        refine g_iload_n dX12_blow_164 rfl ?_
        refine n_icmp_ge 301 dX12_blow_165 (by decide) (by first | ((with_reducible apply cN_le) <;> omega) | ((with_reducible apply cI_len) <;> omega) | ((with_reducible apply cI_nle) <;> omega) | (with_reducible exact cI_le)) (fun c165 => ?_) (fun c165 => by exfalso; first | omega | exact absurd trivial c165 | exact c165)
        refine g_iconst (v := nI 0) dX12_blow_301 (by decide) ?_
        refine g_istore dX12_blow_302 (by decide) rfl ?_
        refine g_drop [.ref 202, .int (nI m), .int u2, .retAddr 0, .int (nI 0), .retAddr 0, .retAddr 0, .retAddr 0] (by repeat (first | exact trivial | refine ⟨Or.inr ⟨_, rfl⟩, ?_⟩ | refine ⟨Or.inl rfl, ?_⟩)) ?_
        exact g
  -- the holes
  have hol : ∀ q k rw' mn, k + q = nh → hlI (w * h) (stH (I 203) m wo k) rw' mn → pvG mX12_blow (pvR 2 0 0) Z 29 [.ref 202, .int (nI m), .int u2, .int (nI mn), .int (nI k), .retAddr 0, .retAddr 0, .retAddr 0] [] 0 0 224 (pvs (pvs I 207 (arN (I 207) mn rw')) 206 (arO (I 206) 64 (stH (I 203) m wo k))) J P := by
    intro q
    induction q with
    | zero =>
      intro k rw' mn hk hh2
      obtain rfl : k = cnt (I 203) 1 := by omega
      refine g_iload dX12_blow_29 rfl ?_
      refine g_aload_n dX12_blow_31 rfl ?_
      refine g_getP dX12_blow_32 fdX12_7 rfl (by first | rfl | exact pv_shx) (by omega) (by omega) (by decide) rfl (hP _ _ _ rfl) ?_
      refine g_iconst (v := nI 1) dX12_blow_35 (by decide) ?_
      refine n_iald dX12_blow_36 (by first | rfl | exact pv_shx) (by omega) (by omega) (by decide) (rfl) (by omega) (by repeat (first | exact nh_h | (apply rd_s; done) | apply rd_n (by omega) | apply rp_s | apply rp_n (by omega) | (apply rdL_s; done) | apply rdL_n (by omega) | apply rpJ_s | apply rpJ_n (by omega) | rfl)) ?_
      refine n_icmp_ge 159 dX12_blow_37 (by decide) (by first | ((with_reducible apply cN_le) <;> omega) | ((with_reducible apply cI_len) <;> omega) | ((with_reducible apply cI_nle) <;> omega) | (with_reducible exact cI_le)) (fun c37 => ?_) (fun c37 => by exfalso; first | omega | exact absurd trivial c37 | exact c37)
      refine g_iconst (v := nI 0) dX12_blow_159 (by decide) ?_
      refine g_istore dX12_blow_160 (by decide) rfl ?_
      exact que (w * h + 1) _ rw' mn 0 (by omega) (hlI_bfI hh2)
    | succ q ih =>
      intro k rw' mn hk hhl
      have hmn := hlI_mn hhl
      obtain ⟨⟨c, c1, c2⟩, ⟨bo, bo1, bo2⟩, hpg⟩ := hho k (by omega)
      have c3 : cnt (I 203) (150 + 3 * k) = c := cnt_of c2 (by omega)
      have bo3 : cnt (I 203) (150 + 3 * k + 1) = bo := cnt_of bo2 (by omega)
      have hu1 := hu k (by omega)
      obtain ⟨sy, sn⟩ := stH_s (a := I 203) (m := m) (k := k) (wo := wo)
      have hpi : hoPd (I 203) m wo k ↔ ¬ wo = some k ∧ bo ≤ m ∧ ((I 203 (150 + 3 * k + 2)).toInt < 0 ∨ (m : Int) < (I 203 (150 + 3 * k + 2)).toInt) := by rw [hoPd, bo3]
      have rs : arO (I 206) 64 (stH (I 203) m wo k) c = stv (stH (I 203) m wo k c) := arO_at (by omega)
      have nxt : ∀ (rw2 : Nat → Nat) (mn' : Nat) (ls' : List Value) (st' : Nat → Option Nat), pvle [.ref 202, .int (nI m), .int u2, .int (nI mn'), .int (nI k), .retAddr 0, .retAddr 0, .retAddr 0] ls' → st' = stH (I 203) m wo (k + 1) → hlI (w * h) st' rw2 mn' → pvG mX12_blow (pvR 2 0 0) Z 153 ls' [] 0 0 224 (pvs (pvs I 207 (arN (I 207) mn' rw2)) 206 (arO (I 206) 64 st')) J P := by
        intro rw2 mn' ls' st' hle he hh2
        subst he
        refine g_drop _ hle ?_
        refine g_iinc dX12_blow_153 rfl (by first | (with_reducible exact nI_1 _) | exact nI_1 _ | exact pk_m1 _ | rfl) (by decide) rfl ?_
        refine g_goto 29 dX12_blow_156 (by decide) ?_
        exact ih (k + 1) rw2 mn' (by omega) hh2
      have kA : hoPd (I 203) m wo k → pvG mX12_blow (pvR 2 0 0) Z 101 [.ref 202, .int (nI m), .int u2, .int (nI mn), .int (nI k), .int (nI (150 + 3 * k)), .int (nI 1), .retAddr 0] [] 0 0 224 (pvs (pvs I 207 (arN (I 207) mn rw')) 206 (arO (I 206) 64 (stH (I 203) m wo k))) J P := by
        intro hp
        by_cases c4 : stH (I 203) m wo k c = none
        · rw [c4] at rs
          have hpush := hlI_push hhl c4 c1
          have hmn2 := hlI_mn hpush
          have g := nxt (updN rw' mn c) (mn + 1) [.ref 202, .int (nI m), .int u2, .int (nI (mn + 1)), .int (nI k), .int (nI (150 + 3 * k)), .int (nI 1), .retAddr 0] _ (by repeat (first | exact trivial | refine ⟨Or.inr ⟨_, rfl⟩, ?_⟩ | refine ⟨Or.inl rfl, ?_⟩)) (by rw [sy hp, c3]) hpush
          rw [← arN_push, ← arO_upd (by omega)] at g
          refine g_iload dX12_blow_101 rfl ?_
          refine n_if_eq 153 dX12_blow_103 (by decide) (by first | (with_reducible exact cB _) | ((with_reducible apply cN_eq0) <;> omega) | exact Iff.rfl) (fun c103 => by exfalso; first | omega | exact absurd trivial c103 | exact c103) (fun c103 => ?_)
          refine g_aload_n dX12_blow_106 rfl ?_
          refine g_getP dX12_blow_107 fdX12_19 rfl (by first | rfl | exact pv_shx) (by omega) (by omega) (by decide) rfl (hP _ _ _ rfl) ?_
          refine g_aload_n dX12_blow_110 rfl ?_
          refine g_getP dX12_blow_111 fdX12_7 rfl (by first | rfl | exact pv_shx) (by omega) (by omega) (by decide) rfl (hP _ _ _ rfl) ?_
          refine g_iload dX12_blow_114 rfl ?_
          refine n_iald dX12_blow_116 (by first | rfl | exact pv_shx) (by omega) (by omega) (by decide) (rfl) (by omega) (by repeat (first | exact c2 | exact rs | (apply rd_s; done) | apply rd_n (by omega) | apply rp_s | apply rp_n (by omega) | (apply rdL_s; done) | apply rdL_n (by omega) | apply rpJ_s | apply rpJ_n (by omega) | rfl)) ?_
          refine n_iald dX12_blow_117 (by first | rfl | exact pv_shx) (by omega) (by omega) (by decide) (rfl) (by omega) (by repeat (first | exact c2 | exact rs | (apply rd_s; done) | apply rd_n (by omega) | apply rp_s | apply rp_n (by omega) | (apply rdL_s; done) | apply rdL_n (by omega) | apply rpJ_s | apply rpJ_n (by omega) | rfl)) ?_
          refine n_if_ne 124 dX12_blow_118 (by decide) (Iff.rfl) (fun c118 => ?_) (fun c118 => by exfalso; exact absurd c118 (by decide))
          refine g_aload_n dX12_blow_124 rfl ?_
          refine g_getP dX12_blow_125 fdX12_19 rfl (by first | rfl | exact pv_shx) (by omega) (by omega) (by decide) rfl (hP _ _ _ rfl) ?_
          refine g_aload_n dX12_blow_128 rfl ?_
          refine g_getP dX12_blow_129 fdX12_7 rfl (by first | rfl | exact pv_shx) (by omega) (by omega) (by decide) rfl (hP _ _ _ rfl) ?_
          refine g_iload dX12_blow_132 rfl ?_
          refine n_iald dX12_blow_134 (by first | rfl | exact pv_shx) (by omega) (by omega) (by decide) (rfl) (by omega) (by repeat (first | exact c2 | exact rs | (apply rd_s; done) | apply rd_n (by omega) | apply rp_s | apply rp_n (by omega) | (apply rdL_s; done) | apply rdL_n (by omega) | apply rpJ_s | apply rpJ_n (by omega) | rfl)) ?_
          refine g_iconst (v := nI 0) dX12_blow_135 (by decide) ?_
          refine n_iast dX12_blow_136 (by first | rfl | exact pv_shx) (by omega) (by omega) (by omega) (by decide) (rfl) (by omega) (by repeat (first | exact pvu_s | exact pvuJ_s | apply pvu_in (by omega) | apply pvuJ_in (by omega) | exact pvu_pvs | exact pvuJ_pvs)) ?_
          refine g_aload_n dX12_blow_137 rfl ?_
          refine g_getP dX12_blow_138 fdX12_22 rfl (by first | rfl | exact pv_shx) (by omega) (by omega) (by decide) rfl (hP _ _ _ rfl) ?_
          refine g_iload_n dX12_blow_141 rfl ?_
          refine g_aload_n dX12_blow_142 rfl ?_
          refine g_getP dX12_blow_143 fdX12_7 rfl (by first | rfl | exact pv_shx) (by omega) (by omega) (by decide) rfl (hP _ _ _ rfl) ?_
          refine g_iload dX12_blow_146 rfl ?_
          refine n_iald dX12_blow_148 (by first | rfl | exact pv_shx) (by omega) (by omega) (by decide) (rfl) (by omega) (by repeat (first | exact c2 | exact rs | (apply rd_s; done) | apply rd_n (by omega) | apply rp_s | apply rp_n (by omega) | (apply rdL_s; done) | apply rdL_n (by omega) | apply rpJ_s | apply rpJ_n (by omega) | rfl)) ?_
          refine n_iast dX12_blow_149 (by first | rfl | exact pv_shx) (by omega) (by omega) (by omega) (by decide) (rfl) (by omega) (by repeat (first | exact pvu_s | exact pvuJ_s | apply pvu_in (by omega) | apply pvuJ_in (by omega) | exact pvu_pvs | exact pvuJ_pvs)) ?_
          refine g_iinc dX12_blow_150 rfl (by first | (with_reducible exact nI_1 _) | exact nI_1 _ | exact pk_m1 _ | rfl) (by decide) rfl ?_
          exact g
        · have e4 : stH (I 203) m wo k c = some 0 := by
            unfold stH at c4 ⊢
            split
            · rfl
            · rename_i z; rw [if_neg z] at c4; exact absurd rfl c4
          rw [e4] at rs
          refine g_iload dX12_blow_101 rfl ?_
          refine n_if_eq 153 dX12_blow_103 (by decide) (by first | (with_reducible exact cB _) | ((with_reducible apply cN_eq0) <;> omega) | exact Iff.rfl) (fun c103 => by exfalso; first | omega | exact absurd trivial c103 | exact c103) (fun c103 => ?_)
          refine g_aload_n dX12_blow_106 rfl ?_
          refine g_getP dX12_blow_107 fdX12_19 rfl (by first | rfl | exact pv_shx) (by omega) (by omega) (by decide) rfl (hP _ _ _ rfl) ?_
          refine g_aload_n dX12_blow_110 rfl ?_
          refine g_getP dX12_blow_111 fdX12_7 rfl (by first | rfl | exact pv_shx) (by omega) (by omega) (by decide) rfl (hP _ _ _ rfl) ?_
          refine g_iload dX12_blow_114 rfl ?_
          refine n_iald dX12_blow_116 (by first | rfl | exact pv_shx) (by omega) (by omega) (by decide) (rfl) (by omega) (by repeat (first | exact c2 | exact rs | (apply rd_s; done) | apply rd_n (by omega) | apply rp_s | apply rp_n (by omega) | (apply rdL_s; done) | apply rdL_n (by omega) | apply rpJ_s | apply rpJ_n (by omega) | rfl)) ?_
          refine n_iald dX12_blow_117 (by first | rfl | exact pv_shx) (by omega) (by omega) (by decide) (rfl) (by omega) (by repeat (first | exact c2 | exact rs | (apply rd_s; done) | apply rd_n (by omega) | apply rp_s | apply rp_n (by omega) | (apply rdL_s; done) | apply rdL_n (by omega) | apply rpJ_s | apply rpJ_n (by omega) | rfl)) ?_
          refine n_if_ne 124 dX12_blow_118 (by decide) (Iff.rfl) (fun c118 => by exfalso; exact c118 rfl) (fun c118 => ?_)
          refine g_goto 153 dX12_blow_121 (by decide) ?_
          exact nxt rw' mn _ _ (by repeat (first | exact trivial | refine ⟨Or.inr ⟨_, rfl⟩, ?_⟩ | refine ⟨Or.inl rfl, ?_⟩)) (by rw [sy hp, c3, updO_id e4]) hhl
      have kB : ¬ hoPd (I 203) m wo k → pvG mX12_blow (pvR 2 0 0) Z 101 [.ref 202, .int (nI m), .int u2, .int (nI mn), .int (nI k), .int (nI (150 + 3 * k)), .int (nI 0), .retAddr 0] [] 0 0 224 (pvs (pvs I 207 (arN (I 207) mn rw')) 206 (arO (I 206) 64 (stH (I 203) m wo k))) J P := by
        intro hp
        refine g_iload dX12_blow_101 rfl ?_
        refine n_if_eq 153 dX12_blow_103 (by decide) (by first | (with_reducible exact cB _) | ((with_reducible apply cN_eq0) <;> omega) | exact Iff.rfl) (fun c103 => ?_) (fun c103 => by exfalso; first | omega | exact absurd trivial c103 | exact c103)
        exact nxt rw' mn _ _ (by repeat (first | exact trivial | refine ⟨Or.inr ⟨_, rfl⟩, ?_⟩ | refine ⟨Or.inl rfl, ?_⟩)) (sn hp).symm hhl
      refine g_iload dX12_blow_29 rfl ?_
      refine g_aload_n dX12_blow_31 rfl ?_
      refine g_getP dX12_blow_32 fdX12_7 rfl (by first | rfl | exact pv_shx) (by omega) (by omega) (by decide) rfl (hP _ _ _ rfl) ?_
      refine g_iconst (v := nI 1) dX12_blow_35 (by decide) ?_
      refine n_iald dX12_blow_36 (by first | rfl | exact pv_shx) (by omega) (by omega) (by decide) (rfl) (by omega) (by repeat (first | exact nh_h | exact bo2 | (apply rd_s; done) | apply rd_n (by omega) | apply rp_s | apply rp_n (by omega) | (apply rdL_s; done) | apply rdL_n (by omega) | apply rpJ_s | apply rpJ_n (by omega) | rfl)) ?_
      refine n_icmp_ge 159 dX12_blow_37 (by decide) (by first | ((with_reducible apply cN_le) <;> omega) | ((with_reducible apply cI_len) <;> omega) | ((with_reducible apply cI_nle) <;> omega) | (with_reducible exact cI_le)) (fun c37 => by exfalso; first | omega | exact absurd trivial c37 | exact c37) (fun c37 => ?_)
      refine g_sipush (v := nI 150) dX12_blow_40 (by decide) ?_
      refine g_iconst (v := nI 3) dX12_blow_43 (by decide) ?_
      refine g_iload dX12_blow_44 rfl ?_
      refine n_imul dX12_blow_46 (by first | (with_reducible exact pk_mul _ _) | rfl) ?_
      refine n_iadd dX12_blow_47 (by first | (with_reducible exact nI_add _ _) | rfl) ?_
      refine g_istore dX12_blow_48 (by decide) rfl ?_
      refine g_iload dX12_blow_50 rfl ?_
      refine g_iload_n dX12_blow_52 rfl ?_
      refine n_icmp_eq 98 dX12_blow_53 (by decide) (hu1) (fun c53 => ?_) (fun c53 => ?_)
      · skip
        refine g_iconst (v := nI 0) dX12_blow_98 (by decide) ?_
        refine g_istore dX12_blow_99 (by decide) rfl ?_
        first | exact kA (hpi.mpr ⟨c53, by omega, by omega⟩) | exact kB (fun z => by have z := hpi.mp z; first | exact z.1 c53 | omega)
      · skip
        refine g_aload_n dX12_blow_56 rfl ?_
        refine g_getP dX12_blow_57 fdX12_7 rfl (by first | rfl | exact pv_shx) (by omega) (by omega) (by decide) rfl (hP _ _ _ rfl) ?_
        refine g_iload dX12_blow_60 rfl ?_
        refine g_iconst (v := nI 1) dX12_blow_62 (by decide) ?_
        refine n_iadd dX12_blow_63 (by first | (with_reducible exact nI_add _ _) | rfl) ?_
        refine n_iald dX12_blow_64 (by first | rfl | exact pv_shx) (by omega) (by omega) (by decide) (rfl) (by omega) (by repeat (first | exact nh_h | exact bo2 | (apply rd_s; done) | apply rd_n (by omega) | apply rp_s | apply rp_n (by omega) | (apply rdL_s; done) | apply rdL_n (by omega) | apply rpJ_s | apply rpJ_n (by omega) | rfl)) ?_
        refine g_iload_n dX12_blow_65 rfl ?_
        refine n_icmp_gt 98 dX12_blow_66 (by decide) (by first | ((with_reducible apply cN_lt) <;> omega) | ((with_reducible apply cI_ltn) <;> omega) | ((with_reducible apply cI_nlt) <;> omega) | (with_reducible exact cI_lt)) (fun c66 => ?_) (fun c66 => ?_)
        · skip
          refine g_iconst (v := nI 0) dX12_blow_98 (by decide) ?_
          refine g_istore dX12_blow_99 (by decide) rfl ?_
          first | exact kA (hpi.mpr ⟨c53, by omega, by omega⟩) | exact kB (fun z => by have z := hpi.mp z; first | exact z.1 c53 | omega)
        · skip
          refine g_aload_n dX12_blow_69 rfl ?_
          refine g_getP dX12_blow_70 fdX12_7 rfl (by first | rfl | exact pv_shx) (by omega) (by omega) (by decide) rfl (hP _ _ _ rfl) ?_
          refine g_iload dX12_blow_73 rfl ?_
          refine g_iconst (v := nI 2) dX12_blow_75 (by decide) ?_
          refine n_iadd dX12_blow_76 (by first | (with_reducible exact nI_add _ _) | rfl) ?_
          refine n_iald dX12_blow_77 (by first | rfl | exact pv_shx) (by omega) (by omega) (by decide) (rfl) (by omega) (by repeat (first | exact nh_h | exact bo2 | (apply rd_s; done) | apply rd_n (by omega) | apply rp_s | apply rp_n (by omega) | (apply rdL_s; done) | apply rdL_n (by omega) | apply rpJ_s | apply rpJ_n (by omega) | rfl)) ?_
          refine n_if_lt 94 dX12_blow_78 (by decide) (by first | ((with_reducible apply cN_lt0) <;> omega) | (with_reducible exact cI_lt0)) (fun c78 => ?_) (fun c78 => ?_)
          · skip
            refine g_iconst (v := nI 1) dX12_blow_94 (by decide) ?_
            refine g_goto 99 dX12_blow_95 (by decide) ?_
            refine g_istore dX12_blow_99 (by decide) rfl ?_
            first | exact kA (hpi.mpr ⟨c53, by omega, by omega⟩) | exact kB (fun z => by have z := hpi.mp z; first | exact z.1 c53 | omega)
          · skip
            refine g_iload_n dX12_blow_81 rfl ?_
            refine g_aload_n dX12_blow_82 rfl ?_
            refine g_getP dX12_blow_83 fdX12_7 rfl (by first | rfl | exact pv_shx) (by omega) (by omega) (by decide) rfl (hP _ _ _ rfl) ?_
            refine g_iload dX12_blow_86 rfl ?_
            refine g_iconst (v := nI 2) dX12_blow_88 (by decide) ?_
            refine n_iadd dX12_blow_89 (by first | (with_reducible exact nI_add _ _) | rfl) ?_
            refine n_iald dX12_blow_90 (by first | rfl | exact pv_shx) (by omega) (by omega) (by decide) (rfl) (by omega) (by repeat (first | exact nh_h | exact bo2 | (apply rd_s; done) | apply rd_n (by omega) | apply rp_s | apply rp_n (by omega) | (apply rdL_s; done) | apply rdL_n (by omega) | apply rpJ_s | apply rpJ_n (by omega) | rfl)) ?_
            refine n_icmp_ge 98 dX12_blow_91 (by decide) (by first | ((with_reducible apply cN_le) <;> omega) | ((with_reducible apply cI_len) <;> omega) | ((with_reducible apply cI_nle) <;> omega) | (with_reducible exact cI_le)) (fun c91 => ?_) (fun c91 => ?_)
            · skip
              refine g_iconst (v := nI 0) dX12_blow_98 (by decide) ?_
              refine g_istore dX12_blow_99 (by decide) rfl ?_
              first | exact kA (hpi.mpr ⟨c53, by omega, by omega⟩) | exact kB (fun z => by have z := hpi.mp z; first | exact z.1 c53 | omega)
            · skip
              refine g_iconst (v := nI 1) dX12_blow_94 (by decide) ?_
              refine g_goto 99 dX12_blow_95 (by decide) ?_
              refine g_istore dX12_blow_99 (by decide) rfl ?_
              first | exact kA (hpi.mpr ⟨c53, by omega, by omega⟩) | exact kB (fun z => by have z := hpi.mp z; first | exact z.1 c53 | omega)
  have ini : ∀ q i, i + q = 64 → pvG mX12_blow (pvR 2 0 0) Z 5 [.ref 202, .int (nI m), .int u2, .int (nI 0), .int (nI i), .retAddr 0, .retAddr 0, .retAddr 0] [] 0 0 224 (pvs I 206 (sp_fil (fun _ => -1) (I 206) i)) J P := by
    intro q
    induction q with
    | zero =>
      intro i hi
      obtain rfl : i = 64 := by omega
      have g := hol nh 0 (fun _ => 0) 0 (by omega) ⟨fun p hp => absurd hp (Nat.not_lt_zero p), fun c hc' => absurd rfl hc', fun p q' _ hq' => absurd hq' (Nat.not_lt_zero q')⟩
      rw [show arN (I 207) 0 (fun _ => 0) = I 207 by funext x; simp [arN], pvs_self, show arO (I 206) 64 (stH (I 203) m wo 0) = sp_fil (fun _ => -1) (I 206) 64 from rfl] at g
      refine g_iload dX12_blow_5 rfl ?_
      refine g_bipush (v := nI 64) dX12_blow_7 (by decide) ?_
      refine n_icmp_ge 26 dX12_blow_9 (by decide) (by first | ((with_reducible apply cN_le) <;> omega) | ((with_reducible apply cI_len) <;> omega) | ((with_reducible apply cI_nle) <;> omega) | (with_reducible exact cI_le)) (fun c9 => ?_) (fun c9 => by exfalso; first | omega | exact absurd trivial c9 | exact c9)
      refine g_iconst (v := nI 0) dX12_blow_26 (by decide) ?_
      refine g_istore dX12_blow_27 (by decide) rfl ?_
      exact g
    | succ q ih =>
      intro i hi
      have h4 := ih (i + 1) (by omega)
      rw [← sp_fil_s] at h4
      refine g_iload dX12_blow_5 rfl ?_
      refine g_bipush (v := nI 64) dX12_blow_7 (by decide) ?_
      refine n_icmp_ge 26 dX12_blow_9 (by decide) (by first | ((with_reducible apply cN_le) <;> omega) | ((with_reducible apply cI_len) <;> omega) | ((with_reducible apply cI_nle) <;> omega) | (with_reducible exact cI_le)) (fun c9 => by exfalso; first | omega | exact absurd trivial c9 | exact c9) (fun c9 => ?_)
      refine g_aload_n dX12_blow_12 rfl ?_
      refine g_getP dX12_blow_13 fdX12_19 rfl (by first | rfl | exact pv_shx) (by omega) (by omega) (by decide) rfl (hP _ _ _ rfl) ?_
      refine g_iload dX12_blow_16 rfl ?_
      refine g_iconst (v := (-1)) dX12_blow_18 (by decide) ?_
      refine n_iast dX12_blow_19 (by first | rfl | exact pv_shx) (by omega) (by omega) (by omega) (by decide) (rfl) (by omega) (by repeat (first | exact pvu_s | exact pvuJ_s | apply pvu_in (by omega) | apply pvuJ_in (by omega) | exact pvu_pvs | exact pvuJ_pvs)) ?_
      refine g_iinc dX12_blow_20 rfl (by first | (with_reducible exact nI_1 _) | exact nI_1 _ | exact pk_m1 _ | rfl) (by decide) rfl ?_
      refine g_goto 5 dX12_blow_23 (by decide) ?_
      exact h4
  have h5 := ini 64 0 (by omega)
  rw [sp_fil_0, pvs_self] at h5
  refine pvMet.of _ (by decide) rfl (Nat.le_of_ble_eq_true rfl) ?_
  rw [hZ]
  refine g_iconst (v := nI 0) dX12_blow_0 (by decide) ?_
  refine g_istore_n dX12_blow_1 (by decide) rfl ?_
  refine g_iconst (v := nI 0) dX12_blow_2 (by decide) ?_
  refine g_istore dX12_blow_3 (by decide) rfl ?_
  exact h5
