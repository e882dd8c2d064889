/-! model: what an act says of a house; whose the coal is -/
theorem evI_len {nm : Nat → Int} {x n t n' t' : Nat} {vs : List Int} {ts : List Bool} (hv : vs.length = n) (ht : ts.length = t) (h : ckI x n t = some (n', t')) : (evI nm x (vs, ts)).1.length = n' ∧ (evI nm x (vs, ts)).2.length = t' := by
  unfold ckI at h
  unfold evI
  by_cases h1 : x < 10000
  · rw [if_pos (by omega)] at h
    cases h
    rw [if_pos h1]
    exact ⟨by simp [hv], ht⟩
  · rw [if_neg h1]
    by_cases h2 : x < 20000
    · rw [if_pos h2] at h
      cases h
      rw [if_pos h2]
      exact ⟨by simp [hv], ht⟩
    · rw [if_neg h2] at h ⊢
      by_cases h3 : (itM x).1 = 2
      · rw [if_pos h3] at h ⊢
        split at h
        · cases h
          match vs, hv with
          | [], hv => exact ⟨hv, ht⟩
          | a :: r, hv => exact ⟨hv, ht⟩
        · cases h
      · rw [if_neg h3] at h ⊢
        by_cases h4 : (itM x).1 < 10
        · rw [if_pos h4] at h ⊢
          split at h
          · rename_i h2n
            cases h
            match vs, hv with
            | [], hv => simp at hv; omega
            | [a], hv => simp at hv; omega
            | b :: a :: r, hv => refine ⟨?_, ht⟩; simp at hv ⊢; omega
          · cases h
        · rw [if_neg h4] at h ⊢
          by_cases h5 : (itM x).1 < 20
          · rw [if_pos h5] at h ⊢
            split at h
            · rename_i h2n
              cases h
              match vs, hv with
              | [], hv => simp at hv; omega
              | [a], hv => simp at hv; omega
              | b :: a :: r, hv => simp at hv; exact ⟨by show r.length = 0; omega, by simp [ht]⟩
            · cases h
          · rw [if_neg h5] at h ⊢
            by_cases h6 : (itM x).1 = 20
            · rw [if_pos h6] at h ⊢
              split at h
              · cases h
                match ts, ht with
                | [], ht => exact ⟨hv, ht⟩
                | u :: r, ht => exact ⟨hv, ht⟩
              · cases h
            · rw [if_neg h6] at h ⊢
              split at h
              · rename_i h2n
                cases h
                match ts, ht with
                | [], ht => simp at ht; omega
                | [u], ht => simp at ht; omega
                | u :: v :: r, ht =>
                  simp at ht
                  split
                  · exact ⟨hv, by show r.length + 1 = _; omega⟩
                  · exact ⟨hv, by show r.length + 1 = _; omega⟩
              · cases h
theorem evL_len {nm : Nat → Int} : ∀ {e : List Nat} {vs : List Int} {ts : List Bool} {p : Nat × Nat}, ck e (vs.length, ts.length) = some p → (evL nm e (vs, ts)).1.length = p.1 ∧ (evL nm e (vs, ts)).2.length = p.2
  | [], vs, ts, p, h => by cases h; exact ⟨rfl, rfl⟩
  | x :: e, vs, ts, p, h => by
    have h2 : (ckI x vs.length ts.length).bind (ck e) = some p := h
    obtain ⟨q, h3, h4⟩ := Option.bind_eq_some_iff.mp h2
    obtain ⟨n', t'⟩ := q
    have h5 := evI_len (nm := nm) (vs := vs) (ts := ts) rfl rfl h3
    have h6 := evL_len (nm := nm) (e := e) (vs := (evI nm x (vs, ts)).1) (ts := (evI nm x (vs, ts)).2) (p := p) (by rw [h5.1, h5.2]; exact h4)
    exact h6
def evT (nm : Nat → Int) (e : List Nat) : Bool := (evL nm e ([], [])).2.headD false
def evV (nm : Nat → Int) (e : List Nat) : Int := (evL nm e ([], [])).1.headD 0
theorem evT_eq {nm : Nat → Int} {srt : Nat} {e : List Nat} (h : okT srt e) : evL nm e ([], []) = ([], [evT nm e]) := by
  have h2 := evL_len (nm := nm) (vs := []) (ts := []) (h.2 0)
  unfold evT
  generalize evL nm e ([], []) = r at *
  obtain ⟨vs, ts⟩ := r
  match vs, ts, h2 with
  | [], [t], h2 => rfl
  | a :: r, _, h2 => simp at h2
  | [], [], h2 => simp at h2
  | [], a :: b :: r, h2 => simp at h2
theorem evV_eq {nm : Nat → Int} {srt : Nat} {e : List Nat} (h : okV srt e) : evL nm e ([], []) = ([evV nm e], []) := by
  have h2 := evL_len (nm := nm) (vs := []) (ts := []) (h.2 0 0)
  unfold evV
  generalize evL nm e ([], []) = r at *
  obtain ⟨vs, ts⟩ := r
  match vs, ts, h2 with
  | [t], [], h2 => rfl
  | _, a :: r, h2 => simp at h2
  | [], [], h2 => simp at h2
  | a :: b :: r, [], h2 => simp at h2
theorem evI_sm {nm : Nat → Int} {srt x : Nat} {st : List Int × List Bool} (hx : itOk srt x) (hn : ∀ i, i < 8 → barB srt i = false → smI (nm i)) (h : ∀ v, v ∈ st.1 → smI v) : ∀ v, v ∈ (evI nm x st).1 → smI v := by
  intro v hv
  unfold evI at hv
  rcases hx with hx | ⟨k, hk8, rfl, hbar⟩ | hx
  · rw [if_pos hx] at hv
    rcases List.mem_cons.mp hv with rfl | hv
    · unfold smI; omega
    · exact h v hv
  · rw [if_neg (by omega), if_pos (by omega), Nat.add_sub_cancel_left] at hv
    rcases List.mem_cons.mp hv with rfl | hv
    · exact hn k hk8 hbar
    · exact h v hv
  · obtain ⟨h20, -⟩ := itS_ok x hx
    rw [if_neg (by omega), if_neg (by omega)] at hv
    obtain ⟨vs, ts⟩ := st
    split at hv
    · match vs, h, hv with
      | [], h, hv => exact h v hv
      | a :: r, h, hv =>
        rcases List.mem_cons.mp hv with rfl | hv
        · have := h a List.mem_cons_self
          unfold smI at this ⊢; omega
        · exact h v (List.mem_cons_of_mem _ hv)
    · split at hv
      · match vs, h, hv with
        | [], h, hv => exact h v hv
        | [a], h, hv => exact h v hv
        | b :: a :: r, h, hv =>
          rcases List.mem_cons.mp hv with rfl | hv
          · exact arX_sm
          · exact h v (List.mem_cons_of_mem _ (List.mem_cons_of_mem _ hv))
      · split at hv
        · match vs, h, hv with
          | [], h, hv => exact h v hv
          | [a], h, hv => exact h v hv
          | b :: a :: r, h, hv => exact h v (List.mem_cons_of_mem _ (List.mem_cons_of_mem _ hv))
        · split at hv
          · match ts, hv with
            | [], hv => exact h v hv
            | u :: r, hv => exact h v hv
          · split at hv
            · match ts, hv with
              | [], hv => exact h v hv
              | [u], hv => exact h v hv
              | u :: w :: r, hv => exact h v hv
            · match ts, hv with
              | [], hv => exact h v hv
              | [u], hv => exact h v hv
              | u :: w :: r, hv => exact h v hv
theorem evL_sm {nm : Nat → Int} {srt : Nat} (hn : ∀ i, i < 8 → barB srt i = false → smI (nm i)) : ∀ {e : List Nat} {st : List Int × List Bool}, (∀ x, x ∈ e → itOk srt x) → (∀ v, v ∈ st.1 → smI v) → ∀ v, v ∈ (evL nm e st).1 → smI v
  | [], st, _, h => h
  | x :: e, st, hk, h => evL_sm hn (e := e) (fun y hy => hk y (List.mem_cons_of_mem _ hy)) (evI_sm (hk x List.mem_cons_self) hn h)
/-- names by numbers -/
def nmL (l : List Nat) : Nat → Int := fun i => ((l.getD i 0 : Nat) : Int)
theorem nI_iI (n : Nat) : nI n = iI (n : Int) := Int32.ofInt_eq_ofNat.symm
theorem nmA_of {f : Nat → Int32} {srt : Nat} {l : List Nat} (h : ∀ i, i < 8 → barB srt i = false → f (mN i) = nI (l.getD i 0) ∧ l.getD i 0 ≤ 1000000000) : nmA f srt (nmL l) := fun i hi hb => by
  obtain ⟨h1, h2⟩ := h i hi hb
  refine ⟨by rw [h1]; exact nI_iI _, ?_⟩
  unfold smI nmL
  omega
theorem bar_hou : ∀ srt i, srt ≤ 1 → i < 8 → barB srt i = false → i < 5 := by
  intro srt i h1 h2 h3
  unfold barB at h3
  rw [decide_eq_false_iff_not] at h3
  omega
theorem bar_who : ∀ i, i < 8 → barB 2 i = false → i = 3 ∨ i = 4 := by decide
def hsP (a : Nat → Int32) (k : Nat) : Nat := sp_ct (poP a (nI k)) (cnt a 6)
/-- the names of a house -/
def nmH (a : Nat → Int32) (k g m he ak ki : Nat) : Nat → Int := nmL [g, cnt a (1080 + 5 * k + 1), cnt a (1080 + 5 * k + 2), m, hsP a k, he, ak, ki]
/-- the code of a clause -/
def cdC (cl : Nat → List pC) (p : Nat × Nat) : List Nat := ((cl p.1).getD p.2 (0, 0, [])).2.2
theorem clA_of {f : Nat → Int32} {t j : Nat} {cs : List pC} (h : txA f (800 * t) cs) (hj : j < cs.length) : clA f (800 * t) (800 * t + 1 + 6 * j) (cs.getD j (0, 0, [])).2.2 := by
  obtain ⟨-, -, -, cd, h3, h4, h5⟩ := h
  obtain ⟨-, -, s, d3, d4, d5, d6⟩ := h5 j hj
  refine ⟨s, by omega, d4, d5, fun i hi => ?_⟩
  have := h4 (s + i) (by omega)
  rw [d6 i hi] at this
  exact this
theorem getD_mem {cs : List pC} {j : Nat} (hj : j < cs.length) : cs.getD j (0, 0, []) ∈ cs := by
  rw [List.getD_eq_getElem?_getD, List.getElem?_eq_getElem hj]; exact List.getElem_mem _
theorem t_name {I : pvI} {J : pvJ} {P : pvP} {k : Nat} {g : Int32} (hP : pvOkP P) {np : Nat} (hnp : I 203 6 = nI np) (hn1 : np ≤ 60) (hk : k < 20) : pvMet mX12_name 1 0 0 [.ref 202, .int (nI k), .int g] 224 I J P (pvq P (fun v I' J' => v = none ∧ J' = J ∧ I' = pvs I 219 (upd (upd (upd (upd (I 219) 0 g) 1 (I 203 (1080 + 5 * k + 1))) 2 (I 203 (1080 + 5 * k + 2))) 3 (nI (sp_ct (poP (I 203) (nI k)) np))))) := by
  have po : ∀ f, pvMet mX12_peopleOf 0 0 0 [.ref 202, .int (nI k)] 224 (pvs I 219 f) J P (pvpu (.int (nI (sp_ct (poP (I 203) (nI k)) np))) 224 (pvs I 219 f) J P) := fun f => by
    have := t_peopleOf (I := pvs I 219 f) (J := J) hP (np := np) (rp_n (by decide) hnp) hn1 (k := nI k)
    rw [pvs_ne (by decide)] at this
    exact this
  refine pvMet.of _ (by decide) rfl (Nat.le_of_ble_eq_true rfl) ?_
  refine g_aload_n dX12_name_0 rfl ?_
  refine g_getP dX12_name_1 fdX12_67 rfl (by first | rfl | exact pv_shx) (by omega) (by omega) (by decide) rfl (hP _ _ _ rfl) ?_
  refine g_iconst (v := nI 0) dX12_name_4 (by decide) ?_
  refine g_iload_n dX12_name_5 rfl ?_
  refine n_iast dX12_name_6 (by first | rfl | exact pv_shx) (by omega) (by omega) (by omega) (by decide) (rfl) (by omega) (by repeat (first | exact pvu_s | exact pvuJ_s | apply pvu_in (by omega) | apply pvuJ_in (by omega) | exact pvu_pvs | exact pvuJ_pvs)) ?_
  refine g_aload_n dX12_name_7 rfl ?_
  refine g_getP dX12_name_8 fdX12_67 rfl (by first | rfl | exact pv_shx) (by omega) (by omega) (by decide) rfl (hP _ _ _ rfl) ?_
  refine g_iconst (v := nI 1) dX12_name_11 (by decide) ?_
  refine g_aload_n dX12_name_12 rfl ?_
  refine g_getP dX12_name_13 fdX12_7 rfl (by first | rfl | exact pv_shx) (by omega) (by omega) (by decide) rfl (hP _ _ _ rfl) ?_
  refine g_sipush (v := nI 1080) dX12_name_16 (by decide) ?_
  refine g_iconst (v := nI 5) dX12_name_19 (by decide) ?_
  refine g_iload_n dX12_name_20 rfl ?_
  refine n_imul dX12_name_21 (by first | (with_reducible exact pk_mul _ _) | rfl) ?_
  refine n_iadd dX12_name_22 (by first | (with_reducible exact nI_add _ _) | rfl) ?_
  refine g_iconst (v := nI 1) dX12_name_23 (by decide) ?_
  refine n_iadd dX12_name_24 (by first | (with_reducible exact nI_add _ _) | rfl) ?_
  refine n_iald dX12_name_25 (by first | rfl | exact pv_shx) (by omega) (by omega) (by decide) (rfl) (by omega) (by repeat (first | (apply rd_s; done) | apply rd_n (by omega) | apply rp_s | apply rp_n (by omega) | (apply rdL_s; done) | apply rdL_n (by omega) | apply rpJ_s | apply rpJ_n (by omega) | rfl)) ?_
  refine n_iast dX12_name_26 (by first | rfl | exact pv_shx) (by omega) (by omega) (by omega) (by decide) (rfl) (by omega) (by repeat (first | exact pvu_s | exact pvuJ_s | apply pvu_in (by omega) | apply pvuJ_in (by omega) | exact pvu_pvs | exact pvuJ_pvs)) ?_
  refine g_aload_n dX12_name_27 rfl ?_
  refine g_getP dX12_name_28 fdX12_67 rfl (by first | rfl | exact pv_shx) (by omega) (by omega) (by decide) rfl (hP _ _ _ rfl) ?_
  refine g_iconst (v := nI 2) dX12_name_31 (by decide) ?_
  refine g_aload_n dX12_name_32 rfl ?_
  refine g_getP dX12_name_33 fdX12_7 rfl (by first | rfl | exact pv_shx) (by omega) (by omega) (by decide) rfl (hP _ _ _ rfl) ?_
  refine g_sipush (v := nI 1080) dX12_name_36 (by decide) ?_
  refine g_iconst (v := nI 5) dX12_name_39 (by decide) ?_
  refine g_iload_n dX12_name_40 rfl ?_
  refine n_imul dX12_name_41 (by first | (with_reducible exact pk_mul _ _) | rfl) ?_
  refine n_iadd dX12_name_42 (by first | (with_reducible exact nI_add _ _) | rfl) ?_
  refine g_iconst (v := nI 2) dX12_name_43 (by decide) ?_
  refine n_iadd dX12_name_44 (by first | (with_reducible exact nI_add _ _) | rfl) ?_
  refine n_iald dX12_name_45 (by first | rfl | exact pv_shx) (by omega) (by omega) (by decide) (rfl) (by omega) (by repeat (first | (apply rd_s; done) | apply rd_n (by omega) | apply rp_s | apply rp_n (by omega) | (apply rdL_s; done) | apply rdL_n (by omega) | apply rpJ_s | apply rpJ_n (by omega) | rfl)) ?_
  refine n_iast dX12_name_46 (by first | rfl | exact pv_shx) (by omega) (by omega) (by omega) (by decide) (rfl) (by omega) (by repeat (first | exact pvu_s | exact pvuJ_s | apply pvu_in (by omega) | apply pvuJ_in (by omega) | exact pvu_pvs | exact pvuJ_pvs)) ?_
  refine g_aload_n dX12_name_47 rfl ?_
  refine g_getP dX12_name_48 fdX12_67 rfl (by first | rfl | exact pv_shx) (by omega) (by omega) (by decide) rfl (hP _ _ _ rfl) ?_
  refine g_iconst (v := nI 3) dX12_name_51 (by decide) ?_
  refine g_aload_n dX12_name_52 rfl ?_
  refine g_iload_n dX12_name_53 rfl ?_
  refine p_callV (po _) okX12_peopleOf lkX12_336 rfl (by first | rfl | exact pv_shx) rfl (by omega) (by omega) dX12_name_54 rfl (Nat.le_of_ble_eq_true rfl) (⟨by decide, by decide, by decide, by decide⟩) ?_
  refine n_iast dX12_name_57 (by first | rfl | exact pv_shx) (by omega) (by omega) (by omega) (by decide) (rfl) (by omega) (by repeat (first | exact pvu_s | exact pvuJ_s | apply pvu_in (by omega) | apply pvuJ_in (by omega) | exact pvu_pvs | exact pvuJ_pvs)) ?_
  exact g_vret dX12_name_58 rfl (⟨rfl, rfl, rfl, rfl, rfl⟩)
/-- what is known while acts are asked -/
def mBy (w h : Nat) (cl : Nat → List pC) (a : Nat → Int32) (I : pvI) : Prop := mDim w h I ∧ I 203 = a ∧ mF w h a ∧ mRead (w * h) a ∧ mHou (w * h) a ∧ mForce a ∧ mActs (cnt a 8) cl I
theorem mBy.fix {w h : Nat} {cl : Nat → List pC} {a : Nat → Int32} {I I' : pvI} {l : List Nat} (hb : mBy w h cl a I) (hf : mfix I I' l) (h1 : 202 ∉ l) (h2 : 203 ∉ l) (h3 : 205 ∉ l) : mBy w h cl a I' := by
  obtain ⟨b1, b2, b3, b4, b5, b6, b7⟩ := hb
  refine ⟨⟨by rw [hf 202 h1]; exact b1.1, by rw [hf 202 h1]; exact b1.2.1, b1.2.2⟩, by rw [hf 203 h2]; exact b2, b3, b4, b5, b6, fun t ht => ?_⟩
  rw [hf 205 h3]; exact b7 t ht
theorem tbOk.fix {w h n : Nat} {a : Nat → Int32} {I I' : pvI} {l : List Nat} (hb : tbOk w h a I n) (hf : mfix I I' l) (h1 : 215 ∉ l) (h2 : 216 ∉ l) : tbOk w h a I' n := by
  unfold tbOk at hb ⊢
  rw [hf 215 h1, hf 216 h2]; exact hb
theorem hou_facts {w h : Nat} {cl : Nat → List pC} {a : Nat → Int32} {I : pvI} (hb : mBy w h cl a I) : cnt a 5 ≤ 20 ∧ (∃ np, np ≤ 60 ∧ a 6 = nI np ∧ cnt a 6 = np) ∧ cnt a 8 ≤ 10 ∧ ∀ k, k < cnt a 5 → a (1080 + 5 * k + 1) = nI (cnt a (1080 + 5 * k + 1)) ∧ a (1080 + 5 * k + 2) = nI (cnt a (1080 + 5 * k + 2)) ∧ cnt a (1080 + 5 * k + 1) ≤ 9 ∧ cnt a (1080 + 5 * k + 2) ≤ 9 := by
  obtain ⟨b1, b2, b3, b4, b5, b6, b7⟩ := hb
  refine ⟨?_, ?_, ?_, fun k hk => ?_⟩
  · obtain ⟨v, v1, v2⟩ := b3.1 5 (by decide)
    replace v1 : v ≤ 20 := v1
    rw [cnt_of v2 (by omega)]; exact v1
  · obtain ⟨v, v1, v2⟩ := b3.1 6 (by decide)
    replace v1 : v ≤ 60 := v1
    exact ⟨v, v1, v2, cnt_of v2 (by omega)⟩
  · obtain ⟨v, v1, v2⟩ := b3.1 8 (by decide)
    replace v1 : v ≤ 10 := v1
    rw [cnt_of v2 (by omega)]; exact v1
  · obtain ⟨-, ⟨x, x1, x2⟩, ⟨y, y1, y2⟩, -⟩ := b5 k hk
    rw [cnt_of x2 (by omega), cnt_of y2 (by omega)]
    exact ⟨x2, y2, x1, y1⟩
theorem t_isShut {w h k g m : Nat} {cl : Nat → List pC} {a : Nat → Int32} {p : Nat × Nat} {I : pvI} {J : pvJ} {P : pvP} (hP : pvOkP P) (hb : mBy w h cl a I) (hk : k < cnt a 5) (h7 : I 219 7 = nI m) (hm : m ≤ 99) (hg : g ≤ 100000) (hp : cfN a cl 0 m = some p) : pvMet mX12_isShut 3 0 0 [.ref 202, .int (nI (800 * p.1 + 1 + 6 * p.2)), .int (nI k), .int (nI g)] 224 I J P (pvq P (fun v I' J' => v = some (.int (if evT (nmH a k g m 0 0 0) (cdC cl p) = true then 1 else 0)) ∧ mfix I I' [219, 221] ∧ (∀ x, x ≠ 220 → J' x = J x) ∧ I' 219 7 = nI m)) := by
  obtain ⟨f5, ⟨np, f61, f62, f63⟩, f8, fk⟩ := hou_facts hb
  obtain ⟨k1, k2, k3, k4⟩ := fk k hk
  have hb' := hb
  obtain ⟨b1, b2, b3, b4, b5, b6, b7⟩ := hb
  obtain ⟨p1, p2, p3⟩ := cfN_some b6 f8 hp
  obtain ⟨x1, x2⟩ := b7 p.1 p1
  obtain ⟨-, -, -, o4⟩ := x2 _ (getD_mem p2)
  rw [p3] at o4
  have o4 := o4 (by decide)
  have nmq := t_name (I := I) (J := J) (k := k) (g := nI g) hP (np := np) (by rw [b2]; exact f62) f61 (by omega)
  rw [b2, k1, k2] at nmq
  generalize hI1 : pvs I 219 (upd (upd (upd (upd (I 219) 0 (nI g)) 1 (nI (cnt a (1080 + 5 * k + 1)))) 2 (nI (cnt a (1080 + 5 * k + 2)))) 3 (nI (sp_ct (poP a (nI k)) np))) = I1 at nmq
  have m1 : mfix I I1 [219] := fun x hx => by rw [← hI1, pvs_ne (by simpa using hx)]
  have hnm : nmA (I1 219) 0 (nmH a k g m 0 0 0) := nmA_of (fun i hi hbr => by
    have := bar_hou 0 i (by decide) hi hbr
    rw [← hI1, pvs_eq]
    have hs := sp_ct_le (p := poP a (nI k)) np
    have hs2 : hsP a k = sp_ct (poP a (nI k)) np := by unfold hsP; rw [f63]
    rcases (show i = 0 ∨ i = 1 ∨ i = 2 ∨ i = 3 ∨ i = 4 by omega) with rfl | rfl | rfl | rfl | rfl
    · exact ⟨rfl, by show g ≤ _; omega⟩
    · exact ⟨rfl, by show cnt a _ ≤ _; omega⟩
    · exact ⟨rfl, by show cnt a _ ≤ _; omega⟩
    · exact ⟨h7, by show m ≤ _; omega⟩
    · refine ⟨?_, by show hsP a k ≤ _; omega⟩
      show nI (sp_ct (poP a (nI k)) np) = nI (hsP a k)
      rw [hs2])
  have hx1 : clA (I1 205) (800 * p.1) (800 * p.1 + 1 + 6 * p.2) (cdC cl p) := by rw [m1 205 (by decide)]; exact clA_of x1 p2
  have wk := t_work (J := J) hP (by omega : p.1 ≤ 9) (by have := x1.2.1; omega) hx1 hnm o4.1 (by rw [show cdC cl p = ((cl p.1).getD p.2 (0, 0, [])).2.2 from rfl, o4.2 0]; simp)
  rw [evT_eq (nm := nmH a k g m 0 0 0) (e := cdC cl p) o4] at wk
  have h7' : I1 219 7 = nI m := by rw [← hI1, pvs_eq]; simp [upd]; exact h7
  refine pvMet.of _ (by decide) rfl (Nat.le_of_ble_eq_true rfl) ?_
  refine g_aload_n dX12_isShut_0 rfl ?_
  refine g_iload_n dX12_isShut_1 rfl ?_
  refine g_iload_n dX12_isShut_2 rfl ?_
  refine g_callV (nmq) okX12_name lkX12_339 rfl (by first | rfl | exact pv_shx) rfl (by omega) (by omega) dX12_isShut_3 rfl (Nat.le_of_ble_eq_true rfl) (⟨by decide, by decide, by decide, by decide⟩) ?_
  rintro v nx' I' J' P' ⟨rfl, rfl, rfl, rfl, rfl⟩
  refine g_aload_n dX12_isShut_6 rfl ?_
  refine g_iload_n dX12_isShut_7 rfl ?_
  refine g_callV (wk) okX12_work lkX12_342 rfl (by first | rfl | exact pv_shx) rfl (by omega) (by omega) dX12_isShut_8 rfl (Nat.le_of_ble_eq_true rfl) (⟨by decide, by decide, by decide, by decide⟩) ?_
  rintro v nx' I2 J2 P' ⟨rfl, rfl, rfl, w1, w2, w3, w4⟩
  refine g_aload_n dX12_isShut_11 rfl ?_
  refine g_getP dX12_isShut_12 fdX12_74 rfl (by first | rfl | exact pv_shx) (by omega) (by omega) (by decide) rfl (hP _ _ _ rfl) ?_
  refine g_iconst (v := nI 0) dX12_isShut_15 (by decide) ?_
  refine n_zald dX12_isShut_16 (by first | rfl | exact pv_shx) (by omega) (by omega) (by decide) (rfl) (by omega) (tsA_hd w4) ?_
  exact g_zret (by first | exact Or.inl rfl | exact Or.inr rfl | exact cB01 _) dX12_isShut_17 rfl (⟨rfl, rfl, rfl, fun x hx => by simp at hx; rw [w1 x (by simp; omega), m1 x (by simp; omega)], w2, by rw [w1 219 (by decide)]; exact h7'⟩)
def byQ (I : pvI) (J : pvJ) (P : pvP) (r : Int32) : pvQT := pvq P (fun v I' J' => v = some (.int r) ∧ mfix I I' (219 :: 221 :: LR) ∧ (∀ x, x ≠ 220 → J' x = J x))
def shutN (w h : Nat) (a : Nat → Int32) (cl : Nat → List pC) (k m : Nat) : Nat := match cfN a cl 0 m with
  | none => 0
  | some p => (if evT (nmH a k (gasN w h a k m false) m 0 0 0) (cdC cl p) = true then 1 else 0) + (if evT (nmH a k (gasN w h a k m true) m 0 0 0) (cdC cl p) = true then 1 else 0)
theorem gasN_le {w h : Nat} {a : Nat → Int32} {k m : Nat} {high : Bool} (hwh : w * h ≤ 64) (hc : cnt a (1080 + 5 * k + 1) ≤ 9) : gasN w h a k m high ≤ 100000 := by
  unfold gasN
  cases hg : gsB (gasS w h a k m) (fun s => letB w h a s (cnt a 0)) high (cnt a 3) with
  | none => exact Nat.zero_le _
  | some b =>
    refine Nat.le_trans (gsB_le (n := 256 * 9) (fun s => ?_) hg) (by decide)
    unfold gasS
    refine Nat.mul_le_mul (Nat.le_trans (gsum_le _) ?_) hc
    omega
theorem t_shutOf {w h k m : Nat} {cl : Nat → List pC} {a : Nat → Int32} {I : pvI} {J : pvJ} {P : pvP} (hP : pvOkP P) (hb : mBy w h cl a I) (htb : tbOk w h a I (cnt a 3)) (hk : k < cnt a 5) (h7 : I 219 7 = nI m) (hm : m ≤ 99) : pvMet mX12_shutOf 4 0 0 [.ref 202, .int (nI k), .int (nI m)] 224 I J P (byQ I J P (nI (shutN w h a cl k m))) := by
  obtain ⟨f5, ⟨np, f61, f62, f63⟩, f8, fk⟩ := hou_facts hb
  obtain ⟨k1, k2, k3, k4⟩ := fk k hk
  obtain ⟨b1, b2, b3, b4, b5, b6, b7⟩ := id hb
  have hwh : w * h ≤ 64 := Nat.mul_le_mul b1.2.2.1.2 b1.2.2.2.2
  have cf := t_clauseFor (J := J) hP b2 b3.1 b6 b7 (by decide : 0 ≤ 3) hm
  unfold shutN
  cases hp : cfN a cl 0 m with
  | none =>
    rw [hp] at cf
    refine pvMet.of _ (by decide) rfl (Nat.le_of_ble_eq_true rfl) ?_
    refine g_aload_n dX12_shutOf_0 rfl ?_
    refine g_iconst (v := nI 1) dX12_shutOf_1 (by decide) ?_
    refine g_iload_n dX12_shutOf_2 rfl ?_
    refine p_callV (cf) okX12_clauseFor lkX12_345 rfl (by first | rfl | exact pv_shx) rfl (by omega) (by omega) dX12_shutOf_3 rfl (Nat.le_of_ble_eq_true rfl) (⟨by decide, by decide, by decide, by decide⟩) ?_
    refine g_istore_n dX12_shutOf_6 (by decide) rfl ?_
    refine g_iload_n dX12_shutOf_7 rfl ?_
    refine n_if_ge 13 dX12_shutOf_8 (by decide) (cI_ge0.trans (by rw [show (cfI none).toInt = -1 from rfl])) (fun c8 => by exfalso; first | omega | exact absurd trivial c8 | exact c8 | (simp at c8)) (fun c8 => ?_)
    refine g_iconst (v := nI 0) dX12_shutOf_11 (by decide) ?_
    exact g_iret dX12_shutOf_12 rfl (⟨rfl, rfl, rfl, fun _ _ => rfl, fun _ _ => rfl⟩)
  | some p =>
    rw [hp] at cf
    obtain ⟨p1, p2, p3⟩ := cfN_some b6 f8 hp
    have hp20 := (b7 p.1 p1).1.2.1
    have cf' : pvMet mX12_clauseFor 2 0 0 [.ref 202, .int (nI (0 + 1)), .int (nI m)] 224 I J P (pvpu (.int (nI (800 * p.1 + 1 + 6 * p.2))) 224 I J P) := cf
    have g1 := t_gasOf (J := J) (high := false) (hb := 0) hP b1 b2 b3 b4 b5 htb hk hm (by decide)
    have s1 := t_isShut (J := J) hP hb hk h7 hm (gasN_le (m := m) (high := false) hwh k3) hp
    generalize gasN w h a k m false = gl at *
    dsimp only
    generalize evT (nmH a k gl m 0 0 0) (cdC cl p) = bl at *
    have mid : ∀ I1 J1, mfix I I1 [219, 221] → (∀ x, x ≠ 220 → J1 x = J x) → I1 219 7 = nI m → ∀ v0 : Nat, v0 ≤ 1 → v0 = (if bl = true then 1 else 0) → ∀ ls, ls = [.ref 202, .int (nI k), .int (nI m), .int (nI (800 * p.1 + 1 + 6 * p.2))] → pvG mX12_shutOf (pvR 4 0 0) (pvZ (byQ I J P (nI ((if bl = true then 1 else 0) + if evT (nmH a k (gasN w h a k m true) m 0 0 0) (cdC cl p) = true then 1 else 0))) 0 0) 34 ls [.int (nI v0)] 0 0 224 I1 J1 P := by
      intro I1 J1 hf hj h7' v0 hv0 hv ls hls
      subst hls
      have hb1 := hb.fix hf (by decide) (by decide) (by decide)
      have htb1 := htb.fix hf (by decide) (by decide)
      have g2 := t_gasOf (J := J1) (high := true) (hb := nI 1) hP hb1.1 hb1.2.1 b3 b4 b5 htb1 hk hm (by decide)
      have s2 := t_isShut (J := J1) hP hb1 hk h7' hm (gasN_le (m := m) (high := true) hwh k3) hp
      generalize gasN w h a k m true = gh at *
      cases hbh : evT (nmH a k gh m 0 0 0) (cdC cl p) with
      | true =>
        rw [hbh] at s2
        refine g_aload_n dX12_shutOf_34 rfl ?_
        refine g_iload_n dX12_shutOf_35 rfl ?_
        refine g_iload_n dX12_shutOf_36 rfl ?_
        refine g_aload_n dX12_shutOf_37 rfl ?_
        refine g_iload_n dX12_shutOf_38 rfl ?_
        refine g_iload_n dX12_shutOf_39 rfl ?_
        refine g_iconst (v := nI 1) dX12_shutOf_40 (by decide) ?_
        refine p_callV (g2) okX12_gasOf lkX12_165 rfl (by first | rfl | exact pv_shx) rfl (by omega) (by omega) dX12_shutOf_41 rfl (Nat.le_of_ble_eq_true rfl) (⟨by decide, by decide, by decide, by decide⟩) ?_
        refine g_callV (s2) okX12_isShut lkX12_348 rfl (by first | rfl | exact pv_shx) rfl (by omega) (by omega) dX12_shutOf_44 rfl (Nat.le_of_ble_eq_true rfl) (⟨by decide, by decide, by decide, by decide⟩) ?_
        rintro v nx' I2 J2 P' ⟨rfl, rfl, rfl, q1, q2, q3⟩
        refine n_if_eq 54 dX12_shutOf_47 (by decide) (by first | (with_reducible exact cB _) | ((with_reducible apply cN_eq0) <;> omega) | exact Iff.rfl) (fun c47 => by exfalso; first | omega | exact absurd trivial c47 | exact c47 | (simp at c47)) (fun c47 => ?_)
        refine g_iconst (v := nI 1) dX12_shutOf_50 (by decide) ?_
        refine g_goto 55 dX12_shutOf_51 (by decide) ?_
        refine n_iadd dX12_shutOf_55 (by first | (with_reducible exact nI_add _ _) | rfl) ?_
        exact g_iret dX12_shutOf_56 rfl (⟨rfl, rfl, by rw [← hv]; rfl, fun x hx => by simp at hx; rw [q1 x (by simp; omega), hf x (by simp; omega)], fun x hx => (q2 x hx).trans (hj x hx)⟩)
      | false =>
        rw [hbh] at s2
        refine g_aload_n dX12_shutOf_34 rfl ?_
        refine g_iload_n dX12_shutOf_35 rfl ?_
        refine g_iload_n dX12_shutOf_36 rfl ?_
        refine g_aload_n dX12_shutOf_37 rfl ?_
        refine g_iload_n dX12_shutOf_38 rfl ?_
        refine g_iload_n dX12_shutOf_39 rfl ?_
        refine g_iconst (v := nI 1) dX12_shutOf_40 (by decide) ?_
        refine p_callV (g2) okX12_gasOf lkX12_165 rfl (by first | rfl | exact pv_shx) rfl (by omega) (by omega) dX12_shutOf_41 rfl (Nat.le_of_ble_eq_true rfl) (⟨by decide, by decide, by decide, by decide⟩) ?_
        refine g_callV (s2) okX12_isShut lkX12_348 rfl (by first | rfl | exact pv_shx) rfl (by omega) (by omega) dX12_shutOf_44 rfl (Nat.le_of_ble_eq_true rfl) (⟨by decide, by decide, by decide, by decide⟩) ?_
        rintro v nx' I2 J2 P' ⟨rfl, rfl, rfl, q1, q2, q3⟩
        refine n_if_eq 54 dX12_shutOf_47 (by decide) (by first | (with_reducible exact cB _) | ((with_reducible apply cN_eq0) <;> omega) | exact Iff.rfl) (fun c47 => ?_) (fun c47 => by exfalso; first | omega | exact absurd trivial c47 | exact c47 | (simp at c47))
        refine g_iconst (v := nI 0) dX12_shutOf_54 (by decide) ?_
        refine n_iadd dX12_shutOf_55 (by first | (with_reducible exact nI_add _ _) | rfl) ?_
        exact g_iret dX12_shutOf_56 rfl (⟨rfl, rfl, by rw [← hv]; rfl, fun x hx => by simp at hx; rw [q1 x (by simp; omega), hf x (by simp; omega)], fun x hx => (q2 x hx).trans (hj x hx)⟩)
    cases bl with
    | true =>
      refine pvMet.of _ (by decide) rfl (Nat.le_of_ble_eq_true rfl) ?_
      refine g_aload_n dX12_shutOf_0 rfl ?_
      refine g_iconst (v := nI 1) dX12_shutOf_1 (by decide) ?_
      refine g_iload_n dX12_shutOf_2 rfl ?_
      refine p_callV (cf') okX12_clauseFor lkX12_345 rfl (by first | rfl | exact pv_shx) rfl (by omega) (by omega) dX12_shutOf_3 rfl (Nat.le_of_ble_eq_true rfl) (⟨by decide, by decide, by decide, by decide⟩) ?_
      refine g_istore_n dX12_shutOf_6 (by decide) rfl ?_
      refine g_iload_n dX12_shutOf_7 rfl ?_
      refine n_if_ge 13 dX12_shutOf_8 (by decide) (by first | ((with_reducible apply cN_ge0) <;> omega) | (with_reducible exact cI_ge0)) (fun c8 => ?_) (fun c8 => by exfalso; first | omega | exact absurd trivial c8 | exact c8 | (simp at c8))
      refine g_aload_n dX12_shutOf_13 rfl ?_
      refine g_iload_n dX12_shutOf_14 rfl ?_
      refine g_iload_n dX12_shutOf_15 rfl ?_
      refine g_aload_n dX12_shutOf_16 rfl ?_
      refine g_iload_n dX12_shutOf_17 rfl ?_
      refine g_iload_n dX12_shutOf_18 rfl ?_
      refine g_iconst (v := nI 0) dX12_shutOf_19 (by decide) ?_
      refine p_callV (g1) okX12_gasOf lkX12_165 rfl (by first | rfl | exact pv_shx) rfl (by omega) (by omega) dX12_shutOf_20 rfl (Nat.le_of_ble_eq_true rfl) (⟨by decide, by decide, by decide, by decide⟩) ?_
      refine g_callV (s1) okX12_isShut lkX12_348 rfl (by first | rfl | exact pv_shx) rfl (by omega) (by omega) dX12_shutOf_23 rfl (Nat.le_of_ble_eq_true rfl) (⟨by decide, by decide, by decide, by decide⟩) ?_
      rintro v nx' I2 J2 P' ⟨rfl, rfl, rfl, q1, q2, q3⟩
      refine n_if_eq 33 dX12_shutOf_26 (by decide) (by first | (with_reducible exact cB _) | ((with_reducible apply cN_eq0) <;> omega) | exact Iff.rfl) (fun c26 => by exfalso; first | omega | exact absurd trivial c26 | exact c26 | (simp at c26)) (fun c26 => ?_)
      refine g_iconst (v := nI 1) dX12_shutOf_29 (by decide) ?_
      refine g_goto 34 dX12_shutOf_30 (by decide) ?_
      exact mid I2 J2 q1 q2 q3 1 (by decide) rfl _ rfl
    | false =>
      refine pvMet.of _ (by decide) rfl (Nat.le_of_ble_eq_true rfl) ?_
      refine g_aload_n dX12_shutOf_0 rfl ?_
      refine g_iconst (v := nI 1) dX12_shutOf_1 (by decide) ?_
      refine g_iload_n dX12_shutOf_2 rfl ?_
      refine p_callV (cf') okX12_clauseFor lkX12_345 rfl (by first | rfl | exact pv_shx) rfl (by omega) (by omega) dX12_shutOf_3 rfl (Nat.le_of_ble_eq_true rfl) (⟨by decide, by decide, by decide, by decide⟩) ?_
      refine g_istore_n dX12_shutOf_6 (by decide) rfl ?_
      refine g_iload_n dX12_shutOf_7 rfl ?_
      refine n_if_ge 13 dX12_shutOf_8 (by decide) (by first | ((with_reducible apply cN_ge0) <;> omega) | (with_reducible exact cI_ge0)) (fun c8 => ?_) (fun c8 => by exfalso; first | omega | exact absurd trivial c8 | exact c8 | (simp at c8))
      refine g_aload_n dX12_shutOf_13 rfl ?_
      refine g_iload_n dX12_shutOf_14 rfl ?_
      refine g_iload_n dX12_shutOf_15 rfl ?_
      refine g_aload_n dX12_shutOf_16 rfl ?_
      refine g_iload_n dX12_shutOf_17 rfl ?_
      refine g_iload_n dX12_shutOf_18 rfl ?_
      refine g_iconst (v := nI 0) dX12_shutOf_19 (by decide) ?_
      refine p_callV (g1) okX12_gasOf lkX12_165 rfl (by first | rfl | exact pv_shx) rfl (by omega) (by omega) dX12_shutOf_20 rfl (Nat.le_of_ble_eq_true rfl) (⟨by decide, by decide, by decide, by decide⟩) ?_
      refine g_callV (s1) okX12_isShut lkX12_348 rfl (by first | rfl | exact pv_shx) rfl (by omega) (by omega) dX12_shutOf_23 rfl (Nat.le_of_ble_eq_true rfl) (⟨by decide, by decide, by decide, by decide⟩) ?_
      rintro v nx' I2 J2 P' ⟨rfl, rfl, rfl, q1, q2, q3⟩
      refine n_if_eq 33 dX12_shutOf_26 (by decide) (by first | (with_reducible exact cB _) | ((with_reducible apply cN_eq0) <;> omega) | exact Iff.rfl) (fun c26 => ?_) (fun c26 => by exfalso; first | omega | exact absurd trivial c26 | exact c26 | (simp at c26))
      refine g_iconst (v := nI 0) dX12_shutOf_33 (by decide) ?_
      exact mid I2 J2 q1 q2 q3 0 (by decide) rfl _ rfl
