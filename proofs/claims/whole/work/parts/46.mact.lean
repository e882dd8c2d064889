/-! model: clauses, texts, acts -/
theorem clD_mono {f f' : Nat → Int32} {b j L : Nat} {c : pC} {cd e : List Nat} (hf : ∀ x, b < x → x < b + 1 + 6 * L → f' x = f x) (hj : j < L) (h : clD f b j c cd) : clD f' b j c (cd ++ e) := by
  obtain ⟨h1, h2, s, h3, h4, h5, h6⟩ := h
  refine ⟨by rw [hf _ (by omega) (by omega)]; exact h1, fun hc => by rw [hf _ (by omega) (by omega)]; exact h2 hc, s, by rw [List.length_append]; omega, by rw [hf _ (by omega) (by omega)]; exact h4, by rw [hf _ (by omega) (by omega)]; exact h5, fun i hi => ?_⟩
  rw [← h6 i hi]
  have : s + i < cd.length := by omega
  simp [List.getD, List.getElem?_append_left this]
theorem getD_snoc {cs : List pC} {c : pC} {j : Nat} : (cs ++ [c]).getD j (0, 0, []) = if j < cs.length then cs.getD j (0, 0, []) else if j = cs.length then c else (0, 0, []) := by
  by_cases h : j < cs.length
  · rw [if_pos h]; simp [List.getD, List.getElem?_append_left h]
  · rw [if_neg h]
    by_cases e : j = cs.length
    · rw [if_pos e]; subst e; simp [List.getD]
    · rw [if_neg e]
      have : cs.length < j := by omega
      simp [List.getD]
      rw [List.getElem?_eq_none (by simp; omega)]
      rfl
section MAC
variable {tx : Nat → Nat} {n t0 : Nat} {I0 : pvI} {J0 : pvJ} {P : pvP} {Q : pvQT}
theorem mS.re {A I : pvI} {B J : pvJ} {k : Nat} {pl : List Nat} {op : Nat} {wh : Bool} {cd : List Nat} (h : mS tx n t0 A B I J k pl op wh cd) : mS tx n t0 I J I J k pl op wh cd := mS.mk' (fun _ _ => rfl) (fun _ _ => rfl) (fun _ _ => rfl) h.at' h.pla h.tok h.wr h.cod (fun _ _ => rfl) h.pd h.pil h.ops h.who
def clQ (tx : Nat → Nat) (n t0 : Nat) (I0 : pvI) (J0 : pvJ) (P : pvP) (cs : List pC) (cd : List Nat) (k : Nat) : pvQT := pvq P (fun v I' J' => match rdC (tkK tx n) n cs k with
    | .ok (c, k2) => v = some (.int (nI 0)) ∧ mX tx n t0 I0 J0 I' J' k2 (cs ++ [c]) (cd ++ c.2.2) ∧ (cd ++ c.2.2).length ≤ k2 ∧ k < k2 ∧ k2 ≤ n
    | .error (f, kf) => v = some (.int (nI f)) ∧ mFb tx n t0 I0 J0 I' J' kf)
/-- the clause's inside, from the reading's beginning -/
theorem k_cl {I1 : pvI} {J1 : pvJ} {k k0 srt o : Nat} {pl : List Nat} {wh : Bool} {cd : List Nat} {cs : List pC} (hP : pvOkP P) (ht : mTx tx n I1) (h26 : I1 202 26 = nI t0) (ht0 : t0 ≤ 7200) (h18 : I1 202 18 = nI (srt + 1)) (hsr : srt ≤ 3) (hs : mS tx n t0 I1 J1 I1 J1 k pl 0 wh cd) (hb : cd.length ≤ k) (hkn : k ≤ n) (hk0 : k0 < k)
    (h27 : I1 202 27 = nI cs.length) (hcl : cs.length < 20) (h29 : I1 202 29 = nI (camN (cs ++ [(srt, o, [])]))) (hcs : ∀ c, c ∈ cs → c.1 ≤ 3)
    (hfx : mfix I0 I1 [202, 205, 218]) (hff : ∀ j, j ∉ LF → I1 202 j = I0 202 j) (hfj : ∀ x, x ≠ 202 → J1 x = J0 x) (hfr : ∀ x, (x < t0 ∨ t0 + 800 ≤ x) → I1 205 x = I0 205 x)
    (hold : ∀ j, j < cs.length → clD (I1 205) t0 j (cs.getD j (0, 0, [])) cd) (hn1 : I1 205 (t0 + 1 + 6 * cs.length) = nI (srt + 1)) (hn2 : srt = 2 → I1 205 (t0 + 1 + 6 * cs.length + 1) = nI o) (hn3 : I1 205 (t0 + 1 + 6 * cs.length + 4) = nI cd.length)
    (hr : rdC (tkK tx n) n cs k0 = rdB (tkK tx n) n srt o k) :
    ∀ v2, pvG mX12_clause (pvR 8 0 0) (pvZ (clQ tx n t0 I0 J0 P cs cd k0) 0 0) 159 [.ref 202, .int (nI (t0 + 1 + 6 * cs.length)), v2] [] 0 0 224 I1 J1 P := by
  refine k_body hP ⟨ht, h26, ht0, h18, hsr⟩ hs hb hkn h27 hcl ?_ ?_ ?_
  · intro e k2 he hT I2 J2 I3 J3 pl' s2 s3 g1 g2 g3 g4 g5 hl hk hkn2
    have hcm : camN (cs ++ [(srt, o, e)]) = camN (cs ++ [(srt, o, [])]) := by rw [camN_app, camN_app]
    refine ⟨rfl, rfl, ?_⟩
    rw [hr]
    unfold rdB
    rw [he]
    simp only [if_pos hT]
    have h5 : ∀ x, t0 < x → x < t0 + 1 + 6 * cs.length → I3 205 x = I1 205 x := fun x h1 h2 => by
      rw [g4, fld_at (by omega) (s2.fr5 x (by omega))]
    refine ⟨by first | rfl | trivial, ⟨⟨fun x hx => ?_, fun j hj => ?_, fun x hx => ?_, s3.pla, fun x hx => ?_, by rw [s3.who]; simp⟩, ⟨s3.at', s3.tok⟩, ⟨?_, s3.wr, ?_, s3.ops⟩, s3.cod, fun j hj => ?_, by rw [List.length_append, List.length_singleton]; omega, fun c hc => ?_⟩, by rw [List.length_append]; omega, by omega, by omega⟩
    · simp at hx
      rw [g1 x (by omega) (by omega), s2.fx x (by simp; omega)]
      exact hfx x (by simp; omega)
    · rw [g2 j (by simp at hj ⊢; omega), s2.ff j (by simp at hj ⊢; omega)]
      exact hff j hj
    · rw [g5 x hx, s2.fj x hx]; exact hfj x hx
    · rw [g4, fld_at (by omega) (s2.fr5 x (by omega))]; exact hfr x hx
    · rw [g3, List.length_append, List.length_singleton]
    · rw [g2 29 (by decide), s2.ff 29 (by decide), h29, hcm]
    · rw [List.length_append, List.length_singleton] at hj
      rw [getD_snoc]
      by_cases c : j < cs.length
      · rw [if_pos c]; exact clD_mono h5 c (hold j c)
      · rw [if_neg c, if_pos (by omega)]
        obtain rfl : j = cs.length := by omega
        refine ⟨?_, fun hc => ?_, cd.length, by rw [List.length_append]; exact Nat.le_refl _, ?_, ?_, fun i hi => ?_⟩
        · rw [g4, fld_at (by omega) (s2.fr5 _ (by omega))]; exact hn1
        · rw [g4, fld_at (by omega) (s2.fr5 _ (by omega))]; exact hn2 hc
        · rw [g4, fld_at (by omega) (s2.fr5 _ (by omega))]; exact hn3
        · rw [g4, List.length_append]; simp [upd]
        · simp [List.getD, List.getElem?_append_right]
    · rcases List.mem_append.mp hc with h | h
      · exact hcs c h
      · rw [List.mem_singleton.mp h]; exact hsr
  · intro f kf he I' J' pl' op' wh' cd' s'
    refine ⟨rfl, rfl, ?_⟩
    rw [hr]
    unfold rdB
    rw [he]
    exact ⟨rfl, mFb_tr (k := k) hfx hff hfj hfr s'⟩
  · intro e k2 he hT I2 J2 s2
    refine ⟨rfl, rfl, ?_⟩
    rw [hr]
    unfold rdB
    rw [he]
    simp only [if_neg hT]
    have hb2 := mFb_tr (k := k) hfx hff hfj hfr s2
    refine ⟨by first | rfl | trivial, fun x hx => ?_, fun j hj => ?_, hb2.2.2.1, ?_, fun x hx => ?_, ?_⟩
    · simp at hx; rw [pvs_ne (by omega)]; exact hb2.1 x (by simp; omega)
    · rw [pvs_ne (by decide)]; exact hb2.2.1 j hj
    · rw [pvs_ne (by decide)]; exact hb2.2.2.2.1
    · rw [pvs_eq, fld_at (by omega) rfl]; exact hb2.2.2.2.2.1 x hx
    · rw [pvs_ne (by decide)]; exact hb2.2.2.2.2.2
theorem t_clause {I : pvI} {J : pvJ} {k : Nat} {cs : List pC} {cd : List Nat} (hP : pvOkP P) (ht : mTx tx n I0) (h26 : I0 202 26 = nI t0) (ht0 : t0 ≤ 7200) (hX : mX tx n t0 I0 J0 I J k cs cd) (hb : cd.length ≤ k) (hT0 : tkK tx n k ≠ 0) : pvMet mX12_clause 8 0 0 [.ref 202] 224 I J P (clQ tx n t0 I0 J0 P cs cd k) := by
  have hkn := tkK_lt hT0
  have hn300 := ht.2.1
  obtain ⟨⟨x1, x2, x3, x4, x5, x6⟩, ⟨x7, x8⟩, ⟨x9, x10, x11, x12⟩, x13, x14, x15, x16⟩ := hX
  have so := t_sortOf (P := P) x8
  have hcm := camN_lt cs x16
  have mfb : ∀ s : Nat, mFb tx n t0 I0 J0 (pvs I 202 (upd (I 202) 18 (nI s))) J k := fun s => ⟨fun x hx => by rw [pvs_ne (by simp at hx; omega)]; exact x1 x hx, fun j hj => by rw [pvs_eq, fld_at (by simp at hj; omega) rfl]; exact x2 j hj, x3, by rw [pvs_eq, fld_at (by decide) rfl]; exact x4, fun x hx => by rw [pvs_ne (by decide)]; exact x5 x hx, by rw [pvs_eq, fld_at (by decide) rfl]; exact x6⟩
  by_cases c1 : 200 ≤ tkK tx n k ∧ tkK tx n k ≤ 203
  · rw [if_pos c1] at so
    generalize hs : tkK tx n k - 200 = s at *
    have hts : tkK tx n k = 200 + s := by omega
    rw [show tkK tx n k - 199 = s + 1 by omega] at so
    have hrd : rdC (tkK tx n) n cs k = if s ≠ 2 ∧ seenB cs s = true then .error (4, k) else if cs.length = 20 then .error (6, k) else if s = 2 then (if tkK tx n (k + 1) < 1000 then .error (1, k + 1) else if 1009 < tkK tx n (k + 1) then .error (2, k + 1) else rdB (tkK tx n) n 2 (tkK tx n (k + 1) - 1000) (k + 2)) else rdB (tkK tx n) n s 0 (k + 1) := by
      unfold rdC
      rw [if_neg (by omega), hs]
      by_cases z : s = 2
      · have e202 : tkK tx n k = 202 := by omega
        rw [if_neg (show ¬ (tkK tx n k ≠ 202 ∧ seenB cs s = true) from fun w => w.1 e202), if_neg (show ¬ (s ≠ 2 ∧ seenB cs s = true) from fun w => w.1 z), if_pos e202, if_pos z]
      · have e : (tkK tx n k ≠ 202 ∧ seenB cs s = true) = (s ≠ 2 ∧ seenB cs s = true) := by
          apply propext
          exact ⟨fun w => ⟨z, w.2⟩, fun w => ⟨by omega, w.2⟩⟩
        rw [if_neg (show ¬ tkK tx n k = 202 by omega), if_neg z]
        simp only [e]
    have hbit := camN_bit (s := s) cs
    have hdv : camN cs / 2 ^ (s + 1) ≤ camN cs := Nat.div_le_self _ _
    by_cases c2 : s ≠ 2 ∧ seenB cs s = true
    · rw [if_pos c2] at hrd
      have hb1 := hbit.mpr c2.2
      refine pvMet.of _ (by decide) rfl (Nat.le_of_ble_eq_true rfl) ?_
      refine g_aload_n dX12_clause_0 rfl ?_
      refine g_aload_n dX12_clause_1 rfl ?_
      refine p_callV (so) okX12_sortOf lkX12_296 rfl (by first | rfl | exact pv_shx) rfl (by omega) (by omega) dX12_clause_2 rfl (Nat.le_of_ble_eq_true rfl) (⟨by decide, by decide, by decide, by decide⟩) ?_
      refine n_putI dX12_clause_5 fdX12_246 rfl (fun h => absurd h (by decide)) (by first | rfl | exact pv_shx) (by omega) (by omega) (by decide) rfl (by repeat (first | exact pvu_s | exact pvuJ_s | apply pvu_in (by omega) | apply pvuJ_in (by omega) | exact pvu_pvs | exact pvuJ_pvs)) ?_
      refine g_aload_n dX12_clause_8 rfl ?_
      refine n_getI dX12_clause_9 fdX12_246 rfl (by first | rfl | exact pv_shx) (by omega) (by omega) (by decide) rfl (by repeat (first | exact x11 | (apply rd_s; done) | apply rd_n (by omega) | apply rp_s | apply rp_n (by omega) | (apply rdL_s; done) | apply rdL_n (by omega) | apply rpJ_s | apply rpJ_n (by omega) | rfl)) ?_
      refine n_if_ne 17 dX12_clause_12 (by decide) (by first | (with_reducible exact cB _) | ((with_reducible apply cN_eq0) <;> omega) | exact Iff.rfl) (fun c12 => ?_) (fun c12 => by exfalso; first | omega | exact absurd trivial c12 | exact c12)
      refine g_aload_n dX12_clause_17 rfl ?_
      refine n_getI dX12_clause_18 fdX12_246 rfl (by first | rfl | exact pv_shx) (by omega) (by omega) (by decide) rfl (by repeat (first | exact x11 | (apply rd_s; done) | apply rd_n (by omega) | apply rp_s | apply rp_n (by omega) | (apply rdL_s; done) | apply rdL_n (by omega) | apply rpJ_s | apply rpJ_n (by omega) | rfl)) ?_
      refine g_iconst (v := nI 3) dX12_clause_21 (by decide) ?_
      refine n_icmp_eq 42 dX12_clause_22 (by decide) (by first | ((with_reducible apply cN_eq) <;> omega) | ((with_reducible apply cI_eqn) <;> omega) | exact Iff.rfl) (fun c22 => by exfalso; first | omega | exact absurd trivial c22 | exact c22) (fun c22 => ?_)
      refine g_aload_n dX12_clause_25 rfl ?_
      refine n_getI dX12_clause_26 fdX12_299 rfl (by first | rfl | exact pv_shx) (by omega) (by omega) (by decide) rfl (by repeat (first | exact x11 | (apply rd_s; done) | apply rd_n (by omega) | apply rp_s | apply rp_n (by omega) | (apply rdL_s; done) | apply rdL_n (by omega) | apply rpJ_s | apply rpJ_n (by omega) | rfl)) ?_
      refine g_aload_n dX12_clause_29 rfl ?_
      refine n_getI dX12_clause_30 fdX12_246 rfl (by first | rfl | exact pv_shx) (by omega) (by omega) (by decide) rfl (by repeat (first | exact x11 | (apply rd_s; done) | apply rd_n (by omega) | apply rp_s | apply rp_n (by omega) | (apply rdL_s; done) | apply rdL_n (by omega) | apply rpJ_s | apply rpJ_n (by omega) | rfl)) ?_
      refine n_ishr dX12_clause_33 (nI_shr (by omega) (by omega)) ?_
      refine g_iconst (v := nI 1) dX12_clause_34 (by decide) ?_
      refine n_iand dX12_clause_35 (nI_and1 (by omega)) ?_
      refine g_iconst (v := nI 1) dX12_clause_36 (by decide) ?_
      refine n_icmp_ne 42 dX12_clause_37 (by decide) (by first | ((with_reducible apply cN_eq) <;> omega) | ((with_reducible apply cI_eqn) <;> omega) | exact Iff.rfl) (fun c37 => by exfalso; first | omega | exact absurd trivial c37 | exact c37) (fun c37 => ?_)
      refine g_iconst (v := nI 4) dX12_clause_40 (by decide) ?_
      exact g_iret dX12_clause_41 rfl (⟨rfl, rfl, by rw [hrd]; exact ⟨rfl, mfb _⟩⟩)
    · rw [if_neg c2] at hrd
      by_cases c3 : cs.length = 20
      · rw [if_pos c3] at hrd
        by_cases c4 : s = 2
        · skip
          refine pvMet.of _ (by decide) rfl (Nat.le_of_ble_eq_true rfl) ?_
          refine g_aload_n dX12_clause_0 rfl ?_
          refine g_aload_n dX12_clause_1 rfl ?_
          refine p_callV (so) okX12_sortOf lkX12_296 rfl (by first | rfl | exact pv_shx) rfl (by omega) (by omega) dX12_clause_2 rfl (Nat.le_of_ble_eq_true rfl) (⟨by decide, by decide, by decide, by decide⟩) ?_
          refine n_putI dX12_clause_5 fdX12_246 rfl (fun h => absurd h (by decide)) (by first | rfl | exact pv_shx) (by omega) (by omega) (by decide) rfl (by repeat (first | exact pvu_s | exact pvuJ_s | apply pvu_in (by omega) | apply pvuJ_in (by omega) | exact pvu_pvs | exact pvuJ_pvs)) ?_
          refine g_aload_n dX12_clause_8 rfl ?_
          refine n_getI dX12_clause_9 fdX12_246 rfl (by first | rfl | exact pv_shx) (by omega) (by omega) (by decide) rfl (by repeat (first | exact x11 | exact x9 | (apply rd_s; done) | apply rd_n (by omega) | apply rp_s | apply rp_n (by omega) | (apply rdL_s; done) | apply rdL_n (by omega) | apply rpJ_s | apply rpJ_n (by omega) | rfl)) ?_
          refine n_if_ne 17 dX12_clause_12 (by decide) (by first | (with_reducible exact cB _) | ((with_reducible apply cN_eq0) <;> omega) | exact Iff.rfl) (fun c12 => ?_) (fun c12 => by exfalso; first | omega | exact absurd trivial c12 | exact c12)
          refine g_aload_n dX12_clause_17 rfl ?_
          refine n_getI dX12_clause_18 fdX12_246 rfl (by first | rfl | exact pv_shx) (by omega) (by omega) (by decide) rfl (by repeat (first | exact x11 | exact x9 | (apply rd_s; done) | apply rd_n (by omega) | apply rp_s | apply rp_n (by omega) | (apply rdL_s; done) | apply rdL_n (by omega) | apply rpJ_s | apply rpJ_n (by omega) | rfl)) ?_
          refine g_iconst (v := nI 3) dX12_clause_21 (by decide) ?_
          refine n_icmp_eq 42 dX12_clause_22 (by decide) (by first | ((with_reducible apply cN_eq) <;> omega) | ((with_reducible apply cI_eqn) <;> omega) | exact Iff.rfl) (fun c22 => ?_) (fun c22 => by exfalso; first | omega | exact absurd trivial c22 | exact c22)
          refine g_aload_n dX12_clause_42 rfl ?_
          refine n_getI dX12_clause_43 fdX12_302 rfl (by first | rfl | exact pv_shx) (by omega) (by omega) (by decide) rfl (by repeat (first | exact x11 | exact x9 | (apply rd_s; done) | apply rd_n (by omega) | apply rp_s | apply rp_n (by omega) | (apply rdL_s; done) | apply rdL_n (by omega) | apply rpJ_s | apply rpJ_n (by omega) | rfl)) ?_
          refine g_bipush (v := nI 20) dX12_clause_46 (by decide) ?_
          refine n_icmp_ne 54 dX12_clause_48 (by decide) (by first | ((with_reducible apply cN_eq) <;> omega) | ((with_reducible apply cI_eqn) <;> omega) | exact Iff.rfl) (fun c48 => by exfalso; first | omega | exact absurd trivial c48 | exact c48) (fun c48 => ?_)
          refine g_bipush (v := nI 6) dX12_clause_51 (by decide) ?_
          exact g_iret dX12_clause_53 rfl (⟨rfl, rfl, by rw [hrd]; exact ⟨rfl, mfb _⟩⟩)
        · have hb1 : ¬ camN cs / 2 ^ (s + 1) % 2 = 1 := fun z => c2 ⟨c4, hbit.mp z⟩
          refine pvMet.of _ (by decide) rfl (Nat.le_of_ble_eq_true rfl) ?_
          refine g_aload_n dX12_clause_0 rfl ?_
          refine g_aload_n dX12_clause_1 rfl ?_
          refine p_callV (so) okX12_sortOf lkX12_296 rfl (by first | rfl | exact pv_shx) rfl (by omega) (by omega) dX12_clause_2 rfl (Nat.le_of_ble_eq_true rfl) (⟨by decide, by decide, by decide, by decide⟩) ?_
          refine n_putI dX12_clause_5 fdX12_246 rfl (fun h => absurd h (by decide)) (by first | rfl | exact pv_shx) (by omega) (by omega) (by decide) rfl (by repeat (first | exact pvu_s | exact pvuJ_s | apply pvu_in (by omega) | apply pvuJ_in (by omega) | exact pvu_pvs | exact pvuJ_pvs)) ?_
          refine g_aload_n dX12_clause_8 rfl ?_
          refine n_getI dX12_clause_9 fdX12_246 rfl (by first | rfl | exact pv_shx) (by omega) (by omega) (by decide) rfl (by repeat (first | exact x11 | exact x9 | (apply rd_s; done) | apply rd_n (by omega) | apply rp_s | apply rp_n (by omega) | (apply rdL_s; done) | apply rdL_n (by omega) | apply rpJ_s | apply rpJ_n (by omega) | rfl)) ?_
          refine n_if_ne 17 dX12_clause_12 (by decide) (by first | (with_reducible exact cB _) | ((with_reducible apply cN_eq0) <;> omega) | exact Iff.rfl) (fun c12 => ?_) (fun c12 => by exfalso; first | omega | exact absurd trivial c12 | exact c12)
          refine g_aload_n dX12_clause_17 rfl ?_
          refine n_getI dX12_clause_18 fdX12_246 rfl (by first | rfl | exact pv_shx) (by omega) (by omega) (by decide) rfl (by repeat (first | exact x11 | exact x9 | (apply rd_s; done) | apply rd_n (by omega) | apply rp_s | apply rp_n (by omega) | (apply rdL_s; done) | apply rdL_n (by omega) | apply rpJ_s | apply rpJ_n (by omega) | rfl)) ?_
          refine g_iconst (v := nI 3) dX12_clause_21 (by decide) ?_
          refine n_icmp_eq 42 dX12_clause_22 (by decide) (by first | ((with_reducible apply cN_eq) <;> omega) | ((with_reducible apply cI_eqn) <;> omega) | exact Iff.rfl) (fun c22 => by exfalso; first | omega | exact absurd trivial c22 | exact c22) (fun c22 => ?_)
          refine g_aload_n dX12_clause_25 rfl ?_
          refine n_getI dX12_clause_26 fdX12_299 rfl (by first | rfl | exact pv_shx) (by omega) (by omega) (by decide) rfl (by repeat (first | exact x11 | exact x9 | (apply rd_s; done) | apply rd_n (by omega) | apply rp_s | apply rp_n (by omega) | (apply rdL_s; done) | apply rdL_n (by omega) | apply rpJ_s | apply rpJ_n (by omega) | rfl)) ?_
          refine g_aload_n dX12_clause_29 rfl ?_
          refine n_getI dX12_clause_30 fdX12_246 rfl (by first | rfl | exact pv_shx) (by omega) (by omega) (by decide) rfl (by repeat (first | exact x11 | exact x9 | (apply rd_s; done) | apply rd_n (by omega) | apply rp_s | apply rp_n (by omega) | (apply rdL_s; done) | apply rdL_n (by omega) | apply rpJ_s | apply rpJ_n (by omega) | rfl)) ?_
          refine n_ishr dX12_clause_33 (nI_shr (by omega) (by omega)) ?_
          refine g_iconst (v := nI 1) dX12_clause_34 (by decide) ?_
          refine n_iand dX12_clause_35 (nI_and1 (by omega)) ?_
          refine g_iconst (v := nI 1) dX12_clause_36 (by decide) ?_
          refine n_icmp_ne 42 dX12_clause_37 (by decide) (by first | ((with_reducible apply cN_eq) <;> omega) | ((with_reducible apply cI_eqn) <;> omega) | exact Iff.rfl) (fun c37 => ?_) (fun c37 => by exfalso; first | omega | exact absurd trivial c37 | exact c37)
          refine g_aload_n dX12_clause_42 rfl ?_
          refine n_getI dX12_clause_43 fdX12_302 rfl (by first | rfl | exact pv_shx) (by omega) (by omega) (by decide) rfl (by repeat (first | exact x11 | exact x9 | (apply rd_s; done) | apply rd_n (by omega) | apply rp_s | apply rp_n (by omega) | (apply rdL_s; done) | apply rdL_n (by omega) | apply rpJ_s | apply rpJ_n (by omega) | rfl)) ?_
          refine g_bipush (v := nI 20) dX12_clause_46 (by decide) ?_
          refine n_icmp_ne 54 dX12_clause_48 (by decide) (by first | ((with_reducible apply cN_eq) <;> omega) | ((with_reducible apply cI_eqn) <;> omega) | exact Iff.rfl) (fun c48 => by exfalso; first | omega | exact absurd trivial c48 | exact c48) (fun c48 => ?_)
          refine g_bipush (v := nI 6) dX12_clause_51 (by decide) ?_
          exact g_iret dX12_clause_53 rfl (⟨rfl, rfl, by rw [hrd]; exact ⟨rfl, mfb _⟩⟩)
      · rw [if_neg c3] at hrd
        -- the clause begins
        have f26 : I 202 26 = nI t0 := by rw [x2 26 (by decide)]; exact h26
        generalize hI1 : pvs (pvs I 202 (upd (upd (I 202) 18 (nI (s + 1))) 29 (nI (camN cs ||| 2 ^ (s + 1))))) 205 (upd (upd (I 205) (t0 + 1 + 6 * cs.length) (nI (s + 1))) (t0 + 1 + 6 * cs.length + 4) (nI cd.length)) = I1
        obtain ⟨pl, pl1, pl2⟩ := plEx I
        obtain ⟨wh, hwh⟩ : ∃ wh : Bool, I 202 33 = if wh = true then 1 else 0 := by
          rcases x6 with h | h
          · exact ⟨false, h⟩
          · exact ⟨true, h⟩
        have e202 : I1 202 = upd (upd (I 202) 18 (nI (s + 1))) 29 (nI (camN cs ||| 2 ^ (s + 1))) := by rw [← hI1, pvs_ne (by decide), pvs_eq]
        have e205 : I1 205 = upd (upd (I 205) (t0 + 1 + 6 * cs.length) (nI (s + 1))) (t0 + 1 + 6 * cs.length + 4) (nI cd.length) := by rw [← hI1, pvs_eq]
        have eo : ∀ x, x ≠ 202 → x ≠ 205 → I1 x = I x := fun x h1 h2 => by rw [← hI1, pvs_ne h2, pvs_ne h1]
        have ef : ∀ x, x ≠ 18 → x ≠ 29 → I1 202 x = I 202 x := fun x h1 h2 => by rw [e202, fld_at h2 (fld_at h1 rfl)]
        have s1 : mS tx n t0 I1 J I1 J k pl 0 wh cd := mS.mk' (fun _ _ => rfl) (fun _ _ => rfl) (fun _ _ => rfl) (by rw [ef 21 (by decide) (by decide)]; exact x7) (by rw [ef 22 (by decide) (by decide)]; exact x4) (by rw [ef 23 (by decide) (by decide), ef 24 (by decide) (by decide)]; exact x8) (by rw [ef 28 (by decide) (by decide)]; exact x10)
          (by
            rw [e205]
            intro i hi
            have := x13 i hi
            exact ⟨fld_at (by omega) (fld_at (by omega) this.1), fld_at (by omega) (fld_at (by omega) this.2)⟩) (fun _ _ => rfl) (by rw [ef 31 (by decide) (by decide)]; exact pl1) (by rw [eo 218 (by decide) (by decide)]; exact pl2) (by rw [ef 32 (by decide) (by decide)]; exact x12) (by rw [ef 33 (by decide) (by decide)]; exact hwh)
        have t1 : mTx tx n I1 := ⟨by rw [ef 17 (by decide) (by decide), x2 17 (by decide)]; exact ht.1, ht.2.1, fun i hi => by rw [eo 217 (by decide) (by decide), x1 217 (by decide)]; exact ht.2.2 i hi⟩
        have nx1 := t_next (J := J) hP t1 s1.at' (tkE_b (tkP_b k)).2.1
        have f26' : I1 202 26 = nI t0 := by rw [ef 26 (by decide) (by decide)]; exact f26
        have f18' : I1 202 18 = nI (s + 1) := by rw [e202, fld_at (by decide) rfl]; simp [upd]
        -- behind the first token
        have beh : ∀ I2 J2, nxQ tx n (tkE tx n (tkP tx n k)) I1 J I2 J2 → pvG mX12_clause (pvR 8 0 0) (pvZ (clQ tx n t0 I0 J0 P cs cd k) 0 0) 110 [.ref 202, .int (nI (t0 + 1 + 6 * cs.length)), .retAddr 0] [] 0 0 224 I2 J2 P := by
          intro I2 J2 hq
          have s2 := s1.nxt hq
          obtain ⟨q1, q2, q3, q4, q5, q6⟩ := hq
          have f18'' : I2 202 18 = nI (s + 1) := by rw [q2 18 (by decide)]; exact f18'
          have f26'' : I2 202 26 = nI t0 := by rw [q2 26 (by decide)]; exact f26'
          have t2 : mTx tx n I2 := ⟨by rw [q2 17 (by decide)]; exact t1.1, t1.2.1, fun i hi => by rw [q1 217 (by decide)]; exact t1.2.2 i hi⟩
          have e25 : I2 205 = I1 205 := q1 205 (by decide)
          have old2 : ∀ j, j < cs.length → clD (I2 205) t0 j (cs.getD j (0, 0, [])) cd := fun j hj => by
            have := clD_mono (f' := I2 205) (L := cs.length) (e := []) (fun x h1 h2 => by rw [e25, e205, fld_at (by omega) (fld_at (by omega) rfl)]) hj (x14 j hj)
            rwa [List.append_nil] at this
          have fx2 : mfix I0 I2 [202, 205, 218] := fun x hx => by
            simp at hx
            rw [q1 x (by simp; omega), eo x (by omega) (by omega)]; exact x1 x (by simp; omega)
          have ff2 : ∀ j, j ∉ LF → I2 202 j = I0 202 j := fun j hj => by
            simp at hj
            rw [q2 j (by simp; omega), ef j (by omega) (by omega)]; exact x2 j (by simp; omega)
          have fj2 : ∀ x, x ≠ 202 → J2 x = J0 x := fun x hx => (q3 x hx).trans (x3 x hx)
          have fr2 : ∀ x, (x < t0 ∨ t0 + 800 ≤ x) → I2 205 x = I0 205 x := fun x hx => by rw [e25, e205, fld_at (by omega) (fld_at (by omega) rfl)]; exact x5 x hx
          have n21 : I2 205 (t0 + 1 + 6 * cs.length) = nI (s + 1) := by rw [e25, e205, fld_at (by omega) rfl]; simp [upd]
          have n24 : I2 205 (t0 + 1 + 6 * cs.length + 4) = nI cd.length := by rw [e25, e205]; simp [upd]
          have f27'' : I2 202 27 = nI cs.length := by rw [q2 27 (by decide), ef 27 (by decide) (by decide)]; exact x9
          have f29'' : ∀ o, I2 202 29 = nI (camN (cs ++ [(s, o, [])])) := fun o => by rw [q2 29 (by decide), e202, camN_app]; simp [upd]
          have mfb2 : mFb tx n t0 I0 J0 I2 J2 (k + 1) := mFb_tr (k := k) fx2 ff2 fj2 fr2 s2.re
          by_cases c4 : s = 2
          · rw [if_pos c4] at hrd
            have htk2 := s2.tok
            have ho2 := tokR_o htk2
            by_cases c5 : tkK tx n (k + 1) < 1000
            · rw [if_pos c5] at hrd
              refine g_aload_n dX12_clause_110 rfl ?_
              refine n_getI dX12_clause_111 fdX12_246 rfl (by first | rfl | exact pv_shx) (by omega) (by omega) (by decide) rfl (by repeat (first | exact f18'' | (apply rd_s; done) | apply rd_n (by omega) | apply rp_s | apply rp_n (by omega) | (apply rdL_s; done) | apply rdL_n (by omega) | apply rpJ_s | apply rpJ_n (by omega) | rfl)) ?_
              refine g_iconst (v := nI 3) dX12_clause_114 (by decide) ?_
              refine n_icmp_ne 159 dX12_clause_115 (by decide) (by first | ((with_reducible apply cN_eq) <;> omega) | ((with_reducible apply cI_eqn) <;> omega) | exact Iff.rfl) (fun c115 => by exfalso; first | omega | exact absurd trivial c115 | exact c115) (fun c115 => ?_)
              refine g_aload_n dX12_clause_118 rfl ?_
              refine n_getI dX12_clause_119 fdX12_194 rfl (by first | rfl | exact pv_shx) (by omega) (by omega) (by decide) rfl (by repeat (first | exact f18'' | (apply rd_s; done) | apply rd_n (by omega) | apply rp_s | apply rp_n (by omega) | (apply rdL_s; done) | apply rdL_n (by omega) | apply rpJ_s | apply rpJ_n (by omega) | rfl)) ?_
              refine g_iconst (v := nI 1) dX12_clause_122 (by decide) ?_
              refine n_icmp_eq 128 dX12_clause_123 (by decide) (ho2.2.2.2) (fun c123 => by exfalso; first | omega | exact absurd trivial c123 | exact c123) (fun c123 => ?_)
              refine g_iconst (v := nI 1) dX12_clause_126 (by decide) ?_
              exact g_iret dX12_clause_127 rfl (⟨rfl, rfl, by rw [hrd]; exact ⟨rfl, mfb2⟩⟩)
            · rw [if_neg c5] at hrd
              obtain ⟨v, v1, v2, v3⟩ := tokR_n htk2 (by omega)
              have hkn1 := tkK_lt (tx := tx) (n := n) (k := k + 1) (by omega)
              by_cases c6 : 1009 < tkK tx n (k + 1)
              · rw [if_pos c6] at hrd
                refine g_aload_n dX12_clause_110 rfl ?_
                refine n_getI dX12_clause_111 fdX12_246 rfl (by first | rfl | exact pv_shx) (by omega) (by omega) (by decide) rfl (by repeat (first | exact f18'' | exact v2 | (apply rd_s; done) | apply rd_n (by omega) | apply rp_s | apply rp_n (by omega) | (apply rdL_s; done) | apply rdL_n (by omega) | apply rpJ_s | apply rpJ_n (by omega) | rfl)) ?_
                refine g_iconst (v := nI 3) dX12_clause_114 (by decide) ?_
                refine n_icmp_ne 159 dX12_clause_115 (by decide) (by first | ((with_reducible apply cN_eq) <;> omega) | ((with_reducible apply cI_eqn) <;> omega) | exact Iff.rfl) (fun c115 => by exfalso; first | omega | exact absurd trivial c115 | exact c115) (fun c115 => ?_)
                refine g_aload_n dX12_clause_118 rfl ?_
                refine n_getI dX12_clause_119 fdX12_194 rfl (by first | rfl | exact pv_shx) (by omega) (by omega) (by decide) rfl (by repeat (first | exact f18'' | exact v2 | (apply rd_s; done) | apply rd_n (by omega) | apply rp_s | apply rp_n (by omega) | (apply rdL_s; done) | apply rdL_n (by omega) | apply rpJ_s | apply rpJ_n (by omega) | rfl)) ?_
                refine g_iconst (v := nI 1) dX12_clause_122 (by decide) ?_
                refine n_icmp_eq 128 dX12_clause_123 (by decide) (ho2.2.2.2) (fun c123 => ?_) (fun c123 => by exfalso; first | omega | exact absurd trivial c123 | exact c123)
                refine g_aload_n dX12_clause_128 rfl ?_
                refine n_getI dX12_clause_129 fdX12_200 rfl (by first | rfl | exact pv_shx) (by omega) (by omega) (by decide) rfl (by repeat (first | exact f18'' | exact v2 | (apply rd_s; done) | apply rd_n (by omega) | apply rp_s | apply rp_n (by omega) | (apply rdL_s; done) | apply rdL_n (by omega) | apply rpJ_s | apply rpJ_n (by omega) | rfl)) ?_
                refine g_iconst (v := nI 0) dX12_clause_132 (by decide) ?_
                refine g_bipush (v := nI 9) dX12_clause_133 (by decide) ?_
                refine p_callS (t_isIn (L := 0) (H := 9) (by decide) (by decide)) okX12_isIn lkX12_96 rfl dX12_clause_135 rfl (Nat.le_of_ble_eq_true rfl) (⟨by decide, by decide, by decide, by decide⟩) ?_
                rw [nI_toInt (by omega : v < 2 ^ 31)]
                refine n_if_ne 143 dX12_clause_138 (by decide) (by first | (with_reducible exact cB _) | ((with_reducible apply cN_eq0) <;> omega) | exact Iff.rfl) (fun c138 => by exfalso; first | omega | exact absurd trivial c138 | exact c138) (fun c138 => ?_)
                refine g_iconst (v := nI 2) dX12_clause_141 (by decide) ?_
                exact g_iret dX12_clause_142 rfl (⟨rfl, rfl, by rw [hrd]; exact ⟨rfl, mfb2⟩⟩)
              · rw [if_neg c6] at hrd
                generalize hI3 : pvs I2 205 (upd (I2 205) (t0 + 1 + 6 * cs.length + 1) (nI v)) = I3
                have e35 : I3 205 = upd (I2 205) (t0 + 1 + 6 * cs.length + 1) (nI v) := by rw [← hI3, pvs_eq]
                have eo3 : ∀ x, x ≠ 205 → I3 x = I2 x := fun x h => by rw [← hI3, pvs_ne h]
                have s3 : mS tx n t0 I3 J2 I3 J2 (k + 1) pl 0 wh cd := mS.mk' (fun _ _ => rfl) (fun _ _ => rfl) (fun _ _ => rfl) (by rw [eo3 202 (by decide)]; exact s2.at') (by rw [eo3 202 (by decide)]; exact s2.pla) (by rw [eo3 202 (by decide)]; exact s2.tok) (by rw [eo3 202 (by decide)]; exact s2.wr)
                  (by
                    rw [e35]
                    intro i hi
                    have := s2.cod i hi
                    exact ⟨fld_at (by omega) this.1, fld_at (by omega) this.2⟩) (fun _ _ => rfl) (by rw [eo3 202 (by decide)]; exact s2.pd) (by rw [eo3 218 (by decide)]; exact s2.pil) (by rw [eo3 202 (by decide)]; exact s2.ops) (by rw [eo3 202 (by decide)]; exact s2.who)
                have t3 : mTx tx n I3 := ⟨by rw [eo3 202 (by decide)]; exact t2.1, t2.2.1, fun i hi => by rw [eo3 217 (by decide)]; exact t2.2.2 i hi⟩
                have nx3 := t_next (J := J2) hP t3 s3.at' (tkE_b (tkP_b (k + 1))).2.1
                have go : ∀ I4 J4, nxQ tx n (tkE tx n (tkP tx n (k + 1))) I3 J2 I4 J4 → ∀ w2, pvG mX12_clause (pvR 8 0 0) (pvZ (clQ tx n t0 I0 J0 P cs cd k) 0 0) 159 [.ref 202, .int (nI (t0 + 1 + 6 * cs.length)), w2] [] 0 0 224 I4 J4 P := by
                  intro I4 J4 hq4
                  have s4 := s3.nxt hq4
                  obtain ⟨g1, g2, g3, g4, g5, g6⟩ := hq4
                  have e45 : I4 205 = I3 205 := g1 205 (by decide)
                  refine k_cl (srt := s) (o := tkK tx n (k + 1) - 1000) (k := k + 2) hP ⟨by rw [g2 17 (by decide)]; exact t3.1, t3.2.1, fun i hi => by rw [g1 217 (by decide)]; exact t3.2.2 i hi⟩ (by rw [g2 26 (by decide), eo3 202 (by decide)]; exact f26'') ht0 (by rw [g2 18 (by decide), eo3 202 (by decide)]; exact f18'') (by omega) s4.re (by omega) (by omega) (by omega) (by rw [g2 27 (by decide), eo3 202 (by decide)]; exact f27'') (by omega) (by rw [g2 29 (by decide), eo3 202 (by decide)]; exact f29'' _) x16 (fun x hx => ?_) (fun j hj => ?_) (fun x hx => (g3 x hx).trans (fj2 x hx)) (fun x hx => ?_) (fun j hj => ?_) ?_ (fun _ => ?_) ?_ ?_
                  · rw [g1 x (by simp at hx ⊢; omega), eo3 x (by simp at hx; omega)]; exact fx2 x hx
                  · rw [g2 j (by simp at hj ⊢; omega), eo3 202 (by decide)]; exact ff2 j hj
                  · rw [e45, e35, fld_at (by omega) rfl]; exact fr2 x hx
                  · have := clD_mono (f' := I4 205) (L := cs.length) (e := []) (fun x h1 h2 => by rw [e45, e35, fld_at (by omega) rfl]) hj (old2 j hj)
                    rwa [List.append_nil] at this
                  · rw [e45, e35, fld_at (by omega) rfl]; exact n21
                  · rw [e45, e35, show tkK tx n (k + 1) - 1000 = v by omega]; simp [upd]
                  · rw [e45, e35, fld_at (by omega) rfl]; exact n24
                  · rw [hrd, c4]
                refine g_aload_n dX12_clause_110 rfl ?_
                refine n_getI dX12_clause_111 fdX12_246 rfl (by first | rfl | exact pv_shx) (by omega) (by omega) (by decide) rfl (by repeat (first | exact f18'' | exact v2 | (apply rd_s; done) | apply rd_n (by omega) | apply rp_s | apply rp_n (by omega) | (apply rdL_s; done) | apply rdL_n (by omega) | apply rpJ_s | apply rpJ_n (by omega) | rfl)) ?_
                refine g_iconst (v := nI 3) dX12_clause_114 (by decide) ?_
                refine n_icmp_ne 159 dX12_clause_115 (by decide) (by first | ((with_reducible apply cN_eq) <;> omega) | ((with_reducible apply cI_eqn) <;> omega) | exact Iff.rfl) (fun c115 => by exfalso; first | omega | exact absurd trivial c115 | exact c115) (fun c115 => ?_)
                refine g_aload_n dX12_clause_118 rfl ?_
                refine n_getI dX12_clause_119 fdX12_194 rfl (by first | rfl | exact pv_shx) (by omega) (by omega) (by decide) rfl (by repeat (first | exact f18'' | exact v2 | (apply rd_s; done) | apply rd_n (by omega) | apply rp_s | apply rp_n (by omega) | (apply rdL_s; done) | apply rdL_n (by omega) | apply rpJ_s | apply rpJ_n (by omega) | rfl)) ?_
                refine g_iconst (v := nI 1) dX12_clause_122 (by decide) ?_
                refine n_icmp_eq 128 dX12_clause_123 (by decide) (ho2.2.2.2) (fun c123 => ?_) (fun c123 => by exfalso; first | omega | exact absurd trivial c123 | exact c123)
                refine g_aload_n dX12_clause_128 rfl ?_
                refine n_getI dX12_clause_129 fdX12_200 rfl (by first | rfl | exact pv_shx) (by omega) (by omega) (by decide) rfl (by repeat (first | exact f18'' | exact v2 | (apply rd_s; done) | apply rd_n (by omega) | apply rp_s | apply rp_n (by omega) | (apply rdL_s; done) | apply rdL_n (by omega) | apply rpJ_s | apply rpJ_n (by omega) | rfl)) ?_
                refine g_iconst (v := nI 0) dX12_clause_132 (by decide) ?_
                refine g_bipush (v := nI 9) dX12_clause_133 (by decide) ?_
                refine p_callS (t_isIn (L := 0) (H := 9) (by decide) (by decide)) okX12_isIn lkX12_96 rfl dX12_clause_135 rfl (Nat.le_of_ble_eq_true rfl) (⟨by decide, by decide, by decide, by decide⟩) ?_
                rw [nI_toInt (by omega : v < 2 ^ 31)]
                refine n_if_ne 143 dX12_clause_138 (by decide) (by first | (with_reducible exact cB _) | ((with_reducible apply cN_eq0) <;> omega) | exact Iff.rfl) (fun c138 => ?_) (fun c138 => by exfalso; first | omega | exact absurd trivial c138 | exact c138)
                refine g_aload_n dX12_clause_143 rfl ?_
                refine g_getP dX12_clause_144 fdX12_16 rfl (by first | rfl | exact pv_shx) (by omega) (by omega) (by decide) rfl (hP _ _ _ rfl) ?_
                refine g_iload_n dX12_clause_147 rfl ?_
                refine g_iconst (v := nI 1) dX12_clause_148 (by decide) ?_
                refine n_iadd dX12_clause_149 (by first | (with_reducible exact nI_add _ _) | rfl) ?_
                refine g_aload_n dX12_clause_150 rfl ?_
                refine n_getI dX12_clause_151 fdX12_200 rfl (by first | rfl | exact pv_shx) (by omega) (by omega) (by decide) rfl (by repeat (first | exact f18'' | exact v2 | (apply rd_s; done) | apply rd_n (by omega) | apply rp_s | apply rp_n (by omega) | (apply rdL_s; done) | apply rdL_n (by omega) | apply rpJ_s | apply rpJ_n (by omega) | rfl)) ?_
                refine n_iast dX12_clause_154 (by first | rfl | exact pv_shx) (by omega) (by omega) (by omega) (by decide) (rfl) (by omega) (by repeat (first | exact pvu_s | exact pvuJ_s | apply pvu_in (by omega) | apply pvuJ_in (by omega) | exact pvu_pvs | exact pvuJ_pvs)) ?_
                refine g_aload_n dX12_clause_155 rfl ?_
                rw [hI3]
                refine g_callV (nx3) okX12_nextToken lkX12_249 rfl (by first | rfl | exact pv_shx) rfl (by omega) (by omega) dX12_clause_156 rfl (Nat.le_of_ble_eq_true rfl) (⟨by decide, by decide, by decide, by decide⟩) ?_
                rintro w nx' I4 J4 P' ⟨rfl, rfl, rfl, hq4⟩
                exact go I4 J4 hq4 _
          · rw [if_neg c4] at hrd
            have kc := k_cl (srt := s) (o := 0) (k := k + 1) (k0 := k) (cs := cs) (P := P) hP t2 f26'' ht0 f18'' (by omega) s2.re (by omega) (by omega) (by omega) f27'' (by omega) (f29'' 0) x16 fx2 ff2 fj2 fr2 old2 n21 (fun z => absurd z c4) n24 hrd
            refine g_aload_n dX12_clause_110 rfl ?_
            refine n_getI dX12_clause_111 fdX12_246 rfl (by first | rfl | exact pv_shx) (by omega) (by omega) (by decide) rfl (by repeat (first | exact f18'' | (apply rd_s; done) | apply rd_n (by omega) | apply rp_s | apply rp_n (by omega) | (apply rdL_s; done) | apply rdL_n (by omega) | apply rpJ_s | apply rpJ_n (by omega) | rfl)) ?_
            refine g_iconst (v := nI 3) dX12_clause_114 (by decide) ?_
            refine n_icmp_ne 159 dX12_clause_115 (by decide) (by first | ((with_reducible apply cN_eq) <;> omega) | ((with_reducible apply cI_eqn) <;> omega) | exact Iff.rfl) (fun c115 => ?_) (fun c115 => by exfalso; first | omega | exact absurd trivial c115 | exact c115)
            exact kc _
        have beg : pvG mX12_clause (pvR 8 0 0) (pvZ (clQ tx n t0 I0 J0 P cs cd k) 0 0) 54 [.ref 202, .retAddr 0, .retAddr 0] [] 0 0 224 (pvs I 202 (upd (I 202) 18 (nI (s + 1)))) J P := by
          refine g_aload_n dX12_clause_54 rfl ?_
          refine g_dup dX12_clause_55 rfl ?_
          refine n_getI dX12_clause_56 fdX12_299 rfl (by first | rfl | exact pv_shx) (by omega) (by omega) (by decide) rfl (by repeat (first | exact x11 | exact f26 | exact x9 | exact x10 | (apply rd_s; done) | apply rd_n (by omega) | apply rp_s | apply rp_n (by omega) | (apply rdL_s; done) | apply rdL_n (by omega) | apply rpJ_s | apply rpJ_n (by omega) | rfl)) ?_
          refine g_iconst (v := nI 1) dX12_clause_59 (by decide) ?_
          refine g_aload_n dX12_clause_60 rfl ?_
          refine n_getI dX12_clause_61 fdX12_246 rfl (by first | rfl | exact pv_shx) (by omega) (by omega) (by decide) rfl (by repeat (first | exact x11 | exact f26 | exact x9 | exact x10 | (apply rd_s; done) | apply rd_n (by omega) | apply rp_s | apply rp_n (by omega) | (apply rdL_s; done) | apply rdL_n (by omega) | apply rpJ_s | apply rpJ_n (by omega) | rfl)) ?_
          refine n_ishl dX12_clause_64 (nI_shl1 (by omega)) ?_
          refine n_ior dX12_clause_65 (nI_or _ _) ?_
          refine n_putI dX12_clause_66 fdX12_299 rfl (fun h => absurd h (by decide)) (by first | rfl | exact pv_shx) (by omega) (by omega) (by decide) rfl (by repeat (first | exact pvu_s | exact pvuJ_s | apply pvu_in (by omega) | apply pvuJ_in (by omega) | exact pvu_pvs | exact pvuJ_pvs)) ?_
          refine g_aload_n dX12_clause_69 rfl ?_
          refine n_getI dX12_clause_70 fdX12_219 rfl (by first | rfl | exact pv_shx) (by omega) (by omega) (by decide) rfl (by repeat (first | exact x11 | exact f26 | exact x9 | exact x10 | (apply rd_s; done) | apply rd_n (by omega) | apply rp_s | apply rp_n (by omega) | (apply rdL_s; done) | apply rdL_n (by omega) | apply rpJ_s | apply rpJ_n (by omega) | rfl)) ?_
          refine g_iconst (v := nI 1) dX12_clause_73 (by decide) ?_
          refine n_iadd dX12_clause_74 (by first | (with_reducible exact nI_add _ _) | rfl) ?_
          refine g_bipush (v := nI 6) dX12_clause_75 (by decide) ?_
          refine g_aload_n dX12_clause_77 rfl ?_
          refine n_getI dX12_clause_78 fdX12_302 rfl (by first | rfl | exact pv_shx) (by omega) (by omega) (by decide) rfl (by repeat (first | exact x11 | exact f26 | exact x9 | exact x10 | (apply rd_s; done) | apply rd_n (by omega) | apply rp_s | apply rp_n (by omega) | (apply rdL_s; done) | apply rdL_n (by omega) | apply rpJ_s | apply rpJ_n (by omega) | rfl)) ?_
          refine n_imul dX12_clause_81 (by first | (with_reducible exact pk_mul _ _) | rfl) ?_
          refine n_iadd dX12_clause_82 (by first | (with_reducible exact nI_add _ _) | rfl) ?_
          refine g_istore_n dX12_clause_83 (by decide) rfl ?_
          refine g_aload_n dX12_clause_84 rfl ?_
          refine g_getP dX12_clause_85 fdX12_16 rfl (by first | rfl | exact pv_shx) (by omega) (by omega) (by decide) rfl (hP _ _ _ rfl) ?_
          refine g_iload_n dX12_clause_88 rfl ?_
          refine g_aload_n dX12_clause_89 rfl ?_
          refine n_getI dX12_clause_90 fdX12_246 rfl (by first | rfl | exact pv_shx) (by omega) (by omega) (by decide) rfl (by repeat (first | exact x11 | exact f26 | exact x9 | exact x10 | (apply rd_s; done) | apply rd_n (by omega) | apply rp_s | apply rp_n (by omega) | (apply rdL_s; done) | apply rdL_n (by omega) | apply rpJ_s | apply rpJ_n (by omega) | rfl)) ?_
          refine n_iast dX12_clause_93 (by first | rfl | exact pv_shx) (by omega) (by omega) (by omega) (by decide) (rfl) (by omega) (by repeat (first | exact pvu_s | exact pvuJ_s | apply pvu_in (by omega) | apply pvuJ_in (by omega) | exact pvu_pvs | exact pvuJ_pvs)) ?_
          refine g_aload_n dX12_clause_94 rfl ?_
          refine g_getP dX12_clause_95 fdX12_16 rfl (by first | rfl | exact pv_shx) (by omega) (by omega) (by decide) rfl (hP _ _ _ rfl) ?_
          refine g_iload_n dX12_clause_98 rfl ?_
          refine g_iconst (v := nI 4) dX12_clause_99 (by decide) ?_
          refine n_iadd dX12_clause_100 (by first | (with_reducible exact nI_add _ _) | rfl) ?_
          refine g_aload_n dX12_clause_101 rfl ?_
          refine n_getI dX12_clause_102 fdX12_222 rfl (by first | rfl | exact pv_shx) (by omega) (by omega) (by decide) rfl (by repeat (first | exact x11 | exact f26 | exact x9 | exact x10 | (apply rd_s; done) | apply rd_n (by omega) | apply rp_s | apply rp_n (by omega) | (apply rdL_s; done) | apply rdL_n (by omega) | apply rpJ_s | apply rpJ_n (by omega) | rfl)) ?_
          refine n_iast dX12_clause_105 (by first | rfl | exact pv_shx) (by omega) (by omega) (by omega) (by decide) (rfl) (by omega) (by repeat (first | exact pvu_s | exact pvuJ_s | apply pvu_in (by omega) | apply pvuJ_in (by omega) | exact pvu_pvs | exact pvuJ_pvs)) ?_
          refine g_aload_n dX12_clause_106 rfl ?_
          rw [pvs_comm (by decide : (205 : Nat) ≠ 202), hI1]
          refine g_callV (nx1) okX12_nextToken lkX12_249 rfl (by first | rfl | exact pv_shx) rfl (by omega) (by omega) dX12_clause_107 rfl (Nat.le_of_ble_eq_true rfl) (⟨by decide, by decide, by decide, by decide⟩) ?_
          rintro w nx' I2 J2 P' ⟨rfl, rfl, rfl, hq⟩
          exact g_drop _ (by repeat (first | exact trivial | refine ⟨Or.inr ⟨_, rfl⟩, ?_⟩ | refine ⟨Or.inl rfl, ?_⟩)) (beh I2 J2 hq)
        by_cases c4 : s = 2
        · skip
          refine pvMet.of _ (by decide) rfl (Nat.le_of_ble_eq_true rfl) ?_
          refine g_aload_n dX12_clause_0 rfl ?_
          refine g_aload_n dX12_clause_1 rfl ?_
          refine p_callV (so) okX12_sortOf lkX12_296 rfl (by first | rfl | exact pv_shx) rfl (by omega) (by omega) dX12_clause_2 rfl (Nat.le_of_ble_eq_true rfl) (⟨by decide, by decide, by decide, by decide⟩) ?_
          refine n_putI dX12_clause_5 fdX12_246 rfl (fun h => absurd h (by decide)) (by first | rfl | exact pv_shx) (by omega) (by omega) (by decide) rfl (by repeat (first | exact pvu_s | exact pvuJ_s | apply pvu_in (by omega) | apply pvuJ_in (by omega) | exact pvu_pvs | exact pvuJ_pvs)) ?_
          refine g_aload_n dX12_clause_8 rfl ?_
          refine n_getI dX12_clause_9 fdX12_246 rfl (by first | rfl | exact pv_shx) (by omega) (by omega) (by decide) rfl (by repeat (first | exact x11 | exact x9 | (apply rd_s; done) | apply rd_n (by omega) | apply rp_s | apply rp_n (by omega) | (apply rdL_s; done) | apply rdL_n (by omega) | apply rpJ_s | apply rpJ_n (by omega) | rfl)) ?_
          refine n_if_ne 17 dX12_clause_12 (by decide) (by first | (with_reducible exact cB _) | ((with_reducible apply cN_eq0) <;> omega) | exact Iff.rfl) (fun c12 => ?_) (fun c12 => by exfalso; first | omega | exact absurd trivial c12 | exact c12)
          refine g_aload_n dX12_clause_17 rfl ?_
          refine n_getI dX12_clause_18 fdX12_246 rfl (by first | rfl | exact pv_shx) (by omega) (by omega) (by decide) rfl (by repeat (first | exact x11 | exact x9 | (apply rd_s; done) | apply rd_n (by omega) | apply rp_s | apply rp_n (by omega) | (apply rdL_s; done) | apply rdL_n (by omega) | apply rpJ_s | apply rpJ_n (by omega) | rfl)) ?_
          refine g_iconst (v := nI 3) dX12_clause_21 (by decide) ?_
          refine n_icmp_eq 42 dX12_clause_22 (by decide) (by first | ((with_reducible apply cN_eq) <;> omega) | ((with_reducible apply cI_eqn) <;> omega) | exact Iff.rfl) (fun c22 => ?_) (fun c22 => by exfalso; first | omega | exact absurd trivial c22 | exact c22)
          refine g_aload_n dX12_clause_42 rfl ?_
          refine n_getI dX12_clause_43 fdX12_302 rfl (by first | rfl | exact pv_shx) (by omega) (by omega) (by decide) rfl (by repeat (first | exact x11 | exact x9 | (apply rd_s; done) | apply rd_n (by omega) | apply rp_s | apply rp_n (by omega) | (apply rdL_s; done) | apply rdL_n (by omega) | apply rpJ_s | apply rpJ_n (by omega) | rfl)) ?_
          refine g_bipush (v := nI 20) dX12_clause_46 (by decide) ?_
          refine n_icmp_ne 54 dX12_clause_48 (by decide) (by first | ((with_reducible apply cN_eq) <;> omega) | ((with_reducible apply cI_eqn) <;> omega) | exact Iff.rfl) (fun c48 => ?_) (fun c48 => by exfalso; first | omega | exact absurd trivial c48 | exact c48)
          exact g_drop _ (by repeat (first | exact trivial | refine ⟨Or.inr ⟨_, rfl⟩, ?_⟩ | refine ⟨Or.inl rfl, ?_⟩)) beg
        · have hb1 : ¬ camN cs / 2 ^ (s + 1) % 2 = 1 := fun z => c2 ⟨c4, hbit.mp z⟩
          refine pvMet.of _ (by decide) rfl (Nat.le_of_ble_eq_true rfl) ?_
          refine g_aload_n dX12_clause_0 rfl ?_
          refine g_aload_n dX12_clause_1 rfl ?_
          refine p_callV (so) okX12_sortOf lkX12_296 rfl (by first | rfl | exact pv_shx) rfl (by omega) (by omega) dX12_clause_2 rfl (Nat.le_of_ble_eq_true rfl) (⟨by decide, by decide, by decide, by decide⟩) ?_
          refine n_putI dX12_clause_5 fdX12_246 rfl (fun h => absurd h (by decide)) (by first | rfl | exact pv_shx) (by omega) (by omega) (by decide) rfl (by repeat (first | exact pvu_s | exact pvuJ_s | apply pvu_in (by omega) | apply pvuJ_in (by omega) | exact pvu_pvs | exact pvuJ_pvs)) ?_
          refine g_aload_n dX12_clause_8 rfl ?_
          refine n_getI dX12_clause_9 fdX12_246 rfl (by first | rfl | exact pv_shx) (by omega) (by omega) (by decide) rfl (by repeat (first | exact x11 | exact x9 | (apply rd_s; done) | apply rd_n (by omega) | apply rp_s | apply rp_n (by omega) | (apply rdL_s; done) | apply rdL_n (by omega) | apply rpJ_s | apply rpJ_n (by omega) | rfl)) ?_
          refine n_if_ne 17 dX12_clause_12 (by decide) (by first | (with_reducible exact cB _) | ((with_reducible apply cN_eq0) <;> omega) | exact Iff.rfl) (fun c12 => ?_) (fun c12 => by exfalso; first | omega | exact absurd trivial c12 | exact c12)
          refine g_aload_n dX12_clause_17 rfl ?_
          refine n_getI dX12_clause_18 fdX12_246 rfl (by first | rfl | exact pv_shx) (by omega) (by omega) (by decide) rfl (by repeat (first | exact x11 | exact x9 | (apply rd_s; done) | apply rd_n (by omega) | apply rp_s | apply rp_n (by omega) | (apply rdL_s; done) | apply rdL_n (by omega) | apply rpJ_s | apply rpJ_n (by omega) | rfl)) ?_
          refine g_iconst (v := nI 3) dX12_clause_21 (by decide) ?_
          refine n_icmp_eq 42 dX12_clause_22 (by decide) (by first | ((with_reducible apply cN_eq) <;> omega) | ((with_reducible apply cI_eqn) <;> omega) | exact Iff.rfl) (fun c22 => by exfalso; first | omega | exact absurd trivial c22 | exact c22) (fun c22 => ?_)
          refine g_aload_n dX12_clause_25 rfl ?_
          refine n_getI dX12_clause_26 fdX12_299 rfl (by first | rfl | exact pv_shx) (by omega) (by omega) (by decide) rfl (by repeat (first | exact x11 | exact x9 | (apply rd_s; done) | apply rd_n (by omega) | apply rp_s | apply rp_n (by omega) | (apply rdL_s; done) | apply rdL_n (by omega) | apply rpJ_s | apply rpJ_n (by omega) | rfl)) ?_
          refine g_aload_n dX12_clause_29 rfl ?_
          refine n_getI dX12_clause_30 fdX12_246 rfl (by first | rfl | exact pv_shx) (by omega) (by omega) (by decide) rfl (by repeat (first | exact x11 | exact x9 | (apply rd_s; done) | apply rd_n (by omega) | apply rp_s | apply rp_n (by omega) | (apply rdL_s; done) | apply rdL_n (by omega) | apply rpJ_s | apply rpJ_n (by omega) | rfl)) ?_
          refine n_ishr dX12_clause_33 (nI_shr (by omega) (by omega)) ?_
          refine g_iconst (v := nI 1) dX12_clause_34 (by decide) ?_
          refine n_iand dX12_clause_35 (nI_and1 (by omega)) ?_
          refine g_iconst (v := nI 1) dX12_clause_36 (by decide) ?_
          refine n_icmp_ne 42 dX12_clause_37 (by decide) (by first | ((with_reducible apply cN_eq) <;> omega) | ((with_reducible apply cI_eqn) <;> omega) | exact Iff.rfl) (fun c37 => ?_) (fun c37 => by exfalso; first | omega | exact absurd trivial c37 | exact c37)
          refine g_aload_n dX12_clause_42 rfl ?_
          refine n_getI dX12_clause_43 fdX12_302 rfl (by first | rfl | exact pv_shx) (by omega) (by omega) (by decide) rfl (by repeat (first | exact x11 | exact x9 | (apply rd_s; done) | apply rd_n (by omega) | apply rp_s | apply rp_n (by omega) | (apply rdL_s; done) | apply rdL_n (by omega) | apply rpJ_s | apply rpJ_n (by omega) | rfl)) ?_
          refine g_bipush (v := nI 20) dX12_clause_46 (by decide) ?_
          refine n_icmp_ne 54 dX12_clause_48 (by decide) (by first | ((with_reducible apply cN_eq) <;> omega) | ((with_reducible apply cI_eqn) <;> omega) | exact Iff.rfl) (fun c48 => ?_) (fun c48 => by exfalso; first | omega | exact absurd trivial c48 | exact c48)
          exact g_drop _ (by repeat (first | exact trivial | refine ⟨Or.inr ⟨_, rfl⟩, ?_⟩ | refine ⟨Or.inl rfl, ?_⟩)) beg
  · rw [if_neg c1] at so
    have hrd : rdC (tkK tx n) n cs k = .error (1, k) := by unfold rdC; rw [if_pos c1]
    refine pvMet.of _ (by decide) rfl (Nat.le_of_ble_eq_true rfl) ?_
    refine g_aload_n dX12_clause_0 rfl ?_
    refine g_aload_n dX12_clause_1 rfl ?_
    refine p_callV (so) okX12_sortOf lkX12_296 rfl (by first | rfl | exact pv_shx) rfl (by omega) (by omega) dX12_clause_2 rfl (Nat.le_of_ble_eq_true rfl) (⟨by decide, by decide, by decide, by decide⟩) ?_
    refine n_putI dX12_clause_5 fdX12_246 rfl (fun h => absurd h (by decide)) (by first | rfl | exact pv_shx) (by omega) (by omega) (by decide) rfl (by repeat (first | exact pvu_s | exact pvuJ_s | apply pvu_in (by omega) | apply pvuJ_in (by omega) | exact pvu_pvs | exact pvuJ_pvs)) ?_
    refine g_aload_n dX12_clause_8 rfl ?_
    refine n_getI dX12_clause_9 fdX12_246 rfl (by first | rfl | exact pv_shx) (by omega) (by omega) (by decide) rfl (by repeat (first | (apply rd_s; done) | apply rd_n (by omega) | apply rp_s | apply rp_n (by omega) | (apply rdL_s; done) | apply rdL_n (by omega) | apply rpJ_s | apply rpJ_n (by omega) | rfl)) ?_
    refine n_if_ne 17 dX12_clause_12 (by decide) (by first | (with_reducible exact cB _) | ((with_reducible apply cN_eq0) <;> omega) | exact Iff.rfl) (fun c12 => by exfalso; first | omega | exact absurd trivial c12 | exact c12) (fun c12 => ?_)
    refine g_iconst (v := nI 1) dX12_clause_15 (by decide) ?_
    exact g_iret dX12_clause_16 rfl (⟨rfl, rfl, by rw [hrd]; exact ⟨rfl, mfb _⟩⟩)
end MAC
