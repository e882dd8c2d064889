/-! model: rows on the pile and the code -/
section MP
variable {tx : Nat → Nat} {n t0 srt : Nat} {I0 : pvI} {J0 : pvJ} {I : pvI} {J : pvJ} {P : pvP} {k : Nat} {pl : List Nat} {op : Nat} {wh : Bool} {cd : List Nat}
def mSq (tx : Nat → Nat) (n t0 : Nat) (I0 : pvI) (J0 : pvJ) (P : pvP) (v0 : Option Value) (k : Nat) (pl : List Nat) (op : Nat) (wh : Bool) (cd : List Nat) : pvQT := pvq P (fun v I' J' => v = v0 ∧ mS tx n t0 I0 J0 I' J' k pl op wh cd)
def mS0 (tx : Nat → Nat) (n t0 srt : Nat) (I0 : pvI) : Prop := mTx tx n I0 ∧ I0 202 26 = nI t0 ∧ t0 ≤ 7200 ∧ I0 202 18 = nI (srt + 1) ∧ srt ≤ 3
theorem mS.tx' (h : mS tx n t0 I0 J0 I J k pl op wh cd) (h0 : mS0 tx n t0 srt I0) : mTx tx n I := ⟨by rw [h.ff 17 (by decide)]; exact h0.1.1, h0.1.2.1, fun i hi => by rw [h.fx 217 (by decide)]; exact h0.1.2.2 i hi⟩
theorem t_emit {o v : Int32} {x : Nat} (hP : pvOkP P) (h0 : mS0 tx n t0 srt I0) (h : mS tx n t0 I0 J0 I J k pl op wh cd) (hc : cd.length < 330) (ho : o = nI (itM x).1) (hv : v = nI (itM x).2) : pvMet mX12_emit 0 0 0 [.ref 202, .int o, .int v] 224 I J P (mSq tx n t0 I0 J0 P none k pl op wh (cd ++ [x])) := by
  have f26 : I 202 26 = nI t0 := by rw [h.ff 26 (by decide)]; exact h0.2.1
  have ht := h0.2.2.1
  have f28 := h.wr
  subst ho hv
  refine pvMet.of _ (by decide) rfl (Nat.le_of_ble_eq_true rfl) ?_
  refine g_aload_n dX12_emit_0 rfl ?_
  refine g_getP dX12_emit_1 fdX12_16 rfl (by first | rfl | exact pv_shx) (by omega) (by omega) (by decide) rfl (hP _ _ _ rfl) ?_
  refine g_aload_n dX12_emit_4 rfl ?_
  refine n_getI dX12_emit_5 fdX12_219 rfl (by first | rfl | exact pv_shx) (by omega) (by omega) (by decide) rfl (by repeat (first | exact f26 | exact f28 | (apply rd_s; done) | apply rd_n (by omega) | apply rp_s | apply rp_n (by omega) | (apply rdL_s; done) | apply rdL_n (by omega) | apply rpJ_s | apply rpJ_n (by omega) | rfl)) ?_
  refine g_sipush (v := nI 130) dX12_emit_8 (by decide) ?_
  refine n_iadd dX12_emit_11 (by first | (with_reducible exact nI_add _ _) | rfl) ?_
  refine g_iconst (v := nI 2) dX12_emit_12 (by decide) ?_
  refine g_aload_n dX12_emit_13 rfl ?_
  refine n_getI dX12_emit_14 fdX12_222 rfl (by first | rfl | exact pv_shx) (by omega) (by omega) (by decide) rfl (by repeat (first | exact f26 | exact f28 | (apply rd_s; done) | apply rd_n (by omega) | apply rp_s | apply rp_n (by omega) | (apply rdL_s; done) | apply rdL_n (by omega) | apply rpJ_s | apply rpJ_n (by omega) | rfl)) ?_
  refine n_imul dX12_emit_17 (by first | (with_reducible exact pk_mul _ _) | rfl) ?_
  refine n_iadd dX12_emit_18 (by first | (with_reducible exact nI_add _ _) | rfl) ?_
  refine g_iload_n dX12_emit_19 rfl ?_
  refine n_iast dX12_emit_20 (by first | rfl | exact pv_shx) (by omega) (by omega) (by omega) (by decide) (rfl) (by omega) (by repeat (first | exact pvu_s | exact pvuJ_s | apply pvu_in (by omega) | apply pvuJ_in (by omega) | exact pvu_pvs | exact pvuJ_pvs)) ?_
  refine g_aload_n dX12_emit_21 rfl ?_
  refine g_getP dX12_emit_22 fdX12_16 rfl (by first | rfl | exact pv_shx) (by omega) (by omega) (by decide) rfl (hP _ _ _ rfl) ?_
  refine g_aload_n dX12_emit_25 rfl ?_
  refine n_getI dX12_emit_26 fdX12_219 rfl (by first | rfl | exact pv_shx) (by omega) (by omega) (by decide) rfl (by repeat (first | exact f26 | exact f28 | (apply rd_s; done) | apply rd_n (by omega) | apply rp_s | apply rp_n (by omega) | (apply rdL_s; done) | apply rdL_n (by omega) | apply rpJ_s | apply rpJ_n (by omega) | rfl)) ?_
  refine g_sipush (v := nI 130) dX12_emit_29 (by decide) ?_
  refine n_iadd dX12_emit_32 (by first | (with_reducible exact nI_add _ _) | rfl) ?_
  refine g_iconst (v := nI 2) dX12_emit_33 (by decide) ?_
  refine g_aload_n dX12_emit_34 rfl ?_
  refine n_getI dX12_emit_35 fdX12_222 rfl (by first | rfl | exact pv_shx) (by omega) (by omega) (by decide) rfl (by repeat (first | exact f26 | exact f28 | (apply rd_s; done) | apply rd_n (by omega) | apply rp_s | apply rp_n (by omega) | (apply rdL_s; done) | apply rdL_n (by omega) | apply rpJ_s | apply rpJ_n (by omega) | rfl)) ?_
  refine n_imul dX12_emit_38 (by first | (with_reducible exact pk_mul _ _) | rfl) ?_
  refine n_iadd dX12_emit_39 (by first | (with_reducible exact nI_add _ _) | rfl) ?_
  refine g_iconst (v := nI 1) dX12_emit_40 (by decide) ?_
  refine n_iadd dX12_emit_41 (by first | (with_reducible exact nI_add _ _) | rfl) ?_
  refine g_iload_n dX12_emit_42 rfl ?_
  refine n_iast dX12_emit_43 (by first | rfl | exact pv_shx) (by omega) (by omega) (by omega) (by decide) (rfl) (by omega) (by repeat (first | exact pvu_s | exact pvuJ_s | apply pvu_in (by omega) | apply pvuJ_in (by omega) | exact pvu_pvs | exact pvuJ_pvs)) ?_
  refine g_aload_n dX12_emit_44 rfl ?_
  refine g_dup dX12_emit_45 rfl ?_
  refine n_getI dX12_emit_46 fdX12_222 rfl (by first | rfl | exact pv_shx) (by omega) (by omega) (by decide) rfl (by repeat (first | exact f26 | exact f28 | (apply rd_s; done) | apply rd_n (by omega) | apply rp_s | apply rp_n (by omega) | (apply rdL_s; done) | apply rdL_n (by omega) | apply rpJ_s | apply rpJ_n (by omega) | rfl)) ?_
  refine g_iconst (v := nI 1) dX12_emit_49 (by decide) ?_
  refine n_iadd dX12_emit_50 (by first | (with_reducible exact nI_add _ _) | rfl) ?_
  refine n_putI dX12_emit_51 fdX12_222 rfl (fun h => absurd h (by decide)) (by first | rfl | exact pv_shx) (by omega) (by omega) (by decide) rfl (by repeat (first | exact pvu_s | exact pvuJ_s | apply pvu_in (by omega) | apply pvuJ_in (by omega) | exact pvu_pvs | exact pvuJ_pvs)) ?_
  exact g_vret dX12_emit_54 rfl (⟨rfl, rfl, rfl, by rw [pvs_comm (by decide)]; exact h.emt hc x⟩)
theorem t_push {x : Nat} (hP : pvOkP P) (h : mS tx n t0 I0 J0 I J k pl op wh cd) (hc : pl.length < 160) : pvMet mX12_push 0 0 0 [.ref 202, .int (nI x)] 224 I J P (mSq tx n t0 I0 J0 P none k (x :: pl) op wh cd) := by
  have f31 := h.pd
  refine pvMet.of _ (by decide) rfl (Nat.le_of_ble_eq_true rfl) ?_
  refine g_aload_n dX12_push_0 rfl ?_
  refine g_getP dX12_push_1 fdX12_64 rfl (by first | rfl | exact pv_shx) (by omega) (by omega) (by decide) rfl (hP _ _ _ rfl) ?_
  refine g_aload_n dX12_push_4 rfl ?_
  refine n_getI dX12_push_5 fdX12_225 rfl (by first | rfl | exact pv_shx) (by omega) (by omega) (by decide) rfl (by repeat (first | exact f31 | (apply rd_s; done) | apply rd_n (by omega) | apply rp_s | apply rp_n (by omega) | (apply rdL_s; done) | apply rdL_n (by omega) | apply rpJ_s | apply rpJ_n (by omega) | rfl)) ?_
  refine g_iload_n dX12_push_8 rfl ?_
  refine n_iast dX12_push_9 (by first | rfl | exact pv_shx) (by omega) (by omega) (by omega) (by decide) (rfl) (by omega) (by repeat (first | exact pvu_s | exact pvuJ_s | apply pvu_in (by omega) | apply pvuJ_in (by omega) | exact pvu_pvs | exact pvuJ_pvs)) ?_
  refine g_aload_n dX12_push_10 rfl ?_
  refine g_dup dX12_push_11 rfl ?_
  refine n_getI dX12_push_12 fdX12_225 rfl (by first | rfl | exact pv_shx) (by omega) (by omega) (by decide) rfl (by repeat (first | exact f31 | (apply rd_s; done) | apply rd_n (by omega) | apply rp_s | apply rp_n (by omega) | (apply rdL_s; done) | apply rdL_n (by omega) | apply rpJ_s | apply rpJ_n (by omega) | rfl)) ?_
  refine g_iconst (v := nI 1) dX12_push_15 (by decide) ?_
  refine n_iadd dX12_push_16 (by first | (with_reducible exact nI_add _ _) | rfl) ?_
  refine n_putI dX12_push_17 fdX12_225 rfl (fun h => absurd h (by decide)) (by first | rfl | exact pv_shx) (by omega) (by omega) (by decide) rfl (by repeat (first | exact pvu_s | exact pvuJ_s | apply pvu_in (by omega) | apply pvuJ_in (by omega) | exact pvu_pvs | exact pvuJ_pvs)) ?_
  exact g_vret dX12_push_20 rfl (⟨rfl, rfl, rfl, by rw [pvs_comm (by decide)]; exact h.psh x⟩)
theorem t_nextP (hP : pvOkP P) (h0 : mS0 tx n t0 srt I0) (h : mS tx n t0 I0 J0 I J k pl op wh cd) : pvMet mX12_nextToken 2 0 0 [.ref 202] 224 I J P (mSq tx n t0 I0 J0 P none (k + 1) pl op wh cd) := by
  have := t_next (J := J) hP (h.tx' h0) h.at' (tkE_b (tkP_b k)).2.1
  exact this.weaken (fun v nx' I' J' P' hq => ⟨hq.1, hq.2.1, hq.2.2.1, h.nxt hq.2.2.2⟩)
theorem t_whole (hP : pvOkP P) (h0 : mS0 tx n t0 srt I0) (h : mS tx n t0 I0 J0 I J k pl op wh cd) (h1 : nOp pl ≤ op) (h2 : op ≤ 100) (h3 : pl.length ≤ 160) (h4 : cd.length + pl.length ≤ 320) (h5 : plV pl) : pvMet mX12_whole 1 0 0 [.ref 202] 224 I J P (mSq tx n t0 I0 J0 P none k (wEnd pl op cd).1 (wEnd pl op cd).2.1 true (wEnd pl op cd).2.2) := by
  generalize hZ : pvZ (mSq tx n t0 I0 J0 P none k (wEnd pl op cd).1 (wEnd pl op cd).2.1 true (wEnd pl op cd).2.2) 0 0 = Z
  have lp : ∀ (pl' : List Nat) op' cd' I1 J1, wEnd pl op cd = wEnd pl' op' cd' → mS tx n t0 I0 J0 I1 J1 k pl' op' true cd' → nOp pl' ≤ op' → op' ≤ 100 → pl'.length ≤ 160 → cd'.length + pl'.length ≤ 320 → plV pl' → pvG mX12_whole (pvR 1 0 0) Z 5 [.ref 202] [] 0 0 224 I1 J1 P := by
    intro pl'
    induction pl' with
    | nil =>
      intro op' cd' I1 J1 he hs g1 g2 g3 g4 gv
      have f31 := hs.pd
      have f31 : I1 202 31 = nI 0 := f31
      subst hZ
      rw [he]
      refine g_aload_n dX12_whole_5 rfl ?_
      refine n_getI dX12_whole_6 fdX12_225 rfl (by first | rfl | exact pv_shx) (by omega) (by omega) (by decide) rfl (by repeat (first | exact f31 | (apply rd_s; done) | apply rd_n (by omega) | apply rp_s | apply rp_n (by omega) | (apply rdL_s; done) | apply rdL_n (by omega) | apply rpJ_s | apply rpJ_n (by omega) | rfl)) ?_
      refine n_if_le 56 dX12_whole_9 (by decide) (by first | ((with_reducible apply cN_le0) <;> omega) | (with_reducible exact cI_le0)) (fun c9 => ?_) (fun c9 => by exfalso; first | omega | exact absurd trivial c9 | exact c9)
      exact g_vret dX12_whole_56 rfl (⟨rfl, rfl, rfl, hs⟩)
    | cons x r ih =>
      intro op' cd' I1 J1 he hs g1 g2 g3 g4 gv
      have f31 := hs.pd
      rw [List.length_cons] at f31 g3 g4
      have ftop := (plA_tl hs.pil).2
      have f32 := hs.ops
      have e1 : nOp (x :: r) = (if x = 2 ∨ x = 40 then 1 else 0) + nOp r := rfl
      by_cases c : x = 2
      · subst c
        rw [e1, if_pos (Or.inl rfl)] at g1
        have e2 : wEnd (2 :: r) op' cd' = wEnd r (op' - 1) (cd' ++ [40000]) := rfl
        rw [e2] at he
        have s2 := hs.pop.p32 (op' - 1)
        rw [pvs_eq, pvs_pvs] at s2
        have em := t_emit (P := P) (x := 40000) (o := nI 2) (v := nI 0) hP h0 s2 (by omega) rfl rfl
        refine g_aload_n dX12_whole_5 rfl ?_
        refine n_getI dX12_whole_6 fdX12_225 rfl (by first | rfl | exact pv_shx) (by omega) (by omega) (by decide) rfl (by repeat (first | exact f31 | exact ftop | exact f32 | (apply rd_s; done) | apply rd_n (by omega) | apply rp_s | apply rp_n (by omega) | (apply rdL_s; done) | apply rdL_n (by omega) | apply rpJ_s | apply rpJ_n (by omega) | rfl)) ?_
        refine n_if_le 56 dX12_whole_9 (by decide) (by first | ((with_reducible apply cN_le0) <;> omega) | (with_reducible exact cI_le0)) (fun c9 => by exfalso; first | omega | exact absurd trivial c9 | exact c9) (fun c9 => ?_)
        refine g_aload_n dX12_whole_12 rfl ?_
        refine g_getP dX12_whole_13 fdX12_64 rfl (by first | rfl | exact pv_shx) (by omega) (by omega) (by decide) rfl (hP _ _ _ rfl) ?_
        refine g_aload_n dX12_whole_16 rfl ?_
        refine n_getI dX12_whole_17 fdX12_225 rfl (by first | rfl | exact pv_shx) (by omega) (by omega) (by decide) rfl (by repeat (first | exact f31 | exact ftop | exact f32 | (apply rd_s; done) | apply rd_n (by omega) | apply rp_s | apply rp_n (by omega) | (apply rdL_s; done) | apply rdL_n (by omega) | apply rpJ_s | apply rpJ_n (by omega) | rfl)) ?_
        refine g_iconst (v := nI 1) dX12_whole_20 (by decide) ?_
        refine n_isub dX12_whole_21 (by first | ((with_reducible apply pk_sub) <;> omega) | rfl) ?_
        refine n_iald dX12_whole_22 (by first | rfl | exact pv_shx) (by omega) (by omega) (by decide) (rfl) (by omega) (by repeat (first | exact f31 | exact ftop | exact f32 | (apply rd_s; done) | apply rd_n (by omega) | apply rp_s | apply rp_n (by omega) | (apply rdL_s; done) | apply rdL_n (by omega) | apply rpJ_s | apply rpJ_n (by omega) | rfl)) ?_
        refine g_iconst (v := nI 2) dX12_whole_23 (by decide) ?_
        refine n_icmp_ne 56 dX12_whole_24 (by decide) (by first | ((with_reducible apply cN_eq) <;> omega) | ((with_reducible apply cI_eqn) <;> omega) | exact Iff.rfl) (fun c24 => by exfalso; first | omega | exact absurd trivial c24 | exact c24) (fun c24 => ?_)
        refine g_aload_n dX12_whole_27 rfl ?_
        refine g_dup dX12_whole_28 rfl ?_
        refine n_getI dX12_whole_29 fdX12_225 rfl (by first | rfl | exact pv_shx) (by omega) (by omega) (by decide) rfl (by repeat (first | exact f31 | exact ftop | exact f32 | (apply rd_s; done) | apply rd_n (by omega) | apply rp_s | apply rp_n (by omega) | (apply rdL_s; done) | apply rdL_n (by omega) | apply rpJ_s | apply rpJ_n (by omega) | rfl)) ?_
        refine g_iconst (v := nI 1) dX12_whole_32 (by decide) ?_
        refine n_isub dX12_whole_33 (by first | ((with_reducible apply pk_sub) <;> omega) | rfl) ?_
        refine n_putI dX12_whole_34 fdX12_225 rfl (fun h => absurd h (by decide)) (by first | rfl | exact pv_shx) (by omega) (by omega) (by decide) rfl (by repeat (first | exact pvu_s | exact pvuJ_s | apply pvu_in (by omega) | apply pvuJ_in (by omega) | exact pvu_pvs | exact pvuJ_pvs)) ?_
        refine g_aload_n dX12_whole_37 rfl ?_
        refine g_dup dX12_whole_38 rfl ?_
        refine n_getI dX12_whole_39 fdX12_232 rfl (by first | rfl | exact pv_shx) (by omega) (by omega) (by decide) rfl (by repeat (first | exact f31 | exact ftop | exact f32 | (apply rd_s; done) | apply rd_n (by omega) | apply rp_s | apply rp_n (by omega) | (apply rdL_s; done) | apply rdL_n (by omega) | apply rpJ_s | apply rpJ_n (by omega) | rfl)) ?_
        refine g_iconst (v := nI 1) dX12_whole_42 (by decide) ?_
        refine n_isub dX12_whole_43 (by first | ((with_reducible apply pk_sub) <;> omega) | rfl) ?_
        refine n_putI dX12_whole_44 fdX12_232 rfl (fun h => absurd h (by decide)) (by first | rfl | exact pv_shx) (by omega) (by omega) (by decide) rfl (by repeat (first | exact pvu_s | exact pvuJ_s | apply pvu_in (by omega) | apply pvuJ_in (by omega) | exact pvu_pvs | exact pvuJ_pvs)) ?_
        refine g_aload_n dX12_whole_47 rfl ?_
        refine g_iconst (v := nI 2) dX12_whole_48 (by decide) ?_
        refine g_iconst (v := nI 0) dX12_whole_49 (by decide) ?_
        refine g_callV (em) okX12_emit lkX12_235 rfl (by first | rfl | exact pv_shx) rfl (by omega) (by omega) dX12_whole_50 rfl (Nat.le_of_ble_eq_true rfl) (⟨by decide, by decide, by decide, by decide⟩) ?_
        rintro v nx' I2 J2 P' ⟨rfl, rfl, rfl, s3⟩
        refine g_goto 5 dX12_whole_53 (by decide) ?_
        exact ih (op' - 1) (cd' ++ [40000]) I2 J2 he s3 (by omega) (by omega) (by omega) (by rw [List.length_append, List.length_singleton]; omega) (fun y hy => gv y (List.mem_cons_of_mem _ hy))
      · have e2 : wEnd (x :: r) op' cd' = (x :: r, op', cd') := if_neg c
        rw [e2] at he
        have hx := gv x (List.mem_cons_self ..)
        subst hZ
        rw [he]
        refine g_aload_n dX12_whole_5 rfl ?_
        refine n_getI dX12_whole_6 fdX12_225 rfl (by first | rfl | exact pv_shx) (by omega) (by omega) (by decide) rfl (by repeat (first | exact f31 | exact ftop | (apply rd_s; done) | apply rd_n (by omega) | apply rp_s | apply rp_n (by omega) | (apply rdL_s; done) | apply rdL_n (by omega) | apply rpJ_s | apply rpJ_n (by omega) | rfl)) ?_
        refine n_if_le 56 dX12_whole_9 (by decide) (by first | ((with_reducible apply cN_le0) <;> omega) | (with_reducible exact cI_le0)) (fun c9 => by exfalso; first | omega | exact absurd trivial c9 | exact c9) (fun c9 => ?_)
        refine g_aload_n dX12_whole_12 rfl ?_
        refine g_getP dX12_whole_13 fdX12_64 rfl (by first | rfl | exact pv_shx) (by omega) (by omega) (by decide) rfl (hP _ _ _ rfl) ?_
        refine g_aload_n dX12_whole_16 rfl ?_
        refine n_getI dX12_whole_17 fdX12_225 rfl (by first | rfl | exact pv_shx) (by omega) (by omega) (by decide) rfl (by repeat (first | exact f31 | exact ftop | (apply rd_s; done) | apply rd_n (by omega) | apply rp_s | apply rp_n (by omega) | (apply rdL_s; done) | apply rdL_n (by omega) | apply rpJ_s | apply rpJ_n (by omega) | rfl)) ?_
        refine g_iconst (v := nI 1) dX12_whole_20 (by decide) ?_
        refine n_isub dX12_whole_21 (by first | ((with_reducible apply pk_sub) <;> omega) | rfl) ?_
        refine n_iald dX12_whole_22 (by first | rfl | exact pv_shx) (by omega) (by omega) (by decide) (rfl) (by omega) (by repeat (first | exact f31 | exact ftop | (apply rd_s; done) | apply rd_n (by omega) | apply rp_s | apply rp_n (by omega) | (apply rdL_s; done) | apply rdL_n (by omega) | apply rpJ_s | apply rpJ_n (by omega) | rfl)) ?_
        refine g_iconst (v := nI 2) dX12_whole_23 (by decide) ?_
        refine n_icmp_ne 56 dX12_whole_24 (by decide) (by first | ((with_reducible apply cN_eq) <;> omega) | ((with_reducible apply cI_eqn) <;> omega) | exact Iff.rfl) (fun c24 => ?_) (fun c24 => by exfalso; first | omega | exact absurd trivial c24 | exact c24)
        exact g_vret dX12_whole_56 rfl (⟨rfl, rfl, rfl, hs⟩)
  refine pvMet.of _ (by decide) rfl (Nat.le_of_ble_eq_true rfl) ?_
  rw [hZ]
  have s1 := h.p33 true
  refine g_aload_n dX12_whole_0 rfl ?_
  refine g_iconst (v := nI 1) dX12_whole_1 (by decide) ?_
  refine n_putZ (by first | exact Or.inl rfl | exact Or.inr rfl | exact cB01 _) dX12_whole_2 fdX12_228 rfl (fun h => absurd h (by decide)) (by first | rfl | exact pv_shx) (by omega) (by omega) (by decide) rfl (by repeat (first | exact pvu_s | exact pvuJ_s | apply pvu_in (by omega) | apply pvuJ_in (by omega) | exact pvu_pvs | exact pvuJ_pvs)) ?_
  exact lp pl op cd _ _ rfl s1 h1 h2 h3 h4 h5
theorem itM_op {x : Nat} (h3 : 3 ≤ x) (h6 : x ≤ 6) : itM (opI x) = (x, 0) := by
  obtain rfl | rfl | rfl | rfl : x = 3 ∨ x = 4 ∨ x = 5 ∨ x = 6 := by omega
  all_goals rfl
theorem t_settle {le : Nat} (hP : pvOkP P) (h0 : mS0 tx n t0 srt I0) (h : mS tx n t0 I0 J0 I J k pl op wh cd) (hle : 3 ≤ le ∧ le ≤ 10) (h3 : pl.length ≤ 160) (h4 : cd.length + pl.length ≤ 320) (h5 : plV pl) : pvMet mX12_settle 1 0 0 [.ref 202, .int (nI le)] 224 I J P (mSq tx n t0 I0 J0 P none k (stl le pl cd).1 op wh (stl le pl cd).2) := by
  generalize hZ : pvZ (mSq tx n t0 I0 J0 P none k (stl le pl cd).1 op wh (stl le pl cd).2) 0 0 = Z
  have lp : ∀ (pl' : List Nat) cd' I1 J1, stl le pl cd = stl le pl' cd' → mS tx n t0 I0 J0 I1 J1 k pl' op wh cd' → pl'.length ≤ 160 → cd'.length + pl'.length ≤ 320 → plV pl' → pvG mX12_settle (pvR 1 0 0) Z 0 [.ref 202, .int (nI le)] [] 0 0 224 I1 J1 P := by
    intro pl'
    induction pl' with
    | nil =>
      intro cd' I1 J1 he hs g3 g4 gv
      have f31 : I1 202 31 = nI 0 := hs.pd
      subst hZ
      rw [he]
      refine g_aload_n dX12_settle_0 rfl ?_
      refine n_getI dX12_settle_1 fdX12_225 rfl (by first | rfl | exact pv_shx) (by omega) (by omega) (by decide) rfl (by repeat (first | exact f31 | (apply rd_s; done) | apply rd_n (by omega) | apply rp_s | apply rp_n (by omega) | (apply rdL_s; done) | apply rdL_n (by omega) | apply rpJ_s | apply rpJ_n (by omega) | rfl)) ?_
      refine n_if_le 65 dX12_settle_4 (by decide) (by first | ((with_reducible apply cN_le0) <;> omega) | (with_reducible exact cI_le0)) (fun c4 => ?_) (fun c4 => by exfalso; first | omega | exact absurd trivial c4 | exact c4)
      exact g_vret dX12_settle_65 rfl (⟨rfl, rfl, rfl, hs⟩)
    | cons x r ih =>
      intro cd' I1 J1 he hs g3 g4 gv
      have f31 := hs.pd
      rw [List.length_cons] at f31 g3 g4
      have ftop := (plA_tl hs.pil).2
      have hx := gv x (List.mem_cons_self ..)
      by_cases c : le ≤ x ∧ x < 40
      · have e2 : stl le (x :: r) cd' = stl le r (cd' ++ [opI x]) := if_pos c
        rw [e2] at he
        have hio := itM_op (x := x) (by omega) (by omega)
        have em := t_emit (P := P) (x := opI x) (o := nI x) (v := nI 0) hP h0 hs.pop (by omega) (by rw [hio]) (by rw [hio])
        refine g_aload_n dX12_settle_0 rfl ?_
        refine n_getI dX12_settle_1 fdX12_225 rfl (by first | rfl | exact pv_shx) (by omega) (by omega) (by decide) rfl (by repeat (first | exact f31 | exact ftop | (apply rd_s; done) | apply rd_n (by omega) | apply rp_s | apply rp_n (by omega) | (apply rdL_s; done) | apply rdL_n (by omega) | apply rpJ_s | apply rpJ_n (by omega) | rfl)) ?_
        refine n_if_le 65 dX12_settle_4 (by decide) (by first | ((with_reducible apply cN_le0) <;> omega) | (with_reducible exact cI_le0)) (fun c4 => by exfalso; first | omega | exact absurd trivial c4 | exact c4) (fun c4 => ?_)
        refine g_aload_n dX12_settle_7 rfl ?_
        refine g_getP dX12_settle_8 fdX12_64 rfl (by first | rfl | exact pv_shx) (by omega) (by omega) (by decide) rfl (hP _ _ _ rfl) ?_
        refine g_aload_n dX12_settle_11 rfl ?_
        refine n_getI dX12_settle_12 fdX12_225 rfl (by first | rfl | exact pv_shx) (by omega) (by omega) (by decide) rfl (by repeat (first | exact f31 | exact ftop | (apply rd_s; done) | apply rd_n (by omega) | apply rp_s | apply rp_n (by omega) | (apply rdL_s; done) | apply rdL_n (by omega) | apply rpJ_s | apply rpJ_n (by omega) | rfl)) ?_
        refine g_iconst (v := nI 1) dX12_settle_15 (by decide) ?_
        refine n_isub dX12_settle_16 (by first | ((with_reducible apply pk_sub) <;> omega) | rfl) ?_
        refine n_iald dX12_settle_17 (by first | rfl | exact pv_shx) (by omega) (by omega) (by decide) (rfl) (by omega) (by repeat (first | exact f31 | exact ftop | (apply rd_s; done) | apply rd_n (by omega) | apply rp_s | apply rp_n (by omega) | (apply rdL_s; done) | apply rdL_n (by omega) | apply rpJ_s | apply rpJ_n (by omega) | rfl)) ?_
        refine g_bipush (v := nI 40) dX12_settle_18 (by decide) ?_
        refine n_icmp_ge 65 dX12_settle_20 (by decide) (by first | ((with_reducible apply cN_le) <;> omega) | ((with_reducible apply cI_len) <;> omega) | ((with_reducible apply cI_nle) <;> omega) | (with_reducible exact cI_le)) (fun c20 => by exfalso; first | omega | exact absurd trivial c20 | exact c20) (fun c20 => ?_)
        refine g_aload_n dX12_settle_23 rfl ?_
        refine g_getP dX12_settle_24 fdX12_64 rfl (by first | rfl | exact pv_shx) (by omega) (by omega) (by decide) rfl (hP _ _ _ rfl) ?_
        refine g_aload_n dX12_settle_27 rfl ?_
        refine n_getI dX12_settle_28 fdX12_225 rfl (by first | rfl | exact pv_shx) (by omega) (by omega) (by decide) rfl (by repeat (first | exact f31 | exact ftop | (apply rd_s; done) | apply rd_n (by omega) | apply rp_s | apply rp_n (by omega) | (apply rdL_s; done) | apply rdL_n (by omega) | apply rpJ_s | apply rpJ_n (by omega) | rfl)) ?_
        refine g_iconst (v := nI 1) dX12_settle_31 (by decide) ?_
        refine n_isub dX12_settle_32 (by first | ((with_reducible apply pk_sub) <;> omega) | rfl) ?_
        refine n_iald dX12_settle_33 (by first | rfl | exact pv_shx) (by omega) (by omega) (by decide) (rfl) (by omega) (by repeat (first | exact f31 | exact ftop | (apply rd_s; done) | apply rd_n (by omega) | apply rp_s | apply rp_n (by omega) | (apply rdL_s; done) | apply rdL_n (by omega) | apply rpJ_s | apply rpJ_n (by omega) | rfl)) ?_
        refine g_iload_n dX12_settle_34 rfl ?_
        refine n_icmp_lt 65 dX12_settle_35 (by decide) (by first | ((with_reducible apply cN_lt) <;> omega) | ((with_reducible apply cI_ltn) <;> omega) | ((with_reducible apply cI_nlt) <;> omega) | (with_reducible exact cI_lt)) (fun c35 => by exfalso; first | omega | exact absurd trivial c35 | exact c35) (fun c35 => ?_)
        refine g_aload_n dX12_settle_38 rfl ?_
        refine g_dup dX12_settle_39 rfl ?_
        refine n_getI dX12_settle_40 fdX12_225 rfl (by first | rfl | exact pv_shx) (by omega) (by omega) (by decide) rfl (by repeat (first | exact f31 | exact ftop | (apply rd_s; done) | apply rd_n (by omega) | apply rp_s | apply rp_n (by omega) | (apply rdL_s; done) | apply rdL_n (by omega) | apply rpJ_s | apply rpJ_n (by omega) | rfl)) ?_
        refine g_iconst (v := nI 1) dX12_settle_43 (by decide) ?_
        refine n_isub dX12_settle_44 (by first | ((with_reducible apply pk_sub) <;> omega) | rfl) ?_
        refine n_putI dX12_settle_45 fdX12_225 rfl (fun h => absurd h (by decide)) (by first | rfl | exact pv_shx) (by omega) (by omega) (by decide) rfl (by repeat (first | exact pvu_s | exact pvuJ_s | apply pvu_in (by omega) | apply pvuJ_in (by omega) | exact pvu_pvs | exact pvuJ_pvs)) ?_
        refine g_aload_n dX12_settle_48 rfl ?_
        refine g_aload_n dX12_settle_49 rfl ?_
        refine g_getP dX12_settle_50 fdX12_64 rfl (by first | rfl | exact pv_shx) (by omega) (by omega) (by decide) rfl (hP _ _ _ rfl) ?_
        refine g_aload_n dX12_settle_53 rfl ?_
        refine n_getI dX12_settle_54 fdX12_225 rfl (by first | rfl | exact pv_shx) (by omega) (by omega) (by decide) rfl (by repeat (first | exact f31 | exact ftop | (apply rd_s; done) | apply rd_n (by omega) | apply rp_s | apply rp_n (by omega) | (apply rdL_s; done) | apply rdL_n (by omega) | apply rpJ_s | apply rpJ_n (by omega) | rfl)) ?_
        refine n_iald dX12_settle_57 (by first | rfl | exact pv_shx) (by omega) (by omega) (by decide) (rfl) (by omega) (by repeat (first | exact f31 | exact ftop | (apply rd_s; done) | apply rd_n (by omega) | apply rp_s | apply rp_n (by omega) | (apply rdL_s; done) | apply rdL_n (by omega) | apply rpJ_s | apply rpJ_n (by omega) | rfl)) ?_
        refine g_iconst (v := nI 0) dX12_settle_58 (by decide) ?_
        refine g_callV (em) okX12_emit lkX12_235 rfl (by first | rfl | exact pv_shx) rfl (by omega) (by omega) dX12_settle_59 rfl (Nat.le_of_ble_eq_true rfl) (⟨by decide, by decide, by decide, by decide⟩) ?_
        rintro v nx' I2 J2 P' ⟨rfl, rfl, rfl, s3⟩
        refine g_goto 0 dX12_settle_62 (by decide) ?_
        exact ih (cd' ++ [opI x]) I2 J2 he s3 (by omega) (by rw [List.length_append, List.length_singleton]; omega) (fun y hy => gv y (List.mem_cons_of_mem _ hy))
      · have e2 : stl le (x :: r) cd' = (x :: r, cd') := if_neg c
        rw [e2] at he
        subst hZ
        rw [he]
        refine g_aload_n dX12_settle_0 rfl ?_
        refine n_getI dX12_settle_1 fdX12_225 rfl (by first | rfl | exact pv_shx) (by omega) (by omega) (by decide) rfl (by repeat (first | exact f31 | exact ftop | (apply rd_s; done) | apply rd_n (by omega) | apply rp_s | apply rp_n (by omega) | (apply rdL_s; done) | apply rdL_n (by omega) | apply rpJ_s | apply rpJ_n (by omega) | rfl)) ?_
        refine n_if_le 65 dX12_settle_4 (by decide) (by first | ((with_reducible apply cN_le0) <;> omega) | (with_reducible exact cI_le0)) (fun c4 => by exfalso; first | omega | exact absurd trivial c4 | exact c4) (fun c4 => ?_)
        refine g_aload_n dX12_settle_7 rfl ?_
        refine g_getP dX12_settle_8 fdX12_64 rfl (by first | rfl | exact pv_shx) (by omega) (by omega) (by decide) rfl (hP _ _ _ rfl) ?_
        refine g_aload_n dX12_settle_11 rfl ?_
        refine n_getI dX12_settle_12 fdX12_225 rfl (by first | rfl | exact pv_shx) (by omega) (by omega) (by decide) rfl (by repeat (first | exact f31 | exact ftop | (apply rd_s; done) | apply rd_n (by omega) | apply rp_s | apply rp_n (by omega) | (apply rdL_s; done) | apply rdL_n (by omega) | apply rpJ_s | apply rpJ_n (by omega) | rfl)) ?_
        refine g_iconst (v := nI 1) dX12_settle_15 (by decide) ?_
        refine n_isub dX12_settle_16 (by first | ((with_reducible apply pk_sub) <;> omega) | rfl) ?_
        refine n_iald dX12_settle_17 (by first | rfl | exact pv_shx) (by omega) (by omega) (by decide) (rfl) (by omega) (by repeat (first | exact f31 | exact ftop | (apply rd_s; done) | apply rd_n (by omega) | apply rp_s | apply rp_n (by omega) | (apply rdL_s; done) | apply rdL_n (by omega) | apply rpJ_s | apply rpJ_n (by omega) | rfl)) ?_
        refine g_bipush (v := nI 40) dX12_settle_18 (by decide) ?_
        refine n_icmp_ge 65 dX12_settle_20 (by decide) (by first | ((with_reducible apply cN_le) <;> omega) | ((with_reducible apply cI_len) <;> omega) | ((with_reducible apply cI_nle) <;> omega) | (with_reducible exact cI_le)) (fun c20 => ?_) (fun c20 => ?_)
        · skip
          exact g_vret dX12_settle_65 rfl (⟨rfl, rfl, rfl, hs⟩)
        · skip
          refine g_aload_n dX12_settle_23 rfl ?_
          refine g_getP dX12_settle_24 fdX12_64 rfl (by first | rfl | exact pv_shx) (by omega) (by omega) (by decide) rfl (hP _ _ _ rfl) ?_
          refine g_aload_n dX12_settle_27 rfl ?_
          refine n_getI dX12_settle_28 fdX12_225 rfl (by first | rfl | exact pv_shx) (by omega) (by omega) (by decide) rfl (by repeat (first | exact f31 | exact ftop | (apply rd_s; done) | apply rd_n (by omega) | apply rp_s | apply rp_n (by omega) | (apply rdL_s; done) | apply rdL_n (by omega) | apply rpJ_s | apply rpJ_n (by omega) | rfl)) ?_
          refine g_iconst (v := nI 1) dX12_settle_31 (by decide) ?_
          refine n_isub dX12_settle_32 (by first | ((with_reducible apply pk_sub) <;> omega) | rfl) ?_
          refine n_iald dX12_settle_33 (by first | rfl | exact pv_shx) (by omega) (by omega) (by decide) (rfl) (by omega) (by repeat (first | exact f31 | exact ftop | (apply rd_s; done) | apply rd_n (by omega) | apply rp_s | apply rp_n (by omega) | (apply rdL_s; done) | apply rdL_n (by omega) | apply rpJ_s | apply rpJ_n (by omega) | rfl)) ?_
          refine g_iload_n dX12_settle_34 rfl ?_
          refine n_icmp_lt 65 dX12_settle_35 (by decide) (by first | ((with_reducible apply cN_lt) <;> omega) | ((with_reducible apply cI_ltn) <;> omega) | ((with_reducible apply cI_nlt) <;> omega) | (with_reducible exact cI_lt)) (fun c35 => ?_) (fun c35 => ?_)
          · skip
            exact g_vret dX12_settle_65 rfl (⟨rfl, rfl, rfl, hs⟩)
          · skip
            exfalso; omega
  refine pvMet.of _ (by decide) rfl (Nat.le_of_ble_eq_true rfl) ?_
  rw [hZ]
  exact lp pl cd _ _ rfl h h3 h4 h5
theorem t_hasParen (hP : pvOkP P) (h : mS tx n t0 I0 J0 I J k pl op wh cd) (h3 : pl.length ≤ 160) (h5 : plV pl) : pvMet mX12_hasParen 0 0 0 [.ref 202] 224 I J P (pvpu (.int (if 40 ∈ pl then 1 else 0)) 224 I J P) := by
  have f31 := h.pd
  have lp : ∀ q i, i + q = pl.length → (∀ j, j < i → pl.getD (pl.length - 1 - j) 0 ≠ 40) → pvG mX12_hasParen (pvR 0 0 0) (pvZ (pvpu (.int (if 40 ∈ pl then 1 else 0)) 224 I J P) 0 0) 2 [.ref 202, .int (nI i)] [] 0 0 224 I J P := by
    intro q
    induction q with
    | zero =>
      intro i hi hno
      have hn : ¬ 40 ∈ pl := fun hm => by
        obtain ⟨j, hj, he⟩ := List.mem_iff_getElem.mp hm
        have := hno (pl.length - 1 - j) (by omega)
        rw [show pl.length - 1 - (pl.length - 1 - j) = j by omega] at this
        apply this
        simp [List.getD, hj, he]
      rw [if_neg hn]
      refine g_iload_n dX12_hasParen_2 rfl ?_
      refine g_aload_n dX12_hasParen_3 rfl ?_
      refine n_getI dX12_hasParen_4 fdX12_225 rfl (by first | rfl | exact pv_shx) (by omega) (by omega) (by decide) rfl (by repeat (first | exact f31 | (apply rd_s; done) | apply rd_n (by omega) | apply rp_s | apply rp_n (by omega) | (apply rdL_s; done) | apply rdL_n (by omega) | apply rpJ_s | apply rpJ_n (by omega) | rfl)) ?_
      refine n_icmp_ge 29 dX12_hasParen_7 (by decide) (by first | ((with_reducible apply cN_le) <;> omega) | ((with_reducible apply cI_len) <;> omega) | ((with_reducible apply cI_nle) <;> omega) | (with_reducible exact cI_le)) (fun c7 => ?_) (fun c7 => by exfalso; first | omega | exact absurd trivial c7 | exact c7)
      refine g_iconst (v := nI 0) dX12_hasParen_29 (by decide) ?_
      exact g_zret (by first | exact Or.inl rfl | exact Or.inr rfl | exact cB01 _) dX12_hasParen_30 rfl (⟨rfl, rfl, rfl, rfl, rfl⟩)
    | succ q ih =>
      intro i hi hno
      have fi := h.pil i (by omega)
      have hv : pl.getD (pl.length - 1 - i) 0 ∈ pl := by
        have hl : pl.length - 1 - i < pl.length := by omega
        simp [List.getD, hl]
      have hb := h5 _ hv
      by_cases c : pl.getD (pl.length - 1 - i) 0 = 40
      · rw [if_pos (by rw [c] at hv; exact hv)]
        refine g_iload_n dX12_hasParen_2 rfl ?_
        refine g_aload_n dX12_hasParen_3 rfl ?_
        refine n_getI dX12_hasParen_4 fdX12_225 rfl (by first | rfl | exact pv_shx) (by omega) (by omega) (by decide) rfl (by repeat (first | exact f31 | exact fi | (apply rd_s; done) | apply rd_n (by omega) | apply rp_s | apply rp_n (by omega) | (apply rdL_s; done) | apply rdL_n (by omega) | apply rpJ_s | apply rpJ_n (by omega) | rfl)) ?_
        refine n_icmp_ge 29 dX12_hasParen_7 (by decide) (by first | ((with_reducible apply cN_le) <;> omega) | ((with_reducible apply cI_len) <;> omega) | ((with_reducible apply cI_nle) <;> omega) | (with_reducible exact cI_le)) (fun c7 => by exfalso; first | omega | exact absurd trivial c7 | exact c7) (fun c7 => ?_)
        refine g_aload_n dX12_hasParen_10 rfl ?_
        refine g_getP dX12_hasParen_11 fdX12_64 rfl (by first | rfl | exact pv_shx) (by omega) (by omega) (by decide) rfl (hP _ _ _ rfl) ?_
        refine g_iload_n dX12_hasParen_14 rfl ?_
        refine n_iald dX12_hasParen_15 (by first | rfl | exact pv_shx) (by omega) (by omega) (by decide) (rfl) (by omega) (by repeat (first | exact f31 | exact fi | (apply rd_s; done) | apply rd_n (by omega) | apply rp_s | apply rp_n (by omega) | (apply rdL_s; done) | apply rdL_n (by omega) | apply rpJ_s | apply rpJ_n (by omega) | rfl)) ?_
        refine g_bipush (v := nI 40) dX12_hasParen_16 (by decide) ?_
        refine n_icmp_ne 23 dX12_hasParen_18 (by decide) (by first | ((with_reducible apply cN_eq) <;> omega) | ((with_reducible apply cI_eqn) <;> omega) | exact Iff.rfl) (fun c18 => by exfalso; first | omega | exact absurd trivial c18 | exact c18) (fun c18 => ?_)
        refine g_iconst (v := nI 1) dX12_hasParen_21 (by decide) ?_
        exact g_zret (by first | exact Or.inl rfl | exact Or.inr rfl | exact cB01 _) dX12_hasParen_22 rfl (⟨rfl, rfl, rfl, rfl, rfl⟩)
      · have h4 := ih (i + 1) (by omega) (fun j hj => by
          by_cases e : j = i
          · subst e; exact c
          · exact hno j (by omega))
        refine g_iload_n dX12_hasParen_2 rfl ?_
        refine g_aload_n dX12_hasParen_3 rfl ?_
        refine n_getI dX12_hasParen_4 fdX12_225 rfl (by first | rfl | exact pv_shx) (by omega) (by omega) (by decide) rfl (by repeat (first | exact f31 | exact fi | (apply rd_s; done) | apply rd_n (by omega) | apply rp_s | apply rp_n (by omega) | (apply rdL_s; done) | apply rdL_n (by omega) | apply rpJ_s | apply rpJ_n (by omega) | rfl)) ?_
        refine n_icmp_ge 29 dX12_hasParen_7 (by decide) (by first | ((with_reducible apply cN_le) <;> omega) | ((with_reducible apply cI_len) <;> omega) | ((with_reducible apply cI_nle) <;> omega) | (with_reducible exact cI_le)) (fun c7 => by exfalso; first | omega | exact absurd trivial c7 | exact c7) (fun c7 => ?_)
        refine g_aload_n dX12_hasParen_10 rfl ?_
        refine g_getP dX12_hasParen_11 fdX12_64 rfl (by first | rfl | exact pv_shx) (by omega) (by omega) (by decide) rfl (hP _ _ _ rfl) ?_
        refine g_iload_n dX12_hasParen_14 rfl ?_
        refine n_iald dX12_hasParen_15 (by first | rfl | exact pv_shx) (by omega) (by omega) (by decide) (rfl) (by omega) (by repeat (first | exact f31 | exact fi | (apply rd_s; done) | apply rd_n (by omega) | apply rp_s | apply rp_n (by omega) | (apply rdL_s; done) | apply rdL_n (by omega) | apply rpJ_s | apply rpJ_n (by omega) | rfl)) ?_
        refine g_bipush (v := nI 40) dX12_hasParen_16 (by decide) ?_
        refine n_icmp_ne 23 dX12_hasParen_18 (by decide) (by first | ((with_reducible apply cN_eq) <;> omega) | ((with_reducible apply cI_eqn) <;> omega) | exact Iff.rfl) (fun c18 => ?_) (fun c18 => by exfalso; first | omega | exact absurd trivial c18 | exact c18)
        refine g_iinc dX12_hasParen_23 rfl (by first | (with_reducible exact nI_1 _) | exact nI_1 _ | exact pk_m1 _ | rfl) (by decide) rfl ?_
        refine g_goto 2 dX12_hasParen_26 (by decide) ?_
        exact h4
  refine pvMet.of _ (by decide) rfl (Nat.le_of_ble_eq_true rfl) ?_
  refine g_iconst (v := nI 0) dX12_hasParen_0 (by decide) ?_
  refine g_istore_n dX12_hasParen_1 (by decide) rfl ?_
  exact lp pl.length 0 (by omega) (fun j hj => absurd hj (Nat.not_lt_zero j))
end MP
