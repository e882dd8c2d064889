/-! model: one, and what stands behind it -/
theorem stl_len {le : Nat} : ∀ {pl cd : List Nat}, (stl le pl cd).1.length + (stl le pl cd).2.length = pl.length + cd.length ∧ (stl le pl cd).1.length ≤ pl.length
  | [], cd => ⟨rfl, Nat.le_refl _⟩
  | x :: r, cd => by
    have e : stl le (x :: r) cd = if le ≤ x ∧ x < 40 then stl le r (cd ++ [opI x]) else (x :: r, cd) := rfl
    rw [e]
    split
    · have := stl_len (le := le) (pl := r) (cd := cd ++ [opI x])
      rw [List.length_append, List.length_singleton] at this
      rw [List.length_cons]
      omega
    · exact ⟨rfl, Nat.le_refl _⟩
theorem stl_V {le : Nat} : ∀ {pl cd : List Nat}, plV pl → plV (stl le pl cd).1
  | [], cd, h => h
  | x :: r, cd, h => by
    have e : stl le (x :: r) cd = if le ≤ x ∧ x < 40 then stl le r (cd ++ [opI x]) else (x :: r, cd) := rfl
    rw [e]
    split
    · exact stl_V (fun y hy => h y (List.mem_cons_of_mem _ hy))
    · exact h
theorem stl_nOp {le : Nat} (hle : 3 ≤ le) : ∀ {pl cd : List Nat}, nOp (stl le pl cd).1 = nOp pl
  | [], cd => rfl
  | x :: r, cd => by
    have e : stl le (x :: r) cd = if le ≤ x ∧ x < 40 then stl le r (cd ++ [opI x]) else (x :: r, cd) := rfl
    rw [e]
    split
    · rename_i hc
      rw [stl_nOp hle]
      show _ = (if x = 2 ∨ x = 40 then 1 else 0) + nOp r
      rw [if_neg (by omega)]; omega
    · rfl
theorem wEnd_len : ∀ {pl : List Nat} {op : Nat} {cd : List Nat}, (wEnd pl op cd).1.length + (wEnd pl op cd).2.2.length = pl.length + cd.length ∧ (wEnd pl op cd).1.length ≤ pl.length
  | [], _, _ => ⟨rfl, Nat.le_refl _⟩
  | x :: r, op, cd => by
    have e : wEnd (x :: r) op cd = if x = 2 then wEnd r (op - 1) (cd ++ [40000]) else (x :: r, op, cd) := rfl
    rw [e]
    split
    · have := wEnd_len (pl := r) (op := op - 1) (cd := cd ++ [40000])
      rw [List.length_append, List.length_singleton] at this
      rw [List.length_cons]
      omega
    · exact ⟨rfl, Nat.le_refl _⟩
section MO
variable {tx : Nat → Nat} {n t0 srt : Nat} {I0 : pvI} {J0 : pvJ} {I : pvI} {J : pvJ} {P : pvP} {k : Nat} {pl : List Nat} {op : Nat} {wh : Bool} {cd : List Nat}
def bgF (srt op T : Nat) : Nat := if 1000 ≤ T then (if 10999 < T then 2 else 0) else if 207 ≤ T then (if barB srt (T - 207) = true then 5 else 0) else if T = 40 ∨ T = 45 then (if op = 8 then 3 else 0) else 1
theorem t_begin_bad {T : Nat} (h0 : mS0 tx n t0 srt I0) (h : mS tx n t0 I0 J0 I J k pl op wh cd) (hT : tkK tx n k = T) (hop : op ≤ 8) (hf : bgF srt op T ≠ 0) : pvMet mX12_beginOne 4 0 0 [.ref 202] 224 I J P (mSq tx n t0 I0 J0 P (some (.int (nI (bgF srt op T)))) k pl op wh cd) := by
  have htk := h.tok
  rw [hT] at htk
  have ho := tokR_o htk
  have hb := tokR_b htk
  have f18 : I 202 18 = nI (srt + 1) := by rw [h.ff 18 (by decide)]; exact h0.2.2.2.1
  have f32 := h.ops
  have hsr := h0.2.2.2.2
  by_cases c1 : 1000 ≤ T
  · obtain ⟨v, v1, v2, v3⟩ := tokR_n htk c1
    have e : bgF srt op T = if 10999 < T then 2 else 0 := if_pos c1
    by_cases c2 : 10999 < T
    · rw [e, if_pos c2]
      refine pvMet.of _ (by decide) rfl (Nat.le_of_ble_eq_true rfl) ?_
      refine g_aload_n dX12_beginOne_0 rfl ?_
      refine n_getI dX12_beginOne_1 fdX12_194 rfl (by first | rfl | exact pv_shx) (by omega) (by omega) (by decide) rfl (by repeat (first | exact v2 | (apply rd_s; done) | apply rd_n (by omega) | apply rp_s | apply rp_n (by omega) | (apply rdL_s; done) | apply rdL_n (by omega) | apply rpJ_s | apply rpJ_n (by omega) | rfl)) ?_
      refine g_iconst (v := nI 1) dX12_beginOne_4 (by decide) ?_
      refine n_icmp_ne 39 dX12_beginOne_5 (by decide) (ho.2.2.2) (fun c5 => by exfalso; first | omega | exact absurd trivial c5 | exact c5) (fun c5 => ?_)
      refine g_aload_n dX12_beginOne_8 rfl ?_
      refine n_getI dX12_beginOne_9 fdX12_200 rfl (by first | rfl | exact pv_shx) (by omega) (by omega) (by decide) rfl (by repeat (first | exact v2 | (apply rd_s; done) | apply rd_n (by omega) | apply rp_s | apply rp_n (by omega) | (apply rdL_s; done) | apply rdL_n (by omega) | apply rpJ_s | apply rpJ_n (by omega) | rfl)) ?_
      refine g_sipush (v := nI 9999) dX12_beginOne_12 (by decide) ?_
      refine n_icmp_le 20 dX12_beginOne_15 (by decide) (by first | ((with_reducible apply cN_le) <;> omega) | ((with_reducible apply cI_len) <;> omega) | ((with_reducible apply cI_nle) <;> omega) | (with_reducible exact cI_le)) (fun c15 => by exfalso; first | omega | exact absurd trivial c15 | exact c15) (fun c15 => ?_)
      refine g_iconst (v := nI 2) dX12_beginOne_18 (by decide) ?_
      exact g_iret dX12_beginOne_19 rfl (⟨rfl, rfl, rfl, h⟩)
    · rw [e, if_neg c2] at hf; exact absurd rfl hf
  · by_cases c2 : 207 ≤ T
    · have e : bgF srt op T = if barB srt (T - 207) = true then 5 else 0 := by unfold bgF; rw [if_neg c1, if_pos c2]
      have em : nmI T = nI (mN (T - 207)) := if_pos (by omega)
      have nm := t_nameOf (P := P) htk
      rw [em] at nm
      have hm : ∀ i, i < 8 → mN i ≤ 7 := by decide
      have hm2 := hm (T - 207) (by omega)
      by_cases c3 : barB srt (T - 207) = true
      · rw [e, if_pos c3]
        have bb := t_isBarred (J := J) (P := P) (i := T - 207) (by omega) f18 hsr
        refine pvMet.of _ (by decide) rfl (Nat.le_of_ble_eq_true rfl) ?_
        refine g_aload_n dX12_beginOne_0 rfl ?_
        refine n_getI dX12_beginOne_1 fdX12_194 rfl (by first | rfl | exact pv_shx) (by omega) (by omega) (by decide) rfl (by repeat (first | (apply rd_s; done) | apply rd_n (by omega) | apply rp_s | apply rp_n (by omega) | (apply rdL_s; done) | apply rdL_n (by omega) | apply rpJ_s | apply rpJ_n (by omega) | rfl)) ?_
        refine g_iconst (v := nI 1) dX12_beginOne_4 (by decide) ?_
        refine n_icmp_ne 39 dX12_beginOne_5 (by decide) (ho.2.2.2) (fun c5 => ?_) (fun c5 => by exfalso; first | omega | exact absurd trivial c5 | exact c5)
        refine g_aload_n dX12_beginOne_39 rfl ?_
        refine p_callV (nm) okX12_nameOf lkX12_255 rfl (by first | rfl | exact pv_shx) rfl (by omega) (by omega) dX12_beginOne_40 rfl (Nat.le_of_ble_eq_true rfl) (⟨by decide, by decide, by decide, by decide⟩) ?_
        refine n_if_lt 78 dX12_beginOne_43 (by decide) (by first | ((with_reducible apply cN_lt0) <;> omega) | (with_reducible exact cI_lt0)) (fun c43 => by exfalso; first | omega | exact absurd trivial c43 | exact c43) (fun c43 => ?_)
        refine g_aload_n dX12_beginOne_46 rfl ?_
        refine g_aload_n dX12_beginOne_47 rfl ?_
        refine p_callV (nm) okX12_nameOf lkX12_255 rfl (by first | rfl | exact pv_shx) rfl (by omega) (by omega) dX12_beginOne_48 rfl (Nat.le_of_ble_eq_true rfl) (⟨by decide, by decide, by decide, by decide⟩) ?_
        refine p_callV (bb) okX12_isBarred lkX12_259 rfl (by first | rfl | exact pv_shx) rfl (by omega) (by omega) dX12_beginOne_51 rfl (Nat.le_of_ble_eq_true rfl) (⟨by decide, by decide, by decide, by decide⟩) ?_
        refine n_if_eq 59 dX12_beginOne_54 (by decide) (by first | (with_reducible exact cB _) | ((with_reducible apply cN_eq0) <;> omega) | exact Iff.rfl) (fun c54 => by exfalso; exact c54 c3) (fun c54 => ?_)
        refine g_iconst (v := nI 5) dX12_beginOne_57 (by decide) ?_
        exact g_iret dX12_beginOne_58 rfl (⟨rfl, rfl, rfl, h⟩)
      · rw [e, if_neg c3] at hf; exact absurd rfl hf
    · have em : nmI T = -1 := if_neg (by omega)
      have nm := t_nameOf (P := P) htk
      rw [em] at nm
      have e : bgF srt op T = if T = 40 ∨ T = 45 then (if op = 8 then 3 else 0) else 1 := by unfold bgF; rw [if_neg c1, if_neg c2]
      by_cases c3 : T = 40 ∨ T = 45
      · by_cases c4 : op = 8
        · rw [e, if_pos c3, if_pos c4]
          refine pvMet.of _ (by decide) rfl (Nat.le_of_ble_eq_true rfl) ?_
          refine g_aload_n dX12_beginOne_0 rfl ?_
          refine n_getI dX12_beginOne_1 fdX12_194 rfl (by first | rfl | exact pv_shx) (by omega) (by omega) (by decide) rfl (by repeat (first | exact f32 | (apply rd_s; done) | apply rd_n (by omega) | apply rp_s | apply rp_n (by omega) | (apply rdL_s; done) | apply rdL_n (by omega) | apply rpJ_s | apply rpJ_n (by omega) | rfl)) ?_
          refine g_iconst (v := nI 1) dX12_beginOne_4 (by decide) ?_
          refine n_icmp_ne 39 dX12_beginOne_5 (by decide) (ho.2.2.2) (fun c5 => ?_) (fun c5 => by exfalso; first | omega | exact absurd trivial c5 | exact c5)
          refine g_aload_n dX12_beginOne_39 rfl ?_
          refine p_callV (nm) okX12_nameOf lkX12_255 rfl (by first | rfl | exact pv_shx) rfl (by omega) (by omega) dX12_beginOne_40 rfl (Nat.le_of_ble_eq_true rfl) (⟨by decide, by decide, by decide, by decide⟩) ?_
          refine n_if_lt 78 dX12_beginOne_43 (by decide) (cI_lt0) (fun c43 => ?_) (fun c43 => by exfalso; exact absurd (by decide) c43)
          refine g_aload_n dX12_beginOne_78 rfl ?_
          refine n_getI dX12_beginOne_79 fdX12_194 rfl (by first | rfl | exact pv_shx) (by omega) (by omega) (by decide) rfl (by repeat (first | exact f32 | (apply rd_s; done) | apply rd_n (by omega) | apply rp_s | apply rp_n (by omega) | (apply rdL_s; done) | apply rdL_n (by omega) | apply rpJ_s | apply rpJ_n (by omega) | rfl)) ?_
          refine g_bipush (v := nI 40) dX12_beginOne_82 (by decide) ?_
          refine n_icmp_ne 92 dX12_beginOne_84 (by decide) (tokR_s htk (by decide)) (fun c84 => ?_) (fun c84 => ?_)
          · skip
            refine g_aload_n dX12_beginOne_92 rfl ?_
            refine n_getI dX12_beginOne_93 fdX12_194 rfl (by first | rfl | exact pv_shx) (by omega) (by omega) (by decide) rfl (by repeat (first | exact f32 | (apply rd_s; done) | apply rd_n (by omega) | apply rp_s | apply rp_n (by omega) | (apply rdL_s; done) | apply rdL_n (by omega) | apply rpJ_s | apply rpJ_n (by omega) | rfl)) ?_
            refine g_bipush (v := nI 45) dX12_beginOne_96 (by decide) ?_
            refine n_icmp_ne 105 dX12_beginOne_98 (by decide) (tokR_s htk (by decide)) (fun c98 => by exfalso; first | omega | exact absurd trivial c98 | exact c98) (fun c98 => ?_)
            refine g_iconst (v := nI 2) dX12_beginOne_101 (by decide) ?_
            refine g_goto 106 dX12_beginOne_102 (by decide) ?_
            refine g_istore_n dX12_beginOne_106 (by decide) rfl ?_
            refine g_iload_n dX12_beginOne_107 rfl ?_
            refine n_if_ne 113 dX12_beginOne_108 (by decide) (by first | (with_reducible exact cB _) | ((with_reducible apply cN_eq0) <;> omega) | exact Iff.rfl) (fun c108 => ?_) (fun c108 => by exfalso; first | omega | exact absurd trivial c108 | exact c108)
            refine g_aload_n dX12_beginOne_113 rfl ?_
            refine n_getI dX12_beginOne_114 fdX12_232 rfl (by first | rfl | exact pv_shx) (by omega) (by omega) (by decide) rfl (by repeat (first | exact f32 | (apply rd_s; done) | apply rd_n (by omega) | apply rp_s | apply rp_n (by omega) | (apply rdL_s; done) | apply rdL_n (by omega) | apply rpJ_s | apply rpJ_n (by omega) | rfl)) ?_
            refine g_bipush (v := nI 8) dX12_beginOne_117 (by decide) ?_
            refine n_icmp_ne 124 dX12_beginOne_119 (by decide) (by first | ((with_reducible apply cN_eq) <;> omega) | ((with_reducible apply cI_eqn) <;> omega) | exact Iff.rfl) (fun c119 => by exfalso; first | omega | exact absurd trivial c119 | exact c119) (fun c119 => ?_)
            refine g_iconst (v := nI 3) dX12_beginOne_122 (by decide) ?_
            exact g_iret dX12_beginOne_123 rfl (⟨rfl, rfl, rfl, h⟩)
          · skip
            refine g_bipush (v := nI 40) dX12_beginOne_87 (by decide) ?_
            refine g_goto 106 dX12_beginOne_89 (by decide) ?_
            refine g_istore_n dX12_beginOne_106 (by decide) rfl ?_
            refine g_iload_n dX12_beginOne_107 rfl ?_
            refine n_if_ne 113 dX12_beginOne_108 (by decide) (by first | (with_reducible exact cB _) | ((with_reducible apply cN_eq0) <;> omega) | exact Iff.rfl) (fun c108 => ?_) (fun c108 => by exfalso; first | omega | exact absurd trivial c108 | exact c108)
            refine g_aload_n dX12_beginOne_113 rfl ?_
            refine n_getI dX12_beginOne_114 fdX12_232 rfl (by first | rfl | exact pv_shx) (by omega) (by omega) (by decide) rfl (by repeat (first | exact f32 | (apply rd_s; done) | apply rd_n (by omega) | apply rp_s | apply rp_n (by omega) | (apply rdL_s; done) | apply rdL_n (by omega) | apply rpJ_s | apply rpJ_n (by omega) | rfl)) ?_
            refine g_bipush (v := nI 8) dX12_beginOne_117 (by decide) ?_
            refine n_icmp_ne 124 dX12_beginOne_119 (by decide) (by first | ((with_reducible apply cN_eq) <;> omega) | ((with_reducible apply cI_eqn) <;> omega) | exact Iff.rfl) (fun c119 => by exfalso; first | omega | exact absurd trivial c119 | exact c119) (fun c119 => ?_)
            refine g_iconst (v := nI 3) dX12_beginOne_122 (by decide) ?_
            exact g_iret dX12_beginOne_123 rfl (⟨rfl, rfl, rfl, h⟩)
        · rw [e, if_pos c3, if_neg c4] at hf; exact absurd rfl hf
      · rw [e, if_neg c3]
        refine pvMet.of _ (by decide) rfl (Nat.le_of_ble_eq_true rfl) ?_
        refine g_aload_n dX12_beginOne_0 rfl ?_
        refine n_getI dX12_beginOne_1 fdX12_194 rfl (by first | rfl | exact pv_shx) (by omega) (by omega) (by decide) rfl (by repeat (first | (apply rd_s; done) | apply rd_n (by omega) | apply rp_s | apply rp_n (by omega) | (apply rdL_s; done) | apply rdL_n (by omega) | apply rpJ_s | apply rpJ_n (by omega) | rfl)) ?_
        refine g_iconst (v := nI 1) dX12_beginOne_4 (by decide) ?_
        refine n_icmp_ne 39 dX12_beginOne_5 (by decide) (ho.2.2.2) (fun c5 => ?_) (fun c5 => by exfalso; first | omega | exact absurd trivial c5 | exact c5)
        refine g_aload_n dX12_beginOne_39 rfl ?_
        refine p_callV (nm) okX12_nameOf lkX12_255 rfl (by first | rfl | exact pv_shx) rfl (by omega) (by omega) dX12_beginOne_40 rfl (Nat.le_of_ble_eq_true rfl) (⟨by decide, by decide, by decide, by decide⟩) ?_
        refine n_if_lt 78 dX12_beginOne_43 (by decide) (cI_lt0) (fun c43 => ?_) (fun c43 => by exfalso; exact absurd (by decide) c43)
        refine g_aload_n dX12_beginOne_78 rfl ?_
        refine n_getI dX12_beginOne_79 fdX12_194 rfl (by first | rfl | exact pv_shx) (by omega) (by omega) (by decide) rfl (by repeat (first | (apply rd_s; done) | apply rd_n (by omega) | apply rp_s | apply rp_n (by omega) | (apply rdL_s; done) | apply rdL_n (by omega) | apply rpJ_s | apply rpJ_n (by omega) | rfl)) ?_
        refine g_bipush (v := nI 40) dX12_beginOne_82 (by decide) ?_
        refine n_icmp_ne 92 dX12_beginOne_84 (by decide) (tokR_s htk (by decide)) (fun c84 => ?_) (fun c84 => by exfalso; first | omega | exact absurd trivial c84 | exact c84)
        refine g_aload_n dX12_beginOne_92 rfl ?_
        refine n_getI dX12_beginOne_93 fdX12_194 rfl (by first | rfl | exact pv_shx) (by omega) (by omega) (by decide) rfl (by repeat (first | (apply rd_s; done) | apply rd_n (by omega) | apply rp_s | apply rp_n (by omega) | (apply rdL_s; done) | apply rdL_n (by omega) | apply rpJ_s | apply rpJ_n (by omega) | rfl)) ?_
        refine g_bipush (v := nI 45) dX12_beginOne_96 (by decide) ?_
        refine n_icmp_ne 105 dX12_beginOne_98 (by decide) (tokR_s htk (by decide)) (fun c98 => ?_) (fun c98 => by exfalso; first | omega | exact absurd trivial c98 | exact c98)
        refine g_iconst (v := nI 0) dX12_beginOne_105 (by decide) ?_
        refine g_istore_n dX12_beginOne_106 (by decide) rfl ?_
        refine g_iload_n dX12_beginOne_107 rfl ?_
        refine n_if_ne 113 dX12_beginOne_108 (by decide) (by first | (with_reducible exact cB _) | ((with_reducible apply cN_eq0) <;> omega) | exact Iff.rfl) (fun c108 => by exfalso; first | omega | exact absurd trivial c108 | exact c108) (fun c108 => ?_)
        refine g_iconst (v := nI 1) dX12_beginOne_111 (by decide) ?_
        exact g_iret dX12_beginOne_112 rfl (⟨rfl, rfl, rfl, h⟩)
def atI (T : Nat) : Nat := if 1000 ≤ T then T - 1000 else 10000 + (T - 207)
theorem t_begin_atom {T : Nat} (hP : pvOkP P) (h0 : mS0 tx n t0 srt I0) (h : mS tx n t0 I0 J0 I J k pl op wh cd) (hT : tkK tx n k = T) (hop : op ≤ 8) (hf : bgF srt op T = 0) (h207 : 207 ≤ T) (h1 : nOp pl ≤ op) (h3 : pl.length ≤ 150) (h4 : cd.length + pl.length ≤ 310) (h5 : plV pl) : pvMet mX12_beginOne 4 0 0 [.ref 202] 224 I J P (mSq tx n t0 I0 J0 P (some (.int (nI 0))) (k + 1) (wEnd pl op (cd ++ [atI T])).1 (wEnd pl op (cd ++ [atI T])).2.1 true (wEnd pl op (cd ++ [atI T])).2.2) := by
  have htk := h.tok
  rw [hT] at htk
  have ho := tokR_o htk
  have hb := tokR_b htk
  have f18 : I 202 18 = nI (srt + 1) := by rw [h.ff 18 (by decide)]; exact h0.2.2.2.1
  have hsr := h0.2.2.2.2
  have hl : (cd ++ [atI T]).length = cd.length + 1 := by rw [List.length_append, List.length_singleton]
  by_cases c1 : 1000 ≤ T
  · obtain ⟨v, v1, v2, v3⟩ := tokR_n htk c1
    have e : bgF srt op T = if 10999 < T then 2 else 0 := if_pos c1
    have c2 : ¬ 10999 < T := fun z => by rw [e, if_pos z] at hf; cases hf
    have ea : atI T = v := by unfold atI; rw [if_pos c1]; omega
    have ei : itM (atI T) = (0, v) := by rw [ea]; unfold itM; rw [if_pos (by omega)]
    have em := t_emit (P := P) (x := atI T) (o := nI 0) (v := nI v) hP h0 h (by omega) (by rw [ei]) (by rw [ei])
    refine pvMet.of _ (by decide) rfl (Nat.le_of_ble_eq_true rfl) ?_
    refine g_aload_n dX12_beginOne_0 rfl ?_
    refine n_getI dX12_beginOne_1 fdX12_194 rfl (by first | rfl | exact pv_shx) (by omega) (by omega) (by decide) rfl (by repeat (first | exact v2 | (apply rd_s; done) | apply rd_n (by omega) | apply rp_s | apply rp_n (by omega) | (apply rdL_s; done) | apply rdL_n (by omega) | apply rpJ_s | apply rpJ_n (by omega) | rfl)) ?_
    refine g_iconst (v := nI 1) dX12_beginOne_4 (by decide) ?_
    refine n_icmp_ne 39 dX12_beginOne_5 (by decide) (ho.2.2.2) (fun c5 => by exfalso; first | omega | exact absurd trivial c5 | exact c5) (fun c5 => ?_)
    refine g_aload_n dX12_beginOne_8 rfl ?_
    refine n_getI dX12_beginOne_9 fdX12_200 rfl (by first | rfl | exact pv_shx) (by omega) (by omega) (by decide) rfl (by repeat (first | exact v2 | (apply rd_s; done) | apply rd_n (by omega) | apply rp_s | apply rp_n (by omega) | (apply rdL_s; done) | apply rdL_n (by omega) | apply rpJ_s | apply rpJ_n (by omega) | rfl)) ?_
    refine g_sipush (v := nI 9999) dX12_beginOne_12 (by decide) ?_
    refine n_icmp_le 20 dX12_beginOne_15 (by decide) (by first | ((with_reducible apply cN_le) <;> omega) | ((with_reducible apply cI_len) <;> omega) | ((with_reducible apply cI_nle) <;> omega) | (with_reducible exact cI_le)) (fun c15 => ?_) (fun c15 => by exfalso; first | omega | exact absurd trivial c15 | exact c15)
    refine g_aload_n dX12_beginOne_20 rfl ?_
    refine g_iconst (v := nI 0) dX12_beginOne_21 (by decide) ?_
    refine g_aload_n dX12_beginOne_22 rfl ?_
    refine n_getI dX12_beginOne_23 fdX12_200 rfl (by first | rfl | exact pv_shx) (by omega) (by omega) (by decide) rfl (by repeat (first | exact v2 | (apply rd_s; done) | apply rd_n (by omega) | apply rp_s | apply rp_n (by omega) | (apply rdL_s; done) | apply rdL_n (by omega) | apply rpJ_s | apply rpJ_n (by omega) | rfl)) ?_
    refine g_callV (em) okX12_emit lkX12_235 rfl (by first | rfl | exact pv_shx) rfl (by omega) (by omega) dX12_beginOne_26 rfl (Nat.le_of_ble_eq_true rfl) (⟨by decide, by decide, by decide, by decide⟩) ?_
    rintro w nx' I2 J2 P' ⟨rfl, rfl, rfl, s2⟩
    refine g_aload_n dX12_beginOne_29 rfl ?_
    refine g_callV (t_nextP hP h0 s2) okX12_nextToken lkX12_249 rfl (by first | rfl | exact pv_shx) rfl (by omega) (by omega) dX12_beginOne_30 rfl (Nat.le_of_ble_eq_true rfl) (⟨by decide, by decide, by decide, by decide⟩) ?_
    rintro w nx' I3 J3 P' ⟨rfl, rfl, rfl, s3⟩
    refine g_aload_n dX12_beginOne_33 rfl ?_
    refine g_callV (t_whole hP h0 s3 h1 (by omega) (by omega) (by rw [hl]; omega) h5) okX12_whole lkX12_252 rfl (by first | rfl | exact pv_shx) rfl (by omega) (by omega) dX12_beginOne_34 rfl (Nat.le_of_ble_eq_true rfl) (⟨by decide, by decide, by decide, by decide⟩) ?_
    rintro w nx' I4 J4 P' ⟨rfl, rfl, rfl, s4⟩
    refine g_iconst (v := nI 0) dX12_beginOne_37 (by decide) ?_
    exact g_iret dX12_beginOne_38 rfl (⟨rfl, rfl, rfl, s4⟩)
  · have e : bgF srt op T = if barB srt (T - 207) = true then 5 else 0 := by unfold bgF; rw [if_neg c1, if_pos h207]
    have c3 : ¬ barB srt (T - 207) = true := fun z => by rw [e, if_pos z] at hf; cases hf
    have em : nmI T = nI (mN (T - 207)) := if_pos (by omega)
    have nm := t_nameOf (P := P) htk
    rw [em] at nm
    have hm : ∀ i, i < 8 → mN i ≤ 7 := by decide
    have hm2 := hm (T - 207) (by omega)
    have bb := t_isBarred (J := J) (P := P) (i := T - 207) (by omega) f18 hsr
    have ea : atI T = 10000 + (T - 207) := if_neg c1
    have ei : itM (atI T) = (1, mN (T - 207)) := by rw [ea]; unfold itM; rw [if_neg (by omega), if_pos (by omega), show 10000 + (T - 207) - 10000 = T - 207 by omega]
    have em := t_emit (P := P) (x := atI T) (o := nI 1) (v := nI (mN (T - 207))) hP h0 h (by omega) (by rw [ei]) (by rw [ei])
    refine pvMet.of _ (by decide) rfl (Nat.le_of_ble_eq_true rfl) ?_
    refine g_aload_n dX12_beginOne_0 rfl ?_
    refine n_getI dX12_beginOne_1 fdX12_194 rfl (by first | rfl | exact pv_shx) (by omega) (by omega) (by decide) rfl (by repeat (first | (apply rd_s; done) | apply rd_n (by omega) | apply rp_s | apply rp_n (by omega) | (apply rdL_s; done) | apply rdL_n (by omega) | apply rpJ_s | apply rpJ_n (by omega) | rfl)) ?_
    refine g_iconst (v := nI 1) dX12_beginOne_4 (by decide) ?_
    refine n_icmp_ne 39 dX12_beginOne_5 (by decide) (ho.2.2.2) (fun c5 => ?_) (fun c5 => by exfalso; first | omega | exact absurd trivial c5 | exact c5)
    refine g_aload_n dX12_beginOne_39 rfl ?_
    refine p_callV (nm) okX12_nameOf lkX12_255 rfl (by first | rfl | exact pv_shx) rfl (by omega) (by omega) dX12_beginOne_40 rfl (Nat.le_of_ble_eq_true rfl) (⟨by decide, by decide, by decide, by decide⟩) ?_
    refine n_if_lt 78 dX12_beginOne_43 (by decide) (by first | ((with_reducible apply cN_lt0) <;> omega) | (with_reducible exact cI_lt0)) (fun c43 => by exfalso; first | omega | exact absurd trivial c43 | exact c43) (fun c43 => ?_)
    refine g_aload_n dX12_beginOne_46 rfl ?_
    refine g_aload_n dX12_beginOne_47 rfl ?_
    refine p_callV (nm) okX12_nameOf lkX12_255 rfl (by first | rfl | exact pv_shx) rfl (by omega) (by omega) dX12_beginOne_48 rfl (Nat.le_of_ble_eq_true rfl) (⟨by decide, by decide, by decide, by decide⟩) ?_
    refine p_callV (bb) okX12_isBarred lkX12_259 rfl (by first | rfl | exact pv_shx) rfl (by omega) (by omega) dX12_beginOne_51 rfl (Nat.le_of_ble_eq_true rfl) (⟨by decide, by decide, by decide, by decide⟩) ?_
    refine n_if_eq 59 dX12_beginOne_54 (by decide) (by first | (with_reducible exact cB _) | ((with_reducible apply cN_eq0) <;> omega) | exact Iff.rfl) (fun c54 => ?_) (fun c54 => by exfalso; exact c3 (Classical.not_not.mp c54))
    refine g_aload_n dX12_beginOne_59 rfl ?_
    refine g_iconst (v := nI 1) dX12_beginOne_60 (by decide) ?_
    refine g_aload_n dX12_beginOne_61 rfl ?_
    refine p_callV (nm) okX12_nameOf lkX12_255 rfl (by first | rfl | exact pv_shx) rfl (by omega) (by omega) dX12_beginOne_62 rfl (Nat.le_of_ble_eq_true rfl) (⟨by decide, by decide, by decide, by decide⟩) ?_
    refine g_callV (em) okX12_emit lkX12_235 rfl (by first | rfl | exact pv_shx) rfl (by omega) (by omega) dX12_beginOne_65 rfl (Nat.le_of_ble_eq_true rfl) (⟨by decide, by decide, by decide, by decide⟩) ?_
    rintro w nx' I2 J2 P' ⟨rfl, rfl, rfl, s2⟩
    refine g_aload_n dX12_beginOne_68 rfl ?_
    refine g_callV (t_nextP hP h0 s2) okX12_nextToken lkX12_249 rfl (by first | rfl | exact pv_shx) rfl (by omega) (by omega) dX12_beginOne_69 rfl (Nat.le_of_ble_eq_true rfl) (⟨by decide, by decide, by decide, by decide⟩) ?_
    rintro w nx' I3 J3 P' ⟨rfl, rfl, rfl, s3⟩
    refine g_aload_n dX12_beginOne_72 rfl ?_
    refine g_callV (t_whole hP h0 s3 h1 (by omega) (by omega) (by rw [hl]; omega) h5) okX12_whole lkX12_252 rfl (by first | rfl | exact pv_shx) rfl (by omega) (by omega) dX12_beginOne_73 rfl (Nat.le_of_ble_eq_true rfl) (⟨by decide, by decide, by decide, by decide⟩) ?_
    rintro w nx' I4 J4 P' ⟨rfl, rfl, rfl, s4⟩
    refine g_iconst (v := nI 0) dX12_beginOne_76 (by decide) ?_
    exact g_iret dX12_beginOne_77 rfl (⟨rfl, rfl, rfl, s4⟩)
theorem t_begin_open {T : Nat} (hP : pvOkP P) (h0 : mS0 tx n t0 srt I0) (h : mS tx n t0 I0 J0 I J k pl op wh cd) (hT : tkK tx n k = T) (hop : op ≤ 7) (hT2 : T = 40 ∨ T = 45) (h3 : pl.length ≤ 150) : pvMet mX12_beginOne 4 0 0 [.ref 202] 224 I J P (mSq tx n t0 I0 J0 P (some (.int (nI 0))) (k + 1) ((if T = 40 then 40 else 2) :: pl) (op + 1) wh cd) := by
  have htk := h.tok
  rw [hT] at htk
  have ho := tokR_o htk
  have em : nmI T = -1 := if_neg (by omega)
  have nm := t_nameOf (P := P) htk
  rw [em] at nm
  have f32 := h.ops
  have hpu := fun x => t_push (P := P) (x := x) hP (h.p32 (op + 1)) (by omega)
  by_cases c : T = 40
  · rw [if_pos c]
    refine pvMet.of _ (by decide) rfl (Nat.le_of_ble_eq_true rfl) ?_
    refine g_aload_n dX12_beginOne_0 rfl ?_
    refine n_getI dX12_beginOne_1 fdX12_194 rfl (by first | rfl | exact pv_shx) (by omega) (by omega) (by decide) rfl (by repeat (first | exact f32 | (apply rd_s; done) | apply rd_n (by omega) | apply rp_s | apply rp_n (by omega) | (apply rdL_s; done) | apply rdL_n (by omega) | apply rpJ_s | apply rpJ_n (by omega) | rfl)) ?_
    refine g_iconst (v := nI 1) dX12_beginOne_4 (by decide) ?_
    refine n_icmp_ne 39 dX12_beginOne_5 (by decide) (ho.2.2.2) (fun c5 => ?_) (fun c5 => by exfalso; first | omega | exact absurd trivial c5 | exact c5)
    refine g_aload_n dX12_beginOne_39 rfl ?_
    refine p_callV (nm) okX12_nameOf lkX12_255 rfl (by first | rfl | exact pv_shx) rfl (by omega) (by omega) dX12_beginOne_40 rfl (Nat.le_of_ble_eq_true rfl) (⟨by decide, by decide, by decide, by decide⟩) ?_
    refine n_if_lt 78 dX12_beginOne_43 (by decide) (cI_lt0) (fun c43 => ?_) (fun c43 => by exfalso; exact absurd (by decide) c43)
    refine g_aload_n dX12_beginOne_78 rfl ?_
    refine n_getI dX12_beginOne_79 fdX12_194 rfl (by first | rfl | exact pv_shx) (by omega) (by omega) (by decide) rfl (by repeat (first | exact f32 | (apply rd_s; done) | apply rd_n (by omega) | apply rp_s | apply rp_n (by omega) | (apply rdL_s; done) | apply rdL_n (by omega) | apply rpJ_s | apply rpJ_n (by omega) | rfl)) ?_
    refine g_bipush (v := nI 40) dX12_beginOne_82 (by decide) ?_
    refine n_icmp_ne 92 dX12_beginOne_84 (by decide) (tokR_s htk (by decide)) (fun c84 => by exfalso; first | omega | exact absurd trivial c84 | exact c84) (fun c84 => ?_)
    refine g_bipush (v := nI 40) dX12_beginOne_87 (by decide) ?_
    refine g_goto 106 dX12_beginOne_89 (by decide) ?_
    refine g_istore_n dX12_beginOne_106 (by decide) rfl ?_
    refine g_iload_n dX12_beginOne_107 rfl ?_
    refine n_if_ne 113 dX12_beginOne_108 (by decide) (by first | (with_reducible exact cB _) | ((with_reducible apply cN_eq0) <;> omega) | exact Iff.rfl) (fun c108 => ?_) (fun c108 => by exfalso; first | omega | exact absurd trivial c108 | exact c108)
    refine g_aload_n dX12_beginOne_113 rfl ?_
    refine n_getI dX12_beginOne_114 fdX12_232 rfl (by first | rfl | exact pv_shx) (by omega) (by omega) (by decide) rfl (by repeat (first | exact f32 | (apply rd_s; done) | apply rd_n (by omega) | apply rp_s | apply rp_n (by omega) | (apply rdL_s; done) | apply rdL_n (by omega) | apply rpJ_s | apply rpJ_n (by omega) | rfl)) ?_
    refine g_bipush (v := nI 8) dX12_beginOne_117 (by decide) ?_
    refine n_icmp_ne 124 dX12_beginOne_119 (by decide) (by first | ((with_reducible apply cN_eq) <;> omega) | ((with_reducible apply cI_eqn) <;> omega) | exact Iff.rfl) (fun c119 => ?_) (fun c119 => by exfalso; first | omega | exact absurd trivial c119 | exact c119)
    refine g_aload_n dX12_beginOne_124 rfl ?_
    refine g_dup dX12_beginOne_125 rfl ?_
    refine n_getI dX12_beginOne_126 fdX12_232 rfl (by first | rfl | exact pv_shx) (by omega) (by omega) (by decide) rfl (by repeat (first | exact f32 | (apply rd_s; done) | apply rd_n (by omega) | apply rp_s | apply rp_n (by omega) | (apply rdL_s; done) | apply rdL_n (by omega) | apply rpJ_s | apply rpJ_n (by omega) | rfl)) ?_
    refine g_iconst (v := nI 1) dX12_beginOne_129 (by decide) ?_
    refine n_iadd dX12_beginOne_130 (by first | (with_reducible exact nI_add _ _) | rfl) ?_
    refine n_putI dX12_beginOne_131 fdX12_232 rfl (fun h => absurd h (by decide)) (by first | rfl | exact pv_shx) (by omega) (by omega) (by decide) rfl (by repeat (first | exact pvu_s | exact pvuJ_s | apply pvu_in (by omega) | apply pvuJ_in (by omega) | exact pvu_pvs | exact pvuJ_pvs)) ?_
    refine g_aload_n dX12_beginOne_134 rfl ?_
    refine g_iload_n dX12_beginOne_135 rfl ?_
    refine g_callV (hpu 40) okX12_push lkX12_262 rfl (by first | rfl | exact pv_shx) rfl (by omega) (by omega) dX12_beginOne_136 rfl (Nat.le_of_ble_eq_true rfl) (⟨by decide, by decide, by decide, by decide⟩) ?_
    rintro w nx' I2 J2 P' ⟨rfl, rfl, rfl, s2⟩
    refine g_aload_n dX12_beginOne_139 rfl ?_
    refine g_callV (t_nextP hP h0 s2) okX12_nextToken lkX12_249 rfl (by first | rfl | exact pv_shx) rfl (by omega) (by omega) dX12_beginOne_140 rfl (Nat.le_of_ble_eq_true rfl) (⟨by decide, by decide, by decide, by decide⟩) ?_
    rintro w nx' I3 J3 P' ⟨rfl, rfl, rfl, s3⟩
    refine g_iconst (v := nI 0) dX12_beginOne_143 (by decide) ?_
    exact g_iret dX12_beginOne_144 rfl (⟨rfl, rfl, rfl, s3⟩)
  · rw [if_neg c]
    refine pvMet.of _ (by decide) rfl (Nat.le_of_ble_eq_true rfl) ?_
    refine g_aload_n dX12_beginOne_0 rfl ?_
    refine n_getI dX12_beginOne_1 fdX12_194 rfl (by first | rfl | exact pv_shx) (by omega) (by omega) (by decide) rfl (by repeat (first | exact f32 | (apply rd_s; done) | apply rd_n (by omega) | apply rp_s | apply rp_n (by omega) | (apply rdL_s; done) | apply rdL_n (by omega) | apply rpJ_s | apply rpJ_n (by omega) | rfl)) ?_
    refine g_iconst (v := nI 1) dX12_beginOne_4 (by decide) ?_
    refine n_icmp_ne 39 dX12_beginOne_5 (by decide) (ho.2.2.2) (fun c5 => ?_) (fun c5 => by exfalso; first | omega | exact absurd trivial c5 | exact c5)
    refine g_aload_n dX12_beginOne_39 rfl ?_
    refine p_callV (nm) okX12_nameOf lkX12_255 rfl (by first | rfl | exact pv_shx) rfl (by omega) (by omega) dX12_beginOne_40 rfl (Nat.le_of_ble_eq_true rfl) (⟨by decide, by decide, by decide, by decide⟩) ?_
    refine n_if_lt 78 dX12_beginOne_43 (by decide) (cI_lt0) (fun c43 => ?_) (fun c43 => by exfalso; exact absurd (by decide) c43)
    refine g_aload_n dX12_beginOne_78 rfl ?_
    refine n_getI dX12_beginOne_79 fdX12_194 rfl (by first | rfl | exact pv_shx) (by omega) (by omega) (by decide) rfl (by repeat (first | exact f32 | (apply rd_s; done) | apply rd_n (by omega) | apply rp_s | apply rp_n (by omega) | (apply rdL_s; done) | apply rdL_n (by omega) | apply rpJ_s | apply rpJ_n (by omega) | rfl)) ?_
    refine g_bipush (v := nI 40) dX12_beginOne_82 (by decide) ?_
    refine n_icmp_ne 92 dX12_beginOne_84 (by decide) (tokR_s htk (by decide)) (fun c84 => ?_) (fun c84 => by exfalso; first | omega | exact absurd trivial c84 | exact c84)
    refine g_aload_n dX12_beginOne_92 rfl ?_
    refine n_getI dX12_beginOne_93 fdX12_194 rfl (by first | rfl | exact pv_shx) (by omega) (by omega) (by decide) rfl (by repeat (first | exact f32 | (apply rd_s; done) | apply rd_n (by omega) | apply rp_s | apply rp_n (by omega) | (apply rdL_s; done) | apply rdL_n (by omega) | apply rpJ_s | apply rpJ_n (by omega) | rfl)) ?_
    refine g_bipush (v := nI 45) dX12_beginOne_96 (by decide) ?_
    refine n_icmp_ne 105 dX12_beginOne_98 (by decide) (tokR_s htk (by decide)) (fun c98 => by exfalso; first | omega | exact absurd trivial c98 | exact c98) (fun c98 => ?_)
    refine g_iconst (v := nI 2) dX12_beginOne_101 (by decide) ?_
    refine g_goto 106 dX12_beginOne_102 (by decide) ?_
    refine g_istore_n dX12_beginOne_106 (by decide) rfl ?_
    refine g_iload_n dX12_beginOne_107 rfl ?_
    refine n_if_ne 113 dX12_beginOne_108 (by decide) (by first | (with_reducible exact cB _) | ((with_reducible apply cN_eq0) <;> omega) | exact Iff.rfl) (fun c108 => ?_) (fun c108 => by exfalso; first | omega | exact absurd trivial c108 | exact c108)
    refine g_aload_n dX12_beginOne_113 rfl ?_
    refine n_getI dX12_beginOne_114 fdX12_232 rfl (by first | rfl | exact pv_shx) (by omega) (by omega) (by decide) rfl (by repeat (first | exact f32 | (apply rd_s; done) | apply rd_n (by omega) | apply rp_s | apply rp_n (by omega) | (apply rdL_s; done) | apply rdL_n (by omega) | apply rpJ_s | apply rpJ_n (by omega) | rfl)) ?_
    refine g_bipush (v := nI 8) dX12_beginOne_117 (by decide) ?_
    refine n_icmp_ne 124 dX12_beginOne_119 (by decide) (by first | ((with_reducible apply cN_eq) <;> omega) | ((with_reducible apply cI_eqn) <;> omega) | exact Iff.rfl) (fun c119 => ?_) (fun c119 => by exfalso; first | omega | exact absurd trivial c119 | exact c119)
    refine g_aload_n dX12_beginOne_124 rfl ?_
    refine g_dup dX12_beginOne_125 rfl ?_
    refine n_getI dX12_beginOne_126 fdX12_232 rfl (by first | rfl | exact pv_shx) (by omega) (by omega) (by decide) rfl (by repeat (first | exact f32 | (apply rd_s; done) | apply rd_n (by omega) | apply rp_s | apply rp_n (by omega) | (apply rdL_s; done) | apply rdL_n (by omega) | apply rpJ_s | apply rpJ_n (by omega) | rfl)) ?_
    refine g_iconst (v := nI 1) dX12_beginOne_129 (by decide) ?_
    refine n_iadd dX12_beginOne_130 (by first | (with_reducible exact nI_add _ _) | rfl) ?_
    refine n_putI dX12_beginOne_131 fdX12_232 rfl (fun h => absurd h (by decide)) (by first | rfl | exact pv_shx) (by omega) (by omega) (by decide) rfl (by repeat (first | exact pvu_s | exact pvuJ_s | apply pvu_in (by omega) | apply pvuJ_in (by omega) | exact pvu_pvs | exact pvuJ_pvs)) ?_
    refine g_aload_n dX12_beginOne_134 rfl ?_
    refine g_iload_n dX12_beginOne_135 rfl ?_
    refine g_callV (hpu 2) okX12_push lkX12_262 rfl (by first | rfl | exact pv_shx) rfl (by omega) (by omega) dX12_beginOne_136 rfl (Nat.le_of_ble_eq_true rfl) (⟨by decide, by decide, by decide, by decide⟩) ?_
    rintro w nx' I2 J2 P' ⟨rfl, rfl, rfl, s2⟩
    refine g_aload_n dX12_beginOne_139 rfl ?_
    refine g_callV (t_nextP hP h0 s2) okX12_nextToken lkX12_249 rfl (by first | rfl | exact pv_shx) rfl (by omega) (by omega) dX12_beginOne_140 rfl (Nat.le_of_ble_eq_true rfl) (⟨by decide, by decide, by decide, by decide⟩) ?_
    rintro w nx' I3 J3 P' ⟨rfl, rfl, rfl, s3⟩
    refine g_iconst (v := nI 0) dX12_beginOne_143 (by decide) ?_
    exact g_iret dX12_beginOne_144 rfl (⟨rfl, rfl, rfl, s3⟩)
def opP' (T : Nat) : Nat := if T = 43 then 3 else if T = 45 then 4 else if T = 42 then 5 else 6
theorem t_behind_op {T le : Nat} (hP : pvOkP P) (h0 : mS0 tx n t0 srt I0) (h : mS tx n t0 I0 J0 I J k pl op wh cd) (hT : tkK tx n k = T) (hT2 : (T = 43 ∨ T = 45) ∧ le = 3 ∨ (T = 42 ∨ T = 47) ∧ le = 5) (h3 : pl.length ≤ 150) (h4 : cd.length + pl.length ≤ 310) (h5 : plV pl) : pvMet mX12_behindOne 3 0 0 [.ref 202] 224 I J P (mSq tx n t0 I0 J0 P (some (.int (nI 0))) (k + 1) (opP' T :: (stl le pl cd).1) op false (stl le pl cd).2) := by
  have htk := h.tok
  rw [hT] at htk
  have hl := stl_len (le := le) (pl := pl) (cd := cd)
  have st := t_settle (P := P) (le := le) hP h0 h (by omega) (by omega) (by omega) h5
  have hpu : ∀ {I2 J2}, mS tx n t0 I0 J0 I2 J2 k (stl le pl cd).1 op wh (stl le pl cd).2 → pvMet mX12_push 0 0 0 [.ref 202, .int (nI (opP' T))] 224 I2 J2 P (mSq tx n t0 I0 J0 P none k (opP' T :: (stl le pl cd).1) op wh (stl le pl cd).2) := fun s => t_push hP s (by omega)
  rcases hT2 with ⟨hT2, rfl⟩ | ⟨hT2, rfl⟩
  · by_cases c : T = 43
    · have e : opP' T = 3 := if_pos c
      rw [e] at hpu ⊢
      refine pvMet.of _ (by decide) rfl (Nat.le_of_ble_eq_true rfl) ?_
      refine g_aload_n dX12_behindOne_0 rfl ?_
      refine n_getI dX12_behindOne_1 fdX12_194 rfl (by first | rfl | exact pv_shx) (by omega) (by omega) (by decide) rfl (by repeat (first | (apply rd_s; done) | apply rd_n (by omega) | apply rp_s | apply rp_n (by omega) | (apply rdL_s; done) | apply rdL_n (by omega) | apply rpJ_s | apply rpJ_n (by omega) | rfl)) ?_
      refine g_istore_n dX12_behindOne_4 (by decide) rfl ?_
      refine g_iload_n dX12_behindOne_5 rfl ?_
      refine g_bipush (v := nI 43) dX12_behindOne_6 (by decide) ?_
      refine n_icmp_eq 17 dX12_behindOne_8 (by decide) (tokR_s htk (by decide)) (fun c8 => ?_) (fun c8 => by exfalso; first | omega | exact absurd trivial c8 | exact c8)
      refine g_aload_n dX12_behindOne_17 rfl ?_
      refine g_iconst (v := nI 3) dX12_behindOne_18 (by decide) ?_
      refine g_callV (st) okX12_settle lkX12_269 rfl (by first | rfl | exact pv_shx) rfl (by omega) (by omega) dX12_behindOne_19 rfl (Nat.le_of_ble_eq_true rfl) (⟨by decide, by decide, by decide, by decide⟩) ?_
      rintro w nx' I2 J2 P' ⟨rfl, rfl, rfl, s2⟩
      refine g_aload_n dX12_behindOne_22 rfl ?_
      refine g_iload_n dX12_behindOne_23 rfl ?_
      refine g_bipush (v := nI 43) dX12_behindOne_24 (by decide) ?_
      refine n_icmp_ne 33 dX12_behindOne_26 (by decide) (tokR_s htk (by decide)) (fun c26 => by exfalso; first | omega | exact absurd trivial c26 | exact c26) (fun c26 => ?_)
      refine g_iconst (v := nI 3) dX12_behindOne_29 (by decide) ?_
      refine g_goto 34 dX12_behindOne_30 (by decide) ?_
      refine g_callV (hpu s2) okX12_push lkX12_262 rfl (by first | rfl | exact pv_shx) rfl (by omega) (by omega) dX12_behindOne_34 rfl (Nat.le_of_ble_eq_true rfl) (⟨by decide, by decide, by decide, by decide⟩) ?_
      rintro w nx' I3 J3 P' ⟨rfl, rfl, rfl, s3⟩
      refine g_aload_n dX12_behindOne_37 rfl ?_
      refine g_iconst (v := nI 0) dX12_behindOne_38 (by decide) ?_
      refine n_putZ (by first | exact Or.inl rfl | exact Or.inr rfl | exact cB01 _) dX12_behindOne_39 fdX12_228 rfl (fun h => absurd h (by decide)) (by first | rfl | exact pv_shx) (by omega) (by omega) (by decide) rfl (by repeat (first | exact pvu_s | exact pvuJ_s | apply pvu_in (by omega) | apply pvuJ_in (by omega) | exact pvu_pvs | exact pvuJ_pvs)) ?_
      refine g_goto 115 dX12_behindOne_42 (by decide) ?_
      refine g_aload_n dX12_behindOne_115 rfl ?_
      refine g_callV (t_nextP hP h0 (s3.p33 false)) okX12_nextToken lkX12_249 rfl (by first | rfl | exact pv_shx) rfl (by omega) (by omega) dX12_behindOne_116 rfl (Nat.le_of_ble_eq_true rfl) (⟨by decide, by decide, by decide, by decide⟩) ?_
      rintro w nx' I4 J4 P' ⟨rfl, rfl, rfl, s4⟩
      refine g_iconst (v := nI 0) dX12_behindOne_119 (by decide) ?_
      exact g_iret dX12_behindOne_120 rfl (⟨rfl, rfl, rfl, s4⟩)
    · have e : opP' T = 4 := by unfold opP'; rw [if_neg c, if_pos (by omega)]
      rw [e] at hpu ⊢
      refine pvMet.of _ (by decide) rfl (Nat.le_of_ble_eq_true rfl) ?_
      refine g_aload_n dX12_behindOne_0 rfl ?_
      refine n_getI dX12_behindOne_1 fdX12_194 rfl (by first | rfl | exact pv_shx) (by omega) (by omega) (by decide) rfl (by repeat (first | (apply rd_s; done) | apply rd_n (by omega) | apply rp_s | apply rp_n (by omega) | (apply rdL_s; done) | apply rdL_n (by omega) | apply rpJ_s | apply rpJ_n (by omega) | rfl)) ?_
      refine g_istore_n dX12_behindOne_4 (by decide) rfl ?_
      refine g_iload_n dX12_behindOne_5 rfl ?_
      refine g_bipush (v := nI 43) dX12_behindOne_6 (by decide) ?_
      refine n_icmp_eq 17 dX12_behindOne_8 (by decide) (tokR_s htk (by decide)) (fun c8 => by exfalso; first | omega | exact absurd trivial c8 | exact c8) (fun c8 => ?_)
      refine g_iload_n dX12_behindOne_11 rfl ?_
      refine g_bipush (v := nI 45) dX12_behindOne_12 (by decide) ?_
      refine n_icmp_ne 45 dX12_behindOne_14 (by decide) (tokR_s htk (by decide)) (fun c14 => by exfalso; first | omega | exact absurd trivial c14 | exact c14) (fun c14 => ?_)
      refine g_aload_n dX12_behindOne_17 rfl ?_
      refine g_iconst (v := nI 3) dX12_behindOne_18 (by decide) ?_
      refine g_callV (st) okX12_settle lkX12_269 rfl (by first | rfl | exact pv_shx) rfl (by omega) (by omega) dX12_behindOne_19 rfl (Nat.le_of_ble_eq_true rfl) (⟨by decide, by decide, by decide, by decide⟩) ?_
      rintro w nx' I2 J2 P' ⟨rfl, rfl, rfl, s2⟩
      refine g_aload_n dX12_behindOne_22 rfl ?_
      refine g_iload_n dX12_behindOne_23 rfl ?_
      refine g_bipush (v := nI 43) dX12_behindOne_24 (by decide) ?_
      refine n_icmp_ne 33 dX12_behindOne_26 (by decide) (tokR_s htk (by decide)) (fun c26 => ?_) (fun c26 => by exfalso; first | omega | exact absurd trivial c26 | exact c26)
      refine g_iconst (v := nI 4) dX12_behindOne_33 (by decide) ?_
      refine g_callV (hpu s2) okX12_push lkX12_262 rfl (by first | rfl | exact pv_shx) rfl (by omega) (by omega) dX12_behindOne_34 rfl (Nat.le_of_ble_eq_true rfl) (⟨by decide, by decide, by decide, by decide⟩) ?_
      rintro w nx' I3 J3 P' ⟨rfl, rfl, rfl, s3⟩
      refine g_aload_n dX12_behindOne_37 rfl ?_
      refine g_iconst (v := nI 0) dX12_behindOne_38 (by decide) ?_
      refine n_putZ (by first | exact Or.inl rfl | exact Or.inr rfl | exact cB01 _) dX12_behindOne_39 fdX12_228 rfl (fun h => absurd h (by decide)) (by first | rfl | exact pv_shx) (by omega) (by omega) (by decide) rfl (by repeat (first | exact pvu_s | exact pvuJ_s | apply pvu_in (by omega) | apply pvuJ_in (by omega) | exact pvu_pvs | exact pvuJ_pvs)) ?_
      refine g_goto 115 dX12_behindOne_42 (by decide) ?_
      refine g_aload_n dX12_behindOne_115 rfl ?_
      refine g_callV (t_nextP hP h0 (s3.p33 false)) okX12_nextToken lkX12_249 rfl (by first | rfl | exact pv_shx) rfl (by omega) (by omega) dX12_behindOne_116 rfl (Nat.le_of_ble_eq_true rfl) (⟨by decide, by decide, by decide, by decide⟩) ?_
      rintro w nx' I4 J4 P' ⟨rfl, rfl, rfl, s4⟩
      refine g_iconst (v := nI 0) dX12_behindOne_119 (by decide) ?_
      exact g_iret dX12_behindOne_120 rfl (⟨rfl, rfl, rfl, s4⟩)
  · by_cases c : T = 42
    · have e : opP' T = 5 := by unfold opP'; rw [if_neg (by omega), if_neg (by omega), if_pos c]
      rw [e] at hpu ⊢
      refine pvMet.of _ (by decide) rfl (Nat.le_of_ble_eq_true rfl) ?_
      refine g_aload_n dX12_behindOne_0 rfl ?_
      refine n_getI dX12_behindOne_1 fdX12_194 rfl (by first | rfl | exact pv_shx) (by omega) (by omega) (by decide) rfl (by repeat (first | (apply rd_s; done) | apply rd_n (by omega) | apply rp_s | apply rp_n (by omega) | (apply rdL_s; done) | apply rdL_n (by omega) | apply rpJ_s | apply rpJ_n (by omega) | rfl)) ?_
      refine g_istore_n dX12_behindOne_4 (by decide) rfl ?_
      refine g_iload_n dX12_behindOne_5 rfl ?_
      refine g_bipush (v := nI 43) dX12_behindOne_6 (by decide) ?_
      refine n_icmp_eq 17 dX12_behindOne_8 (by decide) (tokR_s htk (by decide)) (fun c8 => by exfalso; first | omega | exact absurd trivial c8 | exact c8) (fun c8 => ?_)
      refine g_iload_n dX12_behindOne_11 rfl ?_
      refine g_bipush (v := nI 45) dX12_behindOne_12 (by decide) ?_
      refine n_icmp_ne 45 dX12_behindOne_14 (by decide) (tokR_s htk (by decide)) (fun c14 => ?_) (fun c14 => by exfalso; first | omega | exact absurd trivial c14 | exact c14)
      refine g_iload_n dX12_behindOne_45 rfl ?_
      refine g_bipush (v := nI 42) dX12_behindOne_46 (by decide) ?_
      refine n_icmp_eq 57 dX12_behindOne_48 (by decide) (tokR_s htk (by decide)) (fun c48 => ?_) (fun c48 => by exfalso; first | omega | exact absurd trivial c48 | exact c48)
      refine g_aload_n dX12_behindOne_57 rfl ?_
      refine g_iconst (v := nI 5) dX12_behindOne_58 (by decide) ?_
      refine g_callV (st) okX12_settle lkX12_269 rfl (by first | rfl | exact pv_shx) rfl (by omega) (by omega) dX12_behindOne_59 rfl (Nat.le_of_ble_eq_true rfl) (⟨by decide, by decide, by decide, by decide⟩) ?_
      rintro w nx' I2 J2 P' ⟨rfl, rfl, rfl, s2⟩
      refine g_aload_n dX12_behindOne_62 rfl ?_
      refine g_iload_n dX12_behindOne_63 rfl ?_
      refine g_bipush (v := nI 42) dX12_behindOne_64 (by decide) ?_
      refine n_icmp_ne 73 dX12_behindOne_66 (by decide) (tokR_s htk (by decide)) (fun c66 => by exfalso; first | omega | exact absurd trivial c66 | exact c66) (fun c66 => ?_)
      refine g_iconst (v := nI 5) dX12_behindOne_69 (by decide) ?_
      refine g_goto 75 dX12_behindOne_70 (by decide) ?_
      refine g_callV (hpu s2) okX12_push lkX12_262 rfl (by first | rfl | exact pv_shx) rfl (by omega) (by omega) dX12_behindOne_75 rfl (Nat.le_of_ble_eq_true rfl) (⟨by decide, by decide, by decide, by decide⟩) ?_
      rintro w nx' I3 J3 P' ⟨rfl, rfl, rfl, s3⟩
      refine g_aload_n dX12_behindOne_78 rfl ?_
      refine g_iconst (v := nI 0) dX12_behindOne_79 (by decide) ?_
      refine n_putZ (by first | exact Or.inl rfl | exact Or.inr rfl | exact cB01 _) dX12_behindOne_80 fdX12_228 rfl (fun h => absurd h (by decide)) (by first | rfl | exact pv_shx) (by omega) (by omega) (by decide) rfl (by repeat (first | exact pvu_s | exact pvuJ_s | apply pvu_in (by omega) | apply pvuJ_in (by omega) | exact pvu_pvs | exact pvuJ_pvs)) ?_
      refine g_goto 115 dX12_behindOne_83 (by decide) ?_
      refine g_aload_n dX12_behindOne_115 rfl ?_
      refine g_callV (t_nextP hP h0 (s3.p33 false)) okX12_nextToken lkX12_249 rfl (by first | rfl | exact pv_shx) rfl (by omega) (by omega) dX12_behindOne_116 rfl (Nat.le_of_ble_eq_true rfl) (⟨by decide, by decide, by decide, by decide⟩) ?_
      rintro w nx' I4 J4 P' ⟨rfl, rfl, rfl, s4⟩
      refine g_iconst (v := nI 0) dX12_behindOne_119 (by decide) ?_
      exact g_iret dX12_behindOne_120 rfl (⟨rfl, rfl, rfl, s4⟩)
    · have e : opP' T = 6 := by unfold opP'; rw [if_neg (by omega), if_neg (by omega), if_neg c]
      rw [e] at hpu ⊢
      refine pvMet.of _ (by decide) rfl (Nat.le_of_ble_eq_true rfl) ?_
      refine g_aload_n dX12_behindOne_0 rfl ?_
      refine n_getI dX12_behindOne_1 fdX12_194 rfl (by first | rfl | exact pv_shx) (by omega) (by omega) (by decide) rfl (by repeat (first | (apply rd_s; done) | apply rd_n (by omega) | apply rp_s | apply rp_n (by omega) | (apply rdL_s; done) | apply rdL_n (by omega) | apply rpJ_s | apply rpJ_n (by omega) | rfl)) ?_
      refine g_istore_n dX12_behindOne_4 (by decide) rfl ?_
      refine g_iload_n dX12_behindOne_5 rfl ?_
      refine g_bipush (v := nI 43) dX12_behindOne_6 (by decide) ?_
      refine n_icmp_eq 17 dX12_behindOne_8 (by decide) (tokR_s htk (by decide)) (fun c8 => by exfalso; first | omega | exact absurd trivial c8 | exact c8) (fun c8 => ?_)
      refine g_iload_n dX12_behindOne_11 rfl ?_
      refine g_bipush (v := nI 45) dX12_behindOne_12 (by decide) ?_
      refine n_icmp_ne 45 dX12_behindOne_14 (by decide) (tokR_s htk (by decide)) (fun c14 => ?_) (fun c14 => by exfalso; first | omega | exact absurd trivial c14 | exact c14)
      refine g_iload_n dX12_behindOne_45 rfl ?_
      refine g_bipush (v := nI 42) dX12_behindOne_46 (by decide) ?_
      refine n_icmp_eq 57 dX12_behindOne_48 (by decide) (tokR_s htk (by decide)) (fun c48 => by exfalso; first | omega | exact absurd trivial c48 | exact c48) (fun c48 => ?_)
      refine g_iload_n dX12_behindOne_51 rfl ?_
      refine g_bipush (v := nI 47) dX12_behindOne_52 (by decide) ?_
      refine n_icmp_ne 86 dX12_behindOne_54 (by decide) (tokR_s htk (by decide)) (fun c54 => by exfalso; first | omega | exact absurd trivial c54 | exact c54) (fun c54 => ?_)
      refine g_aload_n dX12_behindOne_57 rfl ?_
      refine g_iconst (v := nI 5) dX12_behindOne_58 (by decide) ?_
      refine g_callV (st) okX12_settle lkX12_269 rfl (by first | rfl | exact pv_shx) rfl (by omega) (by omega) dX12_behindOne_59 rfl (Nat.le_of_ble_eq_true rfl) (⟨by decide, by decide, by decide, by decide⟩) ?_
      rintro w nx' I2 J2 P' ⟨rfl, rfl, rfl, s2⟩
      refine g_aload_n dX12_behindOne_62 rfl ?_
      refine g_iload_n dX12_behindOne_63 rfl ?_
      refine g_bipush (v := nI 42) dX12_behindOne_64 (by decide) ?_
      refine n_icmp_ne 73 dX12_behindOne_66 (by decide) (tokR_s htk (by decide)) (fun c66 => ?_) (fun c66 => by exfalso; first | omega | exact absurd trivial c66 | exact c66)
      refine g_bipush (v := nI 6) dX12_behindOne_73 (by decide) ?_
      refine g_callV (hpu s2) okX12_push lkX12_262 rfl (by first | rfl | exact pv_shx) rfl (by omega) (by omega) dX12_behindOne_75 rfl (Nat.le_of_ble_eq_true rfl) (⟨by decide, by decide, by decide, by decide⟩) ?_
      rintro w nx' I3 J3 P' ⟨rfl, rfl, rfl, s3⟩
      refine g_aload_n dX12_behindOne_78 rfl ?_
      refine g_iconst (v := nI 0) dX12_behindOne_79 (by decide) ?_
      refine n_putZ (by first | exact Or.inl rfl | exact Or.inr rfl | exact cB01 _) dX12_behindOne_80 fdX12_228 rfl (fun h => absurd h (by decide)) (by first | rfl | exact pv_shx) (by omega) (by omega) (by decide) rfl (by repeat (first | exact pvu_s | exact pvuJ_s | apply pvu_in (by omega) | apply pvuJ_in (by omega) | exact pvu_pvs | exact pvuJ_pvs)) ?_
      refine g_goto 115 dX12_behindOne_83 (by decide) ?_
      refine g_aload_n dX12_behindOne_115 rfl ?_
      refine g_callV (t_nextP hP h0 (s3.p33 false)) okX12_nextToken lkX12_249 rfl (by first | rfl | exact pv_shx) rfl (by omega) (by omega) dX12_behindOne_116 rfl (Nat.le_of_ble_eq_true rfl) (⟨by decide, by decide, by decide, by decide⟩) ?_
      rintro w nx' I4 J4 P' ⟨rfl, rfl, rfl, s4⟩
      refine g_iconst (v := nI 0) dX12_behindOne_119 (by decide) ?_
      exact g_iret dX12_behindOne_120 rfl (⟨rfl, rfl, rfl, s4⟩)
theorem t_behind_close {r cd1 : List Nat} (hP : pvOkP P) (h0 : mS0 tx n t0 srt I0) (h : mS tx n t0 I0 J0 I J k pl op wh cd) (hT : tkK tx n k = 41) (he : stl 3 pl cd = (40 :: r, cd1)) (hop : nOp pl ≤ op) (hop8 : op ≤ 8) (h3 : pl.length ≤ 150) (h4 : cd.length + pl.length ≤ 310) (h5 : plV pl) : pvMet mX12_behindOne 3 0 0 [.ref 202] 224 I J P (mSq tx n t0 I0 J0 P (some (.int (nI 0))) (k + 1) (wEnd r (op - 1) cd1).1 (wEnd r (op - 1) cd1).2.1 true (wEnd r (op - 1) cd1).2.2) := by
  have htk := h.tok
  rw [hT] at htk
  have hl := stl_len (le := 3) (pl := pl) (cd := cd)
  have hV := stl_V (le := 3) (cd := cd) h5
  have hN := stl_nOp (le := 3) (Nat.le_refl 3) (pl := pl) (cd := cd)
  have st := t_settle (P := P) (le := 3) hP h0 h (by omega) (by omega) (by omega) h5
  rw [he] at st hl hV hN
  replace st : pvMet mX12_settle 1 0 0 [.ref 202, .int (nI 3)] 224 I J P (mSq tx n t0 I0 J0 P none k (40 :: r) op wh cd1) := st
  have hN2 : nOp (40 :: r) = 1 + nOp r := rfl
  have hN3 : nOp (40 :: r) = nOp pl := hN
  simp only [List.length_cons] at hl
  have hVr : plV r := fun y hy => hV y (List.mem_cons_of_mem _ hy)
  refine pvMet.of _ (by decide) rfl (Nat.le_of_ble_eq_true rfl) ?_
  refine g_aload_n dX12_behindOne_0 rfl ?_
  refine n_getI dX12_behindOne_1 fdX12_194 rfl (by first | rfl | exact pv_shx) (by omega) (by omega) (by decide) rfl (by repeat (first | exact f31 | exact f32 | (apply rd_s; done) | apply rd_n (by omega) | apply rp_s | apply rp_n (by omega) | (apply rdL_s; done) | apply rdL_n (by omega) | apply rpJ_s | apply rpJ_n (by omega) | rfl)) ?_
  refine g_istore_n dX12_behindOne_4 (by decide) rfl ?_
  refine g_iload_n dX12_behindOne_5 rfl ?_
  refine g_bipush (v := nI 43) dX12_behindOne_6 (by decide) ?_
  refine n_icmp_eq 17 dX12_behindOne_8 (by decide) (tokR_s htk (by decide)) (fun c8 => by exfalso; first | omega | exact absurd trivial c8 | exact c8) (fun c8 => ?_)
  refine g_iload_n dX12_behindOne_11 rfl ?_
  refine g_bipush (v := nI 45) dX12_behindOne_12 (by decide) ?_
  refine n_icmp_ne 45 dX12_behindOne_14 (by decide) (tokR_s htk (by decide)) (fun c14 => ?_) (fun c14 => by exfalso; first | omega | exact absurd trivial c14 | exact c14)
  refine g_iload_n dX12_behindOne_45 rfl ?_
  refine g_bipush (v := nI 42) dX12_behindOne_46 (by decide) ?_
  refine n_icmp_eq 57 dX12_behindOne_48 (by decide) (tokR_s htk (by decide)) (fun c48 => by exfalso; first | omega | exact absurd trivial c48 | exact c48) (fun c48 => ?_)
  refine g_iload_n dX12_behindOne_51 rfl ?_
  refine g_bipush (v := nI 47) dX12_behindOne_52 (by decide) ?_
  refine n_icmp_ne 86 dX12_behindOne_54 (by decide) (tokR_s htk (by decide)) (fun c54 => ?_) (fun c54 => by exfalso; first | omega | exact absurd trivial c54 | exact c54)
  refine g_aload_n dX12_behindOne_86 rfl ?_
  refine g_iconst (v := nI 3) dX12_behindOne_87 (by decide) ?_
  refine g_callV (st) okX12_settle lkX12_269 rfl (by first | rfl | exact pv_shx) rfl (by omega) (by omega) dX12_behindOne_88 rfl (Nat.le_of_ble_eq_true rfl) (⟨by decide, by decide, by decide, by decide⟩) ?_
  rintro w nx' I2 J2 P' ⟨rfl, rfl, rfl, s2⟩
  have f31 := s2.pd
  rw [List.length_cons] at f31
  have f32 := s2.ops
  have s3 := s2.pop.p32 (op - 1)
  rw [pvs_eq, pvs_pvs] at s3
  refine g_aload_n dX12_behindOne_91 rfl ?_
  refine g_dup dX12_behindOne_92 rfl ?_
  refine n_getI dX12_behindOne_93 fdX12_225 rfl (by first | rfl | exact pv_shx) (by omega) (by omega) (by decide) rfl (by repeat (first | exact f31 | exact f32 | (apply rd_s; done) | apply rd_n (by omega) | apply rp_s | apply rp_n (by omega) | (apply rdL_s; done) | apply rdL_n (by omega) | apply rpJ_s | apply rpJ_n (by omega) | rfl)) ?_
  refine g_iconst (v := nI 1) dX12_behindOne_96 (by decide) ?_
  refine n_isub dX12_behindOne_97 (by first | ((with_reducible apply pk_sub) <;> omega) | rfl) ?_
  refine n_putI dX12_behindOne_98 fdX12_225 rfl (fun h => absurd h (by decide)) (by first | rfl | exact pv_shx) (by omega) (by omega) (by decide) rfl (by repeat (first | exact pvu_s | exact pvuJ_s | apply pvu_in (by omega) | apply pvuJ_in (by omega) | exact pvu_pvs | exact pvuJ_pvs)) ?_
  refine g_aload_n dX12_behindOne_101 rfl ?_
  refine g_dup dX12_behindOne_102 rfl ?_
  refine n_getI dX12_behindOne_103 fdX12_232 rfl (by first | rfl | exact pv_shx) (by omega) (by omega) (by decide) rfl (by repeat (first | exact f31 | exact f32 | (apply rd_s; done) | apply rd_n (by omega) | apply rp_s | apply rp_n (by omega) | (apply rdL_s; done) | apply rdL_n (by omega) | apply rpJ_s | apply rpJ_n (by omega) | rfl)) ?_
  refine g_iconst (v := nI 1) dX12_behindOne_106 (by decide) ?_
  refine n_isub dX12_behindOne_107 (by first | ((with_reducible apply pk_sub) <;> omega) | rfl) ?_
  refine n_putI dX12_behindOne_108 fdX12_232 rfl (fun h => absurd h (by decide)) (by first | rfl | exact pv_shx) (by omega) (by omega) (by decide) rfl (by repeat (first | exact pvu_s | exact pvuJ_s | apply pvu_in (by omega) | apply pvuJ_in (by omega) | exact pvu_pvs | exact pvuJ_pvs)) ?_
  refine g_aload_n dX12_behindOne_111 rfl ?_
  refine g_callV (t_whole hP h0 s3 (by omega) (by omega) (by omega) (by omega) hVr) okX12_whole lkX12_252 rfl (by first | rfl | exact pv_shx) rfl (by omega) (by omega) dX12_behindOne_112 rfl (Nat.le_of_ble_eq_true rfl) (⟨by decide, by decide, by decide, by decide⟩) ?_
  rintro w nx' I4 J4 P' ⟨rfl, rfl, rfl, s4⟩
  refine g_aload_n dX12_behindOne_115 rfl ?_
  refine g_callV (t_nextP hP h0 s4) okX12_nextToken lkX12_249 rfl (by first | rfl | exact pv_shx) rfl (by omega) (by omega) dX12_behindOne_116 rfl (Nat.le_of_ble_eq_true rfl) (⟨by decide, by decide, by decide, by decide⟩) ?_
  rintro w nx' I5 J5 P' ⟨rfl, rfl, rfl, s5⟩
  refine g_iconst (v := nI 0) dX12_behindOne_119 (by decide) ?_
  exact g_iret dX12_behindOne_120 rfl (⟨rfl, rfl, rfl, s5⟩)
end MO
