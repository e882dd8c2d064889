/-! class: a clause's value: the loop -/
def nmC (f : Nat → Int32) (srt : Nat) (nm : Nat → Int) : Prop := ∀ i, i < 8 → barB srt i = false → f i = iI (nm i) ∧ smI (nm i)
section VA2
variable {A j srt : Nat} {nm : Nat → Int} {cs : List pC} {cd e : List Nat} {I : pvI} {J : pvJ} {P : pvP} {p : Nat × Nat}
def vaQ (I : pvI) (J : pvJ) (P : pvP) (r : Int) : pvQT := pvq P (fun v I' J' => v = some (.int (iI r)) ∧ J' = J ∧ ∃ f, I' = pvs I 200 f)
theorem it_lt {x : Nat} (h : itOk srt x) : x ≤ 40000 ∧ x ≠ 30000 := by
  rcases h with h | ⟨i, h1, h2, -⟩ | h
  · omega
  · omega
  · have : ∀ y, y ∈ itS → y ≤ 40000 ∧ y ≠ 30000 := by decide
    exact this x h
theorem sub1 {n : Nat} (h : n + 1 < 2 ^ 31) : nI (n + 1) - nI 1 = nI n := by rw [Nat.add_comm]; exact sub_l2 (by omega)
theorem c_value (hP : pvOkP P) (hA : aAd A) (hc : cAct A I cs cd) (hcd : cd.length ≤ 300) (hj : j < cs.length) (he : (cs.getD j (0, 0, [])).2.2 = e) (hn : nmC (I 199) srt nm) (hi : ∀ x, x ∈ e → itOk srt x) (hk : ck e (0, 0) = some p) : pvMet mX0_value 3 0 0 [.ref A, .int (nI j), .ref 199, .ref 200] 224 I J P (vaQ I J P ((stL (evL nm e ([], []))).headD 0)) := by
  obtain ⟨⟨s0, s1, s2, s3, s4⟩, h149, h194⟩ := hA.sh
  obtain ⟨p2, p3, p4, p5⟩ := hA.pp hP
  obtain ⟨a0, a20, a1, a4, ac, a5⟩ := hc
  obtain ⟨-, -, sj, c3, c4, c5, c6⟩ := ac j hj
  rw [he] at c3 c5 c6
  have lp : ∀ rest pre st f, e = pre ++ rest → sA f (stL st) → (∀ v, v ∈ stL st → smI v) → ck rest (st.1.length, st.2.length) = some p → (stL st).length ≤ pre.length → evL nm rest st = evL nm e ([], []) → pvG mX0_value (pvR 3 0 0) (pvZ (vaQ I J P ((stL (evL nm e ([], []))).headD 0)) 0 0) 25 [.ref A, .int (nI j), .ref 199, .ref 200, .int (nI (stL st).length), .int (nI (sj + pre.length)), .retAddr 0] [] 0 0 224 (pvs I 200 f) J P := by
    intro rest
    induction rest with
    | nil =>
      intro pre st f h1 h2 h3 h4 h5 h6
      rw [List.append_nil] at h1
      have i1 : I (A + 4) (sj + pre.length) = nI 30000 := by rw [a4 _ (by rw [← h1]; exact c3), ← h1, c6]
      replace h6 : st = evL nm e ([], []) := h6
      rw [← h6]
      have lle : pre.length < 300 := by rw [← h1]; omega
      rw [h1] at c3
      cases hL : stL st with
      | nil =>
        rw [List.length_nil]
        refine g_iload dX0_value_25 rfl ?_
        refine g_aload_n dX0_value_27 rfl ?_
        refine n_getI dX0_value_28 fdX0_28 rfl (by first | exact s0 | exact s4 | rfl) (by omega) (by omega) (by decide) rfl (by repeat (first | exact a1 | exact i1 | (apply rd_s; done) | apply rd_n (by omega) | apply rp_s | apply rp_n (by omega) | (apply rdL_s; done) | apply rdL_n (by omega) | apply rpJ_s | apply rpJ_n (by omega) | rfl)) ?_
        refine n_icmp_ge 207 dX0_value_31 (by decide) (by first | ((with_reducible apply cN_le) <;> omega) | ((with_reducible apply cI_len) <;> omega) | ((with_reducible apply cI_nle) <;> omega) | (with_reducible exact cI_le)) (fun c31 => by exfalso; first | omega | exact absurd trivial c31 | exact c31 | (simp at c31)) (fun c31 => ?_)
        refine g_aload_n dX0_value_34 rfl ?_
        refine g_getP dX0_value_35 fdX0_21 rfl (by first | exact s0 | exact s4 | rfl) (by omega) (by omega) (by decide) rfl (p5) ?_
        refine g_iload dX0_value_38 rfl ?_
        refine n_iald dX0_value_40 (by first | exact s0 | exact s4 | rfl) (by omega) (by omega) (by decide) (rfl) (by omega) (by repeat (first | exact a1 | exact i1 | (apply rd_s; done) | apply rd_n (by omega) | apply rp_s | apply rp_n (by omega) | (apply rdL_s; done) | apply rdL_n (by omega) | apply rpJ_s | apply rpJ_n (by omega) | rfl)) ?_
        refine g_sipush (v := nI 30000) dX0_value_41 (by decide) ?_
        refine n_icmp_eq 207 dX0_value_44 (by decide) (by first | ((with_reducible apply cN_eq) <;> omega) | ((with_reducible apply cI_eqn) <;> omega) | exact Iff.rfl) (fun c44 => ?_) (fun c44 => by exfalso; first | omega | exact absurd trivial c44 | exact c44 | (simp at c44))
        refine g_iload dX0_value_207 rfl ?_
        refine n_if_le 221 dX0_value_209 (by decide) (by first | ((with_reducible apply cN_le0) <;> omega) | (with_reducible exact cI_le0)) (fun c209 => ?_) (fun c209 => by exfalso; first | omega | exact absurd trivial c209 | exact c209 | (simp at c209))
        refine g_iconst (v := nI 0) dX0_value_221 (by decide) ?_
        exact g_iret dX0_value_222 rfl (⟨rfl, rfl, by rfl, rfl, f, rfl⟩)
      | cons x r =>
        rw [hL] at h2 h5
        rw [List.length_cons] at h5
        have hx := sA_hd h2
        rw [List.length_cons]
        refine g_iload dX0_value_25 rfl ?_
        refine g_aload_n dX0_value_27 rfl ?_
        refine n_getI dX0_value_28 fdX0_28 rfl (by first | exact s0 | exact s4 | rfl) (by omega) (by omega) (by decide) rfl (by repeat (first | exact a1 | exact i1 | exact hx | (apply rd_s; done) | apply rd_n (by omega) | apply rp_s | apply rp_n (by omega) | (apply rdL_s; done) | apply rdL_n (by omega) | apply rpJ_s | apply rpJ_n (by omega) | rfl)) ?_
        refine n_icmp_ge 207 dX0_value_31 (by decide) (by first | ((with_reducible apply cN_le) <;> omega) | ((with_reducible apply cI_len) <;> omega) | ((with_reducible apply cI_nle) <;> omega) | (with_reducible exact cI_le)) (fun c31 => by exfalso; first | omega | exact absurd trivial c31 | exact c31 | (simp at c31)) (fun c31 => ?_)
        refine g_aload_n dX0_value_34 rfl ?_
        refine g_getP dX0_value_35 fdX0_21 rfl (by first | exact s0 | exact s4 | rfl) (by omega) (by omega) (by decide) rfl (p5) ?_
        refine g_iload dX0_value_38 rfl ?_
        refine n_iald dX0_value_40 (by first | exact s0 | exact s4 | rfl) (by omega) (by omega) (by decide) (rfl) (by omega) (by repeat (first | exact a1 | exact i1 | exact hx | (apply rd_s; done) | apply rd_n (by omega) | apply rp_s | apply rp_n (by omega) | (apply rdL_s; done) | apply rdL_n (by omega) | apply rpJ_s | apply rpJ_n (by omega) | rfl)) ?_
        refine g_sipush (v := nI 30000) dX0_value_41 (by decide) ?_
        refine n_icmp_eq 207 dX0_value_44 (by decide) (by first | ((with_reducible apply cN_eq) <;> omega) | ((with_reducible apply cI_eqn) <;> omega) | exact Iff.rfl) (fun c44 => ?_) (fun c44 => by exfalso; first | omega | exact absurd trivial c44 | exact c44 | (simp at c44))
        refine g_iload dX0_value_207 rfl ?_
        refine n_if_le 221 dX0_value_209 (by decide) (by first | ((with_reducible apply cN_le0) <;> omega) | (with_reducible exact cI_le0)) (fun c209 => by exfalso; first | omega | exact absurd trivial c209 | exact c209 | (simp at c209)) (fun c209 => ?_)
        refine g_aload_n dX0_value_212 rfl ?_
        refine g_iload dX0_value_213 rfl ?_
        refine g_iconst (v := nI 1) dX0_value_215 (by decide) ?_
        refine n_isub dX0_value_216 (sub1 (by omega)) ?_
        refine n_iald dX0_value_217 (by first | exact s0 | exact s4 | rfl) (by omega) (by omega) (by decide) (rfl) (by omega) (by repeat (first | exact a1 | exact i1 | exact hx | (apply rd_s; done) | apply rd_n (by omega) | apply rp_s | apply rp_n (by omega) | (apply rdL_s; done) | apply rdL_n (by omega) | apply rpJ_s | apply rpJ_n (by omega) | rfl)) ?_
        refine g_goto 222 dX0_value_218 (by decide) ?_
        exact g_iret dX0_value_222 rfl (⟨rfl, rfl, by rfl, rfl, f, rfl⟩)
    | cons x rest ih =>
      intro pre st f h1 h2 h3 h4 h5 h6
      have hel : e.length = pre.length + rest.length + 1 := by rw [h1, List.length_append, List.length_cons]; omega
      have hx := hi x (by rw [h1]; exact List.mem_append_right _ List.mem_cons_self)
      obtain ⟨x1, x2⟩ := it_lt hx
      have i1 : I (A + 4) (sj + pre.length) = nI x := by
        rw [a4 _ (by omega), c5 _ (by omega), h1, gdR (Nat.le_refl _), Nat.sub_self]
        rfl
      have h4' : (ckI x st.1.length st.2.length).bind (ck rest) = some p := h4
      obtain ⟨q, q1, q2⟩ := Option.bind_eq_some_iff.mp h4'
      obtain ⟨qn, qt⟩ := q
      have ql := evI_len (nm := nm) (vs := st.1) (ts := st.2) rfl rfl q1
      have nxt : ∀ f', sA f' (stL (evI nm x st)) → (∀ v, v ∈ stL (evI nm x st) → smI v) → (stL (evI nm x st)).length ≤ pre.length + 1 → pvG mX0_value (pvR 3 0 0) (pvZ (vaQ I J P ((stL (evL nm e ([], []))).headD 0)) 0 0) 25 [.ref A, .int (nI j), .ref 199, .ref 200, .int (nI (stL (evI nm x st)).length), .int (nI (sj + pre.length + 1)), .retAddr 0] [] 0 0 224 (pvs I 200 f') J P := fun f' g1 g2 g3 => by
        have := ih (pre ++ [x]) (evI nm x st) f' (by rw [h1, List.append_assoc]; rfl) g1 g2 (by rw [show ((evI nm x st).1.length, (evI nm x st).2.length) = (qn, qt) from by rw [ql.1, ql.2]]; exact q2) (by rw [List.length_append]; exact g3) (by rw [← h6]; rfl)
        rw [List.length_append] at this
        exact this
      have htop : (stL st).length < 300 := by omega
      rcases ev_step (nm := nm) hx q1 with ⟨y1, y2⟩ | ⟨i, y1, y2, y3, y4⟩ | ⟨y1, a, r, y2, y3⟩ | ⟨y1, a, r, y2, y3, y4⟩ | ⟨y1, y2, y3, a, b, r, y4, y5, y6⟩
      · have go := nxt (upd f (stL st).length (nI x)) (by rw [y2, nI_iI]; exact sA_cons h2) (by
          rw [y2]; intro v hv
          rcases List.mem_cons.mp hv with rfl | hv
          · unfold smI; omega
          · exact h3 v hv) (by rw [y2, List.length_cons]; omega)
        rw [y2, List.length_cons] at go
        generalize (stL st).length = top at *
        refine g_iload dX0_value_25 rfl ?_
        refine g_aload_n dX0_value_27 rfl ?_
        refine n_getI dX0_value_28 fdX0_28 rfl (by first | exact s0 | exact s4 | rfl) (by omega) (by omega) (by decide) rfl (by repeat (first | exact a1 | exact i1 | (apply rd_s; done) | apply rd_n (by omega) | apply rp_s | apply rp_n (by omega) | (apply rdL_s; done) | apply rdL_n (by omega) | apply rpJ_s | apply rpJ_n (by omega) | rfl)) ?_
        refine n_icmp_ge 207 dX0_value_31 (by decide) (by first | ((with_reducible apply cN_le) <;> omega) | ((with_reducible apply cI_len) <;> omega) | ((with_reducible apply cI_nle) <;> omega) | (with_reducible exact cI_le)) (fun c31 => by exfalso; first | omega | exact absurd trivial c31 | exact c31 | (simp at c31)) (fun c31 => ?_)
        refine g_aload_n dX0_value_34 rfl ?_
        refine g_getP dX0_value_35 fdX0_21 rfl (by first | exact s0 | exact s4 | rfl) (by omega) (by omega) (by decide) rfl (p5) ?_
        refine g_iload dX0_value_38 rfl ?_
        refine n_iald dX0_value_40 (by first | exact s0 | exact s4 | rfl) (by omega) (by omega) (by decide) (rfl) (by omega) (by repeat (first | exact a1 | exact i1 | (apply rd_s; done) | apply rd_n (by omega) | apply rp_s | apply rp_n (by omega) | (apply rdL_s; done) | apply rdL_n (by omega) | apply rpJ_s | apply rpJ_n (by omega) | rfl)) ?_
        refine g_sipush (v := nI 30000) dX0_value_41 (by decide) ?_
        refine n_icmp_eq 207 dX0_value_44 (by decide) (by first | ((with_reducible apply cN_eq) <;> omega) | ((with_reducible apply cI_eqn) <;> omega) | exact Iff.rfl) (fun c44 => by exfalso; first | omega | exact absurd trivial c44 | exact c44 | (simp at c44)) (fun c44 => ?_)
        refine g_iload dX0_value_47 rfl ?_
        refine g_aload_n dX0_value_49 rfl ?_
        refine g_alen dX0_value_50 (by first | exact s0 | exact s4 | rfl) (by omega) (by omega) ?_
        refine n_icmp_ge 207 dX0_value_51 (by decide) (by first | ((with_reducible apply cN_le) <;> omega) | ((with_reducible apply cI_len) <;> omega) | ((with_reducible apply cI_nle) <;> omega) | (with_reducible exact cI_le)) (fun c51 => by exfalso; first | omega | exact absurd trivial c51 | exact c51 | (simp at c51)) (fun c51 => ?_)
        refine g_aload_n dX0_value_54 rfl ?_
        refine g_getP dX0_value_55 fdX0_21 rfl (by first | exact s0 | exact s4 | rfl) (by omega) (by omega) (by decide) rfl (p5) ?_
        refine g_iload dX0_value_58 rfl ?_
        refine n_iald dX0_value_60 (by first | exact s0 | exact s4 | rfl) (by omega) (by omega) (by decide) (rfl) (by omega) (by repeat (first | exact a1 | exact i1 | (apply rd_s; done) | apply rd_n (by omega) | apply rp_s | apply rp_n (by omega) | (apply rdL_s; done) | apply rdL_n (by omega) | apply rpJ_s | apply rpJ_n (by omega) | rfl)) ?_
        refine g_istore dX0_value_61 (by decide) rfl ?_
        refine g_iload dX0_value_63 rfl ?_
        refine g_sipush (v := nI 10000) dX0_value_65 (by decide) ?_
        refine n_icmp_ge 83 dX0_value_68 (by decide) (by first | ((with_reducible apply cN_le) <;> omega) | ((with_reducible apply cI_len) <;> omega) | ((with_reducible apply cI_nle) <;> omega) | (with_reducible exact cI_le)) (fun c68 => by exfalso; first | omega | exact absurd trivial c68 | exact c68 | (simp at c68)) (fun c68 => ?_)
        refine g_aload_n dX0_value_71 rfl ?_
        refine g_iload dX0_value_72 rfl ?_
        refine g_iload dX0_value_74 rfl ?_
        refine n_iast dX0_value_76 (by first | exact s0 | exact s4 | rfl) (by omega) (by omega) (by omega) (by decide) (rfl) (by omega) (by repeat (first | exact pvu_s | exact pvuJ_s | apply pvu_in (by omega) | apply pvuJ_in (by omega) | exact pvu_pvs | exact pvuJ_pvs)) ?_
        refine g_iinc dX0_value_77 rfl (by first | (with_reducible exact nI_1 _) | exact nI_1 _ | exact pk_m1 _ | rfl) (by decide) rfl ?_
        refine g_goto 201 dX0_value_80 (by decide) ?_
        refine g_iinc dX0_value_201 rfl (by first | (with_reducible exact nI_1 _) | exact nI_1 _ | exact pk_m1 _ | rfl) (by decide) rfl ?_
        refine g_goto 25 dX0_value_204 (by decide) ?_
        exact g_drop _ (by repeat (first | exact trivial | refine ⟨Or.inr ⟨_, rfl⟩, ?_⟩ | refine ⟨Or.inl rfl, ?_⟩)) go
      · obtain ⟨n1, n2⟩ := hn i y1 y3
        have go := nxt (upd f (stL st).length (iI (nm i))) (by rw [y4]; exact sA_cons h2) (by
          rw [y4]; intro v hv
          rcases List.mem_cons.mp hv with rfl | hv
          · exact n2
          · exact h3 v hv) (by rw [y4, List.length_cons]; omega)
        rw [y4, List.length_cons] at go
        subst y2
        have e100 : nI (10000 + i) - nI 10000 = nI i := sub_l2 (by omega)
        generalize (stL st).length = top at *
        refine g_iload dX0_value_25 rfl ?_
        refine g_aload_n dX0_value_27 rfl ?_
        refine n_getI dX0_value_28 fdX0_28 rfl (by first | exact s0 | exact s4 | rfl) (by omega) (by omega) (by decide) rfl (by repeat (first | exact a1 | exact i1 | exact n1 | (apply rd_s; done) | apply rd_n (by omega) | apply rp_s | apply rp_n (by omega) | (apply rdL_s; done) | apply rdL_n (by omega) | apply rpJ_s | apply rpJ_n (by omega) | rfl)) ?_
        refine n_icmp_ge 207 dX0_value_31 (by decide) (by first | ((with_reducible apply cN_le) <;> omega) | ((with_reducible apply cI_len) <;> omega) | ((with_reducible apply cI_nle) <;> omega) | (with_reducible exact cI_le)) (fun c31 => by exfalso; first | omega | exact absurd trivial c31 | exact c31 | (simp at c31)) (fun c31 => ?_)
        refine g_aload_n dX0_value_34 rfl ?_
        refine g_getP dX0_value_35 fdX0_21 rfl (by first | exact s0 | exact s4 | rfl) (by omega) (by omega) (by decide) rfl (p5) ?_
        refine g_iload dX0_value_38 rfl ?_
        refine n_iald dX0_value_40 (by first | exact s0 | exact s4 | rfl) (by omega) (by omega) (by decide) (rfl) (by omega) (by repeat (first | exact a1 | exact i1 | exact n1 | (apply rd_s; done) | apply rd_n (by omega) | apply rp_s | apply rp_n (by omega) | (apply rdL_s; done) | apply rdL_n (by omega) | apply rpJ_s | apply rpJ_n (by omega) | rfl)) ?_
        refine g_sipush (v := nI 30000) dX0_value_41 (by decide) ?_
        refine n_icmp_eq 207 dX0_value_44 (by decide) (by first | ((with_reducible apply cN_eq) <;> omega) | ((with_reducible apply cI_eqn) <;> omega) | exact Iff.rfl) (fun c44 => by exfalso; first | omega | exact absurd trivial c44 | exact c44 | (simp at c44)) (fun c44 => ?_)
        refine g_iload dX0_value_47 rfl ?_
        refine g_aload_n dX0_value_49 rfl ?_
        refine g_alen dX0_value_50 (by first | exact s0 | exact s4 | rfl) (by omega) (by omega) ?_
        refine n_icmp_ge 207 dX0_value_51 (by decide) (by first | ((with_reducible apply cN_le) <;> omega) | ((with_reducible apply cI_len) <;> omega) | ((with_reducible apply cI_nle) <;> omega) | (with_reducible exact cI_le)) (fun c51 => by exfalso; first | omega | exact absurd trivial c51 | exact c51 | (simp at c51)) (fun c51 => ?_)
        refine g_aload_n dX0_value_54 rfl ?_
        refine g_getP dX0_value_55 fdX0_21 rfl (by first | exact s0 | exact s4 | rfl) (by omega) (by omega) (by decide) rfl (p5) ?_
        refine g_iload dX0_value_58 rfl ?_
        refine n_iald dX0_value_60 (by first | exact s0 | exact s4 | rfl) (by omega) (by omega) (by decide) (rfl) (by omega) (by repeat (first | exact a1 | exact i1 | exact n1 | (apply rd_s; done) | apply rd_n (by omega) | apply rp_s | apply rp_n (by omega) | (apply rdL_s; done) | apply rdL_n (by omega) | apply rpJ_s | apply rpJ_n (by omega) | rfl)) ?_
        refine g_istore dX0_value_61 (by decide) rfl ?_
        refine g_iload dX0_value_63 rfl ?_
        refine g_sipush (v := nI 10000) dX0_value_65 (by decide) ?_
        refine n_icmp_ge 83 dX0_value_68 (by decide) (by first | ((with_reducible apply cN_le) <;> omega) | ((with_reducible apply cI_len) <;> omega) | ((with_reducible apply cI_nle) <;> omega) | (with_reducible exact cI_le)) (fun c68 => ?_) (fun c68 => by exfalso; first | omega | exact absurd trivial c68 | exact c68 | (simp at c68))
        refine g_iload dX0_value_83 rfl ?_
        refine g_sipush (v := nI 20000) dX0_value_85 (by decide) ?_
        refine n_icmp_ge 109 dX0_value_88 (by decide) (by first | ((with_reducible apply cN_le) <;> omega) | ((with_reducible apply cI_len) <;> omega) | ((with_reducible apply cI_nle) <;> omega) | (with_reducible exact cI_le)) (fun c88 => by exfalso; first | omega | exact absurd trivial c88 | exact c88 | (simp at c88)) (fun c88 => ?_)
        refine g_aload_n dX0_value_91 rfl ?_
        refine g_iload dX0_value_92 rfl ?_
        refine g_aload_n dX0_value_94 rfl ?_
        refine g_iload dX0_value_95 rfl ?_
        refine g_sipush (v := nI 10000) dX0_value_97 (by decide) ?_
        refine n_isub dX0_value_100 (e100) ?_
        refine n_iald dX0_value_101 (by first | exact s0 | exact s4 | rfl) (by omega) (by omega) (by decide) (rfl) (by omega) (by repeat (first | exact a1 | exact i1 | exact n1 | (apply rd_s; done) | apply rd_n (by omega) | apply rp_s | apply rp_n (by omega) | (apply rdL_s; done) | apply rdL_n (by omega) | apply rpJ_s | apply rpJ_n (by omega) | rfl)) ?_
        refine n_iast dX0_value_102 (by first | exact s0 | exact s4 | rfl) (by omega) (by omega) (by omega) (by decide) (rfl) (by omega) (by repeat (first | exact pvu_s | exact pvuJ_s | apply pvu_in (by omega) | apply pvuJ_in (by omega) | exact pvu_pvs | exact pvuJ_pvs)) ?_
        refine g_iinc dX0_value_103 rfl (by first | (with_reducible exact nI_1 _) | exact nI_1 _ | exact pk_m1 _ | rfl) (by decide) rfl ?_
        refine g_goto 201 dX0_value_106 (by decide) ?_
        refine g_iinc dX0_value_201 rfl (by first | (with_reducible exact nI_1 _) | exact nI_1 _ | exact pk_m1 _ | rfl) (by decide) rfl ?_
        refine g_goto 25 dX0_value_204 (by decide) ?_
        exact g_drop _ (by repeat (first | exact trivial | refine ⟨Or.inr ⟨_, rfl⟩, ?_⟩ | refine ⟨Or.inl rfl, ?_⟩)) go
      · rw [y2] at h2 h3 h5 htop ⊢
        rw [List.length_cons] at h5 htop ⊢
        have f1 := sA_hd h2
        have sm := h3 a List.mem_cons_self
        have go := nxt (upd f r.length (iI (-a))) (by rw [y3]; exact sA_cons (sA_tl h2)) (by
          rw [y3]; intro v hv
          rcases List.mem_cons.mp hv with rfl | hv
          · unfold smI at sm ⊢; omega
          · exact h3 v (List.mem_cons_of_mem _ hv)) (by rw [y3, List.length_cons]; omega)
        rw [y3, List.length_cons] at go
        subst y1
        generalize r.length = top at *
        refine g_iload dX0_value_25 rfl ?_
        refine g_aload_n dX0_value_27 rfl ?_
        refine n_getI dX0_value_28 fdX0_28 rfl (by first | exact s0 | exact s4 | rfl) (by omega) (by omega) (by decide) rfl (by repeat (first | exact a1 | exact i1 | exact f1 | (apply rd_s; done) | apply rd_n (by omega) | apply rp_s | apply rp_n (by omega) | (apply rdL_s; done) | apply rdL_n (by omega) | apply rpJ_s | apply rpJ_n (by omega) | rfl)) ?_
        refine n_icmp_ge 207 dX0_value_31 (by decide) (by first | ((with_reducible apply cN_le) <;> omega) | ((with_reducible apply cI_len) <;> omega) | ((with_reducible apply cI_nle) <;> omega) | (with_reducible exact cI_le)) (fun c31 => by exfalso; first | omega | exact absurd trivial c31 | exact c31 | (simp at c31)) (fun c31 => ?_)
        refine g_aload_n dX0_value_34 rfl ?_
        refine g_getP dX0_value_35 fdX0_21 rfl (by first | exact s0 | exact s4 | rfl) (by omega) (by omega) (by decide) rfl (p5) ?_
        refine g_iload dX0_value_38 rfl ?_
        refine n_iald dX0_value_40 (by first | exact s0 | exact s4 | rfl) (by omega) (by omega) (by decide) (rfl) (by omega) (by repeat (first | exact a1 | exact i1 | exact f1 | (apply rd_s; done) | apply rd_n (by omega) | apply rp_s | apply rp_n (by omega) | (apply rdL_s; done) | apply rdL_n (by omega) | apply rpJ_s | apply rpJ_n (by omega) | rfl)) ?_
        refine g_sipush (v := nI 30000) dX0_value_41 (by decide) ?_
        refine n_icmp_eq 207 dX0_value_44 (by decide) (by first | ((with_reducible apply cN_eq) <;> omega) | ((with_reducible apply cI_eqn) <;> omega) | exact Iff.rfl) (fun c44 => by exfalso; first | omega | exact absurd trivial c44 | exact c44 | (simp at c44)) (fun c44 => ?_)
        refine g_iload dX0_value_47 rfl ?_
        refine g_aload_n dX0_value_49 rfl ?_
        refine g_alen dX0_value_50 (by first | exact s0 | exact s4 | rfl) (by omega) (by omega) ?_
        refine n_icmp_ge 207 dX0_value_51 (by decide) (by first | ((with_reducible apply cN_le) <;> omega) | ((with_reducible apply cI_len) <;> omega) | ((with_reducible apply cI_nle) <;> omega) | (with_reducible exact cI_le)) (fun c51 => by exfalso; first | omega | exact absurd trivial c51 | exact c51 | (simp at c51)) (fun c51 => ?_)
        refine g_aload_n dX0_value_54 rfl ?_
        refine g_getP dX0_value_55 fdX0_21 rfl (by first | exact s0 | exact s4 | rfl) (by omega) (by omega) (by decide) rfl (p5) ?_
        refine g_iload dX0_value_58 rfl ?_
        refine n_iald dX0_value_60 (by first | exact s0 | exact s4 | rfl) (by omega) (by omega) (by decide) (rfl) (by omega) (by repeat (first | exact a1 | exact i1 | exact f1 | (apply rd_s; done) | apply rd_n (by omega) | apply rp_s | apply rp_n (by omega) | (apply rdL_s; done) | apply rdL_n (by omega) | apply rpJ_s | apply rpJ_n (by omega) | rfl)) ?_
        refine g_istore dX0_value_61 (by decide) rfl ?_
        refine g_iload dX0_value_63 rfl ?_
        refine g_sipush (v := nI 10000) dX0_value_65 (by decide) ?_
        refine n_icmp_ge 83 dX0_value_68 (by decide) (by first | ((with_reducible apply cN_le) <;> omega) | ((with_reducible apply cI_len) <;> omega) | ((with_reducible apply cI_nle) <;> omega) | (with_reducible exact cI_le)) (fun c68 => ?_) (fun c68 => by exfalso; first | omega | exact absurd trivial c68 | exact c68 | (simp at c68))
        refine g_iload dX0_value_83 rfl ?_
        refine g_sipush (v := nI 20000) dX0_value_85 (by decide) ?_
        refine n_icmp_ge 109 dX0_value_88 (by decide) (by first | ((with_reducible apply cN_le) <;> omega) | ((with_reducible apply cI_len) <;> omega) | ((with_reducible apply cI_nle) <;> omega) | (with_reducible exact cI_le)) (fun c88 => ?_) (fun c88 => by exfalso; first | omega | exact absurd trivial c88 | exact c88 | (simp at c88))
        refine g_iload dX0_value_109 rfl ?_
        refine g_ldc (v := nI 40000) dX0_value_111 kcX0_31 ?_
        refine n_icmp_ne 137 dX0_value_113 (by decide) (by first | ((with_reducible apply cN_eq) <;> omega) | ((with_reducible apply cI_eqn) <;> omega) | exact Iff.rfl) (fun c113 => by exfalso; first | omega | exact absurd trivial c113 | exact c113 | (simp at c113)) (fun c113 => ?_)
        refine g_iload dX0_value_116 rfl ?_
        refine n_if_le 137 dX0_value_118 (by decide) (by first | ((with_reducible apply cN_le0) <;> omega) | (with_reducible exact cI_le0)) (fun c118 => by exfalso; first | omega | exact absurd trivial c118 | exact c118 | (simp at c118)) (fun c118 => ?_)
        refine g_aload_n dX0_value_121 rfl ?_
        refine g_iload dX0_value_122 rfl ?_
        refine g_iconst (v := nI 1) dX0_value_124 (by decide) ?_
        refine n_isub dX0_value_125 (sub1 (by omega)) ?_
        refine g_aload_n dX0_value_126 rfl ?_
        refine g_iload dX0_value_127 rfl ?_
        refine g_iconst (v := nI 1) dX0_value_129 (by decide) ?_
        refine n_isub dX0_value_130 (sub1 (by omega)) ?_
        refine n_iald dX0_value_131 (by first | exact s0 | exact s4 | rfl) (by omega) (by omega) (by decide) (rfl) (by omega) (by repeat (first | exact a1 | exact i1 | exact f1 | (apply rd_s; done) | apply rd_n (by omega) | apply rp_s | apply rp_n (by omega) | (apply rdL_s; done) | apply rdL_n (by omega) | apply rpJ_s | apply rpJ_n (by omega) | rfl)) ?_
        refine n_ineg dX0_value_132 (iI_neg) ?_
        refine n_iast dX0_value_133 (by first | exact s0 | exact s4 | rfl) (by omega) (by omega) (by omega) (by decide) (rfl) (by omega) (by repeat (first | exact pvu_s | exact pvuJ_s | apply pvu_in (by omega) | apply pvuJ_in (by omega) | exact pvu_pvs | exact pvuJ_pvs)) ?_
        refine g_goto 201 dX0_value_134 (by decide) ?_
        refine g_iinc dX0_value_201 rfl (by first | (with_reducible exact nI_1 _) | exact nI_1 _ | exact pk_m1 _ | rfl) (by decide) rfl ?_
        refine g_goto 25 dX0_value_204 (by decide) ?_
        exact g_drop _ (by repeat (first | exact trivial | refine ⟨Or.inr ⟨_, rfl⟩, ?_⟩ | refine ⟨Or.inl rfl, ?_⟩)) go
      · rw [y3] at h2 h3 h5 htop ⊢
        rw [List.length_cons] at h5 htop ⊢
        have f1 := sA_hd h2
        have go := nxt (upd f r.length (iI (1 - a))) (by rw [y4]; exact sA_cons (sA_tl h2)) (by
          rw [y4]; intro v hv
          rcases List.mem_cons.mp hv with rfl | hv
          · unfold smI; omega
          · exact h3 v (List.mem_cons_of_mem _ hv)) (by rw [y4, List.length_cons]; omega)
        rw [y4, List.length_cons] at go
        subst y1
        have e162 : nI 1 - iI a = iI (1 - a) := by rw [nI_iI]; exact iI_sub
        generalize r.length = top at *
        refine g_iload dX0_value_25 rfl ?_
        refine g_aload_n dX0_value_27 rfl ?_
        refine n_getI dX0_value_28 fdX0_28 rfl (by first | exact s0 | exact s4 | rfl) (by omega) (by omega) (by decide) rfl (by repeat (first | exact a1 | exact i1 | exact f1 | (apply rd_s; done) | apply rd_n (by omega) | apply rp_s | apply rp_n (by omega) | (apply rdL_s; done) | apply rdL_n (by omega) | apply rpJ_s | apply rpJ_n (by omega) | rfl)) ?_
        refine n_icmp_ge 207 dX0_value_31 (by decide) (by first | ((with_reducible apply cN_le) <;> omega) | ((with_reducible apply cI_len) <;> omega) | ((with_reducible apply cI_nle) <;> omega) | (with_reducible exact cI_le)) (fun c31 => by exfalso; first | omega | exact absurd trivial c31 | exact c31 | (simp at c31)) (fun c31 => ?_)
        refine g_aload_n dX0_value_34 rfl ?_
        refine g_getP dX0_value_35 fdX0_21 rfl (by first | exact s0 | exact s4 | rfl) (by omega) (by omega) (by decide) rfl (p5) ?_
        refine g_iload dX0_value_38 rfl ?_
        refine n_iald dX0_value_40 (by first | exact s0 | exact s4 | rfl) (by omega) (by omega) (by decide) (rfl) (by omega) (by repeat (first | exact a1 | exact i1 | exact f1 | (apply rd_s; done) | apply rd_n (by omega) | apply rp_s | apply rp_n (by omega) | (apply rdL_s; done) | apply rdL_n (by omega) | apply rpJ_s | apply rpJ_n (by omega) | rfl)) ?_
        refine g_sipush (v := nI 30000) dX0_value_41 (by decide) ?_
        refine n_icmp_eq 207 dX0_value_44 (by decide) (by first | ((with_reducible apply cN_eq) <;> omega) | ((with_reducible apply cI_eqn) <;> omega) | exact Iff.rfl) (fun c44 => by exfalso; first | omega | exact absurd trivial c44 | exact c44 | (simp at c44)) (fun c44 => ?_)
        refine g_iload dX0_value_47 rfl ?_
        refine g_aload_n dX0_value_49 rfl ?_
        refine g_alen dX0_value_50 (by first | exact s0 | exact s4 | rfl) (by omega) (by omega) ?_
        refine n_icmp_ge 207 dX0_value_51 (by decide) (by first | ((with_reducible apply cN_le) <;> omega) | ((with_reducible apply cI_len) <;> omega) | ((with_reducible apply cI_nle) <;> omega) | (with_reducible exact cI_le)) (fun c51 => by exfalso; first | omega | exact absurd trivial c51 | exact c51 | (simp at c51)) (fun c51 => ?_)
        refine g_aload_n dX0_value_54 rfl ?_
        refine g_getP dX0_value_55 fdX0_21 rfl (by first | exact s0 | exact s4 | rfl) (by omega) (by omega) (by decide) rfl (p5) ?_
        refine g_iload dX0_value_58 rfl ?_
        refine n_iald dX0_value_60 (by first | exact s0 | exact s4 | rfl) (by omega) (by omega) (by decide) (rfl) (by omega) (by repeat (first | exact a1 | exact i1 | exact f1 | (apply rd_s; done) | apply rd_n (by omega) | apply rp_s | apply rp_n (by omega) | (apply rdL_s; done) | apply rdL_n (by omega) | apply rpJ_s | apply rpJ_n (by omega) | rfl)) ?_
        refine g_istore dX0_value_61 (by decide) rfl ?_
        refine g_iload dX0_value_63 rfl ?_
        refine g_sipush (v := nI 10000) dX0_value_65 (by decide) ?_
        refine n_icmp_ge 83 dX0_value_68 (by decide) (by first | ((with_reducible apply cN_le) <;> omega) | ((with_reducible apply cI_len) <;> omega) | ((with_reducible apply cI_nle) <;> omega) | (with_reducible exact cI_le)) (fun c68 => ?_) (fun c68 => by exfalso; first | omega | exact absurd trivial c68 | exact c68 | (simp at c68))
        refine g_iload dX0_value_83 rfl ?_
        refine g_sipush (v := nI 20000) dX0_value_85 (by decide) ?_
        refine n_icmp_ge 109 dX0_value_88 (by decide) (by first | ((with_reducible apply cN_le) <;> omega) | ((with_reducible apply cI_len) <;> omega) | ((with_reducible apply cI_nle) <;> omega) | (with_reducible exact cI_le)) (fun c88 => ?_) (fun c88 => by exfalso; first | omega | exact absurd trivial c88 | exact c88 | (simp at c88))
        refine g_iload dX0_value_109 rfl ?_
        refine g_ldc (v := nI 40000) dX0_value_111 kcX0_31 ?_
        refine n_icmp_ne 137 dX0_value_113 (by decide) (by first | ((with_reducible apply cN_eq) <;> omega) | ((with_reducible apply cI_eqn) <;> omega) | exact Iff.rfl) (fun c113 => ?_) (fun c113 => by exfalso; first | omega | exact absurd trivial c113 | exact c113 | (simp at c113))
        refine g_iload dX0_value_137 rfl ?_
        refine g_sipush (v := nI 20206) dX0_value_139 (by decide) ?_
        refine n_icmp_ne 167 dX0_value_142 (by decide) (by first | ((with_reducible apply cN_eq) <;> omega) | ((with_reducible apply cI_eqn) <;> omega) | exact Iff.rfl) (fun c142 => by exfalso; first | omega | exact absurd trivial c142 | exact c142 | (simp at c142)) (fun c142 => ?_)
        refine g_iload dX0_value_145 rfl ?_
        refine n_if_le 167 dX0_value_147 (by decide) (by first | ((with_reducible apply cN_le0) <;> omega) | (with_reducible exact cI_le0)) (fun c147 => by exfalso; first | omega | exact absurd trivial c147 | exact c147 | (simp at c147)) (fun c147 => ?_)
        refine g_aload_n dX0_value_150 rfl ?_
        refine g_iload dX0_value_151 rfl ?_
        refine g_iconst (v := nI 1) dX0_value_153 (by decide) ?_
        refine n_isub dX0_value_154 (sub1 (by omega)) ?_
        refine g_iconst (v := nI 1) dX0_value_155 (by decide) ?_
        refine g_aload_n dX0_value_156 rfl ?_
        refine g_iload dX0_value_157 rfl ?_
        refine g_iconst (v := nI 1) dX0_value_159 (by decide) ?_
        refine n_isub dX0_value_160 (sub1 (by omega)) ?_
        refine n_iald dX0_value_161 (by first | exact s0 | exact s4 | rfl) (by omega) (by omega) (by decide) (rfl) (by omega) (by repeat (first | exact a1 | exact i1 | exact f1 | (apply rd_s; done) | apply rd_n (by omega) | apply rp_s | apply rp_n (by omega) | (apply rdL_s; done) | apply rdL_n (by omega) | apply rpJ_s | apply rpJ_n (by omega) | rfl)) ?_
        refine n_isub dX0_value_162 (e162) ?_
        refine n_iast dX0_value_163 (by first | exact s0 | exact s4 | rfl) (by omega) (by omega) (by omega) (by decide) (rfl) (by omega) (by repeat (first | exact pvu_s | exact pvuJ_s | apply pvu_in (by omega) | apply pvuJ_in (by omega) | exact pvu_pvs | exact pvuJ_pvs)) ?_
        refine g_goto 201 dX0_value_164 (by decide) ?_
        refine g_iinc dX0_value_201 rfl (by first | (with_reducible exact nI_1 _) | exact nI_1 _ | exact pk_m1 _ | rfl) (by decide) rfl ?_
        refine g_goto 25 dX0_value_204 (by decide) ?_
        exact g_drop _ (by repeat (first | exact trivial | refine ⟨Or.inr ⟨_, rfl⟩, ?_⟩ | refine ⟨Or.inl rfl, ?_⟩)) go
      · rw [y4] at h2 h3 h5 htop ⊢
        rw [List.length_cons, List.length_cons] at h5 htop ⊢
        have f1 := sA_hd h2
        rw [List.length_cons] at f1
        have f2 := sA_hd (sA_tl h2)
        have smb := h3 b List.mem_cons_self
        have sma := h3 a (List.mem_cons_of_mem _ List.mem_cons_self)
        have h20 := (itS_ok x y1).1
        have jn := c_joined (nx := 224) (I := pvs I 200 f) (J := J) (P := P) y1 y2 y3 sma smb y6
        have go := nxt (upd f r.length (iI (jX x a b))) (by rw [y5]; exact sA_cons (sA_tl (sA_tl h2))) (by
          rw [y5]; intro v hv
          rcases List.mem_cons.mp hv with rfl | hv
          · exact jX_sm
          · exact h3 v (List.mem_cons_of_mem _ (List.mem_cons_of_mem _ hv))) (by rw [y5, List.length_cons]; omega)
        rw [y5, List.length_cons] at go
        generalize r.length = top at *
        refine g_iload dX0_value_25 rfl ?_
        refine g_aload_n dX0_value_27 rfl ?_
        refine n_getI dX0_value_28 fdX0_28 rfl (by first | exact s0 | exact s4 | rfl) (by omega) (by omega) (by decide) rfl (by repeat (first | exact a1 | exact i1 | exact f1 | exact f2 | (apply rd_s; done) | apply rd_n (by omega) | apply rp_s | apply rp_n (by omega) | (apply rdL_s; done) | apply rdL_n (by omega) | apply rpJ_s | apply rpJ_n (by omega) | rfl)) ?_
        refine n_icmp_ge 207 dX0_value_31 (by decide) (by first | ((with_reducible apply cN_le) <;> omega) | ((with_reducible apply cI_len) <;> omega) | ((with_reducible apply cI_nle) <;> omega) | (with_reducible exact cI_le)) (fun c31 => by exfalso; first | omega | exact absurd trivial c31 | exact c31 | (simp at c31)) (fun c31 => ?_)
        refine g_aload_n dX0_value_34 rfl ?_
        refine g_getP dX0_value_35 fdX0_21 rfl (by first | exact s0 | exact s4 | rfl) (by omega) (by omega) (by decide) rfl (p5) ?_
        refine g_iload dX0_value_38 rfl ?_
        refine n_iald dX0_value_40 (by first | exact s0 | exact s4 | rfl) (by omega) (by omega) (by decide) (rfl) (by omega) (by repeat (first | exact a1 | exact i1 | exact f1 | exact f2 | (apply rd_s; done) | apply rd_n (by omega) | apply rp_s | apply rp_n (by omega) | (apply rdL_s; done) | apply rdL_n (by omega) | apply rpJ_s | apply rpJ_n (by omega) | rfl)) ?_
        refine g_sipush (v := nI 30000) dX0_value_41 (by decide) ?_
        refine n_icmp_eq 207 dX0_value_44 (by decide) (by first | ((with_reducible apply cN_eq) <;> omega) | ((with_reducible apply cI_eqn) <;> omega) | exact Iff.rfl) (fun c44 => by exfalso; first | omega | exact absurd trivial c44 | exact c44 | (simp at c44)) (fun c44 => ?_)
        refine g_iload dX0_value_47 rfl ?_
        refine g_aload_n dX0_value_49 rfl ?_
        refine g_alen dX0_value_50 (by first | exact s0 | exact s4 | rfl) (by omega) (by omega) ?_
        refine n_icmp_ge 207 dX0_value_51 (by decide) (by first | ((with_reducible apply cN_le) <;> omega) | ((with_reducible apply cI_len) <;> omega) | ((with_reducible apply cI_nle) <;> omega) | (with_reducible exact cI_le)) (fun c51 => by exfalso; first | omega | exact absurd trivial c51 | exact c51 | (simp at c51)) (fun c51 => ?_)
        refine g_aload_n dX0_value_54 rfl ?_
        refine g_getP dX0_value_55 fdX0_21 rfl (by first | exact s0 | exact s4 | rfl) (by omega) (by omega) (by decide) rfl (p5) ?_
        refine g_iload dX0_value_58 rfl ?_
        refine n_iald dX0_value_60 (by first | exact s0 | exact s4 | rfl) (by omega) (by omega) (by decide) (rfl) (by omega) (by repeat (first | exact a1 | exact i1 | exact f1 | exact f2 | (apply rd_s; done) | apply rd_n (by omega) | apply rp_s | apply rp_n (by omega) | (apply rdL_s; done) | apply rdL_n (by omega) | apply rpJ_s | apply rpJ_n (by omega) | rfl)) ?_
        refine g_istore dX0_value_61 (by decide) rfl ?_
        refine g_iload dX0_value_63 rfl ?_
        refine g_sipush (v := nI 10000) dX0_value_65 (by decide) ?_
        refine n_icmp_ge 83 dX0_value_68 (by decide) (by first | ((with_reducible apply cN_le) <;> omega) | ((with_reducible apply cI_len) <;> omega) | ((with_reducible apply cI_nle) <;> omega) | (with_reducible exact cI_le)) (fun c68 => ?_) (fun c68 => by exfalso; first | omega | exact absurd trivial c68 | exact c68 | (simp at c68))
        refine g_iload dX0_value_83 rfl ?_
        refine g_sipush (v := nI 20000) dX0_value_85 (by decide) ?_
        refine n_icmp_ge 109 dX0_value_88 (by decide) (by first | ((with_reducible apply cN_le) <;> omega) | ((with_reducible apply cI_len) <;> omega) | ((with_reducible apply cI_nle) <;> omega) | (with_reducible exact cI_le)) (fun c88 => ?_) (fun c88 => by exfalso; first | omega | exact absurd trivial c88 | exact c88 | (simp at c88))
        refine g_iload dX0_value_109 rfl ?_
        refine g_ldc (v := nI 40000) dX0_value_111 kcX0_31 ?_
        refine n_icmp_ne 137 dX0_value_113 (by decide) (by first | ((with_reducible apply cN_eq) <;> omega) | ((with_reducible apply cI_eqn) <;> omega) | exact Iff.rfl) (fun c113 => ?_) (fun c113 => by exfalso; first | omega | exact absurd trivial c113 | exact c113 | (simp at c113))
        refine g_iload dX0_value_137 rfl ?_
        refine g_sipush (v := nI 20206) dX0_value_139 (by decide) ?_
        refine n_icmp_ne 167 dX0_value_142 (by decide) (by first | ((with_reducible apply cN_eq) <;> omega) | ((with_reducible apply cI_eqn) <;> omega) | exact Iff.rfl) (fun c142 => ?_) (fun c142 => by exfalso; first | omega | exact absurd trivial c142 | exact c142 | (simp at c142))
        refine g_iload dX0_value_167 rfl ?_
        refine g_iconst (v := nI 1) dX0_value_169 (by decide) ?_
        refine n_icmp_le 201 dX0_value_170 (by decide) (by first | ((with_reducible apply cN_le) <;> omega) | ((with_reducible apply cI_len) <;> omega) | ((with_reducible apply cI_nle) <;> omega) | (with_reducible exact cI_le)) (fun c170 => by exfalso; first | omega | exact absurd trivial c170 | exact c170 | (simp at c170)) (fun c170 => ?_)
        refine g_iinc dX0_value_173 rfl (pk_m1 _) (by decide) rfl ?_
        refine g_aload_n dX0_value_176 rfl ?_
        refine g_iload dX0_value_177 rfl ?_
        refine g_iconst (v := nI 1) dX0_value_179 (by decide) ?_
        refine n_isub dX0_value_180 (sub1 (by omega)) ?_
        refine g_iload dX0_value_181 rfl ?_
        refine g_sipush (v := nI 20000) dX0_value_183 (by decide) ?_
        refine n_isub dX0_value_186 (by first | ((with_reducible apply pk_sub) <;> omega) | rfl) ?_
        refine g_aload_n dX0_value_187 rfl ?_
        refine g_iload dX0_value_188 rfl ?_
        refine g_iconst (v := nI 1) dX0_value_190 (by decide) ?_
        refine n_isub dX0_value_191 (sub1 (by omega)) ?_
        refine n_iald dX0_value_192 (by first | exact s0 | exact s4 | rfl) (by omega) (by omega) (by decide) (rfl) (by omega) (by repeat (first | exact a1 | exact i1 | exact f1 | exact f2 | (apply rd_s; done) | apply rd_n (by omega) | apply rp_s | apply rp_n (by omega) | (apply rdL_s; done) | apply rdL_n (by omega) | apply rpJ_s | apply rpJ_n (by omega) | rfl)) ?_
        refine g_aload_n dX0_value_193 rfl ?_
        refine g_iload dX0_value_194 rfl ?_
        refine n_iald dX0_value_196 (by first | exact s0 | exact s4 | rfl) (by omega) (by omega) (by decide) (rfl) (by omega) (by repeat (first | exact a1 | exact i1 | exact f1 | exact f2 | (apply rd_s; done) | apply rd_n (by omega) | apply rp_s | apply rp_n (by omega) | (apply rdL_s; done) | apply rdL_n (by omega) | apply rpJ_s | apply rpJ_n (by omega) | rfl)) ?_
        refine p_callS (jn) okX0_joined lkX0_34 rfl dX0_value_197 rfl (Nat.le_of_ble_eq_true rfl) (⟨by decide, by decide, by decide, by decide⟩) ?_
        refine n_iast dX0_value_200 (by first | exact s0 | exact s4 | rfl) (by omega) (by omega) (by omega) (by decide) (rfl) (by omega) (by repeat (first | exact pvu_s | exact pvuJ_s | apply pvu_in (by omega) | apply pvuJ_in (by omega) | exact pvu_pvs | exact pvuJ_pvs)) ?_
        refine g_iinc dX0_value_201 rfl (by first | (with_reducible exact nI_1 _) | exact nI_1 _ | exact pk_m1 _ | rfl) (by decide) rfl ?_
        refine g_goto 25 dX0_value_204 (by decide) ?_
        exact g_drop _ (by repeat (first | exact trivial | refine ⟨Or.inr ⟨_, rfl⟩, ?_⟩ | refine ⟨Or.inl rfl, ?_⟩)) go
  have hI : I = pvs I 200 (I 200) := by rw [pvs_self]
  have go := lp e [] ([], []) (I 200) rfl (fun i hi => absurd hi (Nat.not_lt_zero i)) (fun v hv => absurd hv List.not_mem_nil) hk (Nat.le_refl _) rfl
  rw [← hI] at go
  refine pvMet.of _ (by decide) rfl (Nat.le_of_ble_eq_true rfl) ?_
  refine g_iload_n dX0_value_0 rfl ?_
  refine n_if_lt 12 dX0_value_1 (by decide) (by first | ((with_reducible apply cN_lt0) <;> omega) | (with_reducible exact cI_lt0)) (fun c1 => by exfalso; first | omega | exact absurd trivial c1 | exact c1 | (simp at c1)) (fun c1 => ?_)
  refine g_iload_n dX0_value_4 rfl ?_
  refine g_aload_n dX0_value_5 rfl ?_
  refine n_getI dX0_value_6 fdX0_24 rfl (by first | exact s0 | exact s3 | rfl) (by omega) (by omega) (by decide) rfl (by repeat (first | exact a0 | exact c4 | (apply rd_s; done) | apply rd_n (by omega) | apply rp_s | apply rp_n (by omega) | (apply rdL_s; done) | apply rdL_n (by omega) | apply rpJ_s | apply rpJ_n (by omega) | rfl)) ?_
  refine n_icmp_lt 14 dX0_value_9 (by decide) (by first | ((with_reducible apply cN_lt) <;> omega) | ((with_reducible apply cI_ltn) <;> omega) | ((with_reducible apply cI_nlt) <;> omega) | (with_reducible exact cI_lt)) (fun c9 => ?_) (fun c9 => by exfalso; first | omega | exact absurd trivial c9 | exact c9 | (simp at c9))
  refine g_iconst (v := nI 0) dX0_value_14 (by decide) ?_
  refine g_istore dX0_value_15 (by decide) rfl ?_
  refine g_aload_n dX0_value_17 rfl ?_
  refine g_getP dX0_value_18 fdX0_18 rfl (by first | exact s0 | exact s3 | rfl) (by omega) (by omega) (by decide) rfl (p4) ?_
  refine g_iload_n dX0_value_21 rfl ?_
  refine n_iald dX0_value_22 (by first | exact s0 | exact s3 | rfl) (by omega) (by omega) (by decide) (rfl) (by omega) (by repeat (first | exact a0 | exact c4 | (apply rd_s; done) | apply rd_n (by omega) | apply rp_s | apply rp_n (by omega) | (apply rdL_s; done) | apply rdL_n (by omega) | apply rpJ_s | apply rpJ_n (by omega) | rfl)) ?_
  refine g_istore dX0_value_23 (by decide) rfl ?_
  exact g_drop _ (by repeat (first | exact trivial | refine ⟨Or.inr ⟨_, rfl⟩, ?_⟩ | refine ⟨Or.inl rfl, ?_⟩)) go
end VA2
