/-! model: work -/
theorem nI_p1 (n : Nat) : nI (n + 1) - nI 1 = nI n := by rw [pk_sub (by omega), Nat.add_sub_cancel]
theorem iI_l {v : Int} (h : smI v) : (iI v).toInt64 = lI v := Int32.toInt64_ofInt (by unfold smI at h; rw [Int32.toInt_minValue]; omega) (by unfold smI at h; rw [Int32.toInt_maxValue]; omega)
def wkQ (I : pvI) (J : pvJ) (P : pvP) (r : List Int × List Bool) : pvQT := pvq P (fun v I' J' => v = none ∧ mfix I I' [221] ∧ (∀ x, x ≠ 220 → J' x = J x) ∧ vsA (J' 220) r.1 ∧ tsA (I' 221) r.2)
def codA (f : Nat → Int32) (t0 i : Nat) (e : List Nat) : Prop := ∀ j, j < e.length → f (t0 + 130 + 2 * (i + j)) = nI (itM (e.getD j 0)).1 ∧ f (t0 + 130 + 2 * (i + j) + 1) = nI (itM (e.getD j 0)).2
theorem codA_hd {f : Nat → Int32} {t0 i x : Nat} {e : List Nat} (h : codA f t0 i (x :: e)) : f (t0 + 130 + 2 * i) = nI (itM x).1 ∧ f (t0 + 130 + 2 * i + 1) = nI (itM x).2 := by
  have := h 0 (by simp)
  simpa using this
theorem codA_tl {f : Nat → Int32} {t0 i x : Nat} {e : List Nat} (h : codA f t0 i (x :: e)) : codA f t0 (i + 1) e := fun j hj => by
  have := h (j + 1) (by simp; omega)
  rw [show i + (j + 1) = i + 1 + j by omega] at this
  exact this
abbrev HW (cl : Nat) (Q : pvQT) (t0 nv nt i : Nat) (I : pvI) (J : pvJ) (P : pvP) : Prop := pvG mX12_work (pvR 2 0 0) (pvZ Q 0 0) 29 [.ref 202, .int (nI cl), .int (nI nv), .int (nI nt), .int (nI (t0 + 130)), .int (nI i), .retAddr 0, .retAddr 0] [] 0 0 224 I J P
section WORK
variable {t0 : Nat} {I : pvI} {J : pvJ} {P : pvP} {nm : Nat → Int} {srt : Nat}
theorem k_work {cl E : Nat} (hP : pvOkP P) (ht0 : t0 ≤ 7200) (hcl : cl + 5 < 8000) (h5 : I 205 (cl + 5) = nI E) (hE : E ≤ 300) (hnm : ∀ i, i < 8 → barB srt i = false → I 219 (mN i) = iI (nm i) ∧ smI (nm i)) : ∀ e i vs ts I1 J1, i + e.length = E → codA (I 205) t0 i e → (∀ x, x ∈ e → itOk srt x) → ck e (vs.length, ts.length) ≠ none → vs.length ≤ i → ts.length ≤ i → mfix I I1 [221] → (∀ x, x ≠ 220 → J1 x = J x) → vsA (J1 220) vs → tsA (I1 221) ts → (∀ v, v ∈ vs → smI v) → HW cl (wkQ I J P (evL nm e (vs, ts))) t0 vs.length ts.length i I1 J1 P := by
  intro e
  induction e with
  | nil =>
    intro i vs ts I1 J1 hi hc hk hck hn ht hf hj hv htt hs
    rw [List.length_nil] at hi
    obtain rfl : i = E := by omega
    have f5 : I1 205 (cl + 5) = nI i := by rw [hf 205 (by decide)]; exact h5
    refine g_iload dX12_work_29 rfl ?_
    refine g_aload_n dX12_work_31 rfl ?_
    refine g_getP dX12_work_32 fdX12_16 rfl (by first | rfl | exact pv_shx) (by omega) (by omega) (by decide) rfl (hP _ _ _ rfl) ?_
    refine g_iload_n dX12_work_35 rfl ?_
    refine g_iconst (v := nI 5) dX12_work_36 (by decide) ?_
    refine n_iadd dX12_work_37 (by first | (with_reducible exact nI_add _ _) | rfl) ?_
    refine n_iald dX12_work_38 (by first | rfl | exact pv_shx) (by omega) (by omega) (by decide) (rfl) (by omega) (by repeat (first | exact f5 | (apply rd_s; done) | apply rd_n (by omega) | apply rp_s | apply rp_n (by omega) | (apply rdL_s; done) | apply rdL_n (by omega) | apply rpJ_s | apply rpJ_n (by omega) | rfl)) ?_
    refine n_icmp_ge 327 dX12_work_39 (by decide) (by first | ((with_reducible apply cN_le) <;> omega) | ((with_reducible apply cI_len) <;> omega) | ((with_reducible apply cI_nle) <;> omega) | (with_reducible exact cI_le)) (fun c39 => ?_) (fun c39 => by exfalso; first | omega | exact absurd trivial c39 | exact c39)
    exact g_vret dX12_work_327 rfl (⟨rfl, rfl, rfl, hf, hj, hv, htt⟩)
  | cons x e ih =>
    intro i vs ts I1 J1 hi hc hk hck hn ht hf hj hv htt hs
    rw [List.length_cons] at hi
    have f5 : I1 205 (cl + 5) = nI E := by rw [hf 205 (by decide)]; exact h5
    have hx := hk x List.mem_cons_self
    have hk' : ∀ y, y ∈ e → itOk srt y := fun y hy => hk y (List.mem_cons_of_mem _ hy)
    have hc' := codA_tl hc
    obtain ⟨g1, g2⟩ := codA_hd hc
    rw [← hf 205 (by decide)] at g1 g2
    have ee : ∀ st, evL nm (x :: e) st = evL nm e (evI nm x st) := fun _ => rfl
    have ec : ck (x :: e) (vs.length, ts.length) = (ckI x vs.length ts.length).bind (ck e) := rfl
    rw [ee]
    rw [ec] at hck
    have jf : ∀ (g : Nat → Int64) y, y ≠ 220 → pvsJ J1 220 g y = J y := fun g y hy => by rw [pvsJ_ne hy]; exact hj y hy
    have mf : ∀ (g : Nat → Int32), mfix I (pvs I1 221 g) [221] := fun g y hy => by rw [pvs_ne (by simpa using hy)]; exact hf y hy
    rcases hx with hx | ⟨k, hk8, rfl, hbar⟩ | hx
    · rw [itM_num hx] at g1 g2
      have e1 : evI nm x (vs, ts) = ((x : Int) :: vs, ts) := by unfold evI; rw [if_pos hx]
      have e2 : ckI x vs.length ts.length = some (vs.length + 1, ts.length) := by unfold ckI; rw [if_pos (by omega)]
      rw [e2] at hck
      rw [e1]
      have nx := ih (i + 1) ((x : Int) :: vs) ts I1 (pvsJ J1 220 (vp_updL (J1 220) vs.length (lI x))) (by omega) hc' hk' hck (by rw [List.length_cons]; omega) (by omega) hf (jf _) (by rw [pvsJ_eq]; exact vsA_cons hv) htt (fun v hv' => (List.mem_cons.mp hv').elim (fun z => by subst z; unfold smI; omega) (fun z => hs v z))
      refine g_iload dX12_work_29 rfl ?_
      refine g_aload_n dX12_work_31 rfl ?_
      refine g_getP dX12_work_32 fdX12_16 rfl (by first | rfl | exact pv_shx) (by omega) (by omega) (by decide) rfl (hP _ _ _ rfl) ?_
      refine g_iload_n dX12_work_35 rfl ?_
      refine g_iconst (v := nI 5) dX12_work_36 (by decide) ?_
      refine n_iadd dX12_work_37 (by first | (with_reducible exact nI_add _ _) | rfl) ?_
      refine n_iald dX12_work_38 (by first | rfl | exact pv_shx) (by omega) (by omega) (by decide) (rfl) (by omega) (by repeat (first | exact f5 | exact g1 | exact g2 | (apply rd_s; done) | apply rd_n (by omega) | apply rp_s | apply rp_n (by omega) | (apply rdL_s; done) | apply rdL_n (by omega) | apply rpJ_s | apply rpJ_n (by omega) | rfl)) ?_
      refine n_icmp_ge 327 dX12_work_39 (by decide) (by first | ((with_reducible apply cN_le) <;> omega) | ((with_reducible apply cI_len) <;> omega) | ((with_reducible apply cI_nle) <;> omega) | (with_reducible exact cI_le)) (fun c39 => by exfalso; first | omega | exact absurd trivial c39 | exact c39) (fun c39 => ?_)
      refine g_aload_n dX12_work_42 rfl ?_
      refine g_getP dX12_work_43 fdX12_16 rfl (by first | rfl | exact pv_shx) (by omega) (by omega) (by decide) rfl (hP _ _ _ rfl) ?_
      refine g_iload dX12_work_46 rfl ?_
      refine g_iconst (v := nI 2) dX12_work_48 (by decide) ?_
      refine g_iload dX12_work_49 rfl ?_
      refine n_imul dX12_work_51 (by first | (with_reducible exact pk_mul _ _) | rfl) ?_
      refine n_iadd dX12_work_52 (by first | (with_reducible exact nI_add _ _) | rfl) ?_
      refine n_iald dX12_work_53 (by first | rfl | exact pv_shx) (by omega) (by omega) (by decide) (rfl) (by omega) (by repeat (first | exact f5 | exact g1 | exact g2 | (apply rd_s; done) | apply rd_n (by omega) | apply rp_s | apply rp_n (by omega) | (apply rdL_s; done) | apply rdL_n (by omega) | apply rpJ_s | apply rpJ_n (by omega) | rfl)) ?_
      refine g_istore dX12_work_54 (by decide) rfl ?_
      refine g_aload_n dX12_work_56 rfl ?_
      refine g_getP dX12_work_57 fdX12_16 rfl (by first | rfl | exact pv_shx) (by omega) (by omega) (by decide) rfl (hP _ _ _ rfl) ?_
      refine g_iload dX12_work_60 rfl ?_
      refine g_iconst (v := nI 2) dX12_work_62 (by decide) ?_
      refine g_iload dX12_work_63 rfl ?_
      refine n_imul dX12_work_65 (by first | (with_reducible exact pk_mul _ _) | rfl) ?_
      refine n_iadd dX12_work_66 (by first | (with_reducible exact nI_add _ _) | rfl) ?_
      refine g_iconst (v := nI 1) dX12_work_67 (by decide) ?_
      refine n_iadd dX12_work_68 (by first | (with_reducible exact nI_add _ _) | rfl) ?_
      refine n_iald dX12_work_69 (by first | rfl | exact pv_shx) (by omega) (by omega) (by decide) (rfl) (by omega) (by repeat (first | exact f5 | exact g1 | exact g2 | (apply rd_s; done) | apply rd_n (by omega) | apply rp_s | apply rp_n (by omega) | (apply rdL_s; done) | apply rdL_n (by omega) | apply rpJ_s | apply rpJ_n (by omega) | rfl)) ?_
      refine g_istore dX12_work_70 (by decide) rfl ?_
      refine g_iload dX12_work_72 rfl ?_
      refine g_iconst (v := nI 1) dX12_work_74 (by decide) ?_
      refine n_icmp_gt 109 dX12_work_75 (by decide) (by first | ((with_reducible apply cN_lt) <;> omega) | ((with_reducible apply cI_ltn) <;> omega) | ((with_reducible apply cI_nlt) <;> omega) | (with_reducible exact cI_lt)) (fun c75 => by exfalso; first | omega | exact absurd trivial c75 | exact c75) (fun c75 => ?_)
      refine g_aload_n dX12_work_78 rfl ?_
      refine g_getP dX12_work_79 fdX12_70 rfl (by first | rfl | exact pv_shx) (by omega) (by omega) (by decide) rfl (hP _ _ _ rfl) ?_
      refine g_iload_n dX12_work_82 rfl ?_
      refine g_iload dX12_work_83 rfl ?_
      refine n_if_ne 94 dX12_work_85 (by decide) (by first | (with_reducible exact cB _) | ((with_reducible apply cN_eq0) <;> omega) | exact Iff.rfl) (fun c85 => by exfalso; first | omega | exact absurd trivial c85 | exact c85) (fun c85 => ?_)
      refine g_iload dX12_work_88 rfl ?_
      refine n_i2l dX12_work_90 ((nI_l (by omega)).trans Int64.ofInt_eq_ofNat.symm) ?_
      refine g_goto 102 dX12_work_91 (by decide) ?_
      refine n_last dX12_work_102 (by first | rfl | exact pv_shx) (by omega) (by omega) (by omega) (by decide) (rfl) (by omega) (by repeat (first | exact pvu_s | exact pvuJ_s | apply pvu_in (by omega) | apply pvuJ_in (by omega) | exact pvu_pvs | exact pvuJ_pvs)) ?_
      refine g_iinc dX12_work_103 rfl (by first | (with_reducible exact nI_1 _) | exact nI_1 _ | exact pk_m1 _ | rfl) (by decide) rfl ?_
      refine g_goto 321 dX12_work_106 (by decide) ?_
      refine g_iinc dX12_work_321 rfl (by first | (with_reducible exact nI_1 _) | exact nI_1 _ | exact pk_m1 _ | rfl) (by decide) rfl ?_
      refine g_goto 29 dX12_work_324 (by decide) ?_
      exact g_drop _ (by repeat (first | exact trivial | refine ⟨Or.inr ⟨_, rfl⟩, ?_⟩ | refine ⟨Or.inl rfl, ?_⟩)) nx
    · rw [itM_nam hk8] at g1 g2
      obtain ⟨n1, n2⟩ := hnm k hk8 hbar
      rw [← hf 219 (by decide)] at n1
      have m8 := mN_lt k hk8
      have e1 : evI nm (10000 + k) (vs, ts) = (nm k :: vs, ts) := by unfold evI; rw [if_neg (by omega), if_pos (by omega), Nat.add_sub_cancel_left]
      have e2 : ckI (10000 + k) vs.length ts.length = some (vs.length + 1, ts.length) := by unfold ckI; rw [if_pos (by omega)]
      rw [e2] at hck
      rw [e1]
      have nx := ih (i + 1) (nm k :: vs) ts I1 (pvsJ J1 220 (vp_updL (J1 220) vs.length (lI (nm k)))) (by omega) hc' hk' hck (by rw [List.length_cons]; omega) (by omega) hf (jf _) (by rw [pvsJ_eq]; exact vsA_cons hv) htt (fun v hv' => (List.mem_cons.mp hv').elim (fun z => by subst z; exact n2) (fun z => hs v z))
      refine g_iload dX12_work_29 rfl ?_
      refine g_aload_n dX12_work_31 rfl ?_
      refine g_getP dX12_work_32 fdX12_16 rfl (by first | rfl | exact pv_shx) (by omega) (by omega) (by decide) rfl (hP _ _ _ rfl) ?_
      refine g_iload_n dX12_work_35 rfl ?_
      refine g_iconst (v := nI 5) dX12_work_36 (by decide) ?_
      refine n_iadd dX12_work_37 (by first | (with_reducible exact nI_add _ _) | rfl) ?_
      refine n_iald dX12_work_38 (by first | rfl | exact pv_shx) (by omega) (by omega) (by decide) (rfl) (by omega) (by repeat (first | exact f5 | exact g1 | exact g2 | exact n1 | (apply rd_s; done) | apply rd_n (by omega) | apply rp_s | apply rp_n (by omega) | (apply rdL_s; done) | apply rdL_n (by omega) | apply rpJ_s | apply rpJ_n (by omega) | rfl)) ?_
      refine n_icmp_ge 327 dX12_work_39 (by decide) (by first | ((with_reducible apply cN_le) <;> omega) | ((with_reducible apply cI_len) <;> omega) | ((with_reducible apply cI_nle) <;> omega) | (with_reducible exact cI_le)) (fun c39 => by exfalso; first | omega | exact absurd trivial c39 | exact c39) (fun c39 => ?_)
      refine g_aload_n dX12_work_42 rfl ?_
      refine g_getP dX12_work_43 fdX12_16 rfl (by first | rfl | exact pv_shx) (by omega) (by omega) (by decide) rfl (hP _ _ _ rfl) ?_
      refine g_iload dX12_work_46 rfl ?_
      refine g_iconst (v := nI 2) dX12_work_48 (by decide) ?_
      refine g_iload dX12_work_49 rfl ?_
      refine n_imul dX12_work_51 (by first | (with_reducible exact pk_mul _ _) | rfl) ?_
      refine n_iadd dX12_work_52 (by first | (with_reducible exact nI_add _ _) | rfl) ?_
      refine n_iald dX12_work_53 (by first | rfl | exact pv_shx) (by omega) (by omega) (by decide) (rfl) (by omega) (by repeat (first | exact f5 | exact g1 | exact g2 | exact n1 | (apply rd_s; done) | apply rd_n (by omega) | apply rp_s | apply rp_n (by omega) | (apply rdL_s; done) | apply rdL_n (by omega) | apply rpJ_s | apply rpJ_n (by omega) | rfl)) ?_
      refine g_istore dX12_work_54 (by decide) rfl ?_
      refine g_aload_n dX12_work_56 rfl ?_
      refine g_getP dX12_work_57 fdX12_16 rfl (by first | rfl | exact pv_shx) (by omega) (by omega) (by decide) rfl (hP _ _ _ rfl) ?_
      refine g_iload dX12_work_60 rfl ?_
      refine g_iconst (v := nI 2) dX12_work_62 (by decide) ?_
      refine g_iload dX12_work_63 rfl ?_
      refine n_imul dX12_work_65 (by first | (with_reducible exact pk_mul _ _) | rfl) ?_
      refine n_iadd dX12_work_66 (by first | (with_reducible exact nI_add _ _) | rfl) ?_
      refine g_iconst (v := nI 1) dX12_work_67 (by decide) ?_
      refine n_iadd dX12_work_68 (by first | (with_reducible exact nI_add _ _) | rfl) ?_
      refine n_iald dX12_work_69 (by first | rfl | exact pv_shx) (by omega) (by omega) (by decide) (rfl) (by omega) (by repeat (first | exact f5 | exact g1 | exact g2 | exact n1 | (apply rd_s; done) | apply rd_n (by omega) | apply rp_s | apply rp_n (by omega) | (apply rdL_s; done) | apply rdL_n (by omega) | apply rpJ_s | apply rpJ_n (by omega) | rfl)) ?_
      refine g_istore dX12_work_70 (by decide) rfl ?_
      refine g_iload dX12_work_72 rfl ?_
      refine g_iconst (v := nI 1) dX12_work_74 (by decide) ?_
      refine n_icmp_gt 109 dX12_work_75 (by decide) (by first | ((with_reducible apply cN_lt) <;> omega) | ((with_reducible apply cI_ltn) <;> omega) | ((with_reducible apply cI_nlt) <;> omega) | (with_reducible exact cI_lt)) (fun c75 => by exfalso; first | omega | exact absurd trivial c75 | exact c75) (fun c75 => ?_)
      refine g_aload_n dX12_work_78 rfl ?_
      refine g_getP dX12_work_79 fdX12_70 rfl (by first | rfl | exact pv_shx) (by omega) (by omega) (by decide) rfl (hP _ _ _ rfl) ?_
      refine g_iload_n dX12_work_82 rfl ?_
      refine g_iload dX12_work_83 rfl ?_
      refine n_if_ne 94 dX12_work_85 (by decide) (by first | (with_reducible exact cB _) | ((with_reducible apply cN_eq0) <;> omega) | exact Iff.rfl) (fun c85 => ?_) (fun c85 => by exfalso; first | omega | exact absurd trivial c85 | exact c85)
      refine g_aload_n dX12_work_94 rfl ?_
      refine g_getP dX12_work_95 fdX12_67 rfl (by first | rfl | exact pv_shx) (by omega) (by omega) (by decide) rfl (hP _ _ _ rfl) ?_
      refine g_iload dX12_work_98 rfl ?_
      refine n_iald dX12_work_100 (by first | rfl | exact pv_shx) (by omega) (by omega) (by decide) (rfl) (by omega) (by repeat (first | exact f5 | exact g1 | exact g2 | exact n1 | (apply rd_s; done) | apply rd_n (by omega) | apply rp_s | apply rp_n (by omega) | (apply rdL_s; done) | apply rdL_n (by omega) | apply rpJ_s | apply rpJ_n (by omega) | rfl)) ?_
      refine n_i2l dX12_work_101 (iI_l n2) ?_
      refine n_last dX12_work_102 (by first | rfl | exact pv_shx) (by omega) (by omega) (by omega) (by decide) (rfl) (by omega) (by repeat (first | exact pvu_s | exact pvuJ_s | apply pvu_in (by omega) | apply pvuJ_in (by omega) | exact pvu_pvs | exact pvuJ_pvs)) ?_
      refine g_iinc dX12_work_103 rfl (by first | (with_reducible exact nI_1 _) | exact nI_1 _ | exact pk_m1 _ | rfl) (by decide) rfl ?_
      refine g_goto 321 dX12_work_106 (by decide) ?_
      refine g_iinc dX12_work_321 rfl (by first | (with_reducible exact nI_1 _) | exact nI_1 _ | exact pk_m1 _ | rfl) (by decide) rfl ?_
      refine g_goto 29 dX12_work_324 (by decide) ?_
      exact g_drop _ (by repeat (first | exact trivial | refine ⟨Or.inr ⟨_, rfl⟩, ?_⟩ | refine ⟨Or.inl rfl, ?_⟩)) nx
    · obtain ⟨h20, o2, o22, oc⟩ := itS_ok x hx
      have e0 : ∀ st, evI nm x st = if (itM x).1 = 2 then (match st.1 with | a :: r => (-a :: r, st.2) | [] => st) else if (itM x).1 < 10 then (match st.1 with | b :: a :: r => (arX (itM x).1 a b :: r, st.2) | _ => st) else if (itM x).1 < 20 then (match st.1 with | b :: a :: r => (r, cpO (itM x).1 a b :: st.2) | _ => st) else if (itM x).1 = 20 then (match st.2 with | t :: r => (st.1, (!t) :: r) | [] => st) else if (itM x).1 = 21 then (match st.2 with | u :: t :: r => (st.1, (t && u) :: r) | _ => st) else (match st.2 with | u :: t :: r => (st.1, (t || u) :: r) | _ => st) := fun st => by unfold evI; rw [if_neg (by omega), if_neg (by omega)]; rfl
      have c0 : ckI x vs.length ts.length = if (itM x).1 = 2 then (if 1 ≤ vs.length then some (vs.length, ts.length) else none) else if (itM x).1 < 10 then (if 2 ≤ vs.length then some (vs.length - 1, ts.length) else none) else if (itM x).1 < 20 then (if vs.length = 2 then some (0, ts.length + 1) else none) else if (itM x).1 = 20 then (if vs.length = 0 ∧ 1 ≤ ts.length then some (vs.length, ts.length) else none) else (if vs.length = 0 ∧ 2 ≤ ts.length then some (vs.length, ts.length - 1) else none) := by unfold ckI; rw [if_neg (by omega)]
      rw [c0] at hck
      rw [e0]
      generalize (itM x).1 = o at *
      by_cases q1 : o = 2
      · subst q1
        rw [if_pos rfl] at hck ⊢
        match vs, hn, hv, hs, hck with
        | [], hn, hv, hs, hck => exact absurd rfl hck
        | a :: r, hn, hv, hs, hck =>
          rw [if_pos (by rw [List.length_cons]; omega)] at hck
          have sa := hs a List.mem_cons_self
          rw [List.length_cons] at hn
          have nx := ih (i + 1) (-a :: r) ts I1 (pvsJ J1 220 (vp_updL (J1 220) r.length (lI (-a)))) (by omega) hc' hk' hck (by rw [List.length_cons]; omega) (by omega) hf (jf _) (by rw [pvsJ_eq]; exact vsA_cons (vsA_tl hv)) htt (fun v hv' => (List.mem_cons.mp hv').elim (fun z => by subst z; unfold smI at sa ⊢; omega) (fun z => hs v (List.mem_cons_of_mem _ z)))
          show HW cl _ t0 (r.length + 1) ts.length i I1 J1 P
          refine g_iload dX12_work_29 rfl ?_
          refine g_aload_n dX12_work_31 rfl ?_
          refine g_getP dX12_work_32 fdX12_16 rfl (by first | rfl | exact pv_shx) (by omega) (by omega) (by decide) rfl (hP _ _ _ rfl) ?_
          refine g_iload_n dX12_work_35 rfl ?_
          refine g_iconst (v := nI 5) dX12_work_36 (by decide) ?_
          refine n_iadd dX12_work_37 (by first | (with_reducible exact nI_add _ _) | rfl) ?_
          refine n_iald dX12_work_38 (by first | rfl | exact pv_shx) (by omega) (by omega) (by decide) (rfl) (by omega) (by repeat (first | exact f5 | exact g1 | exact g2 | (apply rd_s; done) | apply rd_n (by omega) | apply rp_s | apply rp_n (by omega) | (apply rdL_s; done) | apply rdL_n (by omega) | apply rpJ_s | apply rpJ_n (by omega) | rfl)) ?_
          refine n_icmp_ge 327 dX12_work_39 (by decide) (by first | ((with_reducible apply cN_le) <;> omega) | ((with_reducible apply cI_len) <;> omega) | ((with_reducible apply cI_nle) <;> omega) | (with_reducible exact cI_le)) (fun c39 => by exfalso; first | omega | exact absurd trivial c39 | exact c39) (fun c39 => ?_)
          refine g_aload_n dX12_work_42 rfl ?_
          refine g_getP dX12_work_43 fdX12_16 rfl (by first | rfl | exact pv_shx) (by omega) (by omega) (by decide) rfl (hP _ _ _ rfl) ?_
          refine g_iload dX12_work_46 rfl ?_
          refine g_iconst (v := nI 2) dX12_work_48 (by decide) ?_
          refine g_iload dX12_work_49 rfl ?_
          refine n_imul dX12_work_51 (by first | (with_reducible exact pk_mul _ _) | rfl) ?_
          refine n_iadd dX12_work_52 (by first | (with_reducible exact nI_add _ _) | rfl) ?_
          refine n_iald dX12_work_53 (by first | rfl | exact pv_shx) (by omega) (by omega) (by decide) (rfl) (by omega) (by repeat (first | exact f5 | exact g1 | exact g2 | (apply rd_s; done) | apply rd_n (by omega) | apply rp_s | apply rp_n (by omega) | (apply rdL_s; done) | apply rdL_n (by omega) | apply rpJ_s | apply rpJ_n (by omega) | rfl)) ?_
          refine g_istore dX12_work_54 (by decide) rfl ?_
          refine g_aload_n dX12_work_56 rfl ?_
          refine g_getP dX12_work_57 fdX12_16 rfl (by first | rfl | exact pv_shx) (by omega) (by omega) (by decide) rfl (hP _ _ _ rfl) ?_
          refine g_iload dX12_work_60 rfl ?_
          refine g_iconst (v := nI 2) dX12_work_62 (by decide) ?_
          refine g_iload dX12_work_63 rfl ?_
          refine n_imul dX12_work_65 (by first | (with_reducible exact pk_mul _ _) | rfl) ?_
          refine n_iadd dX12_work_66 (by first | (with_reducible exact nI_add _ _) | rfl) ?_
          refine g_iconst (v := nI 1) dX12_work_67 (by decide) ?_
          refine n_iadd dX12_work_68 (by first | (with_reducible exact nI_add _ _) | rfl) ?_
          refine n_iald dX12_work_69 (by first | rfl | exact pv_shx) (by omega) (by omega) (by decide) (rfl) (by omega) (by repeat (first | exact f5 | exact g1 | exact g2 | (apply rd_s; done) | apply rd_n (by omega) | apply rp_s | apply rp_n (by omega) | (apply rdL_s; done) | apply rdL_n (by omega) | apply rpJ_s | apply rpJ_n (by omega) | rfl)) ?_
          refine g_istore dX12_work_70 (by decide) rfl ?_
          refine g_iload dX12_work_72 rfl ?_
          refine g_iconst (v := nI 1) dX12_work_74 (by decide) ?_
          refine n_icmp_gt 109 dX12_work_75 (by decide) (by first | ((with_reducible apply cN_lt) <;> omega) | ((with_reducible apply cI_ltn) <;> omega) | ((with_reducible apply cI_nlt) <;> omega) | (with_reducible exact cI_lt)) (fun c75 => ?_) (fun c75 => by exfalso; first | omega | exact absurd trivial c75 | exact c75)
          refine g_iload dX12_work_109 rfl ?_
          refine g_iconst (v := nI 2) dX12_work_111 (by decide) ?_
          refine n_icmp_ne 135 dX12_work_112 (by decide) (by first | ((with_reducible apply cN_eq) <;> omega) | ((with_reducible apply cI_eqn) <;> omega) | exact Iff.rfl) (fun c112 => by exfalso; first | omega | exact absurd trivial c112 | exact c112) (fun c112 => ?_)
          refine g_aload_n dX12_work_115 rfl ?_
          refine g_getP dX12_work_116 fdX12_70 rfl (by first | rfl | exact pv_shx) (by omega) (by omega) (by decide) rfl (hP _ _ _ rfl) ?_
          refine g_iload_n dX12_work_119 rfl ?_
          refine g_iconst (v := nI 1) dX12_work_120 (by decide) ?_
          refine n_isub dX12_work_121 (nI_p1 _) ?_
          refine g_aload_n dX12_work_122 rfl ?_
          refine g_getP dX12_work_123 fdX12_70 rfl (by first | rfl | exact pv_shx) (by omega) (by omega) (by decide) rfl (hP _ _ _ rfl) ?_
          refine g_iload_n dX12_work_126 rfl ?_
          refine g_iconst (v := nI 1) dX12_work_127 (by decide) ?_
          refine n_isub dX12_work_128 (nI_p1 _) ?_
          refine n_lald dX12_work_129 (by first | rfl | exact pv_shx) (by omega) (by omega) (by decide) (rfl) (by omega) (vsA_hd hv) ?_
          refine n_lneg dX12_work_130 ((Int64.ofInt_neg a).symm) ?_
          refine n_last dX12_work_131 (by first | rfl | exact pv_shx) (by omega) (by omega) (by omega) (by decide) (rfl) (by omega) (by repeat (first | exact pvu_s | exact pvuJ_s | apply pvu_in (by omega) | apply pvuJ_in (by omega) | exact pvu_pvs | exact pvuJ_pvs)) ?_
          refine g_goto 321 dX12_work_132 (by decide) ?_
          refine g_iinc dX12_work_321 rfl (by first | (with_reducible exact nI_1 _) | exact nI_1 _ | exact pk_m1 _ | rfl) (by decide) rfl ?_
          refine g_goto 29 dX12_work_324 (by decide) ?_
          exact g_drop _ (by repeat (first | exact trivial | refine ⟨Or.inr ⟨_, rfl⟩, ?_⟩ | refine ⟨Or.inl rfl, ?_⟩)) nx
      · rw [if_neg q1] at hck ⊢
        by_cases q2 : o < 10
        · rw [if_pos q2] at hck ⊢
          match vs, hn, hv, hs, hck with
          | [], hn, hv, hs, hck => exact absurd rfl hck
          | [a], hn, hv, hs, hck => exact absurd rfl hck
          | b :: a :: r, hn, hv, hs, hck =>
            rw [if_pos (by rw [List.length_cons, List.length_cons]; omega)] at hck
            have sb := hs b List.mem_cons_self
            have sa := hs a (List.mem_cons_of_mem _ List.mem_cons_self)
            rw [List.length_cons, List.length_cons] at hn
            have nx := ih (i + 1) (arX o a b :: r) ts I1 (pvsJ J1 220 (vp_updL (J1 220) r.length (lI (arX o a b)))) (by omega) hc' hk' hck (by rw [List.length_cons]; omega) (by omega) hf (jf _) (by rw [pvsJ_eq]; exact vsA_cons (vsA_tl (vsA_tl hv))) htt (fun v hv' => (List.mem_cons.mp hv').elim (fun z => by subst z; exact arX_sm) (fun z => hs v (List.mem_cons_of_mem _ (List.mem_cons_of_mem _ z))))
            show HW cl _ t0 (r.length + 1 + 1) ts.length i I1 J1 P
            refine g_iload dX12_work_29 rfl ?_
            refine g_aload_n dX12_work_31 rfl ?_
            refine g_getP dX12_work_32 fdX12_16 rfl (by first | rfl | exact pv_shx) (by omega) (by omega) (by decide) rfl (hP _ _ _ rfl) ?_
            refine g_iload_n dX12_work_35 rfl ?_
            refine g_iconst (v := nI 5) dX12_work_36 (by decide) ?_
            refine n_iadd dX12_work_37 (by first | (with_reducible exact nI_add _ _) | rfl) ?_
            refine n_iald dX12_work_38 (by first | rfl | exact pv_shx) (by omega) (by omega) (by decide) (rfl) (by omega) (by repeat (first | exact f5 | exact g1 | exact g2 | (apply rd_s; done) | apply rd_n (by omega) | apply rp_s | apply rp_n (by omega) | (apply rdL_s; done) | apply rdL_n (by omega) | apply rpJ_s | apply rpJ_n (by omega) | rfl)) ?_
            refine n_icmp_ge 327 dX12_work_39 (by decide) (by first | ((with_reducible apply cN_le) <;> omega) | ((with_reducible apply cI_len) <;> omega) | ((with_reducible apply cI_nle) <;> omega) | (with_reducible exact cI_le)) (fun c39 => by exfalso; first | omega | exact absurd trivial c39 | exact c39) (fun c39 => ?_)
            refine g_aload_n dX12_work_42 rfl ?_
            refine g_getP dX12_work_43 fdX12_16 rfl (by first | rfl | exact pv_shx) (by omega) (by omega) (by decide) rfl (hP _ _ _ rfl) ?_
            refine g_iload dX12_work_46 rfl ?_
            refine g_iconst (v := nI 2) dX12_work_48 (by decide) ?_
            refine g_iload dX12_work_49 rfl ?_
            refine n_imul dX12_work_51 (by first | (with_reducible exact pk_mul _ _) | rfl) ?_
            refine n_iadd dX12_work_52 (by first | (with_reducible exact nI_add _ _) | rfl) ?_
            refine n_iald dX12_work_53 (by first | rfl | exact pv_shx) (by omega) (by omega) (by decide) (rfl) (by omega) (by repeat (first | exact f5 | exact g1 | exact g2 | (apply rd_s; done) | apply rd_n (by omega) | apply rp_s | apply rp_n (by omega) | (apply rdL_s; done) | apply rdL_n (by omega) | apply rpJ_s | apply rpJ_n (by omega) | rfl)) ?_
            refine g_istore dX12_work_54 (by decide) rfl ?_
            refine g_aload_n dX12_work_56 rfl ?_
            refine g_getP dX12_work_57 fdX12_16 rfl (by first | rfl | exact pv_shx) (by omega) (by omega) (by decide) rfl (hP _ _ _ rfl) ?_
            refine g_iload dX12_work_60 rfl ?_
            refine g_iconst (v := nI 2) dX12_work_62 (by decide) ?_
            refine g_iload dX12_work_63 rfl ?_
            refine n_imul dX12_work_65 (by first | (with_reducible exact pk_mul _ _) | rfl) ?_
            refine n_iadd dX12_work_66 (by first | (with_reducible exact nI_add _ _) | rfl) ?_
            refine g_iconst (v := nI 1) dX12_work_67 (by decide) ?_
            refine n_iadd dX12_work_68 (by first | (with_reducible exact nI_add _ _) | rfl) ?_
            refine n_iald dX12_work_69 (by first | rfl | exact pv_shx) (by omega) (by omega) (by decide) (rfl) (by omega) (by repeat (first | exact f5 | exact g1 | exact g2 | (apply rd_s; done) | apply rd_n (by omega) | apply rp_s | apply rp_n (by omega) | (apply rdL_s; done) | apply rdL_n (by omega) | apply rpJ_s | apply rpJ_n (by omega) | rfl)) ?_
            refine g_istore dX12_work_70 (by decide) rfl ?_
            refine g_iload dX12_work_72 rfl ?_
            refine g_iconst (v := nI 1) dX12_work_74 (by decide) ?_
            refine n_icmp_gt 109 dX12_work_75 (by decide) (by first | ((with_reducible apply cN_lt) <;> omega) | ((with_reducible apply cI_ltn) <;> omega) | ((with_reducible apply cI_nlt) <;> omega) | (with_reducible exact cI_lt)) (fun c75 => ?_) (fun c75 => by exfalso; first | omega | exact absurd trivial c75 | exact c75)
            refine g_iload dX12_work_109 rfl ?_
            refine g_iconst (v := nI 2) dX12_work_111 (by decide) ?_
            refine n_icmp_ne 135 dX12_work_112 (by decide) (by first | ((with_reducible apply cN_eq) <;> omega) | ((with_reducible apply cI_eqn) <;> omega) | exact Iff.rfl) (fun c112 => ?_) (fun c112 => by exfalso; first | omega | exact absurd trivial c112 | exact c112)
            refine g_iload dX12_work_135 rfl ?_
            refine g_bipush (v := nI 10) dX12_work_137 (by decide) ?_
            refine n_icmp_ge 175 dX12_work_139 (by decide) (by first | ((with_reducible apply cN_le) <;> omega) | ((with_reducible apply cI_len) <;> omega) | ((with_reducible apply cI_nle) <;> omega) | (with_reducible exact cI_le)) (fun c139 => by exfalso; first | omega | exact absurd trivial c139 | exact c139) (fun c139 => ?_)
            refine g_iinc dX12_work_142 rfl (pk_m1 _) (by decide) rfl ?_
            refine g_aload_n dX12_work_145 rfl ?_
            refine g_getP dX12_work_146 fdX12_70 rfl (by first | rfl | exact pv_shx) (by omega) (by omega) (by decide) rfl (hP _ _ _ rfl) ?_
            refine g_iload_n dX12_work_149 rfl ?_
            refine g_iconst (v := nI 1) dX12_work_150 (by decide) ?_
            refine n_isub dX12_work_151 (nI_p1 _) ?_
            refine g_iload dX12_work_152 rfl ?_
            refine g_aload_n dX12_work_154 rfl ?_
            refine g_getP dX12_work_155 fdX12_70 rfl (by first | rfl | exact pv_shx) (by omega) (by omega) (by decide) rfl (hP _ _ _ rfl) ?_
            refine g_iload_n dX12_work_158 rfl ?_
            refine g_iconst (v := nI 1) dX12_work_159 (by decide) ?_
            refine n_isub dX12_work_160 (nI_p1 _) ?_
            refine n_lald dX12_work_161 (by first | rfl | exact pv_shx) (by omega) (by omega) (by decide) (rfl) (by omega) (vsA_hd (vsA_tl hv)) ?_
            refine g_aload_n dX12_work_162 rfl ?_
            refine g_getP dX12_work_163 fdX12_70 rfl (by first | rfl | exact pv_shx) (by omega) (by omega) (by decide) rfl (hP _ _ _ rfl) ?_
            refine g_iload_n dX12_work_166 rfl ?_
            refine n_lald dX12_work_167 (by first | rfl | exact pv_shx) (by omega) (by omega) (by decide) (rfl) (by omega) (vsA_hd hv) ?_
            refine p_callS (t_two ⟨by omega, by omega⟩ sa sb) okX12_two lkX12_328 rfl dX12_work_168 rfl (Nat.le_of_ble_eq_true rfl) (⟨by decide, by decide, by decide, by decide⟩) ?_
            refine n_last dX12_work_171 (by first | rfl | exact pv_shx) (by omega) (by omega) (by omega) (by decide) (rfl) (by omega) (by repeat (first | exact pvu_s | exact pvuJ_s | apply pvu_in (by omega) | apply pvuJ_in (by omega) | exact pvu_pvs | exact pvuJ_pvs)) ?_
            refine g_goto 321 dX12_work_172 (by decide) ?_
            refine g_iinc dX12_work_321 rfl (by first | (with_reducible exact nI_1 _) | exact nI_1 _ | exact pk_m1 _ | rfl) (by decide) rfl ?_
            refine g_goto 29 dX12_work_324 (by decide) ?_
            exact g_drop _ (by repeat (first | exact trivial | refine ⟨Or.inr ⟨_, rfl⟩, ?_⟩ | refine ⟨Or.inl rfl, ?_⟩)) nx
        · rw [if_neg q2] at hck ⊢
          by_cases q3 : o < 20
          · rw [if_pos q3] at hck ⊢
            match vs, hn, hv, hs, hck with
            | [], hn, hv, hs, hck => exact absurd rfl hck
            | [a], hn, hv, hs, hck => exact absurd rfl hck
            | b :: a :: c :: r, hn, hv, hs, hck => rw [if_neg (by simp)] at hck; exact absurd rfl hck
            | [b, a], hn, hv, hs, hck =>
              rw [if_pos (show [b, a].length = 2 from rfl)] at hck
              have sb := hs b List.mem_cons_self
              have sa := hs a (List.mem_cons_of_mem _ List.mem_cons_self)
              have nx := ih (i + 1) [] (cpO o a b :: ts) (pvs I1 221 (upd (I1 221) ts.length (if cpO o a b = true then 1 else 0))) J1 (by omega) hc' hk' hck (Nat.zero_le _) (by rw [List.length_cons]; omega) (mf _) hj (fun i hi => absurd hi (Nat.not_lt_zero i)) (by rw [pvs_eq]; exact tsA_cons rfl htt) (fun v hv' => absurd hv' List.not_mem_nil)
              show HW cl _ t0 2 ts.length i I1 J1 P
              refine g_iload dX12_work_29 rfl ?_
              refine g_aload_n dX12_work_31 rfl ?_
              refine g_getP dX12_work_32 fdX12_16 rfl (by first | rfl | exact pv_shx) (by omega) (by omega) (by decide) rfl (hP _ _ _ rfl) ?_
              refine g_iload_n dX12_work_35 rfl ?_
              refine g_iconst (v := nI 5) dX12_work_36 (by decide) ?_
              refine n_iadd dX12_work_37 (by first | (with_reducible exact nI_add _ _) | rfl) ?_
              refine n_iald dX12_work_38 (by first | rfl | exact pv_shx) (by omega) (by omega) (by decide) (rfl) (by omega) (by repeat (first | exact f5 | exact g1 | exact g2 | (apply rd_s; done) | apply rd_n (by omega) | apply rp_s | apply rp_n (by omega) | (apply rdL_s; done) | apply rdL_n (by omega) | apply rpJ_s | apply rpJ_n (by omega) | rfl)) ?_
              refine n_icmp_ge 327 dX12_work_39 (by decide) (by first | ((with_reducible apply cN_le) <;> omega) | ((with_reducible apply cI_len) <;> omega) | ((with_reducible apply cI_nle) <;> omega) | (with_reducible exact cI_le)) (fun c39 => by exfalso; first | omega | exact absurd trivial c39 | exact c39) (fun c39 => ?_)
              refine g_aload_n dX12_work_42 rfl ?_
              refine g_getP dX12_work_43 fdX12_16 rfl (by first | rfl | exact pv_shx) (by omega) (by omega) (by decide) rfl (hP _ _ _ rfl) ?_
              refine g_iload dX12_work_46 rfl ?_
              refine g_iconst (v := nI 2) dX12_work_48 (by decide) ?_
              refine g_iload dX12_work_49 rfl ?_
              refine n_imul dX12_work_51 (by first | (with_reducible exact pk_mul _ _) | rfl) ?_
              refine n_iadd dX12_work_52 (by first | (with_reducible exact nI_add _ _) | rfl) ?_
              refine n_iald dX12_work_53 (by first | rfl | exact pv_shx) (by omega) (by omega) (by decide) (rfl) (by omega) (by repeat (first | exact f5 | exact g1 | exact g2 | (apply rd_s; done) | apply rd_n (by omega) | apply rp_s | apply rp_n (by omega) | (apply rdL_s; done) | apply rdL_n (by omega) | apply rpJ_s | apply rpJ_n (by omega) | rfl)) ?_
              refine g_istore dX12_work_54 (by decide) rfl ?_
              refine g_aload_n dX12_work_56 rfl ?_
              refine g_getP dX12_work_57 fdX12_16 rfl (by first | rfl | exact pv_shx) (by omega) (by omega) (by decide) rfl (hP _ _ _ rfl) ?_
              refine g_iload dX12_work_60 rfl ?_
              refine g_iconst (v := nI 2) dX12_work_62 (by decide) ?_
              refine g_iload dX12_work_63 rfl ?_
              refine n_imul dX12_work_65 (by first | (with_reducible exact pk_mul _ _) | rfl) ?_
              refine n_iadd dX12_work_66 (by first | (with_reducible exact nI_add _ _) | rfl) ?_
              refine g_iconst (v := nI 1) dX12_work_67 (by decide) ?_
              refine n_iadd dX12_work_68 (by first | (with_reducible exact nI_add _ _) | rfl) ?_
              refine n_iald dX12_work_69 (by first | rfl | exact pv_shx) (by omega) (by omega) (by decide) (rfl) (by omega) (by repeat (first | exact f5 | exact g1 | exact g2 | (apply rd_s; done) | apply rd_n (by omega) | apply rp_s | apply rp_n (by omega) | (apply rdL_s; done) | apply rdL_n (by omega) | apply rpJ_s | apply rpJ_n (by omega) | rfl)) ?_
              refine g_istore dX12_work_70 (by decide) rfl ?_
              refine g_iload dX12_work_72 rfl ?_
              refine g_iconst (v := nI 1) dX12_work_74 (by decide) ?_
              refine n_icmp_gt 109 dX12_work_75 (by decide) (by first | ((with_reducible apply cN_lt) <;> omega) | ((with_reducible apply cI_ltn) <;> omega) | ((with_reducible apply cI_nlt) <;> omega) | (with_reducible exact cI_lt)) (fun c75 => ?_) (fun c75 => by exfalso; first | omega | exact absurd trivial c75 | exact c75)
              refine g_iload dX12_work_109 rfl ?_
              refine g_iconst (v := nI 2) dX12_work_111 (by decide) ?_
              refine n_icmp_ne 135 dX12_work_112 (by decide) (by first | ((with_reducible apply cN_eq) <;> omega) | ((with_reducible apply cI_eqn) <;> omega) | exact Iff.rfl) (fun c112 => ?_) (fun c112 => by exfalso; first | omega | exact absurd trivial c112 | exact c112)
              refine g_iload dX12_work_135 rfl ?_
              refine g_bipush (v := nI 10) dX12_work_137 (by decide) ?_
              refine n_icmp_ge 175 dX12_work_139 (by decide) (by first | ((with_reducible apply cN_le) <;> omega) | ((with_reducible apply cI_len) <;> omega) | ((with_reducible apply cI_nle) <;> omega) | (with_reducible exact cI_le)) (fun c139 => ?_) (fun c139 => by exfalso; first | omega | exact absurd trivial c139 | exact c139)
              refine g_iload dX12_work_175 rfl ?_
              refine g_bipush (v := nI 20) dX12_work_177 (by decide) ?_
              refine n_icmp_ge 216 dX12_work_179 (by decide) (by first | ((with_reducible apply cN_le) <;> omega) | ((with_reducible apply cI_len) <;> omega) | ((with_reducible apply cI_nle) <;> omega) | (with_reducible exact cI_le)) (fun c179 => by exfalso; first | omega | exact absurd trivial c179 | exact c179) (fun c179 => ?_)
              refine g_iinc dX12_work_182 rfl ((by decide : nI 2 + Int32.ofInt (-2) = nI 0)) (by decide) rfl ?_
              refine g_aload_n dX12_work_185 rfl ?_
              refine g_getP dX12_work_186 fdX12_74 rfl (by first | rfl | exact pv_shx) (by omega) (by omega) (by decide) rfl (hP _ _ _ rfl) ?_
              refine g_iload_n dX12_work_189 rfl ?_
              refine g_iload dX12_work_190 rfl ?_
              refine g_aload_n dX12_work_192 rfl ?_
              refine g_getP dX12_work_193 fdX12_70 rfl (by first | rfl | exact pv_shx) (by omega) (by omega) (by decide) rfl (hP _ _ _ rfl) ?_
              refine g_iload_n dX12_work_196 rfl ?_
              refine n_lald dX12_work_197 (by first | rfl | exact pv_shx) (by omega) (by omega) (by decide) (rfl) (by omega) (vsA_hd (vsA_tl hv)) ?_
              refine g_aload_n dX12_work_198 rfl ?_
              refine g_getP dX12_work_199 fdX12_70 rfl (by first | rfl | exact pv_shx) (by omega) (by omega) (by decide) rfl (hP _ _ _ rfl) ?_
              refine g_iload_n dX12_work_202 rfl ?_
              refine g_iconst (v := nI 1) dX12_work_203 (by decide) ?_
              refine n_iadd dX12_work_204 (by first | (with_reducible exact nI_add _ _) | rfl) ?_
              refine n_lald dX12_work_205 (by first | rfl | exact pv_shx) (by omega) (by omega) (by decide) (rfl) (by omega) (vsA_hd hv) ?_
              refine p_callS (t_isAsked ⟨by omega, by omega⟩ sa sb) okX12_isAsked lkX12_332 rfl dX12_work_206 rfl (Nat.le_of_ble_eq_true rfl) (⟨by decide, by decide, by decide, by decide⟩) ?_
              refine n_zast (by first | exact Or.inl rfl | exact Or.inr rfl | exact cB01 _) dX12_work_209 (by first | rfl | exact pv_shx) (by omega) (by omega) (by omega) (by decide) (rfl) (by omega) (by repeat (first | exact pvu_s | exact pvuJ_s | apply pvu_in (by omega) | apply pvuJ_in (by omega) | exact pvu_pvs | exact pvuJ_pvs)) ?_
              refine g_iinc dX12_work_210 rfl (by first | (with_reducible exact nI_1 _) | exact nI_1 _ | exact pk_m1 _ | rfl) (by decide) rfl ?_
              refine g_goto 321 dX12_work_213 (by decide) ?_
              refine g_iinc dX12_work_321 rfl (by first | (with_reducible exact nI_1 _) | exact nI_1 _ | exact pk_m1 _ | rfl) (by decide) rfl ?_
              refine g_goto 29 dX12_work_324 (by decide) ?_
              exact g_drop _ (by repeat (first | exact trivial | refine ⟨Or.inr ⟨_, rfl⟩, ?_⟩ | refine ⟨Or.inl rfl, ?_⟩)) nx
          · rw [if_neg q3] at hck ⊢
            match vs, hn, hv, hs, hck with
            | a :: r, hn, hv, hs, hck =>
              rw [List.length_cons] at hck
              by_cases q4 : o = 20
              · rw [if_pos q4, if_neg (by omega)] at hck; exact absurd rfl hck
              · rw [if_neg q4, if_neg (by omega)] at hck; exact absurd rfl hck
            | [], hn, hv, hs, hck =>
              by_cases q4 : o = 20
              · rw [if_pos q4] at hck ⊢
                match ts, ht, htt, hck with
                | [], ht, htt, hck => exact absurd rfl hck
                | true :: r, ht, htt, hck =>
                  rw [if_pos (by rw [List.length_cons, List.length_nil]; omega)] at hck
                  rw [List.length_cons] at ht
                  have ft : I1 221 r.length = nI 1 := tsA_hd htt
                  have nx := ih (i + 1) [] (false :: r) (pvs I1 221 (upd (I1 221) r.length (nI 0))) J1 (by omega) hc' hk' hck (Nat.zero_le _) (by rw [List.length_cons]; omega) (mf _) hj (fun i hi => absurd hi (Nat.not_lt_zero i)) (by rw [pvs_eq]; exact tsA_cons rfl (tsA_tl htt)) (fun v hv' => absurd hv' List.not_mem_nil)
                  show HW cl _ t0 0 (r.length + 1) i I1 J1 P
                  refine g_iload dX12_work_29 rfl ?_
                  refine g_aload_n dX12_work_31 rfl ?_
                  refine g_getP dX12_work_32 fdX12_16 rfl (by first | rfl | exact pv_shx) (by omega) (by omega) (by decide) rfl (hP _ _ _ rfl) ?_
                  refine g_iload_n dX12_work_35 rfl ?_
                  refine g_iconst (v := nI 5) dX12_work_36 (by decide) ?_
                  refine n_iadd dX12_work_37 (by first | (with_reducible exact nI_add _ _) | rfl) ?_
                  refine n_iald dX12_work_38 (by first | rfl | exact pv_shx) (by omega) (by omega) (by decide) (rfl) (by omega) (by repeat (first | exact f5 | exact g1 | exact g2 | exact ft | (apply rd_s; done) | apply rd_n (by omega) | apply rp_s | apply rp_n (by omega) | (apply rdL_s; done) | apply rdL_n (by omega) | apply rpJ_s | apply rpJ_n (by omega) | rfl)) ?_
                  refine n_icmp_ge 327 dX12_work_39 (by decide) (by first | ((with_reducible apply cN_le) <;> omega) | ((with_reducible apply cI_len) <;> omega) | ((with_reducible apply cI_nle) <;> omega) | (with_reducible exact cI_le)) (fun c39 => by exfalso; first | omega | exact absurd trivial c39 | exact c39) (fun c39 => ?_)
                  refine g_aload_n dX12_work_42 rfl ?_
                  refine g_getP dX12_work_43 fdX12_16 rfl (by first | rfl | exact pv_shx) (by omega) (by omega) (by decide) rfl (hP _ _ _ rfl) ?_
                  refine g_iload dX12_work_46 rfl ?_
                  refine g_iconst (v := nI 2) dX12_work_48 (by decide) ?_
                  refine g_iload dX12_work_49 rfl ?_
                  refine n_imul dX12_work_51 (by first | (with_reducible exact pk_mul _ _) | rfl) ?_
                  refine n_iadd dX12_work_52 (by first | (with_reducible exact nI_add _ _) | rfl) ?_
                  refine n_iald dX12_work_53 (by first | rfl | exact pv_shx) (by omega) (by omega) (by decide) (rfl) (by omega) (by repeat (first | exact f5 | exact g1 | exact g2 | exact ft | (apply rd_s; done) | apply rd_n (by omega) | apply rp_s | apply rp_n (by omega) | (apply rdL_s; done) | apply rdL_n (by omega) | apply rpJ_s | apply rpJ_n (by omega) | rfl)) ?_
                  refine g_istore dX12_work_54 (by decide) rfl ?_
                  refine g_aload_n dX12_work_56 rfl ?_
                  refine g_getP dX12_work_57 fdX12_16 rfl (by first | rfl | exact pv_shx) (by omega) (by omega) (by decide) rfl (hP _ _ _ rfl) ?_
                  refine g_iload dX12_work_60 rfl ?_
                  refine g_iconst (v := nI 2) dX12_work_62 (by decide) ?_
                  refine g_iload dX12_work_63 rfl ?_
                  refine n_imul dX12_work_65 (by first | (with_reducible exact pk_mul _ _) | rfl) ?_
                  refine n_iadd dX12_work_66 (by first | (with_reducible exact nI_add _ _) | rfl) ?_
                  refine g_iconst (v := nI 1) dX12_work_67 (by decide) ?_
                  refine n_iadd dX12_work_68 (by first | (with_reducible exact nI_add _ _) | rfl) ?_
                  refine n_iald dX12_work_69 (by first | rfl | exact pv_shx) (by omega) (by omega) (by decide) (rfl) (by omega) (by repeat (first | exact f5 | exact g1 | exact g2 | exact ft | (apply rd_s; done) | apply rd_n (by omega) | apply rp_s | apply rp_n (by omega) | (apply rdL_s; done) | apply rdL_n (by omega) | apply rpJ_s | apply rpJ_n (by omega) | rfl)) ?_
                  refine g_istore dX12_work_70 (by decide) rfl ?_
                  refine g_iload dX12_work_72 rfl ?_
                  refine g_iconst (v := nI 1) dX12_work_74 (by decide) ?_
                  refine n_icmp_gt 109 dX12_work_75 (by decide) (by first | ((with_reducible apply cN_lt) <;> omega) | ((with_reducible apply cI_ltn) <;> omega) | ((with_reducible apply cI_nlt) <;> omega) | (with_reducible exact cI_lt)) (fun c75 => ?_) (fun c75 => by exfalso; first | omega | exact absurd trivial c75 | exact c75)
                  refine g_iload dX12_work_109 rfl ?_
                  refine g_iconst (v := nI 2) dX12_work_111 (by decide) ?_
                  refine n_icmp_ne 135 dX12_work_112 (by decide) (by first | ((with_reducible apply cN_eq) <;> omega) | ((with_reducible apply cI_eqn) <;> omega) | exact Iff.rfl) (fun c112 => ?_) (fun c112 => by exfalso; first | omega | exact absurd trivial c112 | exact c112)
                  refine g_iload dX12_work_135 rfl ?_
                  refine g_bipush (v := nI 10) dX12_work_137 (by decide) ?_
                  refine n_icmp_ge 175 dX12_work_139 (by decide) (by first | ((with_reducible apply cN_le) <;> omega) | ((with_reducible apply cI_len) <;> omega) | ((with_reducible apply cI_nle) <;> omega) | (with_reducible exact cI_le)) (fun c139 => ?_) (fun c139 => by exfalso; first | omega | exact absurd trivial c139 | exact c139)
                  refine g_iload dX12_work_175 rfl ?_
                  refine g_bipush (v := nI 20) dX12_work_177 (by decide) ?_
                  refine n_icmp_ge 216 dX12_work_179 (by decide) (by first | ((with_reducible apply cN_le) <;> omega) | ((with_reducible apply cI_len) <;> omega) | ((with_reducible apply cI_nle) <;> omega) | (with_reducible exact cI_le)) (fun c179 => ?_) (fun c179 => by exfalso; first | omega | exact absurd trivial c179 | exact c179)
                  refine g_iload dX12_work_216 rfl ?_
                  refine g_bipush (v := nI 20) dX12_work_218 (by decide) ?_
                  refine n_icmp_ne 250 dX12_work_220 (by decide) (by first | ((with_reducible apply cN_eq) <;> omega) | ((with_reducible apply cI_eqn) <;> omega) | exact Iff.rfl) (fun c220 => by exfalso; first | omega | exact absurd trivial c220 | exact c220) (fun c220 => ?_)
                  refine g_aload_n dX12_work_223 rfl ?_
                  refine g_getP dX12_work_224 fdX12_74 rfl (by first | rfl | exact pv_shx) (by omega) (by omega) (by decide) rfl (hP _ _ _ rfl) ?_
                  refine g_iload_n dX12_work_227 rfl ?_
                  refine g_iconst (v := nI 1) dX12_work_228 (by decide) ?_
                  refine n_isub dX12_work_229 (nI_p1 _) ?_
                  refine g_aload_n dX12_work_230 rfl ?_
                  refine g_getP dX12_work_231 fdX12_74 rfl (by first | rfl | exact pv_shx) (by omega) (by omega) (by decide) rfl (hP _ _ _ rfl) ?_
                  refine g_iload_n dX12_work_234 rfl ?_
                  refine g_iconst (v := nI 1) dX12_work_235 (by decide) ?_
                  refine n_isub dX12_work_236 (nI_p1 _) ?_
                  refine n_zald dX12_work_237 (by first | rfl | exact pv_shx) (by omega) (by omega) (by decide) (rfl) (by omega) (by repeat (first | exact f5 | exact g1 | exact g2 | exact ft | (apply rd_s; done) | apply rd_n (by omega) | apply rp_s | apply rp_n (by omega) | (apply rdL_s; done) | apply rdL_n (by omega) | apply rpJ_s | apply rpJ_n (by omega) | rfl)) ?_
                  refine n_if_ne 245 dX12_work_238 (by decide) (by first | (with_reducible exact cB _) | ((with_reducible apply cN_eq0) <;> omega) | exact Iff.rfl) (fun c238 => ?_) (fun c238 => by exfalso; first | omega | exact absurd trivial c238 | exact c238)
                  refine g_iconst (v := nI 0) dX12_work_245 (by decide) ?_
                  refine n_zast (by first | exact Or.inl rfl | exact Or.inr rfl | exact cB01 _) dX12_work_246 (by first | rfl | exact pv_shx) (by omega) (by omega) (by omega) (by decide) (rfl) (by omega) (by repeat (first | exact pvu_s | exact pvuJ_s | apply pvu_in (by omega) | apply pvuJ_in (by omega) | exact pvu_pvs | exact pvuJ_pvs)) ?_
                  refine g_goto 321 dX12_work_247 (by decide) ?_
                  refine g_iinc dX12_work_321 rfl (by first | (with_reducible exact nI_1 _) | exact nI_1 _ | exact pk_m1 _ | rfl) (by decide) rfl ?_
                  refine g_goto 29 dX12_work_324 (by decide) ?_
                  exact g_drop _ (by repeat (first | exact trivial | refine ⟨Or.inr ⟨_, rfl⟩, ?_⟩ | refine ⟨Or.inl rfl, ?_⟩)) nx
                | false :: r, ht, htt, hck =>
                  rw [if_pos (by rw [List.length_cons, List.length_nil]; omega)] at hck
                  rw [List.length_cons] at ht
                  have ft : I1 221 r.length = nI 0 := tsA_hd htt
                  have nx := ih (i + 1) [] (true :: r) (pvs I1 221 (upd (I1 221) r.length (nI 1))) J1 (by omega) hc' hk' hck (Nat.zero_le _) (by rw [List.length_cons]; omega) (mf _) hj (fun i hi => absurd hi (Nat.not_lt_zero i)) (by rw [pvs_eq]; exact tsA_cons rfl (tsA_tl htt)) (fun v hv' => absurd hv' List.not_mem_nil)
                  show HW cl _ t0 0 (r.length + 1) i I1 J1 P
                  refine g_iload dX12_work_29 rfl ?_
                  refine g_aload_n dX12_work_31 rfl ?_
                  refine g_getP dX12_work_32 fdX12_16 rfl (by first | rfl | exact pv_shx) (by omega) (by omega) (by decide) rfl (hP _ _ _ rfl) ?_
                  refine g_iload_n dX12_work_35 rfl ?_
                  refine g_iconst (v := nI 5) dX12_work_36 (by decide) ?_
                  refine n_iadd dX12_work_37 (by first | (with_reducible exact nI_add _ _) | rfl) ?_
                  refine n_iald dX12_work_38 (by first | rfl | exact pv_shx) (by omega) (by omega) (by decide) (rfl) (by omega) (by repeat (first | exact f5 | exact g1 | exact g2 | exact ft | (apply rd_s; done) | apply rd_n (by omega) | apply rp_s | apply rp_n (by omega) | (apply rdL_s; done) | apply rdL_n (by omega) | apply rpJ_s | apply rpJ_n (by omega) | rfl)) ?_
                  refine n_icmp_ge 327 dX12_work_39 (by decide) (by first | ((with_reducible apply cN_le) <;> omega) | ((with_reducible apply cI_len) <;> omega) | ((with_reducible apply cI_nle) <;> omega) | (with_reducible exact cI_le)) (fun c39 => by exfalso; first | omega | exact absurd trivial c39 | exact c39) (fun c39 => ?_)
                  refine g_aload_n dX12_work_42 rfl ?_
                  refine g_getP dX12_work_43 fdX12_16 rfl (by first | rfl | exact pv_shx) (by omega) (by omega) (by decide) rfl (hP _ _ _ rfl) ?_
                  refine g_iload dX12_work_46 rfl ?_
                  refine g_iconst (v := nI 2) dX12_work_48 (by decide) ?_
                  refine g_iload dX12_work_49 rfl ?_
                  refine n_imul dX12_work_51 (by first | (with_reducible exact pk_mul _ _) | rfl) ?_
                  refine n_iadd dX12_work_52 (by first | (with_reducible exact nI_add _ _) | rfl) ?_
                  refine n_iald dX12_work_53 (by first | rfl | exact pv_shx) (by omega) (by omega) (by decide) (rfl) (by omega) (by repeat (first | exact f5 | exact g1 | exact g2 | exact ft | (apply rd_s; done) | apply rd_n (by omega) | apply rp_s | apply rp_n (by omega) | (apply rdL_s; done) | apply rdL_n (by omega) | apply rpJ_s | apply rpJ_n (by omega) | rfl)) ?_
                  refine g_istore dX12_work_54 (by decide) rfl ?_
                  refine g_aload_n dX12_work_56 rfl ?_
                  refine g_getP dX12_work_57 fdX12_16 rfl (by first | rfl | exact pv_shx) (by omega) (by omega) (by decide) rfl (hP _ _ _ rfl) ?_
                  refine g_iload dX12_work_60 rfl ?_
                  refine g_iconst (v := nI 2) dX12_work_62 (by decide) ?_
                  refine g_iload dX12_work_63 rfl ?_
                  refine n_imul dX12_work_65 (by first | (with_reducible exact pk_mul _ _) | rfl) ?_
                  refine n_iadd dX12_work_66 (by first | (with_reducible exact nI_add _ _) | rfl) ?_
                  refine g_iconst (v := nI 1) dX12_work_67 (by decide) ?_
                  refine n_iadd dX12_work_68 (by first | (with_reducible exact nI_add _ _) | rfl) ?_
                  refine n_iald dX12_work_69 (by first | rfl | exact pv_shx) (by omega) (by omega) (by decide) (rfl) (by omega) (by repeat (first | exact f5 | exact g1 | exact g2 | exact ft | (apply rd_s; done) | apply rd_n (by omega) | apply rp_s | apply rp_n (by omega) | (apply rdL_s; done) | apply rdL_n (by omega) | apply rpJ_s | apply rpJ_n (by omega) | rfl)) ?_
                  refine g_istore dX12_work_70 (by decide) rfl ?_
                  refine g_iload dX12_work_72 rfl ?_
                  refine g_iconst (v := nI 1) dX12_work_74 (by decide) ?_
                  refine n_icmp_gt 109 dX12_work_75 (by decide) (by first | ((with_reducible apply cN_lt) <;> omega) | ((with_reducible apply cI_ltn) <;> omega) | ((with_reducible apply cI_nlt) <;> omega) | (with_reducible exact cI_lt)) (fun c75 => ?_) (fun c75 => by exfalso; first | omega | exact absurd trivial c75 | exact c75)
                  refine g_iload dX12_work_109 rfl ?_
                  refine g_iconst (v := nI 2) dX12_work_111 (by decide) ?_
                  refine n_icmp_ne 135 dX12_work_112 (by decide) (by first | ((with_reducible apply cN_eq) <;> omega) | ((with_reducible apply cI_eqn) <;> omega) | exact Iff.rfl) (fun c112 => ?_) (fun c112 => by exfalso; first | omega | exact absurd trivial c112 | exact c112)
                  refine g_iload dX12_work_135 rfl ?_
                  refine g_bipush (v := nI 10) dX12_work_137 (by decide) ?_
                  refine n_icmp_ge 175 dX12_work_139 (by decide) (by first | ((with_reducible apply cN_le) <;> omega) | ((with_reducible apply cI_len) <;> omega) | ((with_reducible apply cI_nle) <;> omega) | (with_reducible exact cI_le)) (fun c139 => ?_) (fun c139 => by exfalso; first | omega | exact absurd trivial c139 | exact c139)
                  refine g_iload dX12_work_175 rfl ?_
                  refine g_bipush (v := nI 20) dX12_work_177 (by decide) ?_
                  refine n_icmp_ge 216 dX12_work_179 (by decide) (by first | ((with_reducible apply cN_le) <;> omega) | ((with_reducible apply cI_len) <;> omega) | ((with_reducible apply cI_nle) <;> omega) | (with_reducible exact cI_le)) (fun c179 => ?_) (fun c179 => by exfalso; first | omega | exact absurd trivial c179 | exact c179)
                  refine g_iload dX12_work_216 rfl ?_
                  refine g_bipush (v := nI 20) dX12_work_218 (by decide) ?_
                  refine n_icmp_ne 250 dX12_work_220 (by decide) (by first | ((with_reducible apply cN_eq) <;> omega) | ((with_reducible apply cI_eqn) <;> omega) | exact Iff.rfl) (fun c220 => by exfalso; first | omega | exact absurd trivial c220 | exact c220) (fun c220 => ?_)
                  refine g_aload_n dX12_work_223 rfl ?_
                  refine g_getP dX12_work_224 fdX12_74 rfl (by first | rfl | exact pv_shx) (by omega) (by omega) (by decide) rfl (hP _ _ _ rfl) ?_
                  refine g_iload_n dX12_work_227 rfl ?_
                  refine g_iconst (v := nI 1) dX12_work_228 (by decide) ?_
                  refine n_isub dX12_work_229 (nI_p1 _) ?_
                  refine g_aload_n dX12_work_230 rfl ?_
                  refine g_getP dX12_work_231 fdX12_74 rfl (by first | rfl | exact pv_shx) (by omega) (by omega) (by decide) rfl (hP _ _ _ rfl) ?_
                  refine g_iload_n dX12_work_234 rfl ?_
                  refine g_iconst (v := nI 1) dX12_work_235 (by decide) ?_
                  refine n_isub dX12_work_236 (nI_p1 _) ?_
                  refine n_zald dX12_work_237 (by first | rfl | exact pv_shx) (by omega) (by omega) (by decide) (rfl) (by omega) (by repeat (first | exact f5 | exact g1 | exact g2 | exact ft | (apply rd_s; done) | apply rd_n (by omega) | apply rp_s | apply rp_n (by omega) | (apply rdL_s; done) | apply rdL_n (by omega) | apply rpJ_s | apply rpJ_n (by omega) | rfl)) ?_
                  refine n_if_ne 245 dX12_work_238 (by decide) (by first | (with_reducible exact cB _) | ((with_reducible apply cN_eq0) <;> omega) | exact Iff.rfl) (fun c238 => by exfalso; first | omega | exact absurd trivial c238 | exact c238) (fun c238 => ?_)
                  refine g_iconst (v := nI 1) dX12_work_241 (by decide) ?_
                  refine g_goto 246 dX12_work_242 (by decide) ?_
                  refine n_zast (by first | exact Or.inl rfl | exact Or.inr rfl | exact cB01 _) dX12_work_246 (by first | rfl | exact pv_shx) (by omega) (by omega) (by omega) (by decide) (rfl) (by omega) (by repeat (first | exact pvu_s | exact pvuJ_s | apply pvu_in (by omega) | apply pvuJ_in (by omega) | exact pvu_pvs | exact pvuJ_pvs)) ?_
                  refine g_goto 321 dX12_work_247 (by decide) ?_
                  refine g_iinc dX12_work_321 rfl (by first | (with_reducible exact nI_1 _) | exact nI_1 _ | exact pk_m1 _ | rfl) (by decide) rfl ?_
                  refine g_goto 29 dX12_work_324 (by decide) ?_
                  exact g_drop _ (by repeat (first | exact trivial | refine ⟨Or.inr ⟨_, rfl⟩, ?_⟩ | refine ⟨Or.inl rfl, ?_⟩)) nx
              · rw [if_neg q4] at hck ⊢
                match ts, ht, htt, hck with
                | [], ht, htt, hck => rw [if_neg (by simp)] at hck; exact absurd rfl hck
                | [t], ht, htt, hck => rw [if_neg (by simp)] at hck; exact absurd rfl hck
                | u :: t :: r, ht, htt, hck =>
                  rw [if_pos (by rw [List.length_cons, List.length_cons, List.length_nil]; omega)] at hck
                  rw [List.length_cons, List.length_cons] at ht
                  have hck2 : ck e (0, r.length + 1) ≠ none := hck
                  have fu : I1 221 (r.length + 1) = if u = true then 1 else 0 := tsA_hd htt
                  have ft : I1 221 r.length = if t = true then 1 else 0 := tsA_hd (tsA_tl htt)
                  have nx : ∀ q : Bool, ∀ w, w = (if q = true then 1 else 0) → HW cl (wkQ I J P (evL nm e ([], q :: r))) t0 0 (r.length + 1) (i + 1) (pvs I1 221 (upd (I1 221) r.length w)) J1 P := fun q w hw => ih (i + 1) [] (q :: r) (pvs I1 221 (upd (I1 221) r.length w)) J1 (by omega) hc' hk' hck2 (Nat.zero_le _) (by rw [List.length_cons]; omega) (mf _) hj (fun i hi => absurd hi (Nat.not_lt_zero i)) (by rw [pvs_eq]; exact tsA_cons hw (tsA_tl (tsA_tl htt))) (fun v hv' => absurd hv' List.not_mem_nil)
                  by_cases q5 : o = 21
                  · rw [if_pos q5]
                    cases u with
                    | true =>
                      cases t with
                      | true =>
                        have fu1 : I1 221 (r.length + 1) = nI 1 := fu
                        have ft1 : I1 221 r.length = nI 1 := ft
                        have n2 := nx true (nI 1) rfl
                        show HW cl _ t0 0 (r.length + 1 + 1) i I1 J1 P
                        refine g_iload dX12_work_29 rfl ?_
                        refine g_aload_n dX12_work_31 rfl ?_
                        refine g_getP dX12_work_32 fdX12_16 rfl (by first | rfl | exact pv_shx) (by omega) (by omega) (by decide) rfl (hP _ _ _ rfl) ?_
                        refine g_iload_n dX12_work_35 rfl ?_
                        refine g_iconst (v := nI 5) dX12_work_36 (by decide) ?_
                        refine n_iadd dX12_work_37 (by first | (with_reducible exact nI_add _ _) | rfl) ?_
                        refine n_iald dX12_work_38 (by first | rfl | exact pv_shx) (by omega) (by omega) (by decide) (rfl) (by omega) (by repeat (first | exact f5 | exact g1 | exact g2 | exact fu1 | exact ft1 | (apply rd_s; done) | apply rd_n (by omega) | apply rp_s | apply rp_n (by omega) | (apply rdL_s; done) | apply rdL_n (by omega) | apply rpJ_s | apply rpJ_n (by omega) | rfl)) ?_
                        refine n_icmp_ge 327 dX12_work_39 (by decide) (by first | ((with_reducible apply cN_le) <;> omega) | ((with_reducible apply cI_len) <;> omega) | ((with_reducible apply cI_nle) <;> omega) | (with_reducible exact cI_le)) (fun c39 => by exfalso; first | omega | exact absurd trivial c39 | exact c39) (fun c39 => ?_)
                        refine g_aload_n dX12_work_42 rfl ?_
                        refine g_getP dX12_work_43 fdX12_16 rfl (by first | rfl | exact pv_shx) (by omega) (by omega) (by decide) rfl (hP _ _ _ rfl) ?_
                        refine g_iload dX12_work_46 rfl ?_
                        refine g_iconst (v := nI 2) dX12_work_48 (by decide) ?_
                        refine g_iload dX12_work_49 rfl ?_
                        refine n_imul dX12_work_51 (by first | (with_reducible exact pk_mul _ _) | rfl) ?_
                        refine n_iadd dX12_work_52 (by first | (with_reducible exact nI_add _ _) | rfl) ?_
                        refine n_iald dX12_work_53 (by first | rfl | exact pv_shx) (by omega) (by omega) (by decide) (rfl) (by omega) (by repeat (first | exact f5 | exact g1 | exact g2 | exact fu1 | exact ft1 | (apply rd_s; done) | apply rd_n (by omega) | apply rp_s | apply rp_n (by omega) | (apply rdL_s; done) | apply rdL_n (by omega) | apply rpJ_s | apply rpJ_n (by omega) | rfl)) ?_
                        refine g_istore dX12_work_54 (by decide) rfl ?_
                        refine g_aload_n dX12_work_56 rfl ?_
                        refine g_getP dX12_work_57 fdX12_16 rfl (by first | rfl | exact pv_shx) (by omega) (by omega) (by decide) rfl (hP _ _ _ rfl) ?_
                        refine g_iload dX12_work_60 rfl ?_
                        refine g_iconst (v := nI 2) dX12_work_62 (by decide) ?_
                        refine g_iload dX12_work_63 rfl ?_
                        refine n_imul dX12_work_65 (by first | (with_reducible exact pk_mul _ _) | rfl) ?_
                        refine n_iadd dX12_work_66 (by first | (with_reducible exact nI_add _ _) | rfl) ?_
                        refine g_iconst (v := nI 1) dX12_work_67 (by decide) ?_
                        refine n_iadd dX12_work_68 (by first | (with_reducible exact nI_add _ _) | rfl) ?_
                        refine n_iald dX12_work_69 (by first | rfl | exact pv_shx) (by omega) (by omega) (by decide) (rfl) (by omega) (by repeat (first | exact f5 | exact g1 | exact g2 | exact fu1 | exact ft1 | (apply rd_s; done) | apply rd_n (by omega) | apply rp_s | apply rp_n (by omega) | (apply rdL_s; done) | apply rdL_n (by omega) | apply rpJ_s | apply rpJ_n (by omega) | rfl)) ?_
                        refine g_istore dX12_work_70 (by decide) rfl ?_
                        refine g_iload dX12_work_72 rfl ?_
                        refine g_iconst (v := nI 1) dX12_work_74 (by decide) ?_
                        refine n_icmp_gt 109 dX12_work_75 (by decide) (by first | ((with_reducible apply cN_lt) <;> omega) | ((with_reducible apply cI_ltn) <;> omega) | ((with_reducible apply cI_nlt) <;> omega) | (with_reducible exact cI_lt)) (fun c75 => ?_) (fun c75 => by exfalso; first | omega | exact absurd trivial c75 | exact c75)
                        refine g_iload dX12_work_109 rfl ?_
                        refine g_iconst (v := nI 2) dX12_work_111 (by decide) ?_
                        refine n_icmp_ne 135 dX12_work_112 (by decide) (by first | ((with_reducible apply cN_eq) <;> omega) | ((with_reducible apply cI_eqn) <;> omega) | exact Iff.rfl) (fun c112 => ?_) (fun c112 => by exfalso; first | omega | exact absurd trivial c112 | exact c112)
                        refine g_iload dX12_work_135 rfl ?_
                        refine g_bipush (v := nI 10) dX12_work_137 (by decide) ?_
                        refine n_icmp_ge 175 dX12_work_139 (by decide) (by first | ((with_reducible apply cN_le) <;> omega) | ((with_reducible apply cI_len) <;> omega) | ((with_reducible apply cI_nle) <;> omega) | (with_reducible exact cI_le)) (fun c139 => ?_) (fun c139 => by exfalso; first | omega | exact absurd trivial c139 | exact c139)
                        refine g_iload dX12_work_175 rfl ?_
                        refine g_bipush (v := nI 20) dX12_work_177 (by decide) ?_
                        refine n_icmp_ge 216 dX12_work_179 (by decide) (by first | ((with_reducible apply cN_le) <;> omega) | ((with_reducible apply cI_len) <;> omega) | ((with_reducible apply cI_nle) <;> omega) | (with_reducible exact cI_le)) (fun c179 => ?_) (fun c179 => by exfalso; first | omega | exact absurd trivial c179 | exact c179)
                        refine g_iload dX12_work_216 rfl ?_
                        refine g_bipush (v := nI 20) dX12_work_218 (by decide) ?_
                        refine n_icmp_ne 250 dX12_work_220 (by decide) (by first | ((with_reducible apply cN_eq) <;> omega) | ((with_reducible apply cI_eqn) <;> omega) | exact Iff.rfl) (fun c220 => ?_) (fun c220 => by exfalso; first | omega | exact absurd trivial c220 | exact c220)
                        refine g_iinc dX12_work_250 rfl (pk_m1 _) (by decide) rfl ?_
                        refine g_aload_n dX12_work_253 rfl ?_
                        refine g_getP dX12_work_254 fdX12_74 rfl (by first | rfl | exact pv_shx) (by omega) (by omega) (by decide) rfl (hP _ _ _ rfl) ?_
                        refine g_iload_n dX12_work_257 rfl ?_
                        refine g_iconst (v := nI 1) dX12_work_258 (by decide) ?_
                        refine n_isub dX12_work_259 (by first | ((with_reducible apply pk_sub) <;> omega) | rfl) ?_
                        refine g_iload dX12_work_260 rfl ?_
                        refine g_bipush (v := nI 21) dX12_work_262 (by decide) ?_
                        refine n_icmp_ne 295 dX12_work_264 (by decide) (by first | ((with_reducible apply cN_eq) <;> omega) | ((with_reducible apply cI_eqn) <;> omega) | exact Iff.rfl) (fun c264 => by exfalso; first | omega | exact absurd trivial c264 | exact c264) (fun c264 => ?_)
                        refine g_aload_n dX12_work_267 rfl ?_
                        refine g_getP dX12_work_268 fdX12_74 rfl (by first | rfl | exact pv_shx) (by omega) (by omega) (by decide) rfl (hP _ _ _ rfl) ?_
                        refine g_iload_n dX12_work_271 rfl ?_
                        refine g_iconst (v := nI 1) dX12_work_272 (by decide) ?_
                        refine n_isub dX12_work_273 (nI_p1 _) ?_
                        refine n_zald dX12_work_274 (by first | rfl | exact pv_shx) (by omega) (by omega) (by decide) (rfl) (by omega) (by repeat (first | exact f5 | exact g1 | exact g2 | exact fu1 | exact ft1 | (apply rd_s; done) | apply rd_n (by omega) | apply rp_s | apply rp_n (by omega) | (apply rdL_s; done) | apply rdL_n (by omega) | apply rpJ_s | apply rpJ_n (by omega) | rfl)) ?_
                        refine n_if_eq 291 dX12_work_275 (by decide) (by first | (with_reducible exact cB _) | ((with_reducible apply cN_eq0) <;> omega) | exact Iff.rfl) (fun c275 => by exfalso; first | omega | exact absurd trivial c275 | exact c275) (fun c275 => ?_)
                        refine g_aload_n dX12_work_278 rfl ?_
                        refine g_getP dX12_work_279 fdX12_74 rfl (by first | rfl | exact pv_shx) (by omega) (by omega) (by decide) rfl (hP _ _ _ rfl) ?_
                        refine g_iload_n dX12_work_282 rfl ?_
                        refine n_zald dX12_work_283 (by first | rfl | exact pv_shx) (by omega) (by omega) (by decide) (rfl) (by omega) (by repeat (first | exact f5 | exact g1 | exact g2 | exact fu1 | exact ft1 | (apply rd_s; done) | apply rd_n (by omega) | apply rp_s | apply rp_n (by omega) | (apply rdL_s; done) | apply rdL_n (by omega) | apply rpJ_s | apply rpJ_n (by omega) | rfl)) ?_
                        refine n_if_eq 291 dX12_work_284 (by decide) (by first | (with_reducible exact cB _) | ((with_reducible apply cN_eq0) <;> omega) | exact Iff.rfl) (fun c284 => by exfalso; first | omega | exact absurd trivial c284 | exact c284) (fun c284 => ?_)
                        refine g_iconst (v := nI 1) dX12_work_287 (by decide) ?_
                        refine g_goto 320 dX12_work_288 (by decide) ?_
                        refine n_zast (by first | exact Or.inl rfl | exact Or.inr rfl | exact cB01 _) dX12_work_320 (by first | rfl | exact pv_shx) (by omega) (by omega) (by omega) (by decide) (rfl) (by omega) (by repeat (first | exact pvu_s | exact pvuJ_s | apply pvu_in (by omega) | apply pvuJ_in (by omega) | exact pvu_pvs | exact pvuJ_pvs)) ?_
                        refine g_iinc dX12_work_321 rfl (by first | (with_reducible exact nI_1 _) | exact nI_1 _ | exact pk_m1 _ | rfl) (by decide) rfl ?_
                        refine g_goto 29 dX12_work_324 (by decide) ?_
                        exact g_drop _ (by repeat (first | exact trivial | refine ⟨Or.inr ⟨_, rfl⟩, ?_⟩ | refine ⟨Or.inl rfl, ?_⟩)) n2
                      | false =>
                        have fu1 : I1 221 (r.length + 1) = nI 1 := fu
                        have ft1 : I1 221 r.length = nI 0 := ft
                        have n2 := nx false (nI 0) rfl
                        show HW cl _ t0 0 (r.length + 1 + 1) i I1 J1 P
                        refine g_iload dX12_work_29 rfl ?_
                        refine g_aload_n dX12_work_31 rfl ?_
                        refine g_getP dX12_work_32 fdX12_16 rfl (by first | rfl | exact pv_shx) (by omega) (by omega) (by decide) rfl (hP _ _ _ rfl) ?_
                        refine g_iload_n dX12_work_35 rfl ?_
                        refine g_iconst (v := nI 5) dX12_work_36 (by decide) ?_
                        refine n_iadd dX12_work_37 (by first | (with_reducible exact nI_add _ _) | rfl) ?_
                        refine n_iald dX12_work_38 (by first | rfl | exact pv_shx) (by omega) (by omega) (by decide) (rfl) (by omega) (by repeat (first | exact f5 | exact g1 | exact g2 | exact fu1 | exact ft1 | (apply rd_s; done) | apply rd_n (by omega) | apply rp_s | apply rp_n (by omega) | (apply rdL_s; done) | apply rdL_n (by omega) | apply rpJ_s | apply rpJ_n (by omega) | rfl)) ?_
                        refine n_icmp_ge 327 dX12_work_39 (by decide) (by first | ((with_reducible apply cN_le) <;> omega) | ((with_reducible apply cI_len) <;> omega) | ((with_reducible apply cI_nle) <;> omega) | (with_reducible exact cI_le)) (fun c39 => by exfalso; first | omega | exact absurd trivial c39 | exact c39) (fun c39 => ?_)
                        refine g_aload_n dX12_work_42 rfl ?_
                        refine g_getP dX12_work_43 fdX12_16 rfl (by first | rfl | exact pv_shx) (by omega) (by omega) (by decide) rfl (hP _ _ _ rfl) ?_
                        refine g_iload dX12_work_46 rfl ?_
                        refine g_iconst (v := nI 2) dX12_work_48 (by decide) ?_
                        refine g_iload dX12_work_49 rfl ?_
                        refine n_imul dX12_work_51 (by first | (with_reducible exact pk_mul _ _) | rfl) ?_
                        refine n_iadd dX12_work_52 (by first | (with_reducible exact nI_add _ _) | rfl) ?_
                        refine n_iald dX12_work_53 (by first | rfl | exact pv_shx) (by omega) (by omega) (by decide) (rfl) (by omega) (by repeat (first | exact f5 | exact g1 | exact g2 | exact fu1 | exact ft1 | (apply rd_s; done) | apply rd_n (by omega) | apply rp_s | apply rp_n (by omega) | (apply rdL_s; done) | apply rdL_n (by omega) | apply rpJ_s | apply rpJ_n (by omega) | rfl)) ?_
                        refine g_istore dX12_work_54 (by decide) rfl ?_
                        refine g_aload_n dX12_work_56 rfl ?_
                        refine g_getP dX12_work_57 fdX12_16 rfl (by first | rfl | exact pv_shx) (by omega) (by omega) (by decide) rfl (hP _ _ _ rfl) ?_
                        refine g_iload dX12_work_60 rfl ?_
                        refine g_iconst (v := nI 2) dX12_work_62 (by decide) ?_
                        refine g_iload dX12_work_63 rfl ?_
                        refine n_imul dX12_work_65 (by first | (with_reducible exact pk_mul _ _) | rfl) ?_
                        refine n_iadd dX12_work_66 (by first | (with_reducible exact nI_add _ _) | rfl) ?_
                        refine g_iconst (v := nI 1) dX12_work_67 (by decide) ?_
                        refine n_iadd dX12_work_68 (by first | (with_reducible exact nI_add _ _) | rfl) ?_
                        refine n_iald dX12_work_69 (by first | rfl | exact pv_shx) (by omega) (by omega) (by decide) (rfl) (by omega) (by repeat (first | exact f5 | exact g1 | exact g2 | exact fu1 | exact ft1 | (apply rd_s; done) | apply rd_n (by omega) | apply rp_s | apply rp_n (by omega) | (apply rdL_s; done) | apply rdL_n (by omega) | apply rpJ_s | apply rpJ_n (by omega) | rfl)) ?_
                        refine g_istore dX12_work_70 (by decide) rfl ?_
                        refine g_iload dX12_work_72 rfl ?_
                        refine g_iconst (v := nI 1) dX12_work_74 (by decide) ?_
                        refine n_icmp_gt 109 dX12_work_75 (by decide) (by first | ((with_reducible apply cN_lt) <;> omega) | ((with_reducible apply cI_ltn) <;> omega) | ((with_reducible apply cI_nlt) <;> omega) | (with_reducible exact cI_lt)) (fun c75 => ?_) (fun c75 => by exfalso; first | omega | exact absurd trivial c75 | exact c75)
                        refine g_iload dX12_work_109 rfl ?_
                        refine g_iconst (v := nI 2) dX12_work_111 (by decide) ?_
                        refine n_icmp_ne 135 dX12_work_112 (by decide) (by first | ((with_reducible apply cN_eq) <;> omega) | ((with_reducible apply cI_eqn) <;> omega) | exact Iff.rfl) (fun c112 => ?_) (fun c112 => by exfalso; first | omega | exact absurd trivial c112 | exact c112)
                        refine g_iload dX12_work_135 rfl ?_
                        refine g_bipush (v := nI 10) dX12_work_137 (by decide) ?_
                        refine n_icmp_ge 175 dX12_work_139 (by decide) (by first | ((with_reducible apply cN_le) <;> omega) | ((with_reducible apply cI_len) <;> omega) | ((with_reducible apply cI_nle) <;> omega) | (with_reducible exact cI_le)) (fun c139 => ?_) (fun c139 => by exfalso; first | omega | exact absurd trivial c139 | exact c139)
                        refine g_iload dX12_work_175 rfl ?_
                        refine g_bipush (v := nI 20) dX12_work_177 (by decide) ?_
                        refine n_icmp_ge 216 dX12_work_179 (by decide) (by first | ((with_reducible apply cN_le) <;> omega) | ((with_reducible apply cI_len) <;> omega) | ((with_reducible apply cI_nle) <;> omega) | (with_reducible exact cI_le)) (fun c179 => ?_) (fun c179 => by exfalso; first | omega | exact absurd trivial c179 | exact c179)
                        refine g_iload dX12_work_216 rfl ?_
                        refine g_bipush (v := nI 20) dX12_work_218 (by decide) ?_
                        refine n_icmp_ne 250 dX12_work_220 (by decide) (by first | ((with_reducible apply cN_eq) <;> omega) | ((with_reducible apply cI_eqn) <;> omega) | exact Iff.rfl) (fun c220 => ?_) (fun c220 => by exfalso; first | omega | exact absurd trivial c220 | exact c220)
                        refine g_iinc dX12_work_250 rfl (pk_m1 _) (by decide) rfl ?_
                        refine g_aload_n dX12_work_253 rfl ?_
                        refine g_getP dX12_work_254 fdX12_74 rfl (by first | rfl | exact pv_shx) (by omega) (by omega) (by decide) rfl (hP _ _ _ rfl) ?_
                        refine g_iload_n dX12_work_257 rfl ?_
                        refine g_iconst (v := nI 1) dX12_work_258 (by decide) ?_
                        refine n_isub dX12_work_259 (by first | ((with_reducible apply pk_sub) <;> omega) | rfl) ?_
                        refine g_iload dX12_work_260 rfl ?_
                        refine g_bipush (v := nI 21) dX12_work_262 (by decide) ?_
                        refine n_icmp_ne 295 dX12_work_264 (by decide) (by first | ((with_reducible apply cN_eq) <;> omega) | ((with_reducible apply cI_eqn) <;> omega) | exact Iff.rfl) (fun c264 => by exfalso; first | omega | exact absurd trivial c264 | exact c264) (fun c264 => ?_)
                        refine g_aload_n dX12_work_267 rfl ?_
                        refine g_getP dX12_work_268 fdX12_74 rfl (by first | rfl | exact pv_shx) (by omega) (by omega) (by decide) rfl (hP _ _ _ rfl) ?_
                        refine g_iload_n dX12_work_271 rfl ?_
                        refine g_iconst (v := nI 1) dX12_work_272 (by decide) ?_
                        refine n_isub dX12_work_273 (nI_p1 _) ?_
                        refine n_zald dX12_work_274 (by first | rfl | exact pv_shx) (by omega) (by omega) (by decide) (rfl) (by omega) (by repeat (first | exact f5 | exact g1 | exact g2 | exact fu1 | exact ft1 | (apply rd_s; done) | apply rd_n (by omega) | apply rp_s | apply rp_n (by omega) | (apply rdL_s; done) | apply rdL_n (by omega) | apply rpJ_s | apply rpJ_n (by omega) | rfl)) ?_
                        refine n_if_eq 291 dX12_work_275 (by decide) (by first | (with_reducible exact cB _) | ((with_reducible apply cN_eq0) <;> omega) | exact Iff.rfl) (fun c275 => ?_) (fun c275 => by exfalso; first | omega | exact absurd trivial c275 | exact c275)
                        refine g_iconst (v := nI 0) dX12_work_291 (by decide) ?_
                        refine g_goto 320 dX12_work_292 (by decide) ?_
                        refine n_zast (by first | exact Or.inl rfl | exact Or.inr rfl | exact cB01 _) dX12_work_320 (by first | rfl | exact pv_shx) (by omega) (by omega) (by omega) (by decide) (rfl) (by omega) (by repeat (first | exact pvu_s | exact pvuJ_s | apply pvu_in (by omega) | apply pvuJ_in (by omega) | exact pvu_pvs | exact pvuJ_pvs)) ?_
                        refine g_iinc dX12_work_321 rfl (by first | (with_reducible exact nI_1 _) | exact nI_1 _ | exact pk_m1 _ | rfl) (by decide) rfl ?_
                        refine g_goto 29 dX12_work_324 (by decide) ?_
                        exact g_drop _ (by repeat (first | exact trivial | refine ⟨Or.inr ⟨_, rfl⟩, ?_⟩ | refine ⟨Or.inl rfl, ?_⟩)) n2
                    | false =>
                      cases t with
                      | true =>
                        have fu1 : I1 221 (r.length + 1) = nI 0 := fu
                        have ft1 : I1 221 r.length = nI 1 := ft
                        have n2 := nx false (nI 0) rfl
                        show HW cl _ t0 0 (r.length + 1 + 1) i I1 J1 P
                        refine g_iload dX12_work_29 rfl ?_
                        refine g_aload_n dX12_work_31 rfl ?_
                        refine g_getP dX12_work_32 fdX12_16 rfl (by first | rfl | exact pv_shx) (by omega) (by omega) (by decide) rfl (hP _ _ _ rfl) ?_
                        refine g_iload_n dX12_work_35 rfl ?_
                        refine g_iconst (v := nI 5) dX12_work_36 (by decide) ?_
                        refine n_iadd dX12_work_37 (by first | (with_reducible exact nI_add _ _) | rfl) ?_
                        refine n_iald dX12_work_38 (by first | rfl | exact pv_shx) (by omega) (by omega) (by decide) (rfl) (by omega) (by repeat (first | exact f5 | exact g1 | exact g2 | exact fu1 | exact ft1 | (apply rd_s; done) | apply rd_n (by omega) | apply rp_s | apply rp_n (by omega) | (apply rdL_s; done) | apply rdL_n (by omega) | apply rpJ_s | apply rpJ_n (by omega) | rfl)) ?_
                        refine n_icmp_ge 327 dX12_work_39 (by decide) (by first | ((with_reducible apply cN_le) <;> omega) | ((with_reducible apply cI_len) <;> omega) | ((with_reducible apply cI_nle) <;> omega) | (with_reducible exact cI_le)) (fun c39 => by exfalso; first | omega | exact absurd trivial c39 | exact c39) (fun c39 => ?_)
                        refine g_aload_n dX12_work_42 rfl ?_
                        refine g_getP dX12_work_43 fdX12_16 rfl (by first | rfl | exact pv_shx) (by omega) (by omega) (by decide) rfl (hP _ _ _ rfl) ?_
                        refine g_iload dX12_work_46 rfl ?_
                        refine g_iconst (v := nI 2) dX12_work_48 (by decide) ?_
                        refine g_iload dX12_work_49 rfl ?_
                        refine n_imul dX12_work_51 (by first | (with_reducible exact pk_mul _ _) | rfl) ?_
                        refine n_iadd dX12_work_52 (by first | (with_reducible exact nI_add _ _) | rfl) ?_
                        refine n_iald dX12_work_53 (by first | rfl | exact pv_shx) (by omega) (by omega) (by decide) (rfl) (by omega) (by repeat (first | exact f5 | exact g1 | exact g2 | exact fu1 | exact ft1 | (apply rd_s; done) | apply rd_n (by omega) | apply rp_s | apply rp_n (by omega) | (apply rdL_s; done) | apply rdL_n (by omega) | apply rpJ_s | apply rpJ_n (by omega) | rfl)) ?_
                        refine g_istore dX12_work_54 (by decide) rfl ?_
                        refine g_aload_n dX12_work_56 rfl ?_
                        refine g_getP dX12_work_57 fdX12_16 rfl (by first | rfl | exact pv_shx) (by omega) (by omega) (by decide) rfl (hP _ _ _ rfl) ?_
                        refine g_iload dX12_work_60 rfl ?_
                        refine g_iconst (v := nI 2) dX12_work_62 (by decide) ?_
                        refine g_iload dX12_work_63 rfl ?_
                        refine n_imul dX12_work_65 (by first | (with_reducible exact pk_mul _ _) | rfl) ?_
                        refine n_iadd dX12_work_66 (by first | (with_reducible exact nI_add _ _) | rfl) ?_
                        refine g_iconst (v := nI 1) dX12_work_67 (by decide) ?_
                        refine n_iadd dX12_work_68 (by first | (with_reducible exact nI_add _ _) | rfl) ?_
                        refine n_iald dX12_work_69 (by first | rfl | exact pv_shx) (by omega) (by omega) (by decide) (rfl) (by omega) (by repeat (first | exact f5 | exact g1 | exact g2 | exact fu1 | exact ft1 | (apply rd_s; done) | apply rd_n (by omega) | apply rp_s | apply rp_n (by omega) | (apply rdL_s; done) | apply rdL_n (by omega) | apply rpJ_s | apply rpJ_n (by omega) | rfl)) ?_
                        refine g_istore dX12_work_70 (by decide) rfl ?_
                        refine g_iload dX12_work_72 rfl ?_
                        refine g_iconst (v := nI 1) dX12_work_74 (by decide) ?_
                        refine n_icmp_gt 109 dX12_work_75 (by decide) (by first | ((with_reducible apply cN_lt) <;> omega) | ((with_reducible apply cI_ltn) <;> omega) | ((with_reducible apply cI_nlt) <;> omega) | (with_reducible exact cI_lt)) (fun c75 => ?_) (fun c75 => by exfalso; first | omega | exact absurd trivial c75 | exact c75)
                        refine g_iload dX12_work_109 rfl ?_
                        refine g_iconst (v := nI 2) dX12_work_111 (by decide) ?_
                        refine n_icmp_ne 135 dX12_work_112 (by decide) (by first | ((with_reducible apply cN_eq) <;> omega) | ((with_reducible apply cI_eqn) <;> omega) | exact Iff.rfl) (fun c112 => ?_) (fun c112 => by exfalso; first | omega | exact absurd trivial c112 | exact c112)
                        refine g_iload dX12_work_135 rfl ?_
                        refine g_bipush (v := nI 10) dX12_work_137 (by decide) ?_
                        refine n_icmp_ge 175 dX12_work_139 (by decide) (by first | ((with_reducible apply cN_le) <;> omega) | ((with_reducible apply cI_len) <;> omega) | ((with_reducible apply cI_nle) <;> omega) | (with_reducible exact cI_le)) (fun c139 => ?_) (fun c139 => by exfalso; first | omega | exact absurd trivial c139 | exact c139)
                        refine g_iload dX12_work_175 rfl ?_
                        refine g_bipush (v := nI 20) dX12_work_177 (by decide) ?_
                        refine n_icmp_ge 216 dX12_work_179 (by decide) (by first | ((with_reducible apply cN_le) <;> omega) | ((with_reducible apply cI_len) <;> omega) | ((with_reducible apply cI_nle) <;> omega) | (with_reducible exact cI_le)) (fun c179 => ?_) (fun c179 => by exfalso; first | omega | exact absurd trivial c179 | exact c179)
                        refine g_iload dX12_work_216 rfl ?_
                        refine g_bipush (v := nI 20) dX12_work_218 (by decide) ?_
                        refine n_icmp_ne 250 dX12_work_220 (by decide) (by first | ((with_reducible apply cN_eq) <;> omega) | ((with_reducible apply cI_eqn) <;> omega) | exact Iff.rfl) (fun c220 => ?_) (fun c220 => by exfalso; first | omega | exact absurd trivial c220 | exact c220)
                        refine g_iinc dX12_work_250 rfl (pk_m1 _) (by decide) rfl ?_
                        refine g_aload_n dX12_work_253 rfl ?_
                        refine g_getP dX12_work_254 fdX12_74 rfl (by first | rfl | exact pv_shx) (by omega) (by omega) (by decide) rfl (hP _ _ _ rfl) ?_
                        refine g_iload_n dX12_work_257 rfl ?_
                        refine g_iconst (v := nI 1) dX12_work_258 (by decide) ?_
                        refine n_isub dX12_work_259 (by first | ((with_reducible apply pk_sub) <;> omega) | rfl) ?_
                        refine g_iload dX12_work_260 rfl ?_
                        refine g_bipush (v := nI 21) dX12_work_262 (by decide) ?_
                        refine n_icmp_ne 295 dX12_work_264 (by decide) (by first | ((with_reducible apply cN_eq) <;> omega) | ((with_reducible apply cI_eqn) <;> omega) | exact Iff.rfl) (fun c264 => by exfalso; first | omega | exact absurd trivial c264 | exact c264) (fun c264 => ?_)
                        refine g_aload_n dX12_work_267 rfl ?_
                        refine g_getP dX12_work_268 fdX12_74 rfl (by first | rfl | exact pv_shx) (by omega) (by omega) (by decide) rfl (hP _ _ _ rfl) ?_
                        refine g_iload_n dX12_work_271 rfl ?_
                        refine g_iconst (v := nI 1) dX12_work_272 (by decide) ?_
                        refine n_isub dX12_work_273 (nI_p1 _) ?_
                        refine n_zald dX12_work_274 (by first | rfl | exact pv_shx) (by omega) (by omega) (by decide) (rfl) (by omega) (by repeat (first | exact f5 | exact g1 | exact g2 | exact fu1 | exact ft1 | (apply rd_s; done) | apply rd_n (by omega) | apply rp_s | apply rp_n (by omega) | (apply rdL_s; done) | apply rdL_n (by omega) | apply rpJ_s | apply rpJ_n (by omega) | rfl)) ?_
                        refine n_if_eq 291 dX12_work_275 (by decide) (by first | (with_reducible exact cB _) | ((with_reducible apply cN_eq0) <;> omega) | exact Iff.rfl) (fun c275 => by exfalso; first | omega | exact absurd trivial c275 | exact c275) (fun c275 => ?_)
                        refine g_aload_n dX12_work_278 rfl ?_
                        refine g_getP dX12_work_279 fdX12_74 rfl (by first | rfl | exact pv_shx) (by omega) (by omega) (by decide) rfl (hP _ _ _ rfl) ?_
                        refine g_iload_n dX12_work_282 rfl ?_
                        refine n_zald dX12_work_283 (by first | rfl | exact pv_shx) (by omega) (by omega) (by decide) (rfl) (by omega) (by repeat (first | exact f5 | exact g1 | exact g2 | exact fu1 | exact ft1 | (apply rd_s; done) | apply rd_n (by omega) | apply rp_s | apply rp_n (by omega) | (apply rdL_s; done) | apply rdL_n (by omega) | apply rpJ_s | apply rpJ_n (by omega) | rfl)) ?_
                        refine n_if_eq 291 dX12_work_284 (by decide) (by first | (with_reducible exact cB _) | ((with_reducible apply cN_eq0) <;> omega) | exact Iff.rfl) (fun c284 => ?_) (fun c284 => by exfalso; first | omega | exact absurd trivial c284 | exact c284)
                        refine g_iconst (v := nI 0) dX12_work_291 (by decide) ?_
                        refine g_goto 320 dX12_work_292 (by decide) ?_
                        refine n_zast (by first | exact Or.inl rfl | exact Or.inr rfl | exact cB01 _) dX12_work_320 (by first | rfl | exact pv_shx) (by omega) (by omega) (by omega) (by decide) (rfl) (by omega) (by repeat (first | exact pvu_s | exact pvuJ_s | apply pvu_in (by omega) | apply pvuJ_in (by omega) | exact pvu_pvs | exact pvuJ_pvs)) ?_
                        refine g_iinc dX12_work_321 rfl (by first | (with_reducible exact nI_1 _) | exact nI_1 _ | exact pk_m1 _ | rfl) (by decide) rfl ?_
                        refine g_goto 29 dX12_work_324 (by decide) ?_
                        exact g_drop _ (by repeat (first | exact trivial | refine ⟨Or.inr ⟨_, rfl⟩, ?_⟩ | refine ⟨Or.inl rfl, ?_⟩)) n2
                      | false =>
                        have fu1 : I1 221 (r.length + 1) = nI 0 := fu
                        have ft1 : I1 221 r.length = nI 0 := ft
                        have n2 := nx false (nI 0) rfl
                        show HW cl _ t0 0 (r.length + 1 + 1) i I1 J1 P
                        refine g_iload dX12_work_29 rfl ?_
                        refine g_aload_n dX12_work_31 rfl ?_
                        refine g_getP dX12_work_32 fdX12_16 rfl (by first | rfl | exact pv_shx) (by omega) (by omega) (by decide) rfl (hP _ _ _ rfl) ?_
                        refine g_iload_n dX12_work_35 rfl ?_
                        refine g_iconst (v := nI 5) dX12_work_36 (by decide) ?_
                        refine n_iadd dX12_work_37 (by first | (with_reducible exact nI_add _ _) | rfl) ?_
                        refine n_iald dX12_work_38 (by first | rfl | exact pv_shx) (by omega) (by omega) (by decide) (rfl) (by omega) (by repeat (first | exact f5 | exact g1 | exact g2 | exact fu1 | exact ft1 | (apply rd_s; done) | apply rd_n (by omega) | apply rp_s | apply rp_n (by omega) | (apply rdL_s; done) | apply rdL_n (by omega) | apply rpJ_s | apply rpJ_n (by omega) | rfl)) ?_
                        refine n_icmp_ge 327 dX12_work_39 (by decide) (by first | ((with_reducible apply cN_le) <;> omega) | ((with_reducible apply cI_len) <;> omega) | ((with_reducible apply cI_nle) <;> omega) | (with_reducible exact cI_le)) (fun c39 => by exfalso; first | omega | exact absurd trivial c39 | exact c39) (fun c39 => ?_)
                        refine g_aload_n dX12_work_42 rfl ?_
                        refine g_getP dX12_work_43 fdX12_16 rfl (by first | rfl | exact pv_shx) (by omega) (by omega) (by decide) rfl (hP _ _ _ rfl) ?_
                        refine g_iload dX12_work_46 rfl ?_
                        refine g_iconst (v := nI 2) dX12_work_48 (by decide) ?_
                        refine g_iload dX12_work_49 rfl ?_
                        refine n_imul dX12_work_51 (by first | (with_reducible exact pk_mul _ _) | rfl) ?_
                        refine n_iadd dX12_work_52 (by first | (with_reducible exact nI_add _ _) | rfl) ?_
                        refine n_iald dX12_work_53 (by first | rfl | exact pv_shx) (by omega) (by omega) (by decide) (rfl) (by omega) (by repeat (first | exact f5 | exact g1 | exact g2 | exact fu1 | exact ft1 | (apply rd_s; done) | apply rd_n (by omega) | apply rp_s | apply rp_n (by omega) | (apply rdL_s; done) | apply rdL_n (by omega) | apply rpJ_s | apply rpJ_n (by omega) | rfl)) ?_
                        refine g_istore dX12_work_54 (by decide) rfl ?_
                        refine g_aload_n dX12_work_56 rfl ?_
                        refine g_getP dX12_work_57 fdX12_16 rfl (by first | rfl | exact pv_shx) (by omega) (by omega) (by decide) rfl (hP _ _ _ rfl) ?_
                        refine g_iload dX12_work_60 rfl ?_
                        refine g_iconst (v := nI 2) dX12_work_62 (by decide) ?_
                        refine g_iload dX12_work_63 rfl ?_
                        refine n_imul dX12_work_65 (by first | (with_reducible exact pk_mul _ _) | rfl) ?_
                        refine n_iadd dX12_work_66 (by first | (with_reducible exact nI_add _ _) | rfl) ?_
                        refine g_iconst (v := nI 1) dX12_work_67 (by decide) ?_
                        refine n_iadd dX12_work_68 (by first | (with_reducible exact nI_add _ _) | rfl) ?_
                        refine n_iald dX12_work_69 (by first | rfl | exact pv_shx) (by omega) (by omega) (by decide) (rfl) (by omega) (by repeat (first | exact f5 | exact g1 | exact g2 | exact fu1 | exact ft1 | (apply rd_s; done) | apply rd_n (by omega) | apply rp_s | apply rp_n (by omega) | (apply rdL_s; done) | apply rdL_n (by omega) | apply rpJ_s | apply rpJ_n (by omega) | rfl)) ?_
                        refine g_istore dX12_work_70 (by decide) rfl ?_
                        refine g_iload dX12_work_72 rfl ?_
                        refine g_iconst (v := nI 1) dX12_work_74 (by decide) ?_
                        refine n_icmp_gt 109 dX12_work_75 (by decide) (by first | ((with_reducible apply cN_lt) <;> omega) | ((with_reducible apply cI_ltn) <;> omega) | ((with_reducible apply cI_nlt) <;> omega) | (with_reducible exact cI_lt)) (fun c75 => ?_) (fun c75 => by exfalso; first | omega | exact absurd trivial c75 | exact c75)
                        refine g_iload dX12_work_109 rfl ?_
                        refine g_iconst (v := nI 2) dX12_work_111 (by decide) ?_
                        refine n_icmp_ne 135 dX12_work_112 (by decide) (by first | ((with_reducible apply cN_eq) <;> omega) | ((with_reducible apply cI_eqn) <;> omega) | exact Iff.rfl) (fun c112 => ?_) (fun c112 => by exfalso; first | omega | exact absurd trivial c112 | exact c112)
                        refine g_iload dX12_work_135 rfl ?_
                        refine g_bipush (v := nI 10) dX12_work_137 (by decide) ?_
                        refine n_icmp_ge 175 dX12_work_139 (by decide) (by first | ((with_reducible apply cN_le) <;> omega) | ((with_reducible apply cI_len) <;> omega) | ((with_reducible apply cI_nle) <;> omega) | (with_reducible exact cI_le)) (fun c139 => ?_) (fun c139 => by exfalso; first | omega | exact absurd trivial c139 | exact c139)
                        refine g_iload dX12_work_175 rfl ?_
                        refine g_bipush (v := nI 20) dX12_work_177 (by decide) ?_
                        refine n_icmp_ge 216 dX12_work_179 (by decide) (by first | ((with_reducible apply cN_le) <;> omega) | ((with_reducible apply cI_len) <;> omega) | ((with_reducible apply cI_nle) <;> omega) | (with_reducible exact cI_le)) (fun c179 => ?_) (fun c179 => by exfalso; first | omega | exact absurd trivial c179 | exact c179)
                        refine g_iload dX12_work_216 rfl ?_
                        refine g_bipush (v := nI 20) dX12_work_218 (by decide) ?_
                        refine n_icmp_ne 250 dX12_work_220 (by decide) (by first | ((with_reducible apply cN_eq) <;> omega) | ((with_reducible apply cI_eqn) <;> omega) | exact Iff.rfl) (fun c220 => ?_) (fun c220 => by exfalso; first | omega | exact absurd trivial c220 | exact c220)
                        refine g_iinc dX12_work_250 rfl (pk_m1 _) (by decide) rfl ?_
                        refine g_aload_n dX12_work_253 rfl ?_
                        refine g_getP dX12_work_254 fdX12_74 rfl (by first | rfl | exact pv_shx) (by omega) (by omega) (by decide) rfl (hP _ _ _ rfl) ?_
                        refine g_iload_n dX12_work_257 rfl ?_
                        refine g_iconst (v := nI 1) dX12_work_258 (by decide) ?_
                        refine n_isub dX12_work_259 (by first | ((with_reducible apply pk_sub) <;> omega) | rfl) ?_
                        refine g_iload dX12_work_260 rfl ?_
                        refine g_bipush (v := nI 21) dX12_work_262 (by decide) ?_
                        refine n_icmp_ne 295 dX12_work_264 (by decide) (by first | ((with_reducible apply cN_eq) <;> omega) | ((with_reducible apply cI_eqn) <;> omega) | exact Iff.rfl) (fun c264 => by exfalso; first | omega | exact absurd trivial c264 | exact c264) (fun c264 => ?_)
                        refine g_aload_n dX12_work_267 rfl ?_
                        refine g_getP dX12_work_268 fdX12_74 rfl (by first | rfl | exact pv_shx) (by omega) (by omega) (by decide) rfl (hP _ _ _ rfl) ?_
                        refine g_iload_n dX12_work_271 rfl ?_
                        refine g_iconst (v := nI 1) dX12_work_272 (by decide) ?_
                        refine n_isub dX12_work_273 (nI_p1 _) ?_
                        refine n_zald dX12_work_274 (by first | rfl | exact pv_shx) (by omega) (by omega) (by decide) (rfl) (by omega) (by repeat (first | exact f5 | exact g1 | exact g2 | exact fu1 | exact ft1 | (apply rd_s; done) | apply rd_n (by omega) | apply rp_s | apply rp_n (by omega) | (apply rdL_s; done) | apply rdL_n (by omega) | apply rpJ_s | apply rpJ_n (by omega) | rfl)) ?_
                        refine n_if_eq 291 dX12_work_275 (by decide) (by first | (with_reducible exact cB _) | ((with_reducible apply cN_eq0) <;> omega) | exact Iff.rfl) (fun c275 => ?_) (fun c275 => by exfalso; first | omega | exact absurd trivial c275 | exact c275)
                        refine g_iconst (v := nI 0) dX12_work_291 (by decide) ?_
                        refine g_goto 320 dX12_work_292 (by decide) ?_
                        refine n_zast (by first | exact Or.inl rfl | exact Or.inr rfl | exact cB01 _) dX12_work_320 (by first | rfl | exact pv_shx) (by omega) (by omega) (by omega) (by decide) (rfl) (by omega) (by repeat (first | exact pvu_s | exact pvuJ_s | apply pvu_in (by omega) | apply pvuJ_in (by omega) | exact pvu_pvs | exact pvuJ_pvs)) ?_
                        refine g_iinc dX12_work_321 rfl (by first | (with_reducible exact nI_1 _) | exact nI_1 _ | exact pk_m1 _ | rfl) (by decide) rfl ?_
                        refine g_goto 29 dX12_work_324 (by decide) ?_
                        exact g_drop _ (by repeat (first | exact trivial | refine ⟨Or.inr ⟨_, rfl⟩, ?_⟩ | refine ⟨Or.inl rfl, ?_⟩)) n2
                  · rw [if_neg q5]
                    cases u with
                    | true =>
                      cases t with
                      | true =>
                        have fu1 : I1 221 (r.length + 1) = nI 1 := fu
                        have ft1 : I1 221 r.length = nI 1 := ft
                        have n2 := nx true (nI 1) rfl
                        show HW cl _ t0 0 (r.length + 1 + 1) i I1 J1 P
                        refine g_iload dX12_work_29 rfl ?_
                        refine g_aload_n dX12_work_31 rfl ?_
                        refine g_getP dX12_work_32 fdX12_16 rfl (by first | rfl | exact pv_shx) (by omega) (by omega) (by decide) rfl (hP _ _ _ rfl) ?_
                        refine g_iload_n dX12_work_35 rfl ?_
                        refine g_iconst (v := nI 5) dX12_work_36 (by decide) ?_
                        refine n_iadd dX12_work_37 (by first | (with_reducible exact nI_add _ _) | rfl) ?_
                        refine n_iald dX12_work_38 (by first | rfl | exact pv_shx) (by omega) (by omega) (by decide) (rfl) (by omega) (by repeat (first | exact f5 | exact g1 | exact g2 | exact fu1 | exact ft1 | (apply rd_s; done) | apply rd_n (by omega) | apply rp_s | apply rp_n (by omega) | (apply rdL_s; done) | apply rdL_n (by omega) | apply rpJ_s | apply rpJ_n (by omega) | rfl)) ?_
                        refine n_icmp_ge 327 dX12_work_39 (by decide) (by first | ((with_reducible apply cN_le) <;> omega) | ((with_reducible apply cI_len) <;> omega) | ((with_reducible apply cI_nle) <;> omega) | (with_reducible exact cI_le)) (fun c39 => by exfalso; first | omega | exact absurd trivial c39 | exact c39) (fun c39 => ?_)
                        refine g_aload_n dX12_work_42 rfl ?_
                        refine g_getP dX12_work_43 fdX12_16 rfl (by first | rfl | exact pv_shx) (by omega) (by omega) (by decide) rfl (hP _ _ _ rfl) ?_
                        refine g_iload dX12_work_46 rfl ?_
                        refine g_iconst (v := nI 2) dX12_work_48 (by decide) ?_
                        refine g_iload dX12_work_49 rfl ?_
                        refine n_imul dX12_work_51 (by first | (with_reducible exact pk_mul _ _) | rfl) ?_
                        refine n_iadd dX12_work_52 (by first | (with_reducible exact nI_add _ _) | rfl) ?_
                        refine n_iald dX12_work_53 (by first | rfl | exact pv_shx) (by omega) (by omega) (by decide) (rfl) (by omega) (by repeat (first | exact f5 | exact g1 | exact g2 | exact fu1 | exact ft1 | (apply rd_s; done) | apply rd_n (by omega) | apply rp_s | apply rp_n (by omega) | (apply rdL_s; done) | apply rdL_n (by omega) | apply rpJ_s | apply rpJ_n (by omega) | rfl)) ?_
                        refine g_istore dX12_work_54 (by decide) rfl ?_
                        refine g_aload_n dX12_work_56 rfl ?_
                        refine g_getP dX12_work_57 fdX12_16 rfl (by first | rfl | exact pv_shx) (by omega) (by omega) (by decide) rfl (hP _ _ _ rfl) ?_
                        refine g_iload dX12_work_60 rfl ?_
                        refine g_iconst (v := nI 2) dX12_work_62 (by decide) ?_
                        refine g_iload dX12_work_63 rfl ?_
                        refine n_imul dX12_work_65 (by first | (with_reducible exact pk_mul _ _) | rfl) ?_
                        refine n_iadd dX12_work_66 (by first | (with_reducible exact nI_add _ _) | rfl) ?_
                        refine g_iconst (v := nI 1) dX12_work_67 (by decide) ?_
                        refine n_iadd dX12_work_68 (by first | (with_reducible exact nI_add _ _) | rfl) ?_
                        refine n_iald dX12_work_69 (by first | rfl | exact pv_shx) (by omega) (by omega) (by decide) (rfl) (by omega) (by repeat (first | exact f5 | exact g1 | exact g2 | exact fu1 | exact ft1 | (apply rd_s; done) | apply rd_n (by omega) | apply rp_s | apply rp_n (by omega) | (apply rdL_s; done) | apply rdL_n (by omega) | apply rpJ_s | apply rpJ_n (by omega) | rfl)) ?_
                        refine g_istore dX12_work_70 (by decide) rfl ?_
                        refine g_iload dX12_work_72 rfl ?_
                        refine g_iconst (v := nI 1) dX12_work_74 (by decide) ?_
                        refine n_icmp_gt 109 dX12_work_75 (by decide) (by first | ((with_reducible apply cN_lt) <;> omega) | ((with_reducible apply cI_ltn) <;> omega) | ((with_reducible apply cI_nlt) <;> omega) | (with_reducible exact cI_lt)) (fun c75 => ?_) (fun c75 => by exfalso; first | omega | exact absurd trivial c75 | exact c75)
                        refine g_iload dX12_work_109 rfl ?_
                        refine g_iconst (v := nI 2) dX12_work_111 (by decide) ?_
                        refine n_icmp_ne 135 dX12_work_112 (by decide) (by first | ((with_reducible apply cN_eq) <;> omega) | ((with_reducible apply cI_eqn) <;> omega) | exact Iff.rfl) (fun c112 => ?_) (fun c112 => by exfalso; first | omega | exact absurd trivial c112 | exact c112)
                        refine g_iload dX12_work_135 rfl ?_
                        refine g_bipush (v := nI 10) dX12_work_137 (by decide) ?_
                        refine n_icmp_ge 175 dX12_work_139 (by decide) (by first | ((with_reducible apply cN_le) <;> omega) | ((with_reducible apply cI_len) <;> omega) | ((with_reducible apply cI_nle) <;> omega) | (with_reducible exact cI_le)) (fun c139 => ?_) (fun c139 => by exfalso; first | omega | exact absurd trivial c139 | exact c139)
                        refine g_iload dX12_work_175 rfl ?_
                        refine g_bipush (v := nI 20) dX12_work_177 (by decide) ?_
                        refine n_icmp_ge 216 dX12_work_179 (by decide) (by first | ((with_reducible apply cN_le) <;> omega) | ((with_reducible apply cI_len) <;> omega) | ((with_reducible apply cI_nle) <;> omega) | (with_reducible exact cI_le)) (fun c179 => ?_) (fun c179 => by exfalso; first | omega | exact absurd trivial c179 | exact c179)
                        refine g_iload dX12_work_216 rfl ?_
                        refine g_bipush (v := nI 20) dX12_work_218 (by decide) ?_
                        refine n_icmp_ne 250 dX12_work_220 (by decide) (by first | ((with_reducible apply cN_eq) <;> omega) | ((with_reducible apply cI_eqn) <;> omega) | exact Iff.rfl) (fun c220 => ?_) (fun c220 => by exfalso; first | omega | exact absurd trivial c220 | exact c220)
                        refine g_iinc dX12_work_250 rfl (pk_m1 _) (by decide) rfl ?_
                        refine g_aload_n dX12_work_253 rfl ?_
                        refine g_getP dX12_work_254 fdX12_74 rfl (by first | rfl | exact pv_shx) (by omega) (by omega) (by decide) rfl (hP _ _ _ rfl) ?_
                        refine g_iload_n dX12_work_257 rfl ?_
                        refine g_iconst (v := nI 1) dX12_work_258 (by decide) ?_
                        refine n_isub dX12_work_259 (by first | ((with_reducible apply pk_sub) <;> omega) | rfl) ?_
                        refine g_iload dX12_work_260 rfl ?_
                        refine g_bipush (v := nI 21) dX12_work_262 (by decide) ?_
                        refine n_icmp_ne 295 dX12_work_264 (by decide) (by first | ((with_reducible apply cN_eq) <;> omega) | ((with_reducible apply cI_eqn) <;> omega) | exact Iff.rfl) (fun c264 => ?_) (fun c264 => by exfalso; first | omega | exact absurd trivial c264 | exact c264)
                        refine g_aload_n dX12_work_295 rfl ?_
                        refine g_getP dX12_work_296 fdX12_74 rfl (by first | rfl | exact pv_shx) (by omega) (by omega) (by decide) rfl (hP _ _ _ rfl) ?_
                        refine g_iload_n dX12_work_299 rfl ?_
                        refine g_iconst (v := nI 1) dX12_work_300 (by decide) ?_
                        refine n_isub dX12_work_301 (nI_p1 _) ?_
                        refine n_zald dX12_work_302 (by first | rfl | exact pv_shx) (by omega) (by omega) (by decide) (rfl) (by omega) (by repeat (first | exact f5 | exact g1 | exact g2 | exact fu1 | exact ft1 | (apply rd_s; done) | apply rd_n (by omega) | apply rp_s | apply rp_n (by omega) | (apply rdL_s; done) | apply rdL_n (by omega) | apply rpJ_s | apply rpJ_n (by omega) | rfl)) ?_
                        refine n_if_ne 315 dX12_work_303 (by decide) (by first | (with_reducible exact cB _) | ((with_reducible apply cN_eq0) <;> omega) | exact Iff.rfl) (fun c303 => ?_) (fun c303 => by exfalso; first | omega | exact absurd trivial c303 | exact c303)
                        refine g_iconst (v := nI 1) dX12_work_315 (by decide) ?_
                        refine g_goto 320 dX12_work_316 (by decide) ?_
                        refine n_zast (by first | exact Or.inl rfl | exact Or.inr rfl | exact cB01 _) dX12_work_320 (by first | rfl | exact pv_shx) (by omega) (by omega) (by omega) (by decide) (rfl) (by omega) (by repeat (first | exact pvu_s | exact pvuJ_s | apply pvu_in (by omega) | apply pvuJ_in (by omega) | exact pvu_pvs | exact pvuJ_pvs)) ?_
                        refine g_iinc dX12_work_321 rfl (by first | (with_reducible exact nI_1 _) | exact nI_1 _ | exact pk_m1 _ | rfl) (by decide) rfl ?_
                        refine g_goto 29 dX12_work_324 (by decide) ?_
                        exact g_drop _ (by repeat (first | exact trivial | refine ⟨Or.inr ⟨_, rfl⟩, ?_⟩ | refine ⟨Or.inl rfl, ?_⟩)) n2
                      | false =>
                        have fu1 : I1 221 (r.length + 1) = nI 1 := fu
                        have ft1 : I1 221 r.length = nI 0 := ft
                        have n2 := nx true (nI 1) rfl
                        show HW cl _ t0 0 (r.length + 1 + 1) i I1 J1 P
                        refine g_iload dX12_work_29 rfl ?_
                        refine g_aload_n dX12_work_31 rfl ?_
                        refine g_getP dX12_work_32 fdX12_16 rfl (by first | rfl | exact pv_shx) (by omega) (by omega) (by decide) rfl (hP _ _ _ rfl) ?_
                        refine g_iload_n dX12_work_35 rfl ?_
                        refine g_iconst (v := nI 5) dX12_work_36 (by decide) ?_
                        refine n_iadd dX12_work_37 (by first | (with_reducible exact nI_add _ _) | rfl) ?_
                        refine n_iald dX12_work_38 (by first | rfl | exact pv_shx) (by omega) (by omega) (by decide) (rfl) (by omega) (by repeat (first | exact f5 | exact g1 | exact g2 | exact fu1 | exact ft1 | (apply rd_s; done) | apply rd_n (by omega) | apply rp_s | apply rp_n (by omega) | (apply rdL_s; done) | apply rdL_n (by omega) | apply rpJ_s | apply rpJ_n (by omega) | rfl)) ?_
                        refine n_icmp_ge 327 dX12_work_39 (by decide) (by first | ((with_reducible apply cN_le) <;> omega) | ((with_reducible apply cI_len) <;> omega) | ((with_reducible apply cI_nle) <;> omega) | (with_reducible exact cI_le)) (fun c39 => by exfalso; first | omega | exact absurd trivial c39 | exact c39) (fun c39 => ?_)
                        refine g_aload_n dX12_work_42 rfl ?_
                        refine g_getP dX12_work_43 fdX12_16 rfl (by first | rfl | exact pv_shx) (by omega) (by omega) (by decide) rfl (hP _ _ _ rfl) ?_
                        refine g_iload dX12_work_46 rfl ?_
                        refine g_iconst (v := nI 2) dX12_work_48 (by decide) ?_
                        refine g_iload dX12_work_49 rfl ?_
                        refine n_imul dX12_work_51 (by first | (with_reducible exact pk_mul _ _) | rfl) ?_
                        refine n_iadd dX12_work_52 (by first | (with_reducible exact nI_add _ _) | rfl) ?_
                        refine n_iald dX12_work_53 (by first | rfl | exact pv_shx) (by omega) (by omega) (by decide) (rfl) (by omega) (by repeat (first | exact f5 | exact g1 | exact g2 | exact fu1 | exact ft1 | (apply rd_s; done) | apply rd_n (by omega) | apply rp_s | apply rp_n (by omega) | (apply rdL_s; done) | apply rdL_n (by omega) | apply rpJ_s | apply rpJ_n (by omega) | rfl)) ?_
                        refine g_istore dX12_work_54 (by decide) rfl ?_
                        refine g_aload_n dX12_work_56 rfl ?_
                        refine g_getP dX12_work_57 fdX12_16 rfl (by first | rfl | exact pv_shx) (by omega) (by omega) (by decide) rfl (hP _ _ _ rfl) ?_
                        refine g_iload dX12_work_60 rfl ?_
                        refine g_iconst (v := nI 2) dX12_work_62 (by decide) ?_
                        refine g_iload dX12_work_63 rfl ?_
                        refine n_imul dX12_work_65 (by first | (with_reducible exact pk_mul _ _) | rfl) ?_
                        refine n_iadd dX12_work_66 (by first | (with_reducible exact nI_add _ _) | rfl) ?_
                        refine g_iconst (v := nI 1) dX12_work_67 (by decide) ?_
                        refine n_iadd dX12_work_68 (by first | (with_reducible exact nI_add _ _) | rfl) ?_
                        refine n_iald dX12_work_69 (by first | rfl | exact pv_shx) (by omega) (by omega) (by decide) (rfl) (by omega) (by repeat (first | exact f5 | exact g1 | exact g2 | exact fu1 | exact ft1 | (apply rd_s; done) | apply rd_n (by omega) | apply rp_s | apply rp_n (by omega) | (apply rdL_s; done) | apply rdL_n (by omega) | apply rpJ_s | apply rpJ_n (by omega) | rfl)) ?_
                        refine g_istore dX12_work_70 (by decide) rfl ?_
                        refine g_iload dX12_work_72 rfl ?_
                        refine g_iconst (v := nI 1) dX12_work_74 (by decide) ?_
                        refine n_icmp_gt 109 dX12_work_75 (by decide) (by first | ((with_reducible apply cN_lt) <;> omega) | ((with_reducible apply cI_ltn) <;> omega) | ((with_reducible apply cI_nlt) <;> omega) | (with_reducible exact cI_lt)) (fun c75 => ?_) (fun c75 => by exfalso; first | omega | exact absurd trivial c75 | exact c75)
                        refine g_iload dX12_work_109 rfl ?_
                        refine g_iconst (v := nI 2) dX12_work_111 (by decide) ?_
                        refine n_icmp_ne 135 dX12_work_112 (by decide) (by first | ((with_reducible apply cN_eq) <;> omega) | ((with_reducible apply cI_eqn) <;> omega) | exact Iff.rfl) (fun c112 => ?_) (fun c112 => by exfalso; first | omega | exact absurd trivial c112 | exact c112)
                        refine g_iload dX12_work_135 rfl ?_
                        refine g_bipush (v := nI 10) dX12_work_137 (by decide) ?_
                        refine n_icmp_ge 175 dX12_work_139 (by decide) (by first | ((with_reducible apply cN_le) <;> omega) | ((with_reducible apply cI_len) <;> omega) | ((with_reducible apply cI_nle) <;> omega) | (with_reducible exact cI_le)) (fun c139 => ?_) (fun c139 => by exfalso; first | omega | exact absurd trivial c139 | exact c139)
                        refine g_iload dX12_work_175 rfl ?_
                        refine g_bipush (v := nI 20) dX12_work_177 (by decide) ?_
                        refine n_icmp_ge 216 dX12_work_179 (by decide) (by first | ((with_reducible apply cN_le) <;> omega) | ((with_reducible apply cI_len) <;> omega) | ((with_reducible apply cI_nle) <;> omega) | (with_reducible exact cI_le)) (fun c179 => ?_) (fun c179 => by exfalso; first | omega | exact absurd trivial c179 | exact c179)
                        refine g_iload dX12_work_216 rfl ?_
                        refine g_bipush (v := nI 20) dX12_work_218 (by decide) ?_
                        refine n_icmp_ne 250 dX12_work_220 (by decide) (by first | ((with_reducible apply cN_eq) <;> omega) | ((with_reducible apply cI_eqn) <;> omega) | exact Iff.rfl) (fun c220 => ?_) (fun c220 => by exfalso; first | omega | exact absurd trivial c220 | exact c220)
                        refine g_iinc dX12_work_250 rfl (pk_m1 _) (by decide) rfl ?_
                        refine g_aload_n dX12_work_253 rfl ?_
                        refine g_getP dX12_work_254 fdX12_74 rfl (by first | rfl | exact pv_shx) (by omega) (by omega) (by decide) rfl (hP _ _ _ rfl) ?_
                        refine g_iload_n dX12_work_257 rfl ?_
                        refine g_iconst (v := nI 1) dX12_work_258 (by decide) ?_
                        refine n_isub dX12_work_259 (by first | ((with_reducible apply pk_sub) <;> omega) | rfl) ?_
                        refine g_iload dX12_work_260 rfl ?_
                        refine g_bipush (v := nI 21) dX12_work_262 (by decide) ?_
                        refine n_icmp_ne 295 dX12_work_264 (by decide) (by first | ((with_reducible apply cN_eq) <;> omega) | ((with_reducible apply cI_eqn) <;> omega) | exact Iff.rfl) (fun c264 => ?_) (fun c264 => by exfalso; first | omega | exact absurd trivial c264 | exact c264)
                        refine g_aload_n dX12_work_295 rfl ?_
                        refine g_getP dX12_work_296 fdX12_74 rfl (by first | rfl | exact pv_shx) (by omega) (by omega) (by decide) rfl (hP _ _ _ rfl) ?_
                        refine g_iload_n dX12_work_299 rfl ?_
                        refine g_iconst (v := nI 1) dX12_work_300 (by decide) ?_
                        refine n_isub dX12_work_301 (nI_p1 _) ?_
                        refine n_zald dX12_work_302 (by first | rfl | exact pv_shx) (by omega) (by omega) (by decide) (rfl) (by omega) (by repeat (first | exact f5 | exact g1 | exact g2 | exact fu1 | exact ft1 | (apply rd_s; done) | apply rd_n (by omega) | apply rp_s | apply rp_n (by omega) | (apply rdL_s; done) | apply rdL_n (by omega) | apply rpJ_s | apply rpJ_n (by omega) | rfl)) ?_
                        refine n_if_ne 315 dX12_work_303 (by decide) (by first | (with_reducible exact cB _) | ((with_reducible apply cN_eq0) <;> omega) | exact Iff.rfl) (fun c303 => by exfalso; first | omega | exact absurd trivial c303 | exact c303) (fun c303 => ?_)
                        refine g_aload_n dX12_work_306 rfl ?_
                        refine g_getP dX12_work_307 fdX12_74 rfl (by first | rfl | exact pv_shx) (by omega) (by omega) (by decide) rfl (hP _ _ _ rfl) ?_
                        refine g_iload_n dX12_work_310 rfl ?_
                        refine n_zald dX12_work_311 (by first | rfl | exact pv_shx) (by omega) (by omega) (by decide) (rfl) (by omega) (by repeat (first | exact f5 | exact g1 | exact g2 | exact fu1 | exact ft1 | (apply rd_s; done) | apply rd_n (by omega) | apply rp_s | apply rp_n (by omega) | (apply rdL_s; done) | apply rdL_n (by omega) | apply rpJ_s | apply rpJ_n (by omega) | rfl)) ?_
                        refine n_if_eq 319 dX12_work_312 (by decide) (by first | (with_reducible exact cB _) | ((with_reducible apply cN_eq0) <;> omega) | exact Iff.rfl) (fun c312 => by exfalso; first | omega | exact absurd trivial c312 | exact c312) (fun c312 => ?_)
                        refine g_iconst (v := nI 1) dX12_work_315 (by decide) ?_
                        refine g_goto 320 dX12_work_316 (by decide) ?_
                        refine n_zast (by first | exact Or.inl rfl | exact Or.inr rfl | exact cB01 _) dX12_work_320 (by first | rfl | exact pv_shx) (by omega) (by omega) (by omega) (by decide) (rfl) (by omega) (by repeat (first | exact pvu_s | exact pvuJ_s | apply pvu_in (by omega) | apply pvuJ_in (by omega) | exact pvu_pvs | exact pvuJ_pvs)) ?_
                        refine g_iinc dX12_work_321 rfl (by first | (with_reducible exact nI_1 _) | exact nI_1 _ | exact pk_m1 _ | rfl) (by decide) rfl ?_
                        refine g_goto 29 dX12_work_324 (by decide) ?_
                        exact g_drop _ (by repeat (first | exact trivial | refine ⟨Or.inr ⟨_, rfl⟩, ?_⟩ | refine ⟨Or.inl rfl, ?_⟩)) n2
                    | false =>
                      cases t with
                      | true =>
                        have fu1 : I1 221 (r.length + 1) = nI 0 := fu
                        have ft1 : I1 221 r.length = nI 1 := ft
                        have n2 := nx true (nI 1) rfl
                        show HW cl _ t0 0 (r.length + 1 + 1) i I1 J1 P
                        refine g_iload dX12_work_29 rfl ?_
                        refine g_aload_n dX12_work_31 rfl ?_
                        refine g_getP dX12_work_32 fdX12_16 rfl (by first | rfl | exact pv_shx) (by omega) (by omega) (by decide) rfl (hP _ _ _ rfl) ?_
                        refine g_iload_n dX12_work_35 rfl ?_
                        refine g_iconst (v := nI 5) dX12_work_36 (by decide) ?_
                        refine n_iadd dX12_work_37 (by first | (with_reducible exact nI_add _ _) | rfl) ?_
                        refine n_iald dX12_work_38 (by first | rfl | exact pv_shx) (by omega) (by omega) (by decide) (rfl) (by omega) (by repeat (first | exact f5 | exact g1 | exact g2 | exact fu1 | exact ft1 | (apply rd_s; done) | apply rd_n (by omega) | apply rp_s | apply rp_n (by omega) | (apply rdL_s; done) | apply rdL_n (by omega) | apply rpJ_s | apply rpJ_n (by omega) | rfl)) ?_
                        refine n_icmp_ge 327 dX12_work_39 (by decide) (by first | ((with_reducible apply cN_le) <;> omega) | ((with_reducible apply cI_len) <;> omega) | ((with_reducible apply cI_nle) <;> omega) | (with_reducible exact cI_le)) (fun c39 => by exfalso; first | omega | exact absurd trivial c39 | exact c39) (fun c39 => ?_)
                        refine g_aload_n dX12_work_42 rfl ?_
                        refine g_getP dX12_work_43 fdX12_16 rfl (by first | rfl | exact pv_shx) (by omega) (by omega) (by decide) rfl (hP _ _ _ rfl) ?_
                        refine g_iload dX12_work_46 rfl ?_
                        refine g_iconst (v := nI 2) dX12_work_48 (by decide) ?_
                        refine g_iload dX12_work_49 rfl ?_
                        refine n_imul dX12_work_51 (by first | (with_reducible exact pk_mul _ _) | rfl) ?_
                        refine n_iadd dX12_work_52 (by first | (with_reducible exact nI_add _ _) | rfl) ?_
                        refine n_iald dX12_work_53 (by first | rfl | exact pv_shx) (by omega) (by omega) (by decide) (rfl) (by omega) (by repeat (first | exact f5 | exact g1 | exact g2 | exact fu1 | exact ft1 | (apply rd_s; done) | apply rd_n (by omega) | apply rp_s | apply rp_n (by omega) | (apply rdL_s; done) | apply rdL_n (by omega) | apply rpJ_s | apply rpJ_n (by omega) | rfl)) ?_
                        refine g_istore dX12_work_54 (by decide) rfl ?_
                        refine g_aload_n dX12_work_56 rfl ?_
                        refine g_getP dX12_work_57 fdX12_16 rfl (by first | rfl | exact pv_shx) (by omega) (by omega) (by decide) rfl (hP _ _ _ rfl) ?_
                        refine g_iload dX12_work_60 rfl ?_
                        refine g_iconst (v := nI 2) dX12_work_62 (by decide) ?_
                        refine g_iload dX12_work_63 rfl ?_
                        refine n_imul dX12_work_65 (by first | (with_reducible exact pk_mul _ _) | rfl) ?_
                        refine n_iadd dX12_work_66 (by first | (with_reducible exact nI_add _ _) | rfl) ?_
                        refine g_iconst (v := nI 1) dX12_work_67 (by decide) ?_
                        refine n_iadd dX12_work_68 (by first | (with_reducible exact nI_add _ _) | rfl) ?_
                        refine n_iald dX12_work_69 (by first | rfl | exact pv_shx) (by omega) (by omega) (by decide) (rfl) (by omega) (by repeat (first | exact f5 | exact g1 | exact g2 | exact fu1 | exact ft1 | (apply rd_s; done) | apply rd_n (by omega) | apply rp_s | apply rp_n (by omega) | (apply rdL_s; done) | apply rdL_n (by omega) | apply rpJ_s | apply rpJ_n (by omega) | rfl)) ?_
                        refine g_istore dX12_work_70 (by decide) rfl ?_
                        refine g_iload dX12_work_72 rfl ?_
                        refine g_iconst (v := nI 1) dX12_work_74 (by decide) ?_
                        refine n_icmp_gt 109 dX12_work_75 (by decide) (by first | ((with_reducible apply cN_lt) <;> omega) | ((with_reducible apply cI_ltn) <;> omega) | ((with_reducible apply cI_nlt) <;> omega) | (with_reducible exact cI_lt)) (fun c75 => ?_) (fun c75 => by exfalso; first | omega | exact absurd trivial c75 | exact c75)
                        refine g_iload dX12_work_109 rfl ?_
                        refine g_iconst (v := nI 2) dX12_work_111 (by decide) ?_
                        refine n_icmp_ne 135 dX12_work_112 (by decide) (by first | ((with_reducible apply cN_eq) <;> omega) | ((with_reducible apply cI_eqn) <;> omega) | exact Iff.rfl) (fun c112 => ?_) (fun c112 => by exfalso; first | omega | exact absurd trivial c112 | exact c112)
                        refine g_iload dX12_work_135 rfl ?_
                        refine g_bipush (v := nI 10) dX12_work_137 (by decide) ?_
                        refine n_icmp_ge 175 dX12_work_139 (by decide) (by first | ((with_reducible apply cN_le) <;> omega) | ((with_reducible apply cI_len) <;> omega) | ((with_reducible apply cI_nle) <;> omega) | (with_reducible exact cI_le)) (fun c139 => ?_) (fun c139 => by exfalso; first | omega | exact absurd trivial c139 | exact c139)
                        refine g_iload dX12_work_175 rfl ?_
                        refine g_bipush (v := nI 20) dX12_work_177 (by decide) ?_
                        refine n_icmp_ge 216 dX12_work_179 (by decide) (by first | ((with_reducible apply cN_le) <;> omega) | ((with_reducible apply cI_len) <;> omega) | ((with_reducible apply cI_nle) <;> omega) | (with_reducible exact cI_le)) (fun c179 => ?_) (fun c179 => by exfalso; first | omega | exact absurd trivial c179 | exact c179)
                        refine g_iload dX12_work_216 rfl ?_
                        refine g_bipush (v := nI 20) dX12_work_218 (by decide) ?_
                        refine n_icmp_ne 250 dX12_work_220 (by decide) (by first | ((with_reducible apply cN_eq) <;> omega) | ((with_reducible apply cI_eqn) <;> omega) | exact Iff.rfl) (fun c220 => ?_) (fun c220 => by exfalso; first | omega | exact absurd trivial c220 | exact c220)
                        refine g_iinc dX12_work_250 rfl (pk_m1 _) (by decide) rfl ?_
                        refine g_aload_n dX12_work_253 rfl ?_
                        refine g_getP dX12_work_254 fdX12_74 rfl (by first | rfl | exact pv_shx) (by omega) (by omega) (by decide) rfl (hP _ _ _ rfl) ?_
                        refine g_iload_n dX12_work_257 rfl ?_
                        refine g_iconst (v := nI 1) dX12_work_258 (by decide) ?_
                        refine n_isub dX12_work_259 (by first | ((with_reducible apply pk_sub) <;> omega) | rfl) ?_
                        refine g_iload dX12_work_260 rfl ?_
                        refine g_bipush (v := nI 21) dX12_work_262 (by decide) ?_
                        refine n_icmp_ne 295 dX12_work_264 (by decide) (by first | ((with_reducible apply cN_eq) <;> omega) | ((with_reducible apply cI_eqn) <;> omega) | exact Iff.rfl) (fun c264 => ?_) (fun c264 => by exfalso; first | omega | exact absurd trivial c264 | exact c264)
                        refine g_aload_n dX12_work_295 rfl ?_
                        refine g_getP dX12_work_296 fdX12_74 rfl (by first | rfl | exact pv_shx) (by omega) (by omega) (by decide) rfl (hP _ _ _ rfl) ?_
                        refine g_iload_n dX12_work_299 rfl ?_
                        refine g_iconst (v := nI 1) dX12_work_300 (by decide) ?_
                        refine n_isub dX12_work_301 (nI_p1 _) ?_
                        refine n_zald dX12_work_302 (by first | rfl | exact pv_shx) (by omega) (by omega) (by decide) (rfl) (by omega) (by repeat (first | exact f5 | exact g1 | exact g2 | exact fu1 | exact ft1 | (apply rd_s; done) | apply rd_n (by omega) | apply rp_s | apply rp_n (by omega) | (apply rdL_s; done) | apply rdL_n (by omega) | apply rpJ_s | apply rpJ_n (by omega) | rfl)) ?_
                        refine n_if_ne 315 dX12_work_303 (by decide) (by first | (with_reducible exact cB _) | ((with_reducible apply cN_eq0) <;> omega) | exact Iff.rfl) (fun c303 => ?_) (fun c303 => by exfalso; first | omega | exact absurd trivial c303 | exact c303)
                        refine g_iconst (v := nI 1) dX12_work_315 (by decide) ?_
                        refine g_goto 320 dX12_work_316 (by decide) ?_
                        refine n_zast (by first | exact Or.inl rfl | exact Or.inr rfl | exact cB01 _) dX12_work_320 (by first | rfl | exact pv_shx) (by omega) (by omega) (by omega) (by decide) (rfl) (by omega) (by repeat (first | exact pvu_s | exact pvuJ_s | apply pvu_in (by omega) | apply pvuJ_in (by omega) | exact pvu_pvs | exact pvuJ_pvs)) ?_
                        refine g_iinc dX12_work_321 rfl (by first | (with_reducible exact nI_1 _) | exact nI_1 _ | exact pk_m1 _ | rfl) (by decide) rfl ?_
                        refine g_goto 29 dX12_work_324 (by decide) ?_
                        exact g_drop _ (by repeat (first | exact trivial | refine ⟨Or.inr ⟨_, rfl⟩, ?_⟩ | refine ⟨Or.inl rfl, ?_⟩)) n2
                      | false =>
                        have fu1 : I1 221 (r.length + 1) = nI 0 := fu
                        have ft1 : I1 221 r.length = nI 0 := ft
                        have n2 := nx false (nI 0) rfl
                        show HW cl _ t0 0 (r.length + 1 + 1) i I1 J1 P
                        refine g_iload dX12_work_29 rfl ?_
                        refine g_aload_n dX12_work_31 rfl ?_
                        refine g_getP dX12_work_32 fdX12_16 rfl (by first | rfl | exact pv_shx) (by omega) (by omega) (by decide) rfl (hP _ _ _ rfl) ?_
                        refine g_iload_n dX12_work_35 rfl ?_
                        refine g_iconst (v := nI 5) dX12_work_36 (by decide) ?_
                        refine n_iadd dX12_work_37 (by first | (with_reducible exact nI_add _ _) | rfl) ?_
                        refine n_iald dX12_work_38 (by first | rfl | exact pv_shx) (by omega) (by omega) (by decide) (rfl) (by omega) (by repeat (first | exact f5 | exact g1 | exact g2 | exact fu1 | exact ft1 | (apply rd_s; done) | apply rd_n (by omega) | apply rp_s | apply rp_n (by omega) | (apply rdL_s; done) | apply rdL_n (by omega) | apply rpJ_s | apply rpJ_n (by omega) | rfl)) ?_
                        refine n_icmp_ge 327 dX12_work_39 (by decide) (by first | ((with_reducible apply cN_le) <;> omega) | ((with_reducible apply cI_len) <;> omega) | ((with_reducible apply cI_nle) <;> omega) | (with_reducible exact cI_le)) (fun c39 => by exfalso; first | omega | exact absurd trivial c39 | exact c39) (fun c39 => ?_)
                        refine g_aload_n dX12_work_42 rfl ?_
                        refine g_getP dX12_work_43 fdX12_16 rfl (by first | rfl | exact pv_shx) (by omega) (by omega) (by decide) rfl (hP _ _ _ rfl) ?_
                        refine g_iload dX12_work_46 rfl ?_
                        refine g_iconst (v := nI 2) dX12_work_48 (by decide) ?_
                        refine g_iload dX12_work_49 rfl ?_
                        refine n_imul dX12_work_51 (by first | (with_reducible exact pk_mul _ _) | rfl) ?_
                        refine n_iadd dX12_work_52 (by first | (with_reducible exact nI_add _ _) | rfl) ?_
                        refine n_iald dX12_work_53 (by first | rfl | exact pv_shx) (by omega) (by omega) (by decide) (rfl) (by omega) (by repeat (first | exact f5 | exact g1 | exact g2 | exact fu1 | exact ft1 | (apply rd_s; done) | apply rd_n (by omega) | apply rp_s | apply rp_n (by omega) | (apply rdL_s; done) | apply rdL_n (by omega) | apply rpJ_s | apply rpJ_n (by omega) | rfl)) ?_
                        refine g_istore dX12_work_54 (by decide) rfl ?_
                        refine g_aload_n dX12_work_56 rfl ?_
                        refine g_getP dX12_work_57 fdX12_16 rfl (by first | rfl | exact pv_shx) (by omega) (by omega) (by decide) rfl (hP _ _ _ rfl) ?_
                        refine g_iload dX12_work_60 rfl ?_
                        refine g_iconst (v := nI 2) dX12_work_62 (by decide) ?_
                        refine g_iload dX12_work_63 rfl ?_
                        refine n_imul dX12_work_65 (by first | (with_reducible exact pk_mul _ _) | rfl) ?_
                        refine n_iadd dX12_work_66 (by first | (with_reducible exact nI_add _ _) | rfl) ?_
                        refine g_iconst (v := nI 1) dX12_work_67 (by decide) ?_
                        refine n_iadd dX12_work_68 (by first | (with_reducible exact nI_add _ _) | rfl) ?_
                        refine n_iald dX12_work_69 (by first | rfl | exact pv_shx) (by omega) (by omega) (by decide) (rfl) (by omega) (by repeat (first | exact f5 | exact g1 | exact g2 | exact fu1 | exact ft1 | (apply rd_s; done) | apply rd_n (by omega) | apply rp_s | apply rp_n (by omega) | (apply rdL_s; done) | apply rdL_n (by omega) | apply rpJ_s | apply rpJ_n (by omega) | rfl)) ?_
                        refine g_istore dX12_work_70 (by decide) rfl ?_
                        refine g_iload dX12_work_72 rfl ?_
                        refine g_iconst (v := nI 1) dX12_work_74 (by decide) ?_
                        refine n_icmp_gt 109 dX12_work_75 (by decide) (by first | ((with_reducible apply cN_lt) <;> omega) | ((with_reducible apply cI_ltn) <;> omega) | ((with_reducible apply cI_nlt) <;> omega) | (with_reducible exact cI_lt)) (fun c75 => ?_) (fun c75 => by exfalso; first | omega | exact absurd trivial c75 | exact c75)
                        refine g_iload dX12_work_109 rfl ?_
                        refine g_iconst (v := nI 2) dX12_work_111 (by decide) ?_
                        refine n_icmp_ne 135 dX12_work_112 (by decide) (by first | ((with_reducible apply cN_eq) <;> omega) | ((with_reducible apply cI_eqn) <;> omega) | exact Iff.rfl) (fun c112 => ?_) (fun c112 => by exfalso; first | omega | exact absurd trivial c112 | exact c112)
                        refine g_iload dX12_work_135 rfl ?_
                        refine g_bipush (v := nI 10) dX12_work_137 (by decide) ?_
                        refine n_icmp_ge 175 dX12_work_139 (by decide) (by first | ((with_reducible apply cN_le) <;> omega) | ((with_reducible apply cI_len) <;> omega) | ((with_reducible apply cI_nle) <;> omega) | (with_reducible exact cI_le)) (fun c139 => ?_) (fun c139 => by exfalso; first | omega | exact absurd trivial c139 | exact c139)
                        refine g_iload dX12_work_175 rfl ?_
                        refine g_bipush (v := nI 20) dX12_work_177 (by decide) ?_
                        refine n_icmp_ge 216 dX12_work_179 (by decide) (by first | ((with_reducible apply cN_le) <;> omega) | ((with_reducible apply cI_len) <;> omega) | ((with_reducible apply cI_nle) <;> omega) | (with_reducible exact cI_le)) (fun c179 => ?_) (fun c179 => by exfalso; first | omega | exact absurd trivial c179 | exact c179)
                        refine g_iload dX12_work_216 rfl ?_
                        refine g_bipush (v := nI 20) dX12_work_218 (by decide) ?_
                        refine n_icmp_ne 250 dX12_work_220 (by decide) (by first | ((with_reducible apply cN_eq) <;> omega) | ((with_reducible apply cI_eqn) <;> omega) | exact Iff.rfl) (fun c220 => ?_) (fun c220 => by exfalso; first | omega | exact absurd trivial c220 | exact c220)
                        refine g_iinc dX12_work_250 rfl (pk_m1 _) (by decide) rfl ?_
                        refine g_aload_n dX12_work_253 rfl ?_
                        refine g_getP dX12_work_254 fdX12_74 rfl (by first | rfl | exact pv_shx) (by omega) (by omega) (by decide) rfl (hP _ _ _ rfl) ?_
                        refine g_iload_n dX12_work_257 rfl ?_
                        refine g_iconst (v := nI 1) dX12_work_258 (by decide) ?_
                        refine n_isub dX12_work_259 (by first | ((with_reducible apply pk_sub) <;> omega) | rfl) ?_
                        refine g_iload dX12_work_260 rfl ?_
                        refine g_bipush (v := nI 21) dX12_work_262 (by decide) ?_
                        refine n_icmp_ne 295 dX12_work_264 (by decide) (by first | ((with_reducible apply cN_eq) <;> omega) | ((with_reducible apply cI_eqn) <;> omega) | exact Iff.rfl) (fun c264 => ?_) (fun c264 => by exfalso; first | omega | exact absurd trivial c264 | exact c264)
                        refine g_aload_n dX12_work_295 rfl ?_
                        refine g_getP dX12_work_296 fdX12_74 rfl (by first | rfl | exact pv_shx) (by omega) (by omega) (by decide) rfl (hP _ _ _ rfl) ?_
                        refine g_iload_n dX12_work_299 rfl ?_
                        refine g_iconst (v := nI 1) dX12_work_300 (by decide) ?_
                        refine n_isub dX12_work_301 (nI_p1 _) ?_
                        refine n_zald dX12_work_302 (by first | rfl | exact pv_shx) (by omega) (by omega) (by decide) (rfl) (by omega) (by repeat (first | exact f5 | exact g1 | exact g2 | exact fu1 | exact ft1 | (apply rd_s; done) | apply rd_n (by omega) | apply rp_s | apply rp_n (by omega) | (apply rdL_s; done) | apply rdL_n (by omega) | apply rpJ_s | apply rpJ_n (by omega) | rfl)) ?_
                        refine n_if_ne 315 dX12_work_303 (by decide) (by first | (with_reducible exact cB _) | ((with_reducible apply cN_eq0) <;> omega) | exact Iff.rfl) (fun c303 => by exfalso; first | omega | exact absurd trivial c303 | exact c303) (fun c303 => ?_)
                        refine g_aload_n dX12_work_306 rfl ?_
                        refine g_getP dX12_work_307 fdX12_74 rfl (by first | rfl | exact pv_shx) (by omega) (by omega) (by decide) rfl (hP _ _ _ rfl) ?_
                        refine g_iload_n dX12_work_310 rfl ?_
                        refine n_zald dX12_work_311 (by first | rfl | exact pv_shx) (by omega) (by omega) (by decide) (rfl) (by omega) (by repeat (first | exact f5 | exact g1 | exact g2 | exact fu1 | exact ft1 | (apply rd_s; done) | apply rd_n (by omega) | apply rp_s | apply rp_n (by omega) | (apply rdL_s; done) | apply rdL_n (by omega) | apply rpJ_s | apply rpJ_n (by omega) | rfl)) ?_
                        refine n_if_eq 319 dX12_work_312 (by decide) (by first | (with_reducible exact cB _) | ((with_reducible apply cN_eq0) <;> omega) | exact Iff.rfl) (fun c312 => ?_) (fun c312 => by exfalso; first | omega | exact absurd trivial c312 | exact c312)
                        refine g_iconst (v := nI 0) dX12_work_319 (by decide) ?_
                        refine n_zast (by first | exact Or.inl rfl | exact Or.inr rfl | exact cB01 _) dX12_work_320 (by first | rfl | exact pv_shx) (by omega) (by omega) (by omega) (by decide) (rfl) (by omega) (by repeat (first | exact pvu_s | exact pvuJ_s | apply pvu_in (by omega) | apply pvuJ_in (by omega) | exact pvu_pvs | exact pvuJ_pvs)) ?_
                        refine g_iinc dX12_work_321 rfl (by first | (with_reducible exact nI_1 _) | exact nI_1 _ | exact pk_m1 _ | rfl) (by decide) rfl ?_
                        refine g_goto 29 dX12_work_324 (by decide) ?_
                        exact g_drop _ (by repeat (first | exact trivial | refine ⟨Or.inr ⟨_, rfl⟩, ?_⟩ | refine ⟨Or.inl rfl, ?_⟩)) n2
end WORK
/-- a clause that stands in a text -/
def clA (f : Nat → Int32) (t0 cl : Nat) (e : List Nat) : Prop := ∃ s, s + e.length ≤ 300 ∧ f (cl + 4) = nI s ∧ f (cl + 5) = nI (s + e.length) ∧ codA f t0 s e
def nmA (f : Nat → Int32) (srt : Nat) (nm : Nat → Int) : Prop := ∀ i, i < 8 → barB srt i = false → f (mN i) = iI (nm i) ∧ smI (nm i)
theorem t_work {t j srt : Nat} {e : List Nat} {I : pvI} {J : pvJ} {P : pvP} {nm : Nat → Int} (hP : pvOkP P) (ht : t ≤ 9) (hj : j < 20) (hcl : clA (I 205) (800 * t) (800 * t + 1 + 6 * j) e) (hnm : nmA (I 219) srt nm) (hok : ∀ x, x ∈ e → itOk srt x) (hck : ck e (0, 0) ≠ none) : pvMet mX12_work 2 0 0 [.ref 202, .int (nI (800 * t + 1 + 6 * j))] 224 I J P (wkQ I J P (evL nm e ([], []))) := by
  obtain ⟨s, s1, s2, s3, s4⟩ := hcl
  have ed : nI (800 * t + 1 + 6 * j) / nI 800 = nI t := by
    rw [pk_div (by omega) (by decide) (by decide)]
    congr 1
    omega
  have lp := k_work (J := J) (P := P) hP (by omega) (by omega) s3 s1 hnm e s [] [] I J (by omega) s4 hok hck (Nat.zero_le _) (Nat.zero_le _) (fun _ _ => rfl) (fun _ _ => rfl) (fun i hi => absurd hi (Nat.not_lt_zero i)) (fun i hi => absurd hi (Nat.not_lt_zero i)) (fun v hv' => absurd hv' List.not_mem_nil)
  refine pvMet.of _ (by decide) rfl (Nat.le_of_ble_eq_true rfl) ?_
  refine g_iconst (v := nI 0) dX12_work_0 (by decide) ?_
  refine g_istore_n dX12_work_1 (by decide) rfl ?_
  refine g_iconst (v := nI 0) dX12_work_2 (by decide) ?_
  refine g_istore_n dX12_work_3 (by decide) rfl ?_
  refine g_iload_n dX12_work_4 rfl ?_
  refine g_sipush (v := nI 800) dX12_work_5 (by decide) ?_
  refine n_idiv dX12_work_8 (by first | decide | ((with_reducible apply nI_ne0) <;> omega)) (ed) ?_
  refine g_sipush (v := nI 800) dX12_work_9 (by decide) ?_
  refine n_imul dX12_work_12 ((pk_mul _ _).trans (by rw [Nat.mul_comm])) ?_
  refine g_sipush (v := nI 130) dX12_work_13 (by decide) ?_
  refine n_iadd dX12_work_16 (by first | (with_reducible exact nI_add _ _) | rfl) ?_
  refine g_istore dX12_work_17 (by decide) rfl ?_
  refine g_aload_n dX12_work_19 rfl ?_
  refine g_getP dX12_work_20 fdX12_16 rfl (by first | rfl | exact pv_shx) (by omega) (by omega) (by decide) rfl (hP _ _ _ rfl) ?_
  refine g_iload_n dX12_work_23 rfl ?_
  refine g_iconst (v := nI 4) dX12_work_24 (by decide) ?_
  refine n_iadd dX12_work_25 (by first | (with_reducible exact nI_add _ _) | rfl) ?_
  refine n_iald dX12_work_26 (by first | rfl | exact pv_shx) (by omega) (by omega) (by decide) (rfl) (by omega) (by repeat (first | exact s2 | (apply rd_s; done) | apply rd_n (by omega) | apply rp_s | apply rp_n (by omega) | (apply rdL_s; done) | apply rdL_n (by omega) | apply rpJ_s | apply rpJ_n (by omega) | rfl)) ?_
  refine g_istore dX12_work_27 (by decide) rfl ?_
  exact lp
