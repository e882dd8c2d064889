/-! model: a week's burning -/
def filN (f s : Nat → Nat) (i : Nat) : Nat → Nat := fun c => if c < i then f c else s c
theorem filN_s {f s : Nat → Nat} {i : Nat} : filN f s (i + 1) = updN (filN f s i) i (f i) := by
  funext c
  by_cases e : c = i
  · subst e; simp [filN, updN]
  · simp only [filN, updN, if_neg e]
    by_cases e2 : c < i
    · rw [if_pos e2, if_pos (by omega)]
    · rw [if_neg e2, if_neg (by omega)]
theorem filN_same {f s : Nat → Nat} {i : Nat} (h : f i = s i) : filN f s (i + 1) = filN f s i := by
  rw [filN_s, h]
  funext c
  by_cases e : c = i
  · subst e; simp [filN, updN]
  · simp [updN, e]
theorem filN_0 {f s : Nat → Nat} : filN f s 0 = s := by funext c; simp [filN]
theorem filN_i {f s : Nat → Nat} {i : Nat} : filN f s i i = s i := by simp [filN]
theorem arN_up {g : Nat → Int32} {n : Nat} {f s : Nat → Nat} {i v : Nat} (h : i < n) (hv : f i = v) : arN g n (filN f s (i + 1)) = upd (arN g n (filN f s i)) i (nI v) := by rw [filN_s, hv, arN_upd h]
theorem t_burnOn {w h : Nat} {I : pvI} {J : pvJ} {P : pvP} {gn gl gh : Nat → Int32} {nw lf ht : Nat → Nat} {au : Nat → Bool} (hP : pvOkP P) (hD : mDim w h I) (hg : mG (I 203)) (hn : I 208 = arN gn 64 nw) (hl : I 210 = arN gl 64 lf) (hh0 : I 211 = arN gh 64 ht) (hau : ∀ c, c < w * h → I 214 c = nI (if au c = true then 1 else 0)) (bn : ∀ c, nw c ≤ 2) (bl : ∀ c, lf c ≤ 999) (bh : ∀ c, ht c ≤ 1000) :
    pvMet mX12_burnOn 2 0 0 [.ref 202] 224 I J P (pvq P (fun v I' J' => v = none ∧ J' = J ∧ mfix I I' [208, 209, 210, 211] ∧ I' 208 = arN gn 64 (filN (stB w h (I 203) au nw lf ht) nw (w * h)) ∧ I' 210 = arN gl 64 (filN (lfB (I 203) au nw lf) lf (w * h)) ∧ I' 211 = arN gh 64 (filN (htB w h au nw lf ht) ht (w * h)))) := by
  have hD' := hD
  obtain ⟨hw, hh, hw2, hh2⟩ := hD
  have hwh : 4 ≤ w * h ∧ w * h ≤ 64 := ⟨Nat.mul_le_mul hw2.1 hh2.1, Nat.mul_le_mul hw2.2 hh2.2⟩
  obtain ⟨ra, ra_b, ra_h⟩ := hg 12 (by decide)
  replace ra_b : ra ≤ 99 := ra_b
  have ra_e : cnt (I 203) 12 = ra := cnt_of ra_h (by omega)
  obtain ⟨ca, ca_b, ca_h⟩ := hg 11 (by decide)
  replace ca_b : ca ≤ 20 := ca_b
  have ca_e : cnt (I 203) 11 = ca := cnt_of ca_h (by omega)
  generalize hZ : pvZ (pvq P (fun v I' J' => v = none ∧ J' = J ∧ mfix I I' [208, 209, 210, 211] ∧ I' 208 = arN gn 64 (filN (stB w h (I 203) au nw lf ht) nw (w * h)) ∧ I' 210 = arN gl 64 (filN (lfB (I 203) au nw lf) lf (w * h)) ∧ I' 211 = arN gh 64 (filN (htB w h au nw lf ht) ht (w * h)))) 0 0 = Z
  generalize hI1 : pvs I 209 (arN (I 209) 64 nw) = I1
  have r1 : ∀ k, k ≠ 209 → I1 k = I k := fun k hk => by rw [← hI1, pvs_ne hk]
  have a1 : I1 203 = I 203 := r1 203 (by decide)
  have was : ∀ c, c < 64 → I1 209 c = nI (nw c) := fun c hc => by rw [← hI1, pvs_eq, arN_at hc]
  have fa : ∀ {i v}, I 203 i = v → I1 203 i = v := fun hv => by rw [a1]; exact hv
  have fw : I1 202 0 = nI w := by rw [r1 202 (by decide)]; exact hw
  have fh : I1 202 1 = nI h := by rw [r1 202 (by decide)]; exact hh
  have D2 : ∀ f1 f2 f3, mDim w h (pvs (pvs (pvs I1 211 f1) 208 f2) 210 f3) := fun f1 f2 f3 => ⟨by rw [pvs_ne (by decide), pvs_ne (by decide), pvs_ne (by decide)]; exact fw, by rw [pvs_ne (by decide), pvs_ne (by decide), pvs_ne (by decide)]; exact fh, hw2, hh2⟩
  have bX : ∀ c, boX (I 203) au c ≤ 99 := fun c => by
    unfold boX
    rw [ra_e]
    split <;> omega
  have lp : ∀ q i, i + q = w * h → pvG mX12_burnOn (pvR 2 0 0) Z 28 [.ref 202, .int (nI i), .retAddr 0, .retAddr 0] [] 0 0 224 (pvs (pvs (pvs I1 211 (arN gh 64 (filN (htB w h au nw lf ht) ht i))) 208 (arN gn 64 (filN (stB w h (I 203) au nw lf ht) nw i))) 210 (arN gl 64 (filN (lfB (I 203) au nw lf) lf i))) J P := by
    intro q
    induction q with
    | zero =>
      intro i hi
      obtain rfl : i = w * h := by omega
      subst hZ
      refine g_iload_n dX12_burnOn_28 rfl ?_
      refine g_aload_n dX12_burnOn_29 rfl ?_
      refine n_getI dX12_burnOn_30 fdX12_86 rfl (by first | rfl | exact pv_shx) (by omega) (by omega) (by decide) rfl (by repeat (first | exact fw | exact fh | (apply rd_s; done) | apply rd_n (by omega) | apply rp_s | apply rp_n (by omega) | (apply rdL_s; done) | apply rdL_n (by omega) | apply rpJ_s | apply rpJ_n (by omega) | rfl)) ?_
      refine g_aload_n dX12_burnOn_33 rfl ?_
      refine n_getI dX12_burnOn_34 fdX12_89 rfl (by first | rfl | exact pv_shx) (by omega) (by omega) (by decide) rfl (by repeat (first | exact fw | exact fh | (apply rd_s; done) | apply rd_n (by omega) | apply rp_s | apply rp_n (by omega) | (apply rdL_s; done) | apply rdL_n (by omega) | apply rpJ_s | apply rpJ_n (by omega) | rfl)) ?_
      refine n_imul dX12_burnOn_37 (by first | (with_reducible exact pk_mul _ _) | rfl) ?_
      refine n_icmp_ge 255 dX12_burnOn_38 (by decide) (by first | ((with_reducible apply cN_le) <;> omega) | ((with_reducible apply cI_len) <;> omega) | ((with_reducible apply cI_nle) <;> omega) | (with_reducible exact cI_le)) (fun c38 => ?_) (fun c38 => by exfalso; first | omega | exact absurd trivial c38 | exact c38)
      exact g_vret dX12_burnOn_255 rfl (⟨rfl, rfl, rfl, rfl, fun k hk => by simp at hk; rw [pvs_ne hk.2.2.1, pvs_ne hk.1, pvs_ne hk.2.2.2, r1 k hk.2.1], by rw [pvs_ne (by decide), pvs_eq], by rw [pvs_eq], by rw [pvs_ne (by decide), pvs_ne (by decide), pvs_eq]⟩)
    | succ q ih =>
      intro i hi
      have h4 := ih (i + 1) (by omega)
      have w1 := was i (by omega)
      have ai : I1 214 i = nI (if au i = true then 1 else 0) := by rw [r1 214 (by decide)]; exact hau i (by omega)
      have l1 : arN gl 64 (filN (lfB (I 203) au nw lf) lf i) i = nI (lf i) := by rw [arN_at (by omega), filN_i]
      have t1 : arN gh 64 (filN (htB w h au nw lf ht) ht i) i = nI (ht i) := by rw [arN_at (by omega), filN_i]
      have b1 := bn i
      have b2 := bl i
      have b3 := bh i
      have bx := bX i
      have fin : ∀ {v2 v3 : Value} {Im : pvI}, Im = (pvs (pvs (pvs I1 211 (arN gh 64 (filN (htB w h au nw lf ht) ht (i + 1)))) 208 (arN gn 64 (filN (stB w h (I 203) au nw lf ht) nw (i + 1)))) 210 (arN gl 64 (filN (lfB (I 203) au nw lf) lf (i + 1)))) → pvG mX12_burnOn (pvR 2 0 0) Z 249 [.ref 202, .int (nI i), v2, v3] [] 0 0 224 Im J P := by
        intro v2 v3 Im e
        subst e
        refine g_iinc dX12_burnOn_249 rfl (by first | (with_reducible exact nI_1 _) | exact nI_1 _ | exact pk_m1 _ | rfl) (by decide) rfl ?_
        refine g_goto 28 dX12_burnOn_252 (by decide) ?_
        refine g_drop [.ref 202, .int (nI (i + 1)), .retAddr 0, .retAddr 0] (by repeat (first | exact trivial | refine ⟨Or.inr ⟨_, rfl⟩, ?_⟩ | refine ⟨Or.inl rfl, ?_⟩)) ?_
        exact h4
      by_cases c1 : nw i = 1
      · have eh : htB w h au nw lf ht i = ht i := by simp [htB, c1]
        have el : lfB (I 203) au nw lf i = lf i - boX (I 203) au i := by simp [lfB, c1]
        rw [c1] at w1
        by_cases c2 : lf i ≤ boX (I 203) au i
        · have es : stB w h (I 203) au nw lf ht i = 2 := by simp [stB, c1, c2]
          have el0 : lfB (I 203) au nw lf i = 0 := by omega
          cases cau : au i with
          | true =>
            have ex : boX (I 203) au i = ra := by simp [boX, cau, ra_e]
            have hv : (nI (lf i) - nI ra).toInt = (lf i : Int) - ra := pk_sub_toInt (by omega) (by omega)
            simp [cau] at ai
            refine g_iload_n dX12_burnOn_28 rfl ?_
            refine g_aload_n dX12_burnOn_29 rfl ?_
            refine n_getI dX12_burnOn_30 fdX12_86 rfl (by first | rfl | exact pv_shx) (by omega) (by omega) (by decide) rfl (by repeat (first | exact fw | exact fh | exact w1 | exact ai | exact l1 | exact fa ra_h | (apply rd_s; done) | apply rd_n (by omega) | apply rp_s | apply rp_n (by omega) | (apply rdL_s; done) | apply rdL_n (by omega) | apply rpJ_s | apply rpJ_n (by omega) | rfl)) ?_
            refine g_aload_n dX12_burnOn_33 rfl ?_
            refine n_getI dX12_burnOn_34 fdX12_89 rfl (by first | rfl | exact pv_shx) (by omega) (by omega) (by decide) rfl (by repeat (first | exact fw | exact fh | exact w1 | exact ai | exact l1 | exact fa ra_h | (apply rd_s; done) | apply rd_n (by omega) | apply rp_s | apply rp_n (by omega) | (apply rdL_s; done) | apply rdL_n (by omega) | apply rpJ_s | apply rpJ_n (by omega) | rfl)) ?_
            refine n_imul dX12_burnOn_37 (by first | (with_reducible exact pk_mul _ _) | rfl) ?_
            refine n_icmp_ge 255 dX12_burnOn_38 (by decide) (by first | ((with_reducible apply cN_le) <;> omega) | ((with_reducible apply cI_len) <;> omega) | ((with_reducible apply cI_nle) <;> omega) | (with_reducible exact cI_le)) (fun c38 => by exfalso; first | omega | exact absurd trivial c38 | exact c38) (fun c38 => ?_)
            refine g_aload_n dX12_burnOn_41 rfl ?_
            refine g_getP dX12_burnOn_42 fdX12_28 rfl (by first | rfl | exact pv_shx) (by omega) (by omega) (by decide) rfl (hP _ _ _ rfl) ?_
            refine g_iload_n dX12_burnOn_45 rfl ?_
            refine n_iald dX12_burnOn_46 (by first | rfl | exact pv_shx) (by omega) (by omega) (by decide) (rfl) (by omega) (by repeat (first | exact fw | exact fh | exact w1 | exact ai | exact l1 | exact fa ra_h | (apply rd_s; done) | apply rd_n (by omega) | apply rp_s | apply rp_n (by omega) | (apply rdL_s; done) | apply rdL_n (by omega) | apply rpJ_s | apply rpJ_n (by omega) | rfl)) ?_
            refine g_iconst (v := nI 1) dX12_burnOn_47 (by decide) ?_
            refine n_icmp_ne 114 dX12_burnOn_48 (by decide) (by first | ((with_reducible apply cN_eq) <;> omega) | ((with_reducible apply cI_eqn) <;> omega) | exact Iff.rfl) (fun c48 => by exfalso; first | omega | exact absurd trivial c48 | exact c48) (fun c48 => ?_)
            refine g_aload_n dX12_burnOn_51 rfl ?_
            refine g_getP dX12_burnOn_52 fdX12_31 rfl (by first | rfl | exact pv_shx) (by omega) (by omega) (by decide) rfl (hP _ _ _ rfl) ?_
            refine g_iload_n dX12_burnOn_55 rfl ?_
            refine g_dup2 dX12_burnOn_56 rfl rfl ?_
            refine n_iald dX12_burnOn_57 (by first | rfl | exact pv_shx) (by omega) (by omega) (by decide) (rfl) (by omega) (by repeat (first | exact fw | exact fh | exact w1 | exact ai | exact l1 | exact fa ra_h | (apply rd_s; done) | apply rd_n (by omega) | apply rp_s | apply rp_n (by omega) | (apply rdL_s; done) | apply rdL_n (by omega) | apply rpJ_s | apply rpJ_n (by omega) | rfl)) ?_
            refine g_aload_n dX12_burnOn_58 rfl ?_
            refine g_getP dX12_burnOn_59 fdX12_43 rfl (by first | rfl | exact pv_shx) (by omega) (by omega) (by decide) rfl (hP _ _ _ rfl) ?_
            refine g_iload_n dX12_burnOn_62 rfl ?_
            refine n_zald dX12_burnOn_63 (by first | rfl | exact pv_shx) (by omega) (by omega) (by decide) (rfl) (by omega) (by repeat (first | exact fw | exact fh | exact w1 | exact ai | exact l1 | exact fa ra_h | (apply rd_s; done) | apply rd_n (by omega) | apply rp_s | apply rp_n (by omega) | (apply rdL_s; done) | apply rdL_n (by omega) | apply rpJ_s | apply rpJ_n (by omega) | rfl)) ?_
            refine n_if_eq 77 dX12_burnOn_64 (by decide) (by first | (with_reducible exact cB _) | ((with_reducible apply cN_eq0) <;> omega) | exact Iff.rfl) (fun c64 => by exfalso; first | omega | exact absurd trivial c64 | exact c64) (fun c64 => ?_)
            refine g_aload_n dX12_burnOn_67 rfl ?_
            refine g_getP dX12_burnOn_68 fdX12_7 rfl (by first | rfl | exact pv_shx) (by omega) (by omega) (by decide) rfl (hP _ _ _ rfl) ?_
            refine g_bipush (v := nI 12) dX12_burnOn_71 (by decide) ?_
            refine n_iald dX12_burnOn_73 (by first | rfl | exact pv_shx) (by omega) (by omega) (by decide) (rfl) (by omega) (by repeat (first | exact fw | exact fh | exact w1 | exact ai | exact l1 | exact fa ra_h | (apply rd_s; done) | apply rd_n (by omega) | apply rp_s | apply rp_n (by omega) | (apply rdL_s; done) | apply rdL_n (by omega) | apply rpJ_s | apply rpJ_n (by omega) | rfl)) ?_
            refine g_goto 86 dX12_burnOn_74 (by decide) ?_
            refine n_isub dX12_burnOn_86 (rfl) ?_
            refine n_iast dX12_burnOn_87 (by first | rfl | exact pv_shx) (by omega) (by omega) (by omega) (by decide) (rfl) (by omega) (by repeat (first | exact pvu_s | exact pvuJ_s | apply pvu_in (by omega) | apply pvuJ_in (by omega) | exact pvu_pvs | exact pvuJ_pvs)) ?_
            refine g_aload_n dX12_burnOn_88 rfl ?_
            refine g_getP dX12_burnOn_89 fdX12_31 rfl (by first | rfl | exact pv_shx) (by omega) (by omega) (by decide) rfl (hP _ _ _ rfl) ?_
            refine g_iload_n dX12_burnOn_92 rfl ?_
            refine n_iald dX12_burnOn_93 (by first | rfl | exact pv_shx) (by omega) (by omega) (by decide) (rfl) (by omega) (by repeat (first | exact fw | exact fh | exact w1 | exact ai | exact l1 | exact fa ra_h | (apply rd_s; done) | apply rd_n (by omega) | apply rp_s | apply rp_n (by omega) | (apply rdL_s; done) | apply rdL_n (by omega) | apply rpJ_s | apply rpJ_n (by omega) | rfl)) ?_
            refine n_if_gt 249 dX12_burnOn_94 (by decide) (cI_gt0) (fun c94 => by exfalso; first | omega | exact absurd trivial c94 | exact c94) (fun c94 => ?_)
            refine g_aload_n dX12_burnOn_97 rfl ?_
            refine g_getP dX12_burnOn_98 fdX12_31 rfl (by first | rfl | exact pv_shx) (by omega) (by omega) (by decide) rfl (hP _ _ _ rfl) ?_
            refine g_iload_n dX12_burnOn_101 rfl ?_
            refine g_iconst (v := nI 0) dX12_burnOn_102 (by decide) ?_
            refine n_iast dX12_burnOn_103 (by first | rfl | exact pv_shx) (by omega) (by omega) (by omega) (by decide) (rfl) (by omega) (by repeat (first | exact pvu_s | exact pvuJ_s | apply pvu_in (by omega) | apply pvuJ_in (by omega) | exact pvu_pvs | exact pvuJ_pvs)) ?_
            refine g_aload_n dX12_burnOn_104 rfl ?_
            refine g_getP dX12_burnOn_105 fdX12_25 rfl (by first | rfl | exact pv_shx) (by omega) (by omega) (by decide) rfl (hP _ _ _ rfl) ?_
            refine g_iload_n dX12_burnOn_108 rfl ?_
            refine g_iconst (v := nI 2) dX12_burnOn_109 (by decide) ?_
            refine n_iast dX12_burnOn_110 (by first | rfl | exact pv_shx) (by omega) (by omega) (by omega) (by decide) (rfl) (by omega) (by repeat (first | exact pvu_s | exact pvuJ_s | apply pvu_in (by omega) | apply pvuJ_in (by omega) | exact pvu_pvs | exact pvuJ_pvs)) ?_
            refine g_goto 249 dX12_burnOn_111 (by decide) ?_
            refine fin ?_
            rw [filN_same eh, arN_up (by omega) es, arN_up (by omega) el0, fa_upd_twice2]
          | false =>
            have ex : boX (I 203) au i = ra / 2 := by simp [boX, cau, ra_e]
            have hv : (nI (lf i) - nI (ra / 2)).toInt = (lf i : Int) - (ra / 2 : Nat) := pk_sub_toInt (by omega) (by omega)
            simp [cau] at ai
            refine g_iload_n dX12_burnOn_28 rfl ?_
            refine g_aload_n dX12_burnOn_29 rfl ?_
            refine n_getI dX12_burnOn_30 fdX12_86 rfl (by first | rfl | exact pv_shx) (by omega) (by omega) (by decide) rfl (by repeat (first | exact fw | exact fh | exact w1 | exact ai | exact l1 | exact fa ra_h | (apply rd_s; done) | apply rd_n (by omega) | apply rp_s | apply rp_n (by omega) | (apply rdL_s; done) | apply rdL_n (by omega) | apply rpJ_s | apply rpJ_n (by omega) | rfl)) ?_
            refine g_aload_n dX12_burnOn_33 rfl ?_
            refine n_getI dX12_burnOn_34 fdX12_89 rfl (by first | rfl | exact pv_shx) (by omega) (by omega) (by decide) rfl (by repeat (first | exact fw | exact fh | exact w1 | exact ai | exact l1 | exact fa ra_h | (apply rd_s; done) | apply rd_n (by omega) | apply rp_s | apply rp_n (by omega) | (apply rdL_s; done) | apply rdL_n (by omega) | apply rpJ_s | apply rpJ_n (by omega) | rfl)) ?_
            refine n_imul dX12_burnOn_37 (by first | (with_reducible exact pk_mul _ _) | rfl) ?_
            refine n_icmp_ge 255 dX12_burnOn_38 (by decide) (by first | ((with_reducible apply cN_le) <;> omega) | ((with_reducible apply cI_len) <;> omega) | ((with_reducible apply cI_nle) <;> omega) | (with_reducible exact cI_le)) (fun c38 => by exfalso; first | omega | exact absurd trivial c38 | exact c38) (fun c38 => ?_)
            refine g_aload_n dX12_burnOn_41 rfl ?_
            refine g_getP dX12_burnOn_42 fdX12_28 rfl (by first | rfl | exact pv_shx) (by omega) (by omega) (by decide) rfl (hP _ _ _ rfl) ?_
            refine g_iload_n dX12_burnOn_45 rfl ?_
            refine n_iald dX12_burnOn_46 (by first | rfl | exact pv_shx) (by omega) (by omega) (by decide) (rfl) (by omega) (by repeat (first | exact fw | exact fh | exact w1 | exact ai | exact l1 | exact fa ra_h | (apply rd_s; done) | apply rd_n (by omega) | apply rp_s | apply rp_n (by omega) | (apply rdL_s; done) | apply rdL_n (by omega) | apply rpJ_s | apply rpJ_n (by omega) | rfl)) ?_
            refine g_iconst (v := nI 1) dX12_burnOn_47 (by decide) ?_
            refine n_icmp_ne 114 dX12_burnOn_48 (by decide) (by first | ((with_reducible apply cN_eq) <;> omega) | ((with_reducible apply cI_eqn) <;> omega) | exact Iff.rfl) (fun c48 => by exfalso; first | omega | exact absurd trivial c48 | exact c48) (fun c48 => ?_)
            refine g_aload_n dX12_burnOn_51 rfl ?_
            refine g_getP dX12_burnOn_52 fdX12_31 rfl (by first | rfl | exact pv_shx) (by omega) (by omega) (by decide) rfl (hP _ _ _ rfl) ?_
            refine g_iload_n dX12_burnOn_55 rfl ?_
            refine g_dup2 dX12_burnOn_56 rfl rfl ?_
            refine n_iald dX12_burnOn_57 (by first | rfl | exact pv_shx) (by omega) (by omega) (by decide) (rfl) (by omega) (by repeat (first | exact fw | exact fh | exact w1 | exact ai | exact l1 | exact fa ra_h | (apply rd_s; done) | apply rd_n (by omega) | apply rp_s | apply rp_n (by omega) | (apply rdL_s; done) | apply rdL_n (by omega) | apply rpJ_s | apply rpJ_n (by omega) | rfl)) ?_
            refine g_aload_n dX12_burnOn_58 rfl ?_
            refine g_getP dX12_burnOn_59 fdX12_43 rfl (by first | rfl | exact pv_shx) (by omega) (by omega) (by decide) rfl (hP _ _ _ rfl) ?_
            refine g_iload_n dX12_burnOn_62 rfl ?_
            refine n_zald dX12_burnOn_63 (by first | rfl | exact pv_shx) (by omega) (by omega) (by decide) (rfl) (by omega) (by repeat (first | exact fw | exact fh | exact w1 | exact ai | exact l1 | exact fa ra_h | (apply rd_s; done) | apply rd_n (by omega) | apply rp_s | apply rp_n (by omega) | (apply rdL_s; done) | apply rdL_n (by omega) | apply rpJ_s | apply rpJ_n (by omega) | rfl)) ?_
            refine n_if_eq 77 dX12_burnOn_64 (by decide) (by first | (with_reducible exact cB _) | ((with_reducible apply cN_eq0) <;> omega) | exact Iff.rfl) (fun c64 => ?_) (fun c64 => by exfalso; first | omega | exact absurd trivial c64 | exact c64)
            refine g_aload_n dX12_burnOn_77 rfl ?_
            refine g_getP dX12_burnOn_78 fdX12_7 rfl (by first | rfl | exact pv_shx) (by omega) (by omega) (by decide) rfl (hP _ _ _ rfl) ?_
            refine g_bipush (v := nI 12) dX12_burnOn_81 (by decide) ?_
            refine n_iald dX12_burnOn_83 (by first | rfl | exact pv_shx) (by omega) (by omega) (by decide) (rfl) (by omega) (by repeat (first | exact fw | exact fh | exact w1 | exact ai | exact l1 | exact fa ra_h | (apply rd_s; done) | apply rd_n (by omega) | apply rp_s | apply rp_n (by omega) | (apply rdL_s; done) | apply rdL_n (by omega) | apply rpJ_s | apply rpJ_n (by omega) | rfl)) ?_
            refine g_iconst (v := nI 2) dX12_burnOn_84 (by decide) ?_
            refine n_idiv dX12_burnOn_85 (by first | decide | ((with_reducible apply nI_ne0) <;> omega)) (by first | ((with_reducible apply pk_div) <;> omega) | rfl) ?_
            refine n_isub dX12_burnOn_86 (rfl) ?_
            refine n_iast dX12_burnOn_87 (by first | rfl | exact pv_shx) (by omega) (by omega) (by omega) (by decide) (rfl) (by omega) (by repeat (first | exact pvu_s | exact pvuJ_s | apply pvu_in (by omega) | apply pvuJ_in (by omega) | exact pvu_pvs | exact pvuJ_pvs)) ?_
            refine g_aload_n dX12_burnOn_88 rfl ?_
            refine g_getP dX12_burnOn_89 fdX12_31 rfl (by first | rfl | exact pv_shx) (by omega) (by omega) (by decide) rfl (hP _ _ _ rfl) ?_
            refine g_iload_n dX12_burnOn_92 rfl ?_
            refine n_iald dX12_burnOn_93 (by first | rfl | exact pv_shx) (by omega) (by omega) (by decide) (rfl) (by omega) (by repeat (first | exact fw | exact fh | exact w1 | exact ai | exact l1 | exact fa ra_h | (apply rd_s; done) | apply rd_n (by omega) | apply rp_s | apply rp_n (by omega) | (apply rdL_s; done) | apply rdL_n (by omega) | apply rpJ_s | apply rpJ_n (by omega) | rfl)) ?_
            refine n_if_gt 249 dX12_burnOn_94 (by decide) (cI_gt0) (fun c94 => by exfalso; first | omega | exact absurd trivial c94 | exact c94) (fun c94 => ?_)
            refine g_aload_n dX12_burnOn_97 rfl ?_
            refine g_getP dX12_burnOn_98 fdX12_31 rfl (by first | rfl | exact pv_shx) (by omega) (by omega) (by decide) rfl (hP _ _ _ rfl) ?_
            refine g_iload_n dX12_burnOn_101 rfl ?_
            refine g_iconst (v := nI 0) dX12_burnOn_102 (by decide) ?_
            refine n_iast dX12_burnOn_103 (by first | rfl | exact pv_shx) (by omega) (by omega) (by omega) (by decide) (rfl) (by omega) (by repeat (first | exact pvu_s | exact pvuJ_s | apply pvu_in (by omega) | apply pvuJ_in (by omega) | exact pvu_pvs | exact pvuJ_pvs)) ?_
            refine g_aload_n dX12_burnOn_104 rfl ?_
            refine g_getP dX12_burnOn_105 fdX12_25 rfl (by first | rfl | exact pv_shx) (by omega) (by omega) (by decide) rfl (hP _ _ _ rfl) ?_
            refine g_iload_n dX12_burnOn_108 rfl ?_
            refine g_iconst (v := nI 2) dX12_burnOn_109 (by decide) ?_
            refine n_iast dX12_burnOn_110 (by first | rfl | exact pv_shx) (by omega) (by omega) (by omega) (by decide) (rfl) (by omega) (by repeat (first | exact pvu_s | exact pvuJ_s | apply pvu_in (by omega) | apply pvuJ_in (by omega) | exact pvu_pvs | exact pvuJ_pvs)) ?_
            refine g_goto 249 dX12_burnOn_111 (by decide) ?_
            refine fin ?_
            rw [filN_same eh, arN_up (by omega) es, arN_up (by omega) el0, fa_upd_twice2]
        · have es : stB w h (I 203) au nw lf ht i = nw i := by simp [stB, c1, c2]
          cases cau : au i with
          | true =>
            have ex : boX (I 203) au i = ra := by simp [boX, cau, ra_e]
            rw [ex] at el
            simp [cau] at ai
            refine g_iload_n dX12_burnOn_28 rfl ?_
            refine g_aload_n dX12_burnOn_29 rfl ?_
            refine n_getI dX12_burnOn_30 fdX12_86 rfl (by first | rfl | exact pv_shx) (by omega) (by omega) (by decide) rfl (by repeat (first | exact fw | exact fh | exact w1 | exact ai | exact l1 | exact fa ra_h | (apply rd_s; done) | apply rd_n (by omega) | apply rp_s | apply rp_n (by omega) | (apply rdL_s; done) | apply rdL_n (by omega) | apply rpJ_s | apply rpJ_n (by omega) | rfl)) ?_
            refine g_aload_n dX12_burnOn_33 rfl ?_
            refine n_getI dX12_burnOn_34 fdX12_89 rfl (by first | rfl | exact pv_shx) (by omega) (by omega) (by decide) rfl (by repeat (first | exact fw | exact fh | exact w1 | exact ai | exact l1 | exact fa ra_h | (apply rd_s; done) | apply rd_n (by omega) | apply rp_s | apply rp_n (by omega) | (apply rdL_s; done) | apply rdL_n (by omega) | apply rpJ_s | apply rpJ_n (by omega) | rfl)) ?_
            refine n_imul dX12_burnOn_37 (by first | (with_reducible exact pk_mul _ _) | rfl) ?_
            refine n_icmp_ge 255 dX12_burnOn_38 (by decide) (by first | ((with_reducible apply cN_le) <;> omega) | ((with_reducible apply cI_len) <;> omega) | ((with_reducible apply cI_nle) <;> omega) | (with_reducible exact cI_le)) (fun c38 => by exfalso; first | omega | exact absurd trivial c38 | exact c38) (fun c38 => ?_)
            refine g_aload_n dX12_burnOn_41 rfl ?_
            refine g_getP dX12_burnOn_42 fdX12_28 rfl (by first | rfl | exact pv_shx) (by omega) (by omega) (by decide) rfl (hP _ _ _ rfl) ?_
            refine g_iload_n dX12_burnOn_45 rfl ?_
            refine n_iald dX12_burnOn_46 (by first | rfl | exact pv_shx) (by omega) (by omega) (by decide) (rfl) (by omega) (by repeat (first | exact fw | exact fh | exact w1 | exact ai | exact l1 | exact fa ra_h | (apply rd_s; done) | apply rd_n (by omega) | apply rp_s | apply rp_n (by omega) | (apply rdL_s; done) | apply rdL_n (by omega) | apply rpJ_s | apply rpJ_n (by omega) | rfl)) ?_
            refine g_iconst (v := nI 1) dX12_burnOn_47 (by decide) ?_
            refine n_icmp_ne 114 dX12_burnOn_48 (by decide) (by first | ((with_reducible apply cN_eq) <;> omega) | ((with_reducible apply cI_eqn) <;> omega) | exact Iff.rfl) (fun c48 => by exfalso; first | omega | exact absurd trivial c48 | exact c48) (fun c48 => ?_)
            refine g_aload_n dX12_burnOn_51 rfl ?_
            refine g_getP dX12_burnOn_52 fdX12_31 rfl (by first | rfl | exact pv_shx) (by omega) (by omega) (by decide) rfl (hP _ _ _ rfl) ?_
            refine g_iload_n dX12_burnOn_55 rfl ?_
            refine g_dup2 dX12_burnOn_56 rfl rfl ?_
            refine n_iald dX12_burnOn_57 (by first | rfl | exact pv_shx) (by omega) (by omega) (by decide) (rfl) (by omega) (by repeat (first | exact fw | exact fh | exact w1 | exact ai | exact l1 | exact fa ra_h | (apply rd_s; done) | apply rd_n (by omega) | apply rp_s | apply rp_n (by omega) | (apply rdL_s; done) | apply rdL_n (by omega) | apply rpJ_s | apply rpJ_n (by omega) | rfl)) ?_
            refine g_aload_n dX12_burnOn_58 rfl ?_
            refine g_getP dX12_burnOn_59 fdX12_43 rfl (by first | rfl | exact pv_shx) (by omega) (by omega) (by decide) rfl (hP _ _ _ rfl) ?_
            refine g_iload_n dX12_burnOn_62 rfl ?_
            refine n_zald dX12_burnOn_63 (by first | rfl | exact pv_shx) (by omega) (by omega) (by decide) (rfl) (by omega) (by repeat (first | exact fw | exact fh | exact w1 | exact ai | exact l1 | exact fa ra_h | (apply rd_s; done) | apply rd_n (by omega) | apply rp_s | apply rp_n (by omega) | (apply rdL_s; done) | apply rdL_n (by omega) | apply rpJ_s | apply rpJ_n (by omega) | rfl)) ?_
            refine n_if_eq 77 dX12_burnOn_64 (by decide) (by first | (with_reducible exact cB _) | ((with_reducible apply cN_eq0) <;> omega) | exact Iff.rfl) (fun c64 => by exfalso; first | omega | exact absurd trivial c64 | exact c64) (fun c64 => ?_)
            refine g_aload_n dX12_burnOn_67 rfl ?_
            refine g_getP dX12_burnOn_68 fdX12_7 rfl (by first | rfl | exact pv_shx) (by omega) (by omega) (by decide) rfl (hP _ _ _ rfl) ?_
            refine g_bipush (v := nI 12) dX12_burnOn_71 (by decide) ?_
            refine n_iald dX12_burnOn_73 (by first | rfl | exact pv_shx) (by omega) (by omega) (by decide) (rfl) (by omega) (by repeat (first | exact fw | exact fh | exact w1 | exact ai | exact l1 | exact fa ra_h | (apply rd_s; done) | apply rd_n (by omega) | apply rp_s | apply rp_n (by omega) | (apply rdL_s; done) | apply rdL_n (by omega) | apply rpJ_s | apply rpJ_n (by omega) | rfl)) ?_
            refine g_goto 86 dX12_burnOn_74 (by decide) ?_
            refine n_isub dX12_burnOn_86 (by first | ((with_reducible apply pk_sub) <;> omega) | rfl) ?_
            refine n_iast dX12_burnOn_87 (by first | rfl | exact pv_shx) (by omega) (by omega) (by omega) (by decide) (rfl) (by omega) (by repeat (first | exact pvu_s | exact pvuJ_s | apply pvu_in (by omega) | apply pvuJ_in (by omega) | exact pvu_pvs | exact pvuJ_pvs)) ?_
            refine g_aload_n dX12_burnOn_88 rfl ?_
            refine g_getP dX12_burnOn_89 fdX12_31 rfl (by first | rfl | exact pv_shx) (by omega) (by omega) (by decide) rfl (hP _ _ _ rfl) ?_
            refine g_iload_n dX12_burnOn_92 rfl ?_
            refine n_iald dX12_burnOn_93 (by first | rfl | exact pv_shx) (by omega) (by omega) (by decide) (rfl) (by omega) (by repeat (first | exact fw | exact fh | exact w1 | exact ai | exact l1 | exact fa ra_h | (apply rd_s; done) | apply rd_n (by omega) | apply rp_s | apply rp_n (by omega) | (apply rdL_s; done) | apply rdL_n (by omega) | apply rpJ_s | apply rpJ_n (by omega) | rfl)) ?_
            refine n_if_gt 249 dX12_burnOn_94 (by decide) (by first | ((with_reducible apply cN_gt0) <;> omega) | (with_reducible exact cI_gt0)) (fun c94 => ?_) (fun c94 => by exfalso; first | omega | exact absurd trivial c94 | exact c94)
            refine fin ?_
            rw [filN_same eh, filN_same es, arN_up (by omega) el]
          | false =>
            have ex : boX (I 203) au i = ra / 2 := by simp [boX, cau, ra_e]
            rw [ex] at el
            simp [cau] at ai
            refine g_iload_n dX12_burnOn_28 rfl ?_
            refine g_aload_n dX12_burnOn_29 rfl ?_
            refine n_getI dX12_burnOn_30 fdX12_86 rfl (by first | rfl | exact pv_shx) (by omega) (by omega) (by decide) rfl (by repeat (first | exact fw | exact fh | exact w1 | exact ai | exact l1 | exact fa ra_h | (apply rd_s; done) | apply rd_n (by omega) | apply rp_s | apply rp_n (by omega) | (apply rdL_s; done) | apply rdL_n (by omega) | apply rpJ_s | apply rpJ_n (by omega) | rfl)) ?_
            refine g_aload_n dX12_burnOn_33 rfl ?_
            refine n_getI dX12_burnOn_34 fdX12_89 rfl (by first | rfl | exact pv_shx) (by omega) (by omega) (by decide) rfl (by repeat (first | exact fw | exact fh | exact w1 | exact ai | exact l1 | exact fa ra_h | (apply rd_s; done) | apply rd_n (by omega) | apply rp_s | apply rp_n (by omega) | (apply rdL_s; done) | apply rdL_n (by omega) | apply rpJ_s | apply rpJ_n (by omega) | rfl)) ?_
            refine n_imul dX12_burnOn_37 (by first | (with_reducible exact pk_mul _ _) | rfl) ?_
            refine n_icmp_ge 255 dX12_burnOn_38 (by decide) (by first | ((with_reducible apply cN_le) <;> omega) | ((with_reducible apply cI_len) <;> omega) | ((with_reducible apply cI_nle) <;> omega) | (with_reducible exact cI_le)) (fun c38 => by exfalso; first | omega | exact absurd trivial c38 | exact c38) (fun c38 => ?_)
            refine g_aload_n dX12_burnOn_41 rfl ?_
            refine g_getP dX12_burnOn_42 fdX12_28 rfl (by first | rfl | exact pv_shx) (by omega) (by omega) (by decide) rfl (hP _ _ _ rfl) ?_
            refine g_iload_n dX12_burnOn_45 rfl ?_
            refine n_iald dX12_burnOn_46 (by first | rfl | exact pv_shx) (by omega) (by omega) (by decide) (rfl) (by omega) (by repeat (first | exact fw | exact fh | exact w1 | exact ai | exact l1 | exact fa ra_h | (apply rd_s; done) | apply rd_n (by omega) | apply rp_s | apply rp_n (by omega) | (apply rdL_s; done) | apply rdL_n (by omega) | apply rpJ_s | apply rpJ_n (by omega) | rfl)) ?_
            refine g_iconst (v := nI 1) dX12_burnOn_47 (by decide) ?_
            refine n_icmp_ne 114 dX12_burnOn_48 (by decide) (by first | ((with_reducible apply cN_eq) <;> omega) | ((with_reducible apply cI_eqn) <;> omega) | exact Iff.rfl) (fun c48 => by exfalso; first | omega | exact absurd trivial c48 | exact c48) (fun c48 => ?_)
            refine g_aload_n dX12_burnOn_51 rfl ?_
            refine g_getP dX12_burnOn_52 fdX12_31 rfl (by first | rfl | exact pv_shx) (by omega) (by omega) (by decide) rfl (hP _ _ _ rfl) ?_
            refine g_iload_n dX12_burnOn_55 rfl ?_
            refine g_dup2 dX12_burnOn_56 rfl rfl ?_
            refine n_iald dX12_burnOn_57 (by first | rfl | exact pv_shx) (by omega) (by omega) (by decide) (rfl) (by omega) (by repeat (first | exact fw | exact fh | exact w1 | exact ai | exact l1 | exact fa ra_h | (apply rd_s; done) | apply rd_n (by omega) | apply rp_s | apply rp_n (by omega) | (apply rdL_s; done) | apply rdL_n (by omega) | apply rpJ_s | apply rpJ_n (by omega) | rfl)) ?_
            refine g_aload_n dX12_burnOn_58 rfl ?_
            refine g_getP dX12_burnOn_59 fdX12_43 rfl (by first | rfl | exact pv_shx) (by omega) (by omega) (by decide) rfl (hP _ _ _ rfl) ?_
            refine g_iload_n dX12_burnOn_62 rfl ?_
            refine n_zald dX12_burnOn_63 (by first | rfl | exact pv_shx) (by omega) (by omega) (by decide) (rfl) (by omega) (by repeat (first | exact fw | exact fh | exact w1 | exact ai | exact l1 | exact fa ra_h | (apply rd_s; done) | apply rd_n (by omega) | apply rp_s | apply rp_n (by omega) | (apply rdL_s; done) | apply rdL_n (by omega) | apply rpJ_s | apply rpJ_n (by omega) | rfl)) ?_
            refine n_if_eq 77 dX12_burnOn_64 (by decide) (by first | (with_reducible exact cB _) | ((with_reducible apply cN_eq0) <;> omega) | exact Iff.rfl) (fun c64 => ?_) (fun c64 => by exfalso; first | omega | exact absurd trivial c64 | exact c64)
            refine g_aload_n dX12_burnOn_77 rfl ?_
            refine g_getP dX12_burnOn_78 fdX12_7 rfl (by first | rfl | exact pv_shx) (by omega) (by omega) (by decide) rfl (hP _ _ _ rfl) ?_
            refine g_bipush (v := nI 12) dX12_burnOn_81 (by decide) ?_
            refine n_iald dX12_burnOn_83 (by first | rfl | exact pv_shx) (by omega) (by omega) (by decide) (rfl) (by omega) (by repeat (first | exact fw | exact fh | exact w1 | exact ai | exact l1 | exact fa ra_h | (apply rd_s; done) | apply rd_n (by omega) | apply rp_s | apply rp_n (by omega) | (apply rdL_s; done) | apply rdL_n (by omega) | apply rpJ_s | apply rpJ_n (by omega) | rfl)) ?_
            refine g_iconst (v := nI 2) dX12_burnOn_84 (by decide) ?_
            refine n_idiv dX12_burnOn_85 (by first | decide | ((with_reducible apply nI_ne0) <;> omega)) (by first | ((with_reducible apply pk_div) <;> omega) | rfl) ?_
            refine n_isub dX12_burnOn_86 (by first | ((with_reducible apply pk_sub) <;> omega) | rfl) ?_
            refine n_iast dX12_burnOn_87 (by first | rfl | exact pv_shx) (by omega) (by omega) (by omega) (by decide) (rfl) (by omega) (by repeat (first | exact pvu_s | exact pvuJ_s | apply pvu_in (by omega) | apply pvuJ_in (by omega) | exact pvu_pvs | exact pvuJ_pvs)) ?_
            refine g_aload_n dX12_burnOn_88 rfl ?_
            refine g_getP dX12_burnOn_89 fdX12_31 rfl (by first | rfl | exact pv_shx) (by omega) (by omega) (by decide) rfl (hP _ _ _ rfl) ?_
            refine g_iload_n dX12_burnOn_92 rfl ?_
            refine n_iald dX12_burnOn_93 (by first | rfl | exact pv_shx) (by omega) (by omega) (by decide) (rfl) (by omega) (by repeat (first | exact fw | exact fh | exact w1 | exact ai | exact l1 | exact fa ra_h | (apply rd_s; done) | apply rd_n (by omega) | apply rp_s | apply rp_n (by omega) | (apply rdL_s; done) | apply rdL_n (by omega) | apply rpJ_s | apply rpJ_n (by omega) | rfl)) ?_
            refine n_if_gt 249 dX12_burnOn_94 (by decide) (by first | ((with_reducible apply cN_gt0) <;> omega) | (with_reducible exact cI_gt0)) (fun c94 => ?_) (fun c94 => by exfalso; first | omega | exact absurd trivial c94 | exact c94)
            refine fin ?_
            rw [filN_same eh, filN_same es, arN_up (by omega) el]
      · have el : lfB (I 203) au nw lf i = lf i := by simp [lfB, c1]
        by_cases c2 : lf i = 0
        · have es : stB w h (I 203) au nw lf ht i = nw i := by simp [stB, c1, c2]
          have eh : htB w h au nw lf ht i = ht i := by simp [htB, c1, c2]
          refine g_iload_n dX12_burnOn_28 rfl ?_
          refine g_aload_n dX12_burnOn_29 rfl ?_
          refine n_getI dX12_burnOn_30 fdX12_86 rfl (by first | rfl | exact pv_shx) (by omega) (by omega) (by decide) rfl (by repeat (first | exact fw | exact fh | exact w1 | exact ai | exact l1 | (apply rd_s; done) | apply rd_n (by omega) | apply rp_s | apply rp_n (by omega) | (apply rdL_s; done) | apply rdL_n (by omega) | apply rpJ_s | apply rpJ_n (by omega) | rfl)) ?_
          refine g_aload_n dX12_burnOn_33 rfl ?_
          refine n_getI dX12_burnOn_34 fdX12_89 rfl (by first | rfl | exact pv_shx) (by omega) (by omega) (by decide) rfl (by repeat (first | exact fw | exact fh | exact w1 | exact ai | exact l1 | (apply rd_s; done) | apply rd_n (by omega) | apply rp_s | apply rp_n (by omega) | (apply rdL_s; done) | apply rdL_n (by omega) | apply rpJ_s | apply rpJ_n (by omega) | rfl)) ?_
          refine n_imul dX12_burnOn_37 (by first | (with_reducible exact pk_mul _ _) | rfl) ?_
          refine n_icmp_ge 255 dX12_burnOn_38 (by decide) (by first | ((with_reducible apply cN_le) <;> omega) | ((with_reducible apply cI_len) <;> omega) | ((with_reducible apply cI_nle) <;> omega) | (with_reducible exact cI_le)) (fun c38 => by exfalso; first | omega | exact absurd trivial c38 | exact c38) (fun c38 => ?_)
          refine g_aload_n dX12_burnOn_41 rfl ?_
          refine g_getP dX12_burnOn_42 fdX12_28 rfl (by first | rfl | exact pv_shx) (by omega) (by omega) (by decide) rfl (hP _ _ _ rfl) ?_
          refine g_iload_n dX12_burnOn_45 rfl ?_
          refine n_iald dX12_burnOn_46 (by first | rfl | exact pv_shx) (by omega) (by omega) (by decide) (rfl) (by omega) (by repeat (first | exact fw | exact fh | exact w1 | exact ai | exact l1 | (apply rd_s; done) | apply rd_n (by omega) | apply rp_s | apply rp_n (by omega) | (apply rdL_s; done) | apply rdL_n (by omega) | apply rpJ_s | apply rpJ_n (by omega) | rfl)) ?_
          refine g_iconst (v := nI 1) dX12_burnOn_47 (by decide) ?_
          refine n_icmp_ne 114 dX12_burnOn_48 (by decide) (by first | ((with_reducible apply cN_eq) <;> omega) | ((with_reducible apply cI_eqn) <;> omega) | exact Iff.rfl) (fun c48 => ?_) (fun c48 => by exfalso; first | omega | exact absurd trivial c48 | exact c48)
          refine g_aload_n dX12_burnOn_114 rfl ?_
          refine g_getP dX12_burnOn_115 fdX12_31 rfl (by first | rfl | exact pv_shx) (by omega) (by omega) (by decide) rfl (hP _ _ _ rfl) ?_
          refine g_iload_n dX12_burnOn_118 rfl ?_
          refine n_iald dX12_burnOn_119 (by first | rfl | exact pv_shx) (by omega) (by omega) (by decide) (rfl) (by omega) (by repeat (first | exact fw | exact fh | exact w1 | exact ai | exact l1 | (apply rd_s; done) | apply rd_n (by omega) | apply rp_s | apply rp_n (by omega) | (apply rdL_s; done) | apply rdL_n (by omega) | apply rpJ_s | apply rpJ_n (by omega) | rfl)) ?_
          refine n_if_le 249 dX12_burnOn_120 (by decide) (by first | ((with_reducible apply cN_le0) <;> omega) | (with_reducible exact cI_le0)) (fun c120 => ?_) (fun c120 => by exfalso; first | omega | exact absurd trivial c120 | exact c120)
          refine fin ?_
          rw [filN_same eh, filN_same es, filN_same el]
        · have c2' : 0 < lf i := by omega
          have hby := byN_le (w := w) (h := h) (nw := nw) (c := i) 4
          -- the neighbours' loop
          have nbl : (∀ v3 : Value, pvG mX12_burnOn (pvR 2 0 0) Z 170 [.ref 202, .int (nI i), .int (nI (byN w h nw i 4)), v3] [] 0 0 224 (pvs (pvs (pvs I1 211 (arN gh 64 (filN (htB w h au nw lf ht) ht i))) 208 (arN gn 64 (filN (stB w h (I 203) au nw lf ht) nw i))) 210 (arN gl 64 (filN (lfB (I 203) au nw lf) lf i))) J P) → ∀ q d, d + q = 4 → pvG mX12_burnOn (pvR 2 0 0) Z 127 [.ref 202, .int (nI i), .int (nI (byN w h nw i d)), .int (nI d)] [] 0 0 224 (pvs (pvs (pvs I1 211 (arN gh 64 (filN (htB w h au nw lf ht) ht i))) 208 (arN gn 64 (filN (stB w h (I 203) au nw lf ht) nw i))) 210 (arN gl 64 (filN (lfB (I 203) au nw lf) lf i))) J P := by
            intro hk q
            induction q with
            | zero =>
              intro d hd
              obtain rfl : d = 4 := by omega
              refine g_iload_n dX12_burnOn_127 rfl ?_
              refine g_iconst (v := nI 4) dX12_burnOn_128 (by decide) ?_
              refine n_icmp_ge 170 dX12_burnOn_129 (by decide) (by first | ((with_reducible apply cN_le) <;> omega) | ((with_reducible apply cI_len) <;> omega) | ((with_reducible apply cI_nle) <;> omega) | (with_reducible exact cI_le)) (fun c129 => ?_) (fun c129 => by exfalso; first | omega | exact absurd trivial c129 | exact c129)
              exact hk _
            | succ q ihq =>
              intro d hd
              have h5 := ihq (d + 1) (by omega)
              have e5 : byN w h nw i (d + 1) = byN w h nw i d + (match sp_nb w h i d with
                | some x => if nw x = 1 then 1 else 0
                | none => 0) := rfl
              have hbl := byN_le (w := w) (h := h) (nw := nw) (c := i) d
              rcases hnb : sp_nb w h i d with _ | y
              · have hnI : sp_nbI w h i d = -1 := by rw [sp_nbI, hnb]
                rw [e5, hnb] at h5
                refine g_iload_n dX12_burnOn_127 rfl ?_
                refine g_iconst (v := nI 4) dX12_burnOn_128 (by decide) ?_
                refine n_icmp_ge 170 dX12_burnOn_129 (by decide) (by first | ((with_reducible apply cN_le) <;> omega) | ((with_reducible apply cI_len) <;> omega) | ((with_reducible apply cI_nle) <;> omega) | (with_reducible exact cI_le)) (fun c129 => by exfalso; first | omega | exact absurd trivial c129 | exact c129) (fun c129 => ?_)
                refine g_iload_n dX12_burnOn_132 rfl ?_
                refine g_aload_n dX12_burnOn_133 rfl ?_
                refine g_iload_n dX12_burnOn_134 rfl ?_
                refine g_iload_n dX12_burnOn_135 rfl ?_
                refine p_callV (hnI ▸ t_beside (J := J) (P := P) (D2 _ _ _) (c := i) (d := d) (by omega) (by omega)) okX12_beside lkX12_111 rfl (by first | rfl | exact pv_shx) rfl (by omega) (by omega) dX12_burnOn_136 rfl (Nat.le_of_ble_eq_true rfl) (⟨by decide, by decide, by decide, by decide⟩) ?_
                refine n_if_lt 161 dX12_burnOn_139 (by decide) (cI_lt0.trans (by rw [show ((-1 : Int32)).toInt = -1 from rfl])) (fun c139 => ?_) (fun c139 => by exfalso; first | omega | exact absurd trivial c139 | exact c139)
                refine g_iconst (v := nI 0) dX12_burnOn_161 (by decide) ?_
                refine n_iadd dX12_burnOn_162 (by first | (with_reducible exact nI_add _ _) | rfl) ?_
                refine g_istore_n dX12_burnOn_163 (by decide) rfl ?_
                refine g_iinc dX12_burnOn_164 rfl (by first | (with_reducible exact nI_1 _) | exact nI_1 _ | exact pk_m1 _ | rfl) (by decide) rfl ?_
                refine g_goto 127 dX12_burnOn_167 (by decide) ?_
                exact h5
              · have hnI : sp_nbI w h i d = nI y := by rw [sp_nbI, hnb]
                have hyl := sp_nb_lt (by omega) (show i < w * h by omega) hnb
                have wy := was y (by omega)
                have by2 := bn y
                by_cases c5 : nw y = 1
                · rw [e5, hnb] at h5
                  simp only [c5, if_pos] at h5
                  refine g_iload_n dX12_burnOn_127 rfl ?_
                  refine g_iconst (v := nI 4) dX12_burnOn_128 (by decide) ?_
                  refine n_icmp_ge 170 dX12_burnOn_129 (by decide) (by first | ((with_reducible apply cN_le) <;> omega) | ((with_reducible apply cI_len) <;> omega) | ((with_reducible apply cI_nle) <;> omega) | (with_reducible exact cI_le)) (fun c129 => by exfalso; first | omega | exact absurd trivial c129 | exact c129) (fun c129 => ?_)
                  refine g_iload_n dX12_burnOn_132 rfl ?_
                  refine g_aload_n dX12_burnOn_133 rfl ?_
                  refine g_iload_n dX12_burnOn_134 rfl ?_
                  refine g_iload_n dX12_burnOn_135 rfl ?_
                  refine p_callV (hnI ▸ t_beside (J := J) (P := P) (D2 _ _ _) (c := i) (d := d) (by omega) (by omega)) okX12_beside lkX12_111 rfl (by first | rfl | exact pv_shx) rfl (by omega) (by omega) dX12_burnOn_136 rfl (Nat.le_of_ble_eq_true rfl) (⟨by decide, by decide, by decide, by decide⟩) ?_
                  refine n_if_lt 161 dX12_burnOn_139 (by decide) (by first | ((with_reducible apply cN_lt0) <;> omega) | (with_reducible exact cI_lt0)) (fun c139 => by exfalso; first | omega | exact absurd trivial c139 | exact c139) (fun c139 => ?_)
                  refine g_aload_n dX12_burnOn_142 rfl ?_
                  refine g_getP dX12_burnOn_143 fdX12_28 rfl (by first | rfl | exact pv_shx) (by omega) (by omega) (by decide) rfl (hP _ _ _ rfl) ?_
                  refine g_aload_n dX12_burnOn_146 rfl ?_
                  refine g_iload_n dX12_burnOn_147 rfl ?_
                  refine g_iload_n dX12_burnOn_148 rfl ?_
                  refine p_callV (hnI ▸ t_beside (J := J) (P := P) (D2 _ _ _) (c := i) (d := d) (by omega) (by omega)) okX12_beside lkX12_111 rfl (by first | rfl | exact pv_shx) rfl (by omega) (by omega) dX12_burnOn_149 rfl (Nat.le_of_ble_eq_true rfl) (⟨by decide, by decide, by decide, by decide⟩) ?_
                  refine n_iald dX12_burnOn_152 (by first | rfl | exact pv_shx) (by omega) (by omega) (by decide) (rfl) (by omega) (by repeat (first | exact wy | (apply rd_s; done) | apply rd_n (by omega) | apply rp_s | apply rp_n (by omega) | (apply rdL_s; done) | apply rdL_n (by omega) | apply rpJ_s | apply rpJ_n (by omega) | rfl)) ?_
                  refine g_iconst (v := nI 1) dX12_burnOn_153 (by decide) ?_
                  refine n_icmp_ne 161 dX12_burnOn_154 (by decide) (by first | ((with_reducible apply cN_eq) <;> omega) | ((with_reducible apply cI_eqn) <;> omega) | exact Iff.rfl) (fun c154 => by exfalso; first | omega | exact absurd trivial c154 | exact c154) (fun c154 => ?_)
                  refine g_iconst (v := nI 1) dX12_burnOn_157 (by decide) ?_
                  refine g_goto 162 dX12_burnOn_158 (by decide) ?_
                  refine n_iadd dX12_burnOn_162 (by first | (with_reducible exact nI_add _ _) | rfl) ?_
                  refine g_istore_n dX12_burnOn_163 (by decide) rfl ?_
                  refine g_iinc dX12_burnOn_164 rfl (by first | (with_reducible exact nI_1 _) | exact nI_1 _ | exact pk_m1 _ | rfl) (by decide) rfl ?_
                  refine g_goto 127 dX12_burnOn_167 (by decide) ?_
                  exact h5
                · rw [e5, hnb] at h5
                  simp only [c5, if_neg, not_false_eq_true] at h5
                  refine g_iload_n dX12_burnOn_127 rfl ?_
                  refine g_iconst (v := nI 4) dX12_burnOn_128 (by decide) ?_
                  refine n_icmp_ge 170 dX12_burnOn_129 (by decide) (by first | ((with_reducible apply cN_le) <;> omega) | ((with_reducible apply cI_len) <;> omega) | ((with_reducible apply cI_nle) <;> omega) | (with_reducible exact cI_le)) (fun c129 => by exfalso; first | omega | exact absurd trivial c129 | exact c129) (fun c129 => ?_)
                  refine g_iload_n dX12_burnOn_132 rfl ?_
                  refine g_aload_n dX12_burnOn_133 rfl ?_
                  refine g_iload_n dX12_burnOn_134 rfl ?_
                  refine g_iload_n dX12_burnOn_135 rfl ?_
                  refine p_callV (hnI ▸ t_beside (J := J) (P := P) (D2 _ _ _) (c := i) (d := d) (by omega) (by omega)) okX12_beside lkX12_111 rfl (by first | rfl | exact pv_shx) rfl (by omega) (by omega) dX12_burnOn_136 rfl (Nat.le_of_ble_eq_true rfl) (⟨by decide, by decide, by decide, by decide⟩) ?_
                  refine n_if_lt 161 dX12_burnOn_139 (by decide) (by first | ((with_reducible apply cN_lt0) <;> omega) | (with_reducible exact cI_lt0)) (fun c139 => by exfalso; first | omega | exact absurd trivial c139 | exact c139) (fun c139 => ?_)
                  refine g_aload_n dX12_burnOn_142 rfl ?_
                  refine g_getP dX12_burnOn_143 fdX12_28 rfl (by first | rfl | exact pv_shx) (by omega) (by omega) (by decide) rfl (hP _ _ _ rfl) ?_
                  refine g_aload_n dX12_burnOn_146 rfl ?_
                  refine g_iload_n dX12_burnOn_147 rfl ?_
                  refine g_iload_n dX12_burnOn_148 rfl ?_
                  refine p_callV (hnI ▸ t_beside (J := J) (P := P) (D2 _ _ _) (c := i) (d := d) (by omega) (by omega)) okX12_beside lkX12_111 rfl (by first | rfl | exact pv_shx) rfl (by omega) (by omega) dX12_burnOn_149 rfl (Nat.le_of_ble_eq_true rfl) (⟨by decide, by decide, by decide, by decide⟩) ?_
                  refine n_iald dX12_burnOn_152 (by first | rfl | exact pv_shx) (by omega) (by omega) (by decide) (rfl) (by omega) (by repeat (first | exact wy | (apply rd_s; done) | apply rd_n (by omega) | apply rp_s | apply rp_n (by omega) | (apply rdL_s; done) | apply rdL_n (by omega) | apply rpJ_s | apply rpJ_n (by omega) | rfl)) ?_
                  refine g_iconst (v := nI 1) dX12_burnOn_153 (by decide) ?_
                  refine n_icmp_ne 161 dX12_burnOn_154 (by decide) (by first | ((with_reducible apply cN_eq) <;> omega) | ((with_reducible apply cI_eqn) <;> omega) | exact Iff.rfl) (fun c154 => ?_) (fun c154 => by exfalso; first | omega | exact absurd trivial c154 | exact c154)
                  refine g_iconst (v := nI 0) dX12_burnOn_161 (by decide) ?_
                  refine n_iadd dX12_burnOn_162 (by first | (with_reducible exact nI_add _ _) | rfl) ?_
                  refine g_istore_n dX12_burnOn_163 (by decide) rfl ?_
                  refine g_iinc dX12_burnOn_164 rfl (by first | (with_reducible exact nI_1 _) | exact nI_1 _ | exact pk_m1 _ | rfl) (by decide) rfl ?_
                  refine g_goto 127 dX12_burnOn_167 (by decide) ?_
                  exact h5
          have hrest : ∀ v3 : Value, pvG mX12_burnOn (pvR 2 0 0) Z 170 [.ref 202, .int (nI i), .int (nI (byN w h nw i 4)), v3] [] 0 0 224 (pvs (pvs (pvs I1 211 (arN gh 64 (filN (htB w h au nw lf ht) ht i))) 208 (arN gn 64 (filN (stB w h (I 203) au nw lf ht) nw i))) 210 (arN gl 64 (filN (lfB (I 203) au nw lf) lf i))) J P := by
            intro v3
            cases cau : au i with
            | true =>
              have eh : htB w h au nw lf ht i = ht i + byN w h nw i 4 := by simp [htB, c1, c2', cau]
              simp [cau] at ai
              by_cases c6 : ca ≤ ht i + byN w h nw i 4
              · have es : stB w h (I 203) au nw lf ht i = 1 := by simp [stB, c1, c2', cau, eh, ca_e, c6]
                refine g_aload_n dX12_burnOn_170 rfl ?_
                refine g_getP dX12_burnOn_171 fdX12_34 rfl (by first | rfl | exact pv_shx) (by omega) (by omega) (by decide) rfl (hP _ _ _ rfl) ?_
                refine g_iload_n dX12_burnOn_174 rfl ?_
                refine g_aload_n dX12_burnOn_175 rfl ?_
                refine g_getP dX12_burnOn_176 fdX12_43 rfl (by first | rfl | exact pv_shx) (by omega) (by omega) (by decide) rfl (hP _ _ _ rfl) ?_
                refine g_iload_n dX12_burnOn_179 rfl ?_
                refine n_zald dX12_burnOn_180 (by first | rfl | exact pv_shx) (by omega) (by omega) (by decide) (rfl) (by omega) (by repeat (first | exact ai | exact t1 | exact fa ca_h | (apply rd_s; done) | apply rd_n (by omega) | apply rp_s | apply rp_n (by omega) | (apply rdL_s; done) | apply rdL_n (by omega) | apply rpJ_s | apply rpJ_n (by omega) | rfl)) ?_
                refine n_if_eq 195 dX12_burnOn_181 (by decide) (by first | (with_reducible exact cB _) | ((with_reducible apply cN_eq0) <;> omega) | exact Iff.rfl) (fun c181 => by exfalso; first | omega | exact absurd trivial c181 | exact c181) (fun c181 => ?_)
                refine g_aload_n dX12_burnOn_184 rfl ?_
                refine g_getP dX12_burnOn_185 fdX12_34 rfl (by first | rfl | exact pv_shx) (by omega) (by omega) (by decide) rfl (hP _ _ _ rfl) ?_
                refine g_iload_n dX12_burnOn_188 rfl ?_
                refine n_iald dX12_burnOn_189 (by first | rfl | exact pv_shx) (by omega) (by omega) (by decide) (rfl) (by omega) (by repeat (first | exact ai | exact t1 | exact fa ca_h | (apply rd_s; done) | apply rd_n (by omega) | apply rp_s | apply rp_n (by omega) | (apply rdL_s; done) | apply rdL_n (by omega) | apply rpJ_s | apply rpJ_n (by omega) | rfl)) ?_
                refine g_iload_n dX12_burnOn_190 rfl ?_
                refine n_iadd dX12_burnOn_191 (by first | (with_reducible exact nI_add _ _) | rfl) ?_
                refine g_goto 216 dX12_burnOn_192 (by decide) ?_
                refine n_iast dX12_burnOn_216 (by first | rfl | exact pv_shx) (by omega) (by omega) (by omega) (by decide) (rfl) (by omega) (by repeat (first | exact pvu_s | exact pvuJ_s | apply pvu_in (by omega) | apply pvuJ_in (by omega) | exact pvu_pvs | exact pvuJ_pvs)) ?_
                refine g_aload_n dX12_burnOn_217 rfl ?_
                refine g_getP dX12_burnOn_218 fdX12_43 rfl (by first | rfl | exact pv_shx) (by omega) (by omega) (by decide) rfl (hP _ _ _ rfl) ?_
                refine g_iload_n dX12_burnOn_221 rfl ?_
                refine n_zald dX12_burnOn_222 (by first | rfl | exact pv_shx) (by omega) (by omega) (by decide) (rfl) (by omega) (by repeat (first | exact ai | exact t1 | exact fa ca_h | (apply rd_s; done) | apply rd_n (by omega) | apply rp_s | apply rp_n (by omega) | (apply rdL_s; done) | apply rdL_n (by omega) | apply rpJ_s | apply rpJ_n (by omega) | rfl)) ?_
                refine n_if_eq 249 dX12_burnOn_223 (by decide) (by first | (with_reducible exact cB _) | ((with_reducible apply cN_eq0) <;> omega) | exact Iff.rfl) (fun c223 => by exfalso; first | omega | exact absurd trivial c223 | exact c223) (fun c223 => ?_)
                refine g_aload_n dX12_burnOn_226 rfl ?_
                refine g_getP dX12_burnOn_227 fdX12_34 rfl (by first | rfl | exact pv_shx) (by omega) (by omega) (by decide) rfl (hP _ _ _ rfl) ?_
                refine g_iload_n dX12_burnOn_230 rfl ?_
                refine n_iald dX12_burnOn_231 (by first | rfl | exact pv_shx) (by omega) (by omega) (by decide) (rfl) (by omega) (by repeat (first | exact ai | exact t1 | exact fa ca_h | (apply rd_s; done) | apply rd_n (by omega) | apply rp_s | apply rp_n (by omega) | (apply rdL_s; done) | apply rdL_n (by omega) | apply rpJ_s | apply rpJ_n (by omega) | rfl)) ?_
                refine g_aload_n dX12_burnOn_232 rfl ?_
                refine g_getP dX12_burnOn_233 fdX12_7 rfl (by first | rfl | exact pv_shx) (by omega) (by omega) (by decide) rfl (hP _ _ _ rfl) ?_
                refine g_bipush (v := nI 11) dX12_burnOn_236 (by decide) ?_
                refine n_iald dX12_burnOn_238 (by first | rfl | exact pv_shx) (by omega) (by omega) (by decide) (rfl) (by omega) (by repeat (first | exact ai | exact t1 | exact fa ca_h | (apply rd_s; done) | apply rd_n (by omega) | apply rp_s | apply rp_n (by omega) | (apply rdL_s; done) | apply rdL_n (by omega) | apply rpJ_s | apply rpJ_n (by omega) | rfl)) ?_
                refine n_icmp_lt 249 dX12_burnOn_239 (by decide) (by first | ((with_reducible apply cN_lt) <;> omega) | ((with_reducible apply cI_ltn) <;> omega) | ((with_reducible apply cI_nlt) <;> omega) | (with_reducible exact cI_lt)) (fun c239 => by exfalso; first | omega | exact absurd trivial c239 | exact c239) (fun c239 => ?_)
                refine g_aload_n dX12_burnOn_242 rfl ?_
                refine g_getP dX12_burnOn_243 fdX12_25 rfl (by first | rfl | exact pv_shx) (by omega) (by omega) (by decide) rfl (hP _ _ _ rfl) ?_
                refine g_iload_n dX12_burnOn_246 rfl ?_
                refine g_iconst (v := nI 1) dX12_burnOn_247 (by decide) ?_
                refine n_iast dX12_burnOn_248 (by first | rfl | exact pv_shx) (by omega) (by omega) (by omega) (by decide) (rfl) (by omega) (by repeat (first | exact pvu_s | exact pvuJ_s | apply pvu_in (by omega) | apply pvuJ_in (by omega) | exact pvu_pvs | exact pvuJ_pvs)) ?_
                refine fin ?_
                rw [arN_up (by omega) eh, arN_up (by omega) es, filN_same el]
              · have es : stB w h (I 203) au nw lf ht i = nw i := by simp [stB, c1, c2', cau, eh, ca_e, c6]
                refine g_aload_n dX12_burnOn_170 rfl ?_
                refine g_getP dX12_burnOn_171 fdX12_34 rfl (by first | rfl | exact pv_shx) (by omega) (by omega) (by decide) rfl (hP _ _ _ rfl) ?_
                refine g_iload_n dX12_burnOn_174 rfl ?_
                refine g_aload_n dX12_burnOn_175 rfl ?_
                refine g_getP dX12_burnOn_176 fdX12_43 rfl (by first | rfl | exact pv_shx) (by omega) (by omega) (by decide) rfl (hP _ _ _ rfl) ?_
                refine g_iload_n dX12_burnOn_179 rfl ?_
                refine n_zald dX12_burnOn_180 (by first | rfl | exact pv_shx) (by omega) (by omega) (by decide) (rfl) (by omega) (by repeat (first | exact ai | exact t1 | exact fa ca_h | (apply rd_s; done) | apply rd_n (by omega) | apply rp_s | apply rp_n (by omega) | (apply rdL_s; done) | apply rdL_n (by omega) | apply rpJ_s | apply rpJ_n (by omega) | rfl)) ?_
                refine n_if_eq 195 dX12_burnOn_181 (by decide) (by first | (with_reducible exact cB _) | ((with_reducible apply cN_eq0) <;> omega) | exact Iff.rfl) (fun c181 => by exfalso; first | omega | exact absurd trivial c181 | exact c181) (fun c181 => ?_)
                refine g_aload_n dX12_burnOn_184 rfl ?_
                refine g_getP dX12_burnOn_185 fdX12_34 rfl (by first | rfl | exact pv_shx) (by omega) (by omega) (by decide) rfl (hP _ _ _ rfl) ?_
                refine g_iload_n dX12_burnOn_188 rfl ?_
                refine n_iald dX12_burnOn_189 (by first | rfl | exact pv_shx) (by omega) (by omega) (by decide) (rfl) (by omega) (by repeat (first | exact ai | exact t1 | exact fa ca_h | (apply rd_s; done) | apply rd_n (by omega) | apply rp_s | apply rp_n (by omega) | (apply rdL_s; done) | apply rdL_n (by omega) | apply rpJ_s | apply rpJ_n (by omega) | rfl)) ?_
                refine g_iload_n dX12_burnOn_190 rfl ?_
                refine n_iadd dX12_burnOn_191 (by first | (with_reducible exact nI_add _ _) | rfl) ?_
                refine g_goto 216 dX12_burnOn_192 (by decide) ?_
                refine n_iast dX12_burnOn_216 (by first | rfl | exact pv_shx) (by omega) (by omega) (by omega) (by decide) (rfl) (by omega) (by repeat (first | exact pvu_s | exact pvuJ_s | apply pvu_in (by omega) | apply pvuJ_in (by omega) | exact pvu_pvs | exact pvuJ_pvs)) ?_
                refine g_aload_n dX12_burnOn_217 rfl ?_
                refine g_getP dX12_burnOn_218 fdX12_43 rfl (by first | rfl | exact pv_shx) (by omega) (by omega) (by decide) rfl (hP _ _ _ rfl) ?_
                refine g_iload_n dX12_burnOn_221 rfl ?_
                refine n_zald dX12_burnOn_222 (by first | rfl | exact pv_shx) (by omega) (by omega) (by decide) (rfl) (by omega) (by repeat (first | exact ai | exact t1 | exact fa ca_h | (apply rd_s; done) | apply rd_n (by omega) | apply rp_s | apply rp_n (by omega) | (apply rdL_s; done) | apply rdL_n (by omega) | apply rpJ_s | apply rpJ_n (by omega) | rfl)) ?_
                refine n_if_eq 249 dX12_burnOn_223 (by decide) (by first | (with_reducible exact cB _) | ((with_reducible apply cN_eq0) <;> omega) | exact Iff.rfl) (fun c223 => by exfalso; first | omega | exact absurd trivial c223 | exact c223) (fun c223 => ?_)
                refine g_aload_n dX12_burnOn_226 rfl ?_
                refine g_getP dX12_burnOn_227 fdX12_34 rfl (by first | rfl | exact pv_shx) (by omega) (by omega) (by decide) rfl (hP _ _ _ rfl) ?_
                refine g_iload_n dX12_burnOn_230 rfl ?_
                refine n_iald dX12_burnOn_231 (by first | rfl | exact pv_shx) (by omega) (by omega) (by decide) (rfl) (by omega) (by repeat (first | exact ai | exact t1 | exact fa ca_h | (apply rd_s; done) | apply rd_n (by omega) | apply rp_s | apply rp_n (by omega) | (apply rdL_s; done) | apply rdL_n (by omega) | apply rpJ_s | apply rpJ_n (by omega) | rfl)) ?_
                refine g_aload_n dX12_burnOn_232 rfl ?_
                refine g_getP dX12_burnOn_233 fdX12_7 rfl (by first | rfl | exact pv_shx) (by omega) (by omega) (by decide) rfl (hP _ _ _ rfl) ?_
                refine g_bipush (v := nI 11) dX12_burnOn_236 (by decide) ?_
                refine n_iald dX12_burnOn_238 (by first | rfl | exact pv_shx) (by omega) (by omega) (by decide) (rfl) (by omega) (by repeat (first | exact ai | exact t1 | exact fa ca_h | (apply rd_s; done) | apply rd_n (by omega) | apply rp_s | apply rp_n (by omega) | (apply rdL_s; done) | apply rdL_n (by omega) | apply rpJ_s | apply rpJ_n (by omega) | rfl)) ?_
                refine n_icmp_lt 249 dX12_burnOn_239 (by decide) (by first | ((with_reducible apply cN_lt) <;> omega) | ((with_reducible apply cI_ltn) <;> omega) | ((with_reducible apply cI_nlt) <;> omega) | (with_reducible exact cI_lt)) (fun c239 => ?_) (fun c239 => by exfalso; first | omega | exact absurd trivial c239 | exact c239)
                refine fin ?_
                rw [arN_up (by omega) eh, filN_same es, filN_same el]
            | false =>
              have eh : htB w h au nw lf ht i = ht i - 1 := by simp [htB, c1, c2', cau]
              have es : stB w h (I 203) au nw lf ht i = nw i := by simp [stB, c1, c2', cau]
              simp [cau] at ai
              by_cases c6 : ht i = 0
              · have eh0 : htB w h au nw lf ht i = 0 := by omega
                refine g_aload_n dX12_burnOn_170 rfl ?_
                refine g_getP dX12_burnOn_171 fdX12_34 rfl (by first | rfl | exact pv_shx) (by omega) (by omega) (by decide) rfl (hP _ _ _ rfl) ?_
                refine g_iload_n dX12_burnOn_174 rfl ?_
                refine g_aload_n dX12_burnOn_175 rfl ?_
                refine g_getP dX12_burnOn_176 fdX12_43 rfl (by first | rfl | exact pv_shx) (by omega) (by omega) (by decide) rfl (hP _ _ _ rfl) ?_
                refine g_iload_n dX12_burnOn_179 rfl ?_
                refine n_zald dX12_burnOn_180 (by first | rfl | exact pv_shx) (by omega) (by omega) (by decide) (rfl) (by omega) (by repeat (first | exact ai | exact t1 | exact fa ca_h | (apply rd_s; done) | apply rd_n (by omega) | apply rp_s | apply rp_n (by omega) | (apply rdL_s; done) | apply rdL_n (by omega) | apply rpJ_s | apply rpJ_n (by omega) | rfl)) ?_
                refine n_if_eq 195 dX12_burnOn_181 (by decide) (by first | (with_reducible exact cB _) | ((with_reducible apply cN_eq0) <;> omega) | exact Iff.rfl) (fun c181 => ?_) (fun c181 => by exfalso; first | omega | exact absurd trivial c181 | exact c181)
                refine g_aload_n dX12_burnOn_195 rfl ?_
                refine g_getP dX12_burnOn_196 fdX12_34 rfl (by first | rfl | exact pv_shx) (by omega) (by omega) (by decide) rfl (hP _ _ _ rfl) ?_
                refine g_iload_n dX12_burnOn_199 rfl ?_
                refine n_iald dX12_burnOn_200 (by first | rfl | exact pv_shx) (by omega) (by omega) (by decide) (rfl) (by omega) (by repeat (first | exact ai | exact t1 | exact fa ca_h | (apply rd_s; done) | apply rd_n (by omega) | apply rp_s | apply rp_n (by omega) | (apply rdL_s; done) | apply rdL_n (by omega) | apply rpJ_s | apply rpJ_n (by omega) | rfl)) ?_
                refine n_if_le 215 dX12_burnOn_201 (by decide) (by first | ((with_reducible apply cN_le0) <;> omega) | (with_reducible exact cI_le0)) (fun c201 => ?_) (fun c201 => by exfalso; first | omega | exact absurd trivial c201 | exact c201)
                refine g_iconst (v := nI 0) dX12_burnOn_215 (by decide) ?_
                refine n_iast dX12_burnOn_216 (by first | rfl | exact pv_shx) (by omega) (by omega) (by omega) (by decide) (rfl) (by omega) (by repeat (first | exact pvu_s | exact pvuJ_s | apply pvu_in (by omega) | apply pvuJ_in (by omega) | exact pvu_pvs | exact pvuJ_pvs)) ?_
                refine g_aload_n dX12_burnOn_217 rfl ?_
                refine g_getP dX12_burnOn_218 fdX12_43 rfl (by first | rfl | exact pv_shx) (by omega) (by omega) (by decide) rfl (hP _ _ _ rfl) ?_
                refine g_iload_n dX12_burnOn_221 rfl ?_
                refine n_zald dX12_burnOn_222 (by first | rfl | exact pv_shx) (by omega) (by omega) (by decide) (rfl) (by omega) (by repeat (first | exact ai | exact t1 | exact fa ca_h | (apply rd_s; done) | apply rd_n (by omega) | apply rp_s | apply rp_n (by omega) | (apply rdL_s; done) | apply rdL_n (by omega) | apply rpJ_s | apply rpJ_n (by omega) | rfl)) ?_
                refine n_if_eq 249 dX12_burnOn_223 (by decide) (by first | (with_reducible exact cB _) | ((with_reducible apply cN_eq0) <;> omega) | exact Iff.rfl) (fun c223 => ?_) (fun c223 => by exfalso; first | omega | exact absurd trivial c223 | exact c223)
                refine fin ?_
                rw [arN_up (by omega) eh0, filN_same es, filN_same el]
              · skip
                refine g_aload_n dX12_burnOn_170 rfl ?_
                refine g_getP dX12_burnOn_171 fdX12_34 rfl (by first | rfl | exact pv_shx) (by omega) (by omega) (by decide) rfl (hP _ _ _ rfl) ?_
                refine g_iload_n dX12_burnOn_174 rfl ?_
                refine g_aload_n dX12_burnOn_175 rfl ?_
                refine g_getP dX12_burnOn_176 fdX12_43 rfl (by first | rfl | exact pv_shx) (by omega) (by omega) (by decide) rfl (hP _ _ _ rfl) ?_
                refine g_iload_n dX12_burnOn_179 rfl ?_
                refine n_zald dX12_burnOn_180 (by first | rfl | exact pv_shx) (by omega) (by omega) (by decide) (rfl) (by omega) (by repeat (first | exact ai | exact t1 | exact fa ca_h | (apply rd_s; done) | apply rd_n (by omega) | apply rp_s | apply rp_n (by omega) | (apply rdL_s; done) | apply rdL_n (by omega) | apply rpJ_s | apply rpJ_n (by omega) | rfl)) ?_
                refine n_if_eq 195 dX12_burnOn_181 (by decide) (by first | (with_reducible exact cB _) | ((with_reducible apply cN_eq0) <;> omega) | exact Iff.rfl) (fun c181 => ?_) (fun c181 => by exfalso; first | omega | exact absurd trivial c181 | exact c181)
                refine g_aload_n dX12_burnOn_195 rfl ?_
                refine g_getP dX12_burnOn_196 fdX12_34 rfl (by first | rfl | exact pv_shx) (by omega) (by omega) (by decide) rfl (hP _ _ _ rfl) ?_
                refine g_iload_n dX12_burnOn_199 rfl ?_
                refine n_iald dX12_burnOn_200 (by first | rfl | exact pv_shx) (by omega) (by omega) (by decide) (rfl) (by omega) (by repeat (first | exact ai | exact t1 | exact fa ca_h | (apply rd_s; done) | apply rd_n (by omega) | apply rp_s | apply rp_n (by omega) | (apply rdL_s; done) | apply rdL_n (by omega) | apply rpJ_s | apply rpJ_n (by omega) | rfl)) ?_
                refine n_if_le 215 dX12_burnOn_201 (by decide) (by first | ((with_reducible apply cN_le0) <;> omega) | (with_reducible exact cI_le0)) (fun c201 => by exfalso; first | omega | exact absurd trivial c201 | exact c201) (fun c201 => ?_)
                refine g_aload_n dX12_burnOn_204 rfl ?_
                refine g_getP dX12_burnOn_205 fdX12_34 rfl (by first | rfl | exact pv_shx) (by omega) (by omega) (by decide) rfl (hP _ _ _ rfl) ?_
                refine g_iload_n dX12_burnOn_208 rfl ?_
                refine n_iald dX12_burnOn_209 (by first | rfl | exact pv_shx) (by omega) (by omega) (by decide) (rfl) (by omega) (by repeat (first | exact ai | exact t1 | exact fa ca_h | (apply rd_s; done) | apply rd_n (by omega) | apply rp_s | apply rp_n (by omega) | (apply rdL_s; done) | apply rdL_n (by omega) | apply rpJ_s | apply rpJ_n (by omega) | rfl)) ?_
                refine g_iconst (v := nI 1) dX12_burnOn_210 (by decide) ?_
                refine n_isub dX12_burnOn_211 (by first | ((with_reducible apply pk_sub) <;> omega) | rfl) ?_
                refine g_goto 216 dX12_burnOn_212 (by decide) ?_
                refine n_iast dX12_burnOn_216 (by first | rfl | exact pv_shx) (by omega) (by omega) (by omega) (by decide) (rfl) (by omega) (by repeat (first | exact pvu_s | exact pvuJ_s | apply pvu_in (by omega) | apply pvuJ_in (by omega) | exact pvu_pvs | exact pvuJ_pvs)) ?_
                refine g_aload_n dX12_burnOn_217 rfl ?_
                refine g_getP dX12_burnOn_218 fdX12_43 rfl (by first | rfl | exact pv_shx) (by omega) (by omega) (by decide) rfl (hP _ _ _ rfl) ?_
                refine g_iload_n dX12_burnOn_221 rfl ?_
                refine n_zald dX12_burnOn_222 (by first | rfl | exact pv_shx) (by omega) (by omega) (by decide) (rfl) (by omega) (by repeat (first | exact ai | exact t1 | exact fa ca_h | (apply rd_s; done) | apply rd_n (by omega) | apply rp_s | apply rp_n (by omega) | (apply rdL_s; done) | apply rdL_n (by omega) | apply rpJ_s | apply rpJ_n (by omega) | rfl)) ?_
                refine n_if_eq 249 dX12_burnOn_223 (by decide) (by first | (with_reducible exact cB _) | ((with_reducible apply cN_eq0) <;> omega) | exact Iff.rfl) (fun c223 => ?_) (fun c223 => by exfalso; first | omega | exact absurd trivial c223 | exact c223)
                refine fin ?_
                rw [arN_up (by omega) eh, filN_same es, filN_same el]
          refine g_iload_n dX12_burnOn_28 rfl ?_
          refine g_aload_n dX12_burnOn_29 rfl ?_
          refine n_getI dX12_burnOn_30 fdX12_86 rfl (by first | rfl | exact pv_shx) (by omega) (by omega) (by decide) rfl (by repeat (first | exact fw | exact fh | exact w1 | exact ai | exact l1 | (apply rd_s; done) | apply rd_n (by omega) | apply rp_s | apply rp_n (by omega) | (apply rdL_s; done) | apply rdL_n (by omega) | apply rpJ_s | apply rpJ_n (by omega) | rfl)) ?_
          refine g_aload_n dX12_burnOn_33 rfl ?_
          refine n_getI dX12_burnOn_34 fdX12_89 rfl (by first | rfl | exact pv_shx) (by omega) (by omega) (by decide) rfl (by repeat (first | exact fw | exact fh | exact w1 | exact ai | exact l1 | (apply rd_s; done) | apply rd_n (by omega) | apply rp_s | apply rp_n (by omega) | (apply rdL_s; done) | apply rdL_n (by omega) | apply rpJ_s | apply rpJ_n (by omega) | rfl)) ?_
          refine n_imul dX12_burnOn_37 (by first | (with_reducible exact pk_mul _ _) | rfl) ?_
          refine n_icmp_ge 255 dX12_burnOn_38 (by decide) (by first | ((with_reducible apply cN_le) <;> omega) | ((with_reducible apply cI_len) <;> omega) | ((with_reducible apply cI_nle) <;> omega) | (with_reducible exact cI_le)) (fun c38 => by exfalso; first | omega | exact absurd trivial c38 | exact c38) (fun c38 => ?_)
          refine g_aload_n dX12_burnOn_41 rfl ?_
          refine g_getP dX12_burnOn_42 fdX12_28 rfl (by first | rfl | exact pv_shx) (by omega) (by omega) (by decide) rfl (hP _ _ _ rfl) ?_
          refine g_iload_n dX12_burnOn_45 rfl ?_
          refine n_iald dX12_burnOn_46 (by first | rfl | exact pv_shx) (by omega) (by omega) (by decide) (rfl) (by omega) (by repeat (first | exact fw | exact fh | exact w1 | exact ai | exact l1 | (apply rd_s; done) | apply rd_n (by omega) | apply rp_s | apply rp_n (by omega) | (apply rdL_s; done) | apply rdL_n (by omega) | apply rpJ_s | apply rpJ_n (by omega) | rfl)) ?_
          refine g_iconst (v := nI 1) dX12_burnOn_47 (by decide) ?_
          refine n_icmp_ne 114 dX12_burnOn_48 (by decide) (by first | ((with_reducible apply cN_eq) <;> omega) | ((with_reducible apply cI_eqn) <;> omega) | exact Iff.rfl) (fun c48 => ?_) (fun c48 => by exfalso; first | omega | exact absurd trivial c48 | exact c48)
          refine g_aload_n dX12_burnOn_114 rfl ?_
          refine g_getP dX12_burnOn_115 fdX12_31 rfl (by first | rfl | exact pv_shx) (by omega) (by omega) (by decide) rfl (hP _ _ _ rfl) ?_
          refine g_iload_n dX12_burnOn_118 rfl ?_
          refine n_iald dX12_burnOn_119 (by first | rfl | exact pv_shx) (by omega) (by omega) (by decide) (rfl) (by omega) (by repeat (first | exact fw | exact fh | exact w1 | exact ai | exact l1 | (apply rd_s; done) | apply rd_n (by omega) | apply rp_s | apply rp_n (by omega) | (apply rdL_s; done) | apply rdL_n (by omega) | apply rpJ_s | apply rpJ_n (by omega) | rfl)) ?_
          refine n_if_le 249 dX12_burnOn_120 (by decide) (by first | ((with_reducible apply cN_le0) <;> omega) | (with_reducible exact cI_le0)) (fun c120 => by exfalso; first | omega | exact absurd trivial c120 | exact c120) (fun c120 => ?_)
          refine g_iconst (v := nI 0) dX12_burnOn_123 (by decide) ?_
          refine g_istore_n dX12_burnOn_124 (by decide) rfl ?_
          refine g_iconst (v := nI 0) dX12_burnOn_125 (by decide) ?_
          refine g_istore_n dX12_burnOn_126 (by decide) rfl ?_
          exact nbl hrest 4 0 (by omega)
  have h28 := lp (w * h) 0 (by omega)
  rw [filN_0, filN_0, filN_0, ← hh0, ← hn, ← hl, ← r1 211 (by decide), ← r1 208 (by decide), ← r1 210 (by decide), pvs_self, pvs_self, pvs_self] at h28
  have cp : ∀ q i, i + q = 64 → pvG mX12_burnOn (pvR 2 0 0) Z 2 [.ref 202, .int (nI i), .retAddr 0, .retAddr 0] [] 0 0 224 (pvs I 209 (sp_fil (I 208) (I 209) i)) J P := by
    intro q
    induction q with
    | zero =>
      intro i hi
      obtain rfl : i = 64 := by omega
      rw [sp_fil_ar (s := nw) (fun c hc => by rw [hn, arN_at hc]), hI1]
      refine g_iload_n dX12_burnOn_2 rfl ?_
      refine g_bipush (v := nI 64) dX12_burnOn_3 (by decide) ?_
      refine n_icmp_ge 26 dX12_burnOn_5 (by decide) (by first | ((with_reducible apply cN_le) <;> omega) | ((with_reducible apply cI_len) <;> omega) | ((with_reducible apply cI_nle) <;> omega) | (with_reducible exact cI_le)) (fun c5 => ?_) (fun c5 => by exfalso; first | omega | exact absurd trivial c5 | exact c5)
      refine g_iconst (v := nI 0) dX12_burnOn_26 (by decide) ?_
      refine g_istore_n dX12_burnOn_27 (by decide) rfl ?_
      exact h28
    | succ q ih =>
      intro i hi
      have h4 := ih (i + 1) (by omega)
      rw [← sp_fil_s] at h4
      refine g_iload_n dX12_burnOn_2 rfl ?_
      refine g_bipush (v := nI 64) dX12_burnOn_3 (by decide) ?_
      refine n_icmp_ge 26 dX12_burnOn_5 (by decide) (by first | ((with_reducible apply cN_le) <;> omega) | ((with_reducible apply cI_len) <;> omega) | ((with_reducible apply cI_nle) <;> omega) | (with_reducible exact cI_le)) (fun c5 => by exfalso; first | omega | exact absurd trivial c5 | exact c5) (fun c5 => ?_)
      refine g_aload_n dX12_burnOn_8 rfl ?_
      refine g_getP dX12_burnOn_9 fdX12_28 rfl (by first | rfl | exact pv_shx) (by omega) (by omega) (by decide) rfl (hP _ _ _ rfl) ?_
      refine g_iload_n dX12_burnOn_12 rfl ?_
      refine g_aload_n dX12_burnOn_13 rfl ?_
      refine g_getP dX12_burnOn_14 fdX12_25 rfl (by first | rfl | exact pv_shx) (by omega) (by omega) (by decide) rfl (hP _ _ _ rfl) ?_
      refine g_iload_n dX12_burnOn_17 rfl ?_
      refine n_iald dX12_burnOn_18 (by first | rfl | exact pv_shx) (by omega) (by omega) (by decide) (rfl) (by omega) (by repeat (first | (apply rd_s; done) | apply rd_n (by omega) | apply rp_s | apply rp_n (by omega) | (apply rdL_s; done) | apply rdL_n (by omega) | apply rpJ_s | apply rpJ_n (by omega) | rfl)) ?_
      refine n_iast dX12_burnOn_19 (by first | rfl | exact pv_shx) (by omega) (by omega) (by omega) (by decide) (rfl) (by omega) (by repeat (first | exact pvu_s | exact pvuJ_s | apply pvu_in (by omega) | apply pvuJ_in (by omega) | exact pvu_pvs | exact pvuJ_pvs)) ?_
      refine g_iinc dX12_burnOn_20 rfl (by first | (with_reducible exact nI_1 _) | exact nI_1 _ | exact pk_m1 _ | rfl) (by decide) rfl ?_
      refine g_goto 2 dX12_burnOn_23 (by decide) ?_
      exact h4
  have h2 := cp 64 0 (by omega)
  rw [sp_fil_0, pvs_self] at h2
  refine pvMet.of _ (by decide) rfl (Nat.le_of_ble_eq_true rfl) ?_
  rw [hZ]
  refine g_iconst (v := nI 0) dX12_burnOn_0 (by decide) ?_
  refine g_istore_n dX12_burnOn_1 (by decide) rfl ?_
  exact h2
