/-! model: gifts, votes -/
def kN (y n : Nat) : Nat := if n < y then 0 else (n - y) / 2 + 1
theorem rl_getD : ∀ {l : List Nat} {f : Nat → Nat} {lo : Nat}, (∀ j, j < l.length → f (lo + j) = l.getD j 0) → rl f lo l.length = l
  | [], _, _, _ => rfl
  | x :: r, f, lo, h => by
    show f lo :: rl f (lo + 1) r.length = x :: r
    rw [show f lo = x from h 0 (by simp), rl_getD (l := r) (fun j hj => by
      have := h (j + 1) (by simp; omega)
      rw [show lo + (j + 1) = lo + 1 + j by omega] at this
      exact this)]
def swF (F : Nat → Nat) (q b : Nat) : Nat → Nat := fun i => if i = q then F b else if i = b then F q else F i
abbrev HG (P : pvP) (Z : pvZT) (s q : Nat) (I : pvI) (J : pvJ) : Prop := pvG mX12_gift (pvR 0 0 0) Z 4 [.ref 202, .int (nI s), .int (nI q), .retAddr 0, .retAddr 0] [] 0 0 224 I J P
theorem k_gift1 {I : pvI} {J : pvJ} {P : pvP} {Z : pvZT} {y n s q : Nat} {f : Nat → Int32} {F : Nat → Nat} (hP : pvOkP P) (h39 : I 202 39 = nI y) (h40 : I 202 40 = nI n) (hy : y ≤ 60) (hn : n ≤ 60) (hs : s ≤ 9999 * q) (hq : q < n) (hyq : y + q ≤ n - q) (hF : ∀ j, j < n → f j = nI (F j)) (hb : ∀ j, j < n → F j ≤ 9999)
    (kk : ∀ b f', q ≤ b → b < n → (∀ i, q ≤ i → i < n → F b ≤ F i) → (∀ j, j < n → f' j = nI (swF F q b j)) → HG P Z (s + F b) (q + 1) (pvs I 223 f') J) : HG P Z s q (pvs I 223 f) J := by
  have lp : ∀ r k b, k + r = n → q ≤ b → b < n → q ≤ k → (∀ i, q ≤ i → i < k → F b ≤ F i) → pvG mX12_gift (pvR 0 0 0) Z 24 [.ref 202, .int (nI s), .int (nI q), .int (nI b), .int (nI k)] [] 0 0 224 (pvs I 223 f) J P := by
    intro r
    induction r with
    | zero =>
      intro k b hk h1 h2 h3 h4
      obtain rfl : k = n := by omega
      have g1 := hF b h2
      have g2 := hF q hq
      have b1 := hb b h2
      have b2 := hb q hq
      have nx := kk b (upd (upd f b (nI (F q))) q (nI (F b))) h1 h2 h4 (fun j hj => by
        unfold swF
        by_cases e : j = q
        · subst e; simp [upd]
        · by_cases e2 : j = b
          · subst e2; simp [upd, e]
          · simp [upd, e, e2]; exact hF j hj)
      refine g_iload dX12_gift_24 rfl ?_
      refine g_aload_n dX12_gift_26 rfl ?_
      refine n_getI dX12_gift_27 fdX12_360 rfl (by first | rfl | exact pv_shx) (by omega) (by omega) (by decide) rfl (by repeat (first | exact h40 | exact g1 | exact g2 | (apply rd_s; done) | apply rd_n (by omega) | apply rp_s | apply rp_n (by omega) | (apply rdL_s; done) | apply rdL_n (by omega) | apply rpJ_s | apply rpJ_n (by omega) | rfl)) ?_
      refine n_icmp_ge 58 dX12_gift_30 (by decide) (by first | ((with_reducible apply cN_le) <;> omega) | ((with_reducible apply cI_len) <;> omega) | ((with_reducible apply cI_nle) <;> omega) | (with_reducible exact cI_le)) (fun c30 => ?_) (fun c30 => by exfalso; first | omega | exact absurd trivial c30 | exact c30 | (simp at c30))
      refine g_aload_n dX12_gift_58 rfl ?_
      refine g_getP dX12_gift_59 fdX12_80 rfl (by first | rfl | exact pv_shx) (by omega) (by omega) (by decide) rfl (hP _ _ _ rfl) ?_
      refine g_iload_n dX12_gift_62 rfl ?_
      refine n_iald dX12_gift_63 (by first | rfl | exact pv_shx) (by omega) (by omega) (by decide) (rfl) (by omega) (by repeat (first | exact h40 | exact g1 | exact g2 | (apply rd_s; done) | apply rd_n (by omega) | apply rp_s | apply rp_n (by omega) | (apply rdL_s; done) | apply rdL_n (by omega) | apply rpJ_s | apply rpJ_n (by omega) | rfl)) ?_
      refine g_istore dX12_gift_64 (by decide) rfl ?_
      refine g_aload_n dX12_gift_66 rfl ?_
      refine g_getP dX12_gift_67 fdX12_80 rfl (by first | rfl | exact pv_shx) (by omega) (by omega) (by decide) rfl (hP _ _ _ rfl) ?_
      refine g_iload_n dX12_gift_70 rfl ?_
      refine g_aload_n dX12_gift_71 rfl ?_
      refine g_getP dX12_gift_72 fdX12_80 rfl (by first | rfl | exact pv_shx) (by omega) (by omega) (by decide) rfl (hP _ _ _ rfl) ?_
      refine g_iload_n dX12_gift_75 rfl ?_
      refine n_iald dX12_gift_76 (by first | rfl | exact pv_shx) (by omega) (by omega) (by decide) (rfl) (by omega) (by repeat (first | exact h40 | exact g1 | exact g2 | (apply rd_s; done) | apply rd_n (by omega) | apply rp_s | apply rp_n (by omega) | (apply rdL_s; done) | apply rdL_n (by omega) | apply rpJ_s | apply rpJ_n (by omega) | rfl)) ?_
      refine n_iast dX12_gift_77 (by first | rfl | exact pv_shx) (by omega) (by omega) (by omega) (by decide) (rfl) (by omega) (by repeat (first | exact pvu_s | exact pvuJ_s | apply pvu_in (by omega) | apply pvuJ_in (by omega) | exact pvu_pvs | exact pvuJ_pvs)) ?_
      refine g_aload_n dX12_gift_78 rfl ?_
      refine g_getP dX12_gift_79 fdX12_80 rfl (by first | rfl | exact pv_shx) (by omega) (by omega) (by decide) rfl (hP _ _ _ rfl) ?_
      refine g_iload_n dX12_gift_82 rfl ?_
      refine g_iload dX12_gift_83 rfl ?_
      refine n_iast dX12_gift_85 (by first | rfl | exact pv_shx) (by omega) (by omega) (by omega) (by decide) (rfl) (by omega) (by repeat (first | exact pvu_s | exact pvuJ_s | apply pvu_in (by omega) | apply pvuJ_in (by omega) | exact pvu_pvs | exact pvuJ_pvs)) ?_
      refine g_iload_n dX12_gift_86 rfl ?_
      refine g_iload dX12_gift_87 rfl ?_
      refine n_iadd dX12_gift_89 (by first | (with_reducible exact nI_add _ _) | rfl) ?_
      refine g_istore_n dX12_gift_90 (by decide) rfl ?_
      refine g_iinc dX12_gift_91 rfl (by first | (with_reducible exact nI_1 _) | exact nI_1 _ | exact pk_m1 _ | rfl) (by decide) rfl ?_
      refine g_goto 4 dX12_gift_94 (by decide) ?_
      exact g_drop _ (by repeat (first | exact trivial | refine ⟨Or.inr ⟨_, rfl⟩, ?_⟩ | refine ⟨Or.inl rfl, ?_⟩)) nx
    | succ r ih =>
      intro k b hk h1 h2 h3 h4
      have g1 := hF b h2
      have g2 := hF k (by omega)
      have b1 := hb b h2
      have b2 := hb k (by omega)
      by_cases c : F k < F b
      · have nx := ih (k + 1) k (by omega) h3 (by omega) (by omega) (fun i hi hi2 => by
          by_cases e : i = k
          · subst e; exact Nat.le_refl _
          · have := h4 i hi (by omega); omega)
        refine g_iload dX12_gift_24 rfl ?_
        refine g_aload_n dX12_gift_26 rfl ?_
        refine n_getI dX12_gift_27 fdX12_360 rfl (by first | rfl | exact pv_shx) (by omega) (by omega) (by decide) rfl (by repeat (first | exact h40 | exact g1 | exact g2 | (apply rd_s; done) | apply rd_n (by omega) | apply rp_s | apply rp_n (by omega) | (apply rdL_s; done) | apply rdL_n (by omega) | apply rpJ_s | apply rpJ_n (by omega) | rfl)) ?_
        refine n_icmp_ge 58 dX12_gift_30 (by decide) (by first | ((with_reducible apply cN_le) <;> omega) | ((with_reducible apply cI_len) <;> omega) | ((with_reducible apply cI_nle) <;> omega) | (with_reducible exact cI_le)) (fun c30 => by exfalso; first | omega | exact absurd trivial c30 | exact c30 | (simp at c30)) (fun c30 => ?_)
        refine g_aload_n dX12_gift_33 rfl ?_
        refine g_getP dX12_gift_34 fdX12_80 rfl (by first | rfl | exact pv_shx) (by omega) (by omega) (by decide) rfl (hP _ _ _ rfl) ?_
        refine g_iload dX12_gift_37 rfl ?_
        refine n_iald dX12_gift_39 (by first | rfl | exact pv_shx) (by omega) (by omega) (by decide) (rfl) (by omega) (by repeat (first | exact h40 | exact g1 | exact g2 | (apply rd_s; done) | apply rd_n (by omega) | apply rp_s | apply rp_n (by omega) | (apply rdL_s; done) | apply rdL_n (by omega) | apply rpJ_s | apply rpJ_n (by omega) | rfl)) ?_
        refine g_aload_n dX12_gift_40 rfl ?_
        refine g_getP dX12_gift_41 fdX12_80 rfl (by first | rfl | exact pv_shx) (by omega) (by omega) (by decide) rfl (hP _ _ _ rfl) ?_
        refine g_iload_n dX12_gift_44 rfl ?_
        refine n_iald dX12_gift_45 (by first | rfl | exact pv_shx) (by omega) (by omega) (by decide) (rfl) (by omega) (by repeat (first | exact h40 | exact g1 | exact g2 | (apply rd_s; done) | apply rd_n (by omega) | apply rp_s | apply rp_n (by omega) | (apply rdL_s; done) | apply rdL_n (by omega) | apply rpJ_s | apply rpJ_n (by omega) | rfl)) ?_
        refine n_icmp_ge 52 dX12_gift_46 (by decide) (by first | ((with_reducible apply cN_le) <;> omega) | ((with_reducible apply cI_len) <;> omega) | ((with_reducible apply cI_nle) <;> omega) | (with_reducible exact cI_le)) (fun c46 => by exfalso; first | omega | exact absurd trivial c46 | exact c46 | (simp at c46)) (fun c46 => ?_)
        refine g_iload dX12_gift_49 rfl ?_
        refine g_istore_n dX12_gift_51 (by decide) rfl ?_
        refine g_iinc dX12_gift_52 rfl (by first | (with_reducible exact nI_1 _) | exact nI_1 _ | exact pk_m1 _ | rfl) (by decide) rfl ?_
        refine g_goto 24 dX12_gift_55 (by decide) ?_
        exact nx
      · have nx := ih (k + 1) b (by omega) h1 h2 (by omega) (fun i hi hi2 => by
          by_cases e : i = k
          · subst e; omega
          · exact h4 i hi (by omega))
        refine g_iload dX12_gift_24 rfl ?_
        refine g_aload_n dX12_gift_26 rfl ?_
        refine n_getI dX12_gift_27 fdX12_360 rfl (by first | rfl | exact pv_shx) (by omega) (by omega) (by decide) rfl (by repeat (first | exact h40 | exact g1 | exact g2 | (apply rd_s; done) | apply rd_n (by omega) | apply rp_s | apply rp_n (by omega) | (apply rdL_s; done) | apply rdL_n (by omega) | apply rpJ_s | apply rpJ_n (by omega) | rfl)) ?_
        refine n_icmp_ge 58 dX12_gift_30 (by decide) (by first | ((with_reducible apply cN_le) <;> omega) | ((with_reducible apply cI_len) <;> omega) | ((with_reducible apply cI_nle) <;> omega) | (with_reducible exact cI_le)) (fun c30 => by exfalso; first | omega | exact absurd trivial c30 | exact c30 | (simp at c30)) (fun c30 => ?_)
        refine g_aload_n dX12_gift_33 rfl ?_
        refine g_getP dX12_gift_34 fdX12_80 rfl (by first | rfl | exact pv_shx) (by omega) (by omega) (by decide) rfl (hP _ _ _ rfl) ?_
        refine g_iload dX12_gift_37 rfl ?_
        refine n_iald dX12_gift_39 (by first | rfl | exact pv_shx) (by omega) (by omega) (by decide) (rfl) (by omega) (by repeat (first | exact h40 | exact g1 | exact g2 | (apply rd_s; done) | apply rd_n (by omega) | apply rp_s | apply rp_n (by omega) | (apply rdL_s; done) | apply rdL_n (by omega) | apply rpJ_s | apply rpJ_n (by omega) | rfl)) ?_
        refine g_aload_n dX12_gift_40 rfl ?_
        refine g_getP dX12_gift_41 fdX12_80 rfl (by first | rfl | exact pv_shx) (by omega) (by omega) (by decide) rfl (hP _ _ _ rfl) ?_
        refine g_iload_n dX12_gift_44 rfl ?_
        refine n_iald dX12_gift_45 (by first | rfl | exact pv_shx) (by omega) (by omega) (by decide) (rfl) (by omega) (by repeat (first | exact h40 | exact g1 | exact g2 | (apply rd_s; done) | apply rd_n (by omega) | apply rp_s | apply rp_n (by omega) | (apply rdL_s; done) | apply rdL_n (by omega) | apply rpJ_s | apply rpJ_n (by omega) | rfl)) ?_
        refine n_icmp_ge 52 dX12_gift_46 (by decide) (by first | ((with_reducible apply cN_le) <;> omega) | ((with_reducible apply cI_len) <;> omega) | ((with_reducible apply cI_nle) <;> omega) | (with_reducible exact cI_le)) (fun c46 => ?_) (fun c46 => by exfalso; first | omega | exact absurd trivial c46 | exact c46 | (simp at c46))
        refine g_iinc dX12_gift_52 rfl (by first | (with_reducible exact nI_1 _) | exact nI_1 _ | exact pk_m1 _ | rfl) (by decide) rfl ?_
        refine g_goto 24 dX12_gift_55 (by decide) ?_
        exact nx
  refine g_aload_n dX12_gift_4 rfl ?_
  refine n_getI dX12_gift_5 fdX12_357 rfl (by first | rfl | exact pv_shx) (by omega) (by omega) (by decide) rfl (by repeat (first | exact h39 | exact h40 | (apply rd_s; done) | apply rd_n (by omega) | apply rp_s | apply rp_n (by omega) | (apply rdL_s; done) | apply rdL_n (by omega) | apply rpJ_s | apply rpJ_n (by omega) | rfl)) ?_
  refine g_iload_n dX12_gift_8 rfl ?_
  refine n_iadd dX12_gift_9 (by first | (with_reducible exact nI_add _ _) | rfl) ?_
  refine g_aload_n dX12_gift_10 rfl ?_
  refine n_getI dX12_gift_11 fdX12_360 rfl (by first | rfl | exact pv_shx) (by omega) (by omega) (by decide) rfl (by repeat (first | exact h39 | exact h40 | (apply rd_s; done) | apply rd_n (by omega) | apply rp_s | apply rp_n (by omega) | (apply rdL_s; done) | apply rdL_n (by omega) | apply rpJ_s | apply rpJ_n (by omega) | rfl)) ?_
  refine g_iload_n dX12_gift_14 rfl ?_
  refine n_isub dX12_gift_15 (by first | ((with_reducible apply pk_sub) <;> omega) | rfl) ?_
  refine n_icmp_gt 97 dX12_gift_16 (by decide) (by first | ((with_reducible apply cN_lt) <;> omega) | ((with_reducible apply cI_ltn) <;> omega) | ((with_reducible apply cI_nlt) <;> omega) | (with_reducible exact cI_lt)) (fun c16 => by exfalso; first | omega | exact absurd trivial c16 | exact c16 | (simp at c16)) (fun c16 => ?_)
  refine g_iload_n dX12_gift_19 rfl ?_
  refine g_istore_n dX12_gift_20 (by decide) rfl ?_
  refine g_iload_n dX12_gift_21 rfl ?_
  refine g_istore dX12_gift_22 (by decide) rfl ?_
  exact lp (n - q) q q (by omega) (Nat.le_refl _) hq (Nat.le_refl _) (fun i h1 h2 => by omega)
theorem t_gift {I : pvI} {J : pvJ} {P : pvP} {y : Nat} {l : List Nat} (hP : pvOkP P) (h39 : I 202 39 = nI y) (h40 : I 202 40 = nI l.length) (hy : y ≤ 60) (hn : l.length ≤ 60) (hyn : 0 < y + l.length) (ha : asA (I 223) l) (hl : ∀ x, x ∈ l → x ≤ 9999) : pvMet mX12_gift 0 0 0 [.ref 202] 224 I J P (pvq P (fun v I' J' => v = some (.int (nI (msum (kN y l.length) l))) ∧ mfix I I' [223] ∧ J' = J)) := by
  generalize hK : kN y l.length = K
  have hK1 : K ≤ l.length := by rw [← hK]; unfold kN; split <;> omega
  have hK2 : ∀ q, q < K → y + q ≤ l.length - q := by
    intro q hq
    rw [← hK] at hq; unfold kN at hq; split at hq <;> omega
  have hK3 : ¬ y + K ≤ l.length - K := by rw [← hK]; unfold kN; split <;> omega
  have lp : ∀ r q s f F, q + r = K → s ≤ 9999 * q → (∀ j, j < l.length → f j = nI (F j)) → (∀ j, j < l.length → F j ≤ 9999) → s + msum r (rl F q (l.length - q)) = msum K l → HG P (pvZ (pvq P (fun v I' J' => v = some (.int (nI (msum K l))) ∧ mfix I I' [223] ∧ J' = J)) 0 0) s q (pvs I 223 f) J := by
    intro r
    induction r with
    | zero =>
      intro q s f F hq hs hF hb he
      obtain rfl : q = K := by omega
      have he : s + 0 = msum q l := he
      refine g_aload_n dX12_gift_4 rfl ?_
      refine n_getI dX12_gift_5 fdX12_357 rfl (by first | rfl | exact pv_shx) (by omega) (by omega) (by decide) rfl (by repeat (first | exact h39 | exact h40 | (apply rd_s; done) | apply rd_n (by omega) | apply rp_s | apply rp_n (by omega) | (apply rdL_s; done) | apply rdL_n (by omega) | apply rpJ_s | apply rpJ_n (by omega) | rfl)) ?_
      refine g_iload_n dX12_gift_8 rfl ?_
      refine n_iadd dX12_gift_9 (by first | (with_reducible exact nI_add _ _) | rfl) ?_
      refine g_aload_n dX12_gift_10 rfl ?_
      refine n_getI dX12_gift_11 fdX12_360 rfl (by first | rfl | exact pv_shx) (by omega) (by omega) (by decide) rfl (by repeat (first | exact h39 | exact h40 | (apply rd_s; done) | apply rd_n (by omega) | apply rp_s | apply rp_n (by omega) | (apply rdL_s; done) | apply rdL_n (by omega) | apply rpJ_s | apply rpJ_n (by omega) | rfl)) ?_
      refine g_iload_n dX12_gift_14 rfl ?_
      refine n_isub dX12_gift_15 (by first | ((with_reducible apply pk_sub) <;> omega) | rfl) ?_
      refine n_icmp_gt 97 dX12_gift_16 (by decide) (by first | ((with_reducible apply cN_lt) <;> omega) | ((with_reducible apply cI_ltn) <;> omega) | ((with_reducible apply cI_nlt) <;> omega) | (with_reducible exact cI_lt)) (fun c16 => ?_) (fun c16 => by exfalso; first | omega | exact absurd trivial c16 | exact c16 | (simp at c16))
      refine g_iload_n dX12_gift_97 rfl ?_
      exact g_iret dX12_gift_98 rfl (⟨rfl, rfl, by rw [← he]; rfl, fun x hx => pvs_ne (by simpa using hx), rfl⟩)
    | succ r ih =>
      intro q s f F hq hs hF hb he
      refine k_gift1 hP h39 h40 hy hn hs (by omega) (hK2 q (by omega)) hF hb (fun b f' h1 h2 h3 h4 => ?_)
      have hb9 := hb b h2
      refine ih (q + 1) (s + F b) f' (swF F q b) (by omega) (by omega) h4 (fun j hj => ?_) ?_
      · unfold swF
        split
        · exact hb9
        · split
          · exact hb q (by omega)
          · exact hb j hj
      · have ht := rl_take (f := F) (g := swF F q b) (lo := q) (n := l.length - (q + 1)) (b := b) h1 (by omega) (fun i h5 h6 => h3 i h5 (by omega)) (fun i h5 h6 => by simp [swF, h5, h6]) (fun h5 => by simp [swF, h5])
        rw [show l.length - (q + 1) + 1 = l.length - q by omega] at ht
        have es : msum (r + 1) (rl F q (l.length - q)) = lmin (rl F q (l.length - q)) + msum r ((rl F q (l.length - q)).erase (lmin (rl F q (l.length - q)))) := rfl
        rw [es, ht.1, msum_perm ht.2] at he
        omega
  have h0 := lp K 0 0 (I 223) (fun j => l.getD j 0) (by omega) (by omega) ha (fun j hj => hl _ (by rw [List.getD_eq_getElem?_getD, List.getElem?_eq_getElem hj]; exact List.getElem_mem _)) (by
    rw [Nat.sub_zero, rl_getD (f := fun j => l.getD j 0) (fun j _ => by rw [Nat.zero_add])]
    omega)
  rw [pvs_self] at h0
  refine pvMet.of _ (by decide) rfl (Nat.le_of_ble_eq_true rfl) ?_
  refine g_iconst (v := nI 0) dX12_gift_0 (by decide) ?_
  refine g_istore_n dX12_gift_1 (by decide) rfl ?_
  refine g_iconst (v := nI 0) dX12_gift_2 (by decide) ?_
  refine g_istore_n dX12_gift_3 (by decide) rfl ?_
  exact h0
theorem noL_le {a : Nat → Int32} {yb : Nat → Bool} (h : ∀ p, p < cnt a 6 → cnt a (1200 + 5 * p + 2) ≤ 9999) : ∀ p, p ≤ cnt a 6 → ∀ x, x ∈ noL a yb p → x ≤ 9999
  | 0, _, x, hx => absurd hx List.not_mem_nil
  | p + 1, hp, x, hx => by
    have hx : x ∈ noL a yb p ++ (if sp_here a p ∧ yb p = false then [cnt a (1200 + 5 * p + 2)] else []) := hx
    rcases List.mem_append.mp hx with hx | hx
    · exact noL_le h p (by omega) x hx
    · split at hx
      · rw [List.mem_singleton.mp hx]; exact h p (by omega)
      · exact absurd hx List.not_mem_nil
/-- yes, no, the least gift -/
def votY (w h : Nat) (a : Nat → Int32) (cl : Nat → List pC) (m : Nat) : Nat := sp_ct (yeP a (yesB w h a cl m)) (cnt a 6)
def votN (w h : Nat) (a : Nat → Int32) (cl : Nat → List pC) (m : Nat) : List Nat := noL a (yesB w h a cl m) (cnt a 6)
def sp_vote (w h : Nat) (a : Nat → Int32) (cl : Nat → List pC) (m x : Int32) : Int32 := if (0 ≤ m.toInt ∧ m.toInt ≤ 99) ∧ (0 ≤ x.toInt ∧ x.toInt ≤ 2) then (if x.toInt = 0 then nI (votY w h a cl m.toNatClampNeg) else if x.toInt = 1 then nI (votN w h a cl m.toNatClampNeg).length else if votY w h a cl m.toNatClampNeg + (votN w h a cl m.toNatClampNeg).length = 0 then -1 else nI (msum (kN (votY w h a cl m.toNatClampNeg) (votN w h a cl m.toNatClampNeg).length) (votN w h a cl m.toNatClampNeg))) else -1
def vtQ (I : pvI) (J : pvJ) (P : pvP) (r : Int32) : pvQT := pvq P (fun v I' J' => v = some (.int r) ∧ mfix I I' LV ∧ (∀ j, j ∉ [39, 40] → I' 202 j = I 202 j) ∧ (∀ x, x ≠ 220 → J' x = J x))
theorem t_vote {w h : Nat} {cl : Nat → List pC} {a : Nat → Int32} {I : pvI} {J : pvJ} {P : pvP} (hP : pvOkP P) (hb : mBy w h cl a I) (hper : mPer a) {m x : Int32} : pvMet mX12_vote 6 0 0 [.ref 202, .int m, .int x] 224 I J P (vtQ I J P (sp_vote w h a cl m x)) := by
  obtain ⟨f5, ⟨np, f61, f62, f63⟩, f8, fk⟩ := hou_facts hb
  refine pvMet.of _ (by decide) rfl (Nat.le_of_ble_eq_true rfl) ?_
  refine g_iload_n dX12_vote_0 rfl ?_
  refine p_callS (t_isWeek) okX12_isWeek lkX12_115 rfl dX12_vote_1 rfl (Nat.le_of_ble_eq_true rfl) (⟨by decide, by decide, by decide, by decide⟩) ?_
  refine n_if_eq 16 dX12_vote_4 (by decide) (by first | (with_reducible exact cB _) | ((with_reducible apply cN_eq0) <;> omega) | exact Iff.rfl) (fun c4 => ?_) (fun c4 => ?_)
  · skip
    refine g_iconst (v := (-1)) dX12_vote_16 (by decide) ?_
    exact g_iret dX12_vote_17 rfl (⟨rfl, rfl, by rw [sp_vote, if_neg (by omega)], fun _ _ => rfl, fun _ _ => rfl, fun _ _ => rfl⟩)
  · skip
    refine g_iload_n dX12_vote_7 rfl ?_
    refine g_iconst (v := nI 0) dX12_vote_8 (by decide) ?_
    refine g_iconst (v := nI 2) dX12_vote_9 (by decide) ?_
    refine p_callS (t_isIn (by first | exact nI_toInt (by omega) | exact pk_sub_toInt (by omega) (by omega)) (by first | exact nI_toInt (by omega) | exact pk_sub_toInt (by omega) (by omega))) okX12_isIn lkX12_96 rfl dX12_vote_10 rfl (Nat.le_of_ble_eq_true rfl) (⟨by decide, by decide, by decide, by decide⟩) ?_
    refine n_if_ne 18 dX12_vote_13 (by decide) (by first | (with_reducible exact cB _) | ((with_reducible apply cN_eq0) <;> omega) | exact Iff.rfl) (fun c13 => ?_) (fun c13 => ?_)
    · skip
      obtain ⟨mm, hm, rfl⟩ := cI_of (x := m) (n := 100) (by omega) (by omega) (by omega)
      have em : (nI mm).toNatClampNeg = mm := nI_clamp (by omega)
      rw [sp_vote, if_pos (by omega), em]
      have co := t_count (J := J) hP hb hper (by omega : mm ≤ 99)
      have hyl : votY w h a cl mm ≤ 60 := Nat.le_trans (sp_ct_le _) (by omega)
      have hnl : (votN w h a cl mm).length ≤ 60 := Nat.le_trans (noL_len _) (by omega)
      have hn9 : ∀ z, z ∈ votN w h a cl mm → z ≤ 9999 := noL_le (fun p hp => (per_facts hper f5 hp).2.2.2.2.2.2.1) _ (Nat.le_refl _)
      have co : pvMet mX12_count 5 0 0 [.ref 202, .int (nI mm)] 224 I J P (pvq P (fun v I' J' => v = none ∧ mfix I I' LV ∧ (∀ j, j ∉ [39, 40] → I' 202 j = I 202 j) ∧ (∀ x, x ≠ 220 → J' x = J x) ∧ I' 202 39 = nI (votY w h a cl mm) ∧ I' 202 40 = nI (votN w h a cl mm).length ∧ asA (I' 223) (votN w h a cl mm))) := co
      generalize votY w h a cl mm = y at *
      generalize votN w h a cl mm = l at *
      have gf : ∀ (I1 : pvI) (J1 : pvJ), 0 < y + l.length → I1 202 39 = nI y → I1 202 40 = nI l.length → asA (I1 223) l → _ := fun I1 J1 h1 h2 h3 h4 => t_gift (I := I1) (J := J1) hP h2 h3 hyl hnl h1 h4 hn9
      by_cases x0 : x.toInt = 0
      · rw [if_pos x0]
        refine g_aload_n dX12_vote_18 rfl ?_
        refine g_iload_n dX12_vote_19 rfl ?_
        refine g_callV (co) okX12_count lkX12_363 rfl (by first | rfl | exact pv_shx) rfl (by omega) (by omega) dX12_vote_20 rfl (Nat.le_of_ble_eq_true rfl) (⟨by decide, by decide, by decide, by decide⟩) ?_
        rintro v nx' I1 J1 P' ⟨rfl, rfl, rfl, q1, q2, q3, q4, q5, q6⟩
        refine g_iload_n dX12_vote_23 rfl ?_
        refine n_if_ne 34 dX12_vote_24 (by decide) (cI_eq.trans (by rw [show ((0 : Int32)).toInt = 0 from rfl])) (fun c24 => by exfalso; first | omega | exact absurd trivial c24 | exact c24 | (simp at c24)) (fun c24 => ?_)
        refine g_aload_n dX12_vote_27 rfl ?_
        refine n_getI dX12_vote_28 fdX12_357 rfl (by first | rfl | exact pv_shx) (by omega) (by omega) (by decide) rfl (q4) ?_
        refine g_goto 66 dX12_vote_31 (by decide) ?_
        exact g_iret dX12_vote_66 rfl (⟨rfl, rfl, rfl, q1, q2, q3⟩)
      · rw [if_neg x0]
        by_cases x1 : x.toInt = 1
        · rw [if_pos x1]
          refine g_aload_n dX12_vote_18 rfl ?_
          refine g_iload_n dX12_vote_19 rfl ?_
          refine g_callV (co) okX12_count lkX12_363 rfl (by first | rfl | exact pv_shx) rfl (by omega) (by omega) dX12_vote_20 rfl (Nat.le_of_ble_eq_true rfl) (⟨by decide, by decide, by decide, by decide⟩) ?_
          rintro v nx' I1 J1 P' ⟨rfl, rfl, rfl, q1, q2, q3, q4, q5, q6⟩
          refine g_iload_n dX12_vote_23 rfl ?_
          refine n_if_ne 34 dX12_vote_24 (by decide) (cI_eq.trans (by rw [show ((0 : Int32)).toInt = 0 from rfl])) (fun c24 => ?_) (fun c24 => by exfalso; first | omega | exact absurd trivial c24 | exact c24 | (simp at c24))
          refine g_iload_n dX12_vote_34 rfl ?_
          refine g_iconst (v := nI 1) dX12_vote_35 (by decide) ?_
          refine n_icmp_ne 46 dX12_vote_36 (by decide) (cI_eq.trans (by rw [show (nI 1).toInt = 1 from rfl])) (fun c36 => by exfalso; first | omega | exact absurd trivial c36 | exact c36 | (simp at c36)) (fun c36 => ?_)
          refine g_aload_n dX12_vote_39 rfl ?_
          refine n_getI dX12_vote_40 fdX12_360 rfl (by first | rfl | exact pv_shx) (by omega) (by omega) (by decide) rfl (q5) ?_
          refine g_goto 66 dX12_vote_43 (by decide) ?_
          exact g_iret dX12_vote_66 rfl (⟨rfl, rfl, rfl, q1, q2, q3⟩)
        · rw [if_neg x1]
          by_cases x2 : y + l.length = 0
          · rw [if_pos x2]
            refine g_aload_n dX12_vote_18 rfl ?_
            refine g_iload_n dX12_vote_19 rfl ?_
            refine g_callV (co) okX12_count lkX12_363 rfl (by first | rfl | exact pv_shx) rfl (by omega) (by omega) dX12_vote_20 rfl (Nat.le_of_ble_eq_true rfl) (⟨by decide, by decide, by decide, by decide⟩) ?_
            rintro v nx' I1 J1 P' ⟨rfl, rfl, rfl, q1, q2, q3, q4, q5, q6⟩
            refine g_iload_n dX12_vote_23 rfl ?_
            refine n_if_ne 34 dX12_vote_24 (by decide) (cI_eq.trans (by rw [show ((0 : Int32)).toInt = 0 from rfl])) (fun c24 => ?_) (fun c24 => by exfalso; first | omega | exact absurd trivial c24 | exact c24 | (simp at c24))
            refine g_iload_n dX12_vote_34 rfl ?_
            refine g_iconst (v := nI 1) dX12_vote_35 (by decide) ?_
            refine n_icmp_ne 46 dX12_vote_36 (by decide) (cI_eq.trans (by rw [show (nI 1).toInt = 1 from rfl])) (fun c36 => ?_) (fun c36 => by exfalso; first | omega | exact absurd trivial c36 | exact c36 | (simp at c36))
            refine g_aload_n dX12_vote_46 rfl ?_
            refine n_getI dX12_vote_47 fdX12_357 rfl (by first | rfl | exact pv_shx) (by omega) (by omega) (by decide) rfl (q4) ?_
            refine g_aload_n dX12_vote_50 rfl ?_
            refine n_getI dX12_vote_51 fdX12_360 rfl (by first | rfl | exact pv_shx) (by omega) (by omega) (by decide) rfl (q5) ?_
            refine n_iadd dX12_vote_54 (by first | (with_reducible exact nI_add _ _) | rfl) ?_
            refine n_if_ne 62 dX12_vote_55 (by decide) (by first | (with_reducible exact cB _) | ((with_reducible apply cN_eq0) <;> omega) | exact Iff.rfl) (fun c55 => by exfalso; first | omega | exact absurd trivial c55 | exact c55 | (simp at c55)) (fun c55 => ?_)
            refine g_iconst (v := (-1)) dX12_vote_58 (by decide) ?_
            refine g_goto 66 dX12_vote_59 (by decide) ?_
            exact g_iret dX12_vote_66 rfl (⟨rfl, rfl, rfl, q1, q2, q3⟩)
          · rw [if_neg x2]
            refine g_aload_n dX12_vote_18 rfl ?_
            refine g_iload_n dX12_vote_19 rfl ?_
            refine g_callV (co) okX12_count lkX12_363 rfl (by first | rfl | exact pv_shx) rfl (by omega) (by omega) dX12_vote_20 rfl (Nat.le_of_ble_eq_true rfl) (⟨by decide, by decide, by decide, by decide⟩) ?_
            rintro v nx' I1 J1 P' ⟨rfl, rfl, rfl, q1, q2, q3, q4, q5, q6⟩
            have gf1 := gf I1 J1 (by omega) q4 q5 q6
            refine g_iload_n dX12_vote_23 rfl ?_
            refine n_if_ne 34 dX12_vote_24 (by decide) (cI_eq.trans (by rw [show ((0 : Int32)).toInt = 0 from rfl])) (fun c24 => ?_) (fun c24 => by exfalso; first | omega | exact absurd trivial c24 | exact c24 | (simp at c24))
            refine g_iload_n dX12_vote_34 rfl ?_
            refine g_iconst (v := nI 1) dX12_vote_35 (by decide) ?_
            refine n_icmp_ne 46 dX12_vote_36 (by decide) (cI_eq.trans (by rw [show (nI 1).toInt = 1 from rfl])) (fun c36 => ?_) (fun c36 => by exfalso; first | omega | exact absurd trivial c36 | exact c36 | (simp at c36))
            refine g_aload_n dX12_vote_46 rfl ?_
            refine n_getI dX12_vote_47 fdX12_357 rfl (by first | rfl | exact pv_shx) (by omega) (by omega) (by decide) rfl (q4) ?_
            refine g_aload_n dX12_vote_50 rfl ?_
            refine n_getI dX12_vote_51 fdX12_360 rfl (by first | rfl | exact pv_shx) (by omega) (by omega) (by decide) rfl (q5) ?_
            refine n_iadd dX12_vote_54 (by first | (with_reducible exact nI_add _ _) | rfl) ?_
            refine n_if_ne 62 dX12_vote_55 (by decide) (by first | (with_reducible exact cB _) | ((with_reducible apply cN_eq0) <;> omega) | exact Iff.rfl) (fun c55 => ?_) (fun c55 => by exfalso; first | omega | exact absurd trivial c55 | exact c55 | (simp at c55))
            refine g_aload_n dX12_vote_62 rfl ?_
            refine g_callV (gf1) okX12_gift lkX12_366 rfl (by first | rfl | exact pv_shx) rfl (by omega) (by omega) dX12_vote_63 rfl (Nat.le_of_ble_eq_true rfl) (⟨by decide, by decide, by decide, by decide⟩) ?_
            rintro v nx' I2 J2 P' ⟨rfl, rfl, rfl, r1, rfl⟩
            exact g_iret dX12_vote_66 rfl (⟨rfl, rfl, rfl, fun y hy => by simp at hy; rw [r1 y (by simp; omega), q1 y (by simp; omega)], fun j hj => by rw [r1 202 (by decide)]; exact q2 j hj, q3⟩)
    · skip
      refine g_iconst (v := (-1)) dX12_vote_16 (by decide) ?_
      exact g_iret dX12_vote_17 rfl (⟨rfl, rfl, by rw [sp_vote, if_neg (by omega)], fun _ _ => rfl, fun _ _ => rfl, fun _ _ => rfl⟩)
