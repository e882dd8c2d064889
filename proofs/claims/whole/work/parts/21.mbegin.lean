/-! model: the beginning of a week -/
theorem sh_l : ∀ n, n < 32 → ((nI n &&& 31).toBitVec.smod 32).toNat = n := by decide
theorem nI_shl1 {t : Nat} (h : t < 31) : nI 1 <<< (nI t &&& 31) = nI (2 ^ t) := by
  have h2 : (1 : Nat) * 2 ^ t < 2 ^ 32 := by
    rw [Nat.one_mul]
    exact Nat.pow_lt_pow_right (by decide) (by omega)
  rw [pk_shlN _ t (sh_l t (by omega)) h2, Nat.one_mul]
theorem nI_shr {n t : Nat} (hn : n < 2 ^ 31) (h : t < 32) : nI n >>> (nI t &&& 31) = nI (n / 2 ^ t) := pk_shrN hn _ t (sh_l t h)
theorem nI_and1 {n : Nat} (hn : n < 2 ^ 32) : nI n &&& nI 1 = nI (n % 2) := pk_andN hn 1 (by decide)
theorem nI_or (a b : Nat) : nI a ||| nI b = nI (a ||| b) := by
  apply Int32.toBitVec_inj.mp
  show BitVec.ofNat 32 a ||| BitVec.ofNat 32 b = BitVec.ofNat 32 (a ||| b)
  rw [BitVec.ofNat_or]
theorem arN_fil {g : Nat → Int32} {n i : Nat} {f s : Nat → Nat} (h : i < n) : upd (arN g n (fun c => if c < i then f c else s c)) i (nI (f i)) = arN g n (fun c => if c < i + 1 then f c else s c) := by
  rw [arN_upd h]
  congr 1
  funext c
  by_cases e : c = i
  · subst e; simp [updN]
  · simp only [updN, if_neg e]
    by_cases e2 : c < i
    · rw [if_pos e2, if_pos (by omega)]
    · rw [if_neg e2, if_neg (by omega)]
theorem arN_all {g : Nat → Int32} {n : Nat} {f s : Nat → Nat} : arN g n (fun c => if c < n then f c else s c) = arN g n f := arN_cong fun c hc => by simp [hc]
theorem arN_none {g : Nat → Int32} {n : Nat} {f s : Nat → Nat} : arN g n (fun c => if c < 0 then f c else s c) = arN g n s := arN_cong fun c hc => by simp
theorem fa_upd_twice2 {f : Nat → Int32} {i : Nat} {x y : Int32} : upd (upd f i x) i y = upd f i y := by
  funext k
  by_cases h : k = i <;> simp [upd, h]
abbrev LSb (s m : Nat) (u3 : Int32) : List Value := [.ref 202, .int (nI s), .int (nI m), .int u3, .retAddr 0, .retAddr 0, .retAddr 0, .retAddr 0, .retAddr 0]
-- the sand of the week before
def fl1 (a : Nat → Int32) (m : Nat) (fl : Nat → Nat) : Nat → Nat := fun c => if m = 0 then fl c else fl c + cnt a (1620 + 64 * (m - 1) + c)
theorem b_fill {I : pvI} {J : pvJ} {P : pvP} {Z : pvZT} {a : Nat → Int32} {s m : Nat} {u3 : Int32} {gf : Nat → Int32} {fl : Nat → Nat} (hP : pvOkP P) (ha : I 203 = a) (hc : mCells a) (hm : m ≤ 99)
    (kk : pvG mX12_begin (pvR 2 0 0) Z 48 (LSb s m u3) [] 0 0 224 (pvs I 212 (arN gf 64 (fl1 a m fl))) J P) : pvG mX12_begin (pvR 2 0 0) Z 0 (LSb s m u3) [] 0 0 224 (pvs I 212 (arN gf 64 fl)) J P := by
  have ra : ∀ {i v}, a i = v → I 203 i = v := fun hv => by rw [ha]; exact hv
  by_cases h0 : m = 0
  · subst h0
    have e : fl1 a 0 fl = fl := by funext c; simp [fl1]
    rw [e] at kk
    refine g_iconst (v := nI 0) dX12_begin_0 (by decide) ?_
    refine g_istore dX12_begin_1 (by decide) rfl ?_
    refine g_iload dX12_begin_3 rfl ?_
    refine g_bipush (v := nI 64) dX12_begin_5 (by decide) ?_
    refine n_icmp_ge 48 dX12_begin_7 (by decide) (by first | ((with_reducible apply cN_le) <;> omega) | ((with_reducible apply cI_len) <;> omega) | ((with_reducible apply cI_nle) <;> omega) | (with_reducible exact cI_le)) (fun c7 => by exfalso; first | omega | exact absurd trivial c7 | exact c7) (fun c7 => ?_)
    refine g_iload_n dX12_begin_10 rfl ?_
    refine n_if_le 48 dX12_begin_11 (by decide) (by first | ((with_reducible apply cN_le0) <;> omega) | (with_reducible exact cI_le0)) (fun c11 => ?_) (fun c11 => by exfalso; first | omega | exact absurd trivial c11 | exact c11)
    refine g_drop (LSb s 0 u3) (by repeat (first | exact trivial | refine ⟨Or.inr ⟨_, rfl⟩, ?_⟩ | refine ⟨Or.inl rfl, ?_⟩)) ?_
    exact kk
  · have lp : ∀ q i, i + q = 64 → pvG mX12_begin (pvR 2 0 0) Z 3 [.ref 202, .int (nI s), .int (nI m), .int u3, .int (nI i), .retAddr 0, .retAddr 0, .retAddr 0, .retAddr 0] [] 0 0 224 (pvs I 212 (arN gf 64 (fun c => if c < i then fl1 a m fl c else fl c))) J P := by
      intro q
      induction q with
      | zero =>
        intro i hi
        obtain rfl : i = 64 := by omega
        rw [arN_all]
        refine g_iload dX12_begin_3 rfl ?_
        refine g_bipush (v := nI 64) dX12_begin_5 (by decide) ?_
        refine n_icmp_ge 48 dX12_begin_7 (by decide) (by first | ((with_reducible apply cN_le) <;> omega) | ((with_reducible apply cI_len) <;> omega) | ((with_reducible apply cI_nle) <;> omega) | (with_reducible exact cI_le)) (fun c7 => ?_) (fun c7 => by exfalso; first | omega | exact absurd trivial c7 | exact c7)
        refine g_drop (LSb s m u3) (by repeat (first | exact trivial | refine ⟨Or.inr ⟨_, rfl⟩, ?_⟩ | refine ⟨Or.inl rfl, ?_⟩)) ?_
        exact kk
      | succ q ih =>
        intro i hi
        obtain ⟨v, v1, v2⟩ := hc.2.2 (m - 1) i (by omega) (by omega)
        have v3 := nI_cnt v2 (by omega)
        have h4 := ih (i + 1) (by omega)
        rw [← arN_fil (by omega)] at h4
        have e : fl1 a m fl i = fl i + cnt a (1620 + 64 * (m - 1) + i) := by simp [fl1, h0]
        rw [e] at h4
        have hr : arN gf 64 (fun c => if c < i then fl1 a m fl c else fl c) i = nI (fl i) := by rw [arN_at (by omega)]; simp
        refine g_iload dX12_begin_3 rfl ?_
        refine g_bipush (v := nI 64) dX12_begin_5 (by decide) ?_
        refine n_icmp_ge 48 dX12_begin_7 (by decide) (by first | ((with_reducible apply cN_le) <;> omega) | ((with_reducible apply cI_len) <;> omega) | ((with_reducible apply cI_nle) <;> omega) | (with_reducible exact cI_le)) (fun c7 => by exfalso; first | omega | exact absurd trivial c7 | exact c7) (fun c7 => ?_)
        refine g_iload_n dX12_begin_10 rfl ?_
        refine n_if_le 48 dX12_begin_11 (by decide) (by first | ((with_reducible apply cN_le0) <;> omega) | (with_reducible exact cI_le0)) (fun c11 => by exfalso; first | omega | exact absurd trivial c11 | exact c11) (fun c11 => ?_)
        refine g_aload_n dX12_begin_14 rfl ?_
        refine g_getP dX12_begin_15 fdX12_37 rfl (by first | rfl | exact pv_shx) (by omega) (by omega) (by decide) rfl (hP _ _ _ rfl) ?_
        refine g_iload dX12_begin_18 rfl ?_
        refine g_dup2 dX12_begin_20 rfl rfl ?_
        refine n_iald dX12_begin_21 (by first | rfl | exact pv_shx) (by omega) (by omega) (by decide) (rfl) (by omega) (by repeat (first | exact hr | exact ra v3 | (apply rd_s; done) | apply rd_n (by omega) | apply rp_s | apply rp_n (by omega) | (apply rdL_s; done) | apply rdL_n (by omega) | apply rpJ_s | apply rpJ_n (by omega) | rfl)) ?_
        refine g_aload_n dX12_begin_22 rfl ?_
        refine g_getP dX12_begin_23 fdX12_7 rfl (by first | rfl | exact pv_shx) (by omega) (by omega) (by decide) rfl (hP _ _ _ rfl) ?_
        refine g_sipush (v := nI 1620) dX12_begin_26 (by decide) ?_
        refine g_bipush (v := nI 64) dX12_begin_29 (by decide) ?_
        refine g_iload_n dX12_begin_31 rfl ?_
        refine g_iconst (v := nI 1) dX12_begin_32 (by decide) ?_
        refine n_isub dX12_begin_33 (by first | ((with_reducible apply pk_sub) <;> omega) | rfl) ?_
        refine n_imul dX12_begin_34 (by first | (with_reducible exact pk_mul _ _) | rfl) ?_
        refine n_iadd dX12_begin_35 (by first | (with_reducible exact nI_add _ _) | rfl) ?_
        refine g_iload dX12_begin_36 rfl ?_
        refine n_iadd dX12_begin_38 (by first | (with_reducible exact nI_add _ _) | rfl) ?_
        refine n_iald dX12_begin_39 (by first | rfl | exact pv_shx) (by omega) (by omega) (by decide) (rfl) (by omega) (by repeat (first | exact hr | exact ra v3 | (apply rd_s; done) | apply rd_n (by omega) | apply rp_s | apply rp_n (by omega) | (apply rdL_s; done) | apply rdL_n (by omega) | apply rpJ_s | apply rpJ_n (by omega) | rfl)) ?_
        refine n_iadd dX12_begin_40 (by first | (with_reducible exact nI_add _ _) | rfl) ?_
        refine n_iast dX12_begin_41 (by first | rfl | exact pv_shx) (by omega) (by omega) (by omega) (by decide) (rfl) (by omega) (by repeat (first | exact pvu_s | exact pvuJ_s | apply pvu_in (by omega) | apply pvuJ_in (by omega) | exact pvu_pvs | exact pvuJ_pvs)) ?_
        refine g_iinc dX12_begin_42 rfl (by first | (with_reducible exact nI_1 _) | exact nI_1 _ | exact pk_m1 _ | rfl) (by decide) rfl ?_
        refine g_goto 3 dX12_begin_45 (by decide) ?_
        exact h4
    have h3 := lp 64 0 (by omega)
    rw [arN_none] at h3
    refine g_iconst (v := nI 0) dX12_begin_0 (by decide) ?_
    refine g_istore dX12_begin_1 (by decide) rfl ?_
    exact h3
-- walls
def wlB (a : Nat → Int32) (wl c : Nat) : Nat → Bool := anyB (fun p => decide (wl / 2 ^ p % 2 = 1 ∧ cnt a (1600 + 2 * p) = c))
def fl2 (a : Nat → Int32) (m wl : Nat) (fl : Nat → Nat) : Nat → Nat := fun c => if cnt a 0 ≤ m ∧ wlB a wl c (cnt a 10) = true then 20 else fl c
theorem b_wall {n : Nat} {I : pvI} {J : pvJ} {P : pvP} {Z : pvZT} {a : Nat → Int32} {s m wl : Nat} {gf : Nat → Int32} {fl : Nat → Nat} (hP : pvOkP P) (ha : I 203 = a) (hg : mG a) (hpl : mPlaces n a) (hn : n ≤ 64) (hm : m ≤ 99) (hwl : wl < 64)
    (kk : pvG mX12_begin (pvR 2 0 0) Z 109 (LSb s m (nI wl)) [] 0 0 224 (pvs I 212 (arN gf 64 (fl2 a m wl fl))) J P) : pvG mX12_begin (pvR 2 0 0) Z 48 (LSb s m (nI wl)) [] 0 0 224 (pvs I 212 (arN gf 64 fl)) J P := by
  have ra : ∀ {i v}, a i = v → I 203 i = v := fun hv => by rw [ha]; exact hv
  obtain ⟨clk, clk_b, clk_h⟩ := hg 0 (by decide)
  replace clk_b : clk ≤ 100 := clk_b
  have clk_e : cnt a 0 = clk := cnt_of clk_h (by omega)
  obtain ⟨npl, npl_b, npl_h⟩ := hg 10 (by decide)
  replace npl_b : npl ≤ 6 := npl_b
  have npl_e : cnt a 10 = npl := cnt_of npl_h (by omega)
  by_cases hcm : clk ≤ m
  · have lp : ∀ q i, i + q = npl → pvG mX12_begin (pvR 2 0 0) Z 51 [.ref 202, .int (nI s), .int (nI m), .int (nI wl), .int (nI i), .retAddr 0, .retAddr 0, .retAddr 0, .retAddr 0] [] 0 0 224 (pvs I 212 (arN gf 64 (fun c => if wlB a wl c i = true then 20 else fl c))) J P := by
      intro q
      induction q with
      | zero =>
        intro i hi
        obtain rfl : i = npl := by omega
        have e : (fun c => if wlB a wl c i = true then 20 else fl c) = fl2 a m wl fl := by
          funext c
          unfold fl2
          rw [clk_e, npl_e]
          simp [hcm]
        rw [e]
        refine g_iload dX12_begin_51 rfl ?_
        refine g_aload_n dX12_begin_53 rfl ?_
        refine g_getP dX12_begin_54 fdX12_7 rfl (by first | rfl | exact pv_shx) (by omega) (by omega) (by decide) rfl (hP _ _ _ rfl) ?_
        refine g_bipush (v := nI 10) dX12_begin_57 (by decide) ?_
        refine n_iald dX12_begin_59 (by first | rfl | exact pv_shx) (by omega) (by omega) (by decide) (rfl) (by omega) (by repeat (first | exact ra npl_h | (apply rd_s; done) | apply rd_n (by omega) | apply rp_s | apply rp_n (by omega) | (apply rdL_s; done) | apply rdL_n (by omega) | apply rpJ_s | apply rpJ_n (by omega) | rfl)) ?_
        refine n_icmp_ge 109 dX12_begin_60 (by decide) (by first | ((with_reducible apply cN_le) <;> omega) | ((with_reducible apply cI_len) <;> omega) | ((with_reducible apply cI_nle) <;> omega) | (with_reducible exact cI_le)) (fun c60 => ?_) (fun c60 => by exfalso; first | omega | exact absurd trivial c60 | exact c60)
        refine g_drop (LSb s m (nI wl)) (by repeat (first | exact trivial | refine ⟨Or.inr ⟨_, rfl⟩, ?_⟩ | refine ⟨Or.inl rfl, ?_⟩)) ?_
        exact kk
      | succ q ih =>
        intro i hi
        obtain ⟨⟨c, c1, c2⟩, -⟩ := hpl i (by omega)
        have c3 : cnt a (1600 + 2 * i) = c := cnt_of c2 (by omega)
        have h4 := ih (i + 1) (by omega)
        have es : ∀ x, wlB a wl x (i + 1) = (wlB a wl x i || decide (wl / 2 ^ i % 2 = 1 ∧ cnt a (1600 + 2 * i) = x)) := fun x => rfl
        have hdv : wl / 2 ^ i ≤ wl := Nat.div_le_self _ _
        by_cases hb : wl / 2 ^ i % 2 = 1
        · have e : (fun x => if wlB a wl x (i + 1) = true then 20 else fl x) = updN (fun x => if wlB a wl x i = true then 20 else fl x) c 20 := by
            funext x
            rw [es x, c3]
            by_cases e : x = c
            · subst e; simp [updN, hb]
            · have : ¬ c = x := fun z => e z.symm
              simp [updN, e, this]
          rw [e, ← arN_upd (by omega)] at h4
          refine g_iload dX12_begin_51 rfl ?_
          refine g_aload_n dX12_begin_53 rfl ?_
          refine g_getP dX12_begin_54 fdX12_7 rfl (by first | rfl | exact pv_shx) (by omega) (by omega) (by decide) rfl (hP _ _ _ rfl) ?_
          refine g_bipush (v := nI 10) dX12_begin_57 (by decide) ?_
          refine n_iald dX12_begin_59 (by first | rfl | exact pv_shx) (by omega) (by omega) (by decide) (rfl) (by omega) (by repeat (first | exact ra npl_h | exact ra clk_h | exact ra c2 | (apply rd_s; done) | apply rd_n (by omega) | apply rp_s | apply rp_n (by omega) | (apply rdL_s; done) | apply rdL_n (by omega) | apply rpJ_s | apply rpJ_n (by omega) | rfl)) ?_
          refine n_icmp_ge 109 dX12_begin_60 (by decide) (by first | ((with_reducible apply cN_le) <;> omega) | ((with_reducible apply cI_len) <;> omega) | ((with_reducible apply cI_nle) <;> omega) | (with_reducible exact cI_le)) (fun c60 => by exfalso; first | omega | exact absurd trivial c60 | exact c60) (fun c60 => ?_)
          refine g_iload_n dX12_begin_63 rfl ?_
          refine g_aload_n dX12_begin_64 rfl ?_
          refine g_getP dX12_begin_65 fdX12_7 rfl (by first | rfl | exact pv_shx) (by omega) (by omega) (by decide) rfl (hP _ _ _ rfl) ?_
          refine g_iconst (v := nI 0) dX12_begin_68 (by decide) ?_
          refine n_iald dX12_begin_69 (by first | rfl | exact pv_shx) (by omega) (by omega) (by decide) (rfl) (by omega) (by repeat (first | exact ra npl_h | exact ra clk_h | exact ra c2 | (apply rd_s; done) | apply rd_n (by omega) | apply rp_s | apply rp_n (by omega) | (apply rdL_s; done) | apply rdL_n (by omega) | apply rpJ_s | apply rpJ_n (by omega) | rfl)) ?_
          refine n_icmp_lt 109 dX12_begin_70 (by decide) (by first | ((with_reducible apply cN_lt) <;> omega) | ((with_reducible apply cI_ltn) <;> omega) | ((with_reducible apply cI_nlt) <;> omega) | (with_reducible exact cI_lt)) (fun c70 => by exfalso; first | omega | exact absurd trivial c70 | exact c70) (fun c70 => ?_)
          refine g_iload_n dX12_begin_73 rfl ?_
          refine g_iload dX12_begin_74 rfl ?_
          refine n_ishr dX12_begin_76 (nI_shr (by omega) (by omega)) ?_
          refine g_iconst (v := nI 1) dX12_begin_77 (by decide) ?_
          refine n_iand dX12_begin_78 (nI_and1 (by omega)) ?_
          refine g_iconst (v := nI 1) dX12_begin_79 (by decide) ?_
          refine n_icmp_ne 103 dX12_begin_80 (by decide) (by first | ((with_reducible apply cN_eq) <;> omega) | ((with_reducible apply cI_eqn) <;> omega) | exact Iff.rfl) (fun c80 => by exfalso; first | omega | exact absurd trivial c80 | exact c80) (fun c80 => ?_)
          refine g_aload_n dX12_begin_83 rfl ?_
          refine g_getP dX12_begin_84 fdX12_37 rfl (by first | rfl | exact pv_shx) (by omega) (by omega) (by decide) rfl (hP _ _ _ rfl) ?_
          refine g_aload_n dX12_begin_87 rfl ?_
          refine g_getP dX12_begin_88 fdX12_7 rfl (by first | rfl | exact pv_shx) (by omega) (by omega) (by decide) rfl (hP _ _ _ rfl) ?_
          refine g_sipush (v := nI 1600) dX12_begin_91 (by decide) ?_
          refine g_iconst (v := nI 2) dX12_begin_94 (by decide) ?_
          refine g_iload dX12_begin_95 rfl ?_
          refine n_imul dX12_begin_97 (by first | (with_reducible exact pk_mul _ _) | rfl) ?_
          refine n_iadd dX12_begin_98 (by first | (with_reducible exact nI_add _ _) | rfl) ?_
          refine n_iald dX12_begin_99 (by first | rfl | exact pv_shx) (by omega) (by omega) (by decide) (rfl) (by omega) (by repeat (first | exact ra npl_h | exact ra clk_h | exact ra c2 | (apply rd_s; done) | apply rd_n (by omega) | apply rp_s | apply rp_n (by omega) | (apply rdL_s; done) | apply rdL_n (by omega) | apply rpJ_s | apply rpJ_n (by omega) | rfl)) ?_
          refine g_bipush (v := nI 20) dX12_begin_100 (by decide) ?_
          refine n_iast dX12_begin_102 (by first | rfl | exact pv_shx) (by omega) (by omega) (by omega) (by decide) (rfl) (by omega) (by repeat (first | exact pvu_s | exact pvuJ_s | apply pvu_in (by omega) | apply pvuJ_in (by omega) | exact pvu_pvs | exact pvuJ_pvs)) ?_
          refine g_iinc dX12_begin_103 rfl (by first | (with_reducible exact nI_1 _) | exact nI_1 _ | exact pk_m1 _ | rfl) (by decide) rfl ?_
          refine g_goto 51 dX12_begin_106 (by decide) ?_
          exact h4
        · have e : (fun x => if wlB a wl x (i + 1) = true then 20 else fl x) = (fun x => if wlB a wl x i = true then 20 else fl x) := by
            funext x
            rw [es x]
            simp [hb]
          rw [e] at h4
          refine g_iload dX12_begin_51 rfl ?_
          refine g_aload_n dX12_begin_53 rfl ?_
          refine g_getP dX12_begin_54 fdX12_7 rfl (by first | rfl | exact pv_shx) (by omega) (by omega) (by decide) rfl (hP _ _ _ rfl) ?_
          refine g_bipush (v := nI 10) dX12_begin_57 (by decide) ?_
          refine n_iald dX12_begin_59 (by first | rfl | exact pv_shx) (by omega) (by omega) (by decide) (rfl) (by omega) (by repeat (first | exact ra npl_h | exact ra clk_h | exact ra c2 | (apply rd_s; done) | apply rd_n (by omega) | apply rp_s | apply rp_n (by omega) | (apply rdL_s; done) | apply rdL_n (by omega) | apply rpJ_s | apply rpJ_n (by omega) | rfl)) ?_
          refine n_icmp_ge 109 dX12_begin_60 (by decide) (by first | ((with_reducible apply cN_le) <;> omega) | ((with_reducible apply cI_len) <;> omega) | ((with_reducible apply cI_nle) <;> omega) | (with_reducible exact cI_le)) (fun c60 => by exfalso; first | omega | exact absurd trivial c60 | exact c60) (fun c60 => ?_)
          refine g_iload_n dX12_begin_63 rfl ?_
          refine g_aload_n dX12_begin_64 rfl ?_
          refine g_getP dX12_begin_65 fdX12_7 rfl (by first | rfl | exact pv_shx) (by omega) (by omega) (by decide) rfl (hP _ _ _ rfl) ?_
          refine g_iconst (v := nI 0) dX12_begin_68 (by decide) ?_
          refine n_iald dX12_begin_69 (by first | rfl | exact pv_shx) (by omega) (by omega) (by decide) (rfl) (by omega) (by repeat (first | exact ra npl_h | exact ra clk_h | exact ra c2 | (apply rd_s; done) | apply rd_n (by omega) | apply rp_s | apply rp_n (by omega) | (apply rdL_s; done) | apply rdL_n (by omega) | apply rpJ_s | apply rpJ_n (by omega) | rfl)) ?_
          refine n_icmp_lt 109 dX12_begin_70 (by decide) (by first | ((with_reducible apply cN_lt) <;> omega) | ((with_reducible apply cI_ltn) <;> omega) | ((with_reducible apply cI_nlt) <;> omega) | (with_reducible exact cI_lt)) (fun c70 => by exfalso; first | omega | exact absurd trivial c70 | exact c70) (fun c70 => ?_)
          refine g_iload_n dX12_begin_73 rfl ?_
          refine g_iload dX12_begin_74 rfl ?_
          refine n_ishr dX12_begin_76 (nI_shr (by omega) (by omega)) ?_
          refine g_iconst (v := nI 1) dX12_begin_77 (by decide) ?_
          refine n_iand dX12_begin_78 (nI_and1 (by omega)) ?_
          refine g_iconst (v := nI 1) dX12_begin_79 (by decide) ?_
          refine n_icmp_ne 103 dX12_begin_80 (by decide) (by first | ((with_reducible apply cN_eq) <;> omega) | ((with_reducible apply cI_eqn) <;> omega) | exact Iff.rfl) (fun c80 => ?_) (fun c80 => by exfalso; first | omega | exact absurd trivial c80 | exact c80)
          refine g_iinc dX12_begin_103 rfl (by first | (with_reducible exact nI_1 _) | exact nI_1 _ | exact pk_m1 _ | rfl) (by decide) rfl ?_
          refine g_goto 51 dX12_begin_106 (by decide) ?_
          exact h4
    have h0 := lp npl 0 (by omega)
    rw [show (fun c => if wlB a wl c 0 = true then 20 else fl c) = fl by funext c; simp [wlB, anyB]] at h0
    refine g_iconst (v := nI 0) dX12_begin_48 (by decide) ?_
    refine g_istore dX12_begin_49 (by decide) rfl ?_
    exact h0
  · have e : fl2 a m wl fl = fl := by
      funext c
      unfold fl2
      rw [clk_e]
      simp [hcm]
    rw [e] at kk
    by_cases hz : npl = 0
    · subst hz
      refine g_iconst (v := nI 0) dX12_begin_48 (by decide) ?_
      refine g_istore dX12_begin_49 (by decide) rfl ?_
      refine g_iload dX12_begin_51 rfl ?_
      refine g_aload_n dX12_begin_53 rfl ?_
      refine g_getP dX12_begin_54 fdX12_7 rfl (by first | rfl | exact pv_shx) (by omega) (by omega) (by decide) rfl (hP _ _ _ rfl) ?_
      refine g_bipush (v := nI 10) dX12_begin_57 (by decide) ?_
      refine n_iald dX12_begin_59 (by first | rfl | exact pv_shx) (by omega) (by omega) (by decide) (rfl) (by omega) (by repeat (first | exact ra npl_h | exact ra clk_h | (apply rd_s; done) | apply rd_n (by omega) | apply rp_s | apply rp_n (by omega) | (apply rdL_s; done) | apply rdL_n (by omega) | apply rpJ_s | apply rpJ_n (by omega) | rfl)) ?_
      refine n_icmp_ge 109 dX12_begin_60 (by decide) (by first | ((with_reducible apply cN_le) <;> omega) | ((with_reducible apply cI_len) <;> omega) | ((with_reducible apply cI_nle) <;> omega) | (with_reducible exact cI_le)) (fun c60 => ?_) (fun c60 => by exfalso; first | omega | exact absurd trivial c60 | exact c60)
      refine g_drop (LSb s m (nI wl)) (by repeat (first | exact trivial | refine ⟨Or.inr ⟨_, rfl⟩, ?_⟩ | refine ⟨Or.inl rfl, ?_⟩)) ?_
      exact kk
    · skip
      refine g_iconst (v := nI 0) dX12_begin_48 (by decide) ?_
      refine g_istore dX12_begin_49 (by decide) rfl ?_
      refine g_iload dX12_begin_51 rfl ?_
      refine g_aload_n dX12_begin_53 rfl ?_
      refine g_getP dX12_begin_54 fdX12_7 rfl (by first | rfl | exact pv_shx) (by omega) (by omega) (by decide) rfl (hP _ _ _ rfl) ?_
      refine g_bipush (v := nI 10) dX12_begin_57 (by decide) ?_
      refine n_iald dX12_begin_59 (by first | rfl | exact pv_shx) (by omega) (by omega) (by decide) (rfl) (by omega) (by repeat (first | exact ra npl_h | exact ra clk_h | (apply rd_s; done) | apply rd_n (by omega) | apply rp_s | apply rp_n (by omega) | (apply rdL_s; done) | apply rdL_n (by omega) | apply rpJ_s | apply rpJ_n (by omega) | rfl)) ?_
      refine n_icmp_ge 109 dX12_begin_60 (by decide) (by first | ((with_reducible apply cN_le) <;> omega) | ((with_reducible apply cI_len) <;> omega) | ((with_reducible apply cI_nle) <;> omega) | (with_reducible exact cI_le)) (fun c60 => by exfalso; first | omega | exact absurd trivial c60 | exact c60) (fun c60 => ?_)
      refine g_iload_n dX12_begin_63 rfl ?_
      refine g_aload_n dX12_begin_64 rfl ?_
      refine g_getP dX12_begin_65 fdX12_7 rfl (by first | rfl | exact pv_shx) (by omega) (by omega) (by decide) rfl (hP _ _ _ rfl) ?_
      refine g_iconst (v := nI 0) dX12_begin_68 (by decide) ?_
      refine n_iald dX12_begin_69 (by first | rfl | exact pv_shx) (by omega) (by omega) (by decide) (rfl) (by omega) (by repeat (first | exact ra npl_h | exact ra clk_h | (apply rd_s; done) | apply rd_n (by omega) | apply rp_s | apply rp_n (by omega) | (apply rdL_s; done) | apply rdL_n (by omega) | apply rpJ_s | apply rpJ_n (by omega) | rfl)) ?_
      refine n_icmp_lt 109 dX12_begin_70 (by decide) (by first | ((with_reducible apply cN_lt) <;> omega) | ((with_reducible apply cI_ltn) <;> omega) | ((with_reducible apply cI_nlt) <;> omega) | (with_reducible exact cI_lt)) (fun c70 => ?_) (fun c70 => by exfalso; first | omega | exact absurd trivial c70 | exact c70)
      refine g_drop (LSb s m (nI wl)) (by repeat (first | exact trivial | refine ⟨Or.inr ⟨_, rfl⟩, ?_⟩ | refine ⟨Or.inl rfl, ?_⟩)) ?_
      exact kk
-- the state's own cell
def nw1 (a : Nat → Int32) (s m : Nat) (lf cu nw : Nat → Nat) : Nat → Nat := fun c => if cnt a (260 + 2 * s + 1) = m ∧ c = cnt a (260 + 2 * s) ∧ 0 < lf c ∧ cu c = 0 then 1 else nw c
theorem b_ign {n : Nat} {I : pvI} {J : pvJ} {P : pvP} {Z : pvZT} {a : Nat → Int32} {s m : Nat} {u3 : Int32} {gn gl gc : Nat → Int32} {nw lf cu : Nat → Nat} (hP : pvOkP P) (ha : I 203 = a) (hst : mStates n a) (hn : n ≤ 64) (hs : s < cnt a 3) (hs8 : cnt a 3 ≤ 8) (hm : m ≤ 99) (hl : I 210 = arN gl 64 lf) (hlb : ∀ c, lf c ≤ 999) (hcu : I 213 = arN gc 64 cu) (hcb : ∀ c, cu c ≤ 1)
    (kk : pvG mX12_begin (pvR 2 0 0) Z 169 (LSb s m u3) [] 0 0 224 (pvs I 208 (arN gn 64 (nw1 a s m lf cu nw))) J P) : pvG mX12_begin (pvR 2 0 0) Z 109 (LSb s m u3) [] 0 0 224 (pvs I 208 (arN gn 64 nw)) J P := by
  have ra : ∀ {i v}, a i = v → I 203 i = v := fun hv => by rw [ha]; exact hv
  obtain ⟨⟨c, c1, c2⟩, ⟨k, k1, k2⟩⟩ := hst s hs
  have c3 : cnt a (260 + 2 * s) = c := cnt_of c2 (by omega)
  have k3 : cnt a (260 + 2 * s + 1) = k := cnt_of k2 (by omega)
  have hrl : I 210 c = nI (lf c) := by rw [hl, arN_at (by omega)]
  have hrc : I 213 c = nI (cu c) := by rw [hcu, arN_at (by omega)]
  have l9 := hlb c
  have c9 := hcb c
  have hno : ¬ (k = m ∧ 0 < lf c ∧ cu c = 0) → nw1 a s m lf cu nw = nw := by
    intro hx
    funext x
    unfold nw1
    rw [c3, k3]
    rw [if_neg (fun z => hx ⟨z.1, by rw [← z.2.1]; exact z.2.2⟩)]
  have hyes : (k = m ∧ 0 < lf c ∧ cu c = 0) → nw1 a s m lf cu nw = updN nw c 1 := by
    intro hx
    funext x
    unfold nw1 updN
    rw [c3, k3]
    by_cases e : x = c
    · subst e; rw [if_pos ⟨hx.1, rfl, hx.2⟩, if_pos rfl]
    · rw [if_neg (fun z => e z.2.1), if_neg e]
  refine g_aload_n dX12_begin_109 rfl ?_
  refine g_getP dX12_begin_110 fdX12_7 rfl (by first | rfl | exact pv_shx) (by omega) (by omega) (by decide) rfl (hP _ _ _ rfl) ?_
  refine g_sipush (v := nI 260) dX12_begin_113 (by decide) ?_
  refine g_iconst (v := nI 2) dX12_begin_116 (by decide) ?_
  refine g_iload_n dX12_begin_117 rfl ?_
  refine n_imul dX12_begin_118 (by first | (with_reducible exact pk_mul _ _) | rfl) ?_
  refine n_iadd dX12_begin_119 (by first | (with_reducible exact nI_add _ _) | rfl) ?_
  refine n_iald dX12_begin_120 (by first | rfl | exact pv_shx) (by omega) (by omega) (by decide) (rfl) (by omega) (by repeat (first | exact ra c2 | exact ra k2 | exact hrl | exact hrc | (apply rd_s; done) | apply rd_n (by omega) | apply rp_s | apply rp_n (by omega) | (apply rdL_s; done) | apply rdL_n (by omega) | apply rpJ_s | apply rpJ_n (by omega) | rfl)) ?_
  refine g_istore dX12_begin_121 (by decide) rfl ?_
  refine g_aload_n dX12_begin_123 rfl ?_
  refine g_getP dX12_begin_124 fdX12_7 rfl (by first | rfl | exact pv_shx) (by omega) (by omega) (by decide) rfl (hP _ _ _ rfl) ?_
  refine g_sipush (v := nI 260) dX12_begin_127 (by decide) ?_
  refine g_iconst (v := nI 2) dX12_begin_130 (by decide) ?_
  refine g_iload_n dX12_begin_131 rfl ?_
  refine n_imul dX12_begin_132 (by first | (with_reducible exact pk_mul _ _) | rfl) ?_
  refine n_iadd dX12_begin_133 (by first | (with_reducible exact nI_add _ _) | rfl) ?_
  refine g_iconst (v := nI 1) dX12_begin_134 (by decide) ?_
  refine n_iadd dX12_begin_135 (by first | (with_reducible exact nI_add _ _) | rfl) ?_
  refine n_iald dX12_begin_136 (by first | rfl | exact pv_shx) (by omega) (by omega) (by decide) (rfl) (by omega) (by repeat (first | exact ra c2 | exact ra k2 | exact hrl | exact hrc | (apply rd_s; done) | apply rd_n (by omega) | apply rp_s | apply rp_n (by omega) | (apply rdL_s; done) | apply rdL_n (by omega) | apply rpJ_s | apply rpJ_n (by omega) | rfl)) ?_
  refine g_iload_n dX12_begin_137 rfl ?_
  refine n_icmp_ne 169 dX12_begin_138 (by decide) (by first | ((with_reducible apply cN_eq) <;> omega) | ((with_reducible apply cI_eqn) <;> omega) | exact Iff.rfl) (fun c138 => ?_) (fun c138 => ?_)
  · skip
    refine g_drop (LSb s m u3) (by repeat (first | exact trivial | refine ⟨Or.inr ⟨_, rfl⟩, ?_⟩ | refine ⟨Or.inl rfl, ?_⟩)) ?_
    first | (rw [hno (by omega)] at kk; exact kk) | (rw [hyes (by omega), ← arN_upd (by omega)] at kk; exact kk)
  · skip
    refine g_aload_n dX12_begin_141 rfl ?_
    refine g_getP dX12_begin_142 fdX12_31 rfl (by first | rfl | exact pv_shx) (by omega) (by omega) (by decide) rfl (hP _ _ _ rfl) ?_
    refine g_iload dX12_begin_145 rfl ?_
    refine n_iald dX12_begin_147 (by first | rfl | exact pv_shx) (by omega) (by omega) (by decide) (rfl) (by omega) (by repeat (first | exact ra c2 | exact ra k2 | exact hrl | exact hrc | (apply rd_s; done) | apply rd_n (by omega) | apply rp_s | apply rp_n (by omega) | (apply rdL_s; done) | apply rdL_n (by omega) | apply rpJ_s | apply rpJ_n (by omega) | rfl)) ?_
    refine n_if_le 169 dX12_begin_148 (by decide) (by first | ((with_reducible apply cN_le0) <;> omega) | (with_reducible exact cI_le0)) (fun c148 => ?_) (fun c148 => ?_)
    · skip
      refine g_drop (LSb s m u3) (by repeat (first | exact trivial | refine ⟨Or.inr ⟨_, rfl⟩, ?_⟩ | refine ⟨Or.inl rfl, ?_⟩)) ?_
      first | (rw [hno (by omega)] at kk; exact kk) | (rw [hyes (by omega), ← arN_upd (by omega)] at kk; exact kk)
    · skip
      refine g_aload_n dX12_begin_151 rfl ?_
      refine g_getP dX12_begin_152 fdX12_40 rfl (by first | rfl | exact pv_shx) (by omega) (by omega) (by decide) rfl (hP _ _ _ rfl) ?_
      refine g_iload dX12_begin_155 rfl ?_
      refine n_iald dX12_begin_157 (by first | rfl | exact pv_shx) (by omega) (by omega) (by decide) (rfl) (by omega) (by repeat (first | exact ra c2 | exact ra k2 | exact hrl | exact hrc | (apply rd_s; done) | apply rd_n (by omega) | apply rp_s | apply rp_n (by omega) | (apply rdL_s; done) | apply rdL_n (by omega) | apply rpJ_s | apply rpJ_n (by omega) | rfl)) ?_
      refine n_if_ne 169 dX12_begin_158 (by decide) (by first | (with_reducible exact cB _) | ((with_reducible apply cN_eq0) <;> omega) | exact Iff.rfl) (fun c158 => ?_) (fun c158 => ?_)
      · skip
        refine g_drop (LSb s m u3) (by repeat (first | exact trivial | refine ⟨Or.inr ⟨_, rfl⟩, ?_⟩ | refine ⟨Or.inl rfl, ?_⟩)) ?_
        first | (rw [hno (by omega)] at kk; exact kk) | (rw [hyes (by omega), ← arN_upd (by omega)] at kk; exact kk)
      · skip
        refine g_aload_n dX12_begin_161 rfl ?_
        refine g_getP dX12_begin_162 fdX12_25 rfl (by first | rfl | exact pv_shx) (by omega) (by omega) (by decide) rfl (hP _ _ _ rfl) ?_
        refine g_iload dX12_begin_165 rfl ?_
        refine g_iconst (v := nI 1) dX12_begin_167 (by decide) ?_
        refine n_iast dX12_begin_168 (by first | rfl | exact pv_shx) (by omega) (by omega) (by omega) (by decide) (rfl) (by omega) (by repeat (first | exact pvu_s | exact pvuJ_s | apply pvu_in (by omega) | apply pvuJ_in (by omega) | exact pvu_pvs | exact pvuJ_pvs)) ?_
        refine g_drop (LSb s m u3) (by repeat (first | exact trivial | refine ⟨Or.inr ⟨_, rfl⟩, ?_⟩ | refine ⟨Or.inl rfl, ?_⟩)) ?_
        first | (rw [hno (by omega)] at kk; exact kk) | (rw [hyes (by omega), ← arN_upd (by omega)] at kk; exact kk)

-- which trenches come too late: hits of this week
def hitB (w h : Nat) (a : Nat → Int32) (m : Nat) (nw : Nat → Nat) (t i : Nat) : Bool := decide (tr_w a t i = m) && (match tr_c w h a t i with
  | some x => decide (nw x ≠ 0)
  | none => false)
def ltm (w h : Nat) (a : Nat → Int32) (m : Nat) (nw : Nat → Nat) (L : Nat) : Nat → Nat
  | 0 => L
  | t + 1 => ltm w h a m nw L t ||| (if anyB (hitB w h a m nw t) (tr_n a t) = true then 2 ^ t else 0)
theorem b_late {w h : Nat} {I : pvI} {J : pvJ} {P : pvP} {Z : pvZT} {a : Nat → Int32} {s m L : Nat} {u3 : Int32} {gn gt : Nat → Int32} {nw : Nat → Nat} (hP : pvOkP P) (hD : mDim w h I) (ha : I 203 = a) (hg : mG a) (hT : mTrench w h a) (hs : s < 8) (hm : m ≤ 99) (hn : I 208 = arN gn 64 nw) (hnb : ∀ c, nw c ≤ 2)
    (kk : pvG mX12_begin (pvR 2 0 0) Z 297 (LSb s m u3) [] 0 0 224 (pvs I 216 (upd gt s (nI (ltm w h a m nw L (cnt a 2))))) J P) : pvG mX12_begin (pvR 2 0 0) Z 169 (LSb s m u3) [] 0 0 224 (pvs I 216 (upd gt s (nI L))) J P := by
  have hD' := hD
  obtain ⟨hw, hh, hw2, hh2⟩ := hD
  have hwh : 4 ≤ w * h ∧ w * h ≤ 64 := ⟨Nat.mul_le_mul hw2.1 hh2.1, Nat.mul_le_mul hw2.2 hh2.2⟩
  have hD2 : ∀ f1, mDim w h (pvs I 216 f1) := fun f1 => ⟨by rw [pvs_ne (by decide)]; exact hw, by rw [pvs_ne (by decide)]; exact hh, hw2, hh2⟩
  obtain ⟨nt, nt_b, nt_h⟩ := hg 2 (by decide)
  replace nt_b : nt ≤ 10 := nt_b
  have nt_e : cnt a 2 = nt := cnt_of nt_h (by omega)
  have ra : ∀ {i v}, a i = v → I 203 i = v := fun hv => by rw [ha]; exact hv
  have inn : ∀ t, t < nt → (pvG mX12_begin (pvR 2 0 0) Z 172 [.ref 202, .int (nI s), .int (nI m), .int u3, .retAddr 0, .int (nI (t + 1)), .retAddr 0, .retAddr 0, .retAddr 0] [] 0 0 224 (pvs I 216 (upd gt s (nI (ltm w h a m nw L (t + 1))))) J P) → ∀ q i (x : Int32), i + q = tr_n a t → (∀ y, tr_c w h a t i = some y → x = nI y) →
      pvG mX12_begin (pvR 2 0 0) Z 205 [.ref 202, .int (nI s), .int (nI m), .int u3, .retAddr 0, .int (nI t), .int (nI (210 + 5 * t)), .int x, .int (nI i)] [] 0 0 224 (pvs I 216 (upd gt s (nI (ltm w h a m nw L t ||| (if anyB (hitB w h a m nw t) i = true then 2 ^ t else 0))))) J P := by
    intro t ht hnext q
    obtain ⟨e1, e2, e3, e4, e5, h1, h2, h3, h4, h5, h6⟩ := mTr hT hwh.2 (t := t) (by omega)
    induction q with
    | zero =>
      intro i x hi hx
      obtain rfl : i = tr_n a t := by omega
      refine g_iload dX12_begin_205 rfl ?_
      refine g_aload_n dX12_begin_207 rfl ?_
      refine g_getP dX12_begin_208 fdX12_7 rfl (by first | rfl | exact pv_shx) (by omega) (by omega) (by decide) rfl (hP _ _ _ rfl) ?_
      refine g_iload dX12_begin_211 rfl ?_
      refine g_iconst (v := nI 2) dX12_begin_213 (by decide) ?_
      refine n_iadd dX12_begin_214 (by first | (with_reducible exact nI_add _ _) | rfl) ?_
      refine n_iald dX12_begin_215 (by first | rfl | exact pv_shx) (by omega) (by omega) (by decide) (rfl) (by omega) (by repeat (first | exact ra e3 | (apply rd_s; done) | apply rd_n (by omega) | apply rp_s | apply rp_n (by omega) | (apply rdL_s; done) | apply rdL_n (by omega) | apply rpJ_s | apply rpJ_n (by omega) | rfl)) ?_
      refine n_icmp_ge 291 dX12_begin_216 (by decide) (by first | ((with_reducible apply cN_le) <;> omega) | ((with_reducible apply cI_len) <;> omega) | ((with_reducible apply cI_nle) <;> omega) | (with_reducible exact cI_le)) (fun c216 => ?_) (fun c216 => by exfalso; first | omega | exact absurd trivial c216 | exact c216)
      refine g_iinc dX12_begin_291 rfl (by first | (with_reducible exact nI_1 _) | exact nI_1 _ | exact pk_m1 _ | rfl) (by decide) rfl ?_
      refine g_goto 172 dX12_begin_294 (by decide) ?_
      refine g_drop [.ref 202, .int (nI s), .int (nI m), .int u3, .retAddr 0, .int (nI (t + 1)), .retAddr 0, .retAddr 0, .retAddr 0] (by repeat (first | exact trivial | refine ⟨Or.inr ⟨_, rfl⟩, ?_⟩ | refine ⟨Or.inl rfl, ?_⟩)) ?_
      exact hnext
    | succ q ih =>
      intro i x hi hx
      obtain ⟨y, hy⟩ := tr_c_some h6 (i := i) (by omega)
      obtain rfl := hx y hy
      have hyl : y < w * h := sp_go_lt (by omega) h1 hy
      have hnx : ∀ z, tr_c w h a t (i + 1) = some z → sp_nbI w h y (cnt a (210 + 5 * t + 1)) = nI z := by
        intro z hz
        have : (tr_c w h a t i).bind (fun x => sp_nb w h x (cnt a (210 + 5 * t + 1))) = some z := hz
        rw [hy] at this
        have this : sp_nb w h y (cnt a (210 + 5 * t + 1)) = some z := this
        rw [sp_nbI, this]
      have hdv : i / cnt a (210 + 5 * t + 3) ≤ i := Nat.div_le_self _ _
      have h4' := ih (i + 1) (sp_nbI w h y (cnt a (210 + 5 * t + 1))) (by omega) hnx
      have hrn : I 208 y = nI (nw y) := by rw [hn, arN_at (by omega)]
      have n2 := hnb y
      have hs1 : anyB (hitB w h a m nw t) (i + 1) = (anyB (hitB w h a m nw t) i || hitB w h a m nw t i) := rfl
      have hh1 : hitB w h a m nw t i = (decide (tr_w a t i = m) && decide (nw y ≠ 0)) := by unfold hitB; rw [hy]
      by_cases hwm : tr_w a t i = m ∧ nw y ≠ 0
      · have e : (ltm w h a m nw L t ||| (if anyB (hitB w h a m nw t) (i + 1) = true then 2 ^ t else 0)) = (ltm w h a m nw L t ||| (if anyB (hitB w h a m nw t) i = true then 2 ^ t else 0)) ||| 2 ^ t := by
          rw [hs1, hh1, Nat.or_assoc]
          congr 1
          by_cases z : anyB (hitB w h a m nw t) i = true <;> simp [z, hwm]
        rw [e] at h4'
        obtain ⟨hwm, hny⟩ := hwm
        unfold tr_w at hwm
        refine g_iload dX12_begin_205 rfl ?_
        refine g_aload_n dX12_begin_207 rfl ?_
        refine g_getP dX12_begin_208 fdX12_7 rfl (by first | rfl | exact pv_shx) (by omega) (by omega) (by decide) rfl (hP _ _ _ rfl) ?_
        refine g_iload dX12_begin_211 rfl ?_
        refine g_iconst (v := nI 2) dX12_begin_213 (by decide) ?_
        refine n_iadd dX12_begin_214 (by first | (with_reducible exact nI_add _ _) | rfl) ?_
        refine n_iald dX12_begin_215 (by first | rfl | exact pv_shx) (by omega) (by omega) (by decide) (rfl) (by omega) (by repeat (first | exact ra e3 | exact ra e4 | exact ra e5 | exact ra e2 | exact hrn | (apply rd_s; done) | apply rd_n (by omega) | apply rp_s | apply rp_n (by omega) | (apply rdL_s; done) | apply rdL_n (by omega) | apply rpJ_s | apply rpJ_n (by omega) | rfl)) ?_
        refine n_icmp_ge 291 dX12_begin_216 (by decide) (by first | ((with_reducible apply cN_le) <;> omega) | ((with_reducible apply cI_len) <;> omega) | ((with_reducible apply cI_nle) <;> omega) | (with_reducible exact cI_le)) (fun c216 => by exfalso; first | omega | exact absurd trivial c216 | exact c216) (fun c216 => ?_)
        refine g_aload_n dX12_begin_219 rfl ?_
        refine g_getP dX12_begin_220 fdX12_7 rfl (by first | rfl | exact pv_shx) (by omega) (by omega) (by decide) rfl (hP _ _ _ rfl) ?_
        refine g_iload dX12_begin_223 rfl ?_
        refine g_iconst (v := nI 4) dX12_begin_225 (by decide) ?_
        refine n_iadd dX12_begin_226 (by first | (with_reducible exact nI_add _ _) | rfl) ?_
        refine n_iald dX12_begin_227 (by first | rfl | exact pv_shx) (by omega) (by omega) (by decide) (rfl) (by omega) (by repeat (first | exact ra e3 | exact ra e4 | exact ra e5 | exact ra e2 | exact hrn | (apply rd_s; done) | apply rd_n (by omega) | apply rp_s | apply rp_n (by omega) | (apply rdL_s; done) | apply rdL_n (by omega) | apply rpJ_s | apply rpJ_n (by omega) | rfl)) ?_
        refine g_iload dX12_begin_228 rfl ?_
        refine g_aload_n dX12_begin_230 rfl ?_
        refine g_getP dX12_begin_231 fdX12_7 rfl (by first | rfl | exact pv_shx) (by omega) (by omega) (by decide) rfl (hP _ _ _ rfl) ?_
        refine g_iload dX12_begin_234 rfl ?_
        refine g_iconst (v := nI 3) dX12_begin_236 (by decide) ?_
        refine n_iadd dX12_begin_237 (by first | (with_reducible exact nI_add _ _) | rfl) ?_
        refine n_iald dX12_begin_238 (by first | rfl | exact pv_shx) (by omega) (by omega) (by decide) (rfl) (by omega) (by repeat (first | exact ra e3 | exact ra e4 | exact ra e5 | exact ra e2 | exact hrn | (apply rd_s; done) | apply rd_n (by omega) | apply rp_s | apply rp_n (by omega) | (apply rdL_s; done) | apply rdL_n (by omega) | apply rpJ_s | apply rpJ_n (by omega) | rfl)) ?_
        refine n_idiv dX12_begin_239 (by first | decide | ((with_reducible apply nI_ne0) <;> omega)) (by first | ((with_reducible apply pk_div) <;> omega) | rfl) ?_
        refine n_iadd dX12_begin_240 (by first | (with_reducible exact nI_add _ _) | rfl) ?_
        refine g_iload_n dX12_begin_241 rfl ?_
        refine n_icmp_ne 268 dX12_begin_242 (by decide) (by first | ((with_reducible apply cN_eq) <;> omega) | ((with_reducible apply cI_eqn) <;> omega) | exact Iff.rfl) (fun c242 => by exfalso; first | omega | exact absurd trivial c242 | exact c242) (fun c242 => ?_)
        refine g_aload_n dX12_begin_245 rfl ?_
        refine g_getP dX12_begin_246 fdX12_25 rfl (by first | rfl | exact pv_shx) (by omega) (by omega) (by decide) rfl (hP _ _ _ rfl) ?_
        refine g_iload dX12_begin_249 rfl ?_
        refine n_iald dX12_begin_251 (by first | rfl | exact pv_shx) (by omega) (by omega) (by decide) (rfl) (by omega) (by repeat (first | exact ra e3 | exact ra e4 | exact ra e5 | exact ra e2 | exact hrn | (apply rd_s; done) | apply rd_n (by omega) | apply rp_s | apply rp_n (by omega) | (apply rdL_s; done) | apply rdL_n (by omega) | apply rpJ_s | apply rpJ_n (by omega) | rfl)) ?_
        refine n_if_eq 268 dX12_begin_252 (by decide) (by first | (with_reducible exact cB _) | ((with_reducible apply cN_eq0) <;> omega) | exact Iff.rfl) (fun c252 => by exfalso; first | omega | exact absurd trivial c252 | exact c252) (fun c252 => ?_)
        refine g_aload_n dX12_begin_255 rfl ?_
        refine g_getP dX12_begin_256 fdX12_51 rfl (by first | rfl | exact pv_shx) (by omega) (by omega) (by decide) rfl (hP _ _ _ rfl) ?_
        refine g_iload_n dX12_begin_259 rfl ?_
        refine g_dup2 dX12_begin_260 rfl rfl ?_
        refine n_iald dX12_begin_261 (by first | rfl | exact pv_shx) (by omega) (by omega) (by decide) (rfl) (by omega) (by repeat (first | exact ra e3 | exact ra e4 | exact ra e5 | exact ra e2 | exact hrn | (apply rd_s; done) | apply rd_n (by omega) | apply rp_s | apply rp_n (by omega) | (apply rdL_s; done) | apply rdL_n (by omega) | apply rpJ_s | apply rpJ_n (by omega) | rfl)) ?_
        refine g_iconst (v := nI 1) dX12_begin_262 (by decide) ?_
        refine g_iload dX12_begin_263 rfl ?_
        refine n_ishl dX12_begin_265 (nI_shl1 (by omega)) ?_
        refine n_ior dX12_begin_266 (nI_or _ _) ?_
        refine n_iast dX12_begin_267 (by first | rfl | exact pv_shx) (by omega) (by omega) (by omega) (by decide) (rfl) (by omega) (pvu_s.trans (by rw [fa_upd_twice2])) ?_
        refine g_aload_n dX12_begin_268 rfl ?_
        refine g_iload dX12_begin_269 rfl ?_
        refine g_aload_n dX12_begin_271 rfl ?_
        refine g_getP dX12_begin_272 fdX12_7 rfl (by first | rfl | exact pv_shx) (by omega) (by omega) (by decide) rfl (hP _ _ _ rfl) ?_
        refine g_iload dX12_begin_275 rfl ?_
        refine g_iconst (v := nI 1) dX12_begin_277 (by decide) ?_
        refine n_iadd dX12_begin_278 (by first | (with_reducible exact nI_add _ _) | rfl) ?_
        refine n_iald dX12_begin_279 (by first | rfl | exact pv_shx) (by omega) (by omega) (by decide) (rfl) (by omega) (by repeat (first | exact ra e3 | exact ra e4 | exact ra e5 | exact ra e2 | exact hrn | (apply rd_s; done) | apply rd_n (by omega) | apply rp_s | apply rp_n (by omega) | (apply rdL_s; done) | apply rdL_n (by omega) | apply rpJ_s | apply rpJ_n (by omega) | rfl)) ?_
        refine p_callV (t_beside (hD2 _) hyl h2) okX12_beside lkX12_111 rfl (by first | rfl | exact pv_shx) rfl (by omega) (by omega) dX12_begin_280 rfl (Nat.le_of_ble_eq_true rfl) (⟨by decide, by decide, by decide, by decide⟩) ?_
        refine g_istore dX12_begin_283 (by decide) rfl ?_
        refine g_iinc dX12_begin_285 rfl (by first | (with_reducible exact nI_1 _) | exact nI_1 _ | exact pk_m1 _ | rfl) (by decide) rfl ?_
        refine g_goto 205 dX12_begin_288 (by decide) ?_
        exact h4'
      · have e : anyB (hitB w h a m nw t) (i + 1) = anyB (hitB w h a m nw t) i := by
          rw [hs1, hh1]
          by_cases z1 : tr_w a t i = m
          · by_cases z2 : nw y ≠ 0
            · exact absurd ⟨z1, z2⟩ hwm
            · simp [z2]
          · simp [z1]
        rw [e] at h4'
        by_cases hwm2 : tr_w a t i = m
        · have hny : nw y = 0 := by
            rcases Nat.eq_zero_or_pos (nw y) with z | z
            · exact z
            · exact absurd ⟨hwm2, by omega⟩ hwm
          unfold tr_w at hwm2
          refine g_iload dX12_begin_205 rfl ?_
          refine g_aload_n dX12_begin_207 rfl ?_
          refine g_getP dX12_begin_208 fdX12_7 rfl (by first | rfl | exact pv_shx) (by omega) (by omega) (by decide) rfl (hP _ _ _ rfl) ?_
          refine g_iload dX12_begin_211 rfl ?_
          refine g_iconst (v := nI 2) dX12_begin_213 (by decide) ?_
          refine n_iadd dX12_begin_214 (by first | (with_reducible exact nI_add _ _) | rfl) ?_
          refine n_iald dX12_begin_215 (by first | rfl | exact pv_shx) (by omega) (by omega) (by decide) (rfl) (by omega) (by repeat (first | exact ra e3 | exact ra e4 | exact ra e5 | exact ra e2 | exact hrn | (apply rd_s; done) | apply rd_n (by omega) | apply rp_s | apply rp_n (by omega) | (apply rdL_s; done) | apply rdL_n (by omega) | apply rpJ_s | apply rpJ_n (by omega) | rfl)) ?_
          refine n_icmp_ge 291 dX12_begin_216 (by decide) (by first | ((with_reducible apply cN_le) <;> omega) | ((with_reducible apply cI_len) <;> omega) | ((with_reducible apply cI_nle) <;> omega) | (with_reducible exact cI_le)) (fun c216 => by exfalso; first | omega | exact absurd trivial c216 | exact c216) (fun c216 => ?_)
          refine g_aload_n dX12_begin_219 rfl ?_
          refine g_getP dX12_begin_220 fdX12_7 rfl (by first | rfl | exact pv_shx) (by omega) (by omega) (by decide) rfl (hP _ _ _ rfl) ?_
          refine g_iload dX12_begin_223 rfl ?_
          refine g_iconst (v := nI 4) dX12_begin_225 (by decide) ?_
          refine n_iadd dX12_begin_226 (by first | (with_reducible exact nI_add _ _) | rfl) ?_
          refine n_iald dX12_begin_227 (by first | rfl | exact pv_shx) (by omega) (by omega) (by decide) (rfl) (by omega) (by repeat (first | exact ra e3 | exact ra e4 | exact ra e5 | exact ra e2 | exact hrn | (apply rd_s; done) | apply rd_n (by omega) | apply rp_s | apply rp_n (by omega) | (apply rdL_s; done) | apply rdL_n (by omega) | apply rpJ_s | apply rpJ_n (by omega) | rfl)) ?_
          refine g_iload dX12_begin_228 rfl ?_
          refine g_aload_n dX12_begin_230 rfl ?_
          refine g_getP dX12_begin_231 fdX12_7 rfl (by first | rfl | exact pv_shx) (by omega) (by omega) (by decide) rfl (hP _ _ _ rfl) ?_
          refine g_iload dX12_begin_234 rfl ?_
          refine g_iconst (v := nI 3) dX12_begin_236 (by decide) ?_
          refine n_iadd dX12_begin_237 (by first | (with_reducible exact nI_add _ _) | rfl) ?_
          refine n_iald dX12_begin_238 (by first | rfl | exact pv_shx) (by omega) (by omega) (by decide) (rfl) (by omega) (by repeat (first | exact ra e3 | exact ra e4 | exact ra e5 | exact ra e2 | exact hrn | (apply rd_s; done) | apply rd_n (by omega) | apply rp_s | apply rp_n (by omega) | (apply rdL_s; done) | apply rdL_n (by omega) | apply rpJ_s | apply rpJ_n (by omega) | rfl)) ?_
          refine n_idiv dX12_begin_239 (by first | decide | ((with_reducible apply nI_ne0) <;> omega)) (by first | ((with_reducible apply pk_div) <;> omega) | rfl) ?_
          refine n_iadd dX12_begin_240 (by first | (with_reducible exact nI_add _ _) | rfl) ?_
          refine g_iload_n dX12_begin_241 rfl ?_
          refine n_icmp_ne 268 dX12_begin_242 (by decide) (by first | ((with_reducible apply cN_eq) <;> omega) | ((with_reducible apply cI_eqn) <;> omega) | exact Iff.rfl) (fun c242 => by exfalso; first | omega | exact absurd trivial c242 | exact c242) (fun c242 => ?_)
          refine g_aload_n dX12_begin_245 rfl ?_
          refine g_getP dX12_begin_246 fdX12_25 rfl (by first | rfl | exact pv_shx) (by omega) (by omega) (by decide) rfl (hP _ _ _ rfl) ?_
          refine g_iload dX12_begin_249 rfl ?_
          refine n_iald dX12_begin_251 (by first | rfl | exact pv_shx) (by omega) (by omega) (by decide) (rfl) (by omega) (by repeat (first | exact ra e3 | exact ra e4 | exact ra e5 | exact ra e2 | exact hrn | (apply rd_s; done) | apply rd_n (by omega) | apply rp_s | apply rp_n (by omega) | (apply rdL_s; done) | apply rdL_n (by omega) | apply rpJ_s | apply rpJ_n (by omega) | rfl)) ?_
          refine n_if_eq 268 dX12_begin_252 (by decide) (by first | (with_reducible exact cB _) | ((with_reducible apply cN_eq0) <;> omega) | exact Iff.rfl) (fun c252 => ?_) (fun c252 => by exfalso; first | omega | exact absurd trivial c252 | exact c252)
          refine g_aload_n dX12_begin_268 rfl ?_
          refine g_iload dX12_begin_269 rfl ?_
          refine g_aload_n dX12_begin_271 rfl ?_
          refine g_getP dX12_begin_272 fdX12_7 rfl (by first | rfl | exact pv_shx) (by omega) (by omega) (by decide) rfl (hP _ _ _ rfl) ?_
          refine g_iload dX12_begin_275 rfl ?_
          refine g_iconst (v := nI 1) dX12_begin_277 (by decide) ?_
          refine n_iadd dX12_begin_278 (by first | (with_reducible exact nI_add _ _) | rfl) ?_
          refine n_iald dX12_begin_279 (by first | rfl | exact pv_shx) (by omega) (by omega) (by decide) (rfl) (by omega) (by repeat (first | exact ra e3 | exact ra e4 | exact ra e5 | exact ra e2 | exact hrn | (apply rd_s; done) | apply rd_n (by omega) | apply rp_s | apply rp_n (by omega) | (apply rdL_s; done) | apply rdL_n (by omega) | apply rpJ_s | apply rpJ_n (by omega) | rfl)) ?_
          refine p_callV (t_beside (hD2 _) hyl h2) okX12_beside lkX12_111 rfl (by first | rfl | exact pv_shx) rfl (by omega) (by omega) dX12_begin_280 rfl (Nat.le_of_ble_eq_true rfl) (⟨by decide, by decide, by decide, by decide⟩) ?_
          refine g_istore dX12_begin_283 (by decide) rfl ?_
          refine g_iinc dX12_begin_285 rfl (by first | (with_reducible exact nI_1 _) | exact nI_1 _ | exact pk_m1 _ | rfl) (by decide) rfl ?_
          refine g_goto 205 dX12_begin_288 (by decide) ?_
          exact h4'
        · unfold tr_w at hwm2
          refine g_iload dX12_begin_205 rfl ?_
          refine g_aload_n dX12_begin_207 rfl ?_
          refine g_getP dX12_begin_208 fdX12_7 rfl (by first | rfl | exact pv_shx) (by omega) (by omega) (by decide) rfl (hP _ _ _ rfl) ?_
          refine g_iload dX12_begin_211 rfl ?_
          refine g_iconst (v := nI 2) dX12_begin_213 (by decide) ?_
          refine n_iadd dX12_begin_214 (by first | (with_reducible exact nI_add _ _) | rfl) ?_
          refine n_iald dX12_begin_215 (by first | rfl | exact pv_shx) (by omega) (by omega) (by decide) (rfl) (by omega) (by repeat (first | exact ra e3 | exact ra e4 | exact ra e5 | exact ra e2 | exact hrn | (apply rd_s; done) | apply rd_n (by omega) | apply rp_s | apply rp_n (by omega) | (apply rdL_s; done) | apply rdL_n (by omega) | apply rpJ_s | apply rpJ_n (by omega) | rfl)) ?_
          refine n_icmp_ge 291 dX12_begin_216 (by decide) (by first | ((with_reducible apply cN_le) <;> omega) | ((with_reducible apply cI_len) <;> omega) | ((with_reducible apply cI_nle) <;> omega) | (with_reducible exact cI_le)) (fun c216 => by exfalso; first | omega | exact absurd trivial c216 | exact c216) (fun c216 => ?_)
          refine g_aload_n dX12_begin_219 rfl ?_
          refine g_getP dX12_begin_220 fdX12_7 rfl (by first | rfl | exact pv_shx) (by omega) (by omega) (by decide) rfl (hP _ _ _ rfl) ?_
          refine g_iload dX12_begin_223 rfl ?_
          refine g_iconst (v := nI 4) dX12_begin_225 (by decide) ?_
          refine n_iadd dX12_begin_226 (by first | (with_reducible exact nI_add _ _) | rfl) ?_
          refine n_iald dX12_begin_227 (by first | rfl | exact pv_shx) (by omega) (by omega) (by decide) (rfl) (by omega) (by repeat (first | exact ra e3 | exact ra e4 | exact ra e5 | exact ra e2 | exact hrn | (apply rd_s; done) | apply rd_n (by omega) | apply rp_s | apply rp_n (by omega) | (apply rdL_s; done) | apply rdL_n (by omega) | apply rpJ_s | apply rpJ_n (by omega) | rfl)) ?_
          refine g_iload dX12_begin_228 rfl ?_
          refine g_aload_n dX12_begin_230 rfl ?_
          refine g_getP dX12_begin_231 fdX12_7 rfl (by first | rfl | exact pv_shx) (by omega) (by omega) (by decide) rfl (hP _ _ _ rfl) ?_
          refine g_iload dX12_begin_234 rfl ?_
          refine g_iconst (v := nI 3) dX12_begin_236 (by decide) ?_
          refine n_iadd dX12_begin_237 (by first | (with_reducible exact nI_add _ _) | rfl) ?_
          refine n_iald dX12_begin_238 (by first | rfl | exact pv_shx) (by omega) (by omega) (by decide) (rfl) (by omega) (by repeat (first | exact ra e3 | exact ra e4 | exact ra e5 | exact ra e2 | exact hrn | (apply rd_s; done) | apply rd_n (by omega) | apply rp_s | apply rp_n (by omega) | (apply rdL_s; done) | apply rdL_n (by omega) | apply rpJ_s | apply rpJ_n (by omega) | rfl)) ?_
          refine n_idiv dX12_begin_239 (by first | decide | ((with_reducible apply nI_ne0) <;> omega)) (by first | ((with_reducible apply pk_div) <;> omega) | rfl) ?_
          refine n_iadd dX12_begin_240 (by first | (with_reducible exact nI_add _ _) | rfl) ?_
          refine g_iload_n dX12_begin_241 rfl ?_
          refine n_icmp_ne 268 dX12_begin_242 (by decide) (by first | ((with_reducible apply cN_eq) <;> omega) | ((with_reducible apply cI_eqn) <;> omega) | exact Iff.rfl) (fun c242 => ?_) (fun c242 => by exfalso; first | omega | exact absurd trivial c242 | exact c242)
          refine g_aload_n dX12_begin_268 rfl ?_
          refine g_iload dX12_begin_269 rfl ?_
          refine g_aload_n dX12_begin_271 rfl ?_
          refine g_getP dX12_begin_272 fdX12_7 rfl (by first | rfl | exact pv_shx) (by omega) (by omega) (by decide) rfl (hP _ _ _ rfl) ?_
          refine g_iload dX12_begin_275 rfl ?_
          refine g_iconst (v := nI 1) dX12_begin_277 (by decide) ?_
          refine n_iadd dX12_begin_278 (by first | (with_reducible exact nI_add _ _) | rfl) ?_
          refine n_iald dX12_begin_279 (by first | rfl | exact pv_shx) (by omega) (by omega) (by decide) (rfl) (by omega) (by repeat (first | exact ra e3 | exact ra e4 | exact ra e5 | exact ra e2 | exact hrn | (apply rd_s; done) | apply rd_n (by omega) | apply rp_s | apply rp_n (by omega) | (apply rdL_s; done) | apply rdL_n (by omega) | apply rpJ_s | apply rpJ_n (by omega) | rfl)) ?_
          refine p_callV (t_beside (hD2 _) hyl h2) okX12_beside lkX12_111 rfl (by first | rfl | exact pv_shx) rfl (by omega) (by omega) dX12_begin_280 rfl (Nat.le_of_ble_eq_true rfl) (⟨by decide, by decide, by decide, by decide⟩) ?_
          refine g_istore dX12_begin_283 (by decide) rfl ?_
          refine g_iinc dX12_begin_285 rfl (by first | (with_reducible exact nI_1 _) | exact nI_1 _ | exact pk_m1 _ | rfl) (by decide) rfl ?_
          refine g_goto 205 dX12_begin_288 (by decide) ?_
          exact h4'
  have out : ∀ q t, t + q = nt → pvG mX12_begin (pvR 2 0 0) Z 172 [.ref 202, .int (nI s), .int (nI m), .int u3, .retAddr 0, .int (nI t), .retAddr 0, .retAddr 0, .retAddr 0] [] 0 0 224 (pvs I 216 (upd gt s (nI (ltm w h a m nw L t)))) J P := by
    intro q
    induction q with
    | zero =>
      intro t ht
      obtain rfl : t = cnt a 2 := by omega
      refine g_iload dX12_begin_172 rfl ?_
      refine g_aload_n dX12_begin_174 rfl ?_
      refine g_getP dX12_begin_175 fdX12_7 rfl (by first | rfl | exact pv_shx) (by omega) (by omega) (by decide) rfl (hP _ _ _ rfl) ?_
      refine g_iconst (v := nI 2) dX12_begin_178 (by decide) ?_
      refine n_iald dX12_begin_179 (by first | rfl | exact pv_shx) (by omega) (by omega) (by decide) (rfl) (by omega) (by repeat (first | exact ra nt_h | (apply rd_s; done) | apply rd_n (by omega) | apply rp_s | apply rp_n (by omega) | (apply rdL_s; done) | apply rdL_n (by omega) | apply rpJ_s | apply rpJ_n (by omega) | rfl)) ?_
      refine n_icmp_ge 297 dX12_begin_180 (by decide) (by first | ((with_reducible apply cN_le) <;> omega) | ((with_reducible apply cI_len) <;> omega) | ((with_reducible apply cI_nle) <;> omega) | (with_reducible exact cI_le)) (fun c180 => ?_) (fun c180 => by exfalso; first | omega | exact absurd trivial c180 | exact c180)
      refine g_drop (LSb s m u3) (by repeat (first | exact trivial | refine ⟨Or.inr ⟨_, rfl⟩, ?_⟩ | refine ⟨Or.inl rfl, ?_⟩)) ?_
      exact kk
    | succ q ih =>
      intro t ht
      obtain ⟨e1, e2, e3, e4, e5, h1, h2, h3, h4, h5, h6⟩ := mTr hT hwh.2 (t := t) (by omega)
      have h0 := inn t (by omega) (ih (t + 1) (by omega)) (tr_n a t) 0 (nI (cnt a (210 + 5 * t))) (by omega) (fun y hy => by cases hy; rfl)
      rw [show anyB (hitB w h a m nw t) 0 = false from rfl, if_neg (by decide), Nat.or_zero] at h0
      refine g_iload dX12_begin_172 rfl ?_
      refine g_aload_n dX12_begin_174 rfl ?_
      refine g_getP dX12_begin_175 fdX12_7 rfl (by first | rfl | exact pv_shx) (by omega) (by omega) (by decide) rfl (hP _ _ _ rfl) ?_
      refine g_iconst (v := nI 2) dX12_begin_178 (by decide) ?_
      refine n_iald dX12_begin_179 (by first | rfl | exact pv_shx) (by omega) (by omega) (by decide) (rfl) (by omega) (by repeat (first | exact ra nt_h | exact ra e1 | (apply rd_s; done) | apply rd_n (by omega) | apply rp_s | apply rp_n (by omega) | (apply rdL_s; done) | apply rdL_n (by omega) | apply rpJ_s | apply rpJ_n (by omega) | rfl)) ?_
      refine n_icmp_ge 297 dX12_begin_180 (by decide) (by first | ((with_reducible apply cN_le) <;> omega) | ((with_reducible apply cI_len) <;> omega) | ((with_reducible apply cI_nle) <;> omega) | (with_reducible exact cI_le)) (fun c180 => by exfalso; first | omega | exact absurd trivial c180 | exact c180) (fun c180 => ?_)
      refine g_sipush (v := nI 210) dX12_begin_183 (by decide) ?_
      refine g_iconst (v := nI 5) dX12_begin_186 (by decide) ?_
      refine g_iload dX12_begin_187 rfl ?_
      refine n_imul dX12_begin_189 (by first | (with_reducible exact pk_mul _ _) | rfl) ?_
      refine n_iadd dX12_begin_190 (by first | (with_reducible exact nI_add _ _) | rfl) ?_
      refine g_istore dX12_begin_191 (by decide) rfl ?_
      refine g_aload_n dX12_begin_193 rfl ?_
      refine g_getP dX12_begin_194 fdX12_7 rfl (by first | rfl | exact pv_shx) (by omega) (by omega) (by decide) rfl (hP _ _ _ rfl) ?_
      refine g_iload dX12_begin_197 rfl ?_
      refine n_iald dX12_begin_199 (by first | rfl | exact pv_shx) (by omega) (by omega) (by decide) (rfl) (by omega) (by repeat (first | exact ra nt_h | exact ra e1 | (apply rd_s; done) | apply rd_n (by omega) | apply rp_s | apply rp_n (by omega) | (apply rdL_s; done) | apply rdL_n (by omega) | apply rpJ_s | apply rpJ_n (by omega) | rfl)) ?_
      refine g_istore dX12_begin_200 (by decide) rfl ?_
      refine g_iconst (v := nI 0) dX12_begin_202 (by decide) ?_
      refine g_istore dX12_begin_203 (by decide) rfl ?_
      exact h0
  refine g_iconst (v := nI 0) dX12_begin_169 (by decide) ?_
  refine g_istore dX12_begin_170 (by decide) rfl ?_
  exact out nt 0 (by omega)
