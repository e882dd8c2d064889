/-! class: the grid and a world are made -/
theorem Pm {c y x w : Nat} (hx : x < w) (h : c = y * w + x) : c % w = x ∧ c / w = y := by
  subst h
  have hw : 0 < w := by omega
  constructor
  · rw [Nat.mul_comm, Nat.mul_add_mod, Nat.mod_eq_of_lt hx]
  · rw [Nat.mul_comm, Nat.mul_add_div hw, Nat.div_eq_of_lt hx, Nat.add_zero]
section GRD
variable {b w h : Nat} {I : pvI} {J : pvJ} {P : pvP}
def cA' (w n : Nat) : Nat → Bool := fun c => decide (c < n)
def cF' (w y : Nat) : Nat → Bool := fun c => decide (c < y * w ∧ c % w = 0)
def cL' (w y : Nat) : Nat → Bool := fun c => decide (c < y * w ∧ c % w + 1 = w)
theorem col_lt {c y w : Nat} (hw : 0 < w) : c < (y + 1) * w ↔ (c < y * w ∨ (c / w = y)) := by
  rw [Nat.add_mul, Nat.one_mul]
  constructor
  · intro z
    by_cases z2 : c < y * w
    · exact Or.inl z2
    · right
      have h1 : c = y * w + (c - y * w) := by omega
      exact (Pm (by omega) h1).2
  · rintro (z | z)
    · omega
    · have h1 := Nat.div_add_mod c w
      have h2 := Nat.mod_lt c hw
      rw [z, Nat.mul_comm] at h1
      omega
theorem cF_s {y w : Nat} (hw : 2 ≤ w) (hy : (y + 1) * w ≤ 64) : mk (cF' w y) ||| mk (fun c => decide (c = y * w)) = mk (cF' w (y + 1)) := mk_or.trans (mk_cong (fun c _ => by
  unfold cF'
  rw [← Bool.decide_or]
  apply decide_eq_decide.mpr
  have key := col_lt (c := c) (y := y) (w := w) (by omega)
  constructor
  · rintro (⟨z1, z2⟩ | z)
    · exact ⟨key.mpr (Or.inl z1), z2⟩
    · have := Pm (c := c) (y := y) (x := 0) (w := w) (by omega) (by omega)
      exact ⟨key.mpr (Or.inr this.2), this.1⟩
  · rintro ⟨z1, z2⟩
    rcases key.mp z1 with z | z
    · exact Or.inl ⟨z, z2⟩
    · right
      have h1 := Nat.div_add_mod c w
      rw [z, z2, Nat.mul_comm] at h1
      omega))
theorem cL_s {y w : Nat} (hw : 2 ≤ w) (hy : (y + 1) * w ≤ 64) : mk (cL' w y) ||| mk (fun c => decide (c = y * w + w - 1)) = mk (cL' w (y + 1)) := mk_or.trans (mk_cong (fun c _ => by
  unfold cL'
  rw [← Bool.decide_or]
  apply decide_eq_decide.mpr
  have key := col_lt (c := c) (y := y) (w := w) (by omega)
  constructor
  · rintro (⟨z1, z2⟩ | z)
    · exact ⟨key.mpr (Or.inl z1), z2⟩
    · have := Pm (c := c) (y := y) (x := w - 1) (w := w) (by omega) (by omega)
      exact ⟨key.mpr (Or.inr this.2), by omega⟩
  · rintro ⟨z1, z2⟩
    rcases key.mp z1 with z | z
    · exact Or.inl ⟨z, z2⟩
    · right
      have h1 := Nat.div_add_mod c w
      rw [z, Nat.mul_comm] at h1
      omega))
theorem cA_s {w n : Nat} (hn : n < 64) : mk (cA' w n) ||| mk (fun c => decide (c = n)) = mk (cA' w (n + 1)) := mk_or.trans (mk_cong (fun c _ => by
  unfold cA'
  rw [← Bool.decide_or]
  apply decide_eq_decide.mpr
  omega))
def grQn (w h : Nat) (I : pvI) (J : pvJ) (P : pvP) : pvQT := fun v nx' I' J' P' => v = none ∧ nx' = 2 ∧ P' = P ∧ (∀ x, x ≠ 2 → I' x = I x ∧ J' x = J x) ∧ I' 2 0 = nI w ∧ I' 2 1 = nI h ∧ I' 2 2 = nI (w * h) ∧ J' 2 3 = mk (fun c => decide (c < w * h)) ∧ J' 2 4 = mk (fun c => decide (c < w * h ∧ 0 < c % w)) ∧ J' 2 5 = mk (fun c => decide (c < w * h ∧ c % w + 1 < w))
theorem n_grid (hw : 2 ≤ w ∧ w ≤ 8) (hh : 2 ≤ h ∧ h ≤ 8) : pvMet mX2_init 1 0 0 [.ref 2, .int (nI w), .int (nI h)] 2 I J P (grQn w h I J P) := by
  have hwh : w * h ≤ 64 := Nat.mul_le_mul hw.2 hh.2
  have hle : ∀ y, y ≤ h → y * w ≤ 64 := fun y hy => Nat.le_trans (Nat.mul_le_mul hy (Nat.le_refl w)) (by rw [Nat.mul_comm]; exact hwh)
  generalize hI1 : pvs I 2 (upd (upd (upd (I 2) 0 (nI w)) 1 (nI h)) 2 (nI (w * h))) = I1
  have inn : ∀ y, y < h → ∀ Z, pvG mX2_init (pvR 1 0 0) Z 65 [.ref 2, .int (nI w), .int (nI h), .long (mk (cA' w (y * w + w))), .retAddr 0, .long (mk (cF' w y)), .retAddr 0, .long (mk (cL' w y)), .retAddr 0, .int (nI y), .retAddr 0] [] 0 0 2 I1 J P → ∀ q x, x + q = w → pvG mX2_init (pvR 1 0 0) Z 41 [.ref 2, .int (nI w), .int (nI h), .long (mk (cA' w (y * w + x))), .retAddr 0, .long (mk (cF' w y)), .retAddr 0, .long (mk (cL' w y)), .retAddr 0, .int (nI y), .int (nI x)] [] 0 0 2 I1 J P := by
    intro y hy Z kk q
    have hyl := hle (y + 1) (by omega)
    rw [Nat.add_mul, Nat.one_mul] at hyl
    induction q with
    | zero =>
      intro x hx
      obtain rfl : x = w := by omega
      refine g_iload dX2_init_41 rfl ?_
      refine g_iload_n dX2_init_43 rfl ?_
      refine n_icmp_ge 65 dX2_init_44 (by decide) (by first | ((with_reducible apply cN_le) <;> omega) | ((with_reducible apply cI_len) <;> omega) | ((with_reducible apply cI_nle) <;> omega) | (with_reducible exact cI_le)) (fun c44 => ?_) (fun c44 => by exfalso; first | omega | exact absurd trivial c44 | exact c44 | (simp at c44))
      exact g_drop _ (by repeat (first | exact trivial | refine ⟨Or.inr ⟨_, rfl⟩, ?_⟩ | refine ⟨Or.inl rfl, ?_⟩)) kk
    | succ q ih =>
      intro x hx
      have nx := ih (x + 1) (by omega)
      rw [← Nat.add_assoc] at nx
      refine g_iload dX2_init_41 rfl ?_
      refine g_iload_n dX2_init_43 rfl ?_
      refine n_icmp_ge 65 dX2_init_44 (by decide) (by first | ((with_reducible apply cN_le) <;> omega) | ((with_reducible apply cI_len) <;> omega) | ((with_reducible apply cI_nle) <;> omega) | (with_reducible exact cI_le)) (fun c44 => by exfalso; first | omega | exact absurd trivial c44 | exact c44 | (simp at c44)) (fun c44 => ?_)
      refine g_lload_n dX2_init_47 rfl ?_
      refine g_lconst (v := 1) dX2_init_48 (by decide) ?_
      refine g_iload dX2_init_49 rfl ?_
      refine g_iload_n dX2_init_51 rfl ?_
      refine n_imul dX2_init_52 (by first | (with_reducible exact pk_mul _ _) | rfl) ?_
      refine g_iload dX2_init_53 rfl ?_
      refine n_iadd dX2_init_55 (by first | (with_reducible exact nI_add _ _) | rfl) ?_
      refine n_lshl dX2_init_56 (mk_bit (by omega)) ?_
      refine n_lor dX2_init_57 (cA_s (by omega)) ?_
      refine g_lstore_n dX2_init_58 (by decide) rfl ?_
      refine g_iinc dX2_init_59 rfl (by first | (with_reducible exact nI_1 _) | exact nI_1 _ | exact pk_m1 _ | rfl) (by decide) rfl ?_
      refine g_goto 41 dX2_init_62 (by decide) ?_
      exact nx
  have lp : ∀ q y, y + q = h → pvG mX2_init (pvR 1 0 0) (pvZ (grQn w h I J P) 0 0) 32 [.ref 2, .int (nI w), .int (nI h), .long (mk (cA' w (y * w))), .retAddr 0, .long (mk (cF' w y)), .retAddr 0, .long (mk (cL' w y)), .retAddr 0, .int (nI y), .retAddr 0] [] 0 0 2 I1 J P := by
    intro q
    induction q with
    | zero =>
      intro y hy
      obtain rfl : y = h := by omega
      have e4 : mk (cA' w (y * w)) &&& mk (fun c => !cF' w y c) = mk (fun c => decide (c < w * y ∧ 0 < c % w)) := mk_and.trans (mk_cong (fun c _ => by
        unfold cA' cF'
        rw [Nat.mul_comm w y]
        by_cases z1 : c < y * w <;> by_cases z2 : c % w = 0 <;> simp [z1, z2] <;> omega))
      have e5 : mk (cA' w (y * w)) &&& mk (fun c => !cL' w y c) = mk (fun c => decide (c < w * y ∧ c % w + 1 < w)) := mk_and.trans (mk_cong (fun c _ => by
        unfold cA' cL'
        rw [Nat.mul_comm w y]
        have hm := Nat.mod_lt c (show 0 < w by omega)
        by_cases z1 : c < y * w <;> by_cases z2 : c % w + 1 = w <;> simp [z1, z2] <;> omega))
      refine g_iload dX2_init_32 rfl ?_
      refine g_iload_n dX2_init_34 rfl ?_
      refine n_icmp_ge 97 dX2_init_35 (by decide) (by first | ((with_reducible apply cN_le) <;> omega) | ((with_reducible apply cI_len) <;> omega) | ((with_reducible apply cI_nle) <;> omega) | (with_reducible exact cI_le)) (fun c35 => ?_) (fun c35 => by exfalso; first | omega | exact absurd trivial c35 | exact c35 | (simp at c35))
      refine g_aload_n dX2_init_97 rfl ?_
      refine g_lload_n dX2_init_98 rfl ?_
      refine n_putJ dX2_init_99 fdX2_19 rfl (fun _ => ⟨rfl, _, _, _, rfl, rfl⟩) (by first | rfl | exact pv_shx) (by omega) (by omega) (by decide) rfl (by repeat (first | exact pvu_s | exact pvuJ_s | apply pvu_in (by omega) | apply pvuJ_in (by omega) | exact pvu_pvs | exact pvuJ_pvs)) ?_
      refine g_aload_n dX2_init_102 rfl ?_
      refine g_lload_n dX2_init_103 rfl ?_
      refine g_lload dX2_init_104 rfl ?_
      refine g_ldc2 (v := (-1 : Int64)) dX2_init_106 kcX2_23 ?_
      refine n_lxor dX2_init_109 (mk_not) ?_
      refine n_land dX2_init_110 (e4) ?_
      refine n_putJ dX2_init_111 fdX2_25 rfl (fun _ => ⟨rfl, _, _, _, rfl, rfl⟩) (by first | rfl | exact pv_shx) (by omega) (by omega) (by decide) rfl (by repeat (first | exact pvu_s | exact pvuJ_s | apply pvu_in (by omega) | apply pvuJ_in (by omega) | exact pvu_pvs | exact pvuJ_pvs)) ?_
      refine g_aload_n dX2_init_114 rfl ?_
      refine g_lload_n dX2_init_115 rfl ?_
      refine g_lload dX2_init_116 rfl ?_
      refine g_ldc2 (v := (-1 : Int64)) dX2_init_118 kcX2_23 ?_
      refine n_lxor dX2_init_121 (mk_not) ?_
      refine n_land dX2_init_122 (e5) ?_
      refine n_putJ dX2_init_123 fdX2_28 rfl (fun _ => ⟨rfl, _, _, _, rfl, rfl⟩) (by first | rfl | exact pv_shx) (by omega) (by omega) (by decide) rfl (by repeat (first | exact pvu_s | exact pvuJ_s | apply pvu_in (by omega) | apply pvuJ_in (by omega) | exact pvu_pvs | exact pvuJ_pvs)) ?_
      exact g_vret dX2_init_126 rfl (⟨rfl, rfl, rfl, fun x hx => ⟨by rw [← hI1, pvs_ne hx], by rw [pvsJ_ne hx]⟩, by rw [← hI1, pvs_eq]; simp [upd], by rw [← hI1, pvs_eq]; simp [upd], by rw [← hI1, pvs_eq]; simp [upd], by rw [pvsJ_eq]; simp [vp_updL]; rw [Nat.mul_comm y w]; rfl, by rw [pvsJ_eq]; simp [vp_updL], by rw [pvsJ_eq]; simp [vp_updL]⟩)
    | succ q ih =>
      intro y hy
      have hyl := hle (y + 1) (by omega)
      have hyl2 := hyl
      rw [Nat.add_mul, Nat.one_mul] at hyl
      have nx := ih (y + 1) (by omega)
      rw [show (y + 1) * w = y * w + w by rw [Nat.add_mul, Nat.one_mul]] at nx
      have go := inn y (by omega) (pvZ (grQn w h I J P) 0 0) (by
        have e86 : nI (y * w + w) - nI 1 = nI (y * w + w - 1) := by (with_reducible apply pk_sub) <;> omega
        refine g_lload dX2_init_65 rfl ?_
        refine g_lconst (v := 1) dX2_init_67 (by decide) ?_
        refine g_iload dX2_init_68 rfl ?_
        refine g_iload_n dX2_init_70 rfl ?_
        refine n_imul dX2_init_71 (by first | (with_reducible exact pk_mul _ _) | rfl) ?_
        refine n_lshl dX2_init_72 (mk_bit (by omega)) ?_
        refine n_lor dX2_init_73 (cF_s hw.1 hyl2) ?_
        refine g_lstore dX2_init_74 (by decide) rfl ?_
        refine g_lload dX2_init_76 rfl ?_
        refine g_lconst (v := 1) dX2_init_78 (by decide) ?_
        refine g_iload dX2_init_79 rfl ?_
        refine g_iload_n dX2_init_81 rfl ?_
        refine n_imul dX2_init_82 (by first | (with_reducible exact pk_mul _ _) | rfl) ?_
        refine g_iload_n dX2_init_83 rfl ?_
        refine n_iadd dX2_init_84 (by first | (with_reducible exact nI_add _ _) | rfl) ?_
        refine g_iconst (v := nI 1) dX2_init_85 (by decide) ?_
        refine n_isub dX2_init_86 (e86) ?_
        refine n_lshl dX2_init_87 (mk_bit (by omega)) ?_
        refine n_lor dX2_init_88 (cL_s hw.1 hyl2) ?_
        refine g_lstore dX2_init_89 (by decide) rfl ?_
        refine g_iinc dX2_init_91 rfl (by first | (with_reducible exact nI_1 _) | exact nI_1 _ | exact pk_m1 _ | rfl) (by decide) rfl ?_
        refine g_goto 32 dX2_init_94 (by decide) ?_
        exact g_drop _ (by repeat (first | exact trivial | refine ⟨Or.inr ⟨_, rfl⟩, ?_⟩ | refine ⟨Or.inl rfl, ?_⟩)) nx) w 0 (by omega)
      refine g_iload dX2_init_32 rfl ?_
      refine g_iload_n dX2_init_34 rfl ?_
      refine n_icmp_ge 97 dX2_init_35 (by decide) (by first | ((with_reducible apply cN_le) <;> omega) | ((with_reducible apply cI_len) <;> omega) | ((with_reducible apply cI_nle) <;> omega) | (with_reducible exact cI_le)) (fun c35 => by exfalso; first | omega | exact absurd trivial c35 | exact c35 | (simp at c35)) (fun c35 => ?_)
      refine g_iconst (v := nI 0) dX2_init_38 (by decide) ?_
      refine g_istore dX2_init_39 (by decide) rfl ?_
      exact g_drop _ (by repeat (first | exact trivial | refine ⟨Or.inr ⟨_, rfl⟩, ?_⟩ | refine ⟨Or.inl rfl, ?_⟩)) go
  have e0 : mk (cA' w (0 * w)) = 0 := mk_eq0.mpr (fun c _ => by unfold cA'; simp)
  have e1 : mk (cF' w 0) = 0 := mk_eq0.mpr (fun c _ => by unfold cF'; simp)
  have e2 : mk (cL' w 0) = 0 := mk_eq0.mpr (fun c _ => by unfold cL'; simp)
  have go := lp h 0 (by omega)
  rw [e0, e1, e2, ← hI1] at go
  refine pvMet.of _ (by decide) rfl (Nat.le_of_ble_eq_true rfl) ?_
  refine g_aload_n dX2_init_0 rfl ?_
  refine g_objInit dX2_init_1 loX2_1 (by decide) (by decide) ?_
  refine g_aload_n dX2_init_4 rfl ?_
  refine g_iload_n dX2_init_5 rfl ?_
  refine n_putI dX2_init_6 fdX2_7 rfl (fun _ => ⟨rfl, _, _, _, rfl, rfl⟩) (by first | rfl | exact pv_shx) (by omega) (by omega) (by decide) rfl (by repeat (first | exact pvu_s | exact pvuJ_s | apply pvu_in (by omega) | apply pvuJ_in (by omega) | exact pvu_pvs | exact pvuJ_pvs)) ?_
  refine g_aload_n dX2_init_9 rfl ?_
  refine g_iload_n dX2_init_10 rfl ?_
  refine n_putI dX2_init_11 fdX2_13 rfl (fun _ => ⟨rfl, _, _, _, rfl, rfl⟩) (by first | rfl | exact pv_shx) (by omega) (by omega) (by decide) rfl (by repeat (first | exact pvu_s | exact pvuJ_s | apply pvu_in (by omega) | apply pvuJ_in (by omega) | exact pvu_pvs | exact pvuJ_pvs)) ?_
  refine g_aload_n dX2_init_14 rfl ?_
  refine g_iload_n dX2_init_15 rfl ?_
  refine g_iload_n dX2_init_16 rfl ?_
  refine n_imul dX2_init_17 (by first | (with_reducible exact pk_mul _ _) | rfl) ?_
  refine n_putI dX2_init_18 fdX2_16 rfl (fun _ => ⟨rfl, _, _, _, rfl, rfl⟩) (by first | rfl | exact pv_shx) (by omega) (by omega) (by decide) rfl (by repeat (first | exact pvu_s | exact pvuJ_s | apply pvu_in (by omega) | apply pvuJ_in (by omega) | exact pvu_pvs | exact pvuJ_pvs)) ?_
  refine g_lconst (v := 0) dX2_init_21 (by decide) ?_
  refine g_lstore_n dX2_init_22 (by decide) rfl ?_
  refine g_lconst (v := 0) dX2_init_23 (by decide) ?_
  refine g_lstore dX2_init_24 (by decide) rfl ?_
  refine g_lconst (v := 0) dX2_init_26 (by decide) ?_
  refine g_lstore dX2_init_27 (by decide) rfl ?_
  refine g_iconst (v := nI 0) dX2_init_29 (by decide) ?_
  refine g_istore dX2_init_30 (by decide) rfl ?_
  exact g_drop _ (by repeat (first | exact trivial | refine ⟨Or.inr ⟨_, rfl⟩, ?_⟩ | refine ⟨Or.inl rfl, ?_⟩)) go
end GRD
