/-! model: the fire, as numbers of cells -/
def arN (g : Nat → Int32) (n : Nat) (s : Nat → Nat) : Nat → Int32 := fun c => if c < n then nI (s c) else g c
def updN (s : Nat → Nat) (c v : Nat) : Nat → Nat := fun x => if x = c then v else s x
theorem arN_at {g : Nat → Int32} {n : Nat} {s : Nat → Nat} {c : Nat} (h : c < n) : arN g n s c = nI (s c) := by simp [arN, h]
theorem arN_upd {g : Nat → Int32} {n : Nat} {s : Nat → Nat} {c v : Nat} (h : c < n) : upd (arN g n s) c (nI v) = arN g n (updN s c v) := by
  funext x
  by_cases e : x = c
  · subst e; simp [upd, arN, updN, h]
  · simp [upd, arN, updN, e]
theorem arN_cong {g : Nat → Int32} {n : Nat} {s t : Nat → Nat} (h : ∀ c, c < n → s c = t c) : arN g n s = arN g n t := by
  funext x
  by_cases e : x < n
  · simp [arN, e, h x e]
  · simp [arN, e]
theorem sp_fil_ar {f g : Nat → Int32} {n : Nat} {s : Nat → Nat} (h : ∀ c, c < n → f c = nI (s c)) : sp_fil f g n = arN g n s := by
  funext x
  by_cases e : x < n
  · simp [sp_fil, arN, e, h x e]
  · simp [sp_fil, arN, e]
def anyB (f : Nat → Bool) : Nat → Bool
  | 0 => false
  | n + 1 => anyB f n || f n
theorem anyB_iff {f : Nat → Bool} : ∀ {n : Nat}, anyB f n = true ↔ ∃ i, i < n ∧ f i = true
  | 0 => ⟨fun h => (by cases h), fun ⟨i, hi, _⟩ => absurd hi (Nat.not_lt_zero i)⟩
  | n + 1 => by
    show (anyB f n || f n) = true ↔ _
    rw [Bool.or_eq_true, anyB_iff]
    constructor
    · rintro (⟨i, h1, h2⟩ | h)
      · exact ⟨i, by omega, h2⟩
      · exact ⟨n, by omega, h⟩
    · rintro ⟨i, h1, h2⟩
      by_cases e : i = n
      · subst e; exact Or.inr h2
      · exact Or.inl ⟨i, by omega, h2⟩
theorem anyB_cong {f g : Nat → Bool} : ∀ {n : Nat}, (∀ i, i < n → f i = g i) → anyB f n = anyB g n
  | 0, _ => rfl
  | n + 1, h => by
    show (anyB f n || f n) = (anyB g n || g n)
    rw [anyB_cong (fun i hi => h i (by omega)), h n (by omega)]
-- only the named cells of memory are changed
def mfix (I I' : pvI) (l : List Nat) : Prop := ∀ k, k ∉ l → I' k = I k
/-- what is known of cells, rules, sand, states, trenches, holes, places -/
def mCells (a : Nat → Int32) : Prop := (∀ c, c < 64 → ∃ v, v ≤ 4 ∧ a (20 + c) = nI v) ∧ (∀ c, c < 64 → ∃ v, v ≤ 999 ∧ a (84 + c) = nI v) ∧ (∀ m c, m < 100 → c < 64 → ∃ v, v ≤ 20 ∧ a (1620 + 64 * m + c) = nI v)
def mStates (n : Nat) (a : Nat → Int32) : Prop := ∀ s, s < cnt a 3 → (∃ c, c < n ∧ a (260 + 2 * s) = nI c) ∧ (∃ m, m ≤ 99 ∧ a (260 + 2 * s + 1) = nI m)
def mTrench (w h : Nat) (a : Nat → Int32) : Prop := ∀ t, t < cnt a 2 → (∃ c d n e m, c < w * h ∧ d < 4 ∧ (1 ≤ n ∧ n ≤ 8) ∧ (1 ≤ e ∧ e ≤ 8) ∧ m ≤ 99 ∧ a (210 + 5 * t) = nI c ∧ a (210 + 5 * t + 1) = nI d ∧ a (210 + 5 * t + 2) = nI n ∧ a (210 + 5 * t + 3) = nI e ∧ a (210 + 5 * t + 4) = nI m ∧ sp_go w h d (n - 1) c ≠ none)
def mHoles (n : Nat) (a : Nat → Int32) : Prop := ∀ k, k < cnt a 1 → (∃ c, c < n ∧ a (150 + 3 * k) = nI c) ∧ (∃ m, m ≤ 100 ∧ a (150 + 3 * k + 1) = nI m) ∧ (a (150 + 3 * k + 2) = -1 ∨ ∃ m, m ≤ 100 ∧ a (150 + 3 * k + 2) = nI m)
def mPlaces (n : Nat) (a : Nat → Int32) : Prop := ∀ k, k < cnt a 10 → (∃ c, c < n ∧ a (1600 + 2 * k) = nI c) ∧ (∃ v, v ≤ 9999 ∧ a (1600 + 2 * k + 1) = nI v)
def mF (w h : Nat) (a : Nat → Int32) : Prop := mG a ∧ mCells a ∧ mStates (w * h) a ∧ mTrench w h a ∧ mHoles (w * h) a ∧ mPlaces (w * h) a
theorem nI_cnt {a : Nat → Int32} {i v : Nat} (h : a i = nI v) (hv : v < 2 ^ 31) : a i = nI (cnt a i) := by rw [cnt_of h hv]; exact h
theorem t_first {I : pvI} {J : pvJ} {P : pvP} (hP : pvOkP P) (hc : mCells (I 203)) : pvMet mX12_first 0 0 0 [.ref 202] 224 I J P (pvq P (fun v I' J' => v = none ∧ J' = J ∧ mfix I I' [208, 210, 211, 212, 213] ∧ I' 208 = arN (I 208) 64 (fun _ => 0) ∧ I' 210 = arN (I 210) 64 (fun c => cnt (I 203) (84 + c)) ∧ I' 211 = arN (I 211) 64 (fun _ => 0) ∧ I' 212 = arN (I 212) 64 (fun _ => 0) ∧ I' 213 = arN (I 213) 64 (fun _ => 0))) := by
  have lp : ∀ q i, i + q = 64 → pvG mX12_first (pvR 0 0 0) (pvZ (pvq P (fun v I' J' => v = none ∧ J' = J ∧ mfix I I' [208, 210, 211, 212, 213] ∧ I' 208 = arN (I 208) 64 (fun _ => 0) ∧ I' 210 = arN (I 210) 64 (fun c => cnt (I 203) (84 + c)) ∧ I' 211 = arN (I 211) 64 (fun _ => 0) ∧ I' 212 = arN (I 212) 64 (fun _ => 0) ∧ I' 213 = arN (I 213) 64 (fun _ => 0))) 0 0) 2 [.ref 202, .int (nI i)] [] 0 0 224 (pvs (pvs (pvs (pvs (pvs I 213 (sp_fil (fun _ => nI 0) (I 213) i)) 212 (sp_fil (fun _ => nI 0) (I 212) i)) 211 (sp_fil (fun _ => nI 0) (I 211) i)) 210 (sp_fil (fun c => I 203 (84 + c)) (I 210) i)) 208 (sp_fil (fun _ => nI 0) (I 208) i)) J P := by
    intro q
    induction q with
    | zero =>
      intro i hi
      obtain rfl : i = 64 := by omega
      refine g_iload_n dX12_first_2 rfl ?_
      refine g_bipush (v := nI 64) dX12_first_3 (by decide) ?_
      refine n_icmp_ge 57 dX12_first_5 (by decide) (by first | ((with_reducible apply cN_le) <;> omega) | ((with_reducible apply cI_len) <;> omega) | ((with_reducible apply cI_nle) <;> omega) | (with_reducible exact cI_le)) (fun c5 => ?_) (fun c5 => by exfalso; first | omega | exact absurd trivial c5 | exact c5)
      exact g_vret dX12_first_57 rfl (⟨rfl, rfl, rfl, rfl, fun k hk => by simp at hk; simp [pvs, hk], by simp only [pvs_eq]; rfl, by rw [pvs_ne (by decide), pvs_eq]; exact sp_fil_ar (fun c hc' => by obtain ⟨v, v1, v2⟩ := hc.2.1 c hc'; exact nI_cnt v2 (by omega)), by rw [pvs_ne (by decide), pvs_ne (by decide), pvs_eq]; rfl, by rw [pvs_ne (by decide), pvs_ne (by decide), pvs_ne (by decide), pvs_eq]; rfl, by rw [pvs_ne (by decide), pvs_ne (by decide), pvs_ne (by decide), pvs_ne (by decide), pvs_eq]; rfl⟩)
    | succ q ih =>
      intro i hi
      refine g_iload_n dX12_first_2 rfl ?_
      refine g_bipush (v := nI 64) dX12_first_3 (by decide) ?_
      refine n_icmp_ge 57 dX12_first_5 (by decide) (by first | ((with_reducible apply cN_le) <;> omega) | ((with_reducible apply cI_len) <;> omega) | ((with_reducible apply cI_nle) <;> omega) | (with_reducible exact cI_le)) (fun c5 => by exfalso; first | omega | exact absurd trivial c5 | exact c5) (fun c5 => ?_)
      refine g_aload_n dX12_first_8 rfl ?_
      refine g_getP dX12_first_9 fdX12_25 rfl (by first | rfl | exact pv_shx) (by omega) (by omega) (by decide) rfl (hP _ _ _ rfl) ?_
      refine g_iload_n dX12_first_12 rfl ?_
      refine g_iconst (v := nI 0) dX12_first_13 (by decide) ?_
      refine n_iast dX12_first_14 (by first | rfl | exact pv_shx) (by omega) (by omega) (by omega) (by decide) (rfl) (by omega) (by repeat (first | exact pvu_s | exact pvuJ_s | apply pvu_in (by omega) | apply pvuJ_in (by omega) | exact pvu_pvs | exact pvuJ_pvs)) ?_
      refine g_aload_n dX12_first_15 rfl ?_
      refine g_getP dX12_first_16 fdX12_31 rfl (by first | rfl | exact pv_shx) (by omega) (by omega) (by decide) rfl (hP _ _ _ rfl) ?_
      refine g_iload_n dX12_first_19 rfl ?_
      refine g_aload_n dX12_first_20 rfl ?_
      refine g_getP dX12_first_21 fdX12_7 rfl (by first | rfl | exact pv_shx) (by omega) (by omega) (by decide) rfl (hP _ _ _ rfl) ?_
      refine g_bipush (v := nI 84) dX12_first_24 (by decide) ?_
      refine g_iload_n dX12_first_26 rfl ?_
      refine n_iadd dX12_first_27 (by first | (with_reducible exact nI_add _ _) | rfl) ?_
      refine n_iald dX12_first_28 (by first | rfl | exact pv_shx) (by omega) (by omega) (by decide) (rfl) (by omega) (by repeat (first | (apply rd_s; done) | apply rd_n (by omega) | apply rp_s | apply rp_n (by omega) | (apply rdL_s; done) | apply rdL_n (by omega) | apply rpJ_s | apply rpJ_n (by omega) | rfl)) ?_
      refine n_iast dX12_first_29 (by first | rfl | exact pv_shx) (by omega) (by omega) (by omega) (by decide) (rfl) (by omega) (by repeat (first | exact pvu_s | exact pvuJ_s | apply pvu_in (by omega) | apply pvuJ_in (by omega) | exact pvu_pvs | exact pvuJ_pvs)) ?_
      refine g_aload_n dX12_first_30 rfl ?_
      refine g_getP dX12_first_31 fdX12_34 rfl (by first | rfl | exact pv_shx) (by omega) (by omega) (by decide) rfl (hP _ _ _ rfl) ?_
      refine g_iload_n dX12_first_34 rfl ?_
      refine g_iconst (v := nI 0) dX12_first_35 (by decide) ?_
      refine n_iast dX12_first_36 (by first | rfl | exact pv_shx) (by omega) (by omega) (by omega) (by decide) (rfl) (by omega) (by repeat (first | exact pvu_s | exact pvuJ_s | apply pvu_in (by omega) | apply pvuJ_in (by omega) | exact pvu_pvs | exact pvuJ_pvs)) ?_
      refine g_aload_n dX12_first_37 rfl ?_
      refine g_getP dX12_first_38 fdX12_37 rfl (by first | rfl | exact pv_shx) (by omega) (by omega) (by decide) rfl (hP _ _ _ rfl) ?_
      refine g_iload_n dX12_first_41 rfl ?_
      refine g_iconst (v := nI 0) dX12_first_42 (by decide) ?_
      refine n_iast dX12_first_43 (by first | rfl | exact pv_shx) (by omega) (by omega) (by omega) (by decide) (rfl) (by omega) (by repeat (first | exact pvu_s | exact pvuJ_s | apply pvu_in (by omega) | apply pvuJ_in (by omega) | exact pvu_pvs | exact pvuJ_pvs)) ?_
      refine g_aload_n dX12_first_44 rfl ?_
      refine g_getP dX12_first_45 fdX12_40 rfl (by first | rfl | exact pv_shx) (by omega) (by omega) (by decide) rfl (hP _ _ _ rfl) ?_
      refine g_iload_n dX12_first_48 rfl ?_
      refine g_iconst (v := nI 0) dX12_first_49 (by decide) ?_
      refine n_iast dX12_first_50 (by first | rfl | exact pv_shx) (by omega) (by omega) (by omega) (by decide) (rfl) (by omega) (by repeat (first | exact pvu_s | exact pvuJ_s | apply pvu_in (by omega) | apply pvuJ_in (by omega) | exact pvu_pvs | exact pvuJ_pvs)) ?_
      refine g_iinc dX12_first_51 rfl (by first | (with_reducible exact nI_1 _) | exact nI_1 _ | exact pk_m1 _ | rfl) (by decide) rfl ?_
      refine g_goto 2 dX12_first_54 (by decide) ?_
      have h := ih (i + 1) (by omega)
      simp only [← sp_fil_s] at h
      exact h
  have h0 := lp 64 0 (by omega)
  simp only [sp_fil_0] at h0
  have hI : pvs (pvs (pvs (pvs (pvs I 213 (I 213)) 212 (I 212)) 211 (I 211)) 210 (I 210)) 208 (I 208) = I := by
    funext k
    simp only [pvs]
    split
    · rename_i e; rw [e]
    · split
      · rename_i e; rw [e]
      · split
        · rename_i e; rw [e]
        · split
          · rename_i e; rw [e]
          · split
            · rename_i e; rw [e]
            · rfl
  rw [hI] at h0
  refine pvMet.of _ (by decide) rfl (Nat.le_of_ble_eq_true rfl) ?_
  refine g_iconst (v := nI 0) dX12_first_0 (by decide) ?_
  refine g_istore_n dX12_first_1 (by decide) rfl ?_
  exact h0

-- trenches: how many cells, the week of a cut, the cell of a cut
def tr_n (a : Nat → Int32) (t : Nat) : Nat := cnt a (210 + 5 * t + 2)
def tr_w (a : Nat → Int32) (t i : Nat) : Nat := cnt a (210 + 5 * t + 4) + i / cnt a (210 + 5 * t + 3)
def tr_c (w h : Nat) (a : Nat → Int32) (t i : Nat) : Option Nat := sp_go w h (cnt a (210 + 5 * t + 1)) i (cnt a (210 + 5 * t))
/-- cut in the week m by the trenches ahead of t, and by the first i cells of t -/
def cutP (w h : Nat) (a : Nat → Int32) (m t i c : Nat) : Bool := anyB (fun t => anyB (fun i => decide (tr_w a t i = m ∧ tr_c w h a t i = some c)) (tr_n a t)) t || anyB (fun i => decide (tr_w a t i = m ∧ tr_c w h a t i = some c)) i
def cutw (w h : Nat) (a : Nat → Int32) (m c : Nat) : Bool := anyB (fun t => anyB (fun i => decide (tr_w a t i = m ∧ tr_c w h a t i = some c)) (tr_n a t)) (cnt a 2)
def cutb (w h : Nat) (a : Nat → Int32) : Nat → Nat → Bool
  | 0, _ => false
  | m + 1, c => cutb w h a m c || cutw w h a m c
theorem cutP_i {w h : Nat} {a : Nat → Int32} {m t i c : Nat} : cutP w h a m t (i + 1) c = (cutP w h a m t i c || decide (tr_w a t i = m ∧ tr_c w h a t i = some c)) := by
  unfold cutP
  rw [Bool.or_assoc]
  rfl
theorem cutP_t {w h : Nat} {a : Nat → Int32} {m t c : Nat} : cutP w h a m t (tr_n a t) c = cutP w h a m (t + 1) 0 c := by
  unfold cutP
  show _ = ((_ || _) || false)
  rw [Bool.or_false]
theorem cutP_e {w h : Nat} {a : Nat → Int32} {m c : Nat} : cutP w h a m (cnt a 2) 0 c = cutw w h a m c := by
  unfold cutP cutw
  show (_ || false) = _
  rw [Bool.or_false]
theorem cutP_0 {w h : Nat} {a : Nat → Int32} {m c : Nat} : cutP w h a m 0 0 c = false := rfl
/-- a trench's data, by its numbers -/
theorem mTr {w h : Nat} {a : Nat → Int32} (hT : mTrench w h a) (h64 : w * h ≤ 64) {t : Nat} (ht : t < cnt a 2) :
    a (210 + 5 * t) = nI (cnt a (210 + 5 * t)) ∧ a (210 + 5 * t + 1) = nI (cnt a (210 + 5 * t + 1)) ∧ a (210 + 5 * t + 2) = nI (tr_n a t) ∧ a (210 + 5 * t + 3) = nI (cnt a (210 + 5 * t + 3)) ∧ a (210 + 5 * t + 4) = nI (cnt a (210 + 5 * t + 4)) ∧
    cnt a (210 + 5 * t) < w * h ∧ cnt a (210 + 5 * t + 1) < 4 ∧ (1 ≤ tr_n a t ∧ tr_n a t ≤ 8) ∧ (1 ≤ cnt a (210 + 5 * t + 3) ∧ cnt a (210 + 5 * t + 3) ≤ 8) ∧ cnt a (210 + 5 * t + 4) ≤ 99 ∧ tr_c w h a t (tr_n a t - 1) ≠ none := by
  obtain ⟨c, d, n, e, m, h1, h2, h3, h4, h5, e1, e2, e3, e4, e5, e6⟩ := hT t ht
  have f1 := cnt_of e1 (by omega)
  have f2 := cnt_of e2 (by omega)
  have f3 : tr_n a t = n := cnt_of e3 (by omega)
  have f4 := cnt_of e4 (by omega)
  have f5 := cnt_of e5 (by omega)
  unfold tr_c
  rw [f1, f2, f3, f4, f5]
  exact ⟨e1, e2, e3, e4, e5, h1, h2, h3, h4, h5, e6⟩
theorem tr_c_some {w h : Nat} {a : Nat → Int32} {t i : Nat} (hn : tr_c w h a t (tr_n a t - 1) ≠ none) (hi : i < tr_n a t) : ∃ x, tr_c w h a t i = some x := by
  cases e : tr_c w h a t i with
  | some x => exact ⟨x, rfl⟩
  | none => exact absurd (sp_go_none e (by omega)) hn
-- the cut loop of begin, from its head on: three arrays
theorem b_cut {w h : Nat} {I : pvI} {J : pvJ} {P : pvP} {Z : pvZT} {a : Nat → Int32} {s m : Nat} {u3 : Int32} {gc gn gl : Nat → Int32} {cu nw lf : Nat → Nat} (hP : pvOkP P) (hD : mDim w h I) (ha : I 203 = a) (hg : mG a) (hT : mTrench w h a) (hm : m ≤ 99)
    (kk : pvG mX12_begin (pvR 2 0 0) Z 426 [.ref 202, .int (nI s), .int (nI m), .int u3, .retAddr 0, .retAddr 0, .retAddr 0, .retAddr 0, .retAddr 0] [] 0 0 224 (pvs (pvs (pvs I 213 (arN gc 64 (fun c => if cutw w h a m c = true then 1 else cu c))) 208 (arN gn 64 (fun c => if cutw w h a m c = true then 0 else nw c))) 210 (arN gl 64 (fun c => if cutw w h a m c = true then 0 else lf c))) J P) :
    pvG mX12_begin (pvR 2 0 0) Z 297 [.ref 202, .int (nI s), .int (nI m), .int u3, .retAddr 0, .retAddr 0, .retAddr 0, .retAddr 0, .retAddr 0] [] 0 0 224 (pvs (pvs (pvs I 213 (arN gc 64 cu)) 208 (arN gn 64 nw)) 210 (arN gl 64 lf)) J P := by
  have hD' := hD
  obtain ⟨hw, hh, hw2, hh2⟩ := hD
  have hwh : 4 ≤ w * h ∧ w * h ≤ 64 := ⟨Nat.mul_le_mul hw2.1 hh2.1, Nat.mul_le_mul hw2.2 hh2.2⟩
  have hD2 : ∀ f1 f2 f3, mDim w h (pvs (pvs (pvs I 213 f1) 208 f2) 210 f3) := fun f1 f2 f3 => ⟨by rw [pvs_ne (by decide), pvs_ne (by decide), pvs_ne (by decide)]; exact hw, by rw [pvs_ne (by decide), pvs_ne (by decide), pvs_ne (by decide)]; exact hh, hw2, hh2⟩
  obtain ⟨nt, nt_b, nt_h⟩ := hg 2 (by decide)
  replace nt_b : nt ≤ 10 := nt_b
  have nt_e : cnt a 2 = nt := cnt_of nt_h (by omega)
  have ra : ∀ {i v}, a i = v → I 203 i = v := fun hv => by rw [ha]; exact hv
  -- memory in the middle
  have mid : ∀ t i, pvs (pvs (pvs I 213 (arN gc 64 (fun c => if cutP w h a m t i c = true then 1 else cu c))) 208 (arN gn 64 (fun c => if cutP w h a m t i c = true then 0 else nw c))) 210 (arN gl 64 (fun c => if cutP w h a m t i c = true then 0 else lf c)) = pvs (pvs (pvs I 213 (arN gc 64 (fun c => if cutP w h a m t i c = true then 1 else cu c))) 208 (arN gn 64 (fun c => if cutP w h a m t i c = true then 0 else nw c))) 210 (arN gl 64 (fun c => if cutP w h a m t i c = true then 0 else lf c)) := fun _ _ => rfl
  have inn : ∀ t, t < nt → (pvG mX12_begin (pvR 2 0 0) Z 300 [.ref 202, .int (nI s), .int (nI m), .int u3, .retAddr 0, .int (nI (t + 1)), .retAddr 0, .retAddr 0, .retAddr 0] [] 0 0 224 (pvs (pvs (pvs I 213 (arN gc 64 (fun c => if cutP w h a m (t + 1) 0 c = true then 1 else cu c))) 208 (arN gn 64 (fun c => if cutP w h a m (t + 1) 0 c = true then 0 else nw c))) 210 (arN gl 64 (fun c => if cutP w h a m (t + 1) 0 c = true then 0 else lf c))) J P) → ∀ q i (x : Int32), i + q = tr_n a t → (∀ y, tr_c w h a t i = some y → x = nI y) →
      pvG mX12_begin (pvR 2 0 0) Z 333 [.ref 202, .int (nI s), .int (nI m), .int u3, .retAddr 0, .int (nI t), .int (nI (210 + 5 * t)), .int x, .int (nI i)] [] 0 0 224 (pvs (pvs (pvs I 213 (arN gc 64 (fun c => if cutP w h a m t i c = true then 1 else cu c))) 208 (arN gn 64 (fun c => if cutP w h a m t i c = true then 0 else nw c))) 210 (arN gl 64 (fun c => if cutP w h a m t i c = true then 0 else lf c))) J P := by
    intro t ht hnext q
    obtain ⟨e1, e2, e3, e4, e5, h1, h2, h3, h4, h5, h6⟩ := mTr hT hwh.2 (t := t) (by omega)
    induction q with
    | zero =>
      intro i x hi hx
      obtain rfl : i = tr_n a t := by omega
      refine g_iload dX12_begin_333 rfl ?_
      refine g_aload_n dX12_begin_335 rfl ?_
      refine g_getP dX12_begin_336 fdX12_7 rfl (by first | rfl | exact pv_shx) (by omega) (by omega) (by decide) rfl (hP _ _ _ rfl) ?_
      refine g_iload dX12_begin_339 rfl ?_
      refine g_iconst (v := nI 2) dX12_begin_341 (by decide) ?_
      refine n_iadd dX12_begin_342 (by first | (with_reducible exact nI_add _ _) | rfl) ?_
      refine n_iald dX12_begin_343 (by first | rfl | exact pv_shx) (by omega) (by omega) (by decide) (rfl) (by omega) (by repeat (first | exact ra e3 | (apply rd_s; done) | apply rd_n (by omega) | apply rp_s | apply rp_n (by omega) | (apply rdL_s; done) | apply rdL_n (by omega) | apply rpJ_s | apply rpJ_n (by omega) | rfl)) ?_
      refine n_icmp_ge 420 dX12_begin_344 (by decide) (by first | ((with_reducible apply cN_le) <;> omega) | ((with_reducible apply cI_len) <;> omega) | ((with_reducible apply cI_nle) <;> omega) | (with_reducible exact cI_le)) (fun c344 => ?_) (fun c344 => by exfalso; first | omega | exact absurd trivial c344 | exact c344)
      refine g_iinc dX12_begin_420 rfl (by first | (with_reducible exact nI_1 _) | exact nI_1 _ | exact pk_m1 _ | rfl) (by decide) rfl ?_
      refine g_goto 300 dX12_begin_423 (by decide) ?_
      simp only [cutP_t]
      refine g_drop [.ref 202, .int (nI s), .int (nI m), .int u3, .retAddr 0, .int (nI (t + 1)), .retAddr 0, .retAddr 0, .retAddr 0] (by repeat (first | exact trivial | refine ⟨Or.inr ⟨_, rfl⟩, ?_⟩ | refine ⟨Or.inl rfl, ?_⟩)) ?_
      exact hnext
    | succ q ih =>
      intro i x hi hx
      obtain ⟨y, hy⟩ := tr_c_some h6 (i := i) (by omega)
      obtain rfl := hx y hy
      have hyl : y < w * h := sp_go_lt (by omega) h1 hy
      have hnx : ∀ z, tr_c w h a t (i + 1) = some z → sp_nbI w h y (cnt a (210 + 5 * t + 1)) = nI z := by
        intro z hz
        have : (tr_c w h a t i).bind (fun x => sp_nb w h x (cnt a (210 + 5 * t + 1))) = some z := hz
        rw [hy] at this
        have this : sp_nb w h y (cnt a (210 + 5 * t + 1)) = some z := this
        rw [sp_nbI, this]
      have hdv : i / cnt a (210 + 5 * t + 3) ≤ i := Nat.div_le_self _ _
      have h4' := ih (i + 1) (sp_nbI w h y (cnt a (210 + 5 * t + 1))) (by omega) hnx
      by_cases hwm : tr_w a t i = m
      · have hz : ∀ c, cutP w h a m t (i + 1) c = (cutP w h a m t i c || decide (c = y)) := fun c => by
          rw [cutP_i, hy]
          congr 1
          simp [hwm, eq_comm]
        have f1 : arN gc 64 (updN (fun c => if cutP w h a m t i c = true then 1 else cu c) y 1) = arN gc 64 (fun c => if cutP w h a m t (i + 1) c = true then 1 else cu c) := by
          congr 1; funext c; rw [hz c]; by_cases e : c = y <;> simp [updN, e]
        have f2 : arN gn 64 (updN (fun c => if cutP w h a m t i c = true then 0 else nw c) y 0) = arN gn 64 (fun c => if cutP w h a m t (i + 1) c = true then 0 else nw c) := by
          congr 1; funext c; rw [hz c]; by_cases e : c = y <;> simp [updN, e]
        have f3 : arN gl 64 (updN (fun c => if cutP w h a m t i c = true then 0 else lf c) y 0) = arN gl 64 (fun c => if cutP w h a m t (i + 1) c = true then 0 else lf c) := by
          congr 1; funext c; rw [hz c]; by_cases e : c = y <;> simp [updN, e]
        rw [← f1, ← f2, ← f3, ← arN_upd (by omega), ← arN_upd (by omega), ← arN_upd (by omega)] at h4'
        unfold tr_w at hwm
        refine g_iload dX12_begin_333 rfl ?_
        refine g_aload_n dX12_begin_335 rfl ?_
        refine g_getP dX12_begin_336 fdX12_7 rfl (by first | rfl | exact pv_shx) (by omega) (by omega) (by decide) rfl (hP _ _ _ rfl) ?_
        refine g_iload dX12_begin_339 rfl ?_
        refine g_iconst (v := nI 2) dX12_begin_341 (by decide) ?_
        refine n_iadd dX12_begin_342 (by first | (with_reducible exact nI_add _ _) | rfl) ?_
        refine n_iald dX12_begin_343 (by first | rfl | exact pv_shx) (by omega) (by omega) (by decide) (rfl) (by omega) (by repeat (first | exact ra e3 | exact ra e4 | exact ra e5 | exact ra e2 | (apply rd_s; done) | apply rd_n (by omega) | apply rp_s | apply rp_n (by omega) | (apply rdL_s; done) | apply rdL_n (by omega) | apply rpJ_s | apply rpJ_n (by omega) | rfl)) ?_
        refine n_icmp_ge 420 dX12_begin_344 (by decide) (by first | ((with_reducible apply cN_le) <;> omega) | ((with_reducible apply cI_len) <;> omega) | ((with_reducible apply cI_nle) <;> omega) | (with_reducible exact cI_le)) (fun c344 => by exfalso; first | omega | exact absurd trivial c344 | exact c344) (fun c344 => ?_)
        refine g_aload_n dX12_begin_347 rfl ?_
        refine g_getP dX12_begin_348 fdX12_7 rfl (by first | rfl | exact pv_shx) (by omega) (by omega) (by decide) rfl (hP _ _ _ rfl) ?_
        refine g_iload dX12_begin_351 rfl ?_
        refine g_iconst (v := nI 4) dX12_begin_353 (by decide) ?_
        refine n_iadd dX12_begin_354 (by first | (with_reducible exact nI_add _ _) | rfl) ?_
        refine n_iald dX12_begin_355 (by first | rfl | exact pv_shx) (by omega) (by omega) (by decide) (rfl) (by omega) (by repeat (first | exact ra e3 | exact ra e4 | exact ra e5 | exact ra e2 | (apply rd_s; done) | apply rd_n (by omega) | apply rp_s | apply rp_n (by omega) | (apply rdL_s; done) | apply rdL_n (by omega) | apply rpJ_s | apply rpJ_n (by omega) | rfl)) ?_
        refine g_iload dX12_begin_356 rfl ?_
        refine g_aload_n dX12_begin_358 rfl ?_
        refine g_getP dX12_begin_359 fdX12_7 rfl (by first | rfl | exact pv_shx) (by omega) (by omega) (by decide) rfl (hP _ _ _ rfl) ?_
        refine g_iload dX12_begin_362 rfl ?_
        refine g_iconst (v := nI 3) dX12_begin_364 (by decide) ?_
        refine n_iadd dX12_begin_365 (by first | (with_reducible exact nI_add _ _) | rfl) ?_
        refine n_iald dX12_begin_366 (by first | rfl | exact pv_shx) (by omega) (by omega) (by decide) (rfl) (by omega) (by repeat (first | exact ra e3 | exact ra e4 | exact ra e5 | exact ra e2 | (apply rd_s; done) | apply rd_n (by omega) | apply rp_s | apply rp_n (by omega) | (apply rdL_s; done) | apply rdL_n (by omega) | apply rpJ_s | apply rpJ_n (by omega) | rfl)) ?_
        refine n_idiv dX12_begin_367 (by first | decide | ((with_reducible apply nI_ne0) <;> omega)) (by first | ((with_reducible apply pk_div) <;> omega) | rfl) ?_
        refine n_iadd dX12_begin_368 (by first | (with_reducible exact nI_add _ _) | rfl) ?_
        refine g_iload_n dX12_begin_369 rfl ?_
        refine n_icmp_ne 397 dX12_begin_370 (by decide) (by first | ((with_reducible apply cN_eq) <;> omega) | ((with_reducible apply cI_eqn) <;> omega) | exact Iff.rfl) (fun c370 => by exfalso; first | omega | exact absurd trivial c370 | exact c370) (fun c370 => ?_)
        refine g_aload_n dX12_begin_373 rfl ?_
        refine g_getP dX12_begin_374 fdX12_40 rfl (by first | rfl | exact pv_shx) (by omega) (by omega) (by decide) rfl (hP _ _ _ rfl) ?_
        refine g_iload dX12_begin_377 rfl ?_
        refine g_iconst (v := nI 1) dX12_begin_379 (by decide) ?_
        refine n_iast dX12_begin_380 (by first | rfl | exact pv_shx) (by omega) (by omega) (by omega) (by decide) (rfl) (by omega) (by repeat (first | exact pvu_s | exact pvuJ_s | apply pvu_in (by omega) | apply pvuJ_in (by omega) | exact pvu_pvs | exact pvuJ_pvs)) ?_
        refine g_aload_n dX12_begin_381 rfl ?_
        refine g_getP dX12_begin_382 fdX12_25 rfl (by first | rfl | exact pv_shx) (by omega) (by omega) (by decide) rfl (hP _ _ _ rfl) ?_
        refine g_iload dX12_begin_385 rfl ?_
        refine g_iconst (v := nI 0) dX12_begin_387 (by decide) ?_
        refine n_iast dX12_begin_388 (by first | rfl | exact pv_shx) (by omega) (by omega) (by omega) (by decide) (rfl) (by omega) (by repeat (first | exact pvu_s | exact pvuJ_s | apply pvu_in (by omega) | apply pvuJ_in (by omega) | exact pvu_pvs | exact pvuJ_pvs)) ?_
        refine g_aload_n dX12_begin_389 rfl ?_
        refine g_getP dX12_begin_390 fdX12_31 rfl (by first | rfl | exact pv_shx) (by omega) (by omega) (by decide) rfl (hP _ _ _ rfl) ?_
        refine g_iload dX12_begin_393 rfl ?_
        refine g_iconst (v := nI 0) dX12_begin_395 (by decide) ?_
        refine n_iast dX12_begin_396 (by first | rfl | exact pv_shx) (by omega) (by omega) (by omega) (by decide) (rfl) (by omega) (by repeat (first | exact pvu_s | exact pvuJ_s | apply pvu_in (by omega) | apply pvuJ_in (by omega) | exact pvu_pvs | exact pvuJ_pvs)) ?_
        refine g_aload_n dX12_begin_397 rfl ?_
        refine g_iload dX12_begin_398 rfl ?_
        refine g_aload_n dX12_begin_400 rfl ?_
        refine g_getP dX12_begin_401 fdX12_7 rfl (by first | rfl | exact pv_shx) (by omega) (by omega) (by decide) rfl (hP _ _ _ rfl) ?_
        refine g_iload dX12_begin_404 rfl ?_
        refine g_iconst (v := nI 1) dX12_begin_406 (by decide) ?_
        refine n_iadd dX12_begin_407 (by first | (with_reducible exact nI_add _ _) | rfl) ?_
        refine n_iald dX12_begin_408 (by first | rfl | exact pv_shx) (by omega) (by omega) (by decide) (rfl) (by omega) (by repeat (first | exact ra e3 | exact ra e4 | exact ra e5 | exact ra e2 | (apply rd_s; done) | apply rd_n (by omega) | apply rp_s | apply rp_n (by omega) | (apply rdL_s; done) | apply rdL_n (by omega) | apply rpJ_s | apply rpJ_n (by omega) | rfl)) ?_
        refine p_callV (t_beside (hD2 _ _ _) hyl h2) okX12_beside lkX12_111 rfl (by first | rfl | exact pv_shx) rfl (by omega) (by omega) dX12_begin_409 rfl (Nat.le_of_ble_eq_true rfl) (⟨by decide, by decide, by decide, by decide⟩) ?_
        refine g_istore dX12_begin_412 (by decide) rfl ?_
        refine g_iinc dX12_begin_414 rfl (by first | (with_reducible exact nI_1 _) | exact nI_1 _ | exact pk_m1 _ | rfl) (by decide) rfl ?_
        refine g_goto 333 dX12_begin_417 (by decide) ?_
        exact h4'
      · have hz : ∀ c, cutP w h a m t (i + 1) c = cutP w h a m t i c := fun c => by
          rw [cutP_i]
          simp [hwm]
        simp only [hz] at h4'
        unfold tr_w at hwm
        refine g_iload dX12_begin_333 rfl ?_
        refine g_aload_n dX12_begin_335 rfl ?_
        refine g_getP dX12_begin_336 fdX12_7 rfl (by first | rfl | exact pv_shx) (by omega) (by omega) (by decide) rfl (hP _ _ _ rfl) ?_
        refine g_iload dX12_begin_339 rfl ?_
        refine g_iconst (v := nI 2) dX12_begin_341 (by decide) ?_
        refine n_iadd dX12_begin_342 (by first | (with_reducible exact nI_add _ _) | rfl) ?_
        refine n_iald dX12_begin_343 (by first | rfl | exact pv_shx) (by omega) (by omega) (by decide) (rfl) (by omega) (by repeat (first | exact ra e3 | exact ra e4 | exact ra e5 | exact ra e2 | (apply rd_s; done) | apply rd_n (by omega) | apply rp_s | apply rp_n (by omega) | (apply rdL_s; done) | apply rdL_n (by omega) | apply rpJ_s | apply rpJ_n (by omega) | rfl)) ?_
        refine n_icmp_ge 420 dX12_begin_344 (by decide) (by first | ((with_reducible apply cN_le) <;> omega) | ((with_reducible apply cI_len) <;> omega) | ((with_reducible apply cI_nle) <;> omega) | (with_reducible exact cI_le)) (fun c344 => by exfalso; first | omega | exact absurd trivial c344 | exact c344) (fun c344 => ?_)
        refine g_aload_n dX12_begin_347 rfl ?_
        refine g_getP dX12_begin_348 fdX12_7 rfl (by first | rfl | exact pv_shx) (by omega) (by omega) (by decide) rfl (hP _ _ _ rfl) ?_
        refine g_iload dX12_begin_351 rfl ?_
        refine g_iconst (v := nI 4) dX12_begin_353 (by decide) ?_
        refine n_iadd dX12_begin_354 (by first | (with_reducible exact nI_add _ _) | rfl) ?_
        refine n_iald dX12_begin_355 (by first | rfl | exact pv_shx) (by omega) (by omega) (by decide) (rfl) (by omega) (by repeat (first | exact ra e3 | exact ra e4 | exact ra e5 | exact ra e2 | (apply rd_s; done) | apply rd_n (by omega) | apply rp_s | apply rp_n (by omega) | (apply rdL_s; done) | apply rdL_n (by omega) | apply rpJ_s | apply rpJ_n (by omega) | rfl)) ?_
        refine g_iload dX12_begin_356 rfl ?_
        refine g_aload_n dX12_begin_358 rfl ?_
        refine g_getP dX12_begin_359 fdX12_7 rfl (by first | rfl | exact pv_shx) (by omega) (by omega) (by decide) rfl (hP _ _ _ rfl) ?_
        refine g_iload dX12_begin_362 rfl ?_
        refine g_iconst (v := nI 3) dX12_begin_364 (by decide) ?_
        refine n_iadd dX12_begin_365 (by first | (with_reducible exact nI_add _ _) | rfl) ?_
        refine n_iald dX12_begin_366 (by first | rfl | exact pv_shx) (by omega) (by omega) (by decide) (rfl) (by omega) (by repeat (first | exact ra e3 | exact ra e4 | exact ra e5 | exact ra e2 | (apply rd_s; done) | apply rd_n (by omega) | apply rp_s | apply rp_n (by omega) | (apply rdL_s; done) | apply rdL_n (by omega) | apply rpJ_s | apply rpJ_n (by omega) | rfl)) ?_
        refine n_idiv dX12_begin_367 (by first | decide | ((with_reducible apply nI_ne0) <;> omega)) (by first | ((with_reducible apply pk_div) <;> omega) | rfl) ?_
        refine n_iadd dX12_begin_368 (by first | (with_reducible exact nI_add _ _) | rfl) ?_
        refine g_iload_n dX12_begin_369 rfl ?_
        refine n_icmp_ne 397 dX12_begin_370 (by decide) (by first | ((with_reducible apply cN_eq) <;> omega) | ((with_reducible apply cI_eqn) <;> omega) | exact Iff.rfl) (fun c370 => ?_) (fun c370 => by exfalso; first | omega | exact absurd trivial c370 | exact c370)
        refine g_aload_n dX12_begin_397 rfl ?_
        refine g_iload dX12_begin_398 rfl ?_
        refine g_aload_n dX12_begin_400 rfl ?_
        refine g_getP dX12_begin_401 fdX12_7 rfl (by first | rfl | exact pv_shx) (by omega) (by omega) (by decide) rfl (hP _ _ _ rfl) ?_
        refine g_iload dX12_begin_404 rfl ?_
        refine g_iconst (v := nI 1) dX12_begin_406 (by decide) ?_
        refine n_iadd dX12_begin_407 (by first | (with_reducible exact nI_add _ _) | rfl) ?_
        refine n_iald dX12_begin_408 (by first | rfl | exact pv_shx) (by omega) (by omega) (by decide) (rfl) (by omega) (by repeat (first | exact ra e3 | exact ra e4 | exact ra e5 | exact ra e2 | (apply rd_s; done) | apply rd_n (by omega) | apply rp_s | apply rp_n (by omega) | (apply rdL_s; done) | apply rdL_n (by omega) | apply rpJ_s | apply rpJ_n (by omega) | rfl)) ?_
        refine p_callV (t_beside (hD2 _ _ _) hyl h2) okX12_beside lkX12_111 rfl (by first | rfl | exact pv_shx) rfl (by omega) (by omega) dX12_begin_409 rfl (Nat.le_of_ble_eq_true rfl) (⟨by decide, by decide, by decide, by decide⟩) ?_
        refine g_istore dX12_begin_412 (by decide) rfl ?_
        refine g_iinc dX12_begin_414 rfl (by first | (with_reducible exact nI_1 _) | exact nI_1 _ | exact pk_m1 _ | rfl) (by decide) rfl ?_
        refine g_goto 333 dX12_begin_417 (by decide) ?_
        exact h4'
  have out : ∀ q t, t + q = nt → pvG mX12_begin (pvR 2 0 0) Z 300 [.ref 202, .int (nI s), .int (nI m), .int u3, .retAddr 0, .int (nI t), .retAddr 0, .retAddr 0, .retAddr 0] [] 0 0 224 (pvs (pvs (pvs I 213 (arN gc 64 (fun c => if cutP w h a m t 0 c = true then 1 else cu c))) 208 (arN gn 64 (fun c => if cutP w h a m t 0 c = true then 0 else nw c))) 210 (arN gl 64 (fun c => if cutP w h a m t 0 c = true then 0 else lf c))) J P := by
    intro q
    induction q with
    | zero =>
      intro t ht
      obtain rfl : t = cnt a 2 := by omega
      simp only [cutP_e]
      refine g_iload dX12_begin_300 rfl ?_
      refine g_aload_n dX12_begin_302 rfl ?_
      refine g_getP dX12_begin_303 fdX12_7 rfl (by first | rfl | exact pv_shx) (by omega) (by omega) (by decide) rfl (hP _ _ _ rfl) ?_
      refine g_iconst (v := nI 2) dX12_begin_306 (by decide) ?_
      refine n_iald dX12_begin_307 (by first | rfl | exact pv_shx) (by omega) (by omega) (by decide) (rfl) (by omega) (by repeat (first | exact ra nt_h | (apply rd_s; done) | apply rd_n (by omega) | apply rp_s | apply rp_n (by omega) | (apply rdL_s; done) | apply rdL_n (by omega) | apply rpJ_s | apply rpJ_n (by omega) | rfl)) ?_
      refine n_icmp_ge 426 dX12_begin_308 (by decide) (by first | ((with_reducible apply cN_le) <;> omega) | ((with_reducible apply cI_len) <;> omega) | ((with_reducible apply cI_nle) <;> omega) | (with_reducible exact cI_le)) (fun c308 => ?_) (fun c308 => by exfalso; first | omega | exact absurd trivial c308 | exact c308)
      refine g_drop [.ref 202, .int (nI s), .int (nI m), .int u3, .retAddr 0, .retAddr 0, .retAddr 0, .retAddr 0, .retAddr 0] (by repeat (first | exact trivial | refine ⟨Or.inr ⟨_, rfl⟩, ?_⟩ | refine ⟨Or.inl rfl, ?_⟩)) ?_
      exact kk
    | succ q ih =>
      intro t ht
      obtain ⟨e1, e2, e3, e4, e5, h1, h2, h3, h4, h5, h6⟩ := mTr hT hwh.2 (t := t) (by omega)
      refine g_iload dX12_begin_300 rfl ?_
      refine g_aload_n dX12_begin_302 rfl ?_
      refine g_getP dX12_begin_303 fdX12_7 rfl (by first | rfl | exact pv_shx) (by omega) (by omega) (by decide) rfl (hP _ _ _ rfl) ?_
      refine g_iconst (v := nI 2) dX12_begin_306 (by decide) ?_
      refine n_iald dX12_begin_307 (by first | rfl | exact pv_shx) (by omega) (by omega) (by decide) (rfl) (by omega) (by repeat (first | exact ra nt_h | exact ra e1 | (apply rd_s; done) | apply rd_n (by omega) | apply rp_s | apply rp_n (by omega) | (apply rdL_s; done) | apply rdL_n (by omega) | apply rpJ_s | apply rpJ_n (by omega) | rfl)) ?_
      refine n_icmp_ge 426 dX12_begin_308 (by decide) (by first | ((with_reducible apply cN_le) <;> omega) | ((with_reducible apply cI_len) <;> omega) | ((with_reducible apply cI_nle) <;> omega) | (with_reducible exact cI_le)) (fun c308 => by exfalso; first | omega | exact absurd trivial c308 | exact c308) (fun c308 => ?_)
      refine g_sipush (v := nI 210) dX12_begin_311 (by decide) ?_
      refine g_iconst (v := nI 5) dX12_begin_314 (by decide) ?_
      refine g_iload dX12_begin_315 rfl ?_
      refine n_imul dX12_begin_317 (by first | (with_reducible exact pk_mul _ _) | rfl) ?_
      refine n_iadd dX12_begin_318 (by first | (with_reducible exact nI_add _ _) | rfl) ?_
      refine g_istore dX12_begin_319 (by decide) rfl ?_
      refine g_aload_n dX12_begin_321 rfl ?_
      refine g_getP dX12_begin_322 fdX12_7 rfl (by first | rfl | exact pv_shx) (by omega) (by omega) (by decide) rfl (hP _ _ _ rfl) ?_
      refine g_iload dX12_begin_325 rfl ?_
      refine n_iald dX12_begin_327 (by first | rfl | exact pv_shx) (by omega) (by omega) (by decide) (rfl) (by omega) (by repeat (first | exact ra nt_h | exact ra e1 | (apply rd_s; done) | apply rd_n (by omega) | apply rp_s | apply rp_n (by omega) | (apply rdL_s; done) | apply rdL_n (by omega) | apply rpJ_s | apply rpJ_n (by omega) | rfl)) ?_
      refine g_istore dX12_begin_328 (by decide) rfl ?_
      refine g_iconst (v := nI 0) dX12_begin_330 (by decide) ?_
      refine g_istore dX12_begin_331 (by decide) rfl ?_
      exact inn t (by omega) (ih (t + 1) (by omega)) (tr_n a t) 0 _ (by omega) (fun y hy => by cases hy; rfl)
  have h0 := out nt 0 (by omega)
  simp only [cutP_0] at h0
  refine g_iconst (v := nI 0) dX12_begin_297 (by decide) ?_
  refine g_istore dX12_begin_298 (by decide) rfl ?_
  exact h0
