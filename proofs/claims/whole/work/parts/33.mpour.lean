/-! model: pour -/
def sumN (f : Nat → Nat) : Nat → Nat
  | 0 => 0
  | n + 1 => sumN f n + f n
theorem sp_sum_N {F : Nat → Int32} {f : Nat → Nat} : ∀ n, (∀ m, m < n → F m = nI (f m)) → sp_sum F n = nI (sumN f n)
  | 0, _ => rfl
  | n + 1, h => by
    show sp_sum F n + F n = nI (sumN f n + f n)
    rw [sp_sum_N n (fun m hm => h m (by omega)), h n (by omega), nI_add]
theorem sumN_cong {f g : Nat → Nat} : ∀ n, (∀ m, m < n → f m = g m) → sumN f n = sumN g n
  | 0, _ => rfl
  | n + 1, h => by
    show sumN f n + f n = sumN g n + g n
    rw [sumN_cong n (fun m hm => h m (by omega)), h n (by omega)]
theorem sumN_at {f : Nat → Nat} {k v : Nat} : ∀ n, sumN (fun m => f m + if m = k then v else 0) n = sumN f n + if k < n then v else 0
  | 0 => by simp [sumN]
  | n + 1 => by
    show sumN _ n + (f n + if n = k then v else 0) = sumN f n + f n + _
    rw [sumN_at n]
    by_cases e : n = k
    · subst e; simp; omega
    · by_cases e2 : k < n
      · have e3 : k < n + 1 := by omega
        rw [if_pos e2, if_pos e3, if_neg e]; omega
      · have e3 : ¬ k < n + 1 := by omega
        rw [if_neg e2, if_neg e3, if_neg e]; omega
def fN (a : Nat → Int32) (c : Nat) : Nat := sumN (fun m => cnt a (1620 + 64 * m + c)) 100
def mFill (a : Nat → Int32) : Prop := ∀ c, c < 64 → fN a c ≤ 20
def pFl (f0 : Nat → Nat) (ly : Nat → Bool) (st : (Nat → Nat) × Nat) : Nat → (Nat → Nat) × Nat
  | 0 => st
  | c + 1 => if ly c = true then (updN (pFl f0 ly st c).1 c ((pFl f0 ly st c).1 c + min (pFl f0 ly st c).2 (20 - (f0 c + (pFl f0 ly st c).1 c))), (pFl f0 ly st c).2 - min (pFl f0 ly st c).2 (20 - (f0 c + (pFl f0 ly st c).1 c))) else pFl f0 ly st c
def pLy (f0 : Nat → Nat) (ly : Nat → Nat → Bool) (n t : Nat) : Nat → (Nat → Nat) × Nat
  | 0 => (fun _ => 0, t)
  | s + 1 => pFl f0 (ly s) (pLy f0 ly n t s) n
def pOk (f0 : Nat → Nat) (t : Nat) (st : (Nat → Nat) × Nat) : Prop := (∀ c, c < 64 → f0 c + st.1 c ≤ 20) ∧ st.2 ≤ t
theorem pFl_ok {f0 : Nat → Nat} {ly : Nat → Bool} {t : Nat} {st : (Nat → Nat) × Nat} (h : pOk f0 t st) : ∀ c, pOk f0 t (pFl f0 ly st c)
  | 0 => h
  | c + 1 => by
    obtain ⟨h1, h2⟩ := pFl_ok (ly := ly) h c
    have e : pFl f0 ly st (c + 1) = if ly c = true then (updN (pFl f0 ly st c).1 c ((pFl f0 ly st c).1 c + min (pFl f0 ly st c).2 (20 - (f0 c + (pFl f0 ly st c).1 c))), (pFl f0 ly st c).2 - min (pFl f0 ly st c).2 (20 - (f0 c + (pFl f0 ly st c).1 c))) else pFl f0 ly st c := rfl
    rw [e]
    split
    · refine ⟨fun x hx => ?_, ?_⟩
      · simp only [updN]
        split
        · rename_i e; subst e; have := h1 x hx; omega
        · exact h1 x hx
      · show _ - _ ≤ t; omega
    · exact ⟨h1, h2⟩
theorem pLy_ok {f0 : Nat → Nat} {ly : Nat → Nat → Bool} {n t : Nat} (h0 : ∀ c, c < 64 → f0 c ≤ 20) : ∀ s, pOk f0 t (pLy f0 ly n t s)
  | 0 => ⟨h0, Nat.le_refl _⟩
  | s + 1 => pFl_ok (pLy_ok h0 s) n
/-- the layers of the sand -/
def rmB (a : Nat → Int32) (c : Nat) : Bool := decide (cnt a (20 + c) = 3)
abbrev sndL (w h : Nat) (a : Nat → Int32) (c0 s : Nat) : (Nat → Bool) × (Nat → Bool) := bfs (w * h) (fun c => decide (c = c0)) (rmB a) (adjB w h) s
def pour1 (w h : Nat) (a : Nat → Int32) (c0 t : Nat) : (Nat → Nat) × Nat := pLy (fN a) (fun s => (sndL w h a c0 s).1) (w * h) t 64
def cameA (a : Nat → Int32) (g : Nat → Nat) : Nat → Int32 := fun j => if 1620 + 64 * cnt a 0 ≤ j ∧ j < 1620 + 64 * cnt a 0 + 64 then nI (cnt a j + g (j - (1620 + 64 * cnt a 0))) else if j = 15 then nI (cnt a 15 + 1) else a j
def sp_pour (w h : Nat) (a : Nat → Int32) (c t : Int32) : Int32 × (Nat → Int32) := if (0 ≤ c.toInt ∧ c.toInt < w * h) ∧ cnt a (20 + c.toNatClampNeg) = 3 ∧ (1 ≤ t.toInt ∧ t.toInt ≤ 1000) ∧ cnt a 0 < 100 ∧ cnt a 15 < 40 then (nI (pour1 w h a c.toNatClampNeg t.toNatClampNeg).2, cameA a (pour1 w h a c.toNatClampNeg t.toNatClampNeg).1) else (-1, a)
theorem cameA_upd {a : Nat → Int32} {g : Nat → Nat} {c v : Nat} (hc : c < 64) (hclk : cnt a 0 < 100) : upd (cameA a g) (1620 + 64 * cnt a 0 + c) (nI (cnt a (1620 + 64 * cnt a 0 + c) + v)) = cameA a (updN g c v) := by
  funext j
  by_cases e : j = 1620 + 64 * cnt a 0 + c
  · subst e
    have : 1620 + 64 * cnt a 0 + c - (1620 + 64 * cnt a 0) = c := by omega
    simp only [upd, if_true, cameA]
    rw [if_pos (by omega), this]
    simp [updN]
  · simp only [upd, if_neg e, cameA]
    by_cases h : 1620 + 64 * cnt a 0 ≤ j ∧ j < 1620 + 64 * cnt a 0 + 64
    · rw [if_pos h, if_pos h]
      have : ¬ (j - (1620 + 64 * cnt a 0)) = c := by omega
      simp [updN, this]
    · rw [if_neg h, if_neg h]
theorem cameA_low {a : Nat → Int32} {g : Nat → Nat} {j : Nat} (h : j < 1620) (h2 : j ≠ 15) : cameA a g j = a j := by
  unfold cameA; rw [if_neg (by omega), if_neg h2]
theorem cameA_0 {a : Nat → Int32} (hce : mCells a) (hclk : cnt a 0 < 100) (h15 : a 15 = nI (cnt a 15)) : cameA a (fun _ => 0) = upd a 15 (nI (cnt a 15 + 1)) := by
  funext j
  unfold cameA
  by_cases h : 1620 + 64 * cnt a 0 ≤ j ∧ j < 1620 + 64 * cnt a 0 + 64
  · rw [if_pos h]
    obtain ⟨v, v1, v2⟩ := hce.2.2 (cnt a 0) (j - (1620 + 64 * cnt a 0)) hclk (by omega)
    rw [show 1620 + 64 * cnt a 0 + (j - (1620 + 64 * cnt a 0)) = j by omega] at v2
    have : ¬ j = 15 := by omega
    simp only [upd, if_neg this]
    rw [cnt_of v2 (by omega), v2]; rfl
  · rw [if_neg h]
    by_cases e : j = 15
    · subst e; simp [upd]
    · simp [upd, e]
theorem cameA_fill {a : Nat → Int32} {g : Nat → Nat} {c : Nat} (hce : mCells a) (hclk : cnt a 0 < 100) (hc : c < 64) (hb : fN a c + g c ≤ 20) : sp_sum (sp_came (cameA a g) c) 100 = nI (fN a c + g c) := by
  rw [sp_sum_N (f := fun m => cnt a (1620 + 64 * m + c) + if m = cnt a 0 then g c else 0)]
  · rw [sumN_at, if_pos hclk]; rfl
  · intro m hm
    obtain ⟨v, v1, v2⟩ := hce.2.2 m c hm hc
    unfold sp_came cameA
    by_cases e : m = cnt a 0
    · subst e
      rw [if_pos (by omega), if_pos rfl, show 1620 + 64 * cnt a 0 + c - (1620 + 64 * cnt a 0) = c by omega]
    · rw [if_neg (by omega), if_neg (by omega), if_neg e, cnt_of v2 (by omega), v2]
      rfl
section PI
variable {n : Nat} {op : Nat → Bool} {ho : Nat → Bool} {w h : Nat}
def poD (n : Nat) (ho op : Nat → Bool) (w h s i d : Nat) (st : Nat → Option Nat) : Prop := ∀ x k, st x = some k ↔ (k ≤ s ∧ (bfs n ho op (adjB w h) k).1 x = true) ∨ (k = s + 1 ∧ op x = true ∧ (bfs n ho op (adjB w h) s).2 x = false ∧ ((∃ y, y < i ∧ (bfs n ho op (adjB w h) s).1 y = true ∧ adjB w h y x = true) ∨ ∃ e, e < d ∧ sp_nb w h i e = some x))
theorem poD_step {s i d x : Nat} {st : Nat → Option Nat} (hp : poD n ho op w h s i d st) (h1 : sp_nb w h i d = some x) (h2 : op x = true) (h3 : st x = none) : poD n ho op w h s i (d + 1) (updO st x (s + 1)) := by
  have hns : (bfs n ho op (adjB w h) s).2 x = false := by
    cases hb : (bfs n ho op (adjB w h) s).2 x with
    | false => rfl
    | true =>
      obtain ⟨j, hj, hj2⟩ := bfs_seen.mp hb
      have := (hp x j).mpr (Or.inl ⟨hj, hj2⟩)
      rw [h3] at this; cases this
  intro y k
  by_cases e : y = x
  · subst e
    rw [updO_s]
    constructor
    · intro hk; cases hk; exact Or.inr ⟨rfl, h2, hns, Or.inr ⟨d, by omega, h1⟩⟩
    · rintro (⟨hk, hb⟩ | ⟨hk, -⟩)
      · have := (hp y k).mpr (Or.inl ⟨hk, hb⟩); rw [h3] at this; cases this
      · rw [hk]
  · rw [updO_n e, hp y k]
    constructor
    · rintro (h | ⟨e1, e2, e3, (e4 | ⟨f, f1, f2⟩)⟩)
      · exact Or.inl h
      · exact Or.inr ⟨e1, e2, e3, Or.inl e4⟩
      · exact Or.inr ⟨e1, e2, e3, Or.inr ⟨f, by omega, f2⟩⟩
    · rintro (h | ⟨e1, e2, e3, (e4 | ⟨f, f1, f2⟩)⟩)
      · exact Or.inl h
      · exact Or.inr ⟨e1, e2, e3, Or.inl e4⟩
      · refine Or.inr ⟨e1, e2, e3, Or.inr ⟨f, ?_, f2⟩⟩
        by_cases z : f = d
        · subst z; rw [h1] at f2; cases f2; exact absurd rfl e
        · omega
theorem poD_skip {s i d : Nat} {st : Nat → Option Nat} (hp : poD n ho op w h s i d st) (h1 : ∀ x, sp_nb w h i d = some x → op x = false ∨ st x ≠ none) : poD n ho op w h s i (d + 1) st := by
  intro y k
  rw [hp y k]
  constructor
  · rintro (h | ⟨e1, e2, e3, (e4 | ⟨f, f1, f2⟩)⟩)
    · exact Or.inl h
    · exact Or.inr ⟨e1, e2, e3, Or.inl e4⟩
    · exact Or.inr ⟨e1, e2, e3, Or.inr ⟨f, by omega, f2⟩⟩
  · rintro (h | ⟨e1, e2, e3, (e4 | ⟨f, f1, f2⟩)⟩)
    · exact Or.inl h
    · exact Or.inr ⟨e1, e2, e3, Or.inl e4⟩
    · by_cases z : f = d
      · subst z
        rcases h1 y f2 with h5 | h5
        · rw [e2] at h5; cases h5
        · obtain ⟨k', hk'⟩ := Option.ne_none_iff_exists'.mp h5
          rcases (hp y k').mp hk' with ⟨g1, g2⟩ | ⟨g1, g2, g3, g4⟩
          · have := bfs_seen.mpr ⟨k', g1, g2⟩; rw [e3] at this; cases this
          · exact Or.inr ⟨e1, e2, e3, g4⟩
      · exact Or.inr ⟨e1, e2, e3, Or.inr ⟨f, by omega, f2⟩⟩
theorem poD_at {s i d x : Nat} {st : Nat → Option Nat} (hp : poD n ho op w h s i d st) : st x = some s ↔ (bfs n ho op (adjB w h) s).1 x = true := by
  rw [hp x s]
  constructor
  · rintro (⟨_, h⟩ | ⟨h, _⟩)
    · exact h
    · omega
  · intro h; exact Or.inl ⟨Nat.le_refl _, h⟩
theorem poD_le {s i d x k : Nat} {st : Nat → Option Nat} (hp : poD n ho op w h s i d st) (hk : st x = some k) : k ≤ s + 1 := by
  rcases (hp x k).mp hk with h | h
  · omega
  · omega
theorem poD_next {s i : Nat} {st : Nat → Option Nat} (hp : poD n ho op w h s i 4 st) (hl : (bfs n ho op (adjB w h) s).1 i = true) : poD n ho op w h s (i + 1) 0 st := by
  intro y k
  rw [hp y k]
  constructor
  · rintro (h | ⟨e1, e2, e3, (⟨z, z1, z2⟩ | ⟨f, f1, f2⟩)⟩)
    · exact Or.inl h
    · exact Or.inr ⟨e1, e2, e3, Or.inl ⟨z, by omega, z2⟩⟩
    · exact Or.inr ⟨e1, e2, e3, Or.inl ⟨i, by omega, hl, anyB_iff.mpr ⟨f, f1, by simp [f2]⟩⟩⟩
  · rintro (h | ⟨e1, e2, e3, (⟨z, z1, z2, z3⟩ | ⟨f, f1, f2⟩)⟩)
    · exact Or.inl h
    · refine Or.inr ⟨e1, e2, e3, ?_⟩
      by_cases e : z = i
      · subst e
        obtain ⟨f, f1, f2⟩ := anyB_iff.mp z3
        exact Or.inr ⟨f, f1, by simpa using f2⟩
      · exact Or.inl ⟨z, by omega, z2, z3⟩
    · omega
theorem poD_none {s i : Nat} {st : Nat → Option Nat} (hp : poD n ho op w h s i 0 st) (hl : ¬ (bfs n ho op (adjB w h) s).1 i = true) : poD n ho op w h s (i + 1) 0 st := by
  intro y k
  rw [hp y k]
  constructor
  · rintro (h | ⟨e1, e2, e3, (⟨z, z1, z2⟩ | ⟨f, f1, f2⟩)⟩)
    · exact Or.inl h
    · exact Or.inr ⟨e1, e2, e3, Or.inl ⟨z, by omega, z2⟩⟩
    · omega
  · rintro (h | ⟨e1, e2, e3, (⟨z, z1, z2, z3⟩ | ⟨f, f1, f2⟩)⟩)
    · exact Or.inl h
    · refine Or.inr ⟨e1, e2, e3, Or.inl ⟨z, ?_, z2, z3⟩⟩
      by_cases e : z = i
      · subst e; exact absurd z2 hl
      · omega
    · omega
theorem poD_layer {s : Nat} {st : Nat → Option Nat} (hp : poD n ho op w h s n 0 st) : poD n ho op w h (s + 1) 0 0 st := by
  intro y k
  rw [hp y k]
  constructor
  · rintro (⟨h1, h2⟩ | ⟨e1, e2, e3, (⟨z, z1, z2, z3⟩ | ⟨f, f1, f2⟩)⟩)
    · exact Or.inl ⟨by omega, h2⟩
    · subst e1; exact Or.inl ⟨by omega, bfs_L.mpr ⟨e2, e3, z, z1, z2, z3⟩⟩
    · omega
  · rintro (⟨h1, h2⟩ | ⟨e1, e2, e3, (⟨z, z1, z2, z3⟩ | ⟨f, f1, f2⟩)⟩)
    · by_cases e : k = s + 1
      · subst e
        obtain ⟨g1, g2, z, z1, z2, z3⟩ := bfs_L.mp h2
        exact Or.inr ⟨rfl, g1, g2, Or.inl ⟨z, z1, z2, z3⟩⟩
      · exact Or.inl ⟨by omega, h2⟩
    · omega
    · omega
end PI
theorem sp_nbI_of {w h c d : Nat} : sp_nbI w h c d = stv (sp_nb w h c d) := by unfold sp_nbI; cases sp_nb w h c d <;> rfl
theorem stv_s {k : Nat} : stv (some k) = nI k := rfl
theorem stv_n : stv none = -1 := rfl
theorem arO_ext {g : Nat → Int32} {i : Nat} : upd (arO g i (fun _ => none)) i (-1) = arO g (i + 1) (fun _ => none) := by
  funext x
  by_cases e : x = i
  · subst e; simp [upd, arO, stv]
  · by_cases e2 : x < i
    · have : x < i + 1 := by omega
      simp [upd, arO, e, e2, this]
    · have : ¬ x < i + 1 := by omega
      simp [upd, arO, e, e2, this]
theorem pvs_self2 {I : pvI} {k l : Nat} {f : Nat → Int32} (h : l ≠ k := by decide) : pvs (pvs I k f) l (I l) = pvs I k f := by
  funext x
  by_cases e : x = l
  · subst e; rw [pvs_eq, pvs_ne h]
  · rw [pvs_ne e]
theorem t_pour {w h : Nat} {I : pvI} {J : pvJ} {P : pvP} (hP : pvOkP P) (hD : mDim w h I) (hg : mG (I 203)) (hce : mCells (I 203)) (hfl : mFill (I 203)) {c t : Int32} : pvMet mX12_pour 2 0 0 [.ref 202, .int c, .int t] 224 I J P (pvq P (fun v I' J' => v = some (.int (sp_pour w h (I 203) c t).1) ∧ mfix I I' [203, 206] ∧ I' 203 = (sp_pour w h (I 203) c t).2 ∧ J' = J)) := by
  have hD' := hD
  obtain ⟨hw, hh, hw2, hh2⟩ := hD
  have hwh : 4 ≤ w * h ∧ w * h ≤ 64 := ⟨Nat.mul_le_mul hw2.1 hh2.1, Nat.mul_le_mul hw2.2 hh2.2⟩
  obtain ⟨clk, clk_b, clk_h⟩ := hg 0 (by decide)
  replace clk_b : clk ≤ 100 := clk_b
  have clk_e : cnt (I 203) 0 = clk := cnt_of clk_h (by omega)
  obtain ⟨po, po_b, po_h⟩ := hg 15 (by decide)
  replace po_b : po ≤ 40 := po_b
  have po_e : cnt (I 203) 15 = po := cnt_of po_h (by omega)
  refine pvMet.of _ (by decide) rfl (Nat.le_of_ble_eq_true rfl) ?_
  refine g_aload_n dX12_pour_0 rfl ?_
  refine g_iload_n dX12_pour_1 rfl ?_
  refine p_callV (t_isCell hw hh hw2 hh2) okX12_isCell lkX12_100 rfl (by first | rfl | exact pv_shx) rfl (by omega) (by omega) dX12_pour_2 rfl (Nat.le_of_ble_eq_true rfl) (⟨by decide, by decide, by decide, by decide⟩) ?_
  refine n_if_eq 55 dX12_pour_5 (by decide) (by first | (with_reducible exact cB _) | ((with_reducible apply cN_eq0) <;> omega) | exact Iff.rfl) (fun c5 => ?_) (fun c5 => ?_)
  · skip
    refine g_iconst (v := (-1)) dX12_pour_55 (by decide) ?_
    exact g_iret dX12_pour_56 rfl (⟨rfl, rfl, by rw [show sp_pour w h (I 203) _ t = (-1, I 203) from if_neg (by first | omega | (rw [ec]; omega))], mfix.rf, by rw [show sp_pour w h (I 203) _ t = (-1, I 203) from if_neg (by first | omega | (rw [ec]; omega))], rfl⟩)
  · skip
    obtain ⟨cn, hcn, rfl⟩ := cI_of (x := c) (n := w * h) (by omega) (by omega) (by omega)
    have ec : (nI cn).toNatClampNeg = cn := nI_clamp (by omega)
    obtain ⟨kd, kd_b, kd_h⟩ := hce.1 cn (by omega)
    have kd_e : cnt (I 203) (20 + cn) = kd := cnt_of kd_h (by omega)
    refine g_aload_n dX12_pour_8 rfl ?_
    refine g_getP dX12_pour_9 fdX12_7 rfl (by first | rfl | exact pv_shx) (by omega) (by omega) (by decide) rfl (hP _ _ _ rfl) ?_
    refine g_bipush (v := nI 20) dX12_pour_12 (by decide) ?_
    refine g_iload_n dX12_pour_14 rfl ?_
    refine n_iadd dX12_pour_15 (by first | (with_reducible exact nI_add _ _) | rfl) ?_
    refine n_iald dX12_pour_16 (by first | rfl | exact pv_shx) (by omega) (by omega) (by decide) (rfl) (by omega) (by repeat (first | exact clk_h | exact po_h | exact kd_h | (apply rd_s; done) | apply rd_n (by omega) | apply rp_s | apply rp_n (by omega) | (apply rdL_s; done) | apply rdL_n (by omega) | apply rpJ_s | apply rpJ_n (by omega) | rfl)) ?_
    refine g_iconst (v := nI 3) dX12_pour_17 (by decide) ?_
    refine n_icmp_ne 55 dX12_pour_18 (by decide) (by first | ((with_reducible apply cN_eq) <;> omega) | ((with_reducible apply cI_eqn) <;> omega) | exact Iff.rfl) (fun c18 => ?_) (fun c18 => ?_)
    · skip
      refine g_iconst (v := (-1)) dX12_pour_55 (by decide) ?_
      exact g_iret dX12_pour_56 rfl (⟨rfl, rfl, by rw [show sp_pour w h (I 203) _ t = (-1, I 203) from if_neg (by first | omega | (rw [ec]; omega))], mfix.rf, by rw [show sp_pour w h (I 203) _ t = (-1, I 203) from if_neg (by first | omega | (rw [ec]; omega))], rfl⟩)
    · skip
      refine g_iload_n dX12_pour_21 rfl ?_
      refine g_iconst (v := nI 1) dX12_pour_22 (by decide) ?_
      refine g_sipush (v := nI 1000) dX12_pour_23 (by decide) ?_
      refine p_callS (t_isIn (by first | exact nI_toInt (by omega) | exact pk_sub_toInt (by omega) (by omega)) (by first | exact nI_toInt (by omega) | exact pk_sub_toInt (by omega) (by omega))) okX12_isIn lkX12_96 rfl dX12_pour_26 rfl (Nat.le_of_ble_eq_true rfl) (⟨by decide, by decide, by decide, by decide⟩) ?_
      refine n_if_eq 55 dX12_pour_29 (by decide) (by first | (with_reducible exact cB _) | ((with_reducible apply cN_eq0) <;> omega) | exact Iff.rfl) (fun c29 => ?_) (fun c29 => ?_)
      · skip
        refine g_iconst (v := (-1)) dX12_pour_55 (by decide) ?_
        exact g_iret dX12_pour_56 rfl (⟨rfl, rfl, by rw [show sp_pour w h (I 203) _ t = (-1, I 203) from if_neg (by first | omega | (rw [ec]; omega))], mfix.rf, by rw [show sp_pour w h (I 203) _ t = (-1, I 203) from if_neg (by first | omega | (rw [ec]; omega))], rfl⟩)
      · skip
        refine g_aload_n dX12_pour_32 rfl ?_
        refine g_getP dX12_pour_33 fdX12_7 rfl (by first | rfl | exact pv_shx) (by omega) (by omega) (by decide) rfl (hP _ _ _ rfl) ?_
        refine g_iconst (v := nI 0) dX12_pour_36 (by decide) ?_
        refine n_iald dX12_pour_37 (by first | rfl | exact pv_shx) (by omega) (by omega) (by decide) (rfl) (by omega) (by repeat (first | exact clk_h | exact po_h | exact kd_h | (apply rd_s; done) | apply rd_n (by omega) | apply rp_s | apply rp_n (by omega) | (apply rdL_s; done) | apply rdL_n (by omega) | apply rpJ_s | apply rpJ_n (by omega) | rfl)) ?_
        refine g_bipush (v := nI 100) dX12_pour_38 (by decide) ?_
        refine n_icmp_eq 55 dX12_pour_40 (by decide) (by first | ((with_reducible apply cN_eq) <;> omega) | ((with_reducible apply cI_eqn) <;> omega) | exact Iff.rfl) (fun c40 => ?_) (fun c40 => ?_)
        · skip
          refine g_iconst (v := (-1)) dX12_pour_55 (by decide) ?_
          exact g_iret dX12_pour_56 rfl (⟨rfl, rfl, by rw [show sp_pour w h (I 203) _ t = (-1, I 203) from if_neg (by first | omega | (rw [ec]; omega))], mfix.rf, by rw [show sp_pour w h (I 203) _ t = (-1, I 203) from if_neg (by first | omega | (rw [ec]; omega))], rfl⟩)
        · skip
          refine g_aload_n dX12_pour_43 rfl ?_
          refine g_getP dX12_pour_44 fdX12_7 rfl (by first | rfl | exact pv_shx) (by omega) (by omega) (by decide) rfl (hP _ _ _ rfl) ?_
          refine g_bipush (v := nI 15) dX12_pour_47 (by decide) ?_
          refine n_iald dX12_pour_49 (by first | rfl | exact pv_shx) (by omega) (by omega) (by decide) (rfl) (by omega) (by repeat (first | exact clk_h | exact po_h | exact kd_h | (apply rd_s; done) | apply rd_n (by omega) | apply rp_s | apply rp_n (by omega) | (apply rdL_s; done) | apply rdL_n (by omega) | apply rpJ_s | apply rpJ_n (by omega) | rfl)) ?_
          refine g_bipush (v := nI 40) dX12_pour_50 (by decide) ?_
          refine n_icmp_ne 57 dX12_pour_52 (by decide) (by first | ((with_reducible apply cN_eq) <;> omega) | ((with_reducible apply cI_eqn) <;> omega) | exact Iff.rfl) (fun c52 => ?_) (fun c52 => ?_)
          · skip
            obtain ⟨tn, htn, rfl⟩ := cI_of (x := t) (n := 1001) (by omega) (by omega) (by omega)
            have et : (nI tn).toNatClampNeg = tn := nI_clamp (by omega)
            have hans : sp_pour w h (I 203) (nI cn) (nI tn) = (nI (pour1 w h (I 203) cn tn).2, cameA (I 203) (pour1 w h (I 203) cn tn).1) := by rw [sp_pour, if_pos (by rw [ec]; omega), ec, et]
            have hq : (pvq P (fun v I' J' => v = some (.int (sp_pour w h (I 203) (nI cn) (nI tn)).1) ∧ mfix I I' [203, 206] ∧ I' 203 = (sp_pour w h (I 203) (nI cn) (nI tn)).2 ∧ J' = J)) = pvq P (fun v I' J' => v = some (.int (nI (pour1 w h (I 203) cn tn).2)) ∧ mfix I I' [203, 206] ∧ I' 203 = cameA (I 203) (pour1 w h (I 203) cn tn).1 ∧ J' = J) := by rw [hans]
            rw [hq]
            have hclk : cnt (I 203) 0 < 100 := by omega
            have hc0 := cameA_0 hce hclk (by rw [po_e]; exact po_h)
            rw [po_e] at hc0
            generalize hZ : pvZ (pvq P (fun v I' J' => v = some (.int (nI (pour1 w h (I 203) cn tn).2)) ∧ mfix I I' [203, 206] ∧ I' 203 = cameA (I 203) (pour1 w h (I 203) cn tn).1 ∧ J' = J)) 0 0 = Z
            unfold pour1 sndL at hZ
            generalize hop : rmB (I 203) = op at *
            generalize hho : (fun x => decide (x = cn)) = ho at *
            have bes : ∀ (f : Nat → Int32) (g : Nat → Nat) c d, c < w * h → d < 4 → pvMet mX12_beside 1 0 0 [.ref 202, .int (nI c), .int (nI d)] 224 (pvs (pvs I 203 (cameA (I 203) g)) 206 f) J P (pvpu (.int (stv (sp_nb w h c d))) 224 (pvs (pvs I 203 (cameA (I 203) g)) 206 f) J P) := by
              intro f g c d h1 h2
              rw [← sp_nbI_of]
              exact t_beside ⟨by rw [pvs_ne (by decide), pvs_ne (by decide)]; exact hw, by rw [pvs_ne (by decide), pvs_ne (by decide)]; exact hh, hw2, hh2⟩ h1 h2
            generalize haa : I 203 = a at *
            have one : ∀ s i st g lf, s < 64 → i < w * h → poD (w * h) ho op w h s i 0 st → (bfs (w * h) ho op (adjB w h) s).1 i = true → pOk (fN a) tn (g, lf) → (∀ st', poD (w * h) ho op w h s (i + 1) 0 st' → ∀ v6 v7 v8 v9, pvG mX12_pour (pvR 2 0 0) Z 261 [.ref 202, .int (nI cn), .int (nI tn), .int (nI (lf - min lf (20 - (fN a i + g i)))), .int (nI s), .int (nI i), v6, v7, v8, v9] [] 0 0 224 (pvs (pvs I 203 (cameA a (updN g i (g i + min lf (20 - (fN a i + g i)))))) 206 (arO (I 206) 64 st')) J P) →
                pvG mX12_pour (pvR 2 0 0) Z 140 [.ref 202, .int (nI cn), .int (nI tn), .int (nI lf), .int (nI s), .int (nI i), .retAddr 0, .retAddr 0, .retAddr 0, .retAddr 0] [] 0 0 224 (pvs (pvs I 203 (cameA a g)) 206 (arO (I 206) 64 st)) J P := by
              intro s i st g lf hs hi hp hl hok kk
              have hfi : fN a i + g i ≤ 20 := hok.1 i (by omega)
              have hlf : lf ≤ tn := hok.2
              have fo := t_fillOf (I := pvs (pvs I 203 (cameA a g)) 206 (arO (I 206) 64 st)) (J := J) (P := P) hP (c := i) (by omega)
              rw [pvs_ne (by decide), pvs_eq, cameA_fill hce hclk (by omega) hfi] at fo
              obtain ⟨cv, cv1, cv2⟩ := hce.2.2 (cnt a 0) i hclk (by omega)
              have cv3 : cnt a (1620 + 64 * cnt a 0 + i) = cv := cnt_of cv2 (by omega)
              have cl2 : cameA a g 0 = nI clk := by rw [cameA_low (by omega) (by omega)]; exact clk_h
              have rc : cameA a g (1620 + 64 * clk + i) = nI (cv + g i) := by
                unfold cameA
                rw [clk_e] at *
                rw [if_pos (by omega), show 1620 + 64 * clk + i - (1620 + 64 * clk) = i by omega, cv3]
              have up : ∀ v, upd (cameA a g) (1620 + 64 * clk + i) (nI (cv + v)) = cameA a (updN g i v) := fun v => by
                have := cameA_upd (a := a) (g := g) (c := i) (v := v) (by omega) hclk
                rw [clk_e] at this cv3
                rw [cv3] at this
                exact this
              have fin : ∀ lf' cm rm g', cm = min lf (20 - (fN a i + g i)) → lf' = lf - cm → g' = updN g i (g i + cm) → pvG mX12_pour (pvR 2 0 0) Z 199 [.ref 202, .int (nI cn), .int (nI tn), .int (nI lf'), .int (nI s), .int (nI i), .int (nI rm), .int (nI cm), .int (nI 0), .retAddr 0] [] 0 0 224 (pvs (pvs I 203 (cameA a g')) 206 (arO (I 206) 64 st)) J P := by
                intro lf' cm rm g' e1 e2 e3
                rw [← e1, ← e2, ← e3] at kk
                clear fo rc up hok e2 e3 e1
                generalize lf' = lf at *
                generalize g' = g at *
                -- the cell i of layer s, direction by direction
                have dl : ∀ q d st, d + q = 4 → poD (w * h) ho op w h s i d st → pvG mX12_pour (pvR 2 0 0) Z 199 [.ref 202, .int (nI cn), .int (nI tn), .int (nI lf), .int (nI s), .int (nI i), .int (nI rm), .int (nI cm), .int (nI d), .retAddr 0] [] 0 0 224 (pvs (pvs I 203 (cameA a g)) 206 (arO (I 206) 64 st)) J P := by
                  intro q
                  induction q with
                  | zero =>
                    intro d st hd hp
                    obtain rfl : d = 4 := by omega
                    refine g_iload dX12_pour_199 rfl ?_
                    refine g_iconst (v := nI 4) dX12_pour_201 (by decide) ?_
                    refine n_icmp_ge 261 dX12_pour_202 (by decide) (by first | ((with_reducible apply cN_le) <;> omega) | ((with_reducible apply cI_len) <;> omega) | ((with_reducible apply cI_nle) <;> omega) | (with_reducible exact cI_le)) (fun c202 => ?_) (fun c202 => by exfalso; first | omega | exact absurd trivial c202 | exact c202)
                    exact kk _ (poD_next hp hl) _ _ _ _
                  | succ q ih =>
                    intro d st hd hp
                    have bs := bes (arO (I 206) 64 st) g i d hi (by omega)
                    cases hn : sp_nb w h i d with
                    | none =>
                      rw [hn, stv_n] at bs
                      have h4 := ih (d + 1) st (by omega) (poD_skip hp (fun x hx => by rw [hn] at hx; cases hx))
                      refine g_iload dX12_pour_199 rfl ?_
                      refine g_iconst (v := nI 4) dX12_pour_201 (by decide) ?_
                      refine n_icmp_ge 261 dX12_pour_202 (by decide) (by first | ((with_reducible apply cN_le) <;> omega) | ((with_reducible apply cI_len) <;> omega) | ((with_reducible apply cI_nle) <;> omega) | (with_reducible exact cI_le)) (fun c202 => by exfalso; first | omega | exact absurd trivial c202 | exact c202) (fun c202 => ?_)
                      refine g_aload_n dX12_pour_205 rfl ?_
                      refine g_iload dX12_pour_206 rfl ?_
                      refine g_iload dX12_pour_208 rfl ?_
                      refine p_callV (bs) okX12_beside lkX12_111 rfl (by first | rfl | exact pv_shx) rfl (by omega) (by omega) dX12_pour_210 rfl (Nat.le_of_ble_eq_true rfl) (⟨by decide, by decide, by decide, by decide⟩) ?_
                      refine g_istore dX12_pour_213 (by decide) rfl ?_
                      refine g_iload dX12_pour_215 rfl ?_
                      refine n_if_lt 255 dX12_pour_217 (by decide) (cI_lt0) (fun c217 => ?_) (fun c217 => by exfalso; exact c217 (by decide))
                      refine g_iinc dX12_pour_255 rfl (by first | (with_reducible exact nI_1 _) | exact nI_1 _ | exact pk_m1 _ | rfl) (by decide) rfl ?_
                      refine g_goto 199 dX12_pour_258 (by decide) ?_
                      exact g_drop _ (by repeat (first | exact trivial | refine ⟨Or.inr ⟨_, rfl⟩, ?_⟩ | refine ⟨Or.inl rfl, ?_⟩)) h4
                    | some x =>
                      rw [hn, stv_s] at bs
                      have hx := sp_nb_lt (by omega) hi hn
                      obtain ⟨kx, kx_b, kx_h⟩ := hce.1 x (by omega)
                      have kx_e : cnt a (20 + x) = kx := cnt_of kx_h (by omega)
                      have rx : cameA a g (20 + x) = nI kx := by rw [cameA_low (by omega) (by omega)]; exact kx_h
                      have sx : arO (I 206) 64 st x = stv (st x) := arO_at (by omega)
                      have opx : op x = true ↔ kx = 3 := by rw [← hop]; unfold rmB; rw [kx_e]; simp
                      cases hs : st x with
                      | none =>
                        rw [hs, stv_n] at sx
                        by_cases c3 : kx = 3
                        · have h4 := ih (d + 1) (updO st x (s + 1)) (by omega) (poD_step hp hn (opx.mpr c3) hs)
                          refine g_iload dX12_pour_199 rfl ?_
                          refine g_iconst (v := nI 4) dX12_pour_201 (by decide) ?_
                          refine n_icmp_ge 261 dX12_pour_202 (by decide) (by first | ((with_reducible apply cN_le) <;> omega) | ((with_reducible apply cI_len) <;> omega) | ((with_reducible apply cI_nle) <;> omega) | (with_reducible exact cI_le)) (fun c202 => by exfalso; first | omega | exact absurd trivial c202 | exact c202) (fun c202 => ?_)
                          refine g_aload_n dX12_pour_205 rfl ?_
                          refine g_iload dX12_pour_206 rfl ?_
                          refine g_iload dX12_pour_208 rfl ?_
                          refine p_callV (bs) okX12_beside lkX12_111 rfl (by first | rfl | exact pv_shx) rfl (by omega) (by omega) dX12_pour_210 rfl (Nat.le_of_ble_eq_true rfl) (⟨by decide, by decide, by decide, by decide⟩) ?_
                          refine g_istore dX12_pour_213 (by decide) rfl ?_
                          refine g_iload dX12_pour_215 rfl ?_
                          refine n_if_lt 255 dX12_pour_217 (by decide) (by first | ((with_reducible apply cN_lt0) <;> omega) | (with_reducible exact cI_lt0)) (fun c217 => by exfalso; first | omega | exact absurd trivial c217 | exact c217) (fun c217 => ?_)
                          refine g_aload_n dX12_pour_220 rfl ?_
                          refine g_getP dX12_pour_221 fdX12_7 rfl (by first | rfl | exact pv_shx) (by omega) (by omega) (by decide) rfl (hP _ _ _ rfl) ?_
                          refine g_bipush (v := nI 20) dX12_pour_224 (by decide) ?_
                          refine g_iload dX12_pour_226 rfl ?_
                          refine n_iadd dX12_pour_228 (by first | (with_reducible exact nI_add _ _) | rfl) ?_
                          refine n_iald dX12_pour_229 (by first | rfl | exact pv_shx) (by omega) (by omega) (by decide) (rfl) (by omega) (by repeat (first | exact rx | exact sx | (apply rd_s; done) | apply rd_n (by omega) | apply rp_s | apply rp_n (by omega) | (apply rdL_s; done) | apply rdL_n (by omega) | apply rpJ_s | apply rpJ_n (by omega) | rfl)) ?_
                          refine g_iconst (v := nI 3) dX12_pour_230 (by decide) ?_
                          refine n_icmp_ne 255 dX12_pour_231 (by decide) (by first | ((with_reducible apply cN_eq) <;> omega) | ((with_reducible apply cI_eqn) <;> omega) | exact Iff.rfl) (fun c231 => by exfalso; first | omega | exact absurd trivial c231 | exact c231) (fun c231 => ?_)
                          refine g_aload_n dX12_pour_234 rfl ?_
                          refine g_getP dX12_pour_235 fdX12_19 rfl (by first | rfl | exact pv_shx) (by omega) (by omega) (by decide) rfl (hP _ _ _ rfl) ?_
                          refine g_iload dX12_pour_238 rfl ?_
                          refine n_iald dX12_pour_240 (by first | rfl | exact pv_shx) (by omega) (by omega) (by decide) (rfl) (by omega) (by repeat (first | exact rx | exact sx | (apply rd_s; done) | apply rd_n (by omega) | apply rp_s | apply rp_n (by omega) | (apply rdL_s; done) | apply rdL_n (by omega) | apply rpJ_s | apply rpJ_n (by omega) | rfl)) ?_
                          refine n_if_ge 255 dX12_pour_241 (by decide) (cI_ge0) (fun c241 => by exfalso; exact absurd c241 (by decide)) (fun c241 => ?_)
                          refine g_aload_n dX12_pour_244 rfl ?_
                          refine g_getP dX12_pour_245 fdX12_19 rfl (by first | rfl | exact pv_shx) (by omega) (by omega) (by decide) rfl (hP _ _ _ rfl) ?_
                          refine g_iload dX12_pour_248 rfl ?_
                          refine g_iload dX12_pour_250 rfl ?_
                          refine g_iconst (v := nI 1) dX12_pour_252 (by decide) ?_
                          refine n_iadd dX12_pour_253 (by first | (with_reducible exact nI_add _ _) | rfl) ?_
                          refine n_iast dX12_pour_254 (by first | rfl | exact pv_shx) (by omega) (by omega) (by omega) (by decide) (rfl) (by omega) (by repeat (first | exact pvu_s | exact pvuJ_s | apply pvu_in (by omega) | apply pvuJ_in (by omega) | exact pvu_pvs | exact pvuJ_pvs)) ?_
                          refine g_iinc dX12_pour_255 rfl (by first | (with_reducible exact nI_1 _) | exact nI_1 _ | exact pk_m1 _ | rfl) (by decide) rfl ?_
                          refine g_goto 199 dX12_pour_258 (by decide) ?_
                          rw [arO_upd (by omega)]
                          exact g_drop _ (by repeat (first | exact trivial | refine ⟨Or.inr ⟨_, rfl⟩, ?_⟩ | refine ⟨Or.inl rfl, ?_⟩)) h4
                        · have h4 := ih (d + 1) st (by omega) (poD_skip hp (fun y hy => by rw [hn] at hy; cases hy; exact Or.inl (by cases ho2 : op x with | false => rfl | true => exact absurd (opx.mp ho2) c3)))
                          refine g_iload dX12_pour_199 rfl ?_
                          refine g_iconst (v := nI 4) dX12_pour_201 (by decide) ?_
                          refine n_icmp_ge 261 dX12_pour_202 (by decide) (by first | ((with_reducible apply cN_le) <;> omega) | ((with_reducible apply cI_len) <;> omega) | ((with_reducible apply cI_nle) <;> omega) | (with_reducible exact cI_le)) (fun c202 => by exfalso; first | omega | exact absurd trivial c202 | exact c202) (fun c202 => ?_)
                          refine g_aload_n dX12_pour_205 rfl ?_
                          refine g_iload dX12_pour_206 rfl ?_
                          refine g_iload dX12_pour_208 rfl ?_
                          refine p_callV (bs) okX12_beside lkX12_111 rfl (by first | rfl | exact pv_shx) rfl (by omega) (by omega) dX12_pour_210 rfl (Nat.le_of_ble_eq_true rfl) (⟨by decide, by decide, by decide, by decide⟩) ?_
                          refine g_istore dX12_pour_213 (by decide) rfl ?_
                          refine g_iload dX12_pour_215 rfl ?_
                          refine n_if_lt 255 dX12_pour_217 (by decide) (by first | ((with_reducible apply cN_lt0) <;> omega) | (with_reducible exact cI_lt0)) (fun c217 => by exfalso; first | omega | exact absurd trivial c217 | exact c217) (fun c217 => ?_)
                          refine g_aload_n dX12_pour_220 rfl ?_
                          refine g_getP dX12_pour_221 fdX12_7 rfl (by first | rfl | exact pv_shx) (by omega) (by omega) (by decide) rfl (hP _ _ _ rfl) ?_
                          refine g_bipush (v := nI 20) dX12_pour_224 (by decide) ?_
                          refine g_iload dX12_pour_226 rfl ?_
                          refine n_iadd dX12_pour_228 (by first | (with_reducible exact nI_add _ _) | rfl) ?_
                          refine n_iald dX12_pour_229 (by first | rfl | exact pv_shx) (by omega) (by omega) (by decide) (rfl) (by omega) (by repeat (first | exact rx | exact sx | (apply rd_s; done) | apply rd_n (by omega) | apply rp_s | apply rp_n (by omega) | (apply rdL_s; done) | apply rdL_n (by omega) | apply rpJ_s | apply rpJ_n (by omega) | rfl)) ?_
                          refine g_iconst (v := nI 3) dX12_pour_230 (by decide) ?_
                          refine n_icmp_ne 255 dX12_pour_231 (by decide) (by first | ((with_reducible apply cN_eq) <;> omega) | ((with_reducible apply cI_eqn) <;> omega) | exact Iff.rfl) (fun c231 => ?_) (fun c231 => by exfalso; first | omega | exact absurd trivial c231 | exact c231)
                          refine g_iinc dX12_pour_255 rfl (by first | (with_reducible exact nI_1 _) | exact nI_1 _ | exact pk_m1 _ | rfl) (by decide) rfl ?_
                          refine g_goto 199 dX12_pour_258 (by decide) ?_
                          exact g_drop _ (by repeat (first | exact trivial | refine ⟨Or.inr ⟨_, rfl⟩, ?_⟩ | refine ⟨Or.inl rfl, ?_⟩)) h4
                      | some k =>
                        rw [hs, stv_s] at sx
                        have hk := poD_le hp hs
                        have h4 := ih (d + 1) st (by omega) (poD_skip hp (fun y hy => by rw [hn] at hy; cases hy; exact Or.inr (by rw [hs]; simp)))
                        by_cases c3 : kx = 3
                        · skip
                          refine g_iload dX12_pour_199 rfl ?_
                          refine g_iconst (v := nI 4) dX12_pour_201 (by decide) ?_
                          refine n_icmp_ge 261 dX12_pour_202 (by decide) (by first | ((with_reducible apply cN_le) <;> omega) | ((with_reducible apply cI_len) <;> omega) | ((with_reducible apply cI_nle) <;> omega) | (with_reducible exact cI_le)) (fun c202 => by exfalso; first | omega | exact absurd trivial c202 | exact c202) (fun c202 => ?_)
                          refine g_aload_n dX12_pour_205 rfl ?_
                          refine g_iload dX12_pour_206 rfl ?_
                          refine g_iload dX12_pour_208 rfl ?_
                          refine p_callV (bs) okX12_beside lkX12_111 rfl (by first | rfl | exact pv_shx) rfl (by omega) (by omega) dX12_pour_210 rfl (Nat.le_of_ble_eq_true rfl) (⟨by decide, by decide, by decide, by decide⟩) ?_
                          refine g_istore dX12_pour_213 (by decide) rfl ?_
                          refine g_iload dX12_pour_215 rfl ?_
                          refine n_if_lt 255 dX12_pour_217 (by decide) (by first | ((with_reducible apply cN_lt0) <;> omega) | (with_reducible exact cI_lt0)) (fun c217 => by exfalso; first | omega | exact absurd trivial c217 | exact c217) (fun c217 => ?_)
                          refine g_aload_n dX12_pour_220 rfl ?_
                          refine g_getP dX12_pour_221 fdX12_7 rfl (by first | rfl | exact pv_shx) (by omega) (by omega) (by decide) rfl (hP _ _ _ rfl) ?_
                          refine g_bipush (v := nI 20) dX12_pour_224 (by decide) ?_
                          refine g_iload dX12_pour_226 rfl ?_
                          refine n_iadd dX12_pour_228 (by first | (with_reducible exact nI_add _ _) | rfl) ?_
                          refine n_iald dX12_pour_229 (by first | rfl | exact pv_shx) (by omega) (by omega) (by decide) (rfl) (by omega) (by repeat (first | exact rx | exact sx | (apply rd_s; done) | apply rd_n (by omega) | apply rp_s | apply rp_n (by omega) | (apply rdL_s; done) | apply rdL_n (by omega) | apply rpJ_s | apply rpJ_n (by omega) | rfl)) ?_
                          refine g_iconst (v := nI 3) dX12_pour_230 (by decide) ?_
                          refine n_icmp_ne 255 dX12_pour_231 (by decide) (by first | ((with_reducible apply cN_eq) <;> omega) | ((with_reducible apply cI_eqn) <;> omega) | exact Iff.rfl) (fun c231 => by exfalso; first | omega | exact absurd trivial c231 | exact c231) (fun c231 => ?_)
                          refine g_aload_n dX12_pour_234 rfl ?_
                          refine g_getP dX12_pour_235 fdX12_19 rfl (by first | rfl | exact pv_shx) (by omega) (by omega) (by decide) rfl (hP _ _ _ rfl) ?_
                          refine g_iload dX12_pour_238 rfl ?_
                          refine n_iald dX12_pour_240 (by first | rfl | exact pv_shx) (by omega) (by omega) (by decide) (rfl) (by omega) (by repeat (first | exact rx | exact sx | (apply rd_s; done) | apply rd_n (by omega) | apply rp_s | apply rp_n (by omega) | (apply rdL_s; done) | apply rdL_n (by omega) | apply rpJ_s | apply rpJ_n (by omega) | rfl)) ?_
                          refine n_if_ge 255 dX12_pour_241 (by decide) (by first | ((with_reducible apply cN_ge0) <;> omega) | (with_reducible exact cI_ge0)) (fun c241 => ?_) (fun c241 => by exfalso; first | omega | exact absurd trivial c241 | exact c241)
                          refine g_iinc dX12_pour_255 rfl (by first | (with_reducible exact nI_1 _) | exact nI_1 _ | exact pk_m1 _ | rfl) (by decide) rfl ?_
                          refine g_goto 199 dX12_pour_258 (by decide) ?_
                          exact g_drop _ (by repeat (first | exact trivial | refine ⟨Or.inr ⟨_, rfl⟩, ?_⟩ | refine ⟨Or.inl rfl, ?_⟩)) h4
                        · skip
                          refine g_iload dX12_pour_199 rfl ?_
                          refine g_iconst (v := nI 4) dX12_pour_201 (by decide) ?_
                          refine n_icmp_ge 261 dX12_pour_202 (by decide) (by first | ((with_reducible apply cN_le) <;> omega) | ((with_reducible apply cI_len) <;> omega) | ((with_reducible apply cI_nle) <;> omega) | (with_reducible exact cI_le)) (fun c202 => by exfalso; first | omega | exact absurd trivial c202 | exact c202) (fun c202 => ?_)
                          refine g_aload_n dX12_pour_205 rfl ?_
                          refine g_iload dX12_pour_206 rfl ?_
                          refine g_iload dX12_pour_208 rfl ?_
                          refine p_callV (bs) okX12_beside lkX12_111 rfl (by first | rfl | exact pv_shx) rfl (by omega) (by omega) dX12_pour_210 rfl (Nat.le_of_ble_eq_true rfl) (⟨by decide, by decide, by decide, by decide⟩) ?_
                          refine g_istore dX12_pour_213 (by decide) rfl ?_
                          refine g_iload dX12_pour_215 rfl ?_
                          refine n_if_lt 255 dX12_pour_217 (by decide) (by first | ((with_reducible apply cN_lt0) <;> omega) | (with_reducible exact cI_lt0)) (fun c217 => by exfalso; first | omega | exact absurd trivial c217 | exact c217) (fun c217 => ?_)
                          refine g_aload_n dX12_pour_220 rfl ?_
                          refine g_getP dX12_pour_221 fdX12_7 rfl (by first | rfl | exact pv_shx) (by omega) (by omega) (by decide) rfl (hP _ _ _ rfl) ?_
                          refine g_bipush (v := nI 20) dX12_pour_224 (by decide) ?_
                          refine g_iload dX12_pour_226 rfl ?_
                          refine n_iadd dX12_pour_228 (by first | (with_reducible exact nI_add _ _) | rfl) ?_
                          refine n_iald dX12_pour_229 (by first | rfl | exact pv_shx) (by omega) (by omega) (by decide) (rfl) (by omega) (by repeat (first | exact rx | exact sx | (apply rd_s; done) | apply rd_n (by omega) | apply rp_s | apply rp_n (by omega) | (apply rdL_s; done) | apply rdL_n (by omega) | apply rpJ_s | apply rpJ_n (by omega) | rfl)) ?_
                          refine g_iconst (v := nI 3) dX12_pour_230 (by decide) ?_
                          refine n_icmp_ne 255 dX12_pour_231 (by decide) (by first | ((with_reducible apply cN_eq) <;> omega) | ((with_reducible apply cI_eqn) <;> omega) | exact Iff.rfl) (fun c231 => ?_) (fun c231 => by exfalso; first | omega | exact absurd trivial c231 | exact c231)
                          refine g_iinc dX12_pour_255 rfl (by first | (with_reducible exact nI_1 _) | exact nI_1 _ | exact pk_m1 _ | rfl) (by decide) rfl ?_
                          refine g_goto 199 dX12_pour_258 (by decide) ?_
                          exact g_drop _ (by repeat (first | exact trivial | refine ⟨Or.inr ⟨_, rfl⟩, ?_⟩ | refine ⟨Or.inl rfl, ?_⟩)) h4
                exact dl 4 0 st (by omega) hp
              have ug : ∀ cm, upd (cameA a g) (1620 + 64 * clk + i) (nI (cv + g i + cm)) = cameA a (updN g i (g i + cm)) := fun cm => by rw [Nat.add_assoc cv]; exact up _
              by_cases c5 : lf < 20 - (fN a i + g i)
              · have h5 := fin (lf - lf) lf (20 - (fN a i + g i)) _ (by omega) rfl rfl
                refine g_bipush (v := nI 20) dX12_pour_140 (by decide) ?_
                refine g_aload_n dX12_pour_142 rfl ?_
                refine g_iload dX12_pour_143 rfl ?_
                refine p_callV (fo) okX12_fillOf lkX12_107 rfl (by first | rfl | exact pv_shx) rfl (by omega) (by omega) dX12_pour_145 rfl (Nat.le_of_ble_eq_true rfl) (⟨by decide, by decide, by decide, by decide⟩) ?_
                refine n_isub dX12_pour_148 (by first | ((with_reducible apply pk_sub) <;> omega) | rfl) ?_
                refine g_istore dX12_pour_149 (by decide) rfl ?_
                refine g_iload_n dX12_pour_151 rfl ?_
                refine g_iload dX12_pour_152 rfl ?_
                refine n_icmp_ge 161 dX12_pour_154 (by decide) (by first | ((with_reducible apply cN_le) <;> omega) | ((with_reducible apply cI_len) <;> omega) | ((with_reducible apply cI_nle) <;> omega) | (with_reducible exact cI_le)) (fun c154 => by exfalso; first | omega | exact absurd trivial c154 | exact c154) (fun c154 => ?_)
                refine g_iload_n dX12_pour_157 rfl ?_
                refine g_goto 163 dX12_pour_158 (by decide) ?_
                refine g_istore dX12_pour_163 (by decide) rfl ?_
                refine g_aload_n dX12_pour_165 rfl ?_
                refine g_getP dX12_pour_166 fdX12_7 rfl (by first | rfl | exact pv_shx) (by omega) (by omega) (by decide) rfl (hP _ _ _ rfl) ?_
                refine g_sipush (v := nI 1620) dX12_pour_169 (by decide) ?_
                refine g_bipush (v := nI 64) dX12_pour_172 (by decide) ?_
                refine g_aload_n dX12_pour_174 rfl ?_
                refine g_getP dX12_pour_175 fdX12_7 rfl (by first | rfl | exact pv_shx) (by omega) (by omega) (by decide) rfl (hP _ _ _ rfl) ?_
                refine g_iconst (v := nI 0) dX12_pour_178 (by decide) ?_
                refine n_iald dX12_pour_179 (by first | rfl | exact pv_shx) (by omega) (by omega) (by decide) (rfl) (by omega) (by repeat (first | exact cl2 | exact rc | (apply rd_s; done) | apply rd_n (by omega) | apply rp_s | apply rp_n (by omega) | (apply rdL_s; done) | apply rdL_n (by omega) | apply rpJ_s | apply rpJ_n (by omega) | rfl)) ?_
                refine n_imul dX12_pour_180 (by first | (with_reducible exact pk_mul _ _) | rfl) ?_
                refine n_iadd dX12_pour_181 (by first | (with_reducible exact nI_add _ _) | rfl) ?_
                refine g_iload dX12_pour_182 rfl ?_
                refine n_iadd dX12_pour_184 (by first | (with_reducible exact nI_add _ _) | rfl) ?_
                refine g_dup2 dX12_pour_185 rfl rfl ?_
                refine n_iald dX12_pour_186 (by first | rfl | exact pv_shx) (by omega) (by omega) (by decide) (rfl) (by omega) (by repeat (first | exact cl2 | exact rc | (apply rd_s; done) | apply rd_n (by omega) | apply rp_s | apply rp_n (by omega) | (apply rdL_s; done) | apply rdL_n (by omega) | apply rpJ_s | apply rpJ_n (by omega) | rfl)) ?_
                refine g_iload dX12_pour_187 rfl ?_
                refine n_iadd dX12_pour_189 (by first | (with_reducible exact nI_add _ _) | rfl) ?_
                refine n_iast dX12_pour_190 (by first | rfl | exact pv_shx) (by omega) (by omega) (by omega) (by decide) (rfl) (by omega) (by repeat (first | exact pvu_s | exact pvuJ_s | apply pvu_in (by omega) | apply pvuJ_in (by omega) | exact pvu_pvs | exact pvuJ_pvs)) ?_
                refine g_iload_n dX12_pour_191 rfl ?_
                refine g_iload dX12_pour_192 rfl ?_
                refine n_isub dX12_pour_194 (by first | ((with_reducible apply pk_sub) <;> omega) | rfl) ?_
                refine g_istore_n dX12_pour_195 (by decide) rfl ?_
                refine g_iconst (v := nI 0) dX12_pour_196 (by decide) ?_
                refine g_istore dX12_pour_197 (by decide) rfl ?_
                rw [ug]
                exact g_drop _ (by repeat (first | exact trivial | refine ⟨Or.inr ⟨_, rfl⟩, ?_⟩ | refine ⟨Or.inl rfl, ?_⟩)) h5
              · have h5 := fin (lf - (20 - (fN a i + g i))) (20 - (fN a i + g i)) (20 - (fN a i + g i)) _ (by omega) rfl rfl
                refine g_bipush (v := nI 20) dX12_pour_140 (by decide) ?_
                refine g_aload_n dX12_pour_142 rfl ?_
                refine g_iload dX12_pour_143 rfl ?_
                refine p_callV (fo) okX12_fillOf lkX12_107 rfl (by first | rfl | exact pv_shx) rfl (by omega) (by omega) dX12_pour_145 rfl (Nat.le_of_ble_eq_true rfl) (⟨by decide, by decide, by decide, by decide⟩) ?_
                refine n_isub dX12_pour_148 (by first | ((with_reducible apply pk_sub) <;> omega) | rfl) ?_
                refine g_istore dX12_pour_149 (by decide) rfl ?_
                refine g_iload_n dX12_pour_151 rfl ?_
                refine g_iload dX12_pour_152 rfl ?_
                refine n_icmp_ge 161 dX12_pour_154 (by decide) (by first | ((with_reducible apply cN_le) <;> omega) | ((with_reducible apply cI_len) <;> omega) | ((with_reducible apply cI_nle) <;> omega) | (with_reducible exact cI_le)) (fun c154 => ?_) (fun c154 => by exfalso; first | omega | exact absurd trivial c154 | exact c154)
                refine g_iload dX12_pour_161 rfl ?_
                refine g_istore dX12_pour_163 (by decide) rfl ?_
                refine g_aload_n dX12_pour_165 rfl ?_
                refine g_getP dX12_pour_166 fdX12_7 rfl (by first | rfl | exact pv_shx) (by omega) (by omega) (by decide) rfl (hP _ _ _ rfl) ?_
                refine g_sipush (v := nI 1620) dX12_pour_169 (by decide) ?_
                refine g_bipush (v := nI 64) dX12_pour_172 (by decide) ?_
                refine g_aload_n dX12_pour_174 rfl ?_
                refine g_getP dX12_pour_175 fdX12_7 rfl (by first | rfl | exact pv_shx) (by omega) (by omega) (by decide) rfl (hP _ _ _ rfl) ?_
                refine g_iconst (v := nI 0) dX12_pour_178 (by decide) ?_
                refine n_iald dX12_pour_179 (by first | rfl | exact pv_shx) (by omega) (by omega) (by decide) (rfl) (by omega) (by repeat (first | exact cl2 | exact rc | (apply rd_s; done) | apply rd_n (by omega) | apply rp_s | apply rp_n (by omega) | (apply rdL_s; done) | apply rdL_n (by omega) | apply rpJ_s | apply rpJ_n (by omega) | rfl)) ?_
                refine n_imul dX12_pour_180 (by first | (with_reducible exact pk_mul _ _) | rfl) ?_
                refine n_iadd dX12_pour_181 (by first | (with_reducible exact nI_add _ _) | rfl) ?_
                refine g_iload dX12_pour_182 rfl ?_
                refine n_iadd dX12_pour_184 (by first | (with_reducible exact nI_add _ _) | rfl) ?_
                refine g_dup2 dX12_pour_185 rfl rfl ?_
                refine n_iald dX12_pour_186 (by first | rfl | exact pv_shx) (by omega) (by omega) (by decide) (rfl) (by omega) (by repeat (first | exact cl2 | exact rc | (apply rd_s; done) | apply rd_n (by omega) | apply rp_s | apply rp_n (by omega) | (apply rdL_s; done) | apply rdL_n (by omega) | apply rpJ_s | apply rpJ_n (by omega) | rfl)) ?_
                refine g_iload dX12_pour_187 rfl ?_
                refine n_iadd dX12_pour_189 (by first | (with_reducible exact nI_add _ _) | rfl) ?_
                refine n_iast dX12_pour_190 (by first | rfl | exact pv_shx) (by omega) (by omega) (by omega) (by decide) (rfl) (by omega) (by repeat (first | exact pvu_s | exact pvuJ_s | apply pvu_in (by omega) | apply pvuJ_in (by omega) | exact pvu_pvs | exact pvuJ_pvs)) ?_
                refine g_iload_n dX12_pour_191 rfl ?_
                refine g_iload dX12_pour_192 rfl ?_
                refine n_isub dX12_pour_194 (by first | ((with_reducible apply pk_sub) <;> omega) | rfl) ?_
                refine g_istore_n dX12_pour_195 (by decide) rfl ?_
                refine g_iconst (v := nI 0) dX12_pour_196 (by decide) ?_
                refine g_istore dX12_pour_197 (by decide) rfl ?_
                rw [ug]
                exact g_drop _ (by repeat (first | exact trivial | refine ⟨Or.inr ⟨_, rfl⟩, ?_⟩ | refine ⟨Or.inl rfl, ?_⟩)) h5
            generalize hly : (fun s => (bfs (w * h) ho op (adjB w h) s).1) = ly at *
            have hlys : ∀ s, ly s = (bfs (w * h) ho op (adjB w h) s).1 := fun s => by rw [← hly]
            -- a layer
            have lay : ∀ s pst, s < 64 → pOk (fN a) tn pst → (∀ st, poD (w * h) ho op w h (s + 1) 0 0 st → ∀ v5, pvG mX12_pour (pvR 2 0 0) Z 267 [.ref 202, .int (nI cn), .int (nI tn), .int (nI (pFl (fN a) (ly s) pst (w * h)).2), .int (nI s), v5, .retAddr 0, .retAddr 0, .retAddr 0, .retAddr 0] [] 0 0 224 (pvs (pvs I 203 (cameA a (pFl (fN a) (ly s) pst (w * h)).1)) 206 (arO (I 206) 64 st)) J P) →
                ∀ q i st, i + q = w * h → poD (w * h) ho op w h s i 0 st → pvG mX12_pour (pvR 2 0 0) Z 111 [.ref 202, .int (nI cn), .int (nI tn), .int (nI (pFl (fN a) (ly s) pst i).2), .int (nI s), .int (nI i), .retAddr 0, .retAddr 0, .retAddr 0, .retAddr 0] [] 0 0 224 (pvs (pvs I 203 (cameA a (pFl (fN a) (ly s) pst i).1)) 206 (arO (I 206) 64 st)) J P := by
              intro s pst hs hok kk q
              induction q with
              | zero =>
                intro i st hi hp
                obtain rfl : i = w * h := by omega
                refine g_iload dX12_pour_111 rfl ?_
                refine g_aload_n dX12_pour_113 rfl ?_
                refine n_getI dX12_pour_114 fdX12_86 rfl (by first | rfl | exact pv_shx) (by omega) (by omega) (by decide) rfl (by repeat (first | exact hw | exact hh | (apply rd_s; done) | apply rd_n (by omega) | apply rp_s | apply rp_n (by omega) | (apply rdL_s; done) | apply rdL_n (by omega) | apply rpJ_s | apply rpJ_n (by omega) | rfl)) ?_
                refine g_aload_n dX12_pour_117 rfl ?_
                refine n_getI dX12_pour_118 fdX12_89 rfl (by first | rfl | exact pv_shx) (by omega) (by omega) (by decide) rfl (by repeat (first | exact hw | exact hh | (apply rd_s; done) | apply rd_n (by omega) | apply rp_s | apply rp_n (by omega) | (apply rdL_s; done) | apply rdL_n (by omega) | apply rpJ_s | apply rpJ_n (by omega) | rfl)) ?_
                refine n_imul dX12_pour_121 (by first | (with_reducible exact pk_mul _ _) | rfl) ?_
                refine n_icmp_ge 267 dX12_pour_122 (by decide) (by first | ((with_reducible apply cN_le) <;> omega) | ((with_reducible apply cI_len) <;> omega) | ((with_reducible apply cI_nle) <;> omega) | (with_reducible exact cI_le)) (fun c122 => ?_) (fun c122 => by exfalso; first | omega | exact absurd trivial c122 | exact c122)
                exact kk st (poD_layer hp) _
              | succ q ih =>
                intro i st hi hp
                have hki := pFl_ok (ly := ly s) hok i
                have si : arO (I 206) 64 st i = stv (st i) := arO_at (by omega)
                have es : pFl (fN a) (ly s) pst (i + 1) = if ly s i = true then (updN (pFl (fN a) (ly s) pst i).1 i ((pFl (fN a) (ly s) pst i).1 i + min (pFl (fN a) (ly s) pst i).2 (20 - (fN a i + (pFl (fN a) (ly s) pst i).1 i))), (pFl (fN a) (ly s) pst i).2 - min (pFl (fN a) (ly s) pst i).2 (20 - (fN a i + (pFl (fN a) (ly s) pst i).1 i))) else pFl (fN a) (ly s) pst i := rfl
                by_cases hl : (bfs (w * h) ho op (adjB w h) s).1 i = true
                · have h4 := ih (i + 1)
                  rw [es, if_pos (by rw [hlys]; exact hl)] at h4
                  have h5 := one s i st _ _ hs (by omega) hp hl hki (fun st' hp' v6 v7 v8 v9 => by
                    refine g_iinc dX12_pour_261 rfl (by first | (with_reducible exact nI_1 _) | exact nI_1 _ | exact pk_m1 _ | rfl) (by decide) rfl ?_
                    refine g_goto 111 dX12_pour_264 (by decide) ?_
                    exact g_drop _ (by repeat (first | exact trivial | refine ⟨Or.inr ⟨_, rfl⟩, ?_⟩ | refine ⟨Or.inl rfl, ?_⟩)) (h4 st' (by omega) hp'))
                  rw [(poD_at hp).mpr hl, stv_s] at si
                  refine g_iload dX12_pour_111 rfl ?_
                  refine g_aload_n dX12_pour_113 rfl ?_
                  refine n_getI dX12_pour_114 fdX12_86 rfl (by first | rfl | exact pv_shx) (by omega) (by omega) (by decide) rfl (by repeat (first | exact hw | exact hh | exact si | (apply rd_s; done) | apply rd_n (by omega) | apply rp_s | apply rp_n (by omega) | (apply rdL_s; done) | apply rdL_n (by omega) | apply rpJ_s | apply rpJ_n (by omega) | rfl)) ?_
                  refine g_aload_n dX12_pour_117 rfl ?_
                  refine n_getI dX12_pour_118 fdX12_89 rfl (by first | rfl | exact pv_shx) (by omega) (by omega) (by decide) rfl (by repeat (first | exact hw | exact hh | exact si | (apply rd_s; done) | apply rd_n (by omega) | apply rp_s | apply rp_n (by omega) | (apply rdL_s; done) | apply rdL_n (by omega) | apply rpJ_s | apply rpJ_n (by omega) | rfl)) ?_
                  refine n_imul dX12_pour_121 (by first | (with_reducible exact pk_mul _ _) | rfl) ?_
                  refine n_icmp_ge 267 dX12_pour_122 (by decide) (by first | ((with_reducible apply cN_le) <;> omega) | ((with_reducible apply cI_len) <;> omega) | ((with_reducible apply cI_nle) <;> omega) | (with_reducible exact cI_le)) (fun c122 => by exfalso; first | omega | exact absurd trivial c122 | exact c122) (fun c122 => ?_)
                  refine g_aload_n dX12_pour_125 rfl ?_
                  refine g_getP dX12_pour_126 fdX12_19 rfl (by first | rfl | exact pv_shx) (by omega) (by omega) (by decide) rfl (hP _ _ _ rfl) ?_
                  refine g_iload dX12_pour_129 rfl ?_
                  refine n_iald dX12_pour_131 (by first | rfl | exact pv_shx) (by omega) (by omega) (by decide) (rfl) (by omega) (by repeat (first | exact hw | exact hh | exact si | (apply rd_s; done) | apply rd_n (by omega) | apply rp_s | apply rp_n (by omega) | (apply rdL_s; done) | apply rdL_n (by omega) | apply rpJ_s | apply rpJ_n (by omega) | rfl)) ?_
                  refine g_iload dX12_pour_132 rfl ?_
                  refine n_icmp_eq 140 dX12_pour_134 (by decide) (by first | ((with_reducible apply cN_eq) <;> omega) | ((with_reducible apply cI_eqn) <;> omega) | exact Iff.rfl) (fun c134 => ?_) (fun c134 => by exfalso; first | omega | exact absurd trivial c134 | exact c134)
                  exact h5
                · have h4 := ih (i + 1) st (by omega) (poD_none hp hl)
                  rw [es, if_neg (by rw [hlys]; exact hl)] at h4
                  have hne : ¬ st i = some s := fun z => hl ((poD_at hp).mp z)
                  cases hsi : st i with
                  | none =>
                    rw [hsi, stv_n] at si
                    refine g_iload dX12_pour_111 rfl ?_
                    refine g_aload_n dX12_pour_113 rfl ?_
                    refine n_getI dX12_pour_114 fdX12_86 rfl (by first | rfl | exact pv_shx) (by omega) (by omega) (by decide) rfl (by repeat (first | exact hw | exact hh | exact si | (apply rd_s; done) | apply rd_n (by omega) | apply rp_s | apply rp_n (by omega) | (apply rdL_s; done) | apply rdL_n (by omega) | apply rpJ_s | apply rpJ_n (by omega) | rfl)) ?_
                    refine g_aload_n dX12_pour_117 rfl ?_
                    refine n_getI dX12_pour_118 fdX12_89 rfl (by first | rfl | exact pv_shx) (by omega) (by omega) (by decide) rfl (by repeat (first | exact hw | exact hh | exact si | (apply rd_s; done) | apply rd_n (by omega) | apply rp_s | apply rp_n (by omega) | (apply rdL_s; done) | apply rdL_n (by omega) | apply rpJ_s | apply rpJ_n (by omega) | rfl)) ?_
                    refine n_imul dX12_pour_121 (by first | (with_reducible exact pk_mul _ _) | rfl) ?_
                    refine n_icmp_ge 267 dX12_pour_122 (by decide) (by first | ((with_reducible apply cN_le) <;> omega) | ((with_reducible apply cI_len) <;> omega) | ((with_reducible apply cI_nle) <;> omega) | (with_reducible exact cI_le)) (fun c122 => by exfalso; first | omega | exact absurd trivial c122 | exact c122) (fun c122 => ?_)
                    refine g_aload_n dX12_pour_125 rfl ?_
                    refine g_getP dX12_pour_126 fdX12_19 rfl (by first | rfl | exact pv_shx) (by omega) (by omega) (by decide) rfl (hP _ _ _ rfl) ?_
                    refine g_iload dX12_pour_129 rfl ?_
                    refine n_iald dX12_pour_131 (by first | rfl | exact pv_shx) (by omega) (by omega) (by decide) (rfl) (by omega) (by repeat (first | exact hw | exact hh | exact si | (apply rd_s; done) | apply rd_n (by omega) | apply rp_s | apply rp_n (by omega) | (apply rdL_s; done) | apply rdL_n (by omega) | apply rpJ_s | apply rpJ_n (by omega) | rfl)) ?_
                    refine g_iload dX12_pour_132 rfl ?_
                    refine n_icmp_eq 140 dX12_pour_134 (by decide) (cI_eqn (by omega)) (fun c134 => by exfalso; exact absurd c134 (by rw [show ((-1 : Int32)).toInt = -1 from rfl]; omega)) (fun c134 => ?_)
                    refine g_goto 261 dX12_pour_137 (by decide) ?_
                    refine g_iinc dX12_pour_261 rfl (by first | (with_reducible exact nI_1 _) | exact nI_1 _ | exact pk_m1 _ | rfl) (by decide) rfl ?_
                    refine g_goto 111 dX12_pour_264 (by decide) ?_
                    exact g_drop _ (by repeat (first | exact trivial | refine ⟨Or.inr ⟨_, rfl⟩, ?_⟩ | refine ⟨Or.inl rfl, ?_⟩)) h4
                  | some k =>
                    rw [hsi, stv_s] at si
                    have hk := poD_le hp hsi
                    have hks : k ≠ s := fun z => hne (by rw [hsi, z])
                    refine g_iload dX12_pour_111 rfl ?_
                    refine g_aload_n dX12_pour_113 rfl ?_
                    refine n_getI dX12_pour_114 fdX12_86 rfl (by first | rfl | exact pv_shx) (by omega) (by omega) (by decide) rfl (by repeat (first | exact hw | exact hh | exact si | (apply rd_s; done) | apply rd_n (by omega) | apply rp_s | apply rp_n (by omega) | (apply rdL_s; done) | apply rdL_n (by omega) | apply rpJ_s | apply rpJ_n (by omega) | rfl)) ?_
                    refine g_aload_n dX12_pour_117 rfl ?_
                    refine n_getI dX12_pour_118 fdX12_89 rfl (by first | rfl | exact pv_shx) (by omega) (by omega) (by decide) rfl (by repeat (first | exact hw | exact hh | exact si | (apply rd_s; done) | apply rd_n (by omega) | apply rp_s | apply rp_n (by omega) | (apply rdL_s; done) | apply rdL_n (by omega) | apply rpJ_s | apply rpJ_n (by omega) | rfl)) ?_
                    refine n_imul dX12_pour_121 (by first | (with_reducible exact pk_mul _ _) | rfl) ?_
                    refine n_icmp_ge 267 dX12_pour_122 (by decide) (by first | ((with_reducible apply cN_le) <;> omega) | ((with_reducible apply cI_len) <;> omega) | ((with_reducible apply cI_nle) <;> omega) | (with_reducible exact cI_le)) (fun c122 => by exfalso; first | omega | exact absurd trivial c122 | exact c122) (fun c122 => ?_)
                    refine g_aload_n dX12_pour_125 rfl ?_
                    refine g_getP dX12_pour_126 fdX12_19 rfl (by first | rfl | exact pv_shx) (by omega) (by omega) (by decide) rfl (hP _ _ _ rfl) ?_
                    refine g_iload dX12_pour_129 rfl ?_
                    refine n_iald dX12_pour_131 (by first | rfl | exact pv_shx) (by omega) (by omega) (by decide) (rfl) (by omega) (by repeat (first | exact hw | exact hh | exact si | (apply rd_s; done) | apply rd_n (by omega) | apply rp_s | apply rp_n (by omega) | (apply rdL_s; done) | apply rdL_n (by omega) | apply rpJ_s | apply rpJ_n (by omega) | rfl)) ?_
                    refine g_iload dX12_pour_132 rfl ?_
                    refine n_icmp_eq 140 dX12_pour_134 (by decide) (by first | ((with_reducible apply cN_eq) <;> omega) | ((with_reducible apply cI_eqn) <;> omega) | exact Iff.rfl) (fun c134 => by exfalso; first | omega | exact absurd trivial c134 | exact c134) (fun c134 => ?_)
                    refine g_goto 261 dX12_pour_137 (by decide) ?_
                    refine g_iinc dX12_pour_261 rfl (by first | (with_reducible exact nI_1 _) | exact nI_1 _ | exact pk_m1 _ | rfl) (by decide) rfl ?_
                    refine g_goto 111 dX12_pour_264 (by decide) ?_
                    exact g_drop _ (by repeat (first | exact trivial | refine ⟨Or.inr ⟨_, rfl⟩, ?_⟩ | refine ⟨Or.inl rfl, ?_⟩)) h4
            -- the layers
            have lys : ∀ q s st, s + q = 64 → poD (w * h) ho op w h s 0 0 st → pvG mX12_pour (pvR 2 0 0) Z 101 [.ref 202, .int (nI cn), .int (nI tn), .int (nI (pLy (fN a) ly (w * h) tn s).2), .int (nI s), .retAddr 0, .retAddr 0, .retAddr 0, .retAddr 0, .retAddr 0] [] 0 0 224 (pvs (pvs I 203 (cameA a (pLy (fN a) ly (w * h) tn s).1)) 206 (arO (I 206) 64 st)) J P := by
              intro q
              induction q with
              | zero =>
                intro s st hs hp
                obtain rfl : s = 64 := by omega
                subst hZ
                refine g_iload dX12_pour_101 rfl ?_
                refine g_bipush (v := nI 64) dX12_pour_103 (by decide) ?_
                refine n_icmp_ge 273 dX12_pour_105 (by decide) (by first | ((with_reducible apply cN_le) <;> omega) | ((with_reducible apply cI_len) <;> omega) | ((with_reducible apply cI_nle) <;> omega) | (with_reducible exact cI_le)) (fun c105 => ?_) (fun c105 => by exfalso; first | omega | exact absurd trivial c105 | exact c105)
                refine g_iload_n dX12_pour_273 rfl ?_
                exact g_iret dX12_pour_274 rfl (⟨rfl, rfl, rfl, fun k hk => by simp at hk; rw [pvs_ne hk.2, pvs_ne hk.1], by rw [pvs_ne (by decide), pvs_eq], rfl⟩)
              | succ q ih =>
                intro s st hs hp
                have h5 := lay s (pLy (fN a) ly (w * h) tn s) (by omega) (pLy_ok hfl s) (fun st' hp' v5 => by
                  refine g_iinc dX12_pour_267 rfl (by first | (with_reducible exact nI_1 _) | exact nI_1 _ | exact pk_m1 _ | rfl) (by decide) rfl ?_
                  refine g_goto 101 dX12_pour_270 (by decide) ?_
                  exact g_drop _ (by repeat (first | exact trivial | refine ⟨Or.inr ⟨_, rfl⟩, ?_⟩ | refine ⟨Or.inl rfl, ?_⟩)) (ih (s + 1) st' (by omega) hp')) (w * h) 0 st (by omega) hp
                refine g_iload dX12_pour_101 rfl ?_
                refine g_bipush (v := nI 64) dX12_pour_103 (by decide) ?_
                refine n_icmp_ge 273 dX12_pour_105 (by decide) (by first | ((with_reducible apply cN_le) <;> omega) | ((with_reducible apply cI_len) <;> omega) | ((with_reducible apply cI_nle) <;> omega) | (with_reducible exact cI_le)) (fun c105 => by exfalso; first | omega | exact absurd trivial c105 | exact c105) (fun c105 => ?_)
                refine g_iconst (v := nI 0) dX12_pour_108 (by decide) ?_
                refine g_istore dX12_pour_109 (by decide) rfl ?_
                exact g_drop _ (by repeat (first | exact trivial | refine ⟨Or.inr ⟨_, rfl⟩, ?_⟩ | refine ⟨Or.inl rfl, ?_⟩)) h5
            have ini : ∀ q i, i + q = 64 → pvG mX12_pour (pvR 2 0 0) Z 70 [.ref 202, .int (nI cn), .int (nI tn), .int (nI i), .retAddr 0, .retAddr 0, .retAddr 0, .retAddr 0, .retAddr 0, .retAddr 0] [] 0 0 224 (pvs (pvs I 203 (cameA a (fun _ => 0))) 206 (arO (I 206) i (fun _ => none))) J P := by
              intro q
              induction q with
              | zero =>
                intro i hi
                obtain rfl : i = 64 := by omega
                have h5 := lys 64 0 (updO (fun _ => none) cn 0) (by omega) (by
                  intro x k
                  by_cases e : x = cn
                  · subst e
                    rw [updO_s]
                    constructor
                    · intro z; cases z; exact Or.inl ⟨Nat.le_refl _, by show ho x = true; rw [← hho]; simp⟩
                    · rintro (⟨z1, z2⟩ | ⟨z1, z2, z3, (⟨z4, z5, z6⟩ | ⟨z4, z5, z6⟩)⟩)
                      · rw [show k = 0 by omega]
                      · omega
                      · omega
                  · rw [updO_n e]
                    constructor
                    · intro z; cases z
                    · rintro (⟨z1, z2⟩ | ⟨z1, z2, z3, (⟨z4, z5, z6⟩ | ⟨z4, z5, z6⟩)⟩)
                      · obtain rfl : k = 0 := by omega
                        have z2 : ho x = true := z2
                        rw [← hho] at z2
                        exact absurd (of_decide_eq_true z2) e
                      · omega
                      · omega)
                refine g_iload_n dX12_pour_70 rfl ?_
                refine g_bipush (v := nI 64) dX12_pour_71 (by decide) ?_
                refine n_icmp_ge 89 dX12_pour_73 (by decide) (by first | ((with_reducible apply cN_le) <;> omega) | ((with_reducible apply cI_len) <;> omega) | ((with_reducible apply cI_nle) <;> omega) | (with_reducible exact cI_le)) (fun c73 => ?_) (fun c73 => by exfalso; first | omega | exact absurd trivial c73 | exact c73)
                refine g_aload_n dX12_pour_89 rfl ?_
                refine g_getP dX12_pour_90 fdX12_19 rfl (by first | rfl | exact pv_shx) (by omega) (by omega) (by decide) rfl (hP _ _ _ rfl) ?_
                refine g_iload_n dX12_pour_93 rfl ?_
                refine g_iconst (v := nI 0) dX12_pour_94 (by decide) ?_
                refine n_iast dX12_pour_95 (by first | rfl | exact pv_shx) (by omega) (by omega) (by omega) (by decide) (rfl) (by omega) (by repeat (first | exact pvu_s | exact pvuJ_s | apply pvu_in (by omega) | apply pvuJ_in (by omega) | exact pvu_pvs | exact pvuJ_pvs)) ?_
                refine g_iload_n dX12_pour_96 rfl ?_
                refine g_istore_n dX12_pour_97 (by decide) rfl ?_
                refine g_iconst (v := nI 0) dX12_pour_98 (by decide) ?_
                refine g_istore dX12_pour_99 (by decide) rfl ?_
                rw [arO_upd (by omega)]
                exact g_drop _ (by repeat (first | exact trivial | refine ⟨Or.inr ⟨_, rfl⟩, ?_⟩ | refine ⟨Or.inl rfl, ?_⟩)) h5
              | succ q ih =>
                intro i hi
                have h4 := ih (i + 1) (by omega)
                refine g_iload_n dX12_pour_70 rfl ?_
                refine g_bipush (v := nI 64) dX12_pour_71 (by decide) ?_
                refine n_icmp_ge 89 dX12_pour_73 (by decide) (by first | ((with_reducible apply cN_le) <;> omega) | ((with_reducible apply cI_len) <;> omega) | ((with_reducible apply cI_nle) <;> omega) | (with_reducible exact cI_le)) (fun c73 => by exfalso; first | omega | exact absurd trivial c73 | exact c73) (fun c73 => ?_)
                refine g_aload_n dX12_pour_76 rfl ?_
                refine g_getP dX12_pour_77 fdX12_19 rfl (by first | rfl | exact pv_shx) (by omega) (by omega) (by decide) rfl (hP _ _ _ rfl) ?_
                refine g_iload_n dX12_pour_80 rfl ?_
                refine g_iconst (v := (-1)) dX12_pour_81 (by decide) ?_
                refine n_iast dX12_pour_82 (by first | rfl | exact pv_shx) (by omega) (by omega) (by omega) (by decide) (rfl) (by omega) (by repeat (first | exact pvu_s | exact pvuJ_s | apply pvu_in (by omega) | apply pvuJ_in (by omega) | exact pvu_pvs | exact pvuJ_pvs)) ?_
                refine g_iinc dX12_pour_83 rfl (by first | (with_reducible exact nI_1 _) | exact nI_1 _ | exact pk_m1 _ | rfl) (by decide) rfl ?_
                refine g_goto 70 dX12_pour_86 (by decide) ?_
                rw [arO_ext]
                exact g_drop _ (by repeat (first | exact trivial | refine ⟨Or.inr ⟨_, rfl⟩, ?_⟩ | refine ⟨Or.inl rfl, ?_⟩)) h4
            have h6 := ini 64 0 (by omega)
            rw [show arO (I 206) 0 (fun _ => none) = I 206 from funext fun x => by simp [arO], hc0, pvs_self2, ← haa] at h6
            refine g_aload_n dX12_pour_57 rfl ?_
            refine g_getP dX12_pour_58 fdX12_7 rfl (by first | rfl | exact pv_shx) (by omega) (by omega) (by decide) rfl (hP _ _ _ rfl) ?_
            refine g_bipush (v := nI 15) dX12_pour_61 (by decide) ?_
            refine g_dup2 dX12_pour_63 rfl rfl ?_
            refine n_iald dX12_pour_64 (by first | rfl | exact pv_shx) (by omega) (by omega) (by decide) (rfl) (by omega) ((congrFun haa 15).trans po_h) ?_
            refine g_iconst (v := nI 1) dX12_pour_65 (by decide) ?_
            refine n_iadd dX12_pour_66 (by first | (with_reducible exact nI_add _ _) | rfl) ?_
            refine n_iast dX12_pour_67 (by first | rfl | exact pv_shx) (by omega) (by omega) (by omega) (by decide) (rfl) (by omega) (by repeat (first | exact pvu_s | exact pvuJ_s | apply pvu_in (by omega) | apply pvuJ_in (by omega) | exact pvu_pvs | exact pvuJ_pvs)) ?_
            refine g_iconst (v := nI 0) dX12_pour_68 (by decide) ?_
            refine g_istore_n dX12_pour_69 (by decide) rfl ?_
            exact g_drop _ (by repeat (first | exact trivial | refine ⟨Or.inr ⟨_, rfl⟩, ?_⟩ | refine ⟨Or.inl rfl, ?_⟩)) h6
          · skip
            refine g_iconst (v := (-1)) dX12_pour_55 (by decide) ?_
            exact g_iret dX12_pour_56 rfl (⟨rfl, rfl, by rw [show sp_pour w h (I 203) _ t = (-1, I 203) from if_neg (by first | omega | (rw [ec]; omega))], mfix.rf, by rw [show sp_pour w h (I 203) _ t = (-1, I 203) from if_neg (by first | omega | (rw [ec]; omega))], rfl⟩)
