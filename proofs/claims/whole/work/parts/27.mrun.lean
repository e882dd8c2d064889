/-! model: a state's run -/
abbrev fS : Type := (Nat → Nat) × (Nat → Nat) × (Nat → Nat)
def cuB (w h : Nat) (a : Nat → Int32) (m : Nat) : Nat → Nat := fun c => if cutb w h a m c = true then 1 else 0
def flw (a : Nat → Int32) (wl : Nat) : Nat → Nat → Nat
  | 0 => fun _ => 0
  | m + 1 => fl2 a m wl (fl1 a m (flw a wl m))
/-- the beginning of week m -/
def fbeg (w h : Nat) (a : Nat → Int32) (s m : Nat) (r : fS) : fS := (fun c => if cutw w h a m c = true then 0 else nw1 a s m r.2.1 (cuB w h a m) r.1 c, fun c => if cutw w h a m c = true then 0 else r.2.1 c, r.2.2)
/-- the air of week m -/
def fair (w h : Nat) (a : Nat → Int32) (wl : Nat) (wo : Option Nat) (m : Nat) (b : fS) : Nat → Bool := auF w h a m wo (opF a b.1 (cuB w h a (m + 1)) (fun c => if c < 64 then flw a wl (m + 1) c else 0))
def fburn (w h : Nat) (a : Nat → Int32) (wl : Nat) (wo : Option Nat) (m : Nat) (b : fS) : fS := (filN (stB w h a (fair w h a wl wo m b) b.1 b.2.1 b.2.2) b.1 (w * h), filN (lfB a (fair w h a wl wo m b) b.1 b.2.1) b.2.1 (w * h), filN (htB w h (fair w h a wl wo m b) b.1 b.2.1 b.2.2) b.2.2 (w * h))
def fraw (w h : Nat) (a : Nat → Int32) (wl : Nat) (wo : Option Nat) (s : Nat) : Nat → fS
  | 0 => (fun _ => 0, fun c => if c < 64 then cnt a (84 + c) else 0, fun _ => 0)
  | m + 1 => fburn w h a wl wo m (fbeg w h a s m (fraw w h a wl wo s m))
/-- week m of a state, cuts done -/
def fwk (w h : Nat) (a : Nat → Int32) (wl : Nat) (wo : Option Nat) (s m : Nat) : fS := fbeg w h a s m (fraw w h a wl wo s m)
def flate (w h : Nat) (a : Nat → Int32) (wl : Nat) (wo : Option Nat) (s : Nat) : Nat → Nat
  | 0 => 0
  | m + 1 => ltm w h a m (nw1 a s m (fraw w h a wl wo s m).2.1 (cuB w h a m) (fraw w h a wl wo s m).1) (flate w h a wl wo s m) (cnt a 2)
theorem cuB_s {w h : Nat} {a : Nat → Int32} {m : Nat} : (fun c => if cutw w h a m c = true then 1 else cuB w h a m c) = cuB w h a (m + 1) := by
  funext c
  unfold cuB
  show _ = if (cutb w h a m c || cutw w h a m c) = true then 1 else 0
  by_cases h1 : cutw w h a m c = true <;> by_cases h2 : cutb w h a m c = true <;> simp [h1, h2]
theorem cuB_le {w h : Nat} {a : Nat → Int32} {m c : Nat} : cuB w h a m c ≤ 1 := by unfold cuB; split <;> decide
theorem flw_le {a : Nat → Int32} (hce : mCells a) {wl : Nat} : ∀ {m : Nat}, m ≤ 100 → ∀ c, c < 64 → flw a wl m c ≤ 20 * m
  | 0, _, c, _ => by show 0 ≤ _; omega
  | m + 1, hm, c, hc => by
    have ih := flw_le hce (wl := wl) (m := m) (by omega) c hc
    show fl2 a m wl (fl1 a m (flw a wl m)) c ≤ _
    unfold fl2
    split
    · omega
    · unfold fl1
      split
      · omega
      · obtain ⟨v, v1, v2⟩ := hce.2.2 (m - 1) c (by omega) hc
        rw [cnt_of v2 (by omega)]
        omega
def fOk (n : Nat) (b : fS) : Prop := (∀ c, b.1 c ≤ 2) ∧ (∀ c, b.2.1 c ≤ 999) ∧ ∀ c, b.2.2 c ≤ n
theorem fbeg_ok {w h : Nat} {a : Nat → Int32} {s m n : Nat} {r : fS} (h1 : fOk n r) : fOk n (fbeg w h a s m r) := by
  obtain ⟨g1, g2, g3⟩ := h1
  refine ⟨fun c => ?_, fun c => ?_, g3⟩
  · show (if _ then 0 else nw1 _ _ _ _ _ _ _) ≤ 2
    split
    · decide
    · unfold nw1
      split
      · decide
      · exact g1 c
  · show (if _ then 0 else _) ≤ 999
    split
    · decide
    · exact g2 c
theorem filN_le {f s : Nat → Nat} {i n : Nat} (h1 : ∀ c, f c ≤ n) (h2 : ∀ c, s c ≤ n) : ∀ c, filN f s i c ≤ n := fun c => by
  unfold filN
  split
  · exact h1 c
  · exact h2 c
theorem fburn_ok {w h : Nat} {a : Nat → Int32} {wl m n : Nat} {wo : Option Nat} {b : fS} (h1 : fOk n b) : fOk (n + 4) (fburn w h a wl wo m b) := by
  obtain ⟨g1, g2, g3⟩ := h1
  refine ⟨filN_le (fun c => ?_) g1, filN_le (fun c => ?_) g2, filN_le (fun c => ?_) (fun c => by have := g3 c; omega)⟩
  · unfold stB
    have := g1 c
    split
    · split <;> decide
    · split
      · split
        · decide
        · exact this
      · exact this
  · unfold lfB
    have := g2 c
    split
    · omega
    · exact this
  · unfold htB
    have := g3 c
    have := byN_le (w := w) (h := h) (nw := b.1) (c := c) 4
    split
    · omega
    · split
      · split <;> omega
      · omega
def tab (T : Nat → Int32) (b : Nat) (f : Nat → Nat) (i : Nat) : Nat → Int32 := fun x => if b ≤ x ∧ x < b + i then nI (f (x - b)) else T x
theorem tab_s {T : Nat → Int32} {b i : Nat} {f : Nat → Nat} : upd (tab T b f i) (b + i) (nI (f i)) = tab T b f (i + 1) := by
  funext x
  by_cases e : x = b + i
  · subst e
    simp [upd, tab]
  · simp only [upd, tab, if_neg e]
    by_cases e2 : b ≤ x ∧ x < b + i
    · rw [if_pos e2, if_pos (by omega)]
    · rw [if_neg e2, if_neg (by omega)]
theorem tab_0 {T : Nat → Int32} {b : Nat} {f : Nat → Nat} : tab T b f 0 = T := by
  funext x
  unfold tab
  rw [if_neg (by omega)]
/-- behind a run as far as week u -/
def runQ (w h : Nat) (I : pvI) (s u wl : Nat) (wo : Option Nat) (I' : pvI) : Prop := mfix I I' [206, 207, 208, 209, 210, 211, 212, 213, 214, 215, 216] ∧
  I' 208 = arN (I 208) 64 (fwk w h (I 203) wl wo s u).1 ∧ I' 210 = arN (I 210) 64 (fwk w h (I 203) wl wo s u).2.1 ∧ I' 211 = arN (I 211) 64 (fwk w h (I 203) wl wo s u).2.2 ∧ I' 212 = arN (I 212) 64 (flw (I 203) wl (u + 1)) ∧ I' 213 = arN (I 213) 64 (cuB w h (I 203) (u + 1)) ∧ I' 216 = upd (I 216) s (nI (flate w h (I 203) wl wo s (u + 1))) ∧
  (∀ m c, m ≤ u → c < 64 → I' 215 (6400 * s + 64 * m + c) = nI ((fwk w h (I 203) wl wo s m).1 c)) ∧ ∀ x, (x < 6400 * s ∨ 6400 * s + 6400 ≤ x) → I' 215 x = I 215 x
theorem r_cp {I2 : pvI} {J : pvJ} {P : pvP} {Z : pvZT} {s u wl m : Nat} {u3 : Int32} {g : Nat → Int32} {f : Nat → Nat} (hP : pvOkP P) (hs : s < 8) (hm : m ≤ 99) (hn : I2 208 = arN g 64 f)
    (kk : pvG mX12_run (pvR 3 0 0) Z 71 [.ref 202, .int (nI s), .int (nI u), .int u3, .int (nI wl), .int (nI m), .retAddr 0] [] 0 0 224 (pvs I2 215 (tab (I2 215) (6400 * s + 64 * m) f 64)) J P) :
    pvG mX12_run (pvR 3 0 0) Z 29 [.ref 202, .int (nI s), .int (nI u), .int u3, .int (nI wl), .int (nI m), .retAddr 0] [] 0 0 224 I2 J P := by
  have cp : ∀ q i, i + q = 64 → pvG mX12_run (pvR 3 0 0) Z 32 [.ref 202, .int (nI s), .int (nI u), .int u3, .int (nI wl), .int (nI m), .int (nI i)] [] 0 0 224 (pvs I2 215 (tab (I2 215) (6400 * s + 64 * m) f i)) J P := by
    intro q
    induction q with
    | zero =>
      intro i hi
      obtain rfl : i = 64 := by omega
      refine g_iload dX12_run_32 rfl ?_
      refine g_bipush (v := nI 64) dX12_run_34 (by decide) ?_
      refine n_icmp_ge 71 dX12_run_36 (by decide) (by first | ((with_reducible apply cN_le) <;> omega) | ((with_reducible apply cI_len) <;> omega) | ((with_reducible apply cI_nle) <;> omega) | (with_reducible exact cI_le)) (fun c36 => ?_) (fun c36 => by exfalso; first | omega | exact absurd trivial c36 | exact c36)
      refine g_drop [.ref 202, .int (nI s), .int (nI u), .int u3, .int (nI wl), .int (nI m), .retAddr 0] (by repeat (first | exact trivial | refine ⟨Or.inr ⟨_, rfl⟩, ?_⟩ | refine ⟨Or.inl rfl, ?_⟩)) ?_
      exact kk
    | succ q ih =>
      intro i hi
      have h5' := ih (i + 1) (by omega)
      rw [← tab_s] at h5'
      have rn : I2 208 i = nI (f i) := by rw [hn, arN_at (by omega)]
      refine g_iload dX12_run_32 rfl ?_
      refine g_bipush (v := nI 64) dX12_run_34 (by decide) ?_
      refine n_icmp_ge 71 dX12_run_36 (by decide) (by first | ((with_reducible apply cN_le) <;> omega) | ((with_reducible apply cI_len) <;> omega) | ((with_reducible apply cI_nle) <;> omega) | (with_reducible exact cI_le)) (fun c36 => by exfalso; first | omega | exact absurd trivial c36 | exact c36) (fun c36 => ?_)
      refine g_aload_n dX12_run_39 rfl ?_
      refine g_getP dX12_run_40 fdX12_48 rfl (by first | rfl | exact pv_shx) (by omega) (by omega) (by decide) rfl (hP _ _ _ rfl) ?_
      refine g_sipush (v := nI 6400) dX12_run_43 (by decide) ?_
      refine g_iload_n dX12_run_46 rfl ?_
      refine n_imul dX12_run_47 (by first | (with_reducible exact pk_mul _ _) | rfl) ?_
      refine g_bipush (v := nI 64) dX12_run_48 (by decide) ?_
      refine g_iload dX12_run_50 rfl ?_
      refine n_imul dX12_run_52 (by first | (with_reducible exact pk_mul _ _) | rfl) ?_
      refine n_iadd dX12_run_53 (by first | (with_reducible exact nI_add _ _) | rfl) ?_
      refine g_iload dX12_run_54 rfl ?_
      refine n_iadd dX12_run_56 (by first | (with_reducible exact nI_add _ _) | rfl) ?_
      refine g_aload_n dX12_run_57 rfl ?_
      refine g_getP dX12_run_58 fdX12_25 rfl (by first | rfl | exact pv_shx) (by omega) (by omega) (by decide) rfl (hP _ _ _ rfl) ?_
      refine g_iload dX12_run_61 rfl ?_
      refine n_iald dX12_run_63 (by first | rfl | exact pv_shx) (by omega) (by omega) (by decide) (rfl) (by omega) (by repeat (first | exact rn | (apply rd_s; done) | apply rd_n (by omega) | apply rp_s | apply rp_n (by omega) | (apply rdL_s; done) | apply rdL_n (by omega) | apply rpJ_s | apply rpJ_n (by omega) | rfl)) ?_
      refine n_iast dX12_run_64 (by first | rfl | exact pv_shx) (by omega) (by omega) (by omega) (by decide) (rfl) (by omega) (by repeat (first | exact pvu_s | exact pvuJ_s | apply pvu_in (by omega) | apply pvuJ_in (by omega) | exact pvu_pvs | exact pvuJ_pvs)) ?_
      refine g_iinc dX12_run_65 rfl (by first | (with_reducible exact nI_1 _) | exact nI_1 _ | exact pk_m1 _ | rfl) (by decide) rfl ?_
      refine g_goto 32 dX12_run_68 (by decide) ?_
      exact h5'
  have c0 := cp 64 0 (by omega)
  rw [tab_0, pvs_self] at c0
  refine g_iconst (v := nI 0) dX12_run_29 (by decide) ?_
  refine g_istore dX12_run_30 (by decide) rfl ?_
  exact c0
theorem r_burn {w h : Nat} {a g8 g10 g11 g12 g13 : Nat → Int32} {I3 : pvI} {J : pvJ} {P : pvP} {Z : pvZT} {s u wl m : Nat} {wo : Option Nat} {u3 : Int32} {b : fS} (hP : pvOkP P) (hm : m ≤ 99) (hD : mDim w h I3) (a3 : I3 203 = a) (hF : mF w h a) (hu3 : ∀ k, k < 20 → (nI k = u3 ↔ wo = some k)) (ok : fOk 900 b) (n8 : I3 208 = arN g8 64 b.1) (n10 : I3 210 = arN g10 64 b.2.1) (n11 : I3 211 = arN g11 64 b.2.2) (n12 : I3 212 = arN g12 64 (flw a wl (m + 1))) (n13 : I3 213 = arN g13 64 (cuB w h a (m + 1)))
    (kk : ∀ I5, mfix I3 I5 [206, 207, 208, 209, 210, 211, 214] → I5 208 = arN g8 64 (fburn w h a wl wo m b).1 → I5 210 = arN g10 64 (fburn w h a wl wo m b).2.1 → I5 211 = arN g11 64 (fburn w h a wl wo m b).2.2 → pvG mX12_run (pvR 3 0 0) Z 14 [.ref 202, .int (nI s), .int (nI u), .int u3, .int (nI wl), .int (nI (m + 1)), .retAddr 0] [] 0 0 224 I5 J P) :
    pvG mX12_run (pvR 3 0 0) Z 78 [.ref 202, .int (nI s), .int (nI u), .int u3, .int (nI wl), .int (nI m), .retAddr 0] [] 0 0 224 I3 J P := by
  have fle : ∀ c, (if c < 64 then flw a wl (m + 1) c else 0) ≤ 5000 := by
    intro c
    split
    · rename_i hc
      have := flw_le hF.2.1 (wl := wl) (m := m + 1) (by omega) c hc
      omega
    · omega
  have bl := t_blow (w := w) (h := h) (I := I3) (J := J) (m := m) (wo := wo) (u2 := u3) (fl := fun c => if c < 64 then flw a wl (m + 1) c else 0) (gf := g12) hP hD (by rw [a3]; exact hF) hm hu3 n8 (n12.trans (arN_cong (fun c hc => by simp [hc]))) n13 ok.1 fle (fun c => cuB_le)
  rw [a3] at bl
  refine g_aload_n dX12_run_78 rfl ?_
  refine g_iload dX12_run_79 rfl ?_
  refine g_iload_n dX12_run_81 rfl ?_
  refine g_callV bl okX12_blow lkX12_128 rfl rfl rfl (by omega) (by omega) dX12_run_82 rfl (Nat.le_of_ble_eq_true rfl) ⟨by decide, by decide, by decide, by decide⟩ ?_
  rintro v nx' I4 J4 P4 ⟨rfl, rfl, rfl, rfl, b1, b2⟩
  have r4 : ∀ k, k ≠ 206 → k ≠ 207 → k ≠ 214 → I4 k = I3 k := fun k z1 z2 z3 => b1 k (by simp [z1, z2, z3])
  have a4 : I4 203 = a := by rw [r4 203 (by decide) (by decide) (by decide)]; exact a3
  have hbo := t_burnOn (w := w) (h := h) (I := I4) (J := J4) (P := P4) (gn := g8) (gl := g10) (gh := g11) (nw := b.1) (lf := b.2.1) (ht := b.2.2) (au := fair w h a wl wo m b) hP ⟨by rw [r4 202 (by decide) (by decide) (by decide)]; exact hD.1, by rw [r4 202 (by decide) (by decide) (by decide)]; exact hD.2.1, hD.2.2⟩ (by rw [a4]; exact hF.1) (by rw [r4 208 (by decide) (by decide) (by decide), n8]) (by rw [r4 210 (by decide) (by decide) (by decide), n10]) (by rw [r4 211 (by decide) (by decide) (by decide), n11]) b2 ok.1 ok.2.1 (fun c => by have := ok.2.2 c; omega)
  rw [a4] at hbo
  refine g_aload_n dX12_run_85 rfl ?_
  refine g_callV hbo okX12_burnOn lkX12_132 rfl rfl rfl (by omega) (by omega) dX12_run_86 rfl (Nat.le_of_ble_eq_true rfl) ⟨by decide, by decide, by decide, by decide⟩ ?_
  rintro v nx' I5 J5 P5 ⟨rfl, rfl, rfl, rfl, e1, e2, e3, e4⟩
  refine g_iinc dX12_run_89 rfl (by first | (with_reducible exact nI_1 _) | exact nI_1 _ | exact pk_m1 _ | rfl) (by decide) rfl ?_
  refine g_goto 14 dX12_run_92 (by decide) ?_
  refine kk I5 (fun k hk => ?_) e2 e3 e4
  simp at hk
  rw [e1 k (by simp; omega), r4 k (by omega) (by omega) (by omega)]
theorem t_run {w h : Nat} {I : pvI} {J : pvJ} {P : pvP} {s u wl : Nat} {wo : Option Nat} {u3 : Int32} (hP : pvOkP P) (hD : mDim w h I) (hF : mF w h (I 203)) (hs : s < cnt (I 203) 3) (hu : u ≤ 99) (hwl : wl < 64) (hu3 : ∀ k, k < 20 → (nI k = u3 ↔ wo = some k)) :
    pvMet mX12_run 3 0 0 [.ref 202, .int (nI s), .int (nI u), .int u3, .int (nI wl)] 224 I J P (pvq P (fun v I' J' => v = none ∧ J' = J ∧ runQ w h I s u wl wo I')) := by
  obtain ⟨ns, ns_b, ns_h⟩ := hF.1 3 (by decide)
  replace ns_b : ns ≤ 8 := ns_b
  have ns_e : cnt (I 203) 3 = ns := cnt_of ns_h (by omega)
  generalize hZ : pvZ (pvq P (fun v I' J' => v = none ∧ J' = J ∧ runQ w h I s u wl wo I')) 0 0 = Z
  generalize ha : I 203 = a at *
  have lp : ∀ q m I1, m + q = u → mfix I I1 [206, 207, 208, 209, 210, 211, 212, 213, 214, 215, 216] → fOk (4 * m) (fraw w h a wl wo s m) → I1 208 = arN (I 208) 64 (fraw w h a wl wo s m).1 → I1 210 = arN (I 210) 64 (fraw w h a wl wo s m).2.1 → I1 211 = arN (I 211) 64 (fraw w h a wl wo s m).2.2 → I1 212 = arN (I 212) 64 (flw a wl m) → I1 213 = arN (I 213) 64 (cuB w h a m) → I1 216 = upd (I 216) s (nI (flate w h a wl wo s m)) →
      (∀ k c, k < m → c < 64 → I1 215 (6400 * s + 64 * k + c) = nI ((fwk w h a wl wo s k).1 c)) → (∀ x, (x < 6400 * s ∨ 6400 * s + 6400 ≤ x) → I1 215 x = I 215 x) →
      pvG mX12_run (pvR 3 0 0) Z 14 [.ref 202, .int (nI s), .int (nI u), .int u3, .int (nI wl), .int (nI m), .retAddr 0] [] 0 0 224 I1 J P := by
    intro q
    induction q with
    | zero =>
      intro m I1 hm h1 h2 h3 h4 h5 h6 h7 h8 h9 h10
      obtain rfl : m = u := by omega
      have a1 : I1 203 = a := by rw [h1 203 (by decide)]; exact ha
      have d1 : mDim w h I1 := ⟨by rw [h1 202 (by decide)]; exact hD.1, by rw [h1 202 (by decide)]; exact hD.2.1, hD.2.2⟩
      have hb := t_begin (w := w) (h := h) (I := I1) (J := J) (P := P) (s := s) (m := m) (wl := wl) (L := flate w h a wl wo s m) hP d1 (by rw [a1]; exact hF) (by rw [a1]; exact hs) (by omega) hwl h3 h4 h6 h7 (by rw [h8]; simp [upd]) h2.1 h2.2.1 (fun c => cuB_le)
      rw [a1, cuB_s] at hb
      subst hZ
      refine g_iload dX12_run_14 rfl ?_
      refine g_iload_n dX12_run_16 rfl ?_
      refine n_icmp_gt 95 dX12_run_17 (by decide) (by first | ((with_reducible apply cN_lt) <;> omega) | ((with_reducible apply cI_ltn) <;> omega) | ((with_reducible apply cI_nlt) <;> omega) | (with_reducible exact cI_lt)) (fun c17 => by exfalso; first | omega | exact absurd trivial c17 | exact c17) (fun c17 => ?_)
      refine g_aload_n dX12_run_20 rfl ?_
      refine g_iload_n dX12_run_21 rfl ?_
      refine g_iload dX12_run_22 rfl ?_
      refine g_iload dX12_run_24 rfl ?_
      refine g_callV (hb) okX12_begin lkX12_124 rfl (by first | rfl | exact pv_shx) rfl (by omega) (by omega) dX12_run_26 rfl (Nat.le_of_ble_eq_true rfl) (⟨by decide, by decide, by decide, by decide⟩) ?_
      rintro v nx' I2 J' P' ⟨rfl, rfl, rfl, rfl, g1, g2, g3, g4, g5, g6⟩
      have g6 : I2 216 = upd (I 216) s (nI (flate w h a wl wo s (m + 1))) := by rw [g6, h8, fa_upd_twice2]; rfl
      refine r_cp (f := (fwk w h a wl wo s m).1) hP (by omega) (by omega) g2 ?_
      refine g_iload dX12_run_71 rfl ?_
      refine g_iload_n dX12_run_73 rfl ?_
      refine n_icmp_ne 78 dX12_run_74 (by decide) (by first | ((with_reducible apply cN_eq) <;> omega) | ((with_reducible apply cI_eqn) <;> omega) | exact Iff.rfl) (fun c74 => by exfalso; first | omega | exact absurd trivial c74 | exact c74) (fun c74 => ?_)
      refine g_vret dX12_run_77 rfl (⟨rfl, rfl, rfl, rfl, fun k hk => ?_, ?_, ?_, ?_, ?_, ?_, ?_, fun k c hk hc => ?_, fun x hx => ?_⟩)
      · rw [pvs_ne (by simp at hk; omega), g1 k (by simp at hk ⊢; omega), h1 k hk]
      · rw [pvs_ne (by decide), g2, ha]; rfl
      · rw [pvs_ne (by decide), g3, ha]; rfl
      · rw [pvs_ne (by decide), g1 211 (by decide), h5, ha]; rfl
      · rw [pvs_ne (by decide), g4, ha]; rfl
      · rw [pvs_ne (by decide), g5, ha]
      · rw [pvs_ne (by decide), g6, ha]
      · rw [pvs_eq, ha]
        unfold tab
        by_cases e : k = m
        · subst e
          rw [if_pos (by omega), show 6400 * s + 64 * k + c - (6400 * s + 64 * k) = c by omega]
        · rw [if_neg (by omega), g1 215 (by decide)]
          exact h9 k c (by omega) hc
      · rw [pvs_eq]
        unfold tab
        rw [if_neg (by omega), g1 215 (by decide)]
        exact h10 x hx
    | succ q ihm =>
      intro m I1 hm h1 h2 h3 h4 h5 h6 h7 h8 h9 h10
      have a1 : I1 203 = a := by rw [h1 203 (by decide)]; exact ha
      have d1 : mDim w h I1 := ⟨by rw [h1 202 (by decide)]; exact hD.1, by rw [h1 202 (by decide)]; exact hD.2.1, hD.2.2⟩
      have hb := t_begin (w := w) (h := h) (I := I1) (J := J) (P := P) (s := s) (m := m) (wl := wl) (L := flate w h a wl wo s m) hP d1 (by rw [a1]; exact hF) (by rw [a1]; exact hs) (by omega) hwl h3 h4 h6 h7 (by rw [h8]; simp [upd]) h2.1 h2.2.1 (fun c => cuB_le)
      rw [a1, cuB_s] at hb
      have ok1 : fOk (4 * m) (fwk w h a wl wo s m) := fbeg_ok h2
      refine g_iload dX12_run_14 rfl ?_
      refine g_iload_n dX12_run_16 rfl ?_
      refine n_icmp_gt 95 dX12_run_17 (by decide) (by first | ((with_reducible apply cN_lt) <;> omega) | ((with_reducible apply cI_ltn) <;> omega) | ((with_reducible apply cI_nlt) <;> omega) | (with_reducible exact cI_lt)) (fun c17 => by exfalso; first | omega | exact absurd trivial c17 | exact c17) (fun c17 => ?_)
      refine g_aload_n dX12_run_20 rfl ?_
      refine g_iload_n dX12_run_21 rfl ?_
      refine g_iload dX12_run_22 rfl ?_
      refine g_iload dX12_run_24 rfl ?_
      refine g_callV (hb) okX12_begin lkX12_124 rfl (by first | rfl | exact pv_shx) rfl (by omega) (by omega) dX12_run_26 rfl (Nat.le_of_ble_eq_true rfl) (⟨by decide, by decide, by decide, by decide⟩) ?_
      rintro v nx' I2 J' P' ⟨rfl, rfl, rfl, rfl, g1, g2, g3, g4, g5, g6⟩
      have g2 : I2 208 = arN (I 208) 64 (fwk w h a wl wo s m).1 := g2
      have g3 : I2 210 = arN (I 210) 64 (fwk w h a wl wo s m).2.1 := g3
      have g4 : I2 212 = arN (I 212) 64 (flw a wl (m + 1)) := g4
      have g6 : I2 216 = upd (I 216) s (nI (flate w h a wl wo s (m + 1))) := by rw [g6, h8, fa_upd_twice2]; rfl
      refine r_cp (f := (fwk w h a wl wo s m).1) hP (by omega) (by omega) g2 ?_
      generalize hI3 : pvs I2 215 (tab (I2 215) (6400 * s + 64 * m) (fwk w h a wl wo s m).1 64) = I3
      have r3 : ∀ k, k ≠ 215 → I3 k = I2 k := fun k hk => by rw [← hI3, pvs_ne hk]
      have a3 : I3 203 = a := by rw [r3 203 (by decide), g1 203 (by decide)]; exact a1
      have d3 : mDim w h I3 := ⟨by rw [r3 202 (by decide), g1 202 (by decide)]; exact d1.1, by rw [r3 202 (by decide), g1 202 (by decide)]; exact d1.2.1, hD.2.2⟩
      refine g_iload dX12_run_71 rfl ?_
      refine g_iload_n dX12_run_73 rfl ?_
      refine n_icmp_ne 78 dX12_run_74 (by decide) (by first | ((with_reducible apply cN_eq) <;> omega) | ((with_reducible apply cI_eqn) <;> omega) | exact Iff.rfl) (fun c74 => ?_) (fun c74 => by exfalso; first | omega | exact absurd trivial c74 | exact c74)
      refine r_burn (g8 := I 208) (g10 := I 210) (g11 := I 211) (g12 := I 212) (g13 := I 213) (b := fwk w h a wl wo s m) hP (by omega) d3 a3 hF hu3 ⟨ok1.1, ok1.2.1, fun c => by have := ok1.2.2 c; omega⟩ ((r3 208 (by decide)).trans g2) ((r3 210 (by decide)).trans g3) ((r3 211 (by decide)).trans ((g1 211 (by decide)).trans h5)) ((r3 212 (by decide)).trans g4) ((r3 213 (by decide)).trans g5) (fun I5 e1 e2 e3 e4 => ?_)
      refine ihm (m + 1) I5 (by omega) (fun k hk => ?_) (fburn_ok (n := 4 * m) ok1) e2 e3 e4 ?_ ?_ ?_ ?_ ?_
      · simp at hk
        rw [e1 k (by simp; omega), r3 k (by omega), g1 k (by simp; omega)]
        exact h1 k (by simp; omega)
      · rw [e1 212 (by decide), r3 212 (by decide), g4]
      · rw [e1 213 (by decide), r3 213 (by decide), g5]
      · rw [e1 216 (by decide), r3 216 (by decide), g6]
      · intro k c hk hc
        rw [e1 215 (by decide), ← hI3, pvs_eq]
        unfold tab
        by_cases e : k = m
        · subst e
          rw [if_pos (by omega), show 6400 * s + 64 * k + c - (6400 * s + 64 * k) = c by omega]
        · rw [if_neg (by omega), g1 215 (by decide)]
          exact h9 k c (by omega) hc
      · intro x hx
        rw [e1 215 (by decide), ← hI3, pvs_eq]
        unfold tab
        rw [if_neg (by omega), g1 215 (by decide)]
        exact h10 x hx
  have h0 := t_first (I := I) (J := J) hP (by rw [ha]; exact hF.2.1)
  rw [ha] at h0
  refine pvMet.of _ (by decide) rfl (Nat.le_of_ble_eq_true rfl) ?_
  rw [hZ]
  refine g_aload_n dX12_run_0 rfl ?_
  refine g_callV (h0) okX12_first lkX12_121 rfl (by first | rfl | exact pv_shx) rfl (by omega) (by omega) dX12_run_1 rfl (Nat.le_of_ble_eq_true rfl) (⟨by decide, by decide, by decide, by decide⟩) ?_
  rintro v nx' I1 J' P' ⟨rfl, rfl, rfl, rfl, f1, f2, f3, f4, f5, f6⟩
  refine g_aload_n dX12_run_4 rfl ?_
  refine g_getP dX12_run_5 fdX12_51 rfl (by first | rfl | exact pv_shx) (by omega) (by omega) (by decide) rfl (hP _ _ _ rfl) ?_
  refine g_iload_n dX12_run_8 rfl ?_
  refine g_iconst (v := nI 0) dX12_run_9 (by decide) ?_
  refine n_iast dX12_run_10 (by first | rfl | exact pv_shx) (by omega) (by omega) (by omega) (by decide) (rfl) (by omega) (by repeat (first | exact pvu_s | exact pvuJ_s | apply pvu_in (by omega) | apply pvuJ_in (by omega) | exact pvu_pvs | exact pvuJ_pvs)) ?_
  refine g_iconst (v := nI 0) dX12_run_11 (by decide) ?_
  refine g_istore dX12_run_12 (by decide) rfl ?_
  refine lp u 0 _ (by omega) ?_ ⟨fun c => by show 0 ≤ 2; omega, fun c => ?_, fun c => Nat.le_refl _⟩ ?_ ?_ ?_ ?_ ?_ ?_ (fun k c hk => absurd hk (Nat.not_lt_zero k)) (fun x hx => ?_)
  · intro k hk
    simp at hk
    rw [pvs_ne (by omega)]
    exact f1 k (by simp; omega)
  · show (if c < 64 then cnt a (84 + c) else 0) ≤ 999
    split
    · rename_i hc
      obtain ⟨v, v1, v2⟩ := hF.2.1.2.1 c hc
      rw [cnt_of v2 (by omega)]; exact v1
    · omega
  · rw [pvs_ne (by decide), f2]; rfl
  · rw [pvs_ne (by decide), f3]; exact arN_cong (fun c hc => by show _ = if c < 64 then _ else 0; rw [if_pos hc])
  · rw [pvs_ne (by decide), f4]; rfl
  · rw [pvs_ne (by decide), f5]; rfl
  · rw [pvs_ne (by decide), f6]; rfl
  · rw [pvs_eq, f1 216 (by decide)]; rfl
  · rw [pvs_ne (by decide), f1 215 (by decide)]
