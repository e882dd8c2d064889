/-! model: the beginning of a week as one; open cells; a week's burning -/
theorem t_begin {w h : Nat} {I : pvI} {J : pvJ} {P : pvP} {s m wl L : Nat} {gn gl gf gc : Nat → Int32} {nw lf fl cu : Nat → Nat} (hP : pvOkP P) (hD : mDim w h I) (hF : mF w h (I 203)) (hs : s < cnt (I 203) 3) (hm : m ≤ 99) (hwl : wl < 64)
    (hn : I 208 = arN gn 64 nw) (hl : I 210 = arN gl 64 lf) (hf : I 212 = arN gf 64 fl) (hc : I 213 = arN gc 64 cu) (hL : I 216 s = nI L) (bn : ∀ c, nw c ≤ 2) (bl : ∀ c, lf c ≤ 999) (bc : ∀ c, cu c ≤ 1) :
    pvMet mX12_begin 2 0 0 [.ref 202, .int (nI s), .int (nI m), .int (nI wl)] 224 I J P (pvq P (fun v I' J' => v = none ∧ J' = J ∧ mfix I I' [208, 210, 212, 213, 216] ∧
      I' 208 = arN gn 64 (fun c => if cutw w h (I 203) m c = true then 0 else nw1 (I 203) s m lf cu nw c) ∧ I' 210 = arN gl 64 (fun c => if cutw w h (I 203) m c = true then 0 else lf c) ∧ I' 212 = arN gf 64 (fl2 (I 203) m wl (fl1 (I 203) m fl)) ∧ I' 213 = arN gc 64 (fun c => if cutw w h (I 203) m c = true then 1 else cu c) ∧ I' 216 = upd (I 216) s (nI (ltm w h (I 203) m (nw1 (I 203) s m lf cu nw) L (cnt (I 203) 2))))) := by
  obtain ⟨hg, hce, hst, hT, hho, hpl⟩ := hF
  have hwh : w * h ≤ 64 := Nat.mul_le_mul hD.2.2.1.2 hD.2.2.2.2
  obtain ⟨ns, ns_b, ns_h⟩ := hg 3 (by decide)
  replace ns_b : ns ≤ 8 := ns_b
  have ns_e : cnt (I 203) 3 = ns := cnt_of ns_h (by omega)
  refine pvMet.of _ (by decide) rfl (Nat.le_of_ble_eq_true rfl) ?_
  have e0 : I = pvs I 212 (arN gf 64 fl) := by rw [← hf, pvs_self]
  show pvG mX12_begin (pvR 2 0 0) _ 0 (LSb s m (nI wl)) [] 0 0 224 I J P
  generalize hZ : pvZ _ 0 0 = Z
  rw [e0]
  refine b_fill hP rfl hce hm ?_
  refine b_wall hP rfl hg hpl hwh hm hwl ?_
  generalize hI1 : pvs I 212 (arN gf 64 (fl2 (I 203) m wl (fl1 (I 203) m fl))) = I1
  have a1 : I1 203 = I 203 := by rw [← hI1, pvs_ne (by decide)]
  have e1 : I1 = pvs I1 208 (arN gn 64 nw) := by rw [← hn, ← show I1 208 = I 208 by rw [← hI1, pvs_ne (by decide)], pvs_self]
  rw [e1]
  refine b_ign (gl := gl) (gc := gc) (lf := lf) (cu := cu) hP a1 hst hwh hs (by omega) hm (by rw [← hI1, pvs_ne (by decide)]; exact hl) bl (by rw [← hI1, pvs_ne (by decide)]; exact hc) bc ?_
  generalize hI2 : pvs I1 208 (arN gn 64 (nw1 (I 203) s m lf cu nw)) = I2
  have a2 : I2 203 = I 203 := by rw [← hI2, pvs_ne (by decide), a1]
  have d2 : mDim w h I2 := ⟨by rw [← hI2, pvs_ne (by decide), ← hI1, pvs_ne (by decide)]; exact hD.1, by rw [← hI2, pvs_ne (by decide), ← hI1, pvs_ne (by decide)]; exact hD.2.1, hD.2.2⟩
  have t2 : I2 216 = I 216 := by rw [← hI2, pvs_ne (by decide), ← hI1, pvs_ne (by decide)]
  have e2 : I2 = pvs I2 216 (upd (I 216) s (nI L)) := by
    rw [show upd (I 216) s (nI L) = I2 216 by rw [t2]; funext k; by_cases z : k = s <;> simp [upd, z, hL], pvs_self]
  have bn1 : ∀ c, nw1 (I 203) s m lf cu nw c ≤ 2 := fun c => by
    unfold nw1
    split
    · decide
    · exact bn c
  rw [e2]
  refine b_late (gn := gn) (nw := nw1 (I 203) s m lf cu nw) hP d2 a2 hg hT (by omega) hm (by rw [← hI2, pvs_eq]) bn1 ?_
  generalize hI3 : pvs I2 216 (upd (I 216) s (nI (ltm w h (I 203) m (nw1 (I 203) s m lf cu nw) L (cnt (I 203) 2)))) = I3
  have a3 : I3 203 = I 203 := by rw [← hI3, pvs_ne (by decide), a2]
  have d3 : mDim w h I3 := ⟨by rw [← hI3, pvs_ne (by decide)]; exact d2.1, by rw [← hI3, pvs_ne (by decide)]; exact d2.2.1, hD.2.2⟩
  have n3 : I3 208 = arN gn 64 (nw1 (I 203) s m lf cu nw) := by rw [← hI3, pvs_ne (by decide), ← hI2, pvs_eq]
  have l3 : I3 210 = arN gl 64 lf := by rw [← hI3, pvs_ne (by decide), ← hI2, pvs_ne (by decide), ← hI1, pvs_ne (by decide), hl]
  have c3 : I3 213 = arN gc 64 cu := by rw [← hI3, pvs_ne (by decide), ← hI2, pvs_ne (by decide), ← hI1, pvs_ne (by decide), hc]
  have e3 : I3 = pvs (pvs (pvs I3 213 (arN gc 64 cu)) 208 (arN gn 64 (nw1 (I 203) s m lf cu nw))) 210 (arN gl 64 lf) := by
    rw [← n3, ← l3, ← c3, pvs_self, pvs_self, pvs_self]
  rw [e3]
  refine b_cut hP d3 a3 hg hT hm ?_
  subst hZ
  refine g_vret dX12_begin_426 rfl ⟨rfl, rfl, rfl, rfl, fun k hk => ?_, ?_, ?_, ?_, ?_, ?_⟩
  · simp at hk
    rw [pvs_ne hk.2.1, pvs_ne hk.1, pvs_ne hk.2.2.2.1, ← hI3, pvs_ne hk.2.2.2.2, ← hI2, pvs_ne hk.1, ← hI1, pvs_ne hk.2.2.1]
  · rw [pvs_ne (by decide), pvs_eq]
  · rw [pvs_eq]
  · rw [pvs_ne (by decide), pvs_ne (by decide), pvs_ne (by decide), ← hI3, pvs_ne (by decide), ← hI2, pvs_ne (by decide), ← hI1, pvs_eq]
  · rw [pvs_ne (by decide), pvs_ne (by decide), pvs_eq]
  · rw [pvs_ne (by decide), pvs_ne (by decide), pvs_ne (by decide), ← hI3, pvs_eq]
/-- which cells are open -/
abbrev opP (a : Nat → Int32) (nw cu fl : Nat → Nat) (c : Nat) : Prop := nw c = 2 ∨ (cnt a (20 + c) = 3 ∧ cu c = 0 ∧ fl c < 20)
theorem t_isOpen {I : pvI} {J : pvJ} {P : pvP} {gn gf gc : Nat → Int32} {nw fl cu : Nat → Nat} (hP : pvOkP P) (hce : mCells (I 203)) (hn : I 208 = arN gn 64 nw) (hf : I 212 = arN gf 64 fl) (hc : I 213 = arN gc 64 cu) (bn : ∀ c, nw c ≤ 2) (bf : ∀ c, fl c ≤ 5000) (bc : ∀ c, cu c ≤ 1) {c : Nat} (hcc : c < 64) :
    pvMet mX12_isOpen 0 0 0 [.ref 202, .int (nI c)] 224 I J P (pvpu (.int (if opP (I 203) nw cu fl c then 1 else 0)) 224 I J P) := by
  have r1 : I 208 c = nI (nw c) := by rw [hn, arN_at hcc]
  have r2 : I 212 c = nI (fl c) := by rw [hf, arN_at hcc]
  have r3 : I 213 c = nI (cu c) := by rw [hc, arN_at hcc]
  obtain ⟨v, v1, v2⟩ := hce.1 c hcc
  have v3 : cnt (I 203) (20 + c) = v := cnt_of v2 (by omega)
  have b1 := bn c
  have b2 := bf c
  have b3 := bc c
  refine pvMet.of _ (by decide) rfl (Nat.le_of_ble_eq_true rfl) ?_
  refine g_aload_n dX12_isOpen_0 rfl ?_
  refine g_getP dX12_isOpen_1 fdX12_25 rfl (by first | rfl | exact pv_shx) (by omega) (by omega) (by decide) rfl (hP _ _ _ rfl) ?_
  refine g_iload_n dX12_isOpen_4 rfl ?_
  refine n_iald dX12_isOpen_5 (by first | rfl | exact pv_shx) (by omega) (by omega) (by decide) (rfl) (by omega) (by repeat (first | exact r1 | exact r2 | exact r3 | exact v2 | (apply rd_s; done) | apply rd_n (by omega) | apply rp_s | apply rp_n (by omega) | (apply rdL_s; done) | apply rdL_n (by omega) | apply rpJ_s | apply rpJ_n (by omega) | rfl)) ?_
  refine g_iconst (v := nI 2) dX12_isOpen_6 (by decide) ?_
  refine n_icmp_eq 43 dX12_isOpen_7 (by decide) (by first | ((with_reducible apply cN_eq) <;> omega) | ((with_reducible apply cI_eqn) <;> omega) | exact Iff.rfl) (fun c7 => ?_) (fun c7 => ?_)
  · skip
    refine g_iconst (v := nI 1) dX12_isOpen_43 (by decide) ?_
    refine g_goto 48 dX12_isOpen_44 (by decide) ?_
    exact g_zret (by first | exact Or.inl rfl | exact Or.inr rfl | exact cB01 _) dX12_isOpen_48 rfl (⟨by first | (rw [if_pos (by unfold opP; omega)]; rfl) | (rw [if_neg (by unfold opP; omega)]; rfl), rfl, rfl, rfl, rfl⟩)
  · skip
    refine g_aload_n dX12_isOpen_10 rfl ?_
    refine g_getP dX12_isOpen_11 fdX12_7 rfl (by first | rfl | exact pv_shx) (by omega) (by omega) (by decide) rfl (hP _ _ _ rfl) ?_
    refine g_bipush (v := nI 20) dX12_isOpen_14 (by decide) ?_
    refine g_iload_n dX12_isOpen_16 rfl ?_
    refine n_iadd dX12_isOpen_17 (by first | (with_reducible exact nI_add _ _) | rfl) ?_
    refine n_iald dX12_isOpen_18 (by first | rfl | exact pv_shx) (by omega) (by omega) (by decide) (rfl) (by omega) (by repeat (first | exact r1 | exact r2 | exact r3 | exact v2 | (apply rd_s; done) | apply rd_n (by omega) | apply rp_s | apply rp_n (by omega) | (apply rdL_s; done) | apply rdL_n (by omega) | apply rpJ_s | apply rpJ_n (by omega) | rfl)) ?_
    refine g_iconst (v := nI 3) dX12_isOpen_19 (by decide) ?_
    refine n_icmp_ne 47 dX12_isOpen_20 (by decide) (by first | ((with_reducible apply cN_eq) <;> omega) | ((with_reducible apply cI_eqn) <;> omega) | exact Iff.rfl) (fun c20 => ?_) (fun c20 => ?_)
    · skip
      refine g_iconst (v := nI 0) dX12_isOpen_47 (by decide) ?_
      exact g_zret (by first | exact Or.inl rfl | exact Or.inr rfl | exact cB01 _) dX12_isOpen_48 rfl (⟨by first | (rw [if_pos (by unfold opP; omega)]; rfl) | (rw [if_neg (by unfold opP; omega)]; rfl), rfl, rfl, rfl, rfl⟩)
    · skip
      refine g_aload_n dX12_isOpen_23 rfl ?_
      refine g_getP dX12_isOpen_24 fdX12_40 rfl (by first | rfl | exact pv_shx) (by omega) (by omega) (by decide) rfl (hP _ _ _ rfl) ?_
      refine g_iload_n dX12_isOpen_27 rfl ?_
      refine n_iald dX12_isOpen_28 (by first | rfl | exact pv_shx) (by omega) (by omega) (by decide) (rfl) (by omega) (by repeat (first | exact r1 | exact r2 | exact r3 | exact v2 | (apply rd_s; done) | apply rd_n (by omega) | apply rp_s | apply rp_n (by omega) | (apply rdL_s; done) | apply rdL_n (by omega) | apply rpJ_s | apply rpJ_n (by omega) | rfl)) ?_
      refine n_if_ne 47 dX12_isOpen_29 (by decide) (by first | (with_reducible exact cB _) | ((with_reducible apply cN_eq0) <;> omega) | exact Iff.rfl) (fun c29 => ?_) (fun c29 => ?_)
      · skip
        refine g_iconst (v := nI 0) dX12_isOpen_47 (by decide) ?_
        exact g_zret (by first | exact Or.inl rfl | exact Or.inr rfl | exact cB01 _) dX12_isOpen_48 rfl (⟨by first | (rw [if_pos (by unfold opP; omega)]; rfl) | (rw [if_neg (by unfold opP; omega)]; rfl), rfl, rfl, rfl, rfl⟩)
      · skip
        refine g_aload_n dX12_isOpen_32 rfl ?_
        refine g_getP dX12_isOpen_33 fdX12_37 rfl (by first | rfl | exact pv_shx) (by omega) (by omega) (by decide) rfl (hP _ _ _ rfl) ?_
        refine g_iload_n dX12_isOpen_36 rfl ?_
        refine n_iald dX12_isOpen_37 (by first | rfl | exact pv_shx) (by omega) (by omega) (by decide) (rfl) (by omega) (by repeat (first | exact r1 | exact r2 | exact r3 | exact v2 | (apply rd_s; done) | apply rd_n (by omega) | apply rp_s | apply rp_n (by omega) | (apply rdL_s; done) | apply rdL_n (by omega) | apply rpJ_s | apply rpJ_n (by omega) | rfl)) ?_
        refine g_bipush (v := nI 20) dX12_isOpen_38 (by decide) ?_
        refine n_icmp_ge 47 dX12_isOpen_40 (by decide) (by first | ((with_reducible apply cN_le) <;> omega) | ((with_reducible apply cI_len) <;> omega) | ((with_reducible apply cI_nle) <;> omega) | (with_reducible exact cI_le)) (fun c40 => ?_) (fun c40 => ?_)
        · skip
          refine g_iconst (v := nI 0) dX12_isOpen_47 (by decide) ?_
          exact g_zret (by first | exact Or.inl rfl | exact Or.inr rfl | exact cB01 _) dX12_isOpen_48 rfl (⟨by first | (rw [if_pos (by unfold opP; omega)]; rfl) | (rw [if_neg (by unfold opP; omega)]; rfl), rfl, rfl, rfl, rfl⟩)
        · skip
          refine g_iconst (v := nI 1) dX12_isOpen_43 (by decide) ?_
          refine g_goto 48 dX12_isOpen_44 (by decide) ?_
          exact g_zret (by first | exact Or.inl rfl | exact Or.inr rfl | exact cB01 _) dX12_isOpen_48 rfl (⟨by first | (rw [if_pos (by unfold opP; omega)]; rfl) | (rw [if_neg (by unfold opP; omega)]; rfl), rfl, rfl, rfl, rfl⟩)
-- a week's burning
def byN (w h : Nat) (nw : Nat → Nat) (c : Nat) : Nat → Nat
  | 0 => 0
  | d + 1 => byN w h nw c d + (match sp_nb w h c d with
    | some x => if nw x = 1 then 1 else 0
    | none => 0)
theorem byN_le {w h : Nat} {nw : Nat → Nat} {c : Nat} : ∀ d, byN w h nw c d ≤ d
  | 0 => Nat.le_refl 0
  | d + 1 => by
    have := byN_le (w := w) (h := h) (nw := nw) (c := c) d
    show byN w h nw c d + _ ≤ d + 1
    split
    · split <;> omega
    · omega
def boX (a : Nat → Int32) (au : Nat → Bool) (c : Nat) : Nat := if au c = true then cnt a 12 else cnt a 12 / 2
def lfB (a : Nat → Int32) (au : Nat → Bool) (nw lf : Nat → Nat) (c : Nat) : Nat := if nw c = 1 then lf c - boX a au c else lf c
def htB (w h : Nat) (au : Nat → Bool) (nw lf ht : Nat → Nat) (c : Nat) : Nat := if nw c = 1 then ht c else if 0 < lf c then (if au c = true then ht c + byN w h nw c 4 else ht c - 1) else ht c
def stB (w h : Nat) (a : Nat → Int32) (au : Nat → Bool) (nw lf ht : Nat → Nat) (c : Nat) : Nat := if nw c = 1 then (if lf c ≤ boX a au c then 2 else 1) else if 0 < lf c then (if au c = true ∧ cnt a 11 ≤ htB w h au nw lf ht c then 1 else nw c) else nw c
