/-! the law: what both sides are at each step -/
section LWR
variable {M : pvM} {R : Room} {Z : pvZT} {pc : Nat} {ls st : List Value} {kc kn nx : Nat} {I : pvI} {J : pvJ} {P : pvP}
theorem g_sld {L ix : Nat} {i v : Int32} (hd : decode M.2.1 pc = .ok (.iaload, 1)) (hp : P 0 0 = some L) (hn : L ≤ 100000) (hix : i = nI ix) (hlt : ix < L) (hv : I 0 ix = v) (kk : pvG M R Z (pc + 1) ls (.int v :: st) kc kn nx I J P) : pvG M R Z pc ls (.int i :: .ref 0 :: st) kc kn nx I J P := by
  intro X p l e s m args below meth c0 H locs als hC hL
  have hHd := hC.2.2.2.2.2.2.2.2.2.2.2.1
  obtain ⟨scr, h1, h2, h3, h4, h5⟩ := hHd.2.2.2.1
  rw [hp] at h4 h5
  obtain ⟨g1, g2⟩ := pv_ix hix hlt hn
  subst hv
  refine W.iald (v := .int (I 0 ix)) hC.1 hC.2.1 h1 h2 h3 (by rw [h4]; exact g1) (by rw [g2]; exact h5 _ hlt) rfl rfl hd ?_
  exact kk X p l e s m args below meth c0 H locs als hC hL
theorem g_slen {L : Nat} (hd : decode M.2.1 pc = .ok (.arraylength, 1)) (hp : P 0 0 = some L) (kk : pvG M R Z (pc + 1) ls (.int (nI L) :: st) kc kn nx I J P) : pvG M R Z pc ls (.ref 0 :: st) kc kn nx I J P := by
  intro X p l e s m args below meth c0 H locs als hC hL
  have hHd := hC.2.2.2.2.2.2.2.2.2.2.2.1
  obtain ⟨scr, h1, h2, h3, h4, h5⟩ := hHd.2.2.2.1
  rw [hp] at h4 h5
  exact W.alen (n := Int32.ofNat L) hC.1 hC.2.1 h1 h2 (by rw [h4] <;> rfl) rfl rfl hd (kk X p l e s m args below meth c0 H locs als hC hL)
end LWR
/-- the law's own method; nothing turns on its name -/
abbrev mLw (nm : String) : pvM := (⟨RL, nm, "([I)Z"⟩, cL_law, 4, ret)
section LWD
variable {w h n : Nat} {a a' im im' : Nat → Int32} {tx tx' : Nat → Nat} {cl cl' : Nat → List pC} {f1 f2 g1 g2 : Int32} {I I' : pvI} {J J' : pvJ} {P P' : pvP}
/-- the class's side -/
def lwC (w h : Nat) (a im : Nat → Int32) (tx : Nat → Nat) (n : Nat) (cl : Nat → List pC) (f1 f2 : Int32) (I : pvI) (J : pvJ) : Prop := kB w h a I J ∧ rW w h 46 im I J ∧ cTx tx n I ∧ (I 144 2 = f1 ∧ I 144 3 = f2) ∧ cActs (cnt a 8) cl I ∧ rCac w h a I
/-- the reference's side -/
def lwM (w h : Nat) (a im : Nat → Int32) (tx : Nat → Nat) (n : Nat) (cl : Nat → List pC) (f1 f2 : Int32) (I : pvI) : Prop := I 203 = a ∧ I 204 = im ∧ mDim w h I ∧ mTx tx n I ∧ (I 202 19 = f1 ∧ I 202 20 = f2) ∧ mActs (cnt a 8) cl I ∧ (I 202 33 = 0 ∨ I 202 33 = 1)
def lwK (w h : Nat) (a im : Nat → Int32) : Prop := mInv w h a ∧ mInv w h im ∧ cnt im 8 ≤ cnt a 8
def lcQ (r : Int32) (w h : Nat) (a im : Nat → Int32) (tx : Nat → Nat) (n : Nat) (cl : Nat → List pC) (f1 f2 : Int32) (I : pvI) (P : pvP) : pvQT := fun v nx' I' J' P' => v = some (.int r) ∧ nx' = 224 ∧ pvOkP P' ∧ P' 0 = P 0 ∧ lwC w h a im tx n cl f1 f2 I' J' ∧ ∀ x, x = 0 ∨ 202 ≤ x → I' x = I x
def lmQ (r : Int32) (w h : Nat) (a im : Nat → Int32) (tx : Nat → Nat) (n : Nat) (cl : Nat → List pC) (f1 f2 : Int32) (I : pvI) (J : pvJ) (P : pvP) : pvQT := fun v nx' I' J' P' => v = some (.int r) ∧ nx' = 224 ∧ P' = P ∧ lwM w h a im tx n cl f1 f2 I' ∧ ∀ x, x < 202 → I' x = I x ∧ J' x = J x
theorem lwC.mv (hc : lwC w h a im tx n cl f1 f2 I J) (hx : ∀ x, x < 202 → I' x = I x ∧ J' x = J x) : lwC w h a im tx n cl f1 f2 I' J' := by
  obtain ⟨b, r, t, f, c, q⟩ := hc
  refine ⟨b.far (fun x z => (hx x (by omega)).1) (fun x z => (hx x (by omega)).2), r.mv (fun x _ z => (hx x (by omega)).1) (fun x _ z => (hx x (by omega)).2), ?_, ?_, c.mv b.n89.1 (fun x z1 z2 => (hx x (by omega)).1), q.mv (hx 43 (by decide)).1⟩
  · unfold cTx at t ⊢
    rw [(hx 144 (by decide)).1, (hx 145 (by decide)).1]; exact t
  · rw [(hx 144 (by decide)).1]; exact f
theorem lwM.fix (hm : lwM w h a im tx n cl f1 f2 I) (h3 : I' 203 = I 203) (h4 : I' 204 = I 204) (h5 : I' 205 = I 205) (h17 : I' 217 = I 217) (h2 : ∀ j, j ≠ 39 → j ≠ 40 → I' 202 j = I 202 j) : lwM w h a im tx n cl f1 f2 I' := by
  obtain ⟨m1, m2, m3, m4, m5, m6, m7⟩ := hm
  refine ⟨h3.trans m1, h4.trans m2, ?_, ?_, ?_, ?_, ?_⟩
  · unfold mDim at m3 ⊢
    rw [h2 0 (by decide) (by decide), h2 1 (by decide) (by decide)]; exact m3
  · unfold mTx at m4 ⊢
    rw [h2 17 (by decide) (by decide), h17]; exact m4
  · rw [h2 19 (by decide) (by decide), h2 20 (by decide) (by decide)]; exact m5
  · unfold mActs at m6 ⊢
    rw [h5]; exact m6
  · rw [h2 33 (by decide) (by decide)]; exact m7
theorem lwM.mv (hm : lwM w h a im tx n cl f1 f2 I) (hx : ∀ x, x = 0 ∨ 202 ≤ x → I' x = I x) : lwM w h a im tx n cl f1 f2 I' := hm.fix (hx 203 (by omega)) (hx 204 (by omega)) (hx 205 (by omega)) (hx 217 (by omega)) (fun j _ _ => by rw [hx 202 (by omega)])
/-- a question of the class -/
theorem lwC.by (hc : lwC w h a im tx n cl f1 f2 I J) (hb : kB w h a I' J') (hf : byF I J I' J') : lwC w h a im tx n cl f1 f2 I' J' := by
  obtain ⟨b, r, t, f, c, q⟩ := hc
  refine ⟨hb, r.mv (fun x _ z => (hf x (by omega)).1) (fun x _ z => (hf x (by omega)).2), ?_, ?_, c.mv b.n89.1 (fun x z1 z2 => (hf x (by omega)).1), q.mv (hf 43 (by decide)).1⟩
  · unfold cTx at t ⊢
    rw [(hf 144 (by decide)).1, (hf 145 (by decide)).1]; exact t
  · rw [(hf 144 (by decide)).1]; exact f
/-- a change of the class -/
theorem lwC.mt (hc : lwC w h a im tx n cl f1 f2 I J) (hb : kB w h a' I' J') (hf : mF2 I J I' J') (h8 : cnt a' 8 = cnt a 8) (hq : rCac w h a' I') : lwC w h a' im tx n cl f1 f2 I' J' := by
  obtain ⟨b, r, t, f, c, q⟩ := hc
  refine ⟨hb, r.mv (fun x _ z => (hf x (by omega)).1) (fun x _ z => (hf x (by omega)).2), ?_, ?_, ?_, hq⟩
  · unfold cTx at t ⊢
    rw [(hf 144 (by decide)).1, (hf 145 (by decide)).1]; exact t
  · rw [(hf 144 (by decide)).1]; exact f
  · rw [h8]
    exact c.mv b.n89.1 (fun x z1 z2 => (hf x (by omega)).1)
theorem lq_by {M : pvM} {d : Nat} {vs : List Value} {r : Int32} (hP : pvOkP P) (hc : lwC w h a im tx n cl f1 f2 I J) (hM : pvMet M d 0 0 vs 224 I J P (byC w h a I J P r)) : pvMet M d 0 0 vs 224 I J P (lcQ r w h a im tx n cl f1 f2 I P) := pvMet.weaken hM (fun v nx' I' J' P' ⟨z1, z2, z3, z4, z5⟩ => by
  subst z2
  exact ⟨z3, z1, hP, rfl, hc.by z4 z5, fun x hx => (z5 x (by omega)).1⟩)
theorem lq_k {M : pvM} {d : Nat} {vs : List Value} {r : Int32} (hP : pvOkP P) (hc : lwC w h a im tx n cl f1 f2 I J) (hM : pvMet M d 0 0 vs 224 I J P (kQ w h a I J P r)) : pvMet M d 0 0 vs 224 I J P (lcQ r w h a im tx n cl f1 f2 I P) := pvMet.weaken hM (fun v nx' I' J' P' ⟨z1, z2, z3, z4, z5⟩ => by
  subst z2
  exact ⟨z3, z1, hP, rfl, hc.by z4 z5.by, fun x hx => (z5 x (by omega)).1⟩)
theorem lq_pu {M : pvM} {d : Nat} {vs : List Value} {r : Int32} (hP : pvOkP P) (hc : lwC w h a im tx n cl f1 f2 I J) (hM : pvMet M d 0 0 vs 224 I J P (pvpu (.int r) 224 I J P)) : pvMet M d 0 0 vs 224 I J P (lcQ r w h a im tx n cl f1 f2 I P) := pvMet.weaken hM (fun v nx' I' J' P' ⟨z1, z2, z3, z4, z5⟩ => by
  subst z3; subst z4; subst z5
  exact ⟨z1, z2, hP, rfl, hc, fun x hx => rfl⟩)
theorem lq_mt {M : pvM} {d : Nat} {vs : List Value} {r : Int32 × (Nat → Int32)} (hP : pvOkP P) (hc : lwC w h a im tx n cl f1 f2 I J) (h8 : r.2 8 = a 8) (hM : pvMet M d 0 0 vs 224 I J P (mtQ w h a I J P r)) : pvMet M d 0 0 vs 224 I J P (lcQ r.1 w h r.2 im tx n cl f1 f2 I P) := pvMet.weaken hM (fun v nx' I' J' P' ⟨z1, z2, z3, z4, z5, z6⟩ => by
  subst z2
  exact ⟨z3, z1, hP, rfl, hc.mt z4 z5 (by unfold cnt; rw [h8]) (hc.2.2.2.2.2.mt hc.1 z6), fun x hx => (z5 x (by omega)).1⟩)
theorem lm_fix {M : pvM} {d : Nat} {vs : List Value} {r : Int32} {l : List Nat} (hm : lwM w h a im tx n cl f1 f2 I) (hl : ∀ x, x < 202 ∨ x = 202 ∨ x = 203 ∨ x = 204 ∨ x = 205 ∨ x = 217 → x ∉ l) (hM : pvMet M d 0 0 vs 224 I J P (pvq P (fun v I' J' => v = some (.int r) ∧ mfix I I' l ∧ ∀ x, x ≠ 220 → J' x = J x))) : pvMet M d 0 0 vs 224 I J P (lmQ r w h a im tx n cl f1 f2 I J P) := pvMet.weaken hM (fun v nx' I' J' P' ⟨z1, z2, z3, z4, z5⟩ => by
  exact ⟨z3, z1, z2, hm.fix (z4 203 (hl _ (by omega))) (z4 204 (hl _ (by omega))) (z4 205 (hl _ (by omega))) (z4 217 (hl _ (by omega))) (fun j _ _ => by rw [z4 202 (hl _ (by omega))]), fun x hx => ⟨z4 x (hl _ (by omega)), z5 x (by omega)⟩⟩)
theorem LR_no : ∀ x, x < 202 ∨ x = 202 ∨ x = 203 ∨ x = 204 ∨ x = 205 ∨ x = 217 → x ∉ (224 :: 219 :: 221 :: LR) := fun x hx => by simp; omega
theorem lm_2 {M : pvM} {d : Nat} {vs : List Value} {r : Int32} (hm : lwM w h a im tx n cl f1 f2 I) (hM : pvMet M d 0 0 vs 224 I J P (mQ2 I J P r)) : pvMet M d 0 0 vs 224 I J P (lmQ r w h a im tx n cl f1 f2 I J P) := lm_fix (l := LR) hm (fun x hx => by simp; omega) (pvMet.weaken hM (fun v nx' I' J' P' ⟨z1, z2, z3, z4, z5⟩ => ⟨z1, z2, z3, z4, fun x _ => by rw [z5]⟩))
theorem lm_L {M : pvM} {d : Nat} {vs : List Value} {r : Int32} (hm : lwM w h a im tx n cl f1 f2 I) (hM : pvMet M d 0 0 vs 224 I J P (mQL LB I J P r)) : pvMet M d 0 0 vs 224 I J P (lmQ r w h a im tx n cl f1 f2 I J P) := lm_fix (l := LB) hm (fun x hx => by simp; omega) (pvMet.weaken hM (fun v nx' I' J' P' ⟨z1, z2, z3, z4, z5⟩ => ⟨z1, z2, z3, z4, fun x _ => by rw [z5]⟩))
theorem lm_by {M : pvM} {d : Nat} {vs : List Value} {r : Int32} (hm : lwM w h a im tx n cl f1 f2 I) (hM : pvMet M d 0 0 vs 224 I J P (byQ I J P r)) : pvMet M d 0 0 vs 224 I J P (lmQ r w h a im tx n cl f1 f2 I J P) := lm_fix (l := 219 :: 221 :: LR) hm (fun x hx => by simp; omega) hM
theorem lm_vt {M : pvM} {d : Nat} {vs : List Value} {r : Int32} (hm : lwM w h a im tx n cl f1 f2 I) (hM : pvMet M d 0 0 vs 224 I J P (vtQ I J P r)) : pvMet M d 0 0 vs 224 I J P (lmQ r w h a im tx n cl f1 f2 I J P) := pvMet.weaken hM (fun v nx' I' J' P' ⟨z1, z2, z3, z4, z6, z5⟩ => by
  have hl : ∀ x, x < 202 ∨ x = 203 ∨ x = 204 ∨ x = 205 ∨ x = 217 → x ∉ LV := fun x hx => by simp; omega
  exact ⟨z3, z1, z2, hm.fix (z4 203 (hl _ (by omega))) (z4 204 (hl _ (by omega))) (z4 205 (hl _ (by omega))) (z4 217 (hl _ (by omega))) (fun j y1 y2 => z6 j (by simp; omega)), fun x hx => ⟨z4 x (hl _ (by omega)), z5 x (by omega)⟩⟩)
theorem lm_pu {M : pvM} {d : Nat} {vs : List Value} {r : Int32} (hm : lwM w h a im tx n cl f1 f2 I) (hM : pvMet M d 0 0 vs 224 I J P (pvpu (.int r) 224 I J P)) : pvMet M d 0 0 vs 224 I J P (lmQ r w h a im tx n cl f1 f2 I J P) := pvMet.weaken hM (fun v nx' I' J' P' ⟨z1, z2, z3, z4, z5⟩ => by
  subst z3; subst z4; subst z5
  exact ⟨z1, z2, rfl, hm, fun x hx => ⟨rfl, rfl⟩⟩)
theorem lm_3 {M : pvM} {d : Nat} {vs : List Value} {r : Int32 × (Nat → Int32)} (hm : lwM w h a im tx n cl f1 f2 I) (h8 : r.2 8 = a 8) (hM : pvMet M d 0 0 vs 224 I J P (pvq P (fun v I' J' => v = some (.int r.1) ∧ mfix I I' [203, 206] ∧ I' 203 = r.2 ∧ J' = J))) : pvMet M d 0 0 vs 224 I J P (lmQ r.1 w h r.2 im tx n cl f1 f2 I J P) := pvMet.weaken hM (fun v nx' I' J' P' ⟨z1, z2, z3, z4, z5, z6⟩ => by
  have hl : ∀ x, x ≠ 203 → x ≠ 206 → I' x = I x := fun x y1 y2 => z4 x (by simp; omega)
  obtain ⟨m1, m2, m3, m4, m5, m6, m7⟩ := hm
  refine ⟨z3, z1, z2, ⟨z5, (hl 204 (by decide) (by decide)).trans m2, ?_, ?_, ?_, ?_, ?_⟩, fun x hx => ⟨hl x (by omega) (by omega), by rw [z6]⟩⟩
  · unfold mDim at m3 ⊢
    rw [hl 202 (by decide) (by decide)]; exact m3
  · unfold mTx at m4 ⊢
    rw [hl 202 (by decide) (by decide), hl 217 (by decide) (by decide)]; exact m4
  · rw [hl 202 (by decide) (by decide)]; exact m5
  · unfold mActs at m6 ⊢
    rw [show cnt r.2 8 = cnt a 8 by unfold cnt; rw [h8], hl 205 (by decide) (by decide)]; exact m6
  · rw [hl 202 (by decide) (by decide)]; exact m7)
theorem lm_1 {M : pvM} {d : Nat} {vs : List Value} {r : Int32 × (Nat → Int32)} (hm : lwM w h a im tx n cl f1 f2 I) (h8 : r.2 8 = a 8) (hM : pvMet M d 0 0 vs 224 I J P (mQ1 I J P r)) : pvMet M d 0 0 vs 224 I J P (lmQ r.1 w h r.2 im tx n cl f1 f2 I J P) := lm_3 hm h8 (pvMet.weaken hM (fun v nx' I' J' P' ⟨z1, z2, z3, z4, z5⟩ => ⟨z1, z2, z3, fun k hk => by rw [z4, pvs_ne (by simp at hk; omega)], by rw [z4, pvs_eq], z5⟩))
end LWD
