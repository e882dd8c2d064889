/-! the law: act, both sides -/
section LWA
variable {w h n : Nat} {a a' im im' : Nat → Int32} {tx tx' : Nat → Nat} {cl cl' : Nat → List pC} {f1 f2 g1 g2 : Int32} {I I' : pvI} {J J' : pvJ} {P P' : pvP}
theorem txA.mv {f f' : Nat → Int32} {t0 : Nat} {cs : List pC} (hx : txA f t0 cs) (hf : ∀ x, t0 ≤ x → x < t0 + 800 → f' x = f x) : txA f' t0 cs := by
  obtain ⟨h1, h2, h3, cd, h4, h5, h6⟩ := hx
  refine ⟨by rw [hf t0 (by omega) (by omega)]; exact h1, h2, h3, cd, h4, fun i hi => ?_, fun j hj => ?_⟩
  · rw [hf _ (by omega) (by omega), hf _ (by omega) (by omega)]; exact h5 i hi
  · obtain ⟨k1, k2, s, k3, k4, k5, k6⟩ := h6 j hj
    refine ⟨by rw [hf _ (by omega) (by omega)]; exact k1, fun z => by rw [hf _ (by omega) (by omega)]; exact k2 z, s, k3, by rw [hf _ (by omega) (by omega)]; exact k4, by rw [hf _ (by omega) (by omega)]; exact k5, k6⟩
def clN (cl : Nat → List pC) (na : Nat) (cs : List pC) : Nat → List pC := fun t => if t = na then cs else cl t
def a8 (a : Nat → Int32) : Nat → Int32 := upd a 8 (nI (cnt a 8 + 1))
theorem a8_8 (h : cnt a 8 ≤ 10) : cnt (a8 a) 8 = cnt a 8 + 1 := by unfold a8; exact cnt_of (by simp [upd]) (by omega)
theorem a8_ag {lo hi : Nat} (h : hi ≤ 8 ∨ 9 ≤ lo) : ag lo hi a (a8 a) := fun i h1 h2 => by unfold a8; simp only [upd]; rw [if_neg (by omega)]
theorem a8_g (hg : mG a) (h : cnt a 8 < 10) : mG (a8 a) := fun i hi => by
  by_cases e : i = 8
  · subst e
    exact ⟨cnt a 8 + 1, by show cnt a 8 + 1 ≤ 10; omega, by unfold a8; simp [upd]⟩
  · unfold a8; simp only [upd]; rw [if_neg e]; exact hg i hi
theorem a8_force (hf : mForce a) (hg : mG a) (h : cnt a 8 < 10) : mForce (a8 a) := fun f hz => by
  have e9 : cnt (a8 a) 9 = cnt a 9 := by unfold cnt; rw [a8_ag (lo := 9) (hi := 10) (by omega) 9 (by omega) (by omega)]
  rw [e9] at hz
  obtain ⟨⟨t, t1, t2⟩, t3, t4⟩ := hf f hz
  have k : ∀ x, 9 ≤ x → a8 a x = a x := fun x hx => a8_ag (lo := 9) (hi := x + 1) (by omega) x hx (by omega)
  rw [k _ (by omega), k _ (by omega), k _ (by omega), a8_8 (by omega)]
  exact ⟨⟨t, by omega, t2⟩, t3, t4⟩
theorem lwC.act0 (hc : lwC w h a im tx n cl f1 f2 I J) {na : Nat} (hn : cnt a 8 ≤ na) (hna : na < 10) (hI : ∀ x, x ≠ 144 → x ≠ 146 → x ≠ 147 → (x < 149 + 5 * na ∨ 149 + 5 * na + 4 < x) → I' x = I x) (h1 : I' 144 1 = nI 0) (h2 : I' 144 2 = g1) (h3 : I' 144 3 = g2) : lwC w h a im tx 0 cl g1 g2 I' J := by
  obtain ⟨b, r, t, f, c, q⟩ := hc
  refine ⟨b.far (fun x z => hI x (by omega) (by omega) (by omega) (by omega)) (fun x z => rfl), r.mv (fun x _ z => hI x (by omega) (by omega) (by omega) (by omega)) (fun x _ z => rfl), ⟨h1, by omega, fun i hi => by omega⟩, ⟨h2, h3⟩, ?_, q.mv (hI 43 (by omega) (by omega) (by omega) (by omega))⟩
  intro t ht
  obtain ⟨k1, cd, k2, k3⟩ := c t ht
  exact ⟨k1, cd, k2, k3.mv (fun x y1 y2 => hI x (by omega) (by omega) (by omega) (by omega))⟩
theorem k_act10 (hP : pvOkP P) (hc : lwC w h a im tx n cl f1 f2 I J) (h10 : cnt a 8 = 10) : pvMet mX11_act 23 0 0 [.ref 1] 224 I J P (lcQ (-1) w h a im tx n cl f1 f2 I P) := by
  refine pvMet.weaken (c_act (na := 10) hP hc.2.2.1 (by rw [hc.1.n89.2.1, h10]) (by decide)) (fun v nx' I' J' P' ⟨z1, z2, z3, z4⟩ => ?_)
  rw [if_pos rfl] at z4
  obtain ⟨z4, rfl⟩ := z4
  subst z3
  exact ⟨z4, z1, z2.1, z2.2, hc, fun x hx => rfl⟩
theorem q_act10 (hP : pvOkP P) (hg : mG a) (hm : lwM w h a im tx n cl f1 f2 I) (h10 : cnt a 8 = 10) : pvMet mX12_act 10 0 0 [.ref 202] 224 I J P (lmQ (-1) w h a im tx n cl f1 f2 I J P) := by
  have e8 := (mG_eq hg (i := 8) (by decide)).1
  refine pvMet.weaken (t_act (na := 10) hP hm.2.2.2.1 (by rw [hm.1, e8, h10]) (by decide) hm.2.2.2.2.2.2) (fun v nx' I' J' P' ⟨z1, z2, z4⟩ => ?_)
  dsimp only at z4
  rw [if_pos rfl] at z4
  obtain ⟨z4, rfl, rfl⟩ := z4
  exact ⟨z4, z1, z2, hm, fun x hx => ⟨rfl, rfl⟩⟩
theorem k_actE {f kf : Nat} (hP : pvOkP P) (hc : lwC w h a im tx n cl f1 f2 I J) (h10 : cnt a 8 < 10) (hr : rdAll (tkK tx n) n = .error (f, kf)) : pvMet mX11_act 23 0 0 [.ref 1] 224 I J P (lcQ (-1) w h a im tx 0 cl (nI f) (nI (tkP tx n kf)) I P) := by
  refine pvMet.weaken (c_act (na := cnt a 8) hP hc.2.2.1 hc.1.n89.2.1 (by omega)) (fun v nx' I' J' P' ⟨z1, z2, z3, z4⟩ => ?_)
  rw [if_neg (by omega), hr] at z4
  obtain ⟨⟨z5, z6⟩, z7, z8, z9, z10⟩ := z4
  subst z3
  rw [z8, pvs_self] at z5
  exact ⟨z7, z1, z2.1, z2.2, hc.act0 (Nat.le_refl _) h10 z5 z6 z9 z10, fun x hx => z5 x (by omega) (by omega) (by omega) (by omega)⟩
theorem lwM.act0 (hm : lwM w h a im tx n cl f1 f2 I) {na : Nat} (hn : cnt a 8 ≤ na) (hf : acF I J I' J' (800 * na)) (h3 : I' 203 = I 203) (h19 : I' 202 19 = g1) (h20 : I' 202 20 = g2) : lwM w h a im tx 0 cl g1 g2 I' := by
  obtain ⟨m1, m2, m3, m4, m5, m6, m7⟩ := hm
  obtain ⟨k1, k2, k3, k4, k5, k6⟩ := hf
  refine ⟨h3.trans m1, (k1 204 (by simp)).trans m2, ?_, ⟨k3, by omega, fun i hi => by omega⟩, ⟨h19, h20⟩, fun t ht => ?_, k4⟩
  · unfold mDim at m3 ⊢
    rw [k2.1, k2.2]; exact m3
  · exact ⟨(m6 t ht).1.mv (fun x y1 y2 => k6 x (by omega)), (m6 t ht).2⟩
theorem q_actE {f kf : Nat} (hP : pvOkP P) (hg : mG a) (hm : lwM w h a im tx n cl f1 f2 I) (h10 : cnt a 8 < 10) (hr : rdAll (tkK tx n) n = .error (f, kf)) : pvMet mX12_act 10 0 0 [.ref 202] 224 I J P (lmQ (-1) w h a im tx 0 cl (nI f) (nI (tkP tx n kf)) I J P) := by
  have e8 := (mG_eq hg (i := 8) (by decide)).1
  refine pvMet.weaken (t_act (na := cnt a 8) hP hm.2.2.2.1 (by rw [hm.1]; exact e8) (by omega) hm.2.2.2.2.2.2) (fun v nx' I' J' P' ⟨z1, z2, z4⟩ => ?_)
  dsimp only at z4
  rw [if_neg (by omega), hr] at z4
  obtain ⟨z5, z7, z8, z9, z10⟩ := z4
  exact ⟨z7, z1, z2, hm.act0 (Nat.le_refl _) z5 z8 z9 z10, fun x hx => ⟨z5.1 x (by simp; omega), z5.2.2.2.2.1 x (by omega)⟩⟩
theorem k_actO {cs : List pC} {k : Nat} (hP : pvOkP P) (hc : lwC w h a im tx n cl f1 f2 I J) (h10 : cnt a 8 < 10) (hr : rdAll (tkK tx n) n = .ok (cs, k)) : pvMet mX11_act 23 0 0 [.ref 1] 224 I J P (lcQ (nI (cnt a 8)) w h (a8 a) im tx 0 (clN cl (cnt a 8) cs) (nI 0) (-1) I P) := by
  refine pvMet.weaken (c_act (na := cnt a 8) hP hc.2.2.1 hc.1.n89.2.1 (by omega)) (fun v nx' I' J' P' ⟨z1, z2, z3, z4⟩ => ?_)
  rw [if_neg (by omega), hr] at z4
  obtain ⟨⟨z5, z6⟩, z7, z8, z9, z10, cd, z11, z12⟩ := z4
  subst z3
  rw [z8] at z5
  obtain ⟨b, r, t, f, c, q⟩ := hc
  have hg := b.2.2.2.2.1.1
  have b2 : kB w h (a8 a) (pvs I 39 (upd (I 39) 0 (nI (cnt a 8 + 1)))) J' := by
    refine b.law (fun x hx => pvs_ne (by omega)) (a8_ag (by omega)) (a8_ag (by omega)) (a8_ag (by omega)) (a8_ag (by omega)) ?_ (a8_g hg h10) (a8_force b.2.2.2.2.2.2.2.2.1 hg h10)
    have r5 := b.2.1.2.2.2.2.2.1
    have e9 : cnt (a8 a) 9 = cnt a 9 := by unfold cnt; rw [a8_ag (lo := 9) (hi := 10) (by omega) 9 (by omega) (by omega)]
    have k : ∀ x, 9 ≤ x → a8 a x = a x := fun x hx => a8_ag (lo := 9) (hi := x + 1) (by omega) x hx (by omega)
    refine ⟨?_, ?_, fun f hf => ?_⟩
    · show upd (I 39) 0 (nI (cnt a 8 + 1)) 0 = _
      simp [upd, a8]
    · show upd (I 39) 0 (nI (cnt a 8 + 1)) 1 = _
      rw [k 9 (by omega)]
      simp only [upd]
      rw [if_neg (by decide)]
      exact r5.2.1
    · rw [e9] at hf
      rw [k _ (by omega), k _ (by omega), k _ (by omega)]
      exact r5.2.2 f hf
  have hI : ∀ x, x ≠ 39 → x ≠ 144 → x ≠ 146 → x ≠ 147 → (x < 149 + 5 * cnt a 8 ∨ 149 + 5 * cnt a 8 + 4 < x) → I' x = I x := fun x y0 y1 y2 y3 y4 => by rw [z5 x y1 y2 y3 y4, pvs_ne y0]
  refine ⟨z7, z1, z2.1, z2.2, ⟨b2.far (fun x z => z5 x (by omega) (by omega) (by omega) (by omega)) (fun x z => rfl), r.mv (fun x _ z => hI x (by omega) (by omega) (by omega) (by omega) (by omega)) (fun x _ z => rfl), ⟨z6, by omega, fun i hi => by omega⟩, ⟨z9, z10⟩, ?_, ?_⟩, fun x hx => hI x (by omega) (by omega) (by omega) (by omega) (by omega)⟩
  · intro t ht
    rw [a8_8 (by omega)] at ht
    unfold clN
    by_cases e : t = cnt a 8
    · subst e
      rw [if_pos rfl]
      exact ⟨wf_all hr, cd, z11, z12⟩
    · rw [if_neg e]
      obtain ⟨k1, cd, k2, k3⟩ := c t (by omega)
      exact ⟨k1, cd, k2, k3.mv (fun x y1 y2 => hI x (by omega) (by omega) (by omega) (by omega) (by omega))⟩
  · exact q.mt b (Or.inr ⟨hI 43 (by omega) (by omega) (by omega) (by omega) (by omega), a8_ag (by omega), a8_ag (by omega), a8_ag (by omega), a8_ag (by omega)⟩)
theorem q_actO {cs : List pC} {k : Nat} (hP : pvOkP P) (hg : mG a) (hm : lwM w h a im tx n cl f1 f2 I) (h10 : cnt a 8 < 10) (hr : rdAll (tkK tx n) n = .ok (cs, k)) : pvMet mX12_act 10 0 0 [.ref 202] 224 I J P (lmQ (nI (cnt a 8)) w h (a8 a) im tx 0 (clN cl (cnt a 8) cs) (nI 0) (-1) I J P) := by
  have e8 := (mG_eq hg (i := 8) (by decide)).1
  refine pvMet.weaken (t_act (na := cnt a 8) hP hm.2.2.2.1 (by rw [hm.1]; exact e8) (by omega) hm.2.2.2.2.2.2) (fun v nx' I' J' P' ⟨z1, z2, z4⟩ => ?_)
  dsimp only at z4
  rw [if_neg (by omega), hr] at z4
  obtain ⟨⟨k1, k2, k3, k4, k5, k6⟩, z7, z8, z9, z10, z11⟩ := z4
  obtain ⟨m1, m2, m3, m4, m5, m6, m7⟩ := hm
  refine ⟨z7, z1, z2, ⟨by rw [z8, m1]; rfl, (k1 204 (by simp)).trans m2, ?_, ⟨k3, by omega, fun i hi => by omega⟩, ⟨z9, z10⟩, fun t ht => ?_, k4⟩, fun x hx => ⟨k1 x (by simp; omega), k5 x (by omega)⟩⟩
  · unfold mDim at m3 ⊢
    rw [k2.1, k2.2]; exact m3
  · rw [a8_8 (by omega)] at ht
    unfold clN
    by_cases e : t = cnt a 8
    · subst e
      rw [if_pos rfl]
      exact ⟨z11, wf_all hr⟩
    · rw [if_neg e]
      exact ⟨(m6 t (by omega)).1.mv (fun x y1 y2 => k6 x (by omega)), (m6 t (by omega)).2⟩
end LWA
