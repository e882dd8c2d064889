/-! the law: tape, acts, image, both sides -/
section LWS
variable {w h n : Nat} {a a' im im' : Nat → Int32} {tx tx' : Nat → Nat} {cl cl' : Nat → List pC} {f1 f2 g1 g2 : Int32} {I I' : pvI} {J J' : pvJ} {P P' : pvP}
theorem cI_clamp {v : Int32} (h : 0 ≤ v.toInt) : v = nI v.toNatClampNeg := by
  have := v.toInt_lt
  have e : v.toNatClampNeg = v.toInt.toNat := rfl
  rw [cI_eq, nI_toInt (by omega)]
  omega
/-- the class's tape -/
theorem lwC.tape (hc : lwC w h a im tx n cl f1 f2 I J) {n' : Nat} (hI : ∀ x, x ≠ 144 → x ≠ 145 → I' x = I x) (h4 : ∀ j, j ≠ 1 → I' 144 j = I 144 j) (h1 : I' 144 1 = nI n') (hn : n' ≤ 300) (ht : tH (I' 145) tx' n') : lwC w h a im tx' n' cl f1 f2 I' J := by
  obtain ⟨b, r, t, f, c, q⟩ := hc
  exact ⟨b.far (fun x z => hI x (by omega) (by omega)) (fun x z => rfl), r.mv (fun x _ z => hI x (by omega) (by omega)) (fun x _ z => rfl), ⟨h1, hn, ht⟩, ⟨(h4 2 (by decide)).trans f.1, (h4 3 (by decide)).trans f.2⟩, c.mv b.n89.1 (fun x z1 z2 => hI x (by omega) (by omega)), q.mv (hI 43 (by decide) (by decide))⟩
theorem k_feed {b c d e g : Int32} (hP : pvOkP P) (hc : lwC w h a im tx n cl f1 f2 I J) : pvMet mX11_feed 1 0 0 [.ref 1, .int b, .int c, .int d, .int e, .int g] 224 I J P (lcQ (if n + 20 ≤ 300 then nI (n + 20) else -1) w h a im (if n + 20 ≤ 300 then txF tx n b c d e g else tx) (if n + 20 ≤ 300 then n + 20 else n) cl f1 f2 I P) := by
  refine pvMet.weaken (c_feed hP hc.2.2.1.1 hc.2.2.1.2.1) (fun v nx' I' J' P' ⟨z1, z2, z3, z4⟩ => ?_)
  subst z2; subst z4
  by_cases q : n + 20 ≤ 300
  · rw [if_pos q] at z3 ⊢
    rw [if_pos q, if_pos q]
    obtain ⟨z3, rfl⟩ := z3
    refine ⟨z3, z1, hP, rfl, hc.tape (fun x y1 y2 => ?_) (fun j hj => ?_) ?_ q ?_, fun x hx => ?_⟩
    · unfold sp_ctp; rw [pvs_ne y2, pvs_ne y1]
    · unfold sp_ctp; rw [pvs_ne (by decide), pvs_eq]; simp only [upd]; rw [if_neg hj]
    · unfold sp_ctp; rw [pvs_ne (by decide), pvs_eq]; simp only [upd]; rw [if_pos trivial]
    · unfold sp_ctp; rw [pvs_eq]; exact tH.feed hc.2.2.1.2.2
    · unfold sp_ctp; rw [pvs_ne (by omega), pvs_ne (by omega)]
  · rw [if_neg q] at z3 ⊢
    rw [if_neg q, if_neg q]
    obtain ⟨z3, rfl⟩ := z3
    exact ⟨z3, z1, hP, rfl, hc, fun x hx => rfl⟩
theorem lwM.tape (hm : lwM w h a im tx n cl f1 f2 I) {n' : Nat} (hI : ∀ x, x ≠ 202 → x ≠ 217 → I' x = I x) (h4 : ∀ j, j ≠ 17 → I' 202 j = I 202 j) (h1 : I' 202 17 = nI n') (hn : n' ≤ 300) (ht : tH (I' 217) tx' n') : lwM w h a im tx' n' cl f1 f2 I' := by
  obtain ⟨m1, m2, m3, m4, m5, m6, m7⟩ := hm
  refine ⟨(hI 203 (by decide) (by decide)).trans m1, (hI 204 (by decide) (by decide)).trans m2, ?_, ⟨h1, hn, ht⟩, ?_, ?_, ?_⟩
  · unfold mDim at m3 ⊢
    rw [h4 0 (by decide), h4 1 (by decide)]; exact m3
  · rw [h4 19 (by decide), h4 20 (by decide)]; exact m5
  · unfold mActs at m6 ⊢
    rw [hI 205 (by decide) (by decide)]; exact m6
  · rw [h4 33 (by decide)]; exact m7
theorem q_feed {b c d e g : Int32} (hP : pvOkP P) (hm : lwM w h a im tx n cl f1 f2 I) : pvMet mX12_feed 1 0 0 [.ref 202, .int b, .int c, .int d, .int e, .int g] 224 I J P (lmQ (if n + 20 ≤ 300 then nI (n + 20) else -1) w h a im (if n + 20 ≤ 300 then txF tx n b c d e g else tx) (if n + 20 ≤ 300 then n + 20 else n) cl f1 f2 I J P) := by
  have ht := hm.2.2.2.1
  refine pvMet.weaken (t_feed hP ht.1 ht.2.1) (fun v nx' I' J' P' ⟨z1, z2, z3, z4⟩ => ?_)
  subst z2; subst z4
  by_cases q : n + 20 ≤ 300
  · rw [if_pos q] at z3 ⊢
    rw [if_pos q, if_pos q]
    obtain ⟨z3, rfl⟩ := z3
    refine ⟨z3, z1, rfl, hm.tape (fun x y1 y2 => ?_) (fun j hj => ?_) ?_ q ?_, fun x hx => ⟨?_, rfl⟩⟩
    · unfold sp_tpm; rw [pvs_ne y2, pvs_ne y1]
    · unfold sp_tpm; rw [pvs_ne (by decide), pvs_eq]; simp only [upd]; rw [if_neg hj]
    · unfold sp_tpm; rw [pvs_ne (by decide), pvs_eq]; simp only [upd]; rw [if_pos trivial]
    · unfold sp_tpm; rw [pvs_eq]; exact tH.feed ht.2.2
    · unfold sp_tpm; rw [pvs_ne (by omega), pvs_ne (by omega)]
  · rw [if_neg q] at z3 ⊢
    rw [if_neg q, if_neg q]
    obtain ⟨z3, rfl⟩ := z3
    exact ⟨z3, z1, rfl, hm, fun x hx => ⟨rfl, rfl⟩⟩
theorem k_end {b : Int32} (hP : pvOkP P) (hc : lwC w h a im tx n cl f1 f2 I J) : pvMet mX11_end 1 0 0 [.ref 1, .int b] 224 I J P (lcQ (if 0 ≤ b.toInt ∧ b.toInt ≤ n then b else -1) w h a im tx (if 0 ≤ b.toInt ∧ b.toInt ≤ n then b.toNatClampNeg else n) cl f1 f2 I P) := by
  have ht := hc.2.2.1
  refine pvMet.weaken (c_end hP ht.1 ht.2.1) (fun v nx' I' J' P' ⟨z1, z2, z3, z4⟩ => ?_)
  subst z2; subst z4
  by_cases q : 0 ≤ b.toInt ∧ b.toInt ≤ n
  · rw [if_pos q] at z3 ⊢
    rw [if_pos q]
    obtain ⟨z3, rfl⟩ := z3
    have e : b.toNatClampNeg = b.toInt.toNat := rfl
    refine ⟨z3, z1, hP, rfl, hc.tape (fun x y1 y2 => ?_) (fun j hj => ?_) ?_ (by have := ht.2.1; omega) ?_, fun x hx => ?_⟩
    · rw [pvs_ne y1]
    · rw [pvs_eq]; simp only [upd]; rw [if_neg hj]
    · rw [pvs_eq]; simp only [upd]; rw [if_pos trivial]; exact cI_clamp q.1
    · rw [pvs_ne (by decide)]; exact fun i hi => ht.2.2 i (by omega)
    · rw [pvs_ne (by omega)]
  · rw [if_neg q] at z3 ⊢
    rw [if_neg q]
    obtain ⟨z3, rfl⟩ := z3
    exact ⟨z3, z1, hP, rfl, hc, fun x hx => rfl⟩
theorem q_end {b : Int32} (hP : pvOkP P) (hm : lwM w h a im tx n cl f1 f2 I) : pvMet mX12_end 1 0 0 [.ref 202, .int b] 224 I J P (lmQ (if 0 ≤ b.toInt ∧ b.toInt ≤ n then b else -1) w h a im tx (if 0 ≤ b.toInt ∧ b.toInt ≤ n then b.toNatClampNeg else n) cl f1 f2 I J P) := by
  have ht := hm.2.2.2.1
  refine pvMet.weaken (t_end hP ht.1 ht.2.1) (fun v nx' I' J' P' ⟨z1, z2, z3, z4⟩ => ?_)
  subst z2; subst z4
  by_cases q : 0 ≤ b.toInt ∧ b.toInt ≤ n
  · rw [if_pos q] at z3 ⊢
    rw [if_pos q]
    obtain ⟨z3, rfl⟩ := z3
    have e : b.toNatClampNeg = b.toInt.toNat := rfl
    refine ⟨z3, z1, rfl, hm.tape (fun x y1 y2 => ?_) (fun j hj => ?_) ?_ (by have := ht.2.1; omega) ?_, fun x hx => ⟨?_, rfl⟩⟩
    · rw [pvs_ne y1]
    · rw [pvs_eq]; simp only [upd]; rw [if_neg hj]
    · rw [pvs_eq]; simp only [upd]; rw [if_pos trivial]; exact cI_clamp q.1
    · rw [pvs_ne (by decide)]; exact fun i hi => ht.2.2 i (by omega)
    · rw [pvs_ne (by omega)]
  · rw [if_neg q] at z3 ⊢
    rw [if_neg q]
    obtain ⟨z3, rfl⟩ := z3
    exact ⟨z3, z1, rfl, hm, fun x hx => ⟨rfl, rfl⟩⟩
/-- the image -/
theorem k_image (hP : pvOkP P) (hc : lwC w h a im tx n cl f1 f2 I J) : pvMet mX11_image 3 0 0 [.ref 1] 224 I J P (lcQ (a 0) w h a (sp_fil a im 8020) tx n cl f1 f2 I P) := by
  have hg := hc.1.1
  have hi := hc.1.2.2.2.2
  refine pvMet.weaken (c_image hP hc.1) (fun v nx' I' J' P' ⟨z1, z2, z3, z4, z5, z6⟩ => ?_)
  subst z2
  obtain ⟨b, r, t, f, c, q⟩ := hc
  refine ⟨z3, z1, hP, rfl, ⟨z4, z5.fr hi.1.1 hg.wh.2 fil_ag, ?_, ?_, c.mv b.n89.1 (fun x y1 y2 => (z6 x (by omega)).1), q.mv (z6 43 (by decide)).1⟩, fun x hx => (z6 x (by omega)).1⟩
  · unfold cTx at t ⊢
    rw [(z6 144 (by decide)).1, (z6 145 (by decide)).1]; exact t
  · rw [(z6 144 (by decide)).1]; exact f
theorem q_image (hP : pvOkP P) (hm : lwM w h a im tx n cl f1 f2 I) : pvMet mX12_image 1 0 0 [.ref 202] 224 I J P (lmQ (a 0) w h a (sp_fil a im 8020) tx n cl f1 f2 I J P) := by
  obtain ⟨rfl, rfl, m3, m4, m5, m6, m7⟩ := hm
  refine pvMet.weaken (t_image hP) (fun v nx' I' J' P' ⟨z1, z2, z3, z4, z5⟩ => ?_)
  subst z4; subst z5
  exact ⟨z3, z1, z2, ⟨rfl, rfl, m3, m4, m5, m6, m7⟩, fun x hx => ⟨pvs_ne (by omega), rfl⟩⟩
theorem k_back (hP : pvOkP P) (hK : lwK w h a im) (hc : lwC w h a im tx n cl f1 f2 I J) : pvMet mX11_back 4 0 0 [.ref 1] 224 I J P (lcQ (im 0) w h (sp_fil im a 8020) im tx n cl f1 f2 I P) := by
  obtain ⟨hi, him, h8⟩ := hK
  obtain ⟨b, r, t, f, c, q⟩ := hc
  have hwh := b.1.wh.2
  have r2 := r.fr (a' := sp_fil im a 8020) him.1.1 hwh fil_ag
  refine pvMet.weaken (c_back hP b r2 (him.fr hwh fil_ag)) (fun v nx' I' J' P' ⟨z1, z2, z3, z4, z5, z6⟩ => ?_)
  subst z2
  refine ⟨by rw [z3, fil_ag 0 (by decide) (by decide)], z1, hP, rfl, ⟨z4, r.mv (fun x _ y => (z5 x (by omega)).1) (fun x _ y => (z5 x (by omega)).2), ?_, ?_, ?_, Or.inl z6⟩, fun x hx => (z5 x (by omega)).1⟩
  · unfold cTx at t ⊢
    rw [(z5 144 (by decide)).1, (z5 145 (by decide)).1]; exact t
  · rw [(z5 144 (by decide)).1]; exact f
  · rw [fil_8]
    have c2 := c.mv (I' := I') b.n89.1 (fun x y1 y2 => (z5 x (by omega)).1)
    exact fun y hy => c2 y (by omega)
theorem q_back (hP : pvOkP P) (hK : lwK w h a im) (hm : lwM w h a im tx n cl f1 f2 I) : pvMet mX12_back 1 0 0 [.ref 202] 224 I J P (lmQ (im 0) w h (sp_fil im a 8020) im tx n cl f1 f2 I J P) := by
  obtain ⟨hi, him, h8⟩ := hK
  obtain ⟨rfl, rfl, m3, m4, m5, m6, m7⟩ := hm
  refine pvMet.weaken (t_back hP) (fun v nx' I' J' P' ⟨z1, z2, z3, z4, z5⟩ => ?_)
  subst z4; subst z5
  refine ⟨z3, z1, z2, ⟨rfl, rfl, m3, m4, m5, ?_, m7⟩, fun x hx => ⟨pvs_ne (by omega), rfl⟩⟩
  rw [fil_8]
  exact fun y hy => m6 y (by omega)
theorem lwK.image (hK : lwK w h a im) (hwh : w * h ≤ 64) : lwK w h a (sp_fil a im 8020) := ⟨hK.1, hK.1.fr hwh fil_ag, by rw [fil_8]; exact Nat.le_refl _⟩
theorem lwK.back (hK : lwK w h a im) (hwh : w * h ≤ 64) : lwK w h (sp_fil im a 8020) im := ⟨hK.2.1.fr hwh fil_ag, hK.2.1, by rw [fil_8]; exact Nat.le_refl _⟩
theorem k_fill {c : Int32} (hP : pvOkP P) (hc : lwC w h a im tx n cl f1 f2 I J) : pvMet mX11_fill 1 0 0 [.ref 1, .int c] 224 I J P (lcQ (if 0 ≤ c.toInt ∧ c.toInt < w * h then nI (fN a c.toNatClampNeg) else -1) w h a im tx n cl f1 f2 I P) := lq_pu hP hc (c_fill hP hc.1)
theorem q_fill {c : Int32} (hP : pvOkP P) (hi : mInv w h a) (hm : lwM w h a im tx n cl f1 f2 I) : pvMet mX12_fill 2 0 0 [.ref 202, .int c] 224 I J P (lmQ (if 0 ≤ c.toInt ∧ c.toInt < w * h then nI (fN a c.toNatClampNeg) else -1) w h a im tx n cl f1 f2 I J P) := by
  have h0 := t_fill (J := J) (c := c) hP hm.2.2.1
  have e : (if 0 ≤ c.toInt ∧ c.toInt < w * h then sp_sum (sp_came (I 203) c.toNatClampNeg) 100 else -1) = (if 0 ≤ c.toInt ∧ c.toInt < w * h then nI (fN a c.toNatClampNeg) else -1) := by
    by_cases q : 0 ≤ c.toInt ∧ c.toInt < w * h
    · rw [if_pos q, if_pos q, hm.1]
      have hwh : w * h ≤ 64 := Nat.mul_le_mul hm.2.2.1.2.2.1.2 hm.2.2.1.2.2.2.2
      have e : c.toNatClampNeg = c.toInt.toNat := rfl
      have := Int.natCast_mul w h
      exact fill_N hi.1.2.1 (by omega)
    · rw [if_neg q, if_neg q]
  rw [e] at h0
  exact lm_pu hm h0
theorem k_about {c : Int32} (hP : pvOkP P) (hc : lwC w h a im tx n cl f1 f2 I J) : pvMet mX11_about 1 0 0 [.ref 1, .int c] 224 I J P (lcQ (if c.toInt < 0 ∨ 13 < c.toInt then -1 else sp_about w h a (nI n) c.toNatClampNeg) w h a im tx n cl f1 f2 I P) := by
  by_cases q : c.toInt < 0 ∨ 13 < c.toInt
  · rw [if_pos q]; exact lq_pu hP hc (c_about_no q)
  · rw [if_neg q]
    have h0 := c_about (k := c.toNatClampNeg) hP hc.1 (by have e : c.toNatClampNeg = c.toInt.toNat := rfl; omega)
    rw [← cI_clamp (by omega), hc.2.2.1.1] at h0
    exact lq_pu hP hc h0
theorem q_about {c : Int32} (hP : pvOkP P) (hm : lwM w h a im tx n cl f1 f2 I) : pvMet mX12_about 0 0 0 [.ref 202, .int c] 224 I J P (lmQ (if c.toInt < 0 ∨ 13 < c.toInt then -1 else sp_about w h a (nI n) c.toNatClampNeg) w h a im tx n cl f1 f2 I J P) := by
  by_cases q : c.toInt < 0 ∨ 13 < c.toInt
  · rw [if_pos q]; exact lm_pu hm (t_about_no q)
  · rw [if_neg q]
    have h0 := t_about (J := J) (k := c.toNatClampNeg) hP hm.2.2.1 (by have e : c.toNatClampNeg = c.toInt.toNat := rfl; omega)
    rw [← cI_clamp (by omega), hm.2.2.2.1.1, hm.1] at h0
    exact lm_pu hm h0
theorem k_fault {c : Int32} (hP : pvOkP P) (hc : lwC w h a im tx n cl f1 f2 I J) : pvMet mX11_fault 0 0 0 [.ref 1, .int c] 224 I J P (lcQ (if c = 0 then f1 else if c = nI 1 then f2 else -1) w h a im tx n cl f1 f2 I P) := by
  have h0 := c_fault (I := I) (J := J) (n := c) hP
  rw [hc.2.2.2.1.1, hc.2.2.2.1.2] at h0
  exact lq_pu hP hc h0
theorem q_fault {c : Int32} (hm : lwM w h a im tx n cl f1 f2 I) : pvMet mX12_fault 0 0 0 [.ref 202, .int c] 224 I J P (lmQ (if c = 0 then f1 else if c = nI 1 then f2 else -1) w h a im tx n cl f1 f2 I J P) := by
  have h0 := t_fault (I := I) (J := J) (P := P) (n := c)
  rw [hm.2.2.2.2.1.1, hm.2.2.2.2.1.2] at h0
  exact lm_pu hm h0
end LWS
