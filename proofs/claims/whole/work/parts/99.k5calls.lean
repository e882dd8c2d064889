/-! the law: each call, both sides -/
section LWQ
variable {w h n : Nat} {a im : Nat → Int32} {tx : Nat → Nat} {cl : Nat → List pC} {f1 f2 v1 v2 v3 v4 v5 : Int32} {I : pvI} {J : pvJ} {P : pvP}
theorem k_cell (hP : pvOkP P) (hc : lwC w h a im tx n cl f1 f2 I J) : pvMet mX11_cell 3 0 0 [.ref 1, .int v1, .int v2, .int v3] 224 I J P (lcQ (sp_cell w h a v1 v2 v3).1 w h (sp_cell w h a v1 v2 v3).2 im tx n cl f1 f2 I P) := lq_mt hP hc h8_cell (c_cell hP hc.1)
theorem q_cell (hP : pvOkP P) (hi : mInv w h a) (hm : lwM w h a im tx n cl f1 f2 I) : pvMet mX12_cell 2 0 0 [.ref 202, .int v1, .int v2, .int v3] 224 I J P (lmQ (sp_cell w h a v1 v2 v3).1 w h (sp_cell w h a v1 v2 v3).2 im tx n cl f1 f2 I J P) := by
  have hm0 := hm
  obtain ⟨rfl, rfl, m3, m4, m5, m6, m7⟩ := hm
  have hg := hi.1.1
  exact lm_1 hm0 h8_cell (t_cell hP m3 (mG_eq hg (i := 0) (by decide)).1 (mG_eq hg (i := 0) (by decide)).2.1)
theorem k_rules (hP : pvOkP P) (hc : lwC w h a im tx n cl f1 f2 I J) : pvMet mX11_rules 3 0 0 [.ref 1, .int v1, .int v2, .int v3] 224 I J P (lcQ (sp_rules a v1 v2 v3).1 w h (sp_rules a v1 v2 v3).2 im tx n cl f1 f2 I P) := lq_mt hP hc h8_rules (c_rules hP hc.1)
theorem q_rules (hP : pvOkP P) (hi : mInv w h a) (hm : lwM w h a im tx n cl f1 f2 I) : pvMet mX12_rules 1 0 0 [.ref 202, .int v1, .int v2, .int v3] 224 I J P (lmQ (sp_rules a v1 v2 v3).1 w h (sp_rules a v1 v2 v3).2 im tx n cl f1 f2 I J P) := by
  have hm0 := hm
  obtain ⟨rfl, rfl, m3, m4, m5, m6, m7⟩ := hm
  have hg := hi.1.1
  exact lm_1 hm0 h8_rules (t_rules hP)
theorem k_hole (hP : pvOkP P) (hc : lwC w h a im tx n cl f1 f2 I J) : pvMet mX11_hole 4 0 0 [.ref 1, .int v1] 224 I J P (lcQ (sp_hole w h a v1).1 w h (sp_hole w h a v1).2 im tx n cl f1 f2 I P) := lq_mt hP hc h8_hole (c_hole hP hc.1)
theorem q_hole (hP : pvOkP P) (hi : mInv w h a) (hm : lwM w h a im tx n cl f1 f2 I) : pvMet mX12_hole 2 0 0 [.ref 202, .int v1] 224 I J P (lmQ (sp_hole w h a v1).1 w h (sp_hole w h a v1).2 im tx n cl f1 f2 I J P) := by
  have hm0 := hm
  obtain ⟨rfl, rfl, m3, m4, m5, m6, m7⟩ := hm
  have hg := hi.1.1
  exact lm_1 hm0 h8_hole (t_hole hP m3 (mG_eq hg (i := 0) (by decide)).1 (mG_eq hg (i := 0) (by decide)).2.1 (mG_eq hg (i := 1) (by decide)).1 (mG_eq hg (i := 1) (by decide)).2.1)
theorem k_plug (hP : pvOkP P) (hc : lwC w h a im tx n cl f1 f2 I J) : pvMet mX11_plug 4 0 0 [.ref 1, .int v1] 224 I J P (lcQ (sp_plug a v1).1 w h (sp_plug a v1).2 im tx n cl f1 f2 I P) := lq_mt hP hc h8_plug (c_plug hP hc.1)
theorem q_plug (hP : pvOkP P) (hi : mInv w h a) (hm : lwM w h a im tx n cl f1 f2 I) : pvMet mX12_plug 2 0 0 [.ref 202, .int v1] 224 I J P (lmQ (sp_plug a v1).1 w h (sp_plug a v1).2 im tx n cl f1 f2 I J P) := by
  have hm0 := hm
  obtain ⟨rfl, rfl, m3, m4, m5, m6, m7⟩ := hm
  have hg := hi.1.1
  exact lm_1 hm0 h8_plug (t_plug hP hg)
theorem k_pour (hP : pvOkP P) (hc : lwC w h a im tx n cl f1 f2 I J) : pvMet mX11_pour 4 0 0 [.ref 1, .int v1, .int v2] 224 I J P (lcQ (sp_pour w h a v1 v2).1 w h (sp_pour w h a v1 v2).2 im tx n cl f1 f2 I P) := lq_mt hP hc h8_pour (c_pour hP hc.1)
theorem q_pour (hP : pvOkP P) (hi : mInv w h a) (hm : lwM w h a im tx n cl f1 f2 I) : pvMet mX12_pour 2 0 0 [.ref 202, .int v1, .int v2] 224 I J P (lmQ (sp_pour w h a v1 v2).1 w h (sp_pour w h a v1 v2).2 im tx n cl f1 f2 I J P) := by
  have hm0 := hm
  obtain ⟨rfl, rfl, m3, m4, m5, m6, m7⟩ := hm
  have hg := hi.1.1
  exact lm_3 hm0 h8_pour (t_pour hP m3 hg hi.1.2.1 hi.2.2.2.1)
theorem k_trench (hP : pvOkP P) (hc : lwC w h a im tx n cl f1 f2 I J) : pvMet mX11_trench 3 0 0 [.ref 1, .int v1, .int v2, .int v3, .int v4] 224 I J P (lcQ (sp_trench w h a v1 v2 v3 v4).1 w h (sp_trench w h a v1 v2 v3 v4).2 im tx n cl f1 f2 I P) := lq_mt hP hc h8_trench (c_trench hP hc.1)
theorem q_trench (hP : pvOkP P) (hi : mInv w h a) (hm : lwM w h a im tx n cl f1 f2 I) : pvMet mX12_trench 2 0 0 [.ref 202, .int v1, .int v2, .int v3, .int v4] 224 I J P (lmQ (sp_trench w h a v1 v2 v3 v4).1 w h (sp_trench w h a v1 v2 v3 v4).2 im tx n cl f1 f2 I J P) := by
  have hm0 := hm
  obtain ⟨rfl, rfl, m3, m4, m5, m6, m7⟩ := hm
  have hg := hi.1.1
  exact lm_1 hm0 h8_trench (t_trench hP m3 hg)
theorem k_state (hP : pvOkP P) (hc : lwC w h a im tx n cl f1 f2 I J) : pvMet mX11_state 3 0 0 [.ref 1, .int v1, .int v2] 224 I J P (lcQ (sp_state w h a v1 v2).1 w h (sp_state w h a v1 v2).2 im tx n cl f1 f2 I P) := lq_mt hP hc h8_state (c_state hP hc.1)
theorem q_state (hP : pvOkP P) (hi : mInv w h a) (hm : lwM w h a im tx n cl f1 f2 I) : pvMet mX12_state 2 0 0 [.ref 202, .int v1, .int v2] 224 I J P (lmQ (sp_state w h a v1 v2).1 w h (sp_state w h a v1 v2).2 im tx n cl f1 f2 I J P) := by
  have hm0 := hm
  obtain ⟨rfl, rfl, m3, m4, m5, m6, m7⟩ := hm
  have hg := hi.1.1
  exact lm_1 hm0 h8_state (t_state hP m3 hg)
theorem k_read (hP : pvOkP P) (hc : lwC w h a im tx n cl f1 f2 I J) : pvMet mX11_read 2 0 0 [.ref 1, .int v1, .int v2, .int v3] 224 I J P (lcQ (sp_read w h a v1 v2 v3).1 w h (sp_read w h a v1 v2 v3).2 im tx n cl f1 f2 I P) := lq_mt hP hc h8_read (c_read hP hc.1)
theorem q_read (hP : pvOkP P) (hi : mInv w h a) (hm : lwM w h a im tx n cl f1 f2 I) : pvMet mX12_read 2 0 0 [.ref 202, .int v1, .int v2, .int v3] 224 I J P (lmQ (sp_read w h a v1 v2 v3).1 w h (sp_read w h a v1 v2 v3).2 im tx n cl f1 f2 I J P) := by
  have hm0 := hm
  obtain ⟨rfl, rfl, m3, m4, m5, m6, m7⟩ := hm
  have hg := hi.1.1
  exact lm_1 hm0 h8_read (t_read hP m3 hg)
theorem k_house (hP : pvOkP P) (hc : lwC w h a im tx n cl f1 f2 I J) : pvMet mX11_house 1 0 0 [.ref 1, .int v1, .int v2, .int v3] 224 I J P (lcQ (sp_house w h a v1 v2 v3).1 w h (sp_house w h a v1 v2 v3).2 im tx n cl f1 f2 I P) := lq_mt hP hc h8_house (c_house hP hc.1)
theorem q_house (hP : pvOkP P) (hi : mInv w h a) (hm : lwM w h a im tx n cl f1 f2 I) : pvMet mX12_house 2 0 0 [.ref 202, .int v1, .int v2, .int v3] 224 I J P (lmQ (sp_house w h a v1 v2 v3).1 w h (sp_house w h a v1 v2 v3).2 im tx n cl f1 f2 I J P) := by
  have hm0 := hm
  obtain ⟨rfl, rfl, m3, m4, m5, m6, m7⟩ := hm
  have hg := hi.1.1
  exact lm_1 hm0 h8_house (t_house hP m3 hg)
theorem k_person (hP : pvOkP P) (hc : lwC w h a im tx n cl f1 f2 I J) : pvMet mX11_person 1 0 0 [.ref 1, .int v1, .int v2, .int v3] 224 I J P (lcQ (sp_person a v1 v2 v3).1 w h (sp_person a v1 v2 v3).2 im tx n cl f1 f2 I P) := lq_mt hP hc h8_person (c_person hP hc.1)
theorem q_person (hP : pvOkP P) (hi : mInv w h a) (hm : lwM w h a im tx n cl f1 f2 I) : pvMet mX12_person 2 0 0 [.ref 202, .int v1, .int v2, .int v3] 224 I J P (lmQ (sp_person a v1 v2 v3).1 w h (sp_person a v1 v2 v3).2 im tx n cl f1 f2 I J P) := by
  have hm0 := hm
  obtain ⟨rfl, rfl, m3, m4, m5, m6, m7⟩ := hm
  have hg := hi.1.1
  exact lm_1 hm0 h8_person (t_person hP hg)
theorem k_hears (hP : pvOkP P) (hc : lwC w h a im tx n cl f1 f2 I J) : pvMet mX11_hears 1 0 0 [.ref 1, .int v1, .int v2] 224 I J P (lcQ (sp_hears a v1 v2).1 w h (sp_hears a v1 v2).2 im tx n cl f1 f2 I P) := lq_mt hP hc h8_hears (c_hears hP hc.1)
theorem q_hears (hP : pvOkP P) (hi : mInv w h a) (hm : lwM w h a im tx n cl f1 f2 I) : pvMet mX12_hears 2 0 0 [.ref 202, .int v1, .int v2] 224 I J P (lmQ (sp_hears a v1 v2).1 w h (sp_hears a v1 v2).2 im tx n cl f1 f2 I J P) := by
  have hm0 := hm
  obtain ⟨rfl, rfl, m3, m4, m5, m6, m7⟩ := hm
  have hg := hi.1.1
  exact lm_1 hm0 h8_hears (t_hears hP hg)
theorem k_offer (hP : pvOkP P) (hc : lwC w h a im tx n cl f1 f2 I J) : pvMet mX11_offer 2 0 0 [.ref 1, .int v1, .int v2, .int v3] 224 I J P (lcQ (sp_offer a v1 v2 v3).1 w h (sp_offer a v1 v2 v3).2 im tx n cl f1 f2 I P) := lq_mt hP hc h8_offer (c_offer hP hc.1)
theorem q_offer (hP : pvOkP P) (hi : mInv w h a) (hm : lwM w h a im tx n cl f1 f2 I) : pvMet mX12_offer 2 0 0 [.ref 202, .int v1, .int v2, .int v3] 224 I J P (lmQ (sp_offer a v1 v2 v3).1 w h (sp_offer a v1 v2 v3).2 im tx n cl f1 f2 I J P) := by
  have hm0 := hm
  obtain ⟨rfl, rfl, m3, m4, m5, m6, m7⟩ := hm
  have hg := hi.1.1
  exact lm_1 hm0 h8_offer (t_offer hP hg)
theorem k_pull (hP : pvOkP P) (hc : lwC w h a im tx n cl f1 f2 I J) : pvMet mX11_pull 1 0 0 [.ref 1, .int v1] 224 I J P (lcQ (sp_pull a v1).1 w h (sp_pull a v1).2 im tx n cl f1 f2 I P) := lq_mt hP hc h8_pull (c_pull hP hc.1)
theorem q_pull (hP : pvOkP P) (hi : mInv w h a) (hm : lwM w h a im tx n cl f1 f2 I) : pvMet mX12_pull 1 0 0 [.ref 202, .int v1] 224 I J P (lmQ (sp_pull a v1).1 w h (sp_pull a v1).2 im tx n cl f1 f2 I J P) := by
  have hm0 := hm
  obtain ⟨rfl, rfl, m3, m4, m5, m6, m7⟩ := hm
  have hg := hi.1.1
  exact lm_1 hm0 h8_pull (t_pull hP)
theorem k_weeks (hP : pvOkP P) (hc : lwC w h a im tx n cl f1 f2 I J) : pvMet mX11_weeks 2 0 0 [.ref 1, .int v1] 224 I J P (lcQ (sp_weeks a v1).1 w h (sp_weeks a v1).2 im tx n cl f1 f2 I P) := lq_mt hP hc h8_weeks (c_weeks hP hc.1)
theorem q_weeks (hP : pvOkP P) (hi : mInv w h a) (hm : lwM w h a im tx n cl f1 f2 I) : pvMet mX12_weeks 2 0 0 [.ref 202, .int v1] 224 I J P (lmQ (sp_weeks a v1).1 w h (sp_weeks a v1).2 im tx n cl f1 f2 I J P) := by
  have hm0 := hm
  obtain ⟨rfl, rfl, m3, m4, m5, m6, m7⟩ := hm
  have hg := hi.1.1
  exact lm_1 hm0 h8_weeks (t_weeks hP hi.2.2.1)
theorem k_force (hP : pvOkP P) (hc : lwC w h a im tx n cl f1 f2 I J) : pvMet mX11_force 2 0 0 [.ref 1, .int v1, .int v2, .int v3] 224 I J P (lcQ (sp_force a v1 v2 v3).1 w h (sp_force a v1 v2 v3).2 im tx n cl f1 f2 I P) := lq_mt hP hc h8_force (c_force hP hc.1)
theorem q_force (hP : pvOkP P) (hi : mInv w h a) (hm : lwM w h a im tx n cl f1 f2 I) : pvMet mX12_force 2 0 0 [.ref 202, .int v1, .int v2, .int v3] 224 I J P (lmQ (sp_force a v1 v2 v3).1 w h (sp_force a v1 v2 v3).2 im tx n cl f1 f2 I J P) := by
  have hm0 := hm
  obtain ⟨rfl, rfl, m3, m4, m5, m6, m7⟩ := hm
  have hg := hi.1.1
  exact lm_1 hm0 h8_force (t_force hP hg)
theorem k_place (hP : pvOkP P) (hc : lwC w h a im tx n cl f1 f2 I J) : pvMet mX11_place 2 0 0 [.ref 1, .int v1, .int v2] 224 I J P (lcQ (sp_place w h a v1 v2).1 w h (sp_place w h a v1 v2).2 im tx n cl f1 f2 I P) := lq_mt hP hc h8_place (c_place hP hc.1)
theorem q_place (hP : pvOkP P) (hi : mInv w h a) (hm : lwM w h a im tx n cl f1 f2 I) : pvMet mX12_place 2 0 0 [.ref 202, .int v1, .int v2] 224 I J P (lmQ (sp_place w h a v1 v2).1 w h (sp_place w h a v1 v2).2 im tx n cl f1 f2 I J P) := by
  have hm0 := hm
  obtain ⟨rfl, rfl, m3, m4, m5, m6, m7⟩ := hm
  have hg := hi.1.1
  exact lm_1 hm0 h8_place (t_place hP m3 hg)
theorem k_burns (hP : pvOkP P) (hc : lwC w h a im tx n cl f1 f2 I J) : pvMet mX11_burns 6 0 0 [.ref 1, .int v1, .int v2, .int v3, .int v4] 224 I J P (lcQ (sp_burns w h a v1 v2 v3 v4) w h a im tx n cl f1 f2 I P) := lq_k hP hc (c_burns hP hc.1)
theorem q_burns (hP : pvOkP P) (hi : mInv w h a) (hm : lwM w h a im tx n cl f1 f2 I) : pvMet mX12_burns 4 0 0 [.ref 202, .int v1, .int v2, .int v3, .int v4] 224 I J P (lmQ (sp_burns w h a v1 v2 v3 v4) w h a im tx n cl f1 f2 I J P) := by
  have hm0 := hm
  obtain ⟨rfl, rfl, m3, m4, m5, m6, m7⟩ := hm
  have hg := hi.1.1
  exact lm_2 hm0 (t_burns hP m3 hi.1)
theorem k_lost (hP : pvOkP P) (hc : lwC w h a im tx n cl f1 f2 I J) : pvMet mX11_lost 6 0 0 [.ref 1, .int v1, .int v2] 224 I J P (lcQ (sp_lost w h a v1 v2) w h a im tx n cl f1 f2 I P) := lq_k hP hc (c_lost hP hc.1)
theorem q_lost (hP : pvOkP P) (hi : mInv w h a) (hm : lwM w h a im tx n cl f1 f2 I) : pvMet mX12_lost 4 0 0 [.ref 202, .int v1, .int v2] 224 I J P (lmQ (sp_lost w h a v1 v2) w h a im tx n cl f1 f2 I J P) := by
  have hm0 := hm
  obtain ⟨rfl, rfl, m3, m4, m5, m6, m7⟩ := hm
  have hg := hi.1.1
  exact lm_2 hm0 (t_lost hP m3 hi.1)
theorem k_fed (hP : pvOkP P) (hc : lwC w h a im tx n cl f1 f2 I J) : pvMet mX11_fed 6 0 0 [.ref 1, .int v1, .int v2, .int v3] 224 I J P (lcQ (sp_fed w h a v1 v2 v3) w h a im tx n cl f1 f2 I P) := lq_k hP hc (c_fed hP hc.1)
theorem q_fed (hP : pvOkP P) (hi : mInv w h a) (hm : lwM w h a im tx n cl f1 f2 I) : pvMet mX12_fed 4 0 0 [.ref 202, .int v1, .int v2, .int v3] 224 I J P (lmQ (sp_fed w h a v1 v2 v3) w h a im tx n cl f1 f2 I J P) := by
  have hm0 := hm
  obtain ⟨rfl, rfl, m3, m4, m5, m6, m7⟩ := hm
  have hg := hi.1.1
  exact lm_2 hm0 (t_fed hP m3 hi.1)
theorem k_inTime (hP : pvOkP P) (hc : lwC w h a im tx n cl f1 f2 I J) : pvMet mX11_inTime 7 0 0 [.ref 1, .int v1, .int v2] 224 I J P (lcQ (sp_inTime w h a v1 v2) w h a im tx n cl f1 f2 I P) := lq_k hP hc (c_inTime hP hc.1)
theorem q_inTime (hP : pvOkP P) (hi : mInv w h a) (hm : lwM w h a im tx n cl f1 f2 I) : pvMet mX12_inTime 5 0 0 [.ref 202, .int v1, .int v2] 224 I J P (lmQ (sp_inTime w h a v1 v2) w h a im tx n cl f1 f2 I J P) := by
  have hm0 := hm
  obtain ⟨rfl, rfl, m3, m4, m5, m6, m7⟩ := hm
  have hg := hi.1.1
  exact lm_2 hm0 (t_inTime hP m3 hi.1 hi.2.1)
theorem k_let (hP : pvOkP P) (hc : lwC w h a im tx n cl f1 f2 I J) : pvMet mX11_let 7 0 0 [.ref 1, .int v1, .int v2] 224 I J P (lcQ (sp_let w h a v1 v2) w h a im tx n cl f1 f2 I P) := lq_k hP hc (c_let hP hc.1)
theorem q_let (hP : pvOkP P) (hi : mInv w h a) (hm : lwM w h a im tx n cl f1 f2 I) : pvMet mX12_let 5 0 0 [.ref 202, .int v1, .int v2] 224 I J P (lmQ (sp_let w h a v1 v2) w h a im tx n cl f1 f2 I J P) := by
  have hm0 := hm
  obtain ⟨rfl, rfl, m3, m4, m5, m6, m7⟩ := hm
  have hg := hi.1.1
  exact lm_2 hm0 (t_let hP m3 hi.1 hi.2.1)
theorem k_span (hP : pvOkP P) (hc : lwC w h a im tx n cl f1 f2 I J) : pvMet mX11_span 7 0 0 [.ref 1, .int v1, .int v2, .int v3] 224 I J P (lcQ (sp_span w h a v1 v2 v3) w h a im tx n cl f1 f2 I P) := lq_k hP hc (c_span hP hc.1)
theorem q_span (hP : pvOkP P) (hi : mInv w h a) (hm : lwM w h a im tx n cl f1 f2 I) : pvMet mX12_span 5 0 0 [.ref 202, .int v1, .int v2, .int v3] 224 I J P (lmQ (sp_span w h a v1 v2 v3) w h a im tx n cl f1 f2 I J P) := by
  have hm0 := hm
  obtain ⟨rfl, rfl, m3, m4, m5, m6, m7⟩ := hm
  have hg := hi.1.1
  exact lm_2 hm0 (t_span hP m3 hi.1 hi.2.1)
theorem k_parts (hP : pvOkP P) (hc : lwC w h a im tx n cl f1 f2 I J) : pvMet mX11_parts 7 0 0 [.ref 1, .int v1] 224 I J P (lcQ (sp_parts w h a v1) w h a im tx n cl f1 f2 I P) := lq_k hP hc (c_parts hP hc.1)
theorem q_parts (hP : pvOkP P) (hi : mInv w h a) (hm : lwM w h a im tx n cl f1 f2 I) : pvMet mX12_parts 5 0 0 [.ref 202, .int v1] 224 I J P (lmQ (sp_parts w h a v1) w h a im tx n cl f1 f2 I J P) := by
  have hm0 := hm
  obtain ⟨rfl, rfl, m3, m4, m5, m6, m7⟩ := hm
  have hg := hi.1.1
  exact lm_2 hm0 (t_parts hP m3 hi.1 hi.2.1)
theorem k_gas (hP : pvOkP P) (hc : lwC w h a im tx n cl f1 f2 I J) : pvMet mX11_gas 7 0 0 [.ref 1, .int v1, .int v2, .int v3] 224 I J P (lcQ (sp_gas w h a v1 v2 v3) w h a im tx n cl f1 f2 I P) := lq_k hP hc (c_gas hP hc.1)
theorem q_gas (hP : pvOkP P) (hi : mInv w h a) (hm : lwM w h a im tx n cl f1 f2 I) : pvMet mX12_gas 5 0 0 [.ref 202, .int v1, .int v2, .int v3] 224 I J P (lmQ (sp_gas w h a v1 v2 v3) w h a im tx n cl f1 f2 I J P) := by
  have hm0 := hm
  obtain ⟨rfl, rfl, m3, m4, m5, m6, m7⟩ := hm
  have hg := hi.1.1
  exact lm_2 hm0 (t_gas hP m3 hi.1 hi.2.1 hi.2.2.1.2.1)
theorem k_gone (hP : pvOkP P) (hc : lwC w h a im tx n cl f1 f2 I J) : pvMet mX11_gone 1 0 0 [.ref 1, .int v1] 224 I J P (lcQ (sp_gone a v1) w h a im tx n cl f1 f2 I P) := lq_pu hP hc (c_gone hP hc.1)
theorem q_gone (hP : pvOkP P) (hi : mInv w h a) (hm : lwM w h a im tx n cl f1 f2 I) : pvMet mX12_gone 2 0 0 [.ref 202, .int v1] 224 I J P (lmQ (sp_gone a v1) w h a im tx n cl f1 f2 I J P) := by
  have hm0 := hm
  obtain ⟨rfl, rfl, m3, m4, m5, m6, m7⟩ := hm
  have hg := hi.1.1
  exact lm_pu hm0 (t_gone hP hg)
theorem k_best (hP : pvOkP P) (hc : lwC w h a im tx n cl f1 f2 I J) : pvMet mX11_best 8 0 0 [.ref 1, .int v1, .int v2, .int v3] 224 I J P (lcQ (sp_best w h a v1 v2 v3) w h a im tx n cl f1 f2 I P) := pvMet.weaken (c_best hP hc.1 hc.2.2.2.2.2) (fun v nx' I' J' P' ⟨z1, z2, z3, z4, z5, z6⟩ => by
  subst z2
  exact ⟨z3, z1, hP, rfl, hc.mt z4 z5 rfl z6, fun x hx => (z5 x (by omega)).1⟩)
theorem q_best (hP : pvOkP P) (hi : mInv w h a) (hm : lwM w h a im tx n cl f1 f2 I) : pvMet mX12_best 5 0 0 [.ref 202, .int v1, .int v2, .int v3] 224 I J P (lmQ (sp_best w h a v1 v2 v3) w h a im tx n cl f1 f2 I J P) := by
  have hm0 := hm
  obtain ⟨rfl, rfl, m3, m4, m5, m6, m7⟩ := hm
  have hg := hi.1.1
  exact lm_L hm0 (t_best hP m3 hi.1 hi.2.1)
theorem k_by (hP : pvOkP P) (hc : lwC w h a im tx n cl f1 f2 I J) : pvMet mX11_by 7 0 0 [.ref 1, .int v1, .int v2, .int v3] 224 I J P (lcQ (sp_by w h a cl v1 v2 v3) w h a im tx n cl f1 f2 I P) := lq_by hP hc (c_by hP hc.1 hc.2.2.2.2.1)
theorem q_by (hP : pvOkP P) (hi : mInv w h a) (hm : lwM w h a im tx n cl f1 f2 I) : pvMet mX12_by 5 0 0 [.ref 202, .int v1, .int v2, .int v3] 224 I J P (lmQ (sp_by w h a cl v1 v2 v3) w h a im tx n cl f1 f2 I J P) := by
  have hm0 := hm
  obtain ⟨rfl, rfl, m3, m4, m5, m6, m7⟩ := hm
  have hg := hi.1.1
  have hb : mBy w h cl (I 203) I := ⟨m3, rfl, hi.1, hi.2.1, hi.2.2.1.2.1, hi.2.2.2.2.1, m6⟩
  exact lm_by hm0 (t_by hP hb)
theorem k_whose (hP : pvOkP P) (hc : lwC w h a im tx n cl f1 f2 I J) : pvMet mX11_whose 4 0 0 [.ref 1, .int v1] 224 I J P (lcQ (sp_whose a cl v1) w h a im tx n cl f1 f2 I P) := lq_by hP hc (c_whose hP hc.1 hc.2.2.2.2.1)
theorem q_whose (hP : pvOkP P) (hi : mInv w h a) (hm : lwM w h a im tx n cl f1 f2 I) : pvMet mX12_whose 3 0 0 [.ref 202, .int v1] 224 I J P (lmQ (sp_whose a cl v1) w h a im tx n cl f1 f2 I J P) := by
  have hm0 := hm
  obtain ⟨rfl, rfl, m3, m4, m5, m6, m7⟩ := hm
  have hg := hi.1.1
  have hb : mBy w h cl (I 203) I := ⟨m3, rfl, hi.1, hi.2.1, hi.2.2.1.2.1, hi.2.2.2.2.1, m6⟩
  exact lm_by hm0 (t_whose hP hb)
theorem k_vote (hP : pvOkP P) (hc : lwC w h a im tx n cl f1 f2 I J) : pvMet mX11_vote 7 0 0 [.ref 1, .int v1, .int v2] 224 I J P (lcQ (sp_vote w h a cl v1 v2) w h a im tx n cl f1 f2 I P) := lq_by hP hc (c_vote hP hc.1 hc.2.2.2.2.1)
theorem q_vote (hP : pvOkP P) (hi : mInv w h a) (hm : lwM w h a im tx n cl f1 f2 I) : pvMet mX12_vote 6 0 0 [.ref 202, .int v1, .int v2] 224 I J P (lmQ (sp_vote w h a cl v1 v2) w h a im tx n cl f1 f2 I J P) := by
  have hm0 := hm
  obtain ⟨rfl, rfl, m3, m4, m5, m6, m7⟩ := hm
  have hg := hi.1.1
  have hb : mBy w h cl (I 203) I := ⟨m3, rfl, hi.1, hi.2.1, hi.2.2.1.2.1, hi.2.2.2.2.1, m6⟩
  exact lm_vt hm0 (t_vote hP hb hi.2.2.1.1)
theorem lwK.mt {a' : Nat → Int32} (hK : lwK w h a im) (hi : mInv w h a') (h8 : a' 8 = a 8) : lwK w h a' im := ⟨hi, hK.2.1, by rw [show cnt a' 8 = cnt a 8 by unfold cnt; rw [h8]]; exact hK.2.2⟩
end LWQ
