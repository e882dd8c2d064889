/-! model: the smallest methods -/
theorem t_isIn {nx : Nat} {I : pvI} {J : pvJ} {P : pvP} {v lo hi : Int32} {L H : Int} (hl : lo.toInt = L) (hh : hi.toInt = H) : pvMet mX12_isIn 0 0 0 [.int v, .int lo, .int hi] nx I J P (pvpu (.int (if L ≤ v.toInt ∧ v.toInt ≤ H then 1 else 0)) nx I J P) := by
  subst hl hh
  refine pvMet.of _ (by decide) rfl (by decide) ?_
  refine g_iload_n dX12_isIn_0 rfl ?_
  refine g_iload_n dX12_isIn_1 rfl ?_
  refine n_icmp_lt 14 dX12_isIn_2 (by decide) (cI_lt) (fun c2 => ?_) (fun c2 => ?_)
  · skip
    refine g_iconst (v := nI 0) dX12_isIn_14 (by decide) ?_
    exact g_zret (Or.inl rfl) dX12_isIn_15 rfl ⟨by rw [if_neg (by omega)]; rfl, rfl, rfl, rfl, rfl⟩
  · skip
    refine g_iload_n dX12_isIn_5 rfl ?_
    refine g_iload_n dX12_isIn_6 rfl ?_
    refine n_icmp_gt 14 dX12_isIn_7 (by decide) (cI_lt) (fun c7 => ?_) (fun c7 => ?_)
    · skip
      refine g_iconst (v := nI 0) dX12_isIn_14 (by decide) ?_
      exact g_zret (Or.inl rfl) dX12_isIn_15 rfl ⟨by rw [if_neg (by omega)]; rfl, rfl, rfl, rfl, rfl⟩
    · skip
      refine g_iconst (v := nI 1) dX12_isIn_10 (by decide) ?_
      refine g_goto 15 dX12_isIn_11 (by decide) ?_
      exact g_zret (by first | exact Or.inl rfl | exact Or.inr rfl | exact cB01 _) dX12_isIn_15 rfl (⟨by rw [if_pos (by omega)]; rfl, rfl, rfl, rfl, rfl⟩)
