/-! rows of Math -/
section PVMA
variable {M : pvM} {R : Room} {Z : pvZT} {pc : Nat} {ls st : List Value} {kc kn nx : Nat} {I : pvI} {J : pvJ} {P : pvP}
theorem g_mmin {idx : Nat} {x y v : Int32} (hd : decode M.2.1 pc = .ok (.invokestatic idx, 3)) (hlk : pvLS M.1.cls idx mJ9_min_7cf53) (hfr : 1 ≤ R.frames) (hlo : (st.map fun v => v.category).sum + 13 ≤ R.locals) (hc : kc ≤ R.cells) (hs : kn ≤ R.slots) (hv : (if y < x then y else x) = v)
    (kk : pvG M R Z (pc + 3) ls (.int v :: st) kc kn nx I J P) : pvG M R Z pc ls (.int y :: .int x :: st) kc kn nx I J P := by
  subst hv
  intro X p l e s m args below meth c H locs als hC hL
  obtain ⟨c1, c2, c3, c4, c5, c6, c7, c8, c9, c10, c11, c12, c13⟩ := id hC
  exact va_mmin c1 c2 (c3.trans hL.1.symm) c6 (c8 _ hlk.1) (c8 _ hlk.2) (c8 _ okJ9_min_7cf53.2.1) (c8 _ okJ9_min_7cf53.1) hfr (by rw [pv_mapcat]; exact hlo) hc hs hd (kk X p l e s m args below meth c H locs als hC hL)
theorem g_mmax {idx : Nat} {x y v : Int32} (hd : decode M.2.1 pc = .ok (.invokestatic idx, 3)) (hlk : pvLS M.1.cls idx mJ9_max_7cf53) (hfr : 1 ≤ R.frames) (hlo : (st.map fun v => v.category).sum + 13 ≤ R.locals) (hc : kc ≤ R.cells) (hs : kn ≤ R.slots) (hv : (if x < y then y else x) = v)
    (kk : pvG M R Z (pc + 3) ls (.int v :: st) kc kn nx I J P) : pvG M R Z pc ls (.int y :: .int x :: st) kc kn nx I J P := by
  subst hv
  intro X p l e s m args below meth c H locs als hC hL
  obtain ⟨c1, c2, c3, c4, c5, c6, c7, c8, c9, c10, c11, c12, c13⟩ := id hC
  exact va_mmax c1 c2 (c3.trans hL.1.symm) c6 (c8 _ hlk.1) (c8 _ hlk.2) (c8 _ okJ9_max_7cf53.2.1) (c8 _ okJ9_max_7cf53.1) hfr (by rw [pv_mapcat]; exact hlo) hc hs hd (kk X p l e s m args below meth c H locs als hC hL)
theorem g_mminL {idx : Nat} {x y v : Int64} (hd : decode M.2.1 pc = .ok (.invokestatic idx, 3)) (hlk : pvLS M.1.cls idx mJ9_min_f86c9) (hfr : 1 ≤ R.frames) (hlo : (st.map fun v => v.category).sum + 15 ≤ R.locals) (hc : kc ≤ R.cells) (hs : kn ≤ R.slots) (hv : (if y < x then y else x) = v)
    (kk : pvG M R Z (pc + 3) ls (.long v :: st) kc kn nx I J P) : pvG M R Z pc ls (.long y :: .long x :: st) kc kn nx I J P := by
  subst hv
  intro X p l e s m args below meth c H locs als hC hL
  obtain ⟨c1, c2, c3, c4, c5, c6, c7, c8, c9, c10, c11, c12, c13⟩ := id hC
  exact va_mmin_long c1 c2 (c3.trans hL.1.symm) c6 (c8 _ hlk.1) (c8 _ hlk.2) (c8 _ okJ9_min_f86c9.2.1) (c8 _ okJ9_min_f86c9.1) hfr (by rw [pv_mapcat]; exact hlo) hc hs hd (kk X p l e s m args below meth c H locs als hC hL)
theorem g_mmaxL {idx : Nat} {x y v : Int64} (hd : decode M.2.1 pc = .ok (.invokestatic idx, 3)) (hlk : pvLS M.1.cls idx mJ9_max_f86c9) (hfr : 1 ≤ R.frames) (hlo : (st.map fun v => v.category).sum + 15 ≤ R.locals) (hc : kc ≤ R.cells) (hs : kn ≤ R.slots) (hv : (if y < x then x else y) = v)
    (kk : pvG M R Z (pc + 3) ls (.long v :: st) kc kn nx I J P) : pvG M R Z pc ls (.long y :: .long x :: st) kc kn nx I J P := by
  subst hv
  intro X p l e s m args below meth c H locs als hC hL
  obtain ⟨c1, c2, c3, c4, c5, c6, c7, c8, c9, c10, c11, c12, c13⟩ := id hC
  exact va_mmax_long c1 c2 (c3.trans hL.1.symm) c6 (c8 _ hlk.1) (c8 _ hlk.2) (c8 _ okJ9_max_f86c9.2.1) (c8 _ okJ9_max_f86c9.1) hfr (by rw [pv_mapcat]; exact hlo) hc hs hd (kk X p l e s m args below meth c H locs als hC hL)
end PVMA
theorem mm_min {a b : Nat} (ha : a < 2 ^ 31) (hb : b < 2 ^ 31) : (if nI b < nI a then nI b else nI a) = nI (min a b) := by
  by_cases h : b < a
  · rw [if_pos ((cN_lt hb ha).mpr h), Nat.min_eq_right (by omega)]
  · rw [if_neg (fun z => h ((cN_lt hb ha).mp z)), Nat.min_eq_left (by omega)]
theorem mm_max {a b : Nat} (ha : a < 2 ^ 31) (hb : b < 2 ^ 31) : (if nI a < nI b then nI b else nI a) = nI (max a b) := by
  by_cases h : a < b
  · rw [if_pos ((cN_lt ha hb).mpr h), Nat.max_eq_right (by omega)]
  · rw [if_neg (fun z => h ((cN_lt ha hb).mp z)), Nat.max_eq_left (by omega)]
