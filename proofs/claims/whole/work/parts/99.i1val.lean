/-! class: a clause's value -/
def bI (b : Bool) : Int := if b = true then 1 else 0
/-- the class's one stack, its top first -/
def stL (st : List Int × List Bool) : List Int := st.1 ++ st.2.map bI
def jX (x : Nat) (p q : Int) : Int := if (itM x).1 < 10 then arX (itM x).1 p q else if (itM x).1 < 20 then bI (cpO (itM x).1 p q) else if (itM x).1 = 21 then bI (decide (p = 1 ∧ q = 1)) else bI (decide (p = 1 ∨ q = 1))
theorem bI_01 {b : Bool} : bI b = 0 ∨ bI b = 1 := by cases b <;> simp [bI]
theorem bI_sm {b : Bool} : smI (bI b) := by
  unfold smI
  rcases bI_01 (b := b) with h | h <;> rw [h] <;> decide
/-- one item on the class's stack -/
theorem ev_step {nm : Nat → Int} {srt x : Nat} {st : List Int × List Bool} {p : Nat × Nat} (hx : itOk srt x) (hk : ckI x st.1.length st.2.length = some p) :
    (x < 10000 ∧ stL (evI nm x st) = (x : Int) :: stL st) ∨ (∃ i, i < 8 ∧ x = 10000 + i ∧ barB srt i = false ∧ stL (evI nm x st) = nm i :: stL st) ∨ (x = 40000 ∧ ∃ a r, stL st = a :: r ∧ stL (evI nm x st) = -a :: r) ∨ (x = 20206 ∧ ∃ a r, (a = 0 ∨ a = 1) ∧ stL st = a :: r ∧ stL (evI nm x st) = (1 - a) :: r) ∨
    (x ∈ itS ∧ x ≠ 40000 ∧ x ≠ 20206 ∧ ∃ a b r, stL st = b :: a :: r ∧ stL (evI nm x st) = jX x a b :: r ∧ (20 ≤ (itM x).1 → (a = 0 ∨ a = 1) ∧ (b = 0 ∨ b = 1))) := by
  obtain ⟨vs, ts⟩ := st
  rcases hx with hx | ⟨i, i1, i2, i3⟩ | hx
  · refine Or.inl ⟨hx, ?_⟩
    unfold evI
    rw [if_pos hx]
    rfl
  · refine Or.inr (Or.inl ⟨i, i1, i2, i3, ?_⟩)
    unfold evI
    rw [if_neg (by omega), if_pos (by omega), i2, Nat.add_sub_cancel_left]
    rfl
  · obtain ⟨h20, h2, h22, h3⟩ := itS_ok x hx
    refine Or.inr (Or.inr ?_)
    have e40 : (itM x).1 = 2 → x = 40000 := by
      intro z
      have : ∀ y, y ∈ itS → (itM y).1 = 2 → y = 40000 := by decide
      exact this x hx z
    have e20 : (itM x).1 = 20 → x = 20206 := by
      intro z
      have : ∀ y, y ∈ itS → (itM y).1 = 20 → y = 20206 := by decide
      exact this x hx z
    have f40 : (itM x).1 ≠ 2 → x ≠ 40000 := fun z y => z (by rw [y]; decide)
    have f20 : (itM x).1 ≠ 20 → x ≠ 20206 := fun z y => z (by rw [y]; decide)
    have big : ¬ x < 10000 := by omega
    have big2 : ¬ x < 20000 := by omega
    unfold ckI at hk
    rw [if_neg big2] at hk
    by_cases c1 : (itM x).1 = 2
    · rw [if_pos c1] at hk
      match vs, hk with
      | [], hk => simp at hk
      | a :: r, hk =>
        have ev : evI nm x (a :: r, ts) = (-a :: r, ts) := by unfold evI; rw [if_neg big, if_neg big2, if_pos c1]
        exact Or.inl ⟨e40 c1, a, r ++ ts.map bI, rfl, by rw [ev]; rfl⟩
    · rw [if_neg c1] at hk
      by_cases c2 : (itM x).1 < 10
      · rw [if_pos c2] at hk
        match vs, hk with
        | [], hk => simp at hk
        | [a], hk => simp at hk
        | b :: a :: r, hk =>
          have ev : evI nm x (b :: a :: r, ts) = (arX (itM x).1 a b :: r, ts) := by unfold evI; rw [if_neg big, if_neg big2, if_neg c1, if_pos c2]
          refine Or.inr (Or.inr ⟨hx, f40 c1, f20 (by omega), a, b, r ++ ts.map bI, rfl, ?_, fun z => by omega⟩)
          rw [ev]
          unfold jX
          rw [if_pos c2]; rfl
      · rw [if_neg c2] at hk
        by_cases c3 : (itM x).1 < 20
        · rw [if_pos c3] at hk
          match vs, hk with
          | [], hk => simp at hk
          | [a], hk => simp at hk
          | b :: a :: c :: r, hk => simp at hk
          | [b, a], hk =>
            have ev : evI nm x ([b, a], ts) = ([], cpO (itM x).1 a b :: ts) := by unfold evI; rw [if_neg big, if_neg big2, if_neg c1, if_neg c2, if_pos c3]
            refine Or.inr (Or.inr ⟨hx, f40 c1, f20 (by omega), a, b, ts.map bI, rfl, ?_, fun z => by omega⟩)
            rw [ev]
            unfold jX
            rw [if_neg c2, if_pos c3]; rfl
        · rw [if_neg c3] at hk
          by_cases c4 : (itM x).1 = 20
          · rw [if_pos c4] at hk
            match vs, ts, hk with
            | a :: r, ts, hk => simp at hk
            | [], [], hk => simp at hk
            | [], t :: r, hk =>
              have ev : evI nm x ([], t :: r) = ([], (!t) :: r) := by unfold evI; rw [if_neg big, if_neg big2, if_neg c1, if_neg c2, if_neg c3, if_pos c4]
              refine Or.inr (Or.inl ⟨e20 c4, bI t, r.map bI, bI_01, rfl, ?_⟩)
              rw [ev]
              cases t <;> rfl
          · rw [if_neg c4] at hk
            match vs, ts, hk with
            | a :: r, ts, hk => simp at hk
            | [], [], hk => simp at hk
            | [], [t], hk => simp at hk
            | [], u :: t :: r, hk =>
              refine Or.inr (Or.inr ⟨hx, f40 c1, f20 c4, bI t, bI u, r.map bI, rfl, ?_, fun _ => ⟨bI_01, bI_01⟩⟩)
              unfold jX
              rw [if_neg c2, if_neg c3]
              by_cases c5 : (itM x).1 = 21
              · have ev : evI nm x ([], u :: t :: r) = ([], (t && u) :: r) := by unfold evI; rw [if_neg big, if_neg big2, if_neg c1, if_neg c2, if_neg c3, if_neg c4, if_pos c5]
                rw [ev, if_pos c5]
                cases t <;> cases u <;> rfl
              · have ev : evI nm x ([], u :: t :: r) = ([], (t || u) :: r) := by unfold evI; rw [if_neg big, if_neg big2, if_neg c1, if_neg c2, if_neg c3, if_neg c4, if_neg c5]
                rw [ev, if_neg c5]
                cases t <;> cases u <;> rfl
theorem jX_sm {x : Nat} {p q : Int} : smI (jX x p q) := by
  unfold jX
  split
  · exact arX_sm
  · split
    · exact bI_sm
    · split <;> exact bI_sm
theorem iI_toInt {v : Int} (h : smI v) : (iI v).toInt = v := by
  unfold smI at h
  exact Int32.toInt_ofInt_of_le (by omega) (by omega)
theorem iI_l2 {v : Int} (h : smI v) : (iI v).toInt64 = lI v := by
  have h1 := iI_toInt h
  unfold smI at h
  apply Int64.toInt_inj.mp
  rw [Int32.toInt_toInt64, h1, Int64.toInt_ofInt_of_le (by omega) (by omega)]
theorem lI_i2 {v : Int} (h : smI v) : (lI v).toInt32 = iI v := by
  have h1 := iI_toInt h
  unfold smI at h
  apply Int32.toInt_inj.mp
  rw [Int64.toInt_toInt32, h1, Int64.toInt_ofInt_of_le (by omega) (by omega)]
  exact Int.bmod_eq_of_le (by omega) (by omega)
theorem iI_neg {v : Int} : -(iI v) = iI (-v) := (Int32.ofInt_neg v).symm
theorem iI_sub {a b : Int} : iI a - iI b = iI (a - b) := (Int32.ofInt_sub a b).symm
/-- the class's stack in an array -/
def sA (f : Nat → Int32) (l : List Int) : Prop := ∀ i, i < l.length → f (l.length - 1 - i) = iI (l.getD i 0)
theorem sA_hd {f : Nat → Int32} {x : Int} {l : List Int} (h : sA f (x :: l)) : f l.length = iI x := by
  have := h 0 (by simp)
  simpa using this
theorem sA_tl {f : Nat → Int32} {x : Int} {l : List Int} (h : sA f (x :: l)) : sA f l := fun i hi => by
  have := h (i + 1) (by simp; omega)
  rw [List.length_cons, show l.length + 1 - 1 - (i + 1) = l.length - 1 - i by omega] at this
  exact this
theorem sA_cons {f : Nat → Int32} {x : Int} {l : List Int} (h : sA f l) : sA (upd f l.length (iI x)) (x :: l) := fun i hi => by
  rw [List.length_cons] at hi ⊢
  match i with
  | 0 => simp [upd]
  | i + 1 =>
    rw [show l.length + 1 - 1 - (i + 1) = l.length - 1 - i by omega]
    have hne : l.length - 1 - i ≠ l.length := by omega
    simp only [upd, if_neg hne]
    exact h i (by omega)
section VAL
variable {nx : Nat} {I : pvI} {J : pvJ} {P : pvP} {a b : Int}
theorem c_limited {v : Int} (h1 : -(2 ^ 62) ≤ v) (h2 : v ≤ 2 ^ 62) : pvMet mX0_limited 1 0 0 [.long (lI v)] nx I J P (pvpu (.int (iI (clI v))) nx I J P) := by
  have e1 : (if lI v < (1000000000 : Int64) then lI v else 1000000000) = lI (if v < 1000000000 then v else 1000000000) := by
    rw [show (1000000000 : Int64) = lI 1000000000 by decide]
    by_cases c : v < 1000000000
    · rw [if_pos ((lI_lt h1 h2 (by decide) (by decide)).mpr c), if_pos c]
    · rw [if_neg (fun z => c ((lI_lt h1 h2 (by decide) (by decide)).mp z)), if_neg c]
  have e2 : (if lI (if v < 1000000000 then v else 1000000000) < (-1000000000 : Int64) then (-1000000000 : Int64) else lI (if v < 1000000000 then v else 1000000000)) = lI (clI v) := by
    rw [show (-1000000000 : Int64) = lI (-1000000000) by decide]
    have hm1 : -(2 ^ 62) ≤ (if v < 1000000000 then v else 1000000000) := by split <;> omega
    have hm2 : (if v < 1000000000 then v else 1000000000) ≤ 2 ^ 62 := by split <;> omega
    by_cases c : (if v < 1000000000 then v else 1000000000) < -1000000000
    · rw [if_pos ((lI_lt hm1 hm2 (by decide) (by decide)).mpr c)]
      congr 1
      unfold clI
      split at c
      · rw [if_neg (by omega), if_pos c]
      · omega
    · rw [if_neg (fun z => c ((lI_lt hm1 hm2 (by decide) (by decide)).mp z))]
      congr 1
      unfold clI
      split at c
      · rename_i d; rw [if_pos d, if_neg (by omega), if_neg c]
      · rename_i d
        rw [if_neg d]
        by_cases c3 : 1000000000 < v
        · rw [if_pos c3]
        · rw [if_neg c3, if_neg (by omega)]; omega
  refine pvMet.of _ (by decide) rfl (Nat.le_of_ble_eq_true rfl) ?_
  refine g_ldc2 (v := (-1000000000 : Int64)) dX0_limited_0 kcX0_46 ?_
  refine g_ldc2 (v := (1000000000 : Int64)) dX0_limited_3 kcX0_48 ?_
  refine g_lload_n dX0_limited_6 rfl ?_
  refine g_mminL dX0_limited_7 lkX0_50 (by decide) (Nat.le_of_ble_eq_true rfl) (by decide) (by decide) (e1) ?_
  refine g_mmaxL dX0_limited_10 lkX0_56 (by decide) (Nat.le_of_ble_eq_true rfl) (by decide) (by decide) (e2) ?_
  refine n_l2i dX0_limited_13 (lI_i2 (clI_sm v)) ?_
  exact g_iret dX0_limited_14 rfl (⟨rfl, rfl, rfl, rfl, rfl⟩)
theorem c_so {s o : Nat} (ho : (s = 60 ∧ o = 10) ∨ (s = 2 ∧ o = 11) ∨ (s = 62 ∧ o = 12) ∨ (s = 3 ∧ o = 13) ∨ (s = 61 ∧ o = 14) ∨ (s = 35 ∧ o = 15)) (ha : smI a) (hb : smI b) : pvMet mX0_isSo 0 0 0 [.int (nI s), .int (iI a), .int (iI b)] nx I J P (pvpu (.int (if cpO o a b = true then 1 else 0)) nx I J P) := by
  have ea := iI_toInt ha
  have eb := iI_toInt hb
  rcases ho with ⟨rfl, rfl⟩ | ⟨rfl, rfl⟩ | ⟨rfl, rfl⟩ | ⟨rfl, rfl⟩ | ⟨rfl, rfl⟩ | ⟨rfl, rfl⟩
  · rw [show cpO 10 a b = decide (a < b) from rfl]
    refine pvMet.of _ (by decide) rfl (Nat.le_of_ble_eq_true rfl) ?_
    refine g_iload_n dX0_isSo_0 rfl ?_
    refine g_lookup 52 dX0_isSo_1 (by decide) (off := 51) (by decide) (by decide) ?_
    refine g_iload_n dX0_isSo_52 rfl ?_
    refine g_iload_n dX0_isSo_53 rfl ?_
    refine n_icmp_ge 61 dX0_isSo_54 (by decide) (cI_le.trans (by rw [ea, eb])) (fun c54 => ?_) (fun c54 => ?_)
    · skip
      refine g_iconst (v := nI 0) dX0_isSo_61 (by decide) ?_
      exact g_zret (by first | exact Or.inl rfl | exact Or.inr rfl | exact cB01 _) dX0_isSo_62 rfl (⟨by first | (rw [if_pos (decide_eq_true (by omega))]; rfl) | (rw [if_neg (by rw [decide_eq_true_iff]; omega)]; rfl), rfl, rfl, rfl, rfl⟩)
    · skip
      refine g_iconst (v := nI 1) dX0_isSo_57 (by decide) ?_
      refine g_goto 62 dX0_isSo_58 (by decide) ?_
      exact g_zret (by first | exact Or.inl rfl | exact Or.inr rfl | exact cB01 _) dX0_isSo_62 rfl (⟨by first | (rw [if_pos (decide_eq_true (by omega))]; rfl) | (rw [if_neg (by rw [decide_eq_true_iff]; omega)]; rfl), rfl, rfl, rfl, rfl⟩)
  · rw [show cpO 11 a b = decide (a ≤ b) from rfl]
    refine pvMet.of _ (by decide) rfl (Nat.le_of_ble_eq_true rfl) ?_
    refine g_iload_n dX0_isSo_0 rfl ?_
    refine g_lookup 96 dX0_isSo_1 (by decide) (off := 95) (by decide) (by decide) ?_
    refine g_iload_n dX0_isSo_96 rfl ?_
    refine g_iload_n dX0_isSo_97 rfl ?_
    refine n_icmp_gt 105 dX0_isSo_98 (by decide) (cI_lt.trans (by rw [ea, eb])) (fun c98 => ?_) (fun c98 => ?_)
    · skip
      refine g_iconst (v := nI 0) dX0_isSo_105 (by decide) ?_
      exact g_zret (by first | exact Or.inl rfl | exact Or.inr rfl | exact cB01 _) dX0_isSo_106 rfl (⟨by first | (rw [if_pos (decide_eq_true (by omega))]; rfl) | (rw [if_neg (by rw [decide_eq_true_iff]; omega)]; rfl), rfl, rfl, rfl, rfl⟩)
    · skip
      refine g_iconst (v := nI 1) dX0_isSo_101 (by decide) ?_
      refine g_goto 106 dX0_isSo_102 (by decide) ?_
      exact g_zret (by first | exact Or.inl rfl | exact Or.inr rfl | exact cB01 _) dX0_isSo_106 rfl (⟨by first | (rw [if_pos (decide_eq_true (by omega))]; rfl) | (rw [if_neg (by rw [decide_eq_true_iff]; omega)]; rfl), rfl, rfl, rfl, rfl⟩)
  · rw [show cpO 12 a b = decide (b < a) from rfl]
    refine pvMet.of _ (by decide) rfl (Nat.le_of_ble_eq_true rfl) ?_
    refine g_iload_n dX0_isSo_0 rfl ?_
    refine g_lookup 63 dX0_isSo_1 (by decide) (off := 62) (by decide) (by decide) ?_
    refine g_iload_n dX0_isSo_63 rfl ?_
    refine g_iload_n dX0_isSo_64 rfl ?_
    refine n_icmp_le 72 dX0_isSo_65 (by decide) (cI_le.trans (by rw [ea, eb])) (fun c65 => ?_) (fun c65 => ?_)
    · skip
      refine g_iconst (v := nI 0) dX0_isSo_72 (by decide) ?_
      exact g_zret (by first | exact Or.inl rfl | exact Or.inr rfl | exact cB01 _) dX0_isSo_73 rfl (⟨by first | (rw [if_pos (decide_eq_true (by omega))]; rfl) | (rw [if_neg (by rw [decide_eq_true_iff]; omega)]; rfl), rfl, rfl, rfl, rfl⟩)
    · skip
      refine g_iconst (v := nI 1) dX0_isSo_68 (by decide) ?_
      refine g_goto 73 dX0_isSo_69 (by decide) ?_
      exact g_zret (by first | exact Or.inl rfl | exact Or.inr rfl | exact cB01 _) dX0_isSo_73 rfl (⟨by first | (rw [if_pos (decide_eq_true (by omega))]; rfl) | (rw [if_neg (by rw [decide_eq_true_iff]; omega)]; rfl), rfl, rfl, rfl, rfl⟩)
  · rw [show cpO 13 a b = decide (b ≤ a) from rfl]
    refine pvMet.of _ (by decide) rfl (Nat.le_of_ble_eq_true rfl) ?_
    refine g_iload_n dX0_isSo_0 rfl ?_
    refine g_lookup 107 dX0_isSo_1 (by decide) (off := 106) (by decide) (by decide) ?_
    refine g_iload_n dX0_isSo_107 rfl ?_
    refine g_iload_n dX0_isSo_108 rfl ?_
    refine n_icmp_lt 116 dX0_isSo_109 (by decide) (cI_lt.trans (by rw [ea, eb])) (fun c109 => ?_) (fun c109 => ?_)
    · skip
      refine g_iconst (v := nI 0) dX0_isSo_116 (by decide) ?_
      exact g_zret (by first | exact Or.inl rfl | exact Or.inr rfl | exact cB01 _) dX0_isSo_117 rfl (⟨by first | (rw [if_pos (decide_eq_true (by omega))]; rfl) | (rw [if_neg (by rw [decide_eq_true_iff]; omega)]; rfl), rfl, rfl, rfl, rfl⟩)
    · skip
      refine g_iconst (v := nI 1) dX0_isSo_112 (by decide) ?_
      refine g_goto 117 dX0_isSo_113 (by decide) ?_
      exact g_zret (by first | exact Or.inl rfl | exact Or.inr rfl | exact cB01 _) dX0_isSo_117 rfl (⟨by first | (rw [if_pos (decide_eq_true (by omega))]; rfl) | (rw [if_neg (by rw [decide_eq_true_iff]; omega)]; rfl), rfl, rfl, rfl, rfl⟩)
  · rw [show cpO 14 a b = decide (a = b) from rfl]
    refine pvMet.of _ (by decide) rfl (Nat.le_of_ble_eq_true rfl) ?_
    refine g_iload_n dX0_isSo_0 rfl ?_
    refine g_lookup 74 dX0_isSo_1 (by decide) (off := 73) (by decide) (by decide) ?_
    refine g_iload_n dX0_isSo_74 rfl ?_
    refine g_iload_n dX0_isSo_75 rfl ?_
    refine n_icmp_ne 83 dX0_isSo_76 (by decide) (cI_eq.trans (by rw [ea, eb])) (fun c76 => ?_) (fun c76 => ?_)
    · skip
      refine g_iconst (v := nI 0) dX0_isSo_83 (by decide) ?_
      exact g_zret (by first | exact Or.inl rfl | exact Or.inr rfl | exact cB01 _) dX0_isSo_84 rfl (⟨by first | (rw [if_pos (decide_eq_true (by omega))]; rfl) | (rw [if_neg (by rw [decide_eq_true_iff]; omega)]; rfl), rfl, rfl, rfl, rfl⟩)
    · skip
      refine g_iconst (v := nI 1) dX0_isSo_79 (by decide) ?_
      refine g_goto 84 dX0_isSo_80 (by decide) ?_
      exact g_zret (by first | exact Or.inl rfl | exact Or.inr rfl | exact cB01 _) dX0_isSo_84 rfl (⟨by first | (rw [if_pos (decide_eq_true (by omega))]; rfl) | (rw [if_neg (by rw [decide_eq_true_iff]; omega)]; rfl), rfl, rfl, rfl, rfl⟩)
  · rw [show cpO 15 a b = decide (¬ a = b) from rfl]
    refine pvMet.of _ (by decide) rfl (Nat.le_of_ble_eq_true rfl) ?_
    refine g_iload_n dX0_isSo_0 rfl ?_
    refine g_lookup 85 dX0_isSo_1 (by decide) (off := 84) (by decide) (by decide) ?_
    refine g_iload_n dX0_isSo_85 rfl ?_
    refine g_iload_n dX0_isSo_86 rfl ?_
    refine n_icmp_eq 94 dX0_isSo_87 (by decide) (cI_eq.trans (by rw [ea, eb])) (fun c87 => ?_) (fun c87 => ?_)
    · skip
      refine g_iconst (v := nI 0) dX0_isSo_94 (by decide) ?_
      exact g_zret (by first | exact Or.inl rfl | exact Or.inr rfl | exact cB01 _) dX0_isSo_95 rfl (⟨by first | (rw [if_pos (decide_eq_true (by omega))]; rfl) | (rw [if_neg (by rw [decide_eq_true_iff]; omega)]; rfl), rfl, rfl, rfl, rfl⟩)
    · skip
      refine g_iconst (v := nI 1) dX0_isSo_90 (by decide) ?_
      refine g_goto 95 dX0_isSo_91 (by decide) ?_
      exact g_zret (by first | exact Or.inl rfl | exact Or.inr rfl | exact cB01 _) dX0_isSo_95 rfl (⟨by first | (rw [if_pos (decide_eq_true (by omega))]; rfl) | (rw [if_neg (by rw [decide_eq_true_iff]; omega)]; rfl), rfl, rfl, rfl, rfl⟩)
theorem c_joinC {s o : Nat} (ho : (s = 60 ∧ o = 10) ∨ (s = 2 ∧ o = 11) ∨ (s = 62 ∧ o = 12) ∨ (s = 3 ∧ o = 13) ∨ (s = 61 ∧ o = 14) ∨ (s = 35 ∧ o = 15)) (ha : smI a) (hb : smI b) : pvMet mX0_joined 2 0 0 [.int (nI s), .int (iI a), .int (iI b)] nx I J P (pvpu (.int (iI (bI (cpO o a b)))) nx I J P) := by
  have so := c_so (nx := nx) (I := I) (J := J) (P := P) ho ha hb
  have hl : Op.lookupswitch.offset (#[(42, 77), (43, 59), (45, 68), (47, 86), (204, 103), (205, 107)] : Array (Int × Int)).toList 111 (nI s).toInt = 111 := by
    rcases ho with ⟨rfl, -⟩ | ⟨rfl, -⟩ | ⟨rfl, -⟩ | ⟨rfl, -⟩ | ⟨rfl, -⟩ | ⟨rfl, -⟩ <;> decide
  cases hc : cpO o a b with
  | true =>
    rw [hc] at so
    refine pvMet.of _ (by decide) rfl (Nat.le_of_ble_eq_true rfl) ?_
    refine g_iload_n dX0_joined_0 rfl ?_
    refine g_lookup 112 dX0_joined_1 (by decide) (off := 111) hl (by decide) ?_
    refine g_iload_n dX0_joined_112 rfl ?_
    refine g_iload_n dX0_joined_113 rfl ?_
    refine g_iload_n dX0_joined_114 rfl ?_
    refine p_callS (so) okX0_isSo lkX0_42 rfl dX0_joined_115 rfl (Nat.le_of_ble_eq_true rfl) (⟨by decide, by decide, by decide, by decide⟩) ?_
    refine n_if_eq 125 dX0_joined_118 (by decide) (by first | (with_reducible exact cB _) | ((with_reducible apply cN_eq0) <;> omega) | exact Iff.rfl) (fun c118 => by exfalso; first | omega | exact absurd trivial c118 | exact c118 | (simp at c118)) (fun c118 => ?_)
    refine g_iconst (v := nI 1) dX0_joined_121 (by decide) ?_
    refine g_goto 126 dX0_joined_122 (by decide) ?_
    exact g_iret dX0_joined_126 rfl (⟨by rfl, rfl, rfl, rfl, rfl⟩)
  | false =>
    rw [hc] at so
    refine pvMet.of _ (by decide) rfl (Nat.le_of_ble_eq_true rfl) ?_
    refine g_iload_n dX0_joined_0 rfl ?_
    refine g_lookup 112 dX0_joined_1 (by decide) (off := 111) hl (by decide) ?_
    refine g_iload_n dX0_joined_112 rfl ?_
    refine g_iload_n dX0_joined_113 rfl ?_
    refine g_iload_n dX0_joined_114 rfl ?_
    refine p_callS (so) okX0_isSo lkX0_42 rfl dX0_joined_115 rfl (Nat.le_of_ble_eq_true rfl) (⟨by decide, by decide, by decide, by decide⟩) ?_
    refine n_if_eq 125 dX0_joined_118 (by decide) (by first | (with_reducible exact cB _) | ((with_reducible apply cN_eq0) <;> omega) | exact Iff.rfl) (fun c118 => ?_) (fun c118 => by exfalso; first | omega | exact absurd trivial c118 | exact c118 | (simp at c118))
    refine g_iconst (v := nI 0) dX0_joined_125 (by decide) ?_
    exact g_iret dX0_joined_126 rfl (⟨by rfl, rfl, rfl, rfl, rfl⟩)
theorem c_joinA {s o : Nat} (ho : (s = 43 ∧ o = 3) ∨ (s = 45 ∧ o = 4) ∨ (s = 42 ∧ o = 5) ∨ (s = 47 ∧ o = 6)) (ha : smI a) (hb : smI b) : pvMet mX0_joined 2 0 0 [.int (nI s), .int (iI a), .int (iI b)] nx I J P (pvpu (.int (iI (arX o a b))) nx I J P) := by
  have ea := iI_l2 ha
  have eb := iI_l2 hb
  have tb := iI_toInt hb
  have ha' := ha
  have hb' := hb
  unfold smI at ha' hb'
  rcases ho with ⟨rfl, rfl⟩ | ⟨rfl, rfl⟩ | ⟨rfl, rfl⟩ | ⟨rfl, rfl⟩
  · have li := c_limited (nx := nx) (I := I) (J := J) (P := P) (v := a + b) (by omega) (by omega)
    rw [show arX 3 a b = clI (a + b) by unfold arX; simp]
    refine pvMet.of _ (by decide) rfl (Nat.le_of_ble_eq_true rfl) ?_
    refine g_iload_n dX0_joined_0 rfl ?_
    refine g_lookup 60 dX0_joined_1 (by decide) (off := 59) (by decide) (by decide) ?_
    refine g_iload_n dX0_joined_60 rfl ?_
    refine n_i2l dX0_joined_61 (ea) ?_
    refine g_iload_n dX0_joined_62 rfl ?_
    refine n_i2l dX0_joined_63 (eb) ?_
    refine n_ladd dX0_joined_64 ((Int64.ofInt_add a b).symm) ?_
    refine p_callS (li) okX0_limited lkX0_38 rfl dX0_joined_65 rfl (Nat.le_of_ble_eq_true rfl) (⟨by decide, by decide, by decide, by decide⟩) ?_
    exact g_iret dX0_joined_68 rfl (⟨rfl, rfl, rfl, rfl, rfl⟩)
  · have li := c_limited (nx := nx) (I := I) (J := J) (P := P) (v := a - b) (by omega) (by omega)
    rw [show arX 4 a b = clI (a - b) by unfold arX; simp]
    refine pvMet.of _ (by decide) rfl (Nat.le_of_ble_eq_true rfl) ?_
    refine g_iload_n dX0_joined_0 rfl ?_
    refine g_lookup 69 dX0_joined_1 (by decide) (off := 68) (by decide) (by decide) ?_
    refine g_iload_n dX0_joined_69 rfl ?_
    refine n_i2l dX0_joined_70 (ea) ?_
    refine g_iload_n dX0_joined_71 rfl ?_
    refine n_i2l dX0_joined_72 (eb) ?_
    refine n_lsub dX0_joined_73 ((Int64.ofInt_sub a b).symm) ?_
    refine p_callS (li) okX0_limited lkX0_38 rfl dX0_joined_74 rfl (Nat.le_of_ble_eq_true rfl) (⟨by decide, by decide, by decide, by decide⟩) ?_
    exact g_iret dX0_joined_77 rfl (⟨rfl, rfl, rfl, rfl, rfl⟩)
  · have li := c_limited (nx := nx) (I := I) (J := J) (P := P) (v := a * b) (smI_mul ha hb).1 (smI_mul ha hb).2
    rw [show arX 5 a b = clI (a * b) by unfold arX; simp]
    refine pvMet.of _ (by decide) rfl (Nat.le_of_ble_eq_true rfl) ?_
    refine g_iload_n dX0_joined_0 rfl ?_
    refine g_lookup 78 dX0_joined_1 (by decide) (off := 77) (by decide) (by decide) ?_
    refine g_iload_n dX0_joined_78 rfl ?_
    refine n_i2l dX0_joined_79 (ea) ?_
    refine g_iload_n dX0_joined_80 rfl ?_
    refine n_i2l dX0_joined_81 (eb) ?_
    refine n_lmul dX0_joined_82 ((Int64.ofInt_mul a b).symm) ?_
    refine p_callS (li) okX0_limited lkX0_38 rfl dX0_joined_83 rfl (Nat.le_of_ble_eq_true rfl) (⟨by decide, by decide, by decide, by decide⟩) ?_
    exact g_iret dX0_joined_86 rfl (⟨rfl, rfl, rfl, rfl, rfl⟩)
  · rw [show arX 6 a b = if b = 0 then 0 else clI (a.tdiv b) by unfold arX; simp]
    have hz := lI_eq0 hb
    have z88 : (iI b = 0) ↔ b = 0 := cI_eq.trans (by rw [tb]; exact Iff.rfl)
    by_cases c : b = 0
    · rw [if_pos c]
      refine pvMet.of _ (by decide) rfl (Nat.le_of_ble_eq_true rfl) ?_
      refine g_iload_n dX0_joined_0 rfl ?_
      refine g_lookup 87 dX0_joined_1 (by decide) (off := 86) (by decide) (by decide) ?_
      refine g_iload_n dX0_joined_87 rfl ?_
      refine n_if_ne 95 dX0_joined_88 (by decide) (z88) (fun c88 => by exfalso; exact c88 c) (fun c88 => ?_)
      refine g_iconst (v := nI 0) dX0_joined_91 (by decide) ?_
      refine g_goto 103 dX0_joined_92 (by decide) ?_
      exact g_iret dX0_joined_103 rfl (⟨by rfl, rfl, rfl, rfl, rfl⟩)
    · rw [if_neg c]
      have li := c_limited (nx := nx) (I := I) (J := J) (P := P) (v := a.tdiv b) (smI_div ha).1 (smI_div ha).2
      refine pvMet.of _ (by decide) rfl (Nat.le_of_ble_eq_true rfl) ?_
      refine g_iload_n dX0_joined_0 rfl ?_
      refine g_lookup 87 dX0_joined_1 (by decide) (off := 86) (by decide) (by decide) ?_
      refine g_iload_n dX0_joined_87 rfl ?_
      refine n_if_ne 95 dX0_joined_88 (by decide) (z88) (fun c88 => ?_) (fun c88 => by exfalso; exact c c88)
      refine g_iload_n dX0_joined_95 rfl ?_
      refine n_i2l dX0_joined_96 (ea) ?_
      refine g_iload_n dX0_joined_97 rfl ?_
      refine n_i2l dX0_joined_98 (eb) ?_
      refine n_ldiv dX0_joined_99 (fun z => c (hz.mp z)) ((lI_div ha hb).symm) ?_
      refine p_callS (li) okX0_limited lkX0_38 rfl dX0_joined_100 rfl (Nat.le_of_ble_eq_true rfl) (⟨by decide, by decide, by decide, by decide⟩) ?_
      exact g_iret dX0_joined_103 rfl (⟨rfl, rfl, rfl, rfl, rfl⟩)
theorem c_joinB {s : Nat} {p q r : Int} (hs : (s = 205 ∧ r = bI (decide (p = 1 ∧ q = 1))) ∨ (s = 204 ∧ r = bI (decide (p = 1 ∨ q = 1)))) (hp : p = 0 ∨ p = 1) (hq : q = 0 ∨ q = 1) : pvMet mX0_joined 2 0 0 [.int (nI s), .int (iI p), .int (iI q)] nx I J P (pvpu (.int (iI r)) nx I J P) := by
  rcases hs with ⟨rfl, rfl⟩ | ⟨rfl, rfl⟩
  · have e : iI p &&& iI q = iI (bI (decide (p = 1 ∧ q = 1))) := by rcases hp with rfl | rfl <;> rcases hq with rfl | rfl <;> decide
    refine pvMet.of _ (by decide) rfl (Nat.le_of_ble_eq_true rfl) ?_
    refine g_iload_n dX0_joined_0 rfl ?_
    refine g_lookup 108 dX0_joined_1 (by decide) (off := 107) (by decide) (by decide) ?_
    refine g_iload_n dX0_joined_108 rfl ?_
    refine g_iload_n dX0_joined_109 rfl ?_
    refine n_iand dX0_joined_110 (e) ?_
    exact g_iret dX0_joined_111 rfl (⟨rfl, rfl, rfl, rfl, rfl⟩)
  · have e : iI p ||| iI q = iI (bI (decide (p = 1 ∨ q = 1))) := by rcases hp with rfl | rfl <;> rcases hq with rfl | rfl <;> decide
    refine pvMet.of _ (by decide) rfl (Nat.le_of_ble_eq_true rfl) ?_
    refine g_iload_n dX0_joined_0 rfl ?_
    refine g_lookup 104 dX0_joined_1 (by decide) (off := 103) (by decide) (by decide) ?_
    refine g_iload_n dX0_joined_104 rfl ?_
    refine g_iload_n dX0_joined_105 rfl ?_
    refine n_ior dX0_joined_106 (e) ?_
    exact g_iret dX0_joined_107 rfl (⟨rfl, rfl, rfl, rfl, rfl⟩)
theorem c_joined {x : Nat} (hx : x ∈ itS) (h1 : x ≠ 40000) (h2 : x ≠ 20206) (ha : smI a) (hb : smI b) (h01 : 20 ≤ (itM x).1 → (a = 0 ∨ a = 1) ∧ (b = 0 ∨ b = 1)) : pvMet mX0_joined 2 0 0 [.int (nI (x - 20000)), .int (iI a), .int (iI b)] nx I J P (pvpu (.int (iI (jX x a b))) nx I J P) := by
  simp [itS] at hx
  rcases hx with rfl | rfl | rfl | rfl | rfl | rfl | rfl | rfl | rfl | rfl | rfl | rfl | rfl | rfl
  · exact absurd rfl h1
  · rw [show (20043 : Nat) - 20000 = 43 from rfl, show jX 20043 a b = arX 3 a b by unfold jX; rw [show (itM 20043).1 = 3 by decide, if_pos (by decide)]]
    exact c_joinA (s := 43) (o := 3) (by decide) ha hb
  · rw [show (20045 : Nat) - 20000 = 45 from rfl, show jX 20045 a b = arX 4 a b by unfold jX; rw [show (itM 20045).1 = 4 by decide, if_pos (by decide)]]
    exact c_joinA (s := 45) (o := 4) (by decide) ha hb
  · rw [show (20042 : Nat) - 20000 = 42 from rfl, show jX 20042 a b = arX 5 a b by unfold jX; rw [show (itM 20042).1 = 5 by decide, if_pos (by decide)]]
    exact c_joinA (s := 42) (o := 5) (by decide) ha hb
  · rw [show (20047 : Nat) - 20000 = 47 from rfl, show jX 20047 a b = arX 6 a b by unfold jX; rw [show (itM 20047).1 = 6 by decide, if_pos (by decide)]]
    exact c_joinA (s := 47) (o := 6) (by decide) ha hb
  · rw [show (20060 : Nat) - 20000 = 60 from rfl, show jX 20060 a b = bI (cpO 10 a b) by unfold jX; rw [show (itM 20060).1 = 10 by decide, if_neg (by decide), if_pos (by decide)]]
    exact c_joinC (s := 60) (o := 10) (by decide) ha hb
  · rw [show (20002 : Nat) - 20000 = 2 from rfl, show jX 20002 a b = bI (cpO 11 a b) by unfold jX; rw [show (itM 20002).1 = 11 by decide, if_neg (by decide), if_pos (by decide)]]
    exact c_joinC (s := 2) (o := 11) (by decide) ha hb
  · rw [show (20062 : Nat) - 20000 = 62 from rfl, show jX 20062 a b = bI (cpO 12 a b) by unfold jX; rw [show (itM 20062).1 = 12 by decide, if_neg (by decide), if_pos (by decide)]]
    exact c_joinC (s := 62) (o := 12) (by decide) ha hb
  · rw [show (20003 : Nat) - 20000 = 3 from rfl, show jX 20003 a b = bI (cpO 13 a b) by unfold jX; rw [show (itM 20003).1 = 13 by decide, if_neg (by decide), if_pos (by decide)]]
    exact c_joinC (s := 3) (o := 13) (by decide) ha hb
  · rw [show (20061 : Nat) - 20000 = 61 from rfl, show jX 20061 a b = bI (cpO 14 a b) by unfold jX; rw [show (itM 20061).1 = 14 by decide, if_neg (by decide), if_pos (by decide)]]
    exact c_joinC (s := 61) (o := 14) (by decide) ha hb
  · rw [show (20035 : Nat) - 20000 = 35 from rfl, show jX 20035 a b = bI (cpO 15 a b) by unfold jX; rw [show (itM 20035).1 = 15 by decide, if_neg (by decide), if_pos (by decide)]]
    exact c_joinC (s := 35) (o := 15) (by decide) ha hb
  · exact absurd rfl h2
  · obtain ⟨z1, z2⟩ := h01 (by decide)
    rw [show (20205 : Nat) - 20000 = 205 from rfl, show jX 20205 a b = bI (decide (a = 1 ∧ b = 1)) by unfold jX; rw [show (itM 20205).1 = 21 by decide, if_neg (by decide), if_neg (by decide), if_pos (by decide)]]
    exact c_joinB (s := 205) (Or.inl ⟨rfl, rfl⟩) z1 z2
  · obtain ⟨z1, z2⟩ := h01 (by decide)
    rw [show (20204 : Nat) - 20000 = 204 from rfl, show jX 20204 a b = bI (decide (a = 1 ∨ b = 1)) by unfold jX; rw [show (itM 20204).1 = 22 by decide, if_neg (by decide), if_neg (by decide), if_neg (by decide)]]
    exact c_joinB (s := 204) (Or.inr ⟨rfl, rfl⟩) z1 z2
end VAL
