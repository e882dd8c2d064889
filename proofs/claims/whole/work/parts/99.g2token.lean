/-! class: the reader: tokens -/
theorem nuC_le2 {tx : Nat → Nat} {p : Nat} : ∀ j, nuC tx p j ≤ 10000
  | 0 => Nat.zero_le _
  | j + 1 => Nat.min_le_left _ _
def cTx (tx : Nat → Nat) (n : Nat) (I : pvI) : Prop := I 144 1 = nI n ∧ n ≤ 300 ∧ ∀ i, i < n → I 145 i = nI (tx i) ∧ tx i ≤ 255
def fam (b : Nat) : Nat := if isLt b = true then 97 else if isDg b = true then 48 else if b = 60 ∨ b = 62 then 60 else if isSg b = true then 59 else 1
theorem famT : ∀ b, b < 63 → 35 ≤ b → ¬ isDg b = true → (#[128, 131, 131, 131, 131, 128, 128, 128, 128, 131, 128, 131, 128, 131, 131, 131, 131, 131, 131, 131, 131, 131, 131, 131, 128, 125, 128, 125] : Array Int)[b - 35]? = some (if b = 60 ∨ b = 62 then 125 else if isSg b = true then 128 else 131) := by decide
theorem famO {b : Nat} (h : b < 35 ∨ 62 < b) : ¬ (b = 60 ∨ b = 62) ∧ ¬ isSg b = true := ⟨by omega, fun z => by have := of_decide_eq_true z; omega⟩
theorem isLt_iff {b : Nat} : isLt b = true ↔ ((97 ≤ b ∧ b ≤ 122) ∨ (65 ≤ b ∧ b ≤ 90)) := decide_eq_true_iff
theorem isDg_iff {b : Nat} : isDg b = true ↔ (48 ≤ b ∧ b ≤ 57) := decide_eq_true_iff
theorem c_familyOf {b nx : Nat} {I : pvI} {J : pvJ} {P : pvP} (hb : b ≤ 255) : pvMet mX6_familyOf 0 0 0 [.int (nI b)] nx I J P (pvpu (.int (nI (fam b))) nx I J P) := by
  have eI : (nI b).toInt = b := nI_toInt (by omega)
  by_cases c1 : isLt b = true
  · rw [show fam b = 97 by unfold fam; rw [if_pos c1]]
    have c1' := isLt_iff.mp c1
    by_cases c2 : 97 ≤ b
    · skip
      refine pvMet.of _ (by decide) rfl (Nat.le_of_ble_eq_true rfl) ?_
      refine g_iload_n dX6_familyOf_0 rfl ?_
      refine g_bipush (v := nI 97) dX6_familyOf_1 (by decide) ?_
      refine n_icmp_lt 12 dX6_familyOf_3 (by decide) (by first | ((with_reducible apply cN_lt) <;> omega) | ((with_reducible apply cI_ltn) <;> omega) | ((with_reducible apply cI_nlt) <;> omega) | (with_reducible exact cI_lt)) (fun c3 => by exfalso; first | omega | exact absurd trivial c3 | exact c3 | (simp at c3)) (fun c3 => ?_)
      refine g_iload_n dX6_familyOf_6 rfl ?_
      refine g_bipush (v := nI 122) dX6_familyOf_7 (by decide) ?_
      refine n_icmp_le 24 dX6_familyOf_9 (by decide) (by first | ((with_reducible apply cN_le) <;> omega) | ((with_reducible apply cI_len) <;> omega) | ((with_reducible apply cI_nle) <;> omega) | (with_reducible exact cI_le)) (fun c9 => ?_) (fun c9 => by exfalso; first | omega | exact absurd trivial c9 | exact c9 | (simp at c9))
      refine g_bipush (v := nI 97) dX6_familyOf_24 (by decide) ?_
      exact g_iret dX6_familyOf_26 rfl (⟨rfl, rfl, rfl, rfl, rfl⟩)
    · skip
      refine pvMet.of _ (by decide) rfl (Nat.le_of_ble_eq_true rfl) ?_
      refine g_iload_n dX6_familyOf_0 rfl ?_
      refine g_bipush (v := nI 97) dX6_familyOf_1 (by decide) ?_
      refine n_icmp_lt 12 dX6_familyOf_3 (by decide) (by first | ((with_reducible apply cN_lt) <;> omega) | ((with_reducible apply cI_ltn) <;> omega) | ((with_reducible apply cI_nlt) <;> omega) | (with_reducible exact cI_lt)) (fun c3 => ?_) (fun c3 => by exfalso; first | omega | exact absurd trivial c3 | exact c3 | (simp at c3))
      refine g_iload_n dX6_familyOf_12 rfl ?_
      refine g_bipush (v := nI 65) dX6_familyOf_13 (by decide) ?_
      refine n_icmp_lt 27 dX6_familyOf_15 (by decide) (by first | ((with_reducible apply cN_lt) <;> omega) | ((with_reducible apply cI_ltn) <;> omega) | ((with_reducible apply cI_nlt) <;> omega) | (with_reducible exact cI_lt)) (fun c15 => by exfalso; first | omega | exact absurd trivial c15 | exact c15 | (simp at c15)) (fun c15 => ?_)
      refine g_iload_n dX6_familyOf_18 rfl ?_
      refine g_bipush (v := nI 90) dX6_familyOf_19 (by decide) ?_
      refine n_icmp_gt 27 dX6_familyOf_21 (by decide) (by first | ((with_reducible apply cN_lt) <;> omega) | ((with_reducible apply cI_ltn) <;> omega) | ((with_reducible apply cI_nlt) <;> omega) | (with_reducible exact cI_lt)) (fun c21 => by exfalso; first | omega | exact absurd trivial c21 | exact c21 | (simp at c21)) (fun c21 => ?_)
      refine g_bipush (v := nI 97) dX6_familyOf_24 (by decide) ?_
      exact g_iret dX6_familyOf_26 rfl (⟨rfl, rfl, rfl, rfl, rfl⟩)
  · have c1' : ¬ ((97 ≤ b ∧ b ≤ 122) ∨ (65 ≤ b ∧ b ≤ 90)) := fun z => c1 (isLt_iff.mpr z)
    have g27 : pvG mX6_familyOf (pvR 0 0 0) (pvZ (pvpu (.int (nI (fam b))) nx I J P) 0 0) 27 [.int (nI b)] [] 0 0 nx I J P := by
      by_cases c2 : isDg b = true
      · rw [show fam b = 48 by unfold fam; rw [if_neg c1, if_pos c2]]
        have c2' := isDg_iff.mp c2
        refine g_iload_n dX6_familyOf_27 rfl ?_
        refine g_bipush (v := nI 48) dX6_familyOf_28 (by decide) ?_
        refine n_icmp_lt 42 dX6_familyOf_30 (by decide) (by first | ((with_reducible apply cN_lt) <;> omega) | ((with_reducible apply cI_ltn) <;> omega) | ((with_reducible apply cI_nlt) <;> omega) | (with_reducible exact cI_lt)) (fun c30 => by exfalso; first | omega | exact absurd trivial c30 | exact c30 | (simp at c30)) (fun c30 => ?_)
        refine g_iload_n dX6_familyOf_33 rfl ?_
        refine g_bipush (v := nI 57) dX6_familyOf_34 (by decide) ?_
        refine n_icmp_gt 42 dX6_familyOf_36 (by decide) (by first | ((with_reducible apply cN_lt) <;> omega) | ((with_reducible apply cI_ltn) <;> omega) | ((with_reducible apply cI_nlt) <;> omega) | (with_reducible exact cI_lt)) (fun c36 => by exfalso; first | omega | exact absurd trivial c36 | exact c36 | (simp at c36)) (fun c36 => ?_)
        refine g_bipush (v := nI 48) dX6_familyOf_39 (by decide) ?_
        exact g_iret dX6_familyOf_41 rfl (⟨rfl, rfl, rfl, rfl, rfl⟩)
      · have c2' : ¬ (48 ≤ b ∧ b ≤ 57) := fun z => c2 (isDg_iff.mpr z)
        have ef : fam b = if b = 60 ∨ b = 62 then 60 else if isSg b = true then 59 else 1 := by unfold fam; rw [if_neg c1, if_neg c2]
        have g42 : pvG mX6_familyOf (pvR 0 0 0) (pvZ (pvpu (.int (nI (fam b))) nx I J P) 0 0) 42 [.int (nI b)] [] 0 0 nx I J P := by
          by_cases c3 : b < 35 ∨ 62 < b
          · obtain ⟨o1, o2⟩ := famO c3
            rw [ef, if_neg o1, if_neg o2]
            refine g_iload_n dX6_familyOf_42 rfl ?_
            refine g_tableOut 174 dX6_familyOf_43 (by rw [eI]; omega) (by decide) ?_
            refine g_iconst (v := nI 1) dX6_familyOf_174 (by decide) ?_
            exact g_iret dX6_familyOf_175 rfl (⟨rfl, rfl, rfl, rfl, rfl⟩)
          · have tb := famT b (by omega) (by omega) c2
            have ei : ((nI b).toInt - 35).toNat = b - 35 := by rw [eI]; omega
            by_cases c4 : b = 60 ∨ b = 62
            · rw [if_pos c4] at tb
              rw [ef, if_pos c4]
              refine g_iload_n dX6_familyOf_42 rfl ?_
              refine g_tableIn 168 dX6_familyOf_43 (by rw [eI]; omega) (by rw [eI]; omega) (off := 125) (by rw [ei]; exact tb) (by decide) ?_
              refine g_bipush (v := nI 60) dX6_familyOf_168 (by decide) ?_
              exact g_iret dX6_familyOf_170 rfl (⟨rfl, rfl, rfl, rfl, rfl⟩)
            · rw [if_neg c4] at tb
              rw [ef, if_neg c4]
              by_cases c5 : isSg b = true
              · rw [if_pos c5] at tb
                rw [if_pos c5]
                refine g_iload_n dX6_familyOf_42 rfl ?_
                refine g_tableIn 171 dX6_familyOf_43 (by rw [eI]; omega) (by rw [eI]; omega) (off := 128) (by rw [ei]; exact tb) (by decide) ?_
                refine g_bipush (v := nI 59) dX6_familyOf_171 (by decide) ?_
                exact g_iret dX6_familyOf_173 rfl (⟨rfl, rfl, rfl, rfl, rfl⟩)
              · rw [if_neg c5] at tb
                rw [if_neg c5]
                refine g_iload_n dX6_familyOf_42 rfl ?_
                refine g_tableIn 174 dX6_familyOf_43 (by rw [eI]; omega) (by rw [eI]; omega) (off := 131) (by rw [ei]; exact tb) (by decide) ?_
                refine g_iconst (v := nI 1) dX6_familyOf_174 (by decide) ?_
                exact g_iret dX6_familyOf_175 rfl (⟨rfl, rfl, rfl, rfl, rfl⟩)
        by_cases c3 : b < 48
        · skip
          refine g_iload_n dX6_familyOf_27 rfl ?_
          refine g_bipush (v := nI 48) dX6_familyOf_28 (by decide) ?_
          refine n_icmp_lt 42 dX6_familyOf_30 (by decide) (by first | ((with_reducible apply cN_lt) <;> omega) | ((with_reducible apply cI_ltn) <;> omega) | ((with_reducible apply cI_nlt) <;> omega) | (with_reducible exact cI_lt)) (fun c30 => ?_) (fun c30 => by exfalso; first | omega | exact absurd trivial c30 | exact c30 | (simp at c30))
          exact g42
        · skip
          refine g_iload_n dX6_familyOf_27 rfl ?_
          refine g_bipush (v := nI 48) dX6_familyOf_28 (by decide) ?_
          refine n_icmp_lt 42 dX6_familyOf_30 (by decide) (by first | ((with_reducible apply cN_lt) <;> omega) | ((with_reducible apply cI_ltn) <;> omega) | ((with_reducible apply cI_nlt) <;> omega) | (with_reducible exact cI_lt)) (fun c30 => by exfalso; first | omega | exact absurd trivial c30 | exact c30 | (simp at c30)) (fun c30 => ?_)
          refine g_iload_n dX6_familyOf_33 rfl ?_
          refine g_bipush (v := nI 57) dX6_familyOf_34 (by decide) ?_
          refine n_icmp_gt 42 dX6_familyOf_36 (by decide) (by first | ((with_reducible apply cN_lt) <;> omega) | ((with_reducible apply cI_ltn) <;> omega) | ((with_reducible apply cI_nlt) <;> omega) | (with_reducible exact cI_lt)) (fun c36 => ?_) (fun c36 => by exfalso; first | omega | exact absurd trivial c36 | exact c36 | (simp at c36))
          exact g42
    by_cases d1 : b < 65
    · skip
      refine pvMet.of _ (by decide) rfl (Nat.le_of_ble_eq_true rfl) ?_
      refine g_iload_n dX6_familyOf_0 rfl ?_
      refine g_bipush (v := nI 97) dX6_familyOf_1 (by decide) ?_
      refine n_icmp_lt 12 dX6_familyOf_3 (by decide) (by first | ((with_reducible apply cN_lt) <;> omega) | ((with_reducible apply cI_ltn) <;> omega) | ((with_reducible apply cI_nlt) <;> omega) | (with_reducible exact cI_lt)) (fun c3 => ?_) (fun c3 => by exfalso; first | omega | exact absurd trivial c3 | exact c3 | (simp at c3))
      refine g_iload_n dX6_familyOf_12 rfl ?_
      refine g_bipush (v := nI 65) dX6_familyOf_13 (by decide) ?_
      refine n_icmp_lt 27 dX6_familyOf_15 (by decide) (by first | ((with_reducible apply cN_lt) <;> omega) | ((with_reducible apply cI_ltn) <;> omega) | ((with_reducible apply cI_nlt) <;> omega) | (with_reducible exact cI_lt)) (fun c15 => ?_) (fun c15 => by exfalso; first | omega | exact absurd trivial c15 | exact c15 | (simp at c15))
      exact g27
    · by_cases d2 : b < 97
      · skip
        refine pvMet.of _ (by decide) rfl (Nat.le_of_ble_eq_true rfl) ?_
        refine g_iload_n dX6_familyOf_0 rfl ?_
        refine g_bipush (v := nI 97) dX6_familyOf_1 (by decide) ?_
        refine n_icmp_lt 12 dX6_familyOf_3 (by decide) (by first | ((with_reducible apply cN_lt) <;> omega) | ((with_reducible apply cI_ltn) <;> omega) | ((with_reducible apply cI_nlt) <;> omega) | (with_reducible exact cI_lt)) (fun c3 => ?_) (fun c3 => by exfalso; first | omega | exact absurd trivial c3 | exact c3 | (simp at c3))
        refine g_iload_n dX6_familyOf_12 rfl ?_
        refine g_bipush (v := nI 65) dX6_familyOf_13 (by decide) ?_
        refine n_icmp_lt 27 dX6_familyOf_15 (by decide) (by first | ((with_reducible apply cN_lt) <;> omega) | ((with_reducible apply cI_ltn) <;> omega) | ((with_reducible apply cI_nlt) <;> omega) | (with_reducible exact cI_lt)) (fun c15 => by exfalso; first | omega | exact absurd trivial c15 | exact c15 | (simp at c15)) (fun c15 => ?_)
        refine g_iload_n dX6_familyOf_18 rfl ?_
        refine g_bipush (v := nI 90) dX6_familyOf_19 (by decide) ?_
        refine n_icmp_gt 27 dX6_familyOf_21 (by decide) (by first | ((with_reducible apply cN_lt) <;> omega) | ((with_reducible apply cI_ltn) <;> omega) | ((with_reducible apply cI_nlt) <;> omega) | (with_reducible exact cI_lt)) (fun c21 => ?_) (fun c21 => by exfalso; first | omega | exact absurd trivial c21 | exact c21 | (simp at c21))
        exact g27
      · skip
        refine pvMet.of _ (by decide) rfl (Nat.le_of_ble_eq_true rfl) ?_
        refine g_iload_n dX6_familyOf_0 rfl ?_
        refine g_bipush (v := nI 97) dX6_familyOf_1 (by decide) ?_
        refine n_icmp_lt 12 dX6_familyOf_3 (by decide) (by first | ((with_reducible apply cN_lt) <;> omega) | ((with_reducible apply cI_ltn) <;> omega) | ((with_reducible apply cI_nlt) <;> omega) | (with_reducible exact cI_lt)) (fun c3 => by exfalso; first | omega | exact absurd trivial c3 | exact c3 | (simp at c3)) (fun c3 => ?_)
        refine g_iload_n dX6_familyOf_6 rfl ?_
        refine g_bipush (v := nI 122) dX6_familyOf_7 (by decide) ?_
        refine n_icmp_le 24 dX6_familyOf_9 (by decide) (by first | ((with_reducible apply cN_le) <;> omega) | ((with_reducible apply cI_len) <;> omega) | ((with_reducible apply cI_nle) <;> omega) | (with_reducible exact cI_le)) (fun c9 => by exfalso; first | omega | exact absurd trivial c9 | exact c9 | (simp at c9)) (fun c9 => ?_)
        refine g_iload_n dX6_familyOf_12 rfl ?_
        refine g_bipush (v := nI 65) dX6_familyOf_13 (by decide) ?_
        refine n_icmp_lt 27 dX6_familyOf_15 (by decide) (by first | ((with_reducible apply cN_lt) <;> omega) | ((with_reducible apply cI_ltn) <;> omega) | ((with_reducible apply cI_nlt) <;> omega) | (with_reducible exact cI_lt)) (fun c15 => by exfalso; first | omega | exact absurd trivial c15 | exact c15 | (simp at c15)) (fun c15 => ?_)
        refine g_iload_n dX6_familyOf_18 rfl ?_
        refine g_bipush (v := nI 90) dX6_familyOf_19 (by decide) ?_
        refine n_icmp_gt 27 dX6_familyOf_21 (by decide) (by first | ((with_reducible apply cN_lt) <;> omega) | ((with_reducible apply cI_ltn) <;> omega) | ((with_reducible apply cI_nlt) <;> omega) | (with_reducible exact cI_lt)) (fun c21 => ?_) (fun c21 => by exfalso; first | omega | exact absurd trivial c21 | exact c21 | (simp at c21))
        exact g27
theorem fam_a {b : Nat} : fam b = 97 ↔ isLt b = true := by
  unfold fam
  by_cases c : isLt b = true
  · rw [if_pos c]; simp [c]
  · rw [if_neg c]
    constructor
    · intro z
      exfalso
      repeat (first | omega | split at z)
    · intro z; exact absurd z c
theorem fam_0 {b : Nat} : fam b = 48 ↔ isDg b = true := by
  unfold fam
  by_cases c : isLt b = true
  · rw [if_pos c]
    constructor
    · intro z; omega
    · intro z
      have := isLt_iff.mp c
      have := isDg_iff.mp z
      omega
  · rw [if_neg c]
    by_cases d : isDg b = true
    · rw [if_pos d]; simp [d]
    · rw [if_neg d]
      constructor
      · intro z
        exfalso
        repeat (first | omega | split at z)
      · intro z; exact absurd z d
section TOK
variable {tx : Nat → Nat} {n p : Nat} {I : pvI} {J : pvJ} {P : pvP}
theorem c_run {q : Nat → Bool} {fm : Nat} (hP : pvOkP P) (ht : cTx tx n I) (hq : ∀ b, fam b = fm ↔ q b = true) (hfm : fm = 97 ∨ fm = 48) {Q : pvQT} : ∀ d to, to + d = n → Q (some (.int (nI (rn q tx n to)))) 224 I J P → pvG mX6_endOfToken (pvR 1 0 0) (pvZ Q 0 0) 59 [.ref 144, .int (nI p), .int (nI fm), .int (nI to)] [] 0 0 224 I J P := by
  obtain ⟨t1, t2, t3⟩ := ht
  intro d
  induction d with
  | zero =>
    intro to hd hQ
    obtain rfl : to = n := by omega
    rw [rn_end (by omega)] at hQ
    refine g_iload_n dX6_endOfToken_59 rfl ?_
    refine g_aload_n dX6_endOfToken_60 rfl ?_
    refine n_getI dX6_endOfToken_61 fdX6_28 rfl (by first | rfl | exact pv_shx) (by omega) (by omega) (by decide) rfl (by repeat (first | exact t1 | (apply rd_s; done) | apply rd_n (by omega) | apply rp_s | apply rp_n (by omega) | (apply rdL_s; done) | apply rdL_n (by omega) | apply rpJ_s | apply rpJ_n (by omega) | rfl)) ?_
    refine n_icmp_ge 86 dX6_endOfToken_64 (by decide) (by first | ((with_reducible apply cN_le) <;> omega) | ((with_reducible apply cI_len) <;> omega) | ((with_reducible apply cI_nle) <;> omega) | (with_reducible exact cI_le)) (fun c64 => ?_) (fun c64 => by exfalso; first | omega | exact absurd trivial c64 | exact c64 | (simp at c64))
    refine g_iload_n dX6_endOfToken_86 rfl ?_
    exact g_iret dX6_endOfToken_87 rfl (hQ)
  | succ d ih =>
    intro to hd hQ
    obtain ⟨u1, u2⟩ := t3 to (by omega)
    have fo := c_familyOf (b := tx to) (nx := 224) (I := I) (J := J) (P := P) u2
    by_cases c : q (tx to) = true
    · rw [rn_yes (by omega) c] at hQ
      rw [(hq _).mpr c] at fo
      have nx := ih (to + 1) (by omega) hQ
      refine g_iload_n dX6_endOfToken_59 rfl ?_
      refine g_aload_n dX6_endOfToken_60 rfl ?_
      refine n_getI dX6_endOfToken_61 fdX6_28 rfl (by first | rfl | exact pv_shx) (by omega) (by omega) (by decide) rfl (by repeat (first | exact t1 | exact u1 | (apply rd_s; done) | apply rd_n (by omega) | apply rp_s | apply rp_n (by omega) | (apply rdL_s; done) | apply rdL_n (by omega) | apply rpJ_s | apply rpJ_n (by omega) | rfl)) ?_
      refine n_icmp_ge 86 dX6_endOfToken_64 (by decide) (by first | ((with_reducible apply cN_le) <;> omega) | ((with_reducible apply cI_len) <;> omega) | ((with_reducible apply cI_nle) <;> omega) | (with_reducible exact cI_le)) (fun c64 => by exfalso; first | omega | exact absurd trivial c64 | exact c64 | (simp at c64)) (fun c64 => ?_)
      refine g_aload_n dX6_endOfToken_67 rfl ?_
      refine g_getP dX6_endOfToken_68 fdX6_9 rfl (by first | rfl | exact pv_shx) (by omega) (by omega) (by decide) rfl (hP _ _ _ rfl) ?_
      refine g_iload_n dX6_endOfToken_71 rfl ?_
      refine n_iald dX6_endOfToken_72 (by first | rfl | exact pv_shx) (by omega) (by omega) (by decide) (rfl) (by omega) (by repeat (first | exact t1 | exact u1 | (apply rd_s; done) | apply rd_n (by omega) | apply rp_s | apply rp_n (by omega) | (apply rdL_s; done) | apply rdL_n (by omega) | apply rpJ_s | apply rpJ_n (by omega) | rfl)) ?_
      refine p_callS (fo) okX6_familyOf lkX6_66 rfl dX6_endOfToken_73 rfl (Nat.le_of_ble_eq_true rfl) (⟨by decide, by decide, by decide, by decide⟩) ?_
      refine g_iload_n dX6_endOfToken_76 rfl ?_
      refine n_icmp_ne 86 dX6_endOfToken_77 (by decide) (by first | ((with_reducible apply cN_eq) <;> omega) | ((with_reducible apply cI_eqn) <;> omega) | exact Iff.rfl) (fun c77 => by exfalso; first | omega | exact absurd trivial c77 | exact c77 | (simp at c77)) (fun c77 => ?_)
      refine g_iinc dX6_endOfToken_80 rfl (by first | (with_reducible exact nI_1 _) | exact nI_1 _ | exact pk_m1 _ | rfl) (by decide) rfl ?_
      refine g_goto 59 dX6_endOfToken_83 (by decide) ?_
      exact nx
    · rw [rn_no c] at hQ
      have hne : fam (tx to) ≠ fm := fun z => c ((hq _).mp z)
      have hfl : fam (tx to) ≤ 97 := by
        unfold fam
        repeat (first | omega | split)
      refine g_iload_n dX6_endOfToken_59 rfl ?_
      refine g_aload_n dX6_endOfToken_60 rfl ?_
      refine n_getI dX6_endOfToken_61 fdX6_28 rfl (by first | rfl | exact pv_shx) (by omega) (by omega) (by decide) rfl (by repeat (first | exact t1 | exact u1 | (apply rd_s; done) | apply rd_n (by omega) | apply rp_s | apply rp_n (by omega) | (apply rdL_s; done) | apply rdL_n (by omega) | apply rpJ_s | apply rpJ_n (by omega) | rfl)) ?_
      refine n_icmp_ge 86 dX6_endOfToken_64 (by decide) (by first | ((with_reducible apply cN_le) <;> omega) | ((with_reducible apply cI_len) <;> omega) | ((with_reducible apply cI_nle) <;> omega) | (with_reducible exact cI_le)) (fun c64 => by exfalso; first | omega | exact absurd trivial c64 | exact c64 | (simp at c64)) (fun c64 => ?_)
      refine g_aload_n dX6_endOfToken_67 rfl ?_
      refine g_getP dX6_endOfToken_68 fdX6_9 rfl (by first | rfl | exact pv_shx) (by omega) (by omega) (by decide) rfl (hP _ _ _ rfl) ?_
      refine g_iload_n dX6_endOfToken_71 rfl ?_
      refine n_iald dX6_endOfToken_72 (by first | rfl | exact pv_shx) (by omega) (by omega) (by decide) (rfl) (by omega) (by repeat (first | exact t1 | exact u1 | (apply rd_s; done) | apply rd_n (by omega) | apply rp_s | apply rp_n (by omega) | (apply rdL_s; done) | apply rdL_n (by omega) | apply rpJ_s | apply rpJ_n (by omega) | rfl)) ?_
      refine p_callS (fo) okX6_familyOf lkX6_66 rfl dX6_endOfToken_73 rfl (Nat.le_of_ble_eq_true rfl) (⟨by decide, by decide, by decide, by decide⟩) ?_
      refine g_iload_n dX6_endOfToken_76 rfl ?_
      refine n_icmp_ne 86 dX6_endOfToken_77 (by decide) (by first | ((with_reducible apply cN_eq) <;> omega) | ((with_reducible apply cI_eqn) <;> omega) | exact Iff.rfl) (fun c77 => ?_) (fun c77 => by exfalso; first | omega | exact absurd trivial c77 | exact c77 | (simp at c77))
      refine g_iload_n dX6_endOfToken_86 rfl ?_
      exact g_iret dX6_endOfToken_87 rfl (hQ)
theorem c_endOfToken (hP : pvOkP P) (ht : cTx tx n I) (hp : p < n) : pvMet mX6_endOfToken 1 0 0 [.ref 144, .int (nI p)] 224 I J P (pvpu (.int (nI (tkE tx n p))) 224 I J P) := by
  have ht' := ht
  obtain ⟨t1, t2, t3⟩ := ht
  obtain ⟨u1, u2⟩ := t3 p hp
  have fo := c_familyOf (b := tx p) (nx := 224) (I := I) (J := J) (P := P) u2
  by_cases c1 : isDg (tx p) = true
  · have e : tkE tx n p = rn isDg tx n (p + 1) := by unfold tkE; rw [if_neg (by omega), if_pos c1, rn_yes hp c1]
    rw [fam_0.mpr c1] at fo
    rw [e]
    have go := c_run (p := p) (fm := 48) (J := J) (Q := pvpu (.int (nI (rn isDg tx n (p + 1)))) 224 I J P) hP ht' (fun b => fam_0) (Or.inr rfl) (n - (p + 1)) (p + 1) (by omega) ⟨rfl, rfl, rfl, rfl, rfl⟩
    refine pvMet.of _ (by decide) rfl (Nat.le_of_ble_eq_true rfl) ?_
    refine g_aload_n dX6_endOfToken_0 rfl ?_
    refine g_getP dX6_endOfToken_1 fdX6_9 rfl (by first | rfl | exact pv_shx) (by omega) (by omega) (by decide) rfl (hP _ _ _ rfl) ?_
    refine g_iload_n dX6_endOfToken_4 rfl ?_
    refine n_iald dX6_endOfToken_5 (by first | rfl | exact pv_shx) (by omega) (by omega) (by decide) (rfl) (by omega) (by repeat (first | exact u1 | (apply rd_s; done) | apply rd_n (by omega) | apply rp_s | apply rp_n (by omega) | (apply rdL_s; done) | apply rdL_n (by omega) | apply rpJ_s | apply rpJ_n (by omega) | rfl)) ?_
    refine p_callS (fo) okX6_familyOf lkX6_66 rfl dX6_endOfToken_6 rfl (Nat.le_of_ble_eq_true rfl) (⟨by decide, by decide, by decide, by decide⟩) ?_
    refine g_istore_n dX6_endOfToken_9 (by decide) rfl ?_
    refine g_iload_n dX6_endOfToken_10 rfl ?_
    refine g_iconst (v := nI 1) dX6_endOfToken_11 (by decide) ?_
    refine n_iadd dX6_endOfToken_12 (by first | (with_reducible exact nI_add _ _) | rfl) ?_
    refine g_istore_n dX6_endOfToken_13 (by decide) rfl ?_
    refine g_iload_n dX6_endOfToken_14 rfl ?_
    refine g_bipush (v := nI 60) dX6_endOfToken_15 (by decide) ?_
    refine n_icmp_ne 47 dX6_endOfToken_17 (by decide) (by first | ((with_reducible apply cN_eq) <;> omega) | ((with_reducible apply cI_eqn) <;> omega) | exact Iff.rfl) (fun c17 => ?_) (fun c17 => by exfalso; first | omega | exact absurd trivial c17 | exact c17 | (simp at c17))
    refine g_iload_n dX6_endOfToken_47 rfl ?_
    refine g_bipush (v := nI 97) dX6_endOfToken_48 (by decide) ?_
    refine n_icmp_eq 59 dX6_endOfToken_50 (by decide) (by first | ((with_reducible apply cN_eq) <;> omega) | ((with_reducible apply cI_eqn) <;> omega) | exact Iff.rfl) (fun c50 => by exfalso; first | omega | exact absurd trivial c50 | exact c50 | (simp at c50)) (fun c50 => ?_)
    refine g_iload_n dX6_endOfToken_53 rfl ?_
    refine g_bipush (v := nI 48) dX6_endOfToken_54 (by decide) ?_
    refine n_icmp_ne 86 dX6_endOfToken_56 (by decide) (by first | ((with_reducible apply cN_eq) <;> omega) | ((with_reducible apply cI_eqn) <;> omega) | exact Iff.rfl) (fun c56 => by exfalso; first | omega | exact absurd trivial c56 | exact c56 | (simp at c56)) (fun c56 => ?_)
    exact go
  · by_cases c2 : isLt (tx p) = true
    · have e : tkE tx n p = rn isLt tx n (p + 1) := by unfold tkE; rw [if_neg (by omega), if_neg c1, if_pos c2, rn_yes hp c2]
      rw [fam_a.mpr c2] at fo
      rw [e]
      have go := c_run (p := p) (fm := 97) (J := J) (Q := pvpu (.int (nI (rn isLt tx n (p + 1)))) 224 I J P) hP ht' (fun b => fam_a) (Or.inl rfl) (n - (p + 1)) (p + 1) (by omega) ⟨rfl, rfl, rfl, rfl, rfl⟩
      refine pvMet.of _ (by decide) rfl (Nat.le_of_ble_eq_true rfl) ?_
      refine g_aload_n dX6_endOfToken_0 rfl ?_
      refine g_getP dX6_endOfToken_1 fdX6_9 rfl (by first | rfl | exact pv_shx) (by omega) (by omega) (by decide) rfl (hP _ _ _ rfl) ?_
      refine g_iload_n dX6_endOfToken_4 rfl ?_
      refine n_iald dX6_endOfToken_5 (by first | rfl | exact pv_shx) (by omega) (by omega) (by decide) (rfl) (by omega) (by repeat (first | exact u1 | (apply rd_s; done) | apply rd_n (by omega) | apply rp_s | apply rp_n (by omega) | (apply rdL_s; done) | apply rdL_n (by omega) | apply rpJ_s | apply rpJ_n (by omega) | rfl)) ?_
      refine p_callS (fo) okX6_familyOf lkX6_66 rfl dX6_endOfToken_6 rfl (Nat.le_of_ble_eq_true rfl) (⟨by decide, by decide, by decide, by decide⟩) ?_
      refine g_istore_n dX6_endOfToken_9 (by decide) rfl ?_
      refine g_iload_n dX6_endOfToken_10 rfl ?_
      refine g_iconst (v := nI 1) dX6_endOfToken_11 (by decide) ?_
      refine n_iadd dX6_endOfToken_12 (by first | (with_reducible exact nI_add _ _) | rfl) ?_
      refine g_istore_n dX6_endOfToken_13 (by decide) rfl ?_
      refine g_iload_n dX6_endOfToken_14 rfl ?_
      refine g_bipush (v := nI 60) dX6_endOfToken_15 (by decide) ?_
      refine n_icmp_ne 47 dX6_endOfToken_17 (by decide) (by first | ((with_reducible apply cN_eq) <;> omega) | ((with_reducible apply cI_eqn) <;> omega) | exact Iff.rfl) (fun c17 => ?_) (fun c17 => by exfalso; first | omega | exact absurd trivial c17 | exact c17 | (simp at c17))
      refine g_iload_n dX6_endOfToken_47 rfl ?_
      refine g_bipush (v := nI 97) dX6_endOfToken_48 (by decide) ?_
      refine n_icmp_eq 59 dX6_endOfToken_50 (by decide) (by first | ((with_reducible apply cN_eq) <;> omega) | ((with_reducible apply cI_eqn) <;> omega) | exact Iff.rfl) (fun c50 => ?_) (fun c50 => by exfalso; first | omega | exact absurd trivial c50 | exact c50 | (simp at c50))
      exact go
    · have e : tkE tx n p = if (tx p = 60 ∨ tx p = 62) ∧ p + 1 < n ∧ tx (p + 1) = 61 then p + 2 else p + 1 := by unfold tkE; rw [if_neg (by omega), if_neg c1, if_neg c2]
      have ef : fam (tx p) = if tx p = 60 ∨ tx p = 62 then 60 else if isSg (tx p) = true then 59 else 1 := by unfold fam; rw [if_neg c2, if_neg c1]
      rw [e]
      by_cases c3 : tx p = 60 ∨ tx p = 62
      · rw [ef, if_pos c3] at fo
        by_cases c4 : p + 1 < n
        · obtain ⟨v1, v2⟩ := t3 (p + 1) c4
          by_cases c5 : tx (p + 1) = 61
          · rw [if_pos ⟨c3, c4, c5⟩]
            refine pvMet.of _ (by decide) rfl (Nat.le_of_ble_eq_true rfl) ?_
            refine g_aload_n dX6_endOfToken_0 rfl ?_
            refine g_getP dX6_endOfToken_1 fdX6_9 rfl (by first | rfl | exact pv_shx) (by omega) (by omega) (by decide) rfl (hP _ _ _ rfl) ?_
            refine g_iload_n dX6_endOfToken_4 rfl ?_
            refine n_iald dX6_endOfToken_5 (by first | rfl | exact pv_shx) (by omega) (by omega) (by decide) (rfl) (by omega) (by repeat (first | exact u1 | exact t1 | exact v1 | (apply rd_s; done) | apply rd_n (by omega) | apply rp_s | apply rp_n (by omega) | (apply rdL_s; done) | apply rdL_n (by omega) | apply rpJ_s | apply rpJ_n (by omega) | rfl)) ?_
            refine p_callS (fo) okX6_familyOf lkX6_66 rfl dX6_endOfToken_6 rfl (Nat.le_of_ble_eq_true rfl) (⟨by decide, by decide, by decide, by decide⟩) ?_
            refine g_istore_n dX6_endOfToken_9 (by decide) rfl ?_
            refine g_iload_n dX6_endOfToken_10 rfl ?_
            refine g_iconst (v := nI 1) dX6_endOfToken_11 (by decide) ?_
            refine n_iadd dX6_endOfToken_12 (by first | (with_reducible exact nI_add _ _) | rfl) ?_
            refine g_istore_n dX6_endOfToken_13 (by decide) rfl ?_
            refine g_iload_n dX6_endOfToken_14 rfl ?_
            refine g_bipush (v := nI 60) dX6_endOfToken_15 (by decide) ?_
            refine n_icmp_ne 47 dX6_endOfToken_17 (by decide) (by first | ((with_reducible apply cN_eq) <;> omega) | ((with_reducible apply cI_eqn) <;> omega) | exact Iff.rfl) (fun c17 => by exfalso; first | omega | exact absurd trivial c17 | exact c17 | (simp at c17)) (fun c17 => ?_)
            refine g_iload_n dX6_endOfToken_20 rfl ?_
            refine g_aload_n dX6_endOfToken_21 rfl ?_
            refine n_getI dX6_endOfToken_22 fdX6_28 rfl (by first | rfl | exact pv_shx) (by omega) (by omega) (by decide) rfl (by repeat (first | exact u1 | exact t1 | exact v1 | (apply rd_s; done) | apply rd_n (by omega) | apply rp_s | apply rp_n (by omega) | (apply rdL_s; done) | apply rdL_n (by omega) | apply rpJ_s | apply rpJ_n (by omega) | rfl)) ?_
            refine n_icmp_ge 45 dX6_endOfToken_25 (by decide) (by first | ((with_reducible apply cN_le) <;> omega) | ((with_reducible apply cI_len) <;> omega) | ((with_reducible apply cI_nle) <;> omega) | (with_reducible exact cI_le)) (fun c25 => by exfalso; first | omega | exact absurd trivial c25 | exact c25 | (simp at c25)) (fun c25 => ?_)
            refine g_aload_n dX6_endOfToken_28 rfl ?_
            refine g_getP dX6_endOfToken_29 fdX6_9 rfl (by first | rfl | exact pv_shx) (by omega) (by omega) (by decide) rfl (hP _ _ _ rfl) ?_
            refine g_iload_n dX6_endOfToken_32 rfl ?_
            refine n_iald dX6_endOfToken_33 (by first | rfl | exact pv_shx) (by omega) (by omega) (by decide) (rfl) (by omega) (by repeat (first | exact u1 | exact t1 | exact v1 | (apply rd_s; done) | apply rd_n (by omega) | apply rp_s | apply rp_n (by omega) | (apply rdL_s; done) | apply rdL_n (by omega) | apply rpJ_s | apply rpJ_n (by omega) | rfl)) ?_
            refine g_bipush (v := nI 61) dX6_endOfToken_34 (by decide) ?_
            refine n_icmp_ne 45 dX6_endOfToken_36 (by decide) (by first | ((with_reducible apply cN_eq) <;> omega) | ((with_reducible apply cI_eqn) <;> omega) | exact Iff.rfl) (fun c36 => by exfalso; first | omega | exact absurd trivial c36 | exact c36 | (simp at c36)) (fun c36 => ?_)
            refine g_iload_n dX6_endOfToken_39 rfl ?_
            refine g_iconst (v := nI 1) dX6_endOfToken_40 (by decide) ?_
            refine n_iadd dX6_endOfToken_41 (by first | (with_reducible exact nI_add _ _) | rfl) ?_
            refine g_goto 46 dX6_endOfToken_42 (by decide) ?_
            exact g_iret dX6_endOfToken_46 rfl (⟨rfl, rfl, rfl, rfl, rfl⟩)
          · rw [if_neg (fun z => c5 z.2.2)]
            refine pvMet.of _ (by decide) rfl (Nat.le_of_ble_eq_true rfl) ?_
            refine g_aload_n dX6_endOfToken_0 rfl ?_
            refine g_getP dX6_endOfToken_1 fdX6_9 rfl (by first | rfl | exact pv_shx) (by omega) (by omega) (by decide) rfl (hP _ _ _ rfl) ?_
            refine g_iload_n dX6_endOfToken_4 rfl ?_
            refine n_iald dX6_endOfToken_5 (by first | rfl | exact pv_shx) (by omega) (by omega) (by decide) (rfl) (by omega) (by repeat (first | exact u1 | exact t1 | exact v1 | (apply rd_s; done) | apply rd_n (by omega) | apply rp_s | apply rp_n (by omega) | (apply rdL_s; done) | apply rdL_n (by omega) | apply rpJ_s | apply rpJ_n (by omega) | rfl)) ?_
            refine p_callS (fo) okX6_familyOf lkX6_66 rfl dX6_endOfToken_6 rfl (Nat.le_of_ble_eq_true rfl) (⟨by decide, by decide, by decide, by decide⟩) ?_
            refine g_istore_n dX6_endOfToken_9 (by decide) rfl ?_
            refine g_iload_n dX6_endOfToken_10 rfl ?_
            refine g_iconst (v := nI 1) dX6_endOfToken_11 (by decide) ?_
            refine n_iadd dX6_endOfToken_12 (by first | (with_reducible exact nI_add _ _) | rfl) ?_
            refine g_istore_n dX6_endOfToken_13 (by decide) rfl ?_
            refine g_iload_n dX6_endOfToken_14 rfl ?_
            refine g_bipush (v := nI 60) dX6_endOfToken_15 (by decide) ?_
            refine n_icmp_ne 47 dX6_endOfToken_17 (by decide) (by first | ((with_reducible apply cN_eq) <;> omega) | ((with_reducible apply cI_eqn) <;> omega) | exact Iff.rfl) (fun c17 => by exfalso; first | omega | exact absurd trivial c17 | exact c17 | (simp at c17)) (fun c17 => ?_)
            refine g_iload_n dX6_endOfToken_20 rfl ?_
            refine g_aload_n dX6_endOfToken_21 rfl ?_
            refine n_getI dX6_endOfToken_22 fdX6_28 rfl (by first | rfl | exact pv_shx) (by omega) (by omega) (by decide) rfl (by repeat (first | exact u1 | exact t1 | exact v1 | (apply rd_s; done) | apply rd_n (by omega) | apply rp_s | apply rp_n (by omega) | (apply rdL_s; done) | apply rdL_n (by omega) | apply rpJ_s | apply rpJ_n (by omega) | rfl)) ?_
            refine n_icmp_ge 45 dX6_endOfToken_25 (by decide) (by first | ((with_reducible apply cN_le) <;> omega) | ((with_reducible apply cI_len) <;> omega) | ((with_reducible apply cI_nle) <;> omega) | (with_reducible exact cI_le)) (fun c25 => by exfalso; first | omega | exact absurd trivial c25 | exact c25 | (simp at c25)) (fun c25 => ?_)
            refine g_aload_n dX6_endOfToken_28 rfl ?_
            refine g_getP dX6_endOfToken_29 fdX6_9 rfl (by first | rfl | exact pv_shx) (by omega) (by omega) (by decide) rfl (hP _ _ _ rfl) ?_
            refine g_iload_n dX6_endOfToken_32 rfl ?_
            refine n_iald dX6_endOfToken_33 (by first | rfl | exact pv_shx) (by omega) (by omega) (by decide) (rfl) (by omega) (by repeat (first | exact u1 | exact t1 | exact v1 | (apply rd_s; done) | apply rd_n (by omega) | apply rp_s | apply rp_n (by omega) | (apply rdL_s; done) | apply rdL_n (by omega) | apply rpJ_s | apply rpJ_n (by omega) | rfl)) ?_
            refine g_bipush (v := nI 61) dX6_endOfToken_34 (by decide) ?_
            refine n_icmp_ne 45 dX6_endOfToken_36 (by decide) (by first | ((with_reducible apply cN_eq) <;> omega) | ((with_reducible apply cI_eqn) <;> omega) | exact Iff.rfl) (fun c36 => ?_) (fun c36 => by exfalso; first | omega | exact absurd trivial c36 | exact c36 | (simp at c36))
            refine g_iload_n dX6_endOfToken_45 rfl ?_
            exact g_iret dX6_endOfToken_46 rfl (⟨rfl, rfl, rfl, rfl, rfl⟩)
        · rw [if_neg (fun z => c4 z.2.1)]
          refine pvMet.of _ (by decide) rfl (Nat.le_of_ble_eq_true rfl) ?_
          refine g_aload_n dX6_endOfToken_0 rfl ?_
          refine g_getP dX6_endOfToken_1 fdX6_9 rfl (by first | rfl | exact pv_shx) (by omega) (by omega) (by decide) rfl (hP _ _ _ rfl) ?_
          refine g_iload_n dX6_endOfToken_4 rfl ?_
          refine n_iald dX6_endOfToken_5 (by first | rfl | exact pv_shx) (by omega) (by omega) (by decide) (rfl) (by omega) (by repeat (first | exact u1 | exact t1 | (apply rd_s; done) | apply rd_n (by omega) | apply rp_s | apply rp_n (by omega) | (apply rdL_s; done) | apply rdL_n (by omega) | apply rpJ_s | apply rpJ_n (by omega) | rfl)) ?_
          refine p_callS (fo) okX6_familyOf lkX6_66 rfl dX6_endOfToken_6 rfl (Nat.le_of_ble_eq_true rfl) (⟨by decide, by decide, by decide, by decide⟩) ?_
          refine g_istore_n dX6_endOfToken_9 (by decide) rfl ?_
          refine g_iload_n dX6_endOfToken_10 rfl ?_
          refine g_iconst (v := nI 1) dX6_endOfToken_11 (by decide) ?_
          refine n_iadd dX6_endOfToken_12 (by first | (with_reducible exact nI_add _ _) | rfl) ?_
          refine g_istore_n dX6_endOfToken_13 (by decide) rfl ?_
          refine g_iload_n dX6_endOfToken_14 rfl ?_
          refine g_bipush (v := nI 60) dX6_endOfToken_15 (by decide) ?_
          refine n_icmp_ne 47 dX6_endOfToken_17 (by decide) (by first | ((with_reducible apply cN_eq) <;> omega) | ((with_reducible apply cI_eqn) <;> omega) | exact Iff.rfl) (fun c17 => by exfalso; first | omega | exact absurd trivial c17 | exact c17 | (simp at c17)) (fun c17 => ?_)
          refine g_iload_n dX6_endOfToken_20 rfl ?_
          refine g_aload_n dX6_endOfToken_21 rfl ?_
          refine n_getI dX6_endOfToken_22 fdX6_28 rfl (by first | rfl | exact pv_shx) (by omega) (by omega) (by decide) rfl (by repeat (first | exact u1 | exact t1 | (apply rd_s; done) | apply rd_n (by omega) | apply rp_s | apply rp_n (by omega) | (apply rdL_s; done) | apply rdL_n (by omega) | apply rpJ_s | apply rpJ_n (by omega) | rfl)) ?_
          refine n_icmp_ge 45 dX6_endOfToken_25 (by decide) (by first | ((with_reducible apply cN_le) <;> omega) | ((with_reducible apply cI_len) <;> omega) | ((with_reducible apply cI_nle) <;> omega) | (with_reducible exact cI_le)) (fun c25 => ?_) (fun c25 => by exfalso; first | omega | exact absurd trivial c25 | exact c25 | (simp at c25))
          refine g_iload_n dX6_endOfToken_45 rfl ?_
          exact g_iret dX6_endOfToken_46 rfl (⟨rfl, rfl, rfl, rfl, rfl⟩)
      · rw [if_neg (fun z => c3 z.1)]
        rw [ef, if_neg c3] at fo
        generalize hg : (if isSg (tx p) = true then 59 else 1) = g at fo
        have hg2 : g = 59 ∨ g = 1 := by
          rw [← hg]; split
          · exact Or.inl rfl
          · exact Or.inr rfl
        refine pvMet.of _ (by decide) rfl (Nat.le_of_ble_eq_true rfl) ?_
        refine g_aload_n dX6_endOfToken_0 rfl ?_
        refine g_getP dX6_endOfToken_1 fdX6_9 rfl (by first | rfl | exact pv_shx) (by omega) (by omega) (by decide) rfl (hP _ _ _ rfl) ?_
        refine g_iload_n dX6_endOfToken_4 rfl ?_
        refine n_iald dX6_endOfToken_5 (by first | rfl | exact pv_shx) (by omega) (by omega) (by decide) (rfl) (by omega) (by repeat (first | exact u1 | (apply rd_s; done) | apply rd_n (by omega) | apply rp_s | apply rp_n (by omega) | (apply rdL_s; done) | apply rdL_n (by omega) | apply rpJ_s | apply rpJ_n (by omega) | rfl)) ?_
        refine p_callS (fo) okX6_familyOf lkX6_66 rfl dX6_endOfToken_6 rfl (Nat.le_of_ble_eq_true rfl) (⟨by decide, by decide, by decide, by decide⟩) ?_
        refine g_istore_n dX6_endOfToken_9 (by decide) rfl ?_
        refine g_iload_n dX6_endOfToken_10 rfl ?_
        refine g_iconst (v := nI 1) dX6_endOfToken_11 (by decide) ?_
        refine n_iadd dX6_endOfToken_12 (by first | (with_reducible exact nI_add _ _) | rfl) ?_
        refine g_istore_n dX6_endOfToken_13 (by decide) rfl ?_
        refine g_iload_n dX6_endOfToken_14 rfl ?_
        refine g_bipush (v := nI 60) dX6_endOfToken_15 (by decide) ?_
        refine n_icmp_ne 47 dX6_endOfToken_17 (by decide) (by first | ((with_reducible apply cN_eq) <;> omega) | ((with_reducible apply cI_eqn) <;> omega) | exact Iff.rfl) (fun c17 => ?_) (fun c17 => by exfalso; first | omega | exact absurd trivial c17 | exact c17 | (simp at c17))
        refine g_iload_n dX6_endOfToken_47 rfl ?_
        refine g_bipush (v := nI 97) dX6_endOfToken_48 (by decide) ?_
        refine n_icmp_eq 59 dX6_endOfToken_50 (by decide) (by first | ((with_reducible apply cN_eq) <;> omega) | ((with_reducible apply cI_eqn) <;> omega) | exact Iff.rfl) (fun c50 => by exfalso; first | omega | exact absurd trivial c50 | exact c50 | (simp at c50)) (fun c50 => ?_)
        refine g_iload_n dX6_endOfToken_53 rfl ?_
        refine g_bipush (v := nI 48) dX6_endOfToken_54 (by decide) ?_
        refine n_icmp_ne 86 dX6_endOfToken_56 (by decide) (by first | ((with_reducible apply cN_eq) <;> omega) | ((with_reducible apply cI_eqn) <;> omega) | exact Iff.rfl) (fun c56 => ?_) (fun c56 => by exfalso; first | omega | exact absurd trivial c56 | exact c56 | (simp at c56))
        refine g_iload_n dX6_endOfToken_86 rfl ?_
        exact g_iret dX6_endOfToken_87 rfl (⟨rfl, rfl, rfl, rfl, rfl⟩)
theorem c_numberOf {m : Nat} (hP : pvOkP P) (ht : cTx tx n I) (hm : p + m ≤ n) (hd : ∀ j, j < m → isDg (tx (p + j)) = true) : pvMet mX6_numberOf 1 0 0 [.ref 144, .int (nI p), .int (nI (p + m))] 224 I J P (pvpu (.int (nI (nuC tx p m))) 224 I J P) := by
  obtain ⟨t1, t2, t3⟩ := ht
  have lp : ∀ q j, j + q = m → pvG mX6_numberOf (pvR 1 0 0) (pvZ (pvpu (.int (nI (nuC tx p m))) 224 I J P) 0 0) 5 [.ref 144, .int (nI p), .int (nI (p + m)), .int (nI (nuC tx p j)), .int (nI (p + j))] [] 0 0 224 I J P := by
    intro q
    induction q with
    | zero =>
      intro j hj
      obtain rfl : j = m := by omega
      refine g_iload dX6_numberOf_5 rfl ?_
      refine g_iload_n dX6_numberOf_7 rfl ?_
      refine n_icmp_ge 39 dX6_numberOf_8 (by decide) (by first | ((with_reducible apply cN_le) <;> omega) | ((with_reducible apply cI_len) <;> omega) | ((with_reducible apply cI_nle) <;> omega) | (with_reducible exact cI_le)) (fun c8 => ?_) (fun c8 => by exfalso; first | omega | exact absurd trivial c8 | exact c8 | (simp at c8))
      refine g_iload_n dX6_numberOf_39 rfl ?_
      exact g_iret dX6_numberOf_40 rfl (⟨rfl, rfl, rfl, rfl, rfl⟩)
    | succ q ih =>
      intro j hj
      have nx := ih (j + 1) (by omega)
      obtain ⟨u1, u2⟩ := t3 (p + j) (by omega)
      have dg := isDg_iff.mp (hd j (by omega))
      have hc := nuC_le2 (tx := tx) (p := p) j
      have es : nuC tx p (j + 1) = min 10000 (nuC tx p j * 10 + (tx (p + j) - 48)) := rfl
      rw [es, ← Nat.add_assoc] at nx
      have e28 : nI (nuC tx p j * 10 + tx (p + j)) - nI 48 = nI (nuC tx p j * 10 + (tx (p + j) - 48)) := by
        rw [show nuC tx p j * 10 + (tx (p + j) - 48) = nuC tx p j * 10 + tx (p + j) - 48 by omega]
        (with_reducible apply pk_sub) <;> omega
      refine g_iload dX6_numberOf_5 rfl ?_
      refine g_iload_n dX6_numberOf_7 rfl ?_
      refine n_icmp_ge 39 dX6_numberOf_8 (by decide) (by first | ((with_reducible apply cN_le) <;> omega) | ((with_reducible apply cI_len) <;> omega) | ((with_reducible apply cI_nle) <;> omega) | (with_reducible exact cI_le)) (fun c8 => by exfalso; first | omega | exact absurd trivial c8 | exact c8 | (simp at c8)) (fun c8 => ?_)
      refine g_sipush (v := nI 10000) dX6_numberOf_11 (by decide) ?_
      refine g_iload_n dX6_numberOf_14 rfl ?_
      refine g_bipush (v := nI 10) dX6_numberOf_15 (by decide) ?_
      refine n_imul dX6_numberOf_17 (by first | (with_reducible exact pk_mul _ _) | rfl) ?_
      refine g_aload_n dX6_numberOf_18 rfl ?_
      refine g_getP dX6_numberOf_19 fdX6_9 rfl (by first | rfl | exact pv_shx) (by omega) (by omega) (by decide) rfl (hP _ _ _ rfl) ?_
      refine g_iload dX6_numberOf_22 rfl ?_
      refine n_iald dX6_numberOf_24 (by first | rfl | exact pv_shx) (by omega) (by omega) (by decide) (rfl) (by omega) (by repeat (first | exact u1 | (apply rd_s; done) | apply rd_n (by omega) | apply rp_s | apply rp_n (by omega) | (apply rdL_s; done) | apply rdL_n (by omega) | apply rpJ_s | apply rpJ_n (by omega) | rfl)) ?_
      refine n_iadd dX6_numberOf_25 (by first | (with_reducible exact nI_add _ _) | rfl) ?_
      refine g_bipush (v := nI 48) dX6_numberOf_26 (by decide) ?_
      refine n_isub dX6_numberOf_28 (e28) ?_
      refine g_mmin dX6_numberOf_29 lkX6_75 (by decide) (Nat.le_of_ble_eq_true rfl) (by decide) (by decide) (mm_min (by omega) (by omega)) ?_
      refine g_istore_n dX6_numberOf_32 (by decide) rfl ?_
      refine g_iinc dX6_numberOf_33 rfl (by first | (with_reducible exact nI_1 _) | exact nI_1 _ | exact pk_m1 _ | rfl) (by decide) rfl ?_
      refine g_goto 5 dX6_numberOf_36 (by decide) ?_
      exact nx
  refine pvMet.of _ (by decide) rfl (Nat.le_of_ble_eq_true rfl) ?_
  refine g_iconst (v := nI 0) dX6_numberOf_0 (by decide) ?_
  refine g_istore_n dX6_numberOf_1 (by decide) rfl ?_
  refine g_iload_n dX6_numberOf_2 rfl ?_
  refine g_istore dX6_numberOf_3 (by decide) rfl ?_
  exact lp m 0 (by omega)
end TOK
