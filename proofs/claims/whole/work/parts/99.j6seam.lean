/-! class: the fires, the acts, the whole object are made -/
def dimN (x : Int32) : Nat := if x.toInt < 2 then 2 else if 8 < x.toInt then 8 else x.toInt.toNat
theorem dimN_b (x : Int32) : 2 ≤ dimN x ∧ dimN x ≤ 8 := by
  unfold dimN
  split
  · omega
  · split <;> omega
theorem dim_ok (x : Int32) : (if nI 2 < (if x < nI 8 then x else nI 8) then (if x < nI 8 then x else nI 8) else nI 2) = nI (dimN x) := by
  have e8 : (nI 8).toInt = 8 := nI_toInt (by decide)
  have e2 : (nI 2).toInt = 2 := nI_toInt (by decide)
  have h8 : x < nI 8 ↔ x.toInt < 8 := by rw [cI_lt, e8]
  unfold dimN
  by_cases c : x.toInt < 8
  · rw [if_pos (h8.mpr c)]
    have h2 : nI 2 < x ↔ 2 < x.toInt := by rw [cI_lt, e2]
    by_cases d : 2 < x.toInt
    · rw [if_pos (h2.mpr d), if_neg (by omega), if_neg (by omega)]
      rw [cI_eq, nI_toInt (by omega)]
      omega
    · rw [if_neg (fun z => d (h2.mp z))]
      by_cases f : x.toInt < 2
      · rw [if_pos f]
      · rw [if_neg f, if_neg (by omega)]
        congr 1
        omega
  · rw [if_neg (fun z => c (h8.mp z)), if_pos (by decide), if_neg (by omega)]
    by_cases f : 8 < x.toInt
    · rw [if_pos f]
    · rw [if_neg f]
      congr 1
      omega
section SEA
variable {I0 : pvI} {J : pvJ} {P0 : pvP} {wv hv : Int32} {Z : pvZT} {kc kn : Nat}
def fm (f : Nat → Int32) : Nat → Int32 := upd (upd f 2 (-1)) 4 (-1)
def fiF (i : Nat) (I0 : pvI) (P0 : pvP) (I1 : pvI) (P1 : pvP) : Prop := (∀ x, (∀ s, s < i → x ≠ 90 + 6 * s) → I1 x = I0 x) ∧ (∀ s, s < i → I1 (90 + 6 * s) = fm (I0 (90 + 6 * s))) ∧ (∀ x, x ≠ 89 → (∀ s, s < i → x ≠ 90 + 6 * s) → P1 x = P0 x) ∧ (∀ s, s < i → P1 89 s = some (90 + 6 * s) ∧ P1 (90 + 6 * s) 10 = some (90 + 6 * s + 1) ∧ P1 (90 + 6 * s) 11 = some (90 + 6 * s + 2) ∧ P1 (90 + 6 * s) 12 = some (90 + 6 * s + 3) ∧ P1 (90 + 6 * s) 13 = some (90 + 6 * s + 4) ∧ P1 (90 + 6 * s) 14 = some (90 + 6 * s + 5))
theorem n_fires (h3 : P0 1 3 = some 89) (hz : zz 89 I0 J P0) (hc : kc + 48 ≤ 200) (hn : kn + 3544 ≤ 12945) (K : ∀ I1 P1, fiF 8 I0 P0 I1 P1 → pvG mX11_init (pvR 3 200 12945) Z 101 [.ref 1, .int wv, .int hv, .retAddr 0] [] (kc + 48) (kn + 3544) 137 I1 J P1) : pvG mX11_init (pvR 3 200 12945) Z 76 [.ref 1, .int wv, .int hv, .int (nI 0)] [] kc kn 89 I0 J P0 := by
  have lp : ∀ q i I1 P1, i + q = 8 → fiF i I0 P0 I1 P1 → pvG mX11_init (pvR 3 200 12945) Z 76 [.ref 1, .int wv, .int hv, .int (nI i)] [] (kc + 6 * i) (kn + 443 * i) (89 + 6 * i) I1 J P1 := by
    intro q
    induction q with
    | zero =>
      intro i I1 P1 hi hf
      obtain rfl : i = 8 := by omega
      have k := K I1 P1 hf
      refine g_iload_n dX11_init_76 rfl ?_
      refine g_bipush (v := nI 8) dX11_init_77 (by decide) ?_
      refine n_icmp_ge 101 dX11_init_79 (by decide) (by first | ((with_reducible apply cN_le) <;> omega) | ((with_reducible apply cI_len) <;> omega) | ((with_reducible apply cI_nle) <;> omega) | (with_reducible exact cI_le)) (fun c79 => ?_) (fun c79 => by exfalso; first | omega | exact absurd trivial c79 | exact c79 | (simp at c79))
      exact g_drop _ (by repeat (first | exact trivial | refine ⟨Or.inr ⟨_, rfl⟩, ?_⟩ | refine ⟨Or.inl rfl, ?_⟩)) k
    | succ q ih =>
      intro i I1 P1 hi hf
      obtain ⟨f1, f2, f3, f4⟩ := hf
      have hA : fAd (90 + 6 * i) := ⟨i, by omega, rfl⟩
      have s0 := hA.sh.1.1
      have p13 : P1 1 3 = some 89 := by rw [f3 1 (by decide) (fun s hs => by omega)]; exact h3
      have hz1 : zz (89 + 6 * i) I1 J P1 := hz.up (by omega) (fun x hx => f1 x (fun s hs => by omega)) (fun x hx => f3 x (by omega) (fun s hs => by omega))
      have e90 : 89 + 6 * i + 1 = 90 + 6 * i := by omega
      have zc := hz1 (89 + 6 * i + 1) (by omega) (by omega)
      have nf := n_fire (F := 90 + 6 * i) (I := I1) (J := J) (P := P1) hA (hz1.up (by omega) (fun _ _ => rfl) (fun _ _ => rfl))
      have sh1 : pvSH (89 + 6 * i + 1) = (6, 15) := by rw [e90]; exact s0
      have go : ∀ P2, (∀ x, x ≠ 90 + 6 * i → P2 x = P1 x) → P2 (90 + 6 * i) 10 = some (90 + 6 * i + 1) ∧ P2 (90 + 6 * i) 11 = some (90 + 6 * i + 2) ∧ P2 (90 + 6 * i) 12 = some (90 + 6 * i + 3) ∧ P2 (90 + 6 * i) 13 = some (90 + 6 * i + 4) ∧ P2 (90 + 6 * i) 14 = some (90 + 6 * i + 5) → pvG mX11_init (pvR 3 200 12945) Z 76 [.ref 1, .int wv, .int hv, .int (nI (i + 1))] [] (kc + 6 * i + 1 + 5) (kn + 443 * i + 15 + 428) (90 + 6 * i + 5) (pvs I1 (90 + 6 * i) (fm (I1 (90 + 6 * i)))) J (pvuP P2 89 i (some (90 + 6 * i))) := by
        intro P2 g1 g2
        have := ih (i + 1) (pvs I1 (90 + 6 * i) (fm (I1 (90 + 6 * i)))) (pvuP P2 89 i (some (90 + 6 * i))) (by omega) ⟨fun x hx => by rw [pvs_ne (hx i (by omega))]; exact f1 x (fun s hs => hx s (by omega)), fun s hs => by
          by_cases e : s = i
          · subst e; rw [pvs_eq, f1 _ (fun t ht => by omega)]
          · rw [pvs_ne (by omega)]; exact f2 s (by omega), fun x z1 hx => by rw [pvuP_ne z1, g1 x (hx i (by omega))]; exact f3 x z1 (fun s hs => hx s (by omega)), fun s hs => by
          by_cases e : s = i
          · subst e
            rw [pvuP_ne (show 90 + 6 * s ≠ 89 by omega), pvuP_eq]
            exact ⟨by simp [va_up], g2⟩
          · rw [pvuP_ne (show 90 + 6 * s ≠ 89 by omega), pvuP_eq, g1 89 (by omega), g1 (90 + 6 * s) (by omega)]
            have := f4 s (by omega)
            exact ⟨by simp [va_up, e]; exact this.1, this.2⟩⟩
        rw [show kc + 6 * (i + 1) = kc + 6 * i + 1 + 5 by omega, show kn + 443 * (i + 1) = kn + 443 * i + 15 + 428 by omega, show 89 + 6 * (i + 1) = 90 + 6 * i + 5 by omega] at this
        exact this
      have sg : pvSH 89 = (3, 8) := rfl
      refine g_iload_n dX11_init_76 rfl ?_
      refine g_bipush (v := nI 8) dX11_init_77 (by decide) ?_
      refine n_icmp_ge 101 dX11_init_79 (by decide) (by first | ((with_reducible apply cN_le) <;> omega) | ((with_reducible apply cI_len) <;> omega) | ((with_reducible apply cI_nle) <;> omega) | (with_reducible exact cI_le)) (fun c79 => by exfalso; first | omega | exact absurd trivial c79 | exact c79 | (simp at c79)) (fun c79 => ?_)
      refine g_aload_n dX11_init_82 rfl ?_
      refine g_getP dX11_init_83 fdX11_41 rfl (by first | rfl | exact pv_shx) (by omega) (by omega) (by decide) rfl (p13) ?_
      refine g_iload_n dX11_init_86 rfl ?_
      refine g_new dX11_init_87 nwX11_39 (by decide) rfl sh1 (by omega) zc.1 zc.2.1 zc.2.2 (by show _ ≤ 200; omega) (by show _ ≤ 12945; omega) ?_
      rw [e90]
      refine g_dup dX11_init_90 rfl ?_
      refine g_callNI (nf) okX1_init rfl lkX11_45 rfl dX11_init_91 rfl (Nat.le_of_ble_eq_true rfl) (⟨by decide, by decide, by show _ ≤ 200; omega, by show _ ≤ 12945; omega⟩) ?_
      rintro v nx' I2 J2 P2 ⟨rfl, rfl, rfl, rfl, g1, g2⟩
      refine g_aast dX11_init_94 (n := 8) ⟨Or.inl rfl, sg⟩ s0 (r := _) rfl rfl (by omega) (by omega) (by omega) (by omega) (by omega) (by decide) ?_
      refine g_iinc dX11_init_95 rfl (by first | (with_reducible exact nI_1 _) | exact nI_1 _ | exact pk_m1 _ | rfl) (by decide) rfl ?_
      refine g_goto 76 dX11_init_98 (by decide) ?_
      exact go P2 g1 g2
  have := lp 8 0 I0 P0 (by omega) ⟨fun _ _ => rfl, fun s hs => absurd hs (Nat.not_lt_zero s), fun _ _ _ => rfl, fun s hs => absurd hs (Nat.not_lt_zero s)⟩
  exact this
def acF' (i : Nat) (P0 : pvP) (P1 : pvP) : Prop := (∀ x, x ≠ 148 → (∀ s, s < i → x ≠ 149 + 5 * s) → P1 x = P0 x) ∧ (∀ s, s < i → P1 148 s = some (149 + 5 * s) ∧ P1 (149 + 5 * s) 2 = some (149 + 5 * s + 1) ∧ P1 (149 + 5 * s) 3 = some (149 + 5 * s + 2) ∧ P1 (149 + 5 * s) 4 = some (149 + 5 * s + 3) ∧ P1 (149 + 5 * s) 5 = some (149 + 5 * s + 4))
theorem n_acts (h3 : P0 1 6 = some 148) (hz : zz 148 I0 J P0) (hc : kc + 50 ≤ 200) (hn : kn + 3660 ≤ 12945) (K : ∀ P1, acF' 10 P0 P1 → pvG mX11_init (pvR 3 200 12945) Z 159 [.ref 1, .int wv, .int hv, .retAddr 0] [] (kc + 50) (kn + 3660) 198 I0 J P1) : pvG mX11_init (pvR 3 200 12945) Z 134 [.ref 1, .int wv, .int hv, .int (nI 0)] [] kc kn 148 I0 J P0 := by
  have lp : ∀ q i P1, i + q = 10 → acF' i P0 P1 → pvG mX11_init (pvR 3 200 12945) Z 134 [.ref 1, .int wv, .int hv, .int (nI i)] [] (kc + 5 * i) (kn + 366 * i) (148 + 5 * i) I0 J P1 := by
    intro q
    induction q with
    | zero =>
      intro i P1 hi hf
      obtain rfl : i = 10 := by omega
      have k := K P1 hf
      refine g_iload_n dX11_init_134 rfl ?_
      refine g_bipush (v := nI 10) dX11_init_135 (by decide) ?_
      refine n_icmp_ge 159 dX11_init_137 (by decide) (by first | ((with_reducible apply cN_le) <;> omega) | ((with_reducible apply cI_len) <;> omega) | ((with_reducible apply cI_nle) <;> omega) | (with_reducible exact cI_le)) (fun c137 => ?_) (fun c137 => by exfalso; first | omega | exact absurd trivial c137 | exact c137 | (simp at c137))
      exact g_drop _ (by repeat (first | exact trivial | refine ⟨Or.inr ⟨_, rfl⟩, ?_⟩ | refine ⟨Or.inl rfl, ?_⟩)) k
    | succ q ih =>
      intro i P1 hi hf
      obtain ⟨f3, f4⟩ := hf
      have hA : aAd (149 + 5 * i) := ⟨i, by omega, rfl⟩
      have s0 := hA.sh.1.1
      have p16 : P1 1 6 = some 148 := by rw [f3 1 (by decide) (fun s hs => by omega)]; exact h3
      have hz1 : zz (148 + 5 * i) I0 J P1 := hz.up (by omega) (fun x hx => rfl) (fun x hx => f3 x (by omega) (fun s hs => by omega))
      have e90 : 148 + 5 * i + 1 = 149 + 5 * i := by omega
      have zc := hz1 (148 + 5 * i + 1) (by omega) (by omega)
      have nf := n_act (A := 149 + 5 * i) (I := I0) (J := J) (P := P1) hA (hz1.up (by omega) (fun _ _ => rfl) (fun _ _ => rfl))
      have sh1 : pvSH (148 + 5 * i + 1) = (5, 6) := by rw [e90]; exact s0
      have go : ∀ P2, (∀ x, x ≠ 149 + 5 * i → P2 x = P1 x) → P2 (149 + 5 * i) 2 = some (149 + 5 * i + 1) ∧ P2 (149 + 5 * i) 3 = some (149 + 5 * i + 2) ∧ P2 (149 + 5 * i) 4 = some (149 + 5 * i + 3) ∧ P2 (149 + 5 * i) 5 = some (149 + 5 * i + 4) → pvG mX11_init (pvR 3 200 12945) Z 134 [.ref 1, .int wv, .int hv, .int (nI (i + 1))] [] (kc + 5 * i + 1 + 4) (kn + 366 * i + 6 + 360) (149 + 5 * i + 4) I0 J (pvuP P2 148 i (some (149 + 5 * i))) := by
        intro P2 g1 g2
        have := ih (i + 1) (pvuP P2 148 i (some (149 + 5 * i))) (by omega) ⟨fun x z1 hx => by rw [pvuP_ne z1, g1 x (hx i (by omega))]; exact f3 x z1 (fun s hs => hx s (by omega)), fun s hs => by
          by_cases e : s = i
          · subst e
            rw [pvuP_ne (show 149 + 5 * s ≠ 148 by omega), pvuP_eq]
            exact ⟨by simp [va_up], g2⟩
          · rw [pvuP_ne (show 149 + 5 * s ≠ 148 by omega), pvuP_eq, g1 148 (by omega), g1 (149 + 5 * s) (by omega)]
            have := f4 s (by omega)
            exact ⟨by simp [va_up, e]; exact this.1, this.2⟩⟩
        rw [show kc + 5 * (i + 1) = kc + 5 * i + 1 + 4 by omega, show kn + 366 * (i + 1) = kn + 366 * i + 6 + 360 by omega, show 148 + 5 * (i + 1) = 149 + 5 * i + 4 by omega] at this
        exact this
      have sg : pvSH 148 = (4, 10) := rfl
      refine g_iload_n dX11_init_134 rfl ?_
      refine g_bipush (v := nI 10) dX11_init_135 (by decide) ?_
      refine n_icmp_ge 159 dX11_init_137 (by decide) (by first | ((with_reducible apply cN_le) <;> omega) | ((with_reducible apply cI_len) <;> omega) | ((with_reducible apply cI_nle) <;> omega) | (with_reducible exact cI_le)) (fun c137 => by exfalso; first | omega | exact absurd trivial c137 | exact c137 | (simp at c137)) (fun c137 => ?_)
      refine g_aload_n dX11_init_140 rfl ?_
      refine g_getP dX11_init_141 fdX11_59 rfl (by first | rfl | exact pv_shx) (by omega) (by omega) (by decide) rfl (p16) ?_
      refine g_iload_n dX11_init_144 rfl ?_
      refine g_new dX11_init_145 nwX11_57 (by decide) rfl sh1 (by omega) zc.1 zc.2.1 zc.2.2 (by show _ ≤ 200; omega) (by show _ ≤ 12945; omega) ?_
      rw [e90]
      refine g_dup dX11_init_148 rfl ?_
      refine g_callNI (nf) okX0_init rfl lkX11_63 rfl dX11_init_149 rfl (Nat.le_of_ble_eq_true rfl) (⟨by decide, by decide, by show _ ≤ 200; omega, by show _ ≤ 12945; omega⟩) ?_
      rintro v nx' I2 J2 P2 ⟨rfl, rfl, rfl, rfl, g1, g2⟩
      refine g_aast dX11_init_152 (n := 10) ⟨Or.inr rfl, sg⟩ s0 (r := _) rfl rfl (by omega) (by omega) (by omega) (by omega) (by omega) (by decide) ?_
      refine g_iinc dX11_init_153 rfl (by first | (with_reducible exact nI_1 _) | exact nI_1 _ | exact pk_m1 _ | rfl) (by decide) rfl ?_
      refine g_goto 134 dX11_init_156 (by decide) ?_
      exact go P2 g1 g2
  have := lp 10 0 P0 (by omega) ⟨fun _ _ _ => rfl, fun s hs => absurd hs (Nat.not_lt_zero s)⟩
  exact this
end SEA
