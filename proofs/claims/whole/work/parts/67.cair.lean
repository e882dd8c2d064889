/-! class: holes and air -/
theorem nb_sym {w h x c d : Nat} (hw : 2 ≤ w) (hx : x < w * h) (hd : d < 4) (hn : sp_nb w h x d = some c) : ∃ e, e < 4 ∧ sp_nb w h c e = some x := by
  have hw0 : 0 < w := by omega
  have hxy := sp_xy (c := x) hw0
  have hb := sp_inb hw0 hx
  have md : ∀ y r, r < w → (w * y + r) % w = r ∧ (w * y + r) / w = y := fun y r hr => ⟨by rw [Nat.mul_add_mod]; exact Nat.mod_eq_of_lt hr, by rw [Nat.mul_add_div hw0, Nat.div_eq_of_lt hr]; rfl⟩
  rcases (show d = 0 ∨ d = 1 ∨ d = 2 ∨ d = 3 by omega) with rfl | rfl | rfl | rfl
  · rw [sp_nb0] at hn
    split at hn
    · rename_i h1
      cases hn
      refine ⟨1, by decide, ?_⟩
      have e := md (x / w) (x % w + 1) h1
      rw [show w * (x / w) + (x % w + 1) = x + 1 by omega] at e
      rw [sp_nb1, e.1, if_pos (by omega), Nat.add_sub_cancel]
    · cases hn
  · rw [sp_nb1] at hn
    split at hn
    · rename_i h1
      cases hn
      refine ⟨0, by decide, ?_⟩
      have e := md (x / w) (x % w - 1) (by omega)
      rw [show w * (x / w) + (x % w - 1) = x - 1 by omega] at e
      rw [sp_nb0, e.1, if_pos (by omega), show x - 1 + 1 = x by omega]
    · cases hn
  · rw [sp_nb2] at hn
    split at hn
    · cases hn
      refine ⟨3, by decide, ?_⟩
      rw [sp_nb3, Nat.add_div_right x hw0, if_pos (Nat.succ_pos _), Nat.add_sub_cancel]
    · cases hn
  · rw [sp_nb3] at hn
    split at hn
    · rename_i h1
      cases hn
      refine ⟨2, by decide, ?_⟩
      have hwx : w ≤ x := by
        rcases Nat.lt_or_ge x w with z | z
        · rw [Nat.div_eq_of_lt z] at h1; omega
        · exact z
      obtain ⟨y, rfl⟩ : ∃ y, x = y + w := ⟨x - w, by omega⟩
      rw [Nat.add_div_right y hw0] at hb
      rw [Nat.add_sub_cancel, sp_nb2, if_pos (by omega)]
    · cases hn
/-- the sand ahead of a week -/
def fsum (a : Nat → Int32) (m c : Nat) : Nat := sumN (fun k => cnt a (1620 + 64 * k + c)) m
theorem flw_sum {a : Nat → Int32} {wl c : Nat} : ∀ m, ¬ (cnt a 0 ≤ m ∧ wlB a wl c (cnt a 10) = true) → flw a wl (m + 1) c = fsum a m c
  | 0, h => by
    show fl2 a 0 wl (fl1 a 0 (flw a wl 0)) c = 0
    unfold fl2
    rw [if_neg h]
    rfl
  | m + 1, h => by
    have ih := flw_sum (a := a) (wl := wl) (c := c) m (fun z => h ⟨by omega, z.2⟩)
    show fl2 a (m + 1) wl (fl1 a (m + 1) (flw a wl (m + 1))) c = _
    unfold fl2
    rw [if_neg h]
    unfold fl1
    rw [if_neg (by omega), ih, Nat.add_sub_cancel]
    rfl
theorem flw_20 {a : Nat → Int32} {wl c m : Nat} (h : cnt a 0 ≤ m ∧ wlB a wl c (cnt a 10) = true) : flw a wl (m + 1) c = 20 := by
  show fl2 a m wl (fl1 a m (flw a wl m)) c = 20
  unfold fl2
  rw [if_pos h]
def fullB (w h : Nat) (a : Nat → Int32) (m c : Nat) : Bool := decide (c < w * h ∧ 20 ≤ fsum a m c)
/-- what fires need of the world -/
def wF (w h : Nat) (a : Nat → Int32) (I : pvI) (J : pvJ) : Prop := gridOk w h I J ∧ (∀ c, c < 64 → I 6 c = nI (cnt a (84 + c))) ∧ J 4 6 = mk (fun c => decide (0 < cnt a (84 + c))) ∧ J 4 5 = mk (fun c => decide (cnt a (20 + c) = 3)) ∧ (I 4 8 = nI (cnt a 11) ∧ I 4 9 = nI (cnt a 12) ∧ I 4 10 = nI (cnt a 13)) ∧ (∀ m, m < 100 → J 8 m = mk (fullB w h a m)) ∧ (∀ m, m < 100 → J 13 m = mk (hoB a m none)) ∧ (∀ m, m < 100 → J 19 m = mk (cutb w h a (m + 1))) ∧ (I 9 0 = nI (cnt a 1) ∧ ∀ k, k < cnt a 1 → I 10 k = a (150 + 3 * k) ∧ I 11 k = a (150 + 3 * k + 1) ∧ I 12 k = a (150 + 3 * k + 2))
theorem wF.mv {w h : Nat} {a : Nat → Int32} {I I' : pvI} {J J' : pvJ} (hw : wF w h a I J) (hI : ∀ x, x < 20 → I' x = I x) (hJ : ∀ x, x < 20 → J' x = J x) : wF w h a I' J' := by
  unfold wF gridOk at hw ⊢
  rw [hI 2 (by decide), hI 6 (by decide), hI 4 (by decide), hI 9 (by decide), hI 10 (by decide), hI 11 (by decide), hI 12 (by decide), hJ 2 (by decide), hJ 4 (by decide), hJ 8 (by decide), hJ 13 (by decide), hJ 19 (by decide)]
  exact hw
def fHk (w h : Nat) (a : Nat → Int32) : Prop := ∀ c, w * h ≤ c → c < 64 → cnt a (20 + c) ≠ 3
theorem anyB_s {f : Nat → Bool} {n : Nat} : anyB f (n + 1) = (anyB f n || f n) := rfl
section HOL
variable {w h : Nat} {a : Nat → Int32} {I : pvI} {J : pvJ} {P : pvP} {m : Nat} {wo : Option Nat} {u2 : Int32}
theorem c_openHoles (hP : pvOkP P) (hg : mG a) (hho : mHoles (w * h) a) (hwh : w * h ≤ 64) (hm : m ≤ 99) (hu : ∀ k, k < 20 → (nI k = u2 ↔ wo = some k)) (h9 : I 9 0 = nI (cnt a 1)) (hr : ∀ k, k < cnt a 1 → I 10 k = a (150 + 3 * k) ∧ I 11 k = a (150 + 3 * k + 1) ∧ I 12 k = a (150 + 3 * k + 2)) : pvMet mX9_openHoles 1 0 0 [.ref 9, .int (nI m), .int u2] 224 I J P (pvpu (.long (mk (hoB a m wo))) 224 I J P) := by
  obtain ⟨nh, nh_b, nh_h⟩ := hg 1 (by decide)
  replace nh_b : nh ≤ 20 := nh_b
  have nh_e : cnt a 1 = nh := cnt_of nh_h (by omega)
  have lp : ∀ q i v6, i + q = nh → pvG mX9_openHoles (pvR 1 0 0) (pvZ (pvpu (.long (mk (hoB a m wo))) 224 I J P) 0 0) 5 [.ref 9, .int (nI m), .int u2, .long (mk (fun c => anyB (hoK a m wo c) i)), .retAddr 0, .int (nI i), v6] [] 0 0 224 I J P := by
    intro q
    induction q with
    | zero =>
      intro i v6 hi
      obtain rfl : i = nh := by omega
      have e : mk (fun c => anyB (hoK a m wo c) i) = mk (hoB a m wo) := by rw [← nh_e]; rfl
      rw [e]
      rw [nh_e] at h9
      refine g_iload dX9_openHoles_5 rfl ?_
      refine g_aload_n dX9_openHoles_7 rfl ?_
      refine n_getI dX9_openHoles_8 fdX9_43 rfl (by first | rfl | exact pv_shx) (by omega) (by omega) (by decide) rfl (by repeat (first | exact h9 | (apply rd_s; done) | apply rd_n (by omega) | apply rp_s | apply rp_n (by omega) | (apply rdL_s; done) | apply rdL_n (by omega) | apply rpJ_s | apply rpJ_n (by omega) | rfl)) ?_
      refine n_icmp_ge 84 dX9_openHoles_11 (by decide) (by first | ((with_reducible apply cN_le) <;> omega) | ((with_reducible apply cI_len) <;> omega) | ((with_reducible apply cI_nle) <;> omega) | (with_reducible exact cI_le)) (fun c11 => ?_) (fun c11 => by exfalso; first | omega | exact absurd trivial c11 | exact c11 | (simp at c11))
      refine g_lload_n dX9_openHoles_84 rfl ?_
      exact g_lret dX9_openHoles_85 rfl (⟨rfl, rfl, rfl, rfl, rfl⟩)
    | succ q ih =>
      intro i v6 hi
      rw [nh_e] at h9
      obtain ⟨r1, r2, r3⟩ := hr i (by omega)
      obtain ⟨⟨c, k1, k2⟩, ⟨b, b1, b2⟩, hpl⟩ := hho i (by omega)
      rw [k2] at r1
      rw [b2] at r2
      have kc : cnt a (150 + 3 * i) = c := cnt_of k2 (by omega)
      have kb : cnt a (150 + 3 * i + 1) = b := cnt_of b2 (by omega)
      have hu' := hu i (by omega)
      have es : ∀ x, anyB (hoK a m wo x) (i + 1) = (anyB (hoK a m wo x) i || (decide (hoPd a m wo i) && decide (c = x))) := fun x => by
        rw [anyB_s]; unfold hoK; rw [kc]
      have yes : hoPd a m wo i → mk (fun x => anyB (hoK a m wo x) i) ||| mk (fun x => decide (x = c)) = mk (fun x => anyB (hoK a m wo x) (i + 1)) := fun hy => by
        rw [mk_or]
        refine mk_cong (fun x hx => ?_)
        rw [es x, decide_eq_true hy, Bool.true_and]
        congr 1
        exact bool_eq (by simp [eq_comm])
      have no : ¬ hoPd a m wo i → mk (fun x => anyB (hoK a m wo x) i) = mk (fun x => anyB (hoK a m wo x) (i + 1)) := fun hy => mk_cong (fun x hx => by
        rw [es x, decide_eq_false hy, Bool.false_and, Bool.or_false])
      have nx : ∀ v6 y, y = mk (fun x => anyB (hoK a m wo x) (i + 1)) → pvG mX9_openHoles (pvR 1 0 0) (pvZ (pvpu (.long (mk (hoB a m wo))) 224 I J P) 0 0) 5 [.ref 9, .int (nI m), .int u2, .long y, .retAddr 0, .int (nI (i + 1)), v6] [] 0 0 224 I J P := fun v6 y hy => by rw [hy]; exact ih (i + 1) v6 (by omega)
      have pn : (I 12 i = -1 ↔ (a (150 + 3 * i + 2)).toInt < 0) := by
        rw [r3]
        rcases hpl with e | ⟨g, g1, g2⟩
        · rw [e]; exact ⟨fun _ => by decide, fun _ => rfl⟩
        · rw [g2, nI_toInt (by omega), cI_m1, nI_toInt (by omega)]; omega
      have hPd : hoPd a m wo i ↔ (¬ wo = some i ∧ b ≤ m ∧ ((a (150 + 3 * i + 2)).toInt < 0 ∨ (m : Int) < (a (150 + 3 * i + 2)).toInt)) := by unfold hoPd; rw [kb]
      have o52 : ∀ v : Nat, ((v = 1 ∧ (b ≤ m ∧ ((a (150 + 3 * i + 2)).toInt < 0 ∨ (m : Int) < (a (150 + 3 * i + 2)).toInt))) ∨ (v = 0 ∧ ¬ (b ≤ m ∧ ((a (150 + 3 * i + 2)).toInt < 0 ∨ (m : Int) < (a (150 + 3 * i + 2)).toInt)))) → pvG mX9_openHoles (pvR 1 0 0) (pvZ (pvpu (.long (mk (hoB a m wo))) 224 I J P) 0 0) 52 [.ref 9, .int (nI m), .int u2, .long (mk (fun c => anyB (hoK a m wo c) i)), .retAddr 0, .int (nI i), v6] [.int (nI v)] 0 0 224 I J P := by
        rintro v (⟨rfl, hop⟩ | ⟨rfl, hop⟩)
        · by_cases hwo : wo = some i
          · have hn := no (fun z => (hPd.mp z).1 hwo)
            refine g_istore dX9_openHoles_52 (by decide) rfl ?_
            refine g_iload dX9_openHoles_54 rfl ?_
            refine n_if_eq 78 dX9_openHoles_56 (by decide) (by first | (with_reducible exact cB _) | ((with_reducible apply cN_eq0) <;> omega) | exact Iff.rfl) (fun c56 => by exfalso; first | omega | exact absurd trivial c56 | exact c56 | (simp at c56)) (fun c56 => ?_)
            refine g_iload dX9_openHoles_59 rfl ?_
            refine g_iload_n dX9_openHoles_61 rfl ?_
            refine n_icmp_eq 78 dX9_openHoles_62 (by decide) (hu') (fun c62 => ?_) (fun c62 => by exfalso; exact c62 hwo)
            refine g_iinc dX9_openHoles_78 rfl (by first | (with_reducible exact nI_1 _) | exact nI_1 _ | exact pk_m1 _ | rfl) (by decide) rfl ?_
            refine g_goto 5 dX9_openHoles_81 (by decide) ?_
            exact nx _ _ hn
          · have hn := yes (hPd.mpr ⟨hwo, hop⟩)
            refine g_istore dX9_openHoles_52 (by decide) rfl ?_
            refine g_iload dX9_openHoles_54 rfl ?_
            refine n_if_eq 78 dX9_openHoles_56 (by decide) (by first | (with_reducible exact cB _) | ((with_reducible apply cN_eq0) <;> omega) | exact Iff.rfl) (fun c56 => by exfalso; first | omega | exact absurd trivial c56 | exact c56 | (simp at c56)) (fun c56 => ?_)
            refine g_iload dX9_openHoles_59 rfl ?_
            refine g_iload_n dX9_openHoles_61 rfl ?_
            refine n_icmp_eq 78 dX9_openHoles_62 (by decide) (hu') (fun c62 => by exfalso; exact hwo c62) (fun c62 => ?_)
            refine g_lload_n dX9_openHoles_65 rfl ?_
            refine g_aload_n dX9_openHoles_66 rfl ?_
            refine g_getP dX9_openHoles_67 fdX9_11 rfl (by first | rfl | exact pv_shx) (by omega) (by omega) (by decide) rfl (hP _ _ _ rfl) ?_
            refine g_iload dX9_openHoles_70 rfl ?_
            refine n_iald dX9_openHoles_72 (by first | rfl | exact pv_shx) (by omega) (by omega) (by decide) (rfl) (by omega) (by repeat (first | exact r1 | (apply rd_s; done) | apply rd_n (by omega) | apply rp_s | apply rp_n (by omega) | (apply rdL_s; done) | apply rdL_n (by omega) | apply rpJ_s | apply rpJ_n (by omega) | rfl)) ?_
            refine p_callNS (t_bit (by omega)) okX11_bit lkX9_64 rfl dX9_openHoles_73 rfl (Nat.le_of_ble_eq_true rfl) (⟨by decide, by decide, by decide, by decide⟩) ?_
            refine n_lor dX9_openHoles_76 (hn) ?_
            refine g_lstore_n dX9_openHoles_77 (by decide) rfl ?_
            refine g_iinc dX9_openHoles_78 rfl (by first | (with_reducible exact nI_1 _) | exact nI_1 _ | exact pk_m1 _ | rfl) (by decide) rfl ?_
            refine g_goto 5 dX9_openHoles_81 (by decide) ?_
            exact nx _ _ rfl
        · have hn := no (fun z => hop (hPd.mp z).2)
          refine g_istore dX9_openHoles_52 (by decide) rfl ?_
          refine g_iload dX9_openHoles_54 rfl ?_
          refine n_if_eq 78 dX9_openHoles_56 (by decide) (by first | (with_reducible exact cB _) | ((with_reducible apply cN_eq0) <;> omega) | exact Iff.rfl) (fun c56 => ?_) (fun c56 => by exfalso; first | omega | exact absurd trivial c56 | exact c56 | (simp at c56))
          refine g_iinc dX9_openHoles_78 rfl (by first | (with_reducible exact nI_1 _) | exact nI_1 _ | exact pk_m1 _ | rfl) (by decide) rfl ?_
          refine g_goto 5 dX9_openHoles_81 (by decide) ?_
          exact nx _ _ hn
      refine g_iload dX9_openHoles_5 rfl ?_
      refine g_aload_n dX9_openHoles_7 rfl ?_
      refine n_getI dX9_openHoles_8 fdX9_43 rfl (by first | rfl | exact pv_shx) (by omega) (by omega) (by decide) rfl (by repeat (first | exact h9 | exact r1 | exact r2 | (apply rd_s; done) | apply rd_n (by omega) | apply rp_s | apply rp_n (by omega) | (apply rdL_s; done) | apply rdL_n (by omega) | apply rpJ_s | apply rpJ_n (by omega) | rfl)) ?_
      refine n_icmp_ge 84 dX9_openHoles_11 (by decide) (by first | ((with_reducible apply cN_le) <;> omega) | ((with_reducible apply cI_len) <;> omega) | ((with_reducible apply cI_nle) <;> omega) | (with_reducible exact cI_le)) (fun c11 => by exfalso; first | omega | exact absurd trivial c11 | exact c11 | (simp at c11)) (fun c11 => ?_)
      refine g_aload_n dX9_openHoles_14 rfl ?_
      refine g_getP dX9_openHoles_15 fdX9_15 rfl (by first | rfl | exact pv_shx) (by omega) (by omega) (by decide) rfl (hP _ _ _ rfl) ?_
      refine g_iload dX9_openHoles_18 rfl ?_
      refine n_iald dX9_openHoles_20 (by first | rfl | exact pv_shx) (by omega) (by omega) (by decide) (rfl) (by omega) (by repeat (first | exact h9 | exact r1 | exact r2 | (apply rd_s; done) | apply rd_n (by omega) | apply rp_s | apply rp_n (by omega) | (apply rdL_s; done) | apply rdL_n (by omega) | apply rpJ_s | apply rpJ_n (by omega) | rfl)) ?_
      refine g_iload_n dX9_openHoles_21 rfl ?_
      refine n_icmp_gt 51 dX9_openHoles_22 (by decide) (by first | ((with_reducible apply cN_lt) <;> omega) | ((with_reducible apply cI_ltn) <;> omega) | ((with_reducible apply cI_nlt) <;> omega) | (with_reducible exact cI_lt)) (fun c22 => ?_) (fun c22 => ?_)
      · skip
        refine g_iconst (v := nI 0) dX9_openHoles_51 (by decide) ?_
        first | exact o52 1 (Or.inl ⟨rfl, by omega⟩) | exact o52 0 (Or.inr ⟨rfl, by omega⟩)
      · skip
        refine g_aload_n dX9_openHoles_25 rfl ?_
        refine g_getP dX9_openHoles_26 fdX9_18 rfl (by first | rfl | exact pv_shx) (by omega) (by omega) (by decide) rfl (hP _ _ _ rfl) ?_
        refine g_iload dX9_openHoles_29 rfl ?_
        refine n_iald dX9_openHoles_31 (by first | rfl | exact pv_shx) (by omega) (by omega) (by decide) (rfl) (by omega) (by repeat (first | exact h9 | exact r1 | exact r2 | (apply rd_s; done) | apply rd_n (by omega) | apply rp_s | apply rp_n (by omega) | (apply rdL_s; done) | apply rdL_n (by omega) | apply rpJ_s | apply rpJ_n (by omega) | rfl)) ?_
        refine g_iconst (v := (-1)) dX9_openHoles_32 (by decide) ?_
        refine n_icmp_eq 47 dX9_openHoles_33 (by decide) (pn) (fun c33 => ?_) (fun c33 => ?_)
        · skip
          refine g_iconst (v := nI 1) dX9_openHoles_47 (by decide) ?_
          refine g_goto 52 dX9_openHoles_48 (by decide) ?_
          first | exact o52 1 (Or.inl ⟨rfl, by omega⟩) | exact o52 0 (Or.inr ⟨rfl, by omega⟩)
        · skip
          refine g_iload_n dX9_openHoles_36 rfl ?_
          refine g_aload_n dX9_openHoles_37 rfl ?_
          refine g_getP dX9_openHoles_38 fdX9_18 rfl (by first | rfl | exact pv_shx) (by omega) (by omega) (by decide) rfl (hP _ _ _ rfl) ?_
          refine g_iload dX9_openHoles_41 rfl ?_
          refine n_iald dX9_openHoles_43 (by first | rfl | exact pv_shx) (by omega) (by omega) (by decide) (rfl) (by omega) (by repeat (first | exact h9 | exact r1 | exact r2 | (apply rd_s; done) | apply rd_n (by omega) | apply rp_s | apply rp_n (by omega) | (apply rdL_s; done) | apply rdL_n (by omega) | apply rpJ_s | apply rpJ_n (by omega) | rfl)) ?_
          refine n_icmp_ge 51 dX9_openHoles_44 (by decide) ((cI_le).trans (by rw [r3, nI_toInt (by omega : m < 2 ^ 31)])) (fun c44 => ?_) (fun c44 => ?_)
          · skip
            refine g_iconst (v := nI 0) dX9_openHoles_51 (by decide) ?_
            first | exact o52 1 (Or.inl ⟨rfl, by omega⟩) | exact o52 0 (Or.inr ⟨rfl, by omega⟩)
          · skip
            refine g_iconst (v := nI 1) dX9_openHoles_47 (by decide) ?_
            refine g_goto 52 dX9_openHoles_48 (by decide) ?_
            first | exact o52 1 (Or.inl ⟨rfl, by omega⟩) | exact o52 0 (Or.inr ⟨rfl, by omega⟩)
  have h0 := lp nh 0 (.retAddr 0) (by omega)
  rw [show mk (fun c => anyB (hoK a m wo c) 0) = 0 from mk_eq0.mpr (fun _ _ => rfl)] at h0
  refine pvMet.of _ (by decide) rfl (Nat.le_of_ble_eq_true rfl) ?_
  refine g_lconst (v := 0) dX9_openHoles_0 (by decide) ?_
  refine g_lstore_n dX9_openHoles_1 (by decide) rfl ?_
  refine g_iconst (v := nI 0) dX9_openHoles_2 (by decide) ?_
  refine g_istore dX9_openHoles_3 (by decide) rfl ?_
  exact h0
end HOL
