/-! class: which states are let, how many burn -/
theorem bN_or {f : Nat → Bool} {n : Nat} : bN f n ||| 2 ^ n = bN f n + 2 ^ n := by
  have h := Nat.two_pow_add_eq_or_of_lt (b_lt := bN_lt (f := f) n) 1
  rw [Nat.mul_one] at h
  rw [Nat.or_comm, ← h, Nat.add_comm]
theorem bN_dm {f : Nat → Bool} {n s : Nat} : bN f n / 2 ^ s % 2 = 1 ↔ (s < n ∧ f s = true) := by
  have h := bN_bit (f := f) n s
  rw [Nat.testBit_eq_decide_div_mod_eq] at h
  constructor
  · intro z
    rw [decide_eq_true z] at h
    have h2 : (decide (s < n) && f s) = true := h.symm
    rw [Bool.and_eq_true, decide_eq_true_iff] at h2
    exact h2
  · rintro ⟨z1, z2⟩
    rw [decide_eq_true z1, z2] at h
    exact of_decide_eq_true h
theorem sp_ct_lt2 {f : Nat → Bool} {n : Nat} : ∀ k, sp_ct (fun c => (decide (c < n) && f c) = true) (n + k) = sp_ct (fun c => f c = true) n
  | 0 => sp_ct_cong (fun c hc => by simp [show c < n by simpa using hc])
  | k + 1 => by
    show sp_ct _ (n + k) + (if _ then 1 else 0) = _
    rw [sp_ct_lt2 k, if_neg (by simp; omega)]
    rfl
def bcE (x : Int32) : Int32 :=
  let a := x - ((x.toUInt32 >>> ((nI 1).toUInt32 &&& Int32.toUInt32 31)).toInt32 &&& 1431655765)
  let b := (a &&& 858993459) + ((a.toUInt32 >>> ((nI 2).toUInt32 &&& Int32.toUInt32 31)).toInt32 &&& 858993459)
  let c := (b + (b.toUInt32 >>> ((nI 4).toUInt32 &&& Int32.toUInt32 31)).toInt32) &&& 252645135
  let d := c + (c.toUInt32 >>> ((nI 8).toUInt32 &&& Int32.toUInt32 31)).toInt32
  let e := d + (d.toUInt32 >>> ((nI 16).toUInt32 &&& Int32.toUInt32 31)).toInt32
  e &&& nI 63
theorem bcE_ok : ∀ n, n < 256 → bcE (nI n) = nI (sp_ct (fun c => n.testBit c = true) 8) := by decide +kernel
theorem kc265 : (nI 1431655765 : Int32) = 1431655765 := rfl
theorem kc266 : (nI 858993459 : Int32) = 858993459 := rfl
theorem kc267 : (nI 252645135 : Int32) = 252645135 := rfl
theorem t_bitCount8 {nx n : Nat} {I : pvI} {J : pvJ} {P : pvP} (hn : n < 256) : pvMet mJ6_bitCount_0f7a4 0 0 0 [.int (nI n)] nx I J P (pvpu (.int (nI (sp_ct (fun c => n.testBit c = true) 8))) nx I J P) := by
  have h := bcE_ok n hn
  refine pvMet.of _ (by decide) rfl (Nat.le_of_ble_eq_true rfl) ?_
  refine g_iload_n dJ6_bitCount_0f7a4_0 rfl ?_
  refine g_iload_n dJ6_bitCount_0f7a4_1 rfl ?_
  refine g_iconst (v := nI 1) dJ6_bitCount_0f7a4_2 (by decide) ?_
  refine n_iushr dJ6_bitCount_0f7a4_3 (rfl) ?_
  refine g_ldcw (v := nI 1431655765) dJ6_bitCount_0f7a4_4 kcJ6_265 ?_
  refine n_iand dJ6_bitCount_0f7a4_7 (rfl) ?_
  refine n_isub dJ6_bitCount_0f7a4_8 (rfl) ?_
  refine g_istore_n dJ6_bitCount_0f7a4_9 (by decide) rfl ?_
  refine g_iload_n dJ6_bitCount_0f7a4_10 rfl ?_
  refine g_ldcw (v := nI 858993459) dJ6_bitCount_0f7a4_11 kcJ6_266 ?_
  refine n_iand dJ6_bitCount_0f7a4_14 (rfl) ?_
  refine g_iload_n dJ6_bitCount_0f7a4_15 rfl ?_
  refine g_iconst (v := nI 2) dJ6_bitCount_0f7a4_16 (by decide) ?_
  refine n_iushr dJ6_bitCount_0f7a4_17 (rfl) ?_
  refine g_ldcw (v := nI 858993459) dJ6_bitCount_0f7a4_18 kcJ6_266 ?_
  refine n_iand dJ6_bitCount_0f7a4_21 (rfl) ?_
  refine n_iadd dJ6_bitCount_0f7a4_22 (rfl) ?_
  refine g_istore_n dJ6_bitCount_0f7a4_23 (by decide) rfl ?_
  refine g_iload_n dJ6_bitCount_0f7a4_24 rfl ?_
  refine g_iload_n dJ6_bitCount_0f7a4_25 rfl ?_
  refine g_iconst (v := nI 4) dJ6_bitCount_0f7a4_26 (by decide) ?_
  refine n_iushr dJ6_bitCount_0f7a4_27 (rfl) ?_
  refine n_iadd dJ6_bitCount_0f7a4_28 (rfl) ?_
  refine g_ldcw (v := nI 252645135) dJ6_bitCount_0f7a4_29 kcJ6_267 ?_
  refine n_iand dJ6_bitCount_0f7a4_32 (rfl) ?_
  refine g_istore_n dJ6_bitCount_0f7a4_33 (by decide) rfl ?_
  refine g_iload_n dJ6_bitCount_0f7a4_34 rfl ?_
  refine g_iload_n dJ6_bitCount_0f7a4_35 rfl ?_
  refine g_bipush (v := nI 8) dJ6_bitCount_0f7a4_36 (by decide) ?_
  refine n_iushr dJ6_bitCount_0f7a4_38 (rfl) ?_
  refine n_iadd dJ6_bitCount_0f7a4_39 (rfl) ?_
  refine g_istore_n dJ6_bitCount_0f7a4_40 (by decide) rfl ?_
  refine g_iload_n dJ6_bitCount_0f7a4_41 rfl ?_
  refine g_iload_n dJ6_bitCount_0f7a4_42 rfl ?_
  refine g_bipush (v := nI 16) dJ6_bitCount_0f7a4_43 (by decide) ?_
  refine n_iushr dJ6_bitCount_0f7a4_45 (rfl) ?_
  refine n_iadd dJ6_bitCount_0f7a4_46 (rfl) ?_
  refine g_istore_n dJ6_bitCount_0f7a4_47 (by decide) rfl ?_
  refine g_iload_n dJ6_bitCount_0f7a4_48 rfl ?_
  refine g_bipush (v := nI 63) dJ6_bitCount_0f7a4_49 (by decide) ?_
  refine n_iand dJ6_bitCount_0f7a4_51 (rfl) ?_
  exact g_iret dJ6_bitCount_0f7a4_52 rfl (⟨congrArg (fun z => some (Value.int z)) h, rfl, rfl, rfl, rfl⟩)
/-- the states that are let, as bits -/
def ltN (w h : Nat) (a : Nat → Int32) (kn : Nat) : Nat := bN (fun s => letB w h a s kn) (cnt a 3)
theorem ltN_lt {w h : Nat} {a : Nat → Int32} {kn : Nat} (h3 : cnt a 3 ≤ 8) : ltN w h a kn < 256 := Nat.lt_of_lt_of_le (bN_lt _) (Nat.pow_le_pow_right (n := 2) (by decide) h3)
theorem ltN_ct {w h : Nat} {a : Nat → Int32} {kn : Nat} (h3 : cnt a 3 ≤ 8) : sp_ct (fun c => (ltN w h a kn).testBit c = true) 8 = nLet w h a kn := by
  unfold ltN nLet
  rw [sp_ct_cong (q := fun c => (decide (c < cnt a 3) && letB w h a c kn) = true) (fun c _ => by rw [bN_bit])]
  obtain ⟨k, hk⟩ : ∃ k, 8 = cnt a 3 + k := ⟨8 - cnt a 3, by omega⟩
  rw [hk]
  exact sp_ct_lt2 k
theorem sp_ct_0 {p : Nat → Prop} [DecidablePred p] : ∀ n, sp_ct p n = 0 ↔ ∀ c, c < n → ¬ p c
  | 0 => ⟨fun _ c hc => absurd hc (Nat.not_lt_zero c), fun _ => rfl⟩
  | n + 1 => by
    have ih := sp_ct_0 (p := p) n
    have es : sp_ct p (n + 1) = sp_ct p n + (if p n then 1 else 0) := rfl
    rw [es]
    constructor
    · intro h c hc
      by_cases hp : p n
      · rw [if_pos hp] at h; omega
      · rw [if_neg hp] at h
        by_cases e : c = n
        · subst e; exact hp
        · exact ih.mp (by omega) c (by omega)
    · intro h
      rw [if_neg (h n (by omega)), ih.mpr (fun c hc => h c (by omega))]
theorem ltN_0 {w h : Nat} {a : Nat → Int32} {kn : Nat} : ltN w h a kn = 0 ↔ nLet w h a kn = 0 := by
  unfold ltN nLet
  rw [sp_ct_0]
  constructor
  · intro z c hc hl
    have := bN_dm (f := fun s => letB w h a s kn) (n := cnt a 3) (s := c) |>.mpr ⟨hc, hl⟩
    rw [z, Nat.zero_div] at this
    omega
  · intro z
    exact bN_no _ (fun c hc => by simpa using z c hc)
section LET
variable {w h : Nat} {a : Nat → Int32} {I : pvI} {J : pvJ} {P : pvP}
theorem kB.n3 (hb : kB w h a I J) : cnt a 3 ≤ 8 ∧ I 20 0 = nI (cnt a 3) := by
  obtain ⟨k3, k3b, -⟩ := mG_eq hb.2.2.2.2.1.1 (i := 3) (by decide)
  exact ⟨k3b, by rw [hb.2.1.2.2.2.1.1]; exact k3⟩
theorem kB.n0 (hb : kB w h a I J) : cnt a 0 ≤ 100 ∧ I 3 0 = nI (cnt a 0) := by
  obtain ⟨k3, k3b, -⟩ := mG_eq hb.2.2.2.2.1.1 (i := 0) (by decide)
  exact ⟨k3b, by rw [hb.2.1.1]; exact k3⟩
theorem c_isLet {s kn g : Nat} (hP : pvOkP P) (hb : kB w h a I J) (hse : seenT w h a g I J) (hg : min 99 (cnt a 0) ≤ g) (hs : s < cnt a 3) (hk : kn ≤ 100) : pvMet mX11_isLet 1 0 0 [.ref 1, .int (nI s), .int (nI kn)] 224 I J P (pvpu (.int (if letB w h a s kn = true then 1 else 0)) 224 I J P) := by
  have hi := hb.2.2.2.2
  have hwh := hb.1.wh
  obtain ⟨n3, -⟩ := hb.n3
  obtain ⟨k4, k4b, -⟩ := mG_eq hi.1.1 (i := 4) (by decide)
  have k4l : sp_lim 4 = 200 := rfl
  have r4 : I 20 3 = nI (cnt a 4) := by rw [hb.2.1.2.2.2.1.2.2.1]; exact k4
  obtain ⟨sn, sn1, hv⟩ := hse s hs
  have bs := fad_lt (show s < 8 by omega)
  obtain ⟨⟨s0, s1, s2, s3, s4, s5⟩, -⟩ := (fad_ok (show s < 9 by omega)).sh
  have p12 := ((fad_ok (show s < 9 by omega)).pp hP).2.2.1
  have lp : ∀ q r v6, r + q = cnt a 4 → (∀ j, j < r → badB w h a s kn j = false) → pvG mX11_isLet (pvR 1 0 0) (pvZ (pvpu (.int (if letB w h a s kn = true then 1 else 0)) 224 I J P) 0 0) 19 [.ref 1, .int (nI s), .int (nI kn), .ref 20, .ref (fad s), .int (nI r), v6] [] 0 0 224 I J P := by
    intro q
    induction q with
    | zero =>
      intro r v6 hr hall
      obtain rfl : r = cnt a 4 := by omega
      have hl : letB w h a s kn = true := by
        unfold letB
        rw [Bool.not_eq_true']
        apply Bool.eq_false_iff.mpr
        intro z
        obtain ⟨j, j1, j2⟩ := anyB_iff.mp z
        rw [hall j j1] at j2
        cases j2
      rw [if_pos hl]
      refine g_iload dX11_isLet_19 rfl ?_
      refine g_aload_n dX11_isLet_21 rfl ?_
      refine n_getI dX11_isLet_22 fdX11_255 rfl (by first | rfl | exact pv_shx) (by omega) (by omega) (by decide) rfl (by repeat (first | exact r4 | (apply rd_s; done) | apply rd_n (by omega) | apply rp_s | apply rp_n (by omega) | (apply rdL_s; done) | apply rdL_n (by omega) | apply rpJ_s | apply rpJ_n (by omega) | rfl)) ?_
      refine n_icmp_ge 92 dX11_isLet_25 (by decide) (by first | ((with_reducible apply cN_le) <;> omega) | ((with_reducible apply cI_len) <;> omega) | ((with_reducible apply cI_nle) <;> omega) | (with_reducible exact cI_le)) (fun c25 => ?_) (fun c25 => by exfalso; first | omega | exact absurd trivial c25 | exact c25 | (simp at c25))
      refine g_iconst (v := nI 1) dX11_isLet_92 (by decide) ?_
      exact g_zret (by first | exact Or.inl rfl | exact Or.inr rfl | exact cB01 _) dX11_isLet_93 rfl (⟨rfl, rfl, rfl, rfl, rfl⟩)
    | succ q ih =>
      intro r v6 hr hall
      obtain ⟨m1, m2, m3, m4⟩ := hb.2.1.2.2.2.1.2.2.2 r (by omega)
      obtain ⟨⟨c, c1, c2⟩, ⟨m, x1, x2⟩, ⟨bd, y1, y2⟩, ⟨td, z1, z2⟩⟩ := hi.2.1 r (by omega)
      have hrw := hi.2.2.2.2.2.2.2 r (by omega)
      rw [c2] at m1
      rw [x2] at m2
      rw [y2] at m3
      rw [z2] at m4
      rw [cnt_of x2 (by omega)] at hrw
      have hfw := (hv.2.2.1 m (by omega)).1
      have ebad : badB w h a s kn r = decide (td ≤ kn ∧ (if (fwk w h a 0 none s m).1 c = 1 then 1 else 0) ≠ bd) := by
        unfold badB
        rw [cnt_of z2 (by omega), cnt_of x2 (by omega), cnt_of c2 (by omega), cnt_of y2 (by omega)]
      have hh := t_hasM (nx := 224) (k := c) (f := mB (fwk w h a 0 none s m)) (I := I) (J := J) (P := P) (by omega)
      have nx : ∀ v6, badB w h a s kn r = false → pvG mX11_isLet (pvR 1 0 0) (pvZ (pvpu (.int (if letB w h a s kn = true then 1 else 0)) 224 I J P) 0 0) 19 [.ref 1, .int (nI s), .int (nI kn), .ref 20, .ref (fad s), .int (nI (r + 1)), v6] [] 0 0 224 I J P := fun v6 hz => ih (r + 1) v6 (by omega) (fun j hj => by
        by_cases e : j = r
        · subst e; exact hz
        · exact hall j (by omega))
      have no : badB w h a s kn r = true → ¬ letB w h a s kn = true := fun hz hl => by
        unfold letB at hl
        rw [Bool.not_eq_true'] at hl
        have : anyB (badB w h a s kn) (cnt a 4) = true := anyB_iff.mpr ⟨r, by omega, hz⟩
        rw [hl] at this
        cases this
      by_cases htd : td ≤ kn
      · by_cases hf : (fwk w h a 0 none s m).1 c = 1
        · have hf2 : mB (fwk w h a 0 none s m) c = true := decide_eq_true hf
          rw [hf2] at hh
          rw [if_pos hf] at ebad
          by_cases hbd : bd = 1
          · have n2 := fun v6 => nx v6 (by rw [ebad]; simp; omega)
            refine g_iload dX11_isLet_19 rfl ?_
            refine g_aload_n dX11_isLet_21 rfl ?_
            refine n_getI dX11_isLet_22 fdX11_255 rfl (by first | rfl | exact pv_shx) (by omega) (by omega) (by decide) rfl (by repeat (first | exact r4 | exact m1 | exact m2 | exact m3 | exact m4 | exact hfw | (apply rd_s; done) | apply rd_n (by omega) | apply rp_s | apply rp_n (by omega) | (apply rdL_s; done) | apply rdL_n (by omega) | apply rpJ_s | apply rpJ_n (by omega) | rfl)) ?_
            refine n_icmp_ge 92 dX11_isLet_25 (by decide) (by first | ((with_reducible apply cN_le) <;> omega) | ((with_reducible apply cI_len) <;> omega) | ((with_reducible apply cI_nle) <;> omega) | (with_reducible exact cI_le)) (fun c25 => by exfalso; first | omega | exact absurd trivial c25 | exact c25 | (simp at c25)) (fun c25 => ?_)
            refine g_aload_n dX11_isLet_28 rfl ?_
            refine g_getP dX11_isLet_29 fdX11_446 rfl (by first | rfl | exact pv_shx) (by omega) (by omega) (by decide) rfl (hP _ _ _ rfl) ?_
            refine g_iload dX11_isLet_32 rfl ?_
            refine n_iald dX11_isLet_34 (by first | rfl | exact pv_shx) (by omega) (by omega) (by decide) (rfl) (by omega) (by repeat (first | exact r4 | exact m1 | exact m2 | exact m3 | exact m4 | exact hfw | (apply rd_s; done) | apply rd_n (by omega) | apply rp_s | apply rp_n (by omega) | (apply rdL_s; done) | apply rdL_n (by omega) | apply rpJ_s | apply rpJ_n (by omega) | rfl)) ?_
            refine g_iload_n dX11_isLet_35 rfl ?_
            refine n_icmp_gt 86 dX11_isLet_36 (by decide) (by first | ((with_reducible apply cN_lt) <;> omega) | ((with_reducible apply cI_ltn) <;> omega) | ((with_reducible apply cI_nlt) <;> omega) | (with_reducible exact cI_lt)) (fun c36 => by exfalso; first | omega | exact absurd trivial c36 | exact c36 | (simp at c36)) (fun c36 => ?_)
            refine g_aload dX11_isLet_39 rfl ?_
            refine g_getP dX11_isLet_41 fdX11_212 rfl (s0) (by omega) (by omega) (by decide) rfl (p12) ?_
            refine g_aload_n dX11_isLet_44 rfl ?_
            refine g_getP dX11_isLet_45 fdX11_449 rfl (by first | rfl | exact pv_shx) (by omega) (by omega) (by decide) rfl (hP _ _ _ rfl) ?_
            refine g_iload dX11_isLet_48 rfl ?_
            refine n_iald dX11_isLet_50 (by first | rfl | exact pv_shx) (by omega) (by omega) (by decide) (rfl) (by omega) (by repeat (first | exact r4 | exact m1 | exact m2 | exact m3 | exact m4 | exact hfw | (apply rd_s; done) | apply rd_n (by omega) | apply rp_s | apply rp_n (by omega) | (apply rdL_s; done) | apply rdL_n (by omega) | apply rpJ_s | apply rpJ_n (by omega) | rfl)) ?_
            refine n_lald dX11_isLet_51 (s3) (by omega) (by omega) (by decide) (rfl) (by omega) (by repeat (first | exact r4 | exact m1 | exact m2 | exact m3 | exact m4 | exact hfw | (apply rd_s; done) | apply rd_n (by omega) | apply rp_s | apply rp_n (by omega) | (apply rdL_s; done) | apply rdL_n (by omega) | apply rpJ_s | apply rpJ_n (by omega) | rfl)) ?_
            refine g_aload_n dX11_isLet_52 rfl ?_
            refine g_getP dX11_isLet_53 fdX11_452 rfl (by first | rfl | exact pv_shx) (by omega) (by omega) (by decide) rfl (hP _ _ _ rfl) ?_
            refine g_iload dX11_isLet_56 rfl ?_
            refine n_iald dX11_isLet_58 (by first | rfl | exact pv_shx) (by omega) (by omega) (by decide) (rfl) (by omega) (by repeat (first | exact r4 | exact m1 | exact m2 | exact m3 | exact m4 | exact hfw | (apply rd_s; done) | apply rd_n (by omega) | apply rp_s | apply rp_n (by omega) | (apply rdL_s; done) | apply rdL_n (by omega) | apply rpJ_s | apply rpJ_n (by omega) | rfl)) ?_
            refine p_callS (hh) okX11_has lkX11_209 rfl dX11_isLet_59 rfl (Nat.le_of_ble_eq_true rfl) (⟨by decide, by decide, by decide, by decide⟩) ?_
            refine g_istore dX11_isLet_62 (by decide) rfl ?_
            refine g_iload dX11_isLet_64 rfl ?_
            refine g_aload_n dX11_isLet_66 rfl ?_
            refine g_getP dX11_isLet_67 fdX11_455 rfl (by first | rfl | exact pv_shx) (by omega) (by omega) (by decide) rfl (hP _ _ _ rfl) ?_
            refine g_iload dX11_isLet_70 rfl ?_
            refine n_iald dX11_isLet_72 (by first | rfl | exact pv_shx) (by omega) (by omega) (by decide) (rfl) (by omega) (by repeat (first | exact r4 | exact m1 | exact m2 | exact m3 | exact m4 | exact hfw | (apply rd_s; done) | apply rd_n (by omega) | apply rp_s | apply rp_n (by omega) | (apply rdL_s; done) | apply rdL_n (by omega) | apply rpJ_s | apply rpJ_n (by omega) | rfl)) ?_
            refine n_if_eq 80 dX11_isLet_73 (by decide) (by first | (with_reducible exact cB _) | ((with_reducible apply cN_eq0) <;> omega) | exact Iff.rfl) (fun c73 => by exfalso; first | omega | exact absurd trivial c73 | exact c73 | (simp at c73)) (fun c73 => ?_)
            refine g_iconst (v := nI 1) dX11_isLet_76 (by decide) ?_
            refine g_goto 81 dX11_isLet_77 (by decide) ?_
            refine n_icmp_eq 86 dX11_isLet_81 (by decide) ((Iff.rfl : (if true = true then (1 : Int32) else 0) = nI 1 ↔ (1 : Int32) = nI 1)) (fun c81 => ?_) (fun c81 => by exfalso; exact c81 rfl)
            refine g_iinc dX11_isLet_86 rfl (by first | (with_reducible exact nI_1 _) | exact nI_1 _ | exact pk_m1 _ | rfl) (by decide) rfl ?_
            refine g_goto 19 dX11_isLet_89 (by decide) ?_
            exact n2 _
          · have hl := no (by rw [ebad]; simp; omega)
            rw [if_neg hl]
            have hbd0 : bd = 0 := by omega
            subst hbd0
            refine g_iload dX11_isLet_19 rfl ?_
            refine g_aload_n dX11_isLet_21 rfl ?_
            refine n_getI dX11_isLet_22 fdX11_255 rfl (by first | rfl | exact pv_shx) (by omega) (by omega) (by decide) rfl (by repeat (first | exact r4 | exact m1 | exact m2 | exact m3 | exact m4 | exact hfw | (apply rd_s; done) | apply rd_n (by omega) | apply rp_s | apply rp_n (by omega) | (apply rdL_s; done) | apply rdL_n (by omega) | apply rpJ_s | apply rpJ_n (by omega) | rfl)) ?_
            refine n_icmp_ge 92 dX11_isLet_25 (by decide) (by first | ((with_reducible apply cN_le) <;> omega) | ((with_reducible apply cI_len) <;> omega) | ((with_reducible apply cI_nle) <;> omega) | (with_reducible exact cI_le)) (fun c25 => by exfalso; first | omega | exact absurd trivial c25 | exact c25 | (simp at c25)) (fun c25 => ?_)
            refine g_aload_n dX11_isLet_28 rfl ?_
            refine g_getP dX11_isLet_29 fdX11_446 rfl (by first | rfl | exact pv_shx) (by omega) (by omega) (by decide) rfl (hP _ _ _ rfl) ?_
            refine g_iload dX11_isLet_32 rfl ?_
            refine n_iald dX11_isLet_34 (by first | rfl | exact pv_shx) (by omega) (by omega) (by decide) (rfl) (by omega) (by repeat (first | exact r4 | exact m1 | exact m2 | exact m3 | exact m4 | exact hfw | (apply rd_s; done) | apply rd_n (by omega) | apply rp_s | apply rp_n (by omega) | (apply rdL_s; done) | apply rdL_n (by omega) | apply rpJ_s | apply rpJ_n (by omega) | rfl)) ?_
            refine g_iload_n dX11_isLet_35 rfl ?_
            refine n_icmp_gt 86 dX11_isLet_36 (by decide) (by first | ((with_reducible apply cN_lt) <;> omega) | ((with_reducible apply cI_ltn) <;> omega) | ((with_reducible apply cI_nlt) <;> omega) | (with_reducible exact cI_lt)) (fun c36 => by exfalso; first | omega | exact absurd trivial c36 | exact c36 | (simp at c36)) (fun c36 => ?_)
            refine g_aload dX11_isLet_39 rfl ?_
            refine g_getP dX11_isLet_41 fdX11_212 rfl (s0) (by omega) (by omega) (by decide) rfl (p12) ?_
            refine g_aload_n dX11_isLet_44 rfl ?_
            refine g_getP dX11_isLet_45 fdX11_449 rfl (by first | rfl | exact pv_shx) (by omega) (by omega) (by decide) rfl (hP _ _ _ rfl) ?_
            refine g_iload dX11_isLet_48 rfl ?_
            refine n_iald dX11_isLet_50 (by first | rfl | exact pv_shx) (by omega) (by omega) (by decide) (rfl) (by omega) (by repeat (first | exact r4 | exact m1 | exact m2 | exact m3 | exact m4 | exact hfw | (apply rd_s; done) | apply rd_n (by omega) | apply rp_s | apply rp_n (by omega) | (apply rdL_s; done) | apply rdL_n (by omega) | apply rpJ_s | apply rpJ_n (by omega) | rfl)) ?_
            refine n_lald dX11_isLet_51 (s3) (by omega) (by omega) (by decide) (rfl) (by omega) (by repeat (first | exact r4 | exact m1 | exact m2 | exact m3 | exact m4 | exact hfw | (apply rd_s; done) | apply rd_n (by omega) | apply rp_s | apply rp_n (by omega) | (apply rdL_s; done) | apply rdL_n (by omega) | apply rpJ_s | apply rpJ_n (by omega) | rfl)) ?_
            refine g_aload_n dX11_isLet_52 rfl ?_
            refine g_getP dX11_isLet_53 fdX11_452 rfl (by first | rfl | exact pv_shx) (by omega) (by omega) (by decide) rfl (hP _ _ _ rfl) ?_
            refine g_iload dX11_isLet_56 rfl ?_
            refine n_iald dX11_isLet_58 (by first | rfl | exact pv_shx) (by omega) (by omega) (by decide) (rfl) (by omega) (by repeat (first | exact r4 | exact m1 | exact m2 | exact m3 | exact m4 | exact hfw | (apply rd_s; done) | apply rd_n (by omega) | apply rp_s | apply rp_n (by omega) | (apply rdL_s; done) | apply rdL_n (by omega) | apply rpJ_s | apply rpJ_n (by omega) | rfl)) ?_
            refine p_callS (hh) okX11_has lkX11_209 rfl dX11_isLet_59 rfl (Nat.le_of_ble_eq_true rfl) (⟨by decide, by decide, by decide, by decide⟩) ?_
            refine g_istore dX11_isLet_62 (by decide) rfl ?_
            refine g_iload dX11_isLet_64 rfl ?_
            refine g_aload_n dX11_isLet_66 rfl ?_
            refine g_getP dX11_isLet_67 fdX11_455 rfl (by first | rfl | exact pv_shx) (by omega) (by omega) (by decide) rfl (hP _ _ _ rfl) ?_
            refine g_iload dX11_isLet_70 rfl ?_
            refine n_iald dX11_isLet_72 (by first | rfl | exact pv_shx) (by omega) (by omega) (by decide) (rfl) (by omega) (by repeat (first | exact r4 | exact m1 | exact m2 | exact m3 | exact m4 | exact hfw | (apply rd_s; done) | apply rd_n (by omega) | apply rp_s | apply rp_n (by omega) | (apply rdL_s; done) | apply rdL_n (by omega) | apply rpJ_s | apply rpJ_n (by omega) | rfl)) ?_
            refine n_if_eq 80 dX11_isLet_73 (by decide) (by first | (with_reducible exact cB _) | ((with_reducible apply cN_eq0) <;> omega) | exact Iff.rfl) (fun c73 => ?_) (fun c73 => by exfalso; first | omega | exact absurd trivial c73 | exact c73 | (simp at c73))
            refine g_iconst (v := nI 0) dX11_isLet_80 (by decide) ?_
            refine n_icmp_eq 86 dX11_isLet_81 (by decide) ((Iff.rfl : (if true = true then (1 : Int32) else 0) = nI 0 ↔ (1 : Int32) = nI 0)) (fun c81 => by exfalso; exact absurd c81 (by decide)) (fun c81 => ?_)
            refine g_iconst (v := nI 0) dX11_isLet_84 (by decide) ?_
            exact g_zret (by first | exact Or.inl rfl | exact Or.inr rfl | exact cB01 _) dX11_isLet_85 rfl (⟨rfl, rfl, rfl, rfl, rfl⟩)
        · have hf2 : mB (fwk w h a 0 none s m) c = false := decide_eq_false hf
          rw [hf2] at hh
          rw [if_neg hf] at ebad
          by_cases hbd : bd = 1
          · have hl := no (by rw [ebad]; simp; omega)
            rw [if_neg hl]
            refine g_iload dX11_isLet_19 rfl ?_
            refine g_aload_n dX11_isLet_21 rfl ?_
            refine n_getI dX11_isLet_22 fdX11_255 rfl (by first | rfl | exact pv_shx) (by omega) (by omega) (by decide) rfl (by repeat (first | exact r4 | exact m1 | exact m2 | exact m3 | exact m4 | exact hfw | (apply rd_s; done) | apply rd_n (by omega) | apply rp_s | apply rp_n (by omega) | (apply rdL_s; done) | apply rdL_n (by omega) | apply rpJ_s | apply rpJ_n (by omega) | rfl)) ?_
            refine n_icmp_ge 92 dX11_isLet_25 (by decide) (by first | ((with_reducible apply cN_le) <;> omega) | ((with_reducible apply cI_len) <;> omega) | ((with_reducible apply cI_nle) <;> omega) | (with_reducible exact cI_le)) (fun c25 => by exfalso; first | omega | exact absurd trivial c25 | exact c25 | (simp at c25)) (fun c25 => ?_)
            refine g_aload_n dX11_isLet_28 rfl ?_
            refine g_getP dX11_isLet_29 fdX11_446 rfl (by first | rfl | exact pv_shx) (by omega) (by omega) (by decide) rfl (hP _ _ _ rfl) ?_
            refine g_iload dX11_isLet_32 rfl ?_
            refine n_iald dX11_isLet_34 (by first | rfl | exact pv_shx) (by omega) (by omega) (by decide) (rfl) (by omega) (by repeat (first | exact r4 | exact m1 | exact m2 | exact m3 | exact m4 | exact hfw | (apply rd_s; done) | apply rd_n (by omega) | apply rp_s | apply rp_n (by omega) | (apply rdL_s; done) | apply rdL_n (by omega) | apply rpJ_s | apply rpJ_n (by omega) | rfl)) ?_
            refine g_iload_n dX11_isLet_35 rfl ?_
            refine n_icmp_gt 86 dX11_isLet_36 (by decide) (by first | ((with_reducible apply cN_lt) <;> omega) | ((with_reducible apply cI_ltn) <;> omega) | ((with_reducible apply cI_nlt) <;> omega) | (with_reducible exact cI_lt)) (fun c36 => by exfalso; first | omega | exact absurd trivial c36 | exact c36 | (simp at c36)) (fun c36 => ?_)
            refine g_aload dX11_isLet_39 rfl ?_
            refine g_getP dX11_isLet_41 fdX11_212 rfl (s0) (by omega) (by omega) (by decide) rfl (p12) ?_
            refine g_aload_n dX11_isLet_44 rfl ?_
            refine g_getP dX11_isLet_45 fdX11_449 rfl (by first | rfl | exact pv_shx) (by omega) (by omega) (by decide) rfl (hP _ _ _ rfl) ?_
            refine g_iload dX11_isLet_48 rfl ?_
            refine n_iald dX11_isLet_50 (by first | rfl | exact pv_shx) (by omega) (by omega) (by decide) (rfl) (by omega) (by repeat (first | exact r4 | exact m1 | exact m2 | exact m3 | exact m4 | exact hfw | (apply rd_s; done) | apply rd_n (by omega) | apply rp_s | apply rp_n (by omega) | (apply rdL_s; done) | apply rdL_n (by omega) | apply rpJ_s | apply rpJ_n (by omega) | rfl)) ?_
            refine n_lald dX11_isLet_51 (s3) (by omega) (by omega) (by decide) (rfl) (by omega) (by repeat (first | exact r4 | exact m1 | exact m2 | exact m3 | exact m4 | exact hfw | (apply rd_s; done) | apply rd_n (by omega) | apply rp_s | apply rp_n (by omega) | (apply rdL_s; done) | apply rdL_n (by omega) | apply rpJ_s | apply rpJ_n (by omega) | rfl)) ?_
            refine g_aload_n dX11_isLet_52 rfl ?_
            refine g_getP dX11_isLet_53 fdX11_452 rfl (by first | rfl | exact pv_shx) (by omega) (by omega) (by decide) rfl (hP _ _ _ rfl) ?_
            refine g_iload dX11_isLet_56 rfl ?_
            refine n_iald dX11_isLet_58 (by first | rfl | exact pv_shx) (by omega) (by omega) (by decide) (rfl) (by omega) (by repeat (first | exact r4 | exact m1 | exact m2 | exact m3 | exact m4 | exact hfw | (apply rd_s; done) | apply rd_n (by omega) | apply rp_s | apply rp_n (by omega) | (apply rdL_s; done) | apply rdL_n (by omega) | apply rpJ_s | apply rpJ_n (by omega) | rfl)) ?_
            refine p_callS (hh) okX11_has lkX11_209 rfl dX11_isLet_59 rfl (Nat.le_of_ble_eq_true rfl) (⟨by decide, by decide, by decide, by decide⟩) ?_
            refine g_istore dX11_isLet_62 (by decide) rfl ?_
            refine g_iload dX11_isLet_64 rfl ?_
            refine g_aload_n dX11_isLet_66 rfl ?_
            refine g_getP dX11_isLet_67 fdX11_455 rfl (by first | rfl | exact pv_shx) (by omega) (by omega) (by decide) rfl (hP _ _ _ rfl) ?_
            refine g_iload dX11_isLet_70 rfl ?_
            refine n_iald dX11_isLet_72 (by first | rfl | exact pv_shx) (by omega) (by omega) (by decide) (rfl) (by omega) (by repeat (first | exact r4 | exact m1 | exact m2 | exact m3 | exact m4 | exact hfw | (apply rd_s; done) | apply rd_n (by omega) | apply rp_s | apply rp_n (by omega) | (apply rdL_s; done) | apply rdL_n (by omega) | apply rpJ_s | apply rpJ_n (by omega) | rfl)) ?_
            refine n_if_eq 80 dX11_isLet_73 (by decide) (by first | (with_reducible exact cB _) | ((with_reducible apply cN_eq0) <;> omega) | exact Iff.rfl) (fun c73 => by exfalso; first | omega | exact absurd trivial c73 | exact c73 | (simp at c73)) (fun c73 => ?_)
            refine g_iconst (v := nI 1) dX11_isLet_76 (by decide) ?_
            refine g_goto 81 dX11_isLet_77 (by decide) ?_
            refine n_icmp_eq 86 dX11_isLet_81 (by decide) ((Iff.rfl : (if false = true then (1 : Int32) else 0) = nI 1 ↔ (0 : Int32) = nI 1)) (fun c81 => by exfalso; exact absurd c81 (by decide)) (fun c81 => ?_)
            refine g_iconst (v := nI 0) dX11_isLet_84 (by decide) ?_
            exact g_zret (by first | exact Or.inl rfl | exact Or.inr rfl | exact cB01 _) dX11_isLet_85 rfl (⟨rfl, rfl, rfl, rfl, rfl⟩)
          · have n2 := fun v6 => nx v6 (by rw [ebad]; simp; omega)
            have hbd0 : bd = 0 := by omega
            subst hbd0
            refine g_iload dX11_isLet_19 rfl ?_
            refine g_aload_n dX11_isLet_21 rfl ?_
            refine n_getI dX11_isLet_22 fdX11_255 rfl (by first | rfl | exact pv_shx) (by omega) (by omega) (by decide) rfl (by repeat (first | exact r4 | exact m1 | exact m2 | exact m3 | exact m4 | exact hfw | (apply rd_s; done) | apply rd_n (by omega) | apply rp_s | apply rp_n (by omega) | (apply rdL_s; done) | apply rdL_n (by omega) | apply rpJ_s | apply rpJ_n (by omega) | rfl)) ?_
            refine n_icmp_ge 92 dX11_isLet_25 (by decide) (by first | ((with_reducible apply cN_le) <;> omega) | ((with_reducible apply cI_len) <;> omega) | ((with_reducible apply cI_nle) <;> omega) | (with_reducible exact cI_le)) (fun c25 => by exfalso; first | omega | exact absurd trivial c25 | exact c25 | (simp at c25)) (fun c25 => ?_)
            refine g_aload_n dX11_isLet_28 rfl ?_
            refine g_getP dX11_isLet_29 fdX11_446 rfl (by first | rfl | exact pv_shx) (by omega) (by omega) (by decide) rfl (hP _ _ _ rfl) ?_
            refine g_iload dX11_isLet_32 rfl ?_
            refine n_iald dX11_isLet_34 (by first | rfl | exact pv_shx) (by omega) (by omega) (by decide) (rfl) (by omega) (by repeat (first | exact r4 | exact m1 | exact m2 | exact m3 | exact m4 | exact hfw | (apply rd_s; done) | apply rd_n (by omega) | apply rp_s | apply rp_n (by omega) | (apply rdL_s; done) | apply rdL_n (by omega) | apply rpJ_s | apply rpJ_n (by omega) | rfl)) ?_
            refine g_iload_n dX11_isLet_35 rfl ?_
            refine n_icmp_gt 86 dX11_isLet_36 (by decide) (by first | ((with_reducible apply cN_lt) <;> omega) | ((with_reducible apply cI_ltn) <;> omega) | ((with_reducible apply cI_nlt) <;> omega) | (with_reducible exact cI_lt)) (fun c36 => by exfalso; first | omega | exact absurd trivial c36 | exact c36 | (simp at c36)) (fun c36 => ?_)
            refine g_aload dX11_isLet_39 rfl ?_
            refine g_getP dX11_isLet_41 fdX11_212 rfl (s0) (by omega) (by omega) (by decide) rfl (p12) ?_
            refine g_aload_n dX11_isLet_44 rfl ?_
            refine g_getP dX11_isLet_45 fdX11_449 rfl (by first | rfl | exact pv_shx) (by omega) (by omega) (by decide) rfl (hP _ _ _ rfl) ?_
            refine g_iload dX11_isLet_48 rfl ?_
            refine n_iald dX11_isLet_50 (by first | rfl | exact pv_shx) (by omega) (by omega) (by decide) (rfl) (by omega) (by repeat (first | exact r4 | exact m1 | exact m2 | exact m3 | exact m4 | exact hfw | (apply rd_s; done) | apply rd_n (by omega) | apply rp_s | apply rp_n (by omega) | (apply rdL_s; done) | apply rdL_n (by omega) | apply rpJ_s | apply rpJ_n (by omega) | rfl)) ?_
            refine n_lald dX11_isLet_51 (s3) (by omega) (by omega) (by decide) (rfl) (by omega) (by repeat (first | exact r4 | exact m1 | exact m2 | exact m3 | exact m4 | exact hfw | (apply rd_s; done) | apply rd_n (by omega) | apply rp_s | apply rp_n (by omega) | (apply rdL_s; done) | apply rdL_n (by omega) | apply rpJ_s | apply rpJ_n (by omega) | rfl)) ?_
            refine g_aload_n dX11_isLet_52 rfl ?_
            refine g_getP dX11_isLet_53 fdX11_452 rfl (by first | rfl | exact pv_shx) (by omega) (by omega) (by decide) rfl (hP _ _ _ rfl) ?_
            refine g_iload dX11_isLet_56 rfl ?_
            refine n_iald dX11_isLet_58 (by first | rfl | exact pv_shx) (by omega) (by omega) (by decide) (rfl) (by omega) (by repeat (first | exact r4 | exact m1 | exact m2 | exact m3 | exact m4 | exact hfw | (apply rd_s; done) | apply rd_n (by omega) | apply rp_s | apply rp_n (by omega) | (apply rdL_s; done) | apply rdL_n (by omega) | apply rpJ_s | apply rpJ_n (by omega) | rfl)) ?_
            refine p_callS (hh) okX11_has lkX11_209 rfl dX11_isLet_59 rfl (Nat.le_of_ble_eq_true rfl) (⟨by decide, by decide, by decide, by decide⟩) ?_
            refine g_istore dX11_isLet_62 (by decide) rfl ?_
            refine g_iload dX11_isLet_64 rfl ?_
            refine g_aload_n dX11_isLet_66 rfl ?_
            refine g_getP dX11_isLet_67 fdX11_455 rfl (by first | rfl | exact pv_shx) (by omega) (by omega) (by decide) rfl (hP _ _ _ rfl) ?_
            refine g_iload dX11_isLet_70 rfl ?_
            refine n_iald dX11_isLet_72 (by first | rfl | exact pv_shx) (by omega) (by omega) (by decide) (rfl) (by omega) (by repeat (first | exact r4 | exact m1 | exact m2 | exact m3 | exact m4 | exact hfw | (apply rd_s; done) | apply rd_n (by omega) | apply rp_s | apply rp_n (by omega) | (apply rdL_s; done) | apply rdL_n (by omega) | apply rpJ_s | apply rpJ_n (by omega) | rfl)) ?_
            refine n_if_eq 80 dX11_isLet_73 (by decide) (by first | (with_reducible exact cB _) | ((with_reducible apply cN_eq0) <;> omega) | exact Iff.rfl) (fun c73 => ?_) (fun c73 => by exfalso; first | omega | exact absurd trivial c73 | exact c73 | (simp at c73))
            refine g_iconst (v := nI 0) dX11_isLet_80 (by decide) ?_
            refine n_icmp_eq 86 dX11_isLet_81 (by decide) ((Iff.rfl : (if false = true then (1 : Int32) else 0) = nI 0 ↔ (0 : Int32) = nI 0)) (fun c81 => ?_) (fun c81 => by exfalso; exact c81 rfl)
            refine g_iinc dX11_isLet_86 rfl (by first | (with_reducible exact nI_1 _) | exact nI_1 _ | exact pk_m1 _ | rfl) (by decide) rfl ?_
            refine g_goto 19 dX11_isLet_89 (by decide) ?_
            exact n2 _
      · have n2 := fun v6 => nx v6 (by rw [ebad]; simp; omega)
        refine g_iload dX11_isLet_19 rfl ?_
        refine g_aload_n dX11_isLet_21 rfl ?_
        refine n_getI dX11_isLet_22 fdX11_255 rfl (by first | rfl | exact pv_shx) (by omega) (by omega) (by decide) rfl (by repeat (first | exact r4 | exact m4 | (apply rd_s; done) | apply rd_n (by omega) | apply rp_s | apply rp_n (by omega) | (apply rdL_s; done) | apply rdL_n (by omega) | apply rpJ_s | apply rpJ_n (by omega) | rfl)) ?_
        refine n_icmp_ge 92 dX11_isLet_25 (by decide) (by first | ((with_reducible apply cN_le) <;> omega) | ((with_reducible apply cI_len) <;> omega) | ((with_reducible apply cI_nle) <;> omega) | (with_reducible exact cI_le)) (fun c25 => by exfalso; first | omega | exact absurd trivial c25 | exact c25 | (simp at c25)) (fun c25 => ?_)
        refine g_aload_n dX11_isLet_28 rfl ?_
        refine g_getP dX11_isLet_29 fdX11_446 rfl (by first | rfl | exact pv_shx) (by omega) (by omega) (by decide) rfl (hP _ _ _ rfl) ?_
        refine g_iload dX11_isLet_32 rfl ?_
        refine n_iald dX11_isLet_34 (by first | rfl | exact pv_shx) (by omega) (by omega) (by decide) (rfl) (by omega) (by repeat (first | exact r4 | exact m4 | (apply rd_s; done) | apply rd_n (by omega) | apply rp_s | apply rp_n (by omega) | (apply rdL_s; done) | apply rdL_n (by omega) | apply rpJ_s | apply rpJ_n (by omega) | rfl)) ?_
        refine g_iload_n dX11_isLet_35 rfl ?_
        refine n_icmp_gt 86 dX11_isLet_36 (by decide) (by first | ((with_reducible apply cN_lt) <;> omega) | ((with_reducible apply cI_ltn) <;> omega) | ((with_reducible apply cI_nlt) <;> omega) | (with_reducible exact cI_lt)) (fun c36 => ?_) (fun c36 => by exfalso; first | omega | exact absurd trivial c36 | exact c36 | (simp at c36))
        refine g_iinc dX11_isLet_86 rfl (by first | (with_reducible exact nI_1 _) | exact nI_1 _ | exact pk_m1 _ | rfl) (by decide) rfl ?_
        refine g_goto 19 dX11_isLet_89 (by decide) ?_
        exact n2 _
  refine pvMet.of _ (by decide) rfl (Nat.le_of_ble_eq_true rfl) ?_
  refine g_aload_n dX11_isLet_0 rfl ?_
  refine g_getP dX11_isLet_1 fdX11_32 rfl (by first | rfl | exact pv_shx) (by omega) (by omega) (by decide) rfl (hP _ _ _ rfl) ?_
  refine g_getP dX11_isLet_4 fdX11_163 rfl (by first | rfl | exact pv_shx) (by omega) (by omega) (by decide) rfl (hP _ _ _ rfl) ?_
  refine g_astore_n dX11_isLet_7 (by decide) rfl ?_
  refine g_aload_n dX11_isLet_8 rfl ?_
  refine g_getP dX11_isLet_9 fdX11_41 rfl (by first | rfl | exact pv_shx) (by omega) (by omega) (by decide) rfl (hP _ _ _ rfl) ?_
  refine g_iload_n dX11_isLet_12 rfl ?_
  refine g_aald _ dX11_isLet_13 (by first | exact Or.inl rfl | exact Or.inr rfl) (by omega) (by omega) (by decide) (rfl) (by omega) (fires_P hP (by omega)) ?_
  refine g_astore dX11_isLet_14 (by decide) rfl ?_
  refine g_iconst (v := nI 0) dX11_isLet_16 (by decide) ?_
  refine g_istore dX11_isLet_17 (by decide) rfl ?_
  exact lp (cnt a 4) 0 _ (by omega) (fun j hj => absurd hj (Nat.not_lt_zero j))
theorem c_letAsKnown {kn g : Nat} (hP : pvOkP P) (hb : kB w h a I J) (hse : seenT w h a g I J) (hg : min 99 (cnt a 0) ≤ g) (hk : kn ≤ 100) : pvMet mX11_letAsKnown 2 0 0 [.ref 1, .int (nI kn)] 224 I J P (pvpu (.int (nI (ltN w h a kn))) 224 I J P) := by
  obtain ⟨n3, r3⟩ := hb.n3
  have lp : ∀ q s, s + q = cnt a 3 → pvG mX11_letAsKnown (pvR 2 0 0) (pvZ (pvpu (.int (nI (ltN w h a kn))) 224 I J P) 0 0) 4 [.ref 1, .int (nI kn), .int (nI (bN (fun s => letB w h a s kn) s)), .int (nI s)] [] 0 0 224 I J P := by
    intro q
    induction q with
    | zero =>
      intro s hs
      obtain rfl : s = cnt a 3 := by omega
      refine g_iload_n dX11_letAsKnown_4 rfl ?_
      refine g_aload_n dX11_letAsKnown_5 rfl ?_
      refine g_getP dX11_letAsKnown_6 fdX11_32 rfl (by first | rfl | exact pv_shx) (by omega) (by omega) (by decide) rfl (hP _ _ _ rfl) ?_
      refine g_getP dX11_letAsKnown_9 fdX11_163 rfl (by first | rfl | exact pv_shx) (by omega) (by omega) (by decide) rfl (hP _ _ _ rfl) ?_
      refine n_getI dX11_letAsKnown_12 fdX11_167 rfl (by first | rfl | exact pv_shx) (by omega) (by omega) (by decide) rfl (by repeat (first | exact r3 | (apply rd_s; done) | apply rd_n (by omega) | apply rp_s | apply rp_n (by omega) | (apply rdL_s; done) | apply rdL_n (by omega) | apply rpJ_s | apply rpJ_n (by omega) | rfl)) ?_
      refine n_icmp_ge 39 dX11_letAsKnown_15 (by decide) (by first | ((with_reducible apply cN_le) <;> omega) | ((with_reducible apply cI_len) <;> omega) | ((with_reducible apply cI_nle) <;> omega) | (with_reducible exact cI_le)) (fun c15 => ?_) (fun c15 => by exfalso; first | omega | exact absurd trivial c15 | exact c15 | (simp at c15))
      refine g_iload_n dX11_letAsKnown_39 rfl ?_
      exact g_iret dX11_letAsKnown_40 rfl (⟨rfl, rfl, rfl, rfl, rfl⟩)
    | succ q ih =>
      intro s hs
      have nx := ih (s + 1) (by omega)
      have il := c_isLet (kn := kn) hP hb hse hg (s := s) (by omega) hk
      rw [bN_s] at nx
      by_cases hl : letB w h a s kn = true
      · rw [hl] at il
        rw [if_pos hl, ← bN_or] at nx
        refine g_iload_n dX11_letAsKnown_4 rfl ?_
        refine g_aload_n dX11_letAsKnown_5 rfl ?_
        refine g_getP dX11_letAsKnown_6 fdX11_32 rfl (by first | rfl | exact pv_shx) (by omega) (by omega) (by decide) rfl (hP _ _ _ rfl) ?_
        refine g_getP dX11_letAsKnown_9 fdX11_163 rfl (by first | rfl | exact pv_shx) (by omega) (by omega) (by decide) rfl (hP _ _ _ rfl) ?_
        refine n_getI dX11_letAsKnown_12 fdX11_167 rfl (by first | rfl | exact pv_shx) (by omega) (by omega) (by decide) rfl (by repeat (first | exact r3 | (apply rd_s; done) | apply rd_n (by omega) | apply rp_s | apply rp_n (by omega) | (apply rdL_s; done) | apply rdL_n (by omega) | apply rpJ_s | apply rpJ_n (by omega) | rfl)) ?_
        refine n_icmp_ge 39 dX11_letAsKnown_15 (by decide) (by first | ((with_reducible apply cN_le) <;> omega) | ((with_reducible apply cI_len) <;> omega) | ((with_reducible apply cI_nle) <;> omega) | (with_reducible exact cI_le)) (fun c15 => by exfalso; first | omega | exact absurd trivial c15 | exact c15 | (simp at c15)) (fun c15 => ?_)
        refine g_aload_n dX11_letAsKnown_18 rfl ?_
        refine g_iload_n dX11_letAsKnown_19 rfl ?_
        refine g_iload_n dX11_letAsKnown_20 rfl ?_
        refine p_callV (il) okX11_isLet lkX11_265 rfl (by first | rfl | exact pv_shx) rfl (by omega) (by omega) dX11_letAsKnown_21 rfl (Nat.le_of_ble_eq_true rfl) (⟨by decide, by decide, by decide, by decide⟩) ?_
        refine n_if_eq 33 dX11_letAsKnown_24 (by decide) (by first | (with_reducible exact cB _) | ((with_reducible apply cN_eq0) <;> omega) | exact Iff.rfl) (fun c24 => by exfalso; first | omega | exact absurd trivial c24 | exact c24 | (simp at c24)) (fun c24 => ?_)
        refine g_iload_n dX11_letAsKnown_27 rfl ?_
        refine g_iconst (v := nI 1) dX11_letAsKnown_28 (by decide) ?_
        refine g_iload_n dX11_letAsKnown_29 rfl ?_
        refine n_ishl dX11_letAsKnown_30 (nI_shl1 (by omega)) ?_
        refine n_ior dX11_letAsKnown_31 (nI_or _ _) ?_
        refine g_istore_n dX11_letAsKnown_32 (by decide) rfl ?_
        refine g_iinc dX11_letAsKnown_33 rfl (by first | (with_reducible exact nI_1 _) | exact nI_1 _ | exact pk_m1 _ | rfl) (by decide) rfl ?_
        refine g_goto 4 dX11_letAsKnown_36 (by decide) ?_
        exact nx
      · have hl' : letB w h a s kn = false := by simpa using hl
        rw [hl'] at il
        rw [if_neg hl, Nat.add_zero] at nx
        refine g_iload_n dX11_letAsKnown_4 rfl ?_
        refine g_aload_n dX11_letAsKnown_5 rfl ?_
        refine g_getP dX11_letAsKnown_6 fdX11_32 rfl (by first | rfl | exact pv_shx) (by omega) (by omega) (by decide) rfl (hP _ _ _ rfl) ?_
        refine g_getP dX11_letAsKnown_9 fdX11_163 rfl (by first | rfl | exact pv_shx) (by omega) (by omega) (by decide) rfl (hP _ _ _ rfl) ?_
        refine n_getI dX11_letAsKnown_12 fdX11_167 rfl (by first | rfl | exact pv_shx) (by omega) (by omega) (by decide) rfl (by repeat (first | exact r3 | (apply rd_s; done) | apply rd_n (by omega) | apply rp_s | apply rp_n (by omega) | (apply rdL_s; done) | apply rdL_n (by omega) | apply rpJ_s | apply rpJ_n (by omega) | rfl)) ?_
        refine n_icmp_ge 39 dX11_letAsKnown_15 (by decide) (by first | ((with_reducible apply cN_le) <;> omega) | ((with_reducible apply cI_len) <;> omega) | ((with_reducible apply cI_nle) <;> omega) | (with_reducible exact cI_le)) (fun c15 => by exfalso; first | omega | exact absurd trivial c15 | exact c15 | (simp at c15)) (fun c15 => ?_)
        refine g_aload_n dX11_letAsKnown_18 rfl ?_
        refine g_iload_n dX11_letAsKnown_19 rfl ?_
        refine g_iload_n dX11_letAsKnown_20 rfl ?_
        refine p_callV (il) okX11_isLet lkX11_265 rfl (by first | rfl | exact pv_shx) rfl (by omega) (by omega) dX11_letAsKnown_21 rfl (Nat.le_of_ble_eq_true rfl) (⟨by decide, by decide, by decide, by decide⟩) ?_
        refine n_if_eq 33 dX11_letAsKnown_24 (by decide) (by first | (with_reducible exact cB _) | ((with_reducible apply cN_eq0) <;> omega) | exact Iff.rfl) (fun c24 => ?_) (fun c24 => by exfalso; first | omega | exact absurd trivial c24 | exact c24 | (simp at c24))
        refine g_iinc dX11_letAsKnown_33 rfl (by first | (with_reducible exact nI_1 _) | exact nI_1 _ | exact pk_m1 _ | rfl) (by decide) rfl ?_
        refine g_goto 4 dX11_letAsKnown_36 (by decide) ?_
        exact nx
  refine pvMet.of _ (by decide) rfl (Nat.le_of_ble_eq_true rfl) ?_
  refine g_iconst (v := nI 0) dX11_letAsKnown_0 (by decide) ?_
  refine g_istore_n dX11_letAsKnown_1 (by decide) rfl ?_
  refine g_iconst (v := nI 0) dX11_letAsKnown_2 (by decide) ?_
  refine g_istore_n dX11_letAsKnown_3 (by decide) rfl ?_
  exact lp (cnt a 3) 0 (by omega)
theorem c_letNow {g : Nat} (hP : pvOkP P) (hb : kB w h a I J) (hse : seenT w h a g I J) (hg : min 99 (cnt a 0) ≤ g) : pvMet mX11_letNow 3 0 0 [.ref 1] 224 I J P (pvpu (.int (nI (ltN w h a (cnt a 0)))) 224 I J P) := by
  obtain ⟨n0, r0⟩ := hb.n0
  have lk := c_letAsKnown hP hb hse hg n0
  refine pvMet.of _ (by decide) rfl (Nat.le_of_ble_eq_true rfl) ?_
  refine g_aload_n dX11_letNow_0 rfl ?_
  refine g_aload_n dX11_letNow_1 rfl ?_
  refine g_getP dX11_letNow_2 fdX11_32 rfl (by first | rfl | exact pv_shx) (by omega) (by omega) (by decide) rfl (hP _ _ _ rfl) ?_
  refine n_getI dX11_letNow_5 fdX11_77 rfl (by first | rfl | exact pv_shx) (by omega) (by omega) (by decide) rfl (by repeat (first | exact r0 | (apply rd_s; done) | apply rd_n (by omega) | apply rp_s | apply rp_n (by omega) | (apply rdL_s; done) | apply rdL_n (by omega) | apply rpJ_s | apply rpJ_n (by omega) | rfl)) ?_
  refine p_callV (lk) okX11_letAsKnown lkX11_268 rfl (by first | rfl | exact pv_shx) rfl (by omega) (by omega) dX11_letNow_8 rfl (Nat.le_of_ble_eq_true rfl) (⟨by decide, by decide, by decide, by decide⟩) ?_
  exact g_iret dX11_letNow_11 rfl (⟨rfl, rfl, rfl, rfl, rfl⟩)
theorem c_howManyBurn {kn g c m : Nat} (hP : pvOkP P) (hb : kB w h a I J) (hse : seenT w h a g I J) (hm : m ≤ g) (hg : g ≤ 99) (hc : c < 64) : pvMet mX11_howManyBurn 1 0 0 [.ref 1, .int (nI (ltN w h a kn)), .int (nI c), .int (nI m)] 224 I J P (pvpu (.int (nI (nBurn w h a c m kn))) 224 I J P) := by
  obtain ⟨n3, r3⟩ := hb.n3
  have lp : ∀ q s, s + q = cnt a 3 → pvG mX11_howManyBurn (pvR 1 0 0) (pvZ (pvpu (.int (nI (nBurn w h a c m kn))) 224 I J P) 0 0) 6 [.ref 1, .int (nI (ltN w h a kn)), .int (nI c), .int (nI m), .int (nI (sp_ct (fun s => letB w h a s kn = true ∧ (fwk w h a 0 none s m).1 c = 1) s)), .int (nI s)] [] 0 0 224 I J P := by
    intro q
    induction q with
    | zero =>
      intro s hs
      obtain rfl : s = cnt a 3 := by omega
      refine g_iload dX11_howManyBurn_6 rfl ?_
      refine g_aload_n dX11_howManyBurn_8 rfl ?_
      refine g_getP dX11_howManyBurn_9 fdX11_32 rfl (by first | rfl | exact pv_shx) (by omega) (by omega) (by decide) rfl (hP _ _ _ rfl) ?_
      refine g_getP dX11_howManyBurn_12 fdX11_163 rfl (by first | rfl | exact pv_shx) (by omega) (by omega) (by decide) rfl (hP _ _ _ rfl) ?_
      refine n_getI dX11_howManyBurn_15 fdX11_167 rfl (by first | rfl | exact pv_shx) (by omega) (by omega) (by decide) rfl (by repeat (first | exact r3 | (apply rd_s; done) | apply rd_n (by omega) | apply rp_s | apply rp_n (by omega) | (apply rdL_s; done) | apply rdL_n (by omega) | apply rpJ_s | apply rpJ_n (by omega) | rfl)) ?_
      refine n_icmp_ge 58 dX11_howManyBurn_18 (by decide) (by first | ((with_reducible apply cN_le) <;> omega) | ((with_reducible apply cI_len) <;> omega) | ((with_reducible apply cI_nle) <;> omega) | (with_reducible exact cI_le)) (fun c18 => ?_) (fun c18 => by exfalso; first | omega | exact absurd trivial c18 | exact c18 | (simp at c18))
      refine g_iload dX11_howManyBurn_58 rfl ?_
      exact g_iret dX11_howManyBurn_60 rfl (⟨rfl, rfl, rfl, rfl, rfl⟩)
    | succ q ih =>
      intro s hs
      have nx := ih (s + 1) (by omega)
      have es : sp_ct (fun s => letB w h a s kn = true ∧ (fwk w h a 0 none s m).1 c = 1) (s + 1) = sp_ct (fun s => letB w h a s kn = true ∧ (fwk w h a 0 none s m).1 c = 1) s + (if letB w h a s kn = true ∧ (fwk w h a 0 none s m).1 c = 1 then 1 else 0) := rfl
      rw [es] at nx
      have hle := sp_ct_le (p := fun s => letB w h a s kn = true ∧ (fwk w h a 0 none s m).1 c = 1) s
      have ii := c_isIn (nx := 224) (k := s) (I := I) (J := J) (P := P) (Nat.lt_trans (ltN_lt (w := w) (h := h) (kn := kn) n3) (by decide)) (by omega)
      have hdm := bN_dm (f := fun s => letB w h a s kn) (n := cnt a 3) (s := s)
      obtain ⟨sn, sn1, hv⟩ := hse s (by omega)
      have hfw := (hv.2.2.1 m (by omega)).1
      have hh := t_hasM (nx := 224) (k := c) (f := mB (fwk w h a 0 none s m)) (I := I) (J := J) (P := P) hc
      have bs := fad_lt (show s < 8 by omega)
      obtain ⟨⟨s0, s1, s2, s3, s4, s5⟩, -⟩ := (fad_ok (show s < 9 by omega)).sh
      have p12 := ((fad_ok (show s < 9 by omega)).pp hP).2.2.1
      by_cases hl : letB w h a s kn = true
      · have hz : ltN w h a kn / 2 ^ s % 2 = 1 := hdm.mpr ⟨by omega, hl⟩
        rw [if_pos hz] at ii
        by_cases hf : (fwk w h a 0 none s m).1 c = 1
        · rw [show mB (fwk w h a 0 none s m) c = true from decide_eq_true hf] at hh
          rw [if_pos ⟨hl, hf⟩] at nx
          refine g_iload dX11_howManyBurn_6 rfl ?_
          refine g_aload_n dX11_howManyBurn_8 rfl ?_
          refine g_getP dX11_howManyBurn_9 fdX11_32 rfl (by first | rfl | exact pv_shx) (by omega) (by omega) (by decide) rfl (hP _ _ _ rfl) ?_
          refine g_getP dX11_howManyBurn_12 fdX11_163 rfl (by first | rfl | exact pv_shx) (by omega) (by omega) (by decide) rfl (hP _ _ _ rfl) ?_
          refine n_getI dX11_howManyBurn_15 fdX11_167 rfl (by first | rfl | exact pv_shx) (by omega) (by omega) (by decide) rfl (by repeat (first | exact r3 | exact hfw | (apply rd_s; done) | apply rd_n (by omega) | apply rp_s | apply rp_n (by omega) | (apply rdL_s; done) | apply rdL_n (by omega) | apply rpJ_s | apply rpJ_n (by omega) | rfl)) ?_
          refine n_icmp_ge 58 dX11_howManyBurn_18 (by decide) (by first | ((with_reducible apply cN_le) <;> omega) | ((with_reducible apply cI_len) <;> omega) | ((with_reducible apply cI_nle) <;> omega) | (with_reducible exact cI_le)) (fun c18 => by exfalso; first | omega | exact absurd trivial c18 | exact c18 | (simp at c18)) (fun c18 => ?_)
          refine g_iload_n dX11_howManyBurn_21 rfl ?_
          refine g_iload dX11_howManyBurn_22 rfl ?_
          refine p_callS (ii) okX11_isIn lkX11_243 rfl dX11_howManyBurn_24 rfl (Nat.le_of_ble_eq_true rfl) (⟨by decide, by decide, by decide, by decide⟩) ?_
          refine n_if_eq 52 dX11_howManyBurn_27 (by decide) (by first | (with_reducible exact cB _) | ((with_reducible apply cN_eq0) <;> omega) | exact Iff.rfl) (fun c27 => by exfalso; first | omega | exact absurd trivial c27 | exact c27 | (simp at c27)) (fun c27 => ?_)
          refine g_aload_n dX11_howManyBurn_30 rfl ?_
          refine g_getP dX11_howManyBurn_31 fdX11_41 rfl (by first | rfl | exact pv_shx) (by omega) (by omega) (by decide) rfl (hP _ _ _ rfl) ?_
          refine g_iload dX11_howManyBurn_34 rfl ?_
          refine g_aald _ dX11_howManyBurn_36 (by first | exact Or.inl rfl | exact Or.inr rfl) (by omega) (by omega) (by decide) (rfl) (by omega) (fires_P hP (by omega)) ?_
          refine g_getP dX11_howManyBurn_37 fdX11_212 rfl (s0) (by omega) (by omega) (by decide) rfl (p12) ?_
          refine g_iload_n dX11_howManyBurn_40 rfl ?_
          refine n_lald dX11_howManyBurn_41 (s3) (by omega) (by omega) (by decide) (rfl) (by omega) (by repeat (first | exact r3 | exact hfw | (apply rd_s; done) | apply rd_n (by omega) | apply rp_s | apply rp_n (by omega) | (apply rdL_s; done) | apply rdL_n (by omega) | apply rpJ_s | apply rpJ_n (by omega) | rfl)) ?_
          refine g_iload_n dX11_howManyBurn_42 rfl ?_
          refine p_callS (hh) okX11_has lkX11_209 rfl dX11_howManyBurn_43 rfl (Nat.le_of_ble_eq_true rfl) (⟨by decide, by decide, by decide, by decide⟩) ?_
          refine n_if_eq 52 dX11_howManyBurn_46 (by decide) (by first | (with_reducible exact cB _) | ((with_reducible apply cN_eq0) <;> omega) | exact Iff.rfl) (fun c46 => by exfalso; first | omega | exact absurd trivial c46 | exact c46 | (simp at c46)) (fun c46 => ?_)
          refine g_iinc dX11_howManyBurn_49 rfl (by first | (with_reducible exact nI_1 _) | exact nI_1 _ | exact pk_m1 _ | rfl) (by decide) rfl ?_
          refine g_iinc dX11_howManyBurn_52 rfl (by first | (with_reducible exact nI_1 _) | exact nI_1 _ | exact pk_m1 _ | rfl) (by decide) rfl ?_
          refine g_goto 6 dX11_howManyBurn_55 (by decide) ?_
          exact nx
        · rw [show mB (fwk w h a 0 none s m) c = false from decide_eq_false hf] at hh
          rw [if_neg (fun z => hf z.2), Nat.add_zero] at nx
          refine g_iload dX11_howManyBurn_6 rfl ?_
          refine g_aload_n dX11_howManyBurn_8 rfl ?_
          refine g_getP dX11_howManyBurn_9 fdX11_32 rfl (by first | rfl | exact pv_shx) (by omega) (by omega) (by decide) rfl (hP _ _ _ rfl) ?_
          refine g_getP dX11_howManyBurn_12 fdX11_163 rfl (by first | rfl | exact pv_shx) (by omega) (by omega) (by decide) rfl (hP _ _ _ rfl) ?_
          refine n_getI dX11_howManyBurn_15 fdX11_167 rfl (by first | rfl | exact pv_shx) (by omega) (by omega) (by decide) rfl (by repeat (first | exact r3 | exact hfw | (apply rd_s; done) | apply rd_n (by omega) | apply rp_s | apply rp_n (by omega) | (apply rdL_s; done) | apply rdL_n (by omega) | apply rpJ_s | apply rpJ_n (by omega) | rfl)) ?_
          refine n_icmp_ge 58 dX11_howManyBurn_18 (by decide) (by first | ((with_reducible apply cN_le) <;> omega) | ((with_reducible apply cI_len) <;> omega) | ((with_reducible apply cI_nle) <;> omega) | (with_reducible exact cI_le)) (fun c18 => by exfalso; first | omega | exact absurd trivial c18 | exact c18 | (simp at c18)) (fun c18 => ?_)
          refine g_iload_n dX11_howManyBurn_21 rfl ?_
          refine g_iload dX11_howManyBurn_22 rfl ?_
          refine p_callS (ii) okX11_isIn lkX11_243 rfl dX11_howManyBurn_24 rfl (Nat.le_of_ble_eq_true rfl) (⟨by decide, by decide, by decide, by decide⟩) ?_
          refine n_if_eq 52 dX11_howManyBurn_27 (by decide) (by first | (with_reducible exact cB _) | ((with_reducible apply cN_eq0) <;> omega) | exact Iff.rfl) (fun c27 => by exfalso; first | omega | exact absurd trivial c27 | exact c27 | (simp at c27)) (fun c27 => ?_)
          refine g_aload_n dX11_howManyBurn_30 rfl ?_
          refine g_getP dX11_howManyBurn_31 fdX11_41 rfl (by first | rfl | exact pv_shx) (by omega) (by omega) (by decide) rfl (hP _ _ _ rfl) ?_
          refine g_iload dX11_howManyBurn_34 rfl ?_
          refine g_aald _ dX11_howManyBurn_36 (by first | exact Or.inl rfl | exact Or.inr rfl) (by omega) (by omega) (by decide) (rfl) (by omega) (fires_P hP (by omega)) ?_
          refine g_getP dX11_howManyBurn_37 fdX11_212 rfl (s0) (by omega) (by omega) (by decide) rfl (p12) ?_
          refine g_iload_n dX11_howManyBurn_40 rfl ?_
          refine n_lald dX11_howManyBurn_41 (s3) (by omega) (by omega) (by decide) (rfl) (by omega) (by repeat (first | exact r3 | exact hfw | (apply rd_s; done) | apply rd_n (by omega) | apply rp_s | apply rp_n (by omega) | (apply rdL_s; done) | apply rdL_n (by omega) | apply rpJ_s | apply rpJ_n (by omega) | rfl)) ?_
          refine g_iload_n dX11_howManyBurn_42 rfl ?_
          refine p_callS (hh) okX11_has lkX11_209 rfl dX11_howManyBurn_43 rfl (Nat.le_of_ble_eq_true rfl) (⟨by decide, by decide, by decide, by decide⟩) ?_
          refine n_if_eq 52 dX11_howManyBurn_46 (by decide) (by first | (with_reducible exact cB _) | ((with_reducible apply cN_eq0) <;> omega) | exact Iff.rfl) (fun c46 => ?_) (fun c46 => by exfalso; first | omega | exact absurd trivial c46 | exact c46 | (simp at c46))
          refine g_iinc dX11_howManyBurn_52 rfl (by first | (with_reducible exact nI_1 _) | exact nI_1 _ | exact pk_m1 _ | rfl) (by decide) rfl ?_
          refine g_goto 6 dX11_howManyBurn_55 (by decide) ?_
          exact nx
      · have hz : ¬ ltN w h a kn / 2 ^ s % 2 = 1 := fun z => hl (hdm.mp z).2
        rw [if_neg hz] at ii
        rw [if_neg (fun z => hl z.1), Nat.add_zero] at nx
        refine g_iload dX11_howManyBurn_6 rfl ?_
        refine g_aload_n dX11_howManyBurn_8 rfl ?_
        refine g_getP dX11_howManyBurn_9 fdX11_32 rfl (by first | rfl | exact pv_shx) (by omega) (by omega) (by decide) rfl (hP _ _ _ rfl) ?_
        refine g_getP dX11_howManyBurn_12 fdX11_163 rfl (by first | rfl | exact pv_shx) (by omega) (by omega) (by decide) rfl (hP _ _ _ rfl) ?_
        refine n_getI dX11_howManyBurn_15 fdX11_167 rfl (by first | rfl | exact pv_shx) (by omega) (by omega) (by decide) rfl (by repeat (first | exact r3 | (apply rd_s; done) | apply rd_n (by omega) | apply rp_s | apply rp_n (by omega) | (apply rdL_s; done) | apply rdL_n (by omega) | apply rpJ_s | apply rpJ_n (by omega) | rfl)) ?_
        refine n_icmp_ge 58 dX11_howManyBurn_18 (by decide) (by first | ((with_reducible apply cN_le) <;> omega) | ((with_reducible apply cI_len) <;> omega) | ((with_reducible apply cI_nle) <;> omega) | (with_reducible exact cI_le)) (fun c18 => by exfalso; first | omega | exact absurd trivial c18 | exact c18 | (simp at c18)) (fun c18 => ?_)
        refine g_iload_n dX11_howManyBurn_21 rfl ?_
        refine g_iload dX11_howManyBurn_22 rfl ?_
        refine p_callS (ii) okX11_isIn lkX11_243 rfl dX11_howManyBurn_24 rfl (Nat.le_of_ble_eq_true rfl) (⟨by decide, by decide, by decide, by decide⟩) ?_
        refine n_if_eq 52 dX11_howManyBurn_27 (by decide) (by first | (with_reducible exact cB _) | ((with_reducible apply cN_eq0) <;> omega) | exact Iff.rfl) (fun c27 => ?_) (fun c27 => by exfalso; first | omega | exact absurd trivial c27 | exact c27 | (simp at c27))
        refine g_iinc dX11_howManyBurn_52 rfl (by first | (with_reducible exact nI_1 _) | exact nI_1 _ | exact pk_m1 _ | rfl) (by decide) rfl ?_
        refine g_goto 6 dX11_howManyBurn_55 (by decide) ?_
        exact nx
  refine pvMet.of _ (by decide) rfl (Nat.le_of_ble_eq_true rfl) ?_
  refine g_iconst (v := nI 0) dX11_howManyBurn_0 (by decide) ?_
  refine g_istore dX11_howManyBurn_1 (by decide) rfl ?_
  refine g_iconst (v := nI 0) dX11_howManyBurn_3 (by decide) ?_
  refine g_istore dX11_howManyBurn_4 (by decide) rfl ?_
  exact lp (cnt a 3) 0 (by omega)
end LET
