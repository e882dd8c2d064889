/-! model: gas -/
def ndist (x y : Nat) : Nat := if x < y then y - x else x - y
theorem t_abs {nx : Nat} {I : pvI} {J : pvJ} {P : pvP} {x y : Nat} (hx : x < 1000) (hy : y < 1000) : pvMet mX12_abs 0 0 0 [.int (nI x - nI y)] nx I J P (pvpu (.int (nI (ndist x y))) nx I J P) := by
  have e := pk_sub_toInt (a := x) (b := y) (by omega) (by omega)
  by_cases h : x < y
  · have e2 : -(nI x - nI y) = nI (y - x) := by
      rw [Int32.neg_sub, pk_sub (by omega)]
    have e3 : ndist x y = y - x := by simp [ndist, h]
    rw [e3]
    refine pvMet.of _ (by decide) rfl (Nat.le_of_ble_eq_true rfl) ?_
    refine g_iload_n dX12_abs_0 rfl ?_
    refine n_if_ge 9 dX12_abs_1 (by decide) (cI_ge0) (fun c1 => by exfalso; first | omega | exact absurd trivial c1 | exact c1) (fun c1 => ?_)
    refine g_iload_n dX12_abs_4 rfl ?_
    refine n_ineg dX12_abs_5 (e2) ?_
    refine g_goto 10 dX12_abs_6 (by decide) ?_
    exact g_iret dX12_abs_10 rfl (⟨rfl, rfl, rfl, rfl, rfl⟩)
  · have e2 : nI x - nI y = nI (x - y) := pk_sub (by omega)
    have e3 : ndist x y = x - y := by simp [ndist, h]
    rw [e3]
    refine pvMet.of _ (by decide) rfl (Nat.le_of_ble_eq_true rfl) ?_
    refine g_iload_n dX12_abs_0 rfl ?_
    refine n_if_ge 9 dX12_abs_1 (by decide) (cI_ge0) (fun c1 => ?_) (fun c1 => by exfalso; first | omega | exact absurd trivial c1 | exact c1)
    refine g_iload_n dX12_abs_9 rfl ?_
    exact g_iret dX12_abs_10 rfl (⟨by rw [e2], rfl, rfl, rfl, rfl⟩)
def farN (w c home : Nat) : Nat := ndist (c % w) (home % w) + ndist (c / w) (home / w)
def gsum (w : Nat) (st : Nat → Nat) (home : Nat) : Nat → Nat
  | 0 => 0
  | c + 1 => gsum w st home c + (if farN w c home < 4 ∧ st c = 1 then 4 - farN w c home else 0)
theorem gsum_le {w : Nat} {st : Nat → Nat} {home : Nat} : ∀ c, gsum w st home c ≤ 4 * c
  | 0 => Nat.le_refl _
  | c + 1 => by
    have := gsum_le (w := w) (st := st) (home := home) c
    show gsum w st home c + _ ≤ _
    split <;> omega
def gasS (w h : Nat) (a : Nat → Int32) (k m s : Nat) : Nat := gsum w (fwk w h a 0 none s m).1 (cnt a (1080 + 5 * k)) (w * h) * cnt a (1080 + 5 * k + 1)
def gsB (f : Nat → Nat) (lt : Nat → Bool) (high : Bool) : Nat → Option Nat
  | 0 => none
  | s + 1 => if lt s = true then (match gsB f lt high s with
    | none => some (f s)
    | some b => if (if high = true then b < f s else f s < b) then some (f s) else some b) else gsB f lt high s
def gasN (w h : Nat) (a : Nat → Int32) (k m : Nat) (high : Bool) : Nat := (gsB (gasS w h a k m) (fun s => letB w h a s (cnt a 0)) high (cnt a 3)).getD 0
theorem gsB_le {f : Nat → Nat} {lt : Nat → Bool} {high : Bool} {n : Nat} (hf : ∀ s, f s ≤ n) : ∀ {s b : Nat}, gsB f lt high s = some b → b ≤ n
  | 0, b, h => by cases h
  | s + 1, b, h => by
    have ih := fun {b : Nat} => gsB_le (lt := lt) (high := high) hf (s := s) (b := b)
    have e : gsB f lt high (s + 1) = if lt s = true then (match gsB f lt high s with
      | none => some (f s)
      | some b => if (if high = true then b < f s else f s < b) then some (f s) else some b) else gsB f lt high s := rfl
    rw [e] at h
    have hfs := hf s
    split at h
    · cases hg : gsB f lt high s with
      | none => rw [hg] at h; cases h; exact hfs
      | some b' =>
        rw [hg] at h
        have := ih hg
        simp only at h
        by_cases hc : (if high = true then b' < f s else f s < b')
        · rw [if_pos hc] at h; cases h; exact hfs
        · rw [if_neg hc] at h; cases h; assumption
    · exact ih h
theorem t_gasOf {w h : Nat} {I : pvI} {J : pvJ} {P : pvP} {a : Nat → Int32} {k m : Nat} {hb : Int32} {high : Bool} (hP : pvOkP P) (hD : mDim w h I) (ha : I 203 = a) (hF : mF w h a) (hrd : mRead (w * h) a) (hho : mHou (w * h) a) (htb : tbOk w h a I (cnt a 3)) (hk : k < cnt a 5) (hm : m ≤ 99) (hhb : hb = 0 ↔ high = false) : pvMet mX12_gasOf 1 0 0 [.ref 202, .int (nI k), .int (nI m), .int hb] 224 I J P (pvpu (.int (nI (gasN w h a k m high))) 224 I J P) := by
  subst ha
  have hg := hF.1
  obtain ⟨hw, hh, hw2, hh2⟩ := hD
  have hwh : 4 ≤ w * h ∧ w * h ≤ 64 := ⟨Nat.mul_le_mul hw2.1 hh2.1, Nat.mul_le_mul hw2.2 hh2.2⟩
  obtain ⟨ns, ns_b, ns_h⟩ := hg 3 (by decide)
  replace ns_b : ns ≤ 8 := ns_b
  have ns_e : cnt (I 203) 3 = ns := cnt_of ns_h (by omega)
  obtain ⟨clk, clk_b, clk_h⟩ := hg 0 (by decide)
  replace clk_b : clk ≤ 100 := clk_b
  have clk_e : cnt (I 203) 0 = clk := cnt_of clk_h (by omega)
  obtain ⟨nb, nb_b, nb_h⟩ := hg 5 (by decide)
  replace nb_b : nb ≤ 20 := nb_b
  have nb_e : cnt (I 203) 5 = nb := cnt_of nb_h (by omega)
  obtain ⟨⟨hm1, hm2, hm3⟩, ⟨cr, cr1, cr2⟩, -⟩ := hho k hk
  have hm4 : cnt (I 203) (1080 + 5 * k) = hm1 := cnt_of hm3 (by omega)
  have cr3 : cnt (I 203) (1080 + 5 * k + 1) = cr := cnt_of cr2 (by omega)
  generalize hfs : gasS w h (I 203) k m = fs at *
  have hfsv : ∀ s, fs s = gsum w (fwk w h (I 203) 0 none s m).1 hm1 (w * h) * cr := fun s => by rw [← hfs]; unfold gasS; rw [hm4, cr3]
  have hfle : ∀ s, fs s ≤ 2304 := fun s => by
    rw [hfsv s]
    have h1 := gsum_le (w := w) (st := (fwk w h (I 203) 0 none s m).1) (home := hm1) (w * h)
    exact Nat.le_trans (Nat.mul_le_mul (show gsum w (fwk w h (I 203) 0 none s m).1 hm1 (w * h) ≤ 256 by omega) cr1) (by decide)
  have hans : gasN w h (I 203) k m high = (gsB fs (fun s => letB w h (I 203) s clk) high ns).getD 0 := by unfold gasN; rw [hfs, clk_e, ns_e]
  rw [hans]
  have xy : ∀ c, c < w * h → c % w < 1000 ∧ c / w < 1000 := fun c hc => by
    have := sp_inb (w := w) (h := h) (by omega) hc
    omega
  have hx := xy hm1 hm2
  have il : ∀ x, x < ns → pvMet mX12_isLet 0 0 0 [.ref 202, .int (nI x), .int (nI clk)] 224 I J P (pvpu (.int (if letB w h (I 203) x clk = true then 1 else 0)) 224 I J P) := fun x hx => t_isLet (w := w) (h := h) (J := J) (s := x) hP rfl hg hF.2.1 hrd hwh.2 (by omega) (by omega) htb
  generalize hZ : pvZ (pvpu (.int (nI ((gsB fs (fun s => letB w h (I 203) s clk) high ns).getD 0))) 224 I J P) 0 0 = Z
  -- the sum over the cells
  have sm : ∀ (s : Nat) (best : Int32), s < ns → (∀ (v8 v9 : Value), pvG mX12_gasOf (pvR 1 0 0) Z 152 [.ref 202, .int (nI k), .int (nI m), .int hb, .int best, .int (nI hm1), .int (nI s), .int (nI (gsum w (fwk w h (I 203) 0 none s m).1 hm1 (w * h))), v8, v9] [] 0 0 224 I J P) → ∀ q i, i + q = w * h →
      pvG mX12_gasOf (pvR 1 0 0) Z 55 [.ref 202, .int (nI k), .int (nI m), .int hb, .int best, .int (nI hm1), .int (nI s), .int (nI (gsum w (fwk w h (I 203) 0 none s m).1 hm1 i)), .int (nI i), .retAddr 0] [] 0 0 224 I J P := by
    intro s best hs kk q
    induction q with
    | zero =>
      intro i hi
      obtain rfl : i = w * h := by omega
      refine g_iload dX12_gasOf_55 rfl ?_
      refine g_aload_n dX12_gasOf_57 rfl ?_
      refine n_getI dX12_gasOf_58 fdX12_86 rfl (by first | rfl | exact pv_shx) (by omega) (by omega) (by decide) rfl (by repeat (first | exact hw | exact hh | (apply rd_s; done) | apply rd_n (by omega) | apply rp_s | apply rp_n (by omega) | (apply rdL_s; done) | apply rdL_n (by omega) | apply rpJ_s | apply rpJ_n (by omega) | rfl)) ?_
      refine g_aload_n dX12_gasOf_61 rfl ?_
      refine n_getI dX12_gasOf_62 fdX12_89 rfl (by first | rfl | exact pv_shx) (by omega) (by omega) (by decide) rfl (by repeat (first | exact hw | exact hh | (apply rd_s; done) | apply rd_n (by omega) | apply rp_s | apply rp_n (by omega) | (apply rdL_s; done) | apply rdL_n (by omega) | apply rpJ_s | apply rpJ_n (by omega) | rfl)) ?_
      refine n_imul dX12_gasOf_65 (by first | (with_reducible exact pk_mul _ _) | rfl) ?_
      refine n_icmp_ge 152 dX12_gasOf_66 (by decide) (by first | ((with_reducible apply cN_le) <;> omega) | ((with_reducible apply cI_len) <;> omega) | ((with_reducible apply cI_nle) <;> omega) | (with_reducible exact cI_le)) (fun c66 => ?_) (fun c66 => by exfalso; first | omega | exact absurd trivial c66 | exact c66)
      exact kk _ _
    | succ q ih =>
      intro i hi
      have hi2 := xy i (by omega)
      have h4 := ih (i + 1) (by omega)
      have rt := htb.1 s m i (by omega) hm (by omega)
      have f2 := (fwk_ok (w := w) (h := h) hF.2.1 (wl := 0) (s := s) (m := m) (wo := none)).1 i
      have gl := gsum_le (w := w) (st := (fwk w h (I 203) 0 none s m).1) (home := hm1) i
      have ef : farN w i hm1 = ndist (i % w) (hm1 % w) + ndist (i / w) (hm1 / w) := rfl
      have nd : ∀ x y, x < 1000 → y < 1000 → ndist x y ≤ 1000 := fun x y _ _ => by unfold ndist; split <;> omega
      have d1 : ndist (i % w) (hm1 % w) ≤ 1000 := nd _ _ hi2.1 hx.1
      have d2 : ndist (i / w) (hm1 / w) ≤ 1000 := nd _ _ hi2.2 hx.2
      rw [show gsum w (fwk w h (I 203) 0 none s m).1 hm1 (i + 1) = gsum w (fwk w h (I 203) 0 none s m).1 hm1 i + (if farN w i hm1 < 4 ∧ (fwk w h (I 203) 0 none s m).1 i = 1 then 4 - farN w i hm1 else 0) from rfl] at h4
      have dr : ∀ (sum : Nat) (v9 : Value), pvG mX12_gasOf (pvR 1 0 0) Z 55 [.ref 202, .int (nI k), .int (nI m), .int hb, .int best, .int (nI hm1), .int (nI s), .int (nI sum), .int (nI (i + 1)), .retAddr 0] [] 0 0 224 I J P → pvG mX12_gasOf (pvR 1 0 0) Z 55 [.ref 202, .int (nI k), .int (nI m), .int hb, .int best, .int (nI hm1), .int (nI s), .int (nI sum), .int (nI (i + 1)), v9] [] 0 0 224 I J P := fun sum v9 z => g_drop _ (by repeat (first | exact trivial | refine ⟨Or.inr ⟨_, rfl⟩, ?_⟩ | refine ⟨Or.inl rfl, ?_⟩)) z
      by_cases c1 : farN w i hm1 < 4
      · by_cases c2 : (fwk w h (I 203) 0 none s m).1 i = 1
        · rw [if_pos ⟨c1, c2⟩] at h4
          refine g_iload dX12_gasOf_55 rfl ?_
          refine g_aload_n dX12_gasOf_57 rfl ?_
          refine n_getI dX12_gasOf_58 fdX12_86 rfl (by first | rfl | exact pv_shx) (by omega) (by omega) (by decide) rfl (by repeat (first | exact hw | exact hh | exact rt | (apply rd_s; done) | apply rd_n (by omega) | apply rp_s | apply rp_n (by omega) | (apply rdL_s; done) | apply rdL_n (by omega) | apply rpJ_s | apply rpJ_n (by omega) | rfl)) ?_
          refine g_aload_n dX12_gasOf_61 rfl ?_
          refine n_getI dX12_gasOf_62 fdX12_89 rfl (by first | rfl | exact pv_shx) (by omega) (by omega) (by decide) rfl (by repeat (first | exact hw | exact hh | exact rt | (apply rd_s; done) | apply rd_n (by omega) | apply rp_s | apply rp_n (by omega) | (apply rdL_s; done) | apply rdL_n (by omega) | apply rpJ_s | apply rpJ_n (by omega) | rfl)) ?_
          refine n_imul dX12_gasOf_65 (by first | (with_reducible exact pk_mul _ _) | rfl) ?_
          refine n_icmp_ge 152 dX12_gasOf_66 (by decide) (by first | ((with_reducible apply cN_le) <;> omega) | ((with_reducible apply cI_len) <;> omega) | ((with_reducible apply cI_nle) <;> omega) | (with_reducible exact cI_le)) (fun c66 => by exfalso; first | omega | exact absurd trivial c66 | exact c66) (fun c66 => ?_)
          refine g_iload dX12_gasOf_69 rfl ?_
          refine g_aload_n dX12_gasOf_71 rfl ?_
          refine n_getI dX12_gasOf_72 fdX12_86 rfl (by first | rfl | exact pv_shx) (by omega) (by omega) (by decide) rfl (by repeat (first | exact hw | exact hh | exact rt | (apply rd_s; done) | apply rd_n (by omega) | apply rp_s | apply rp_n (by omega) | (apply rdL_s; done) | apply rdL_n (by omega) | apply rpJ_s | apply rpJ_n (by omega) | rfl)) ?_
          refine n_irem dX12_gasOf_75 (by first | decide | ((with_reducible apply nI_ne0) <;> omega)) (by first | ((with_reducible apply pk_rem) <;> omega) | rfl) ?_
          refine g_iload dX12_gasOf_76 rfl ?_
          refine g_aload_n dX12_gasOf_78 rfl ?_
          refine n_getI dX12_gasOf_79 fdX12_86 rfl (by first | rfl | exact pv_shx) (by omega) (by omega) (by decide) rfl (by repeat (first | exact hw | exact hh | exact rt | (apply rd_s; done) | apply rd_n (by omega) | apply rp_s | apply rp_n (by omega) | (apply rdL_s; done) | apply rdL_n (by omega) | apply rpJ_s | apply rpJ_n (by omega) | rfl)) ?_
          refine n_irem dX12_gasOf_82 (by first | decide | ((with_reducible apply nI_ne0) <;> omega)) (by first | ((with_reducible apply pk_rem) <;> omega) | rfl) ?_
          refine n_isub dX12_gasOf_83 (rfl) ?_
          refine p_callS (t_abs (by omega) (by omega)) okX12_abs lkX12_159 rfl dX12_gasOf_84 rfl (Nat.le_of_ble_eq_true rfl) (⟨by decide, by decide, by decide, by decide⟩) ?_
          refine g_iload dX12_gasOf_87 rfl ?_
          refine g_aload_n dX12_gasOf_89 rfl ?_
          refine n_getI dX12_gasOf_90 fdX12_86 rfl (by first | rfl | exact pv_shx) (by omega) (by omega) (by decide) rfl (by repeat (first | exact hw | exact hh | exact rt | (apply rd_s; done) | apply rd_n (by omega) | apply rp_s | apply rp_n (by omega) | (apply rdL_s; done) | apply rdL_n (by omega) | apply rpJ_s | apply rpJ_n (by omega) | rfl)) ?_
          refine n_idiv dX12_gasOf_93 (by first | decide | ((with_reducible apply nI_ne0) <;> omega)) (by first | ((with_reducible apply pk_div) <;> omega) | rfl) ?_
          refine g_iload dX12_gasOf_94 rfl ?_
          refine g_aload_n dX12_gasOf_96 rfl ?_
          refine n_getI dX12_gasOf_97 fdX12_86 rfl (by first | rfl | exact pv_shx) (by omega) (by omega) (by decide) rfl (by repeat (first | exact hw | exact hh | exact rt | (apply rd_s; done) | apply rd_n (by omega) | apply rp_s | apply rp_n (by omega) | (apply rdL_s; done) | apply rdL_n (by omega) | apply rpJ_s | apply rpJ_n (by omega) | rfl)) ?_
          refine n_idiv dX12_gasOf_100 (by first | decide | ((with_reducible apply nI_ne0) <;> omega)) (by first | ((with_reducible apply pk_div) <;> omega) | rfl) ?_
          refine n_isub dX12_gasOf_101 (rfl) ?_
          refine p_callS (t_abs (by omega) (by omega)) okX12_abs lkX12_159 rfl dX12_gasOf_102 rfl (Nat.le_of_ble_eq_true rfl) (⟨by decide, by decide, by decide, by decide⟩) ?_
          refine n_iadd dX12_gasOf_105 (by first | (with_reducible exact nI_add _ _) | rfl) ?_
          refine g_istore dX12_gasOf_106 (by decide) rfl ?_
          refine g_iload dX12_gasOf_108 rfl ?_
          refine g_iconst (v := nI 4) dX12_gasOf_110 (by decide) ?_
          refine n_icmp_ge 146 dX12_gasOf_111 (by decide) (by first | ((with_reducible apply cN_le) <;> omega) | ((with_reducible apply cI_len) <;> omega) | ((with_reducible apply cI_nle) <;> omega) | (with_reducible exact cI_le)) (fun c111 => by exfalso; first | omega | exact absurd trivial c111 | exact c111) (fun c111 => ?_)
          refine g_aload_n dX12_gasOf_114 rfl ?_
          refine g_getP dX12_gasOf_115 fdX12_48 rfl (by first | rfl | exact pv_shx) (by omega) (by omega) (by decide) rfl (hP _ _ _ rfl) ?_
          refine g_sipush (v := nI 6400) dX12_gasOf_118 (by decide) ?_
          refine g_iload dX12_gasOf_121 rfl ?_
          refine n_imul dX12_gasOf_123 (by first | (with_reducible exact pk_mul _ _) | rfl) ?_
          refine g_bipush (v := nI 64) dX12_gasOf_124 (by decide) ?_
          refine g_iload_n dX12_gasOf_126 rfl ?_
          refine n_imul dX12_gasOf_127 (by first | (with_reducible exact pk_mul _ _) | rfl) ?_
          refine n_iadd dX12_gasOf_128 (by first | (with_reducible exact nI_add _ _) | rfl) ?_
          refine g_iload dX12_gasOf_129 rfl ?_
          refine n_iadd dX12_gasOf_131 (by first | (with_reducible exact nI_add _ _) | rfl) ?_
          refine n_iald dX12_gasOf_132 (by first | rfl | exact pv_shx) (by omega) (by omega) (by decide) (rfl) (by omega) (by repeat (first | exact hw | exact hh | exact rt | (apply rd_s; done) | apply rd_n (by omega) | apply rp_s | apply rp_n (by omega) | (apply rdL_s; done) | apply rdL_n (by omega) | apply rpJ_s | apply rpJ_n (by omega) | rfl)) ?_
          refine g_iconst (v := nI 1) dX12_gasOf_133 (by decide) ?_
          refine n_icmp_ne 146 dX12_gasOf_134 (by decide) (by first | ((with_reducible apply cN_eq) <;> omega) | ((with_reducible apply cI_eqn) <;> omega) | exact Iff.rfl) (fun c134 => by exfalso; first | omega | exact absurd trivial c134 | exact c134) (fun c134 => ?_)
          refine g_iload dX12_gasOf_137 rfl ?_
          refine g_iconst (v := nI 4) dX12_gasOf_139 (by decide) ?_
          refine g_iload dX12_gasOf_140 rfl ?_
          refine n_isub dX12_gasOf_142 (by first | ((with_reducible apply pk_sub) <;> omega) | rfl) ?_
          refine n_iadd dX12_gasOf_143 (by first | (with_reducible exact nI_add _ _) | rfl) ?_
          refine g_istore dX12_gasOf_144 (by decide) rfl ?_
          refine g_iinc dX12_gasOf_146 rfl (by first | (with_reducible exact nI_1 _) | exact nI_1 _ | exact pk_m1 _ | rfl) (by decide) rfl ?_
          refine g_goto 55 dX12_gasOf_149 (by decide) ?_
          exact dr _ _ h4
        · rw [if_neg (fun z => c2 z.2)] at h4
          refine g_iload dX12_gasOf_55 rfl ?_
          refine g_aload_n dX12_gasOf_57 rfl ?_
          refine n_getI dX12_gasOf_58 fdX12_86 rfl (by first | rfl | exact pv_shx) (by omega) (by omega) (by decide) rfl (by repeat (first | exact hw | exact hh | exact rt | (apply rd_s; done) | apply rd_n (by omega) | apply rp_s | apply rp_n (by omega) | (apply rdL_s; done) | apply rdL_n (by omega) | apply rpJ_s | apply rpJ_n (by omega) | rfl)) ?_
          refine g_aload_n dX12_gasOf_61 rfl ?_
          refine n_getI dX12_gasOf_62 fdX12_89 rfl (by first | rfl | exact pv_shx) (by omega) (by omega) (by decide) rfl (by repeat (first | exact hw | exact hh | exact rt | (apply rd_s; done) | apply rd_n (by omega) | apply rp_s | apply rp_n (by omega) | (apply rdL_s; done) | apply rdL_n (by omega) | apply rpJ_s | apply rpJ_n (by omega) | rfl)) ?_
          refine n_imul dX12_gasOf_65 (by first | (with_reducible exact pk_mul _ _) | rfl) ?_
          refine n_icmp_ge 152 dX12_gasOf_66 (by decide) (by first | ((with_reducible apply cN_le) <;> omega) | ((with_reducible apply cI_len) <;> omega) | ((with_reducible apply cI_nle) <;> omega) | (with_reducible exact cI_le)) (fun c66 => by exfalso; first | omega | exact absurd trivial c66 | exact c66) (fun c66 => ?_)
          refine g_iload dX12_gasOf_69 rfl ?_
          refine g_aload_n dX12_gasOf_71 rfl ?_
          refine n_getI dX12_gasOf_72 fdX12_86 rfl (by first | rfl | exact pv_shx) (by omega) (by omega) (by decide) rfl (by repeat (first | exact hw | exact hh | exact rt | (apply rd_s; done) | apply rd_n (by omega) | apply rp_s | apply rp_n (by omega) | (apply rdL_s; done) | apply rdL_n (by omega) | apply rpJ_s | apply rpJ_n (by omega) | rfl)) ?_
          refine n_irem dX12_gasOf_75 (by first | decide | ((with_reducible apply nI_ne0) <;> omega)) (by first | ((with_reducible apply pk_rem) <;> omega) | rfl) ?_
          refine g_iload dX12_gasOf_76 rfl ?_
          refine g_aload_n dX12_gasOf_78 rfl ?_
          refine n_getI dX12_gasOf_79 fdX12_86 rfl (by first | rfl | exact pv_shx) (by omega) (by omega) (by decide) rfl (by repeat (first | exact hw | exact hh | exact rt | (apply rd_s; done) | apply rd_n (by omega) | apply rp_s | apply rp_n (by omega) | (apply rdL_s; done) | apply rdL_n (by omega) | apply rpJ_s | apply rpJ_n (by omega) | rfl)) ?_
          refine n_irem dX12_gasOf_82 (by first | decide | ((with_reducible apply nI_ne0) <;> omega)) (by first | ((with_reducible apply pk_rem) <;> omega) | rfl) ?_
          refine n_isub dX12_gasOf_83 (rfl) ?_
          refine p_callS (t_abs (by omega) (by omega)) okX12_abs lkX12_159 rfl dX12_gasOf_84 rfl (Nat.le_of_ble_eq_true rfl) (⟨by decide, by decide, by decide, by decide⟩) ?_
          refine g_iload dX12_gasOf_87 rfl ?_
          refine g_aload_n dX12_gasOf_89 rfl ?_
          refine n_getI dX12_gasOf_90 fdX12_86 rfl (by first | rfl | exact pv_shx) (by omega) (by omega) (by decide) rfl (by repeat (first | exact hw | exact hh | exact rt | (apply rd_s; done) | apply rd_n (by omega) | apply rp_s | apply rp_n (by omega) | (apply rdL_s; done) | apply rdL_n (by omega) | apply rpJ_s | apply rpJ_n (by omega) | rfl)) ?_
          refine n_idiv dX12_gasOf_93 (by first | decide | ((with_reducible apply nI_ne0) <;> omega)) (by first | ((with_reducible apply pk_div) <;> omega) | rfl) ?_
          refine g_iload dX12_gasOf_94 rfl ?_
          refine g_aload_n dX12_gasOf_96 rfl ?_
          refine n_getI dX12_gasOf_97 fdX12_86 rfl (by first | rfl | exact pv_shx) (by omega) (by omega) (by decide) rfl (by repeat (first | exact hw | exact hh | exact rt | (apply rd_s; done) | apply rd_n (by omega) | apply rp_s | apply rp_n (by omega) | (apply rdL_s; done) | apply rdL_n (by omega) | apply rpJ_s | apply rpJ_n (by omega) | rfl)) ?_
          refine n_idiv dX12_gasOf_100 (by first | decide | ((with_reducible apply nI_ne0) <;> omega)) (by first | ((with_reducible apply pk_div) <;> omega) | rfl) ?_
          refine n_isub dX12_gasOf_101 (rfl) ?_
          refine p_callS (t_abs (by omega) (by omega)) okX12_abs lkX12_159 rfl dX12_gasOf_102 rfl (Nat.le_of_ble_eq_true rfl) (⟨by decide, by decide, by decide, by decide⟩) ?_
          refine n_iadd dX12_gasOf_105 (by first | (with_reducible exact nI_add _ _) | rfl) ?_
          refine g_istore dX12_gasOf_106 (by decide) rfl ?_
          refine g_iload dX12_gasOf_108 rfl ?_
          refine g_iconst (v := nI 4) dX12_gasOf_110 (by decide) ?_
          refine n_icmp_ge 146 dX12_gasOf_111 (by decide) (by first | ((with_reducible apply cN_le) <;> omega) | ((with_reducible apply cI_len) <;> omega) | ((with_reducible apply cI_nle) <;> omega) | (with_reducible exact cI_le)) (fun c111 => by exfalso; first | omega | exact absurd trivial c111 | exact c111) (fun c111 => ?_)
          refine g_aload_n dX12_gasOf_114 rfl ?_
          refine g_getP dX12_gasOf_115 fdX12_48 rfl (by first | rfl | exact pv_shx) (by omega) (by omega) (by decide) rfl (hP _ _ _ rfl) ?_
          refine g_sipush (v := nI 6400) dX12_gasOf_118 (by decide) ?_
          refine g_iload dX12_gasOf_121 rfl ?_
          refine n_imul dX12_gasOf_123 (by first | (with_reducible exact pk_mul _ _) | rfl) ?_
          refine g_bipush (v := nI 64) dX12_gasOf_124 (by decide) ?_
          refine g_iload_n dX12_gasOf_126 rfl ?_
          refine n_imul dX12_gasOf_127 (by first | (with_reducible exact pk_mul _ _) | rfl) ?_
          refine n_iadd dX12_gasOf_128 (by first | (with_reducible exact nI_add _ _) | rfl) ?_
          refine g_iload dX12_gasOf_129 rfl ?_
          refine n_iadd dX12_gasOf_131 (by first | (with_reducible exact nI_add _ _) | rfl) ?_
          refine n_iald dX12_gasOf_132 (by first | rfl | exact pv_shx) (by omega) (by omega) (by decide) (rfl) (by omega) (by repeat (first | exact hw | exact hh | exact rt | (apply rd_s; done) | apply rd_n (by omega) | apply rp_s | apply rp_n (by omega) | (apply rdL_s; done) | apply rdL_n (by omega) | apply rpJ_s | apply rpJ_n (by omega) | rfl)) ?_
          refine g_iconst (v := nI 1) dX12_gasOf_133 (by decide) ?_
          refine n_icmp_ne 146 dX12_gasOf_134 (by decide) (by first | ((with_reducible apply cN_eq) <;> omega) | ((with_reducible apply cI_eqn) <;> omega) | exact Iff.rfl) (fun c134 => ?_) (fun c134 => by exfalso; first | omega | exact absurd trivial c134 | exact c134)
          refine g_iinc dX12_gasOf_146 rfl (by first | (with_reducible exact nI_1 _) | exact nI_1 _ | exact pk_m1 _ | rfl) (by decide) rfl ?_
          refine g_goto 55 dX12_gasOf_149 (by decide) ?_
          exact dr _ _ h4
      · rw [if_neg (fun z => c1 z.1)] at h4
        refine g_iload dX12_gasOf_55 rfl ?_
        refine g_aload_n dX12_gasOf_57 rfl ?_
        refine n_getI dX12_gasOf_58 fdX12_86 rfl (by first | rfl | exact pv_shx) (by omega) (by omega) (by decide) rfl (by repeat (first | exact hw | exact hh | exact rt | (apply rd_s; done) | apply rd_n (by omega) | apply rp_s | apply rp_n (by omega) | (apply rdL_s; done) | apply rdL_n (by omega) | apply rpJ_s | apply rpJ_n (by omega) | rfl)) ?_
        refine g_aload_n dX12_gasOf_61 rfl ?_
        refine n_getI dX12_gasOf_62 fdX12_89 rfl (by first | rfl | exact pv_shx) (by omega) (by omega) (by decide) rfl (by repeat (first | exact hw | exact hh | exact rt | (apply rd_s; done) | apply rd_n (by omega) | apply rp_s | apply rp_n (by omega) | (apply rdL_s; done) | apply rdL_n (by omega) | apply rpJ_s | apply rpJ_n (by omega) | rfl)) ?_
        refine n_imul dX12_gasOf_65 (by first | (with_reducible exact pk_mul _ _) | rfl) ?_
        refine n_icmp_ge 152 dX12_gasOf_66 (by decide) (by first | ((with_reducible apply cN_le) <;> omega) | ((with_reducible apply cI_len) <;> omega) | ((with_reducible apply cI_nle) <;> omega) | (with_reducible exact cI_le)) (fun c66 => by exfalso; first | omega | exact absurd trivial c66 | exact c66) (fun c66 => ?_)
        refine g_iload dX12_gasOf_69 rfl ?_
        refine g_aload_n dX12_gasOf_71 rfl ?_
        refine n_getI dX12_gasOf_72 fdX12_86 rfl (by first | rfl | exact pv_shx) (by omega) (by omega) (by decide) rfl (by repeat (first | exact hw | exact hh | exact rt | (apply rd_s; done) | apply rd_n (by omega) | apply rp_s | apply rp_n (by omega) | (apply rdL_s; done) | apply rdL_n (by omega) | apply rpJ_s | apply rpJ_n (by omega) | rfl)) ?_
        refine n_irem dX12_gasOf_75 (by first | decide | ((with_reducible apply nI_ne0) <;> omega)) (by first | ((with_reducible apply pk_rem) <;> omega) | rfl) ?_
        refine g_iload dX12_gasOf_76 rfl ?_
        refine g_aload_n dX12_gasOf_78 rfl ?_
        refine n_getI dX12_gasOf_79 fdX12_86 rfl (by first | rfl | exact pv_shx) (by omega) (by omega) (by decide) rfl (by repeat (first | exact hw | exact hh | exact rt | (apply rd_s; done) | apply rd_n (by omega) | apply rp_s | apply rp_n (by omega) | (apply rdL_s; done) | apply rdL_n (by omega) | apply rpJ_s | apply rpJ_n (by omega) | rfl)) ?_
        refine n_irem dX12_gasOf_82 (by first | decide | ((with_reducible apply nI_ne0) <;> omega)) (by first | ((with_reducible apply pk_rem) <;> omega) | rfl) ?_
        refine n_isub dX12_gasOf_83 (rfl) ?_
        refine p_callS (t_abs (by omega) (by omega)) okX12_abs lkX12_159 rfl dX12_gasOf_84 rfl (Nat.le_of_ble_eq_true rfl) (⟨by decide, by decide, by decide, by decide⟩) ?_
        refine g_iload dX12_gasOf_87 rfl ?_
        refine g_aload_n dX12_gasOf_89 rfl ?_
        refine n_getI dX12_gasOf_90 fdX12_86 rfl (by first | rfl | exact pv_shx) (by omega) (by omega) (by decide) rfl (by repeat (first | exact hw | exact hh | exact rt | (apply rd_s; done) | apply rd_n (by omega) | apply rp_s | apply rp_n (by omega) | (apply rdL_s; done) | apply rdL_n (by omega) | apply rpJ_s | apply rpJ_n (by omega) | rfl)) ?_
        refine n_idiv dX12_gasOf_93 (by first | decide | ((with_reducible apply nI_ne0) <;> omega)) (by first | ((with_reducible apply pk_div) <;> omega) | rfl) ?_
        refine g_iload dX12_gasOf_94 rfl ?_
        refine g_aload_n dX12_gasOf_96 rfl ?_
        refine n_getI dX12_gasOf_97 fdX12_86 rfl (by first | rfl | exact pv_shx) (by omega) (by omega) (by decide) rfl (by repeat (first | exact hw | exact hh | exact rt | (apply rd_s; done) | apply rd_n (by omega) | apply rp_s | apply rp_n (by omega) | (apply rdL_s; done) | apply rdL_n (by omega) | apply rpJ_s | apply rpJ_n (by omega) | rfl)) ?_
        refine n_idiv dX12_gasOf_100 (by first | decide | ((with_reducible apply nI_ne0) <;> omega)) (by first | ((with_reducible apply pk_div) <;> omega) | rfl) ?_
        refine n_isub dX12_gasOf_101 (rfl) ?_
        refine p_callS (t_abs (by omega) (by omega)) okX12_abs lkX12_159 rfl dX12_gasOf_102 rfl (Nat.le_of_ble_eq_true rfl) (⟨by decide, by decide, by decide, by decide⟩) ?_
        refine n_iadd dX12_gasOf_105 (by first | (with_reducible exact nI_add _ _) | rfl) ?_
        refine g_istore dX12_gasOf_106 (by decide) rfl ?_
        refine g_iload dX12_gasOf_108 rfl ?_
        refine g_iconst (v := nI 4) dX12_gasOf_110 (by decide) ?_
        refine n_icmp_ge 146 dX12_gasOf_111 (by decide) (by first | ((with_reducible apply cN_le) <;> omega) | ((with_reducible apply cI_len) <;> omega) | ((with_reducible apply cI_nle) <;> omega) | (with_reducible exact cI_le)) (fun c111 => ?_) (fun c111 => by exfalso; first | omega | exact absurd trivial c111 | exact c111)
        refine g_iinc dX12_gasOf_146 rfl (by first | (with_reducible exact nI_1 _) | exact nI_1 _ | exact pk_m1 _ | rfl) (by decide) rfl ?_
        refine g_goto 55 dX12_gasOf_149 (by decide) ?_
        exact dr _ _ h4
  have lp : ∀ q s, s + q = ns → pvG mX12_gasOf (pvR 1 0 0) Z 20 [.ref 202, .int (nI k), .int (nI m), .int hb, .int (stv (gsB fs (fun s => letB w h (I 203) s clk) high s)), .int (nI hm1), .int (nI s), .retAddr 0, .retAddr 0, .retAddr 0] [] 0 0 224 I J P := by
    intro q
    induction q with
    | zero =>
      intro s hs
      obtain rfl : s = ns := by omega
      subst hZ
      cases hb0 : gsB fs (fun s => letB w h (I 203) s clk) high s with
      | none =>
        refine g_iload dX12_gasOf_20 rfl ?_
        refine g_aload_n dX12_gasOf_22 rfl ?_
        refine g_getP dX12_gasOf_23 fdX12_7 rfl (by first | rfl | exact pv_shx) (by omega) (by omega) (by decide) rfl (hP _ _ _ rfl) ?_
        refine g_iconst (v := nI 3) dX12_gasOf_26 (by decide) ?_
        refine n_iald dX12_gasOf_27 (by first | rfl | exact pv_shx) (by omega) (by omega) (by decide) (rfl) (by omega) (by repeat (first | exact ns_h | (apply rd_s; done) | apply rd_n (by omega) | apply rp_s | apply rp_n (by omega) | (apply rdL_s; done) | apply rdL_n (by omega) | apply rpJ_s | apply rpJ_n (by omega) | rfl)) ?_
        refine n_icmp_ge 207 dX12_gasOf_28 (by decide) (by first | ((with_reducible apply cN_le) <;> omega) | ((with_reducible apply cI_len) <;> omega) | ((with_reducible apply cI_nle) <;> omega) | (with_reducible exact cI_le)) (fun c28 => ?_) (fun c28 => by exfalso; first | omega | exact absurd trivial c28 | exact c28)
        refine g_iload dX12_gasOf_207 rfl ?_
        refine n_if_ge 216 dX12_gasOf_209 (by decide) (cI_ge0.trans (by rw [show (stv none).toInt = -1 from rfl])) (fun c209 => by exfalso; first | omega | exact absurd trivial c209 | exact c209) (fun c209 => ?_)
        refine g_iconst (v := nI 0) dX12_gasOf_212 (by decide) ?_
        refine g_goto 218 dX12_gasOf_213 (by decide) ?_
        exact g_iret dX12_gasOf_218 rfl (⟨rfl, rfl, rfl, rfl, rfl⟩)
      | some b =>
        have hbb := gsB_le hfle hb0
        have : stv (some b) = nI b := rfl
        rw [this]
        refine g_iload dX12_gasOf_20 rfl ?_
        refine g_aload_n dX12_gasOf_22 rfl ?_
        refine g_getP dX12_gasOf_23 fdX12_7 rfl (by first | rfl | exact pv_shx) (by omega) (by omega) (by decide) rfl (hP _ _ _ rfl) ?_
        refine g_iconst (v := nI 3) dX12_gasOf_26 (by decide) ?_
        refine n_iald dX12_gasOf_27 (by first | rfl | exact pv_shx) (by omega) (by omega) (by decide) (rfl) (by omega) (by repeat (first | exact ns_h | (apply rd_s; done) | apply rd_n (by omega) | apply rp_s | apply rp_n (by omega) | (apply rdL_s; done) | apply rdL_n (by omega) | apply rpJ_s | apply rpJ_n (by omega) | rfl)) ?_
        refine n_icmp_ge 207 dX12_gasOf_28 (by decide) (by first | ((with_reducible apply cN_le) <;> omega) | ((with_reducible apply cI_len) <;> omega) | ((with_reducible apply cI_nle) <;> omega) | (with_reducible exact cI_le)) (fun c28 => ?_) (fun c28 => by exfalso; first | omega | exact absurd trivial c28 | exact c28)
        refine g_iload dX12_gasOf_207 rfl ?_
        refine n_if_ge 216 dX12_gasOf_209 (by decide) (by first | ((with_reducible apply cN_ge0) <;> omega) | (with_reducible exact cI_ge0)) (fun c209 => ?_) (fun c209 => by exfalso; first | omega | exact absurd trivial c209 | exact c209)
        refine g_iload dX12_gasOf_216 rfl ?_
        exact g_iret dX12_gasOf_218 rfl (⟨rfl, rfl, rfl, rfl, rfl⟩)
    | succ q ih =>
      intro s hs
      have h4 := ih (s + 1) (by omega)
      have es : gsB fs (fun s => letB w h (I 203) s clk) high (s + 1) = if letB w h (I 203) s clk = true then (match gsB fs (fun s => letB w h (I 203) s clk) high s with
        | none => some (fs s)
        | some b => if (if high = true then b < fs s else fs s < b) then some (fs s) else some b) else gsB fs (fun s => letB w h (I 203) s clk) high s := rfl
      have ili := il s (by omega)
      have fl := hfle s
      have fv := hfsv s
      have dr : ∀ (best : Int32) (v7 v8 v9 : Value), pvG mX12_gasOf (pvR 1 0 0) Z 20 [.ref 202, .int (nI k), .int (nI m), .int hb, .int best, .int (nI hm1), .int (nI (s + 1)), .retAddr 0, .retAddr 0, .retAddr 0] [] 0 0 224 I J P → pvG mX12_gasOf (pvR 1 0 0) Z 20 [.ref 202, .int (nI k), .int (nI m), .int hb, .int best, .int (nI hm1), .int (nI (s + 1)), v7, v8, v9] [] 0 0 224 I J P := fun best v7 v8 v9 z => g_drop _ (by repeat (first | exact trivial | refine ⟨Or.inr ⟨_, rfl⟩, ?_⟩ | refine ⟨Or.inl rfl, ?_⟩)) z
      by_cases c1 : letB w h (I 203) s clk = true
      · rw [es, if_pos c1] at h4
        have key : ∀ (v8 v9 : Value), pvG mX12_gasOf (pvR 1 0 0) Z 152 [.ref 202, .int (nI k), .int (nI m), .int hb, .int (stv (gsB fs (fun s => letB w h (I 203) s clk) high s)), .int (nI hm1), .int (nI s), .int (nI (gsum w (fwk w h (I 203) 0 none s m).1 hm1 (w * h))), v8, v9] [] 0 0 224 I J P := by
          intro v8 v9
          cases hb0 : gsB fs (fun s => letB w h (I 203) s clk) high s with
          | none =>
            rw [hb0] at h4
            have h4 : pvG mX12_gasOf (pvR 1 0 0) Z 20 [.ref 202, .int (nI k), .int (nI m), .int hb, .int (nI (fs s)), .int (nI hm1), .int (nI (s + 1)), .retAddr 0, .retAddr 0, .retAddr 0] [] 0 0 224 I J P := h4
            refine g_iload dX12_gasOf_152 rfl ?_
            refine g_aload_n dX12_gasOf_154 rfl ?_
            refine g_getP dX12_gasOf_155 fdX12_7 rfl (by first | rfl | exact pv_shx) (by omega) (by omega) (by decide) rfl (hP _ _ _ rfl) ?_
            refine g_sipush (v := nI 1080) dX12_gasOf_158 (by decide) ?_
            refine g_iconst (v := nI 5) dX12_gasOf_161 (by decide) ?_
            refine g_iload_n dX12_gasOf_162 rfl ?_
            refine n_imul dX12_gasOf_163 (by first | (with_reducible exact pk_mul _ _) | rfl) ?_
            refine n_iadd dX12_gasOf_164 (by first | (with_reducible exact nI_add _ _) | rfl) ?_
            refine g_iconst (v := nI 1) dX12_gasOf_165 (by decide) ?_
            refine n_iadd dX12_gasOf_166 (by first | (with_reducible exact nI_add _ _) | rfl) ?_
            refine n_iald dX12_gasOf_167 (by first | rfl | exact pv_shx) (by omega) (by omega) (by decide) (rfl) (by omega) (by repeat (first | exact cr2 | (apply rd_s; done) | apply rd_n (by omega) | apply rp_s | apply rp_n (by omega) | (apply rdL_s; done) | apply rdL_n (by omega) | apply rpJ_s | apply rpJ_n (by omega) | rfl)) ?_
            refine n_imul dX12_gasOf_168 ((pk_mul _ _).trans (by rw [← fv])) ?_
            refine g_istore dX12_gasOf_169 (by decide) rfl ?_
            refine g_iload dX12_gasOf_171 rfl ?_
            refine n_if_lt 197 dX12_gasOf_173 (by decide) (cI_lt0.trans (by rw [show (stv none).toInt = -1 from rfl])) (fun c173 => ?_) (fun c173 => by exfalso; first | omega | exact absurd trivial c173 | exact c173)
            refine g_iload dX12_gasOf_197 rfl ?_
            refine g_istore dX12_gasOf_199 (by decide) rfl ?_
            refine g_iinc dX12_gasOf_201 rfl (by first | (with_reducible exact nI_1 _) | exact nI_1 _ | exact pk_m1 _ | rfl) (by decide) rfl ?_
            refine g_goto 20 dX12_gasOf_204 (by decide) ?_
            exact dr _ _ _ _ h4
          | some b =>
            have hbb := gsB_le hfle hb0
            rw [hb0] at h4
            have sb : stv (some b) = nI b := rfl
            rw [sb]
            simp only at h4
            cases high with
            | true =>
              have hb1 : ¬ hb = 0 := fun z => by have := hhb.mp z; cases this
              by_cases c2 : b < fs s
              · rw [if_pos (by simpa using c2)] at h4
                have h4 : pvG mX12_gasOf (pvR 1 0 0) Z 20 [.ref 202, .int (nI k), .int (nI m), .int hb, .int (nI (fs s)), .int (nI hm1), .int (nI (s + 1)), .retAddr 0, .retAddr 0, .retAddr 0] [] 0 0 224 I J P := h4
                refine g_iload dX12_gasOf_152 rfl ?_
                refine g_aload_n dX12_gasOf_154 rfl ?_
                refine g_getP dX12_gasOf_155 fdX12_7 rfl (by first | rfl | exact pv_shx) (by omega) (by omega) (by decide) rfl (hP _ _ _ rfl) ?_
                refine g_sipush (v := nI 1080) dX12_gasOf_158 (by decide) ?_
                refine g_iconst (v := nI 5) dX12_gasOf_161 (by decide) ?_
                refine g_iload_n dX12_gasOf_162 rfl ?_
                refine n_imul dX12_gasOf_163 (by first | (with_reducible exact pk_mul _ _) | rfl) ?_
                refine n_iadd dX12_gasOf_164 (by first | (with_reducible exact nI_add _ _) | rfl) ?_
                refine g_iconst (v := nI 1) dX12_gasOf_165 (by decide) ?_
                refine n_iadd dX12_gasOf_166 (by first | (with_reducible exact nI_add _ _) | rfl) ?_
                refine n_iald dX12_gasOf_167 (by first | rfl | exact pv_shx) (by omega) (by omega) (by decide) (rfl) (by omega) (by repeat (first | exact cr2 | (apply rd_s; done) | apply rd_n (by omega) | apply rp_s | apply rp_n (by omega) | (apply rdL_s; done) | apply rdL_n (by omega) | apply rpJ_s | apply rpJ_n (by omega) | rfl)) ?_
                refine n_imul dX12_gasOf_168 ((pk_mul _ _).trans (by rw [← fv])) ?_
                refine g_istore dX12_gasOf_169 (by decide) rfl ?_
                refine g_iload dX12_gasOf_171 rfl ?_
                refine n_if_lt 197 dX12_gasOf_173 (by decide) (by first | ((with_reducible apply cN_lt0) <;> omega) | (with_reducible exact cI_lt0)) (fun c173 => by exfalso; first | omega | exact absurd trivial c173 | exact c173) (fun c173 => ?_)
                refine g_iload_n dX12_gasOf_176 rfl ?_
                refine n_if_eq 190 dX12_gasOf_177 (by decide) (Iff.rfl) (fun c177 => by exfalso; exact hb1 c177) (fun c177 => ?_)
                refine g_iload dX12_gasOf_180 rfl ?_
                refine g_iload dX12_gasOf_182 rfl ?_
                refine n_icmp_le 201 dX12_gasOf_184 (by decide) (by first | ((with_reducible apply cN_le) <;> omega) | ((with_reducible apply cI_len) <;> omega) | ((with_reducible apply cI_nle) <;> omega) | (with_reducible exact cI_le)) (fun c184 => by exfalso; first | omega | exact absurd trivial c184 | exact c184) (fun c184 => ?_)
                refine g_goto 197 dX12_gasOf_187 (by decide) ?_
                refine g_iload dX12_gasOf_197 rfl ?_
                refine g_istore dX12_gasOf_199 (by decide) rfl ?_
                refine g_iinc dX12_gasOf_201 rfl (by first | (with_reducible exact nI_1 _) | exact nI_1 _ | exact pk_m1 _ | rfl) (by decide) rfl ?_
                refine g_goto 20 dX12_gasOf_204 (by decide) ?_
                exact dr _ _ _ _ h4
              · rw [if_neg (by simpa using c2)] at h4
                have h4 : pvG mX12_gasOf (pvR 1 0 0) Z 20 [.ref 202, .int (nI k), .int (nI m), .int hb, .int (nI b), .int (nI hm1), .int (nI (s + 1)), .retAddr 0, .retAddr 0, .retAddr 0] [] 0 0 224 I J P := h4
                refine g_iload dX12_gasOf_152 rfl ?_
                refine g_aload_n dX12_gasOf_154 rfl ?_
                refine g_getP dX12_gasOf_155 fdX12_7 rfl (by first | rfl | exact pv_shx) (by omega) (by omega) (by decide) rfl (hP _ _ _ rfl) ?_
                refine g_sipush (v := nI 1080) dX12_gasOf_158 (by decide) ?_
                refine g_iconst (v := nI 5) dX12_gasOf_161 (by decide) ?_
                refine g_iload_n dX12_gasOf_162 rfl ?_
                refine n_imul dX12_gasOf_163 (by first | (with_reducible exact pk_mul _ _) | rfl) ?_
                refine n_iadd dX12_gasOf_164 (by first | (with_reducible exact nI_add _ _) | rfl) ?_
                refine g_iconst (v := nI 1) dX12_gasOf_165 (by decide) ?_
                refine n_iadd dX12_gasOf_166 (by first | (with_reducible exact nI_add _ _) | rfl) ?_
                refine n_iald dX12_gasOf_167 (by first | rfl | exact pv_shx) (by omega) (by omega) (by decide) (rfl) (by omega) (by repeat (first | exact cr2 | (apply rd_s; done) | apply rd_n (by omega) | apply rp_s | apply rp_n (by omega) | (apply rdL_s; done) | apply rdL_n (by omega) | apply rpJ_s | apply rpJ_n (by omega) | rfl)) ?_
                refine n_imul dX12_gasOf_168 ((pk_mul _ _).trans (by rw [← fv])) ?_
                refine g_istore dX12_gasOf_169 (by decide) rfl ?_
                refine g_iload dX12_gasOf_171 rfl ?_
                refine n_if_lt 197 dX12_gasOf_173 (by decide) (by first | ((with_reducible apply cN_lt0) <;> omega) | (with_reducible exact cI_lt0)) (fun c173 => by exfalso; first | omega | exact absurd trivial c173 | exact c173) (fun c173 => ?_)
                refine g_iload_n dX12_gasOf_176 rfl ?_
                refine n_if_eq 190 dX12_gasOf_177 (by decide) (Iff.rfl) (fun c177 => by exfalso; exact hb1 c177) (fun c177 => ?_)
                refine g_iload dX12_gasOf_180 rfl ?_
                refine g_iload dX12_gasOf_182 rfl ?_
                refine n_icmp_le 201 dX12_gasOf_184 (by decide) (by first | ((with_reducible apply cN_le) <;> omega) | ((with_reducible apply cI_len) <;> omega) | ((with_reducible apply cI_nle) <;> omega) | (with_reducible exact cI_le)) (fun c184 => ?_) (fun c184 => by exfalso; first | omega | exact absurd trivial c184 | exact c184)
                refine g_iinc dX12_gasOf_201 rfl (by first | (with_reducible exact nI_1 _) | exact nI_1 _ | exact pk_m1 _ | rfl) (by decide) rfl ?_
                refine g_goto 20 dX12_gasOf_204 (by decide) ?_
                exact dr _ _ _ _ h4
            | false =>
              have hb1 : hb = 0 := hhb.mpr rfl
              by_cases c2 : fs s < b
              · rw [if_pos (by simpa using c2)] at h4
                have h4 : pvG mX12_gasOf (pvR 1 0 0) Z 20 [.ref 202, .int (nI k), .int (nI m), .int hb, .int (nI (fs s)), .int (nI hm1), .int (nI (s + 1)), .retAddr 0, .retAddr 0, .retAddr 0] [] 0 0 224 I J P := h4
                refine g_iload dX12_gasOf_152 rfl ?_
                refine g_aload_n dX12_gasOf_154 rfl ?_
                refine g_getP dX12_gasOf_155 fdX12_7 rfl (by first | rfl | exact pv_shx) (by omega) (by omega) (by decide) rfl (hP _ _ _ rfl) ?_
                refine g_sipush (v := nI 1080) dX12_gasOf_158 (by decide) ?_
                refine g_iconst (v := nI 5) dX12_gasOf_161 (by decide) ?_
                refine g_iload_n dX12_gasOf_162 rfl ?_
                refine n_imul dX12_gasOf_163 (by first | (with_reducible exact pk_mul _ _) | rfl) ?_
                refine n_iadd dX12_gasOf_164 (by first | (with_reducible exact nI_add _ _) | rfl) ?_
                refine g_iconst (v := nI 1) dX12_gasOf_165 (by decide) ?_
                refine n_iadd dX12_gasOf_166 (by first | (with_reducible exact nI_add _ _) | rfl) ?_
                refine n_iald dX12_gasOf_167 (by first | rfl | exact pv_shx) (by omega) (by omega) (by decide) (rfl) (by omega) (by repeat (first | exact cr2 | (apply rd_s; done) | apply rd_n (by omega) | apply rp_s | apply rp_n (by omega) | (apply rdL_s; done) | apply rdL_n (by omega) | apply rpJ_s | apply rpJ_n (by omega) | rfl)) ?_
                refine n_imul dX12_gasOf_168 ((pk_mul _ _).trans (by rw [← fv])) ?_
                refine g_istore dX12_gasOf_169 (by decide) rfl ?_
                refine g_iload dX12_gasOf_171 rfl ?_
                refine n_if_lt 197 dX12_gasOf_173 (by decide) (by first | ((with_reducible apply cN_lt0) <;> omega) | (with_reducible exact cI_lt0)) (fun c173 => by exfalso; first | omega | exact absurd trivial c173 | exact c173) (fun c173 => ?_)
                refine g_iload_n dX12_gasOf_176 rfl ?_
                refine n_if_eq 190 dX12_gasOf_177 (by decide) (Iff.rfl) (fun c177 => ?_) (fun c177 => by exfalso; exact c177 hb1)
                refine g_iload dX12_gasOf_190 rfl ?_
                refine g_iload dX12_gasOf_192 rfl ?_
                refine n_icmp_ge 201 dX12_gasOf_194 (by decide) (by first | ((with_reducible apply cN_le) <;> omega) | ((with_reducible apply cI_len) <;> omega) | ((with_reducible apply cI_nle) <;> omega) | (with_reducible exact cI_le)) (fun c194 => by exfalso; first | omega | exact absurd trivial c194 | exact c194) (fun c194 => ?_)
                refine g_iload dX12_gasOf_197 rfl ?_
                refine g_istore dX12_gasOf_199 (by decide) rfl ?_
                refine g_iinc dX12_gasOf_201 rfl (by first | (with_reducible exact nI_1 _) | exact nI_1 _ | exact pk_m1 _ | rfl) (by decide) rfl ?_
                refine g_goto 20 dX12_gasOf_204 (by decide) ?_
                exact dr _ _ _ _ h4
              · rw [if_neg (by simpa using c2)] at h4
                have h4 : pvG mX12_gasOf (pvR 1 0 0) Z 20 [.ref 202, .int (nI k), .int (nI m), .int hb, .int (nI b), .int (nI hm1), .int (nI (s + 1)), .retAddr 0, .retAddr 0, .retAddr 0] [] 0 0 224 I J P := h4
                refine g_iload dX12_gasOf_152 rfl ?_
                refine g_aload_n dX12_gasOf_154 rfl ?_
                refine g_getP dX12_gasOf_155 fdX12_7 rfl (by first | rfl | exact pv_shx) (by omega) (by omega) (by decide) rfl (hP _ _ _ rfl) ?_
                refine g_sipush (v := nI 1080) dX12_gasOf_158 (by decide) ?_
                refine g_iconst (v := nI 5) dX12_gasOf_161 (by decide) ?_
                refine g_iload_n dX12_gasOf_162 rfl ?_
                refine n_imul dX12_gasOf_163 (by first | (with_reducible exact pk_mul _ _) | rfl) ?_
                refine n_iadd dX12_gasOf_164 (by first | (with_reducible exact nI_add _ _) | rfl) ?_
                refine g_iconst (v := nI 1) dX12_gasOf_165 (by decide) ?_
                refine n_iadd dX12_gasOf_166 (by first | (with_reducible exact nI_add _ _) | rfl) ?_
                refine n_iald dX12_gasOf_167 (by first | rfl | exact pv_shx) (by omega) (by omega) (by decide) (rfl) (by omega) (by repeat (first | exact cr2 | (apply rd_s; done) | apply rd_n (by omega) | apply rp_s | apply rp_n (by omega) | (apply rdL_s; done) | apply rdL_n (by omega) | apply rpJ_s | apply rpJ_n (by omega) | rfl)) ?_
                refine n_imul dX12_gasOf_168 ((pk_mul _ _).trans (by rw [← fv])) ?_
                refine g_istore dX12_gasOf_169 (by decide) rfl ?_
                refine g_iload dX12_gasOf_171 rfl ?_
                refine n_if_lt 197 dX12_gasOf_173 (by decide) (by first | ((with_reducible apply cN_lt0) <;> omega) | (with_reducible exact cI_lt0)) (fun c173 => by exfalso; first | omega | exact absurd trivial c173 | exact c173) (fun c173 => ?_)
                refine g_iload_n dX12_gasOf_176 rfl ?_
                refine n_if_eq 190 dX12_gasOf_177 (by decide) (Iff.rfl) (fun c177 => ?_) (fun c177 => by exfalso; exact c177 hb1)
                refine g_iload dX12_gasOf_190 rfl ?_
                refine g_iload dX12_gasOf_192 rfl ?_
                refine n_icmp_ge 201 dX12_gasOf_194 (by decide) (by first | ((with_reducible apply cN_le) <;> omega) | ((with_reducible apply cI_len) <;> omega) | ((with_reducible apply cI_nle) <;> omega) | (with_reducible exact cI_le)) (fun c194 => ?_) (fun c194 => by exfalso; first | omega | exact absurd trivial c194 | exact c194)
                refine g_iinc dX12_gasOf_201 rfl (by first | (with_reducible exact nI_1 _) | exact nI_1 _ | exact pk_m1 _ | rfl) (by decide) rfl ?_
                refine g_goto 20 dX12_gasOf_204 (by decide) ?_
                exact dr _ _ _ _ h4
        refine g_iload dX12_gasOf_20 rfl ?_
        refine g_aload_n dX12_gasOf_22 rfl ?_
        refine g_getP dX12_gasOf_23 fdX12_7 rfl (by first | rfl | exact pv_shx) (by omega) (by omega) (by decide) rfl (hP _ _ _ rfl) ?_
        refine g_iconst (v := nI 3) dX12_gasOf_26 (by decide) ?_
        refine n_iald dX12_gasOf_27 (by first | rfl | exact pv_shx) (by omega) (by omega) (by decide) (rfl) (by omega) (by repeat (first | exact ns_h | exact clk_h | (apply rd_s; done) | apply rd_n (by omega) | apply rp_s | apply rp_n (by omega) | (apply rdL_s; done) | apply rdL_n (by omega) | apply rpJ_s | apply rpJ_n (by omega) | rfl)) ?_
        refine n_icmp_ge 207 dX12_gasOf_28 (by decide) (by first | ((with_reducible apply cN_le) <;> omega) | ((with_reducible apply cI_len) <;> omega) | ((with_reducible apply cI_nle) <;> omega) | (with_reducible exact cI_le)) (fun c28 => by exfalso; first | omega | exact absurd trivial c28 | exact c28) (fun c28 => ?_)
        refine g_aload_n dX12_gasOf_31 rfl ?_
        refine g_iload dX12_gasOf_32 rfl ?_
        refine g_aload_n dX12_gasOf_34 rfl ?_
        refine g_getP dX12_gasOf_35 fdX12_7 rfl (by first | rfl | exact pv_shx) (by omega) (by omega) (by decide) rfl (hP _ _ _ rfl) ?_
        refine g_iconst (v := nI 0) dX12_gasOf_38 (by decide) ?_
        refine n_iald dX12_gasOf_39 (by first | rfl | exact pv_shx) (by omega) (by omega) (by decide) (rfl) (by omega) (by repeat (first | exact ns_h | exact clk_h | (apply rd_s; done) | apply rd_n (by omega) | apply rp_s | apply rp_n (by omega) | (apply rdL_s; done) | apply rdL_n (by omega) | apply rpJ_s | apply rpJ_n (by omega) | rfl)) ?_
        refine p_callV (ili) okX12_isLet lkX12_145 rfl (by first | rfl | exact pv_shx) rfl (by omega) (by omega) dX12_gasOf_40 rfl (Nat.le_of_ble_eq_true rfl) (⟨by decide, by decide, by decide, by decide⟩) ?_
        refine n_if_ne 49 dX12_gasOf_43 (by decide) (by first | (with_reducible exact cB _) | ((with_reducible apply cN_eq0) <;> omega) | exact Iff.rfl) (fun c43 => ?_) (fun c43 => by exfalso; exact c43 c1)
        refine g_iconst (v := nI 0) dX12_gasOf_49 (by decide) ?_
        refine g_istore dX12_gasOf_50 (by decide) rfl ?_
        refine g_iconst (v := nI 0) dX12_gasOf_52 (by decide) ?_
        refine g_istore dX12_gasOf_53 (by decide) rfl ?_
        exact sm s _ (by omega) key (w * h) 0 (by omega)
      · rw [es, if_neg c1] at h4
        refine g_iload dX12_gasOf_20 rfl ?_
        refine g_aload_n dX12_gasOf_22 rfl ?_
        refine g_getP dX12_gasOf_23 fdX12_7 rfl (by first | rfl | exact pv_shx) (by omega) (by omega) (by decide) rfl (hP _ _ _ rfl) ?_
        refine g_iconst (v := nI 3) dX12_gasOf_26 (by decide) ?_
        refine n_iald dX12_gasOf_27 (by first | rfl | exact pv_shx) (by omega) (by omega) (by decide) (rfl) (by omega) (by repeat (first | exact ns_h | exact clk_h | (apply rd_s; done) | apply rd_n (by omega) | apply rp_s | apply rp_n (by omega) | (apply rdL_s; done) | apply rdL_n (by omega) | apply rpJ_s | apply rpJ_n (by omega) | rfl)) ?_
        refine n_icmp_ge 207 dX12_gasOf_28 (by decide) (by first | ((with_reducible apply cN_le) <;> omega) | ((with_reducible apply cI_len) <;> omega) | ((with_reducible apply cI_nle) <;> omega) | (with_reducible exact cI_le)) (fun c28 => by exfalso; first | omega | exact absurd trivial c28 | exact c28) (fun c28 => ?_)
        refine g_aload_n dX12_gasOf_31 rfl ?_
        refine g_iload dX12_gasOf_32 rfl ?_
        refine g_aload_n dX12_gasOf_34 rfl ?_
        refine g_getP dX12_gasOf_35 fdX12_7 rfl (by first | rfl | exact pv_shx) (by omega) (by omega) (by decide) rfl (hP _ _ _ rfl) ?_
        refine g_iconst (v := nI 0) dX12_gasOf_38 (by decide) ?_
        refine n_iald dX12_gasOf_39 (by first | rfl | exact pv_shx) (by omega) (by omega) (by decide) (rfl) (by omega) (by repeat (first | exact ns_h | exact clk_h | (apply rd_s; done) | apply rd_n (by omega) | apply rp_s | apply rp_n (by omega) | (apply rdL_s; done) | apply rdL_n (by omega) | apply rpJ_s | apply rpJ_n (by omega) | rfl)) ?_
        refine p_callV (ili) okX12_isLet lkX12_145 rfl (by first | rfl | exact pv_shx) rfl (by omega) (by omega) dX12_gasOf_40 rfl (Nat.le_of_ble_eq_true rfl) (⟨by decide, by decide, by decide, by decide⟩) ?_
        refine n_if_ne 49 dX12_gasOf_43 (by decide) (by first | (with_reducible exact cB _) | ((with_reducible apply cN_eq0) <;> omega) | exact Iff.rfl) (fun c43 => by exfalso; exact c43 c1) (fun c43 => ?_)
        refine g_goto 201 dX12_gasOf_46 (by decide) ?_
        refine g_iinc dX12_gasOf_201 rfl (by first | (with_reducible exact nI_1 _) | exact nI_1 _ | exact pk_m1 _ | rfl) (by decide) rfl ?_
        refine g_goto 20 dX12_gasOf_204 (by decide) ?_
        exact dr _ _ _ _ h4
  refine pvMet.of _ (by decide) rfl (Nat.le_of_ble_eq_true rfl) ?_
  rw [hZ]
  refine g_iconst (v := (-1)) dX12_gasOf_0 (by decide) ?_
  refine g_istore dX12_gasOf_1 (by decide) rfl ?_
  refine g_aload_n dX12_gasOf_3 rfl ?_
  refine g_getP dX12_gasOf_4 fdX12_7 rfl (by first | rfl | exact pv_shx) (by omega) (by omega) (by decide) rfl (hP _ _ _ rfl) ?_
  refine g_sipush (v := nI 1080) dX12_gasOf_7 (by decide) ?_
  refine g_iconst (v := nI 5) dX12_gasOf_10 (by decide) ?_
  refine g_iload_n dX12_gasOf_11 rfl ?_
  refine n_imul dX12_gasOf_12 (by first | (with_reducible exact pk_mul _ _) | rfl) ?_
  refine n_iadd dX12_gasOf_13 (by first | (with_reducible exact nI_add _ _) | rfl) ?_
  refine n_iald dX12_gasOf_14 (by first | rfl | exact pv_shx) (by omega) (by omega) (by decide) (rfl) (by omega) (by repeat (first | exact hm3 | (apply rd_s; done) | apply rd_n (by omega) | apply rp_s | apply rp_n (by omega) | (apply rdL_s; done) | apply rdL_n (by omega) | apply rpJ_s | apply rpJ_n (by omega) | rfl)) ?_
  refine g_istore dX12_gasOf_15 (by decide) rfl ?_
  refine g_iconst (v := nI 0) dX12_gasOf_17 (by decide) ?_
  refine g_istore dX12_gasOf_18 (by decide) rfl ?_
  exact lp ns 0 (by omega)
