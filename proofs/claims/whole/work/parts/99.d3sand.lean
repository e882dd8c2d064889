/-! class: pour: sand runs -/
section SND
variable {w h : Nat} {a : Nat → Int32} {c0 : Nat} {I : pvI} {J : pvJ} {P : pvP}
theorem snd_lt (hw : 0 < w) (hc : c0 < w * h) : ∀ s c, (sndL w h a c0 s).1 c = true → c < w * h
  | 0, c, z => by
    have : c = c0 := of_decide_eq_true z
    omega
  | s + 1, c, z => by
    obtain ⟨-, -, x, x1, -, x3⟩ := bfs_L.mp z
    exact adj_lt hw x1 x3
theorem snd_next {s c : Nat} : ((spr w h (sndL w h a c0 s).1 c && rmB a c) && !(sndL w h a c0 s).2 c) = (sndL w h a c0 (s + 1)).1 c := by
  show _ = (rmB a c && !(sndL w h a c0 s).2 c && anyB (fun x => (sndL w h a c0 s).1 x && adjB w h x c) (w * h))
  unfold spr
  rw [Bool.and_comm (anyB _ _) (rmB a c), Bool.and_assoc, Bool.and_assoc, Bool.and_comm (anyB _ _) (!_)]
theorem snd_seen {s c : Nat} : ((sndL w h a c0 s).2 c || (sndL w h a c0 (s + 1)).1 c) = (sndL w h a c0 (s + 1)).2 c := rfl
theorem snd_empty {s : Nat} (h0 : ∀ c, c < 64 → (sndL w h a c0 s).1 c = false) (hwh : w * h ≤ 64) : ∀ k c, c < 64 → (sndL w h a c0 (s + k)).1 c = false
  | 0, c, hc => h0 c hc
  | k + 1, c, hc => by
    have ih := snd_empty h0 hwh k
    apply Bool.eq_false_iff.mpr
    intro z
    obtain ⟨-, -, x, x1, x2, -⟩ := bfs_L.mp z
    have := ih x (by omega)
    have x2 : (sndL w h a c0 (s + k)).1 x = true := x2
    rw [this] at x2
    cases x2
theorem pFl_none {f0 : Nat → Nat} {ly : Nat → Bool} {st : (Nat → Nat) × Nat} {n : Nat} (h : ∀ c, c < n → ly c = false) : pFl f0 ly st n = st := by
  have := pFl_skip (f0 := f0) (ly := ly) (st := st) (p := 0) n (fun c _ z => h c (by omega))
  rw [Nat.zero_add] at this
  exact this
theorem pLy_stop {f0 : Nat → Nat} {ly : Nat → Nat → Bool} {n t s : Nat} (hn : n ≤ 64) (h : (∀ k c, c < 64 → ly (s + k) c = false) ∨ (pLy f0 ly n t s).2 = 0) : ∀ k, pLy f0 ly n t (s + k) = pLy f0 ly n t s
  | 0 => rfl
  | k + 1 => by
    have ih := pLy_stop hn h k
    show pFl f0 (ly (s + k)) (pLy f0 ly n t (s + k)) n = _
    rw [ih]
    rcases h with h | h
    · exact pFl_none (fun c hc => h k c (by omega))
    · have := pFl_zero (f0 := f0) (ly := ly (s + k)) (st := pLy f0 ly n t s) (p := 0) h n
      rw [Nat.zero_add] at this
      exact this
def sanQ (w h : Nat) (f0 : Nat → Nat) (r : (Nat → Nat) × Nat) (np k : Nat) (I : pvI) (J : pvJ) (P : pvP) : pvQT := pvq P (fun v I' J' => v = some (.int (nI r.2)) ∧ (∀ c, c < 64 → I' 7 c = nI (f0 c + r.1 c)) ∧ I' 4 = upd (I 4) 7 (nI (np + 1)) ∧ (∀ z, z ≠ 7 → z ≠ 4 → I' z = I z) ∧ (∀ m, k < m → m < 100 → J' 8 m = mk (fun c => decide (c < w * h ∧ 20 ≤ f0 c + r.1 c))) ∧ (∀ m, m ≤ k → J' 8 m = J 8 m) ∧ ∀ z, z ≠ 8 → J' z = J z)
theorem c_runSand {t k np : Nat} {f0 : Nat → Nat} (hP : pvOkP P) (hg : gridOk w h I J) (hc : c0 < w * h) (ht : t ≤ 1000) (hk : k < 100) (h0 : ∀ c, c < 64 → f0 c ≤ 20) (h7 : ∀ c, c < 64 → I 7 c = nI (f0 c)) (hr : J 4 5 = mk (rmB a)) (hp : I 4 7 = nI np) (hnp : np ≤ 100) : pvMet mX3_runSand 3 0 0 [.ref 4, .int (nI c0), .int (nI t), .int (nI k)] 224 I J P (sanQ w h f0 (pLy f0 (fun s => (sndL w h a c0 s).1) (w * h) t 64) np k I J P) := by
  have hwh := hg.wh
  have hw := hg.2.2.2.2.2.2.1
  have bt := t_bit (nx := 224) (k := c0) (I := I) (J := J) (P := P) (by omega)
  generalize hL : (fun s => (sndL w h a c0 s).1) = L
  have hLv : ∀ s, (sndL w h a c0 s).1 = L s := fun s => by rw [← hL]
  have fin : ∀ I1 ls8 ls9 l4 l6, (∀ c, c < 64 → I1 7 c = nI (f0 c + (pLy f0 L (w * h) t 64).1 c)) → (∀ z, z ≠ 7 → I1 z = I z) → ls8 = nI (pLy f0 L (w * h) t 64).2 → pvG mX3_runSand (pvR 3 0 0) (pvZ (sanQ w h f0 (pLy f0 L (w * h) t 64) np k I J P) 0 0) 81 [.ref 4, .int (nI c0), .int (nI t), .int (nI k), .long l4, .retAddr 0, .long l6, .retAddr 0, .int ls8, .int ls9] [] 0 0 224 I1 J P := by
    intro I1 ls8 ls9 l4 l6 h1 h2 h3
    subst h3
    have ok := pLy_ok (f0 := f0) (ly := L) (n := w * h) (t := t) h0 64
    have p7 : I1 4 7 = nI np := by rw [h2 4 (by decide)]; exact hp
    have nf := c_noteFull (I := pvs I1 4 (upd (I1 4) 7 (nI (np + 1)))) (J := J) (F := fun c => f0 c + (pLy f0 L (w * h) t 64).1 c) (k := k) hP (hg.mv (by rw [pvs_ne (by decide), h2 2 (by decide)]) rfl) hk (fun c hc => by have := ok.1 c hc; show f0 c + (pLy f0 L (w * h) t 64).1 c ≤ 1000; omega) (fun c hc => by rw [pvs_ne (by decide)]; exact h1 c hc)
    refine g_aload_n dX3_runSand_81 rfl ?_
    refine g_dup dX3_runSand_82 rfl ?_
    refine n_getI dX3_runSand_83 fdX3_52 rfl (by first | rfl | exact pv_shx) (by omega) (by omega) (by decide) rfl (by repeat (first | exact p7 | (apply rd_s; done) | apply rd_n (by omega) | apply rp_s | apply rp_n (by omega) | (apply rdL_s; done) | apply rdL_n (by omega) | apply rpJ_s | apply rpJ_n (by omega) | rfl)) ?_
    refine g_iconst (v := nI 1) dX3_runSand_86 (by decide) ?_
    refine n_iadd dX3_runSand_87 (by first | (with_reducible exact nI_add _ _) | rfl) ?_
    refine n_putI dX3_runSand_88 fdX3_52 rfl (fun h => absurd h (by decide)) (by first | rfl | exact pv_shx) (by omega) (by omega) (by decide) rfl (by repeat (first | exact pvu_s | exact pvuJ_s | apply pvu_in (by omega) | apply pvuJ_in (by omega) | exact pvu_pvs | exact pvuJ_pvs)) ?_
    refine g_aload_n dX3_runSand_91 rfl ?_
    refine g_iload_n dX3_runSand_92 rfl ?_
    refine g_callV (nf) okX3_noteFull lkX3_71 rfl (by first | rfl | exact pv_shx) rfl (by omega) (by omega) dX3_runSand_93 rfl (Nat.le_of_ble_eq_true rfl) (⟨by decide, by decide, by decide, by decide⟩) ?_
    rintro v nx' I2 J2 P' ⟨rfl, rfl, rfl, rfl, q1, q2, q3⟩
    refine g_iload dX3_runSand_96 rfl ?_
    exact g_iret dX3_runSand_98 rfl (⟨rfl, rfl, rfl, fun c hc => by rw [pvs_ne (by decide)]; exact h1 c hc, by rw [pvs_eq, h2 4 (by decide)], fun z z1 z2 => by rw [pvs_ne z2]; exact h2 z z1, q1, q2, q3⟩)
  have lp : ∀ q s I1, s + q = 64 → (∀ c, c < 64 → I1 7 c = nI (f0 c + (pLy f0 L (w * h) t s).1 c)) → (∀ z, z ≠ 7 → I1 z = I z) → pvG mX3_runSand (pvR 3 0 0) (pvZ (sanQ w h f0 (pLy f0 L (w * h) t 64) np k I J P) 0 0) 16 [.ref 4, .int (nI c0), .int (nI t), .int (nI k), .long (mk (sndL w h a c0 s).2), .retAddr 0, .long (mk (sndL w h a c0 s).1), .retAddr 0, .int (nI (pLy f0 L (w * h) t s).2), .int (nI s)] [] 0 0 224 I1 J P := by
    intro q
    induction q with
    | zero =>
      intro s I1 hs h1 h2
      obtain rfl : s = 64 := by omega
      refine g_iload dX3_runSand_16 rfl ?_
      refine g_bipush (v := nI 64) dX3_runSand_18 (by decide) ?_
      refine n_icmp_ge 81 dX3_runSand_20 (by decide) (by first | ((with_reducible apply cN_le) <;> omega) | ((with_reducible apply cI_len) <;> omega) | ((with_reducible apply cI_nle) <;> omega) | (with_reducible exact cI_le)) (fun c20 => ?_) (fun c20 => by exfalso; first | omega | exact absurd trivial c20 | exact c20 | (simp at c20))
      exact fin I1 _ _ _ _ h1 h2 rfl
    | succ q ih =>
      intro s I1 hs h1 h2
      have ok := pLy_ok (f0 := f0) (ly := L) (n := w * h) (t := t) h0 s
      by_cases he : ∀ c, c < 64 → (sndL w h a c0 s).1 c = false
      · have hz : mk (sndL w h a c0 s).1 = 0 := mk_eq0.mpr he
        have e := pLy_stop (f0 := f0) (ly := L) (n := w * h) (t := t) (s := s) hwh.2 (Or.inl (fun k c hc => by rw [← hLv]; exact snd_empty he hwh.2 k c hc)) (64 - s)
        rw [show s + (64 - s) = 64 by omega] at e
        refine g_iload dX3_runSand_16 rfl ?_
        refine g_bipush (v := nI 64) dX3_runSand_18 (by decide) ?_
        refine n_icmp_ge 81 dX3_runSand_20 (by decide) (by first | ((with_reducible apply cN_le) <;> omega) | ((with_reducible apply cI_len) <;> omega) | ((with_reducible apply cI_nle) <;> omega) | (with_reducible exact cI_le)) (fun c20 => by exfalso; first | omega | exact absurd trivial c20 | exact c20 | (simp at c20)) (fun c20 => ?_)
        refine g_lload dX3_runSand_23 rfl ?_
        refine g_lconst (v := 0) dX3_runSand_25 (by decide) ?_
        refine g_lcmp dX3_runSand_26 ?_
        refine n_if_eq 81 dX3_runSand_27 (by decide) (lg_cmp_eq _ _) (fun c27 => ?_) (fun c27 => by exfalso; exact c27 hz)
        exact fin I1 _ _ _ _ (by rw [e]; exact h1) h2 (by rw [e])
      · have hz : ¬ mk (sndL w h a c0 s).1 = 0 := fun z => he (fun c hc => mk_eq0.mp z c hc)
        by_cases hl : (pLy f0 L (w * h) t s).2 = 0
        · have e := pLy_stop (f0 := f0) (ly := L) (n := w * h) (t := t) (s := s) hwh.2 (Or.inr hl) (64 - s)
          rw [show s + (64 - s) = 64 by omega] at e
          have ok2 := ok.2
          refine g_iload dX3_runSand_16 rfl ?_
          refine g_bipush (v := nI 64) dX3_runSand_18 (by decide) ?_
          refine n_icmp_ge 81 dX3_runSand_20 (by decide) (by first | ((with_reducible apply cN_le) <;> omega) | ((with_reducible apply cI_len) <;> omega) | ((with_reducible apply cI_nle) <;> omega) | (with_reducible exact cI_le)) (fun c20 => by exfalso; first | omega | exact absurd trivial c20 | exact c20 | (simp at c20)) (fun c20 => ?_)
          refine g_lload dX3_runSand_23 rfl ?_
          refine g_lconst (v := 0) dX3_runSand_25 (by decide) ?_
          refine g_lcmp dX3_runSand_26 ?_
          refine n_if_eq 81 dX3_runSand_27 (by decide) (lg_cmp_eq _ _) (fun c27 => by exfalso; exact hz c27) (fun c27 => ?_)
          refine g_iload dX3_runSand_30 rfl ?_
          refine n_if_le 81 dX3_runSand_32 (by decide) (by first | ((with_reducible apply cN_le0) <;> omega) | (with_reducible exact cI_le0)) (fun c32 => ?_) (fun c32 => by exfalso; first | omega | exact absurd trivial c32 | exact c32 | (simp at c32))
          exact fin I1 _ _ _ _ (by rw [e]; exact h1) h2 (by rw [e])
        · have ok2 := ok.2
          have fl := c_fillLayer (I := I1) (J := J) (f0 := f0) (ly := (sndL w h a c0 s).1) (st := pLy f0 L (w * h) t s) (t := t) hP ok ht h1
          have e64 : pFl f0 (sndL w h a c0 s).1 (pLy f0 L (w * h) t s) 64 = pLy f0 L (w * h) t (s + 1) := by
            show _ = pFl f0 (L s) (pLy f0 L (w * h) t s) (w * h)
            rw [← hLv]
            have := pFl_skip (f0 := f0) (ly := (sndL w h a c0 s).1) (st := pLy f0 L (w * h) t s) (p := w * h) (64 - w * h) (fun c y1 y2 => Bool.eq_false_iff.mpr (fun z => by have := snd_lt (by omega) hc s c z; omega))
            rw [show w * h + (64 - w * h) = 64 by omega] at this
            exact this
          rw [e64] at fl
          have eS : mk (fun c => spr w h (sndL w h a c0 s).1 c && rmB a c) &&& mk (fun c => !(sndL w h a c0 s).2 c) = mk (sndL w h a c0 (s + 1)).1 := mk_and.trans (mk_cong (fun c _ => snd_next))
          have eO : mk (sndL w h a c0 s).2 ||| mk (sndL w h a c0 (s + 1)).1 = mk (sndL w h a c0 (s + 1)).2 := mk_or.trans (mk_cong (fun c _ => snd_seen))
          refine g_iload dX3_runSand_16 rfl ?_
          refine g_bipush (v := nI 64) dX3_runSand_18 (by decide) ?_
          refine n_icmp_ge 81 dX3_runSand_20 (by decide) (by first | ((with_reducible apply cN_le) <;> omega) | ((with_reducible apply cI_len) <;> omega) | ((with_reducible apply cI_nle) <;> omega) | (with_reducible exact cI_le)) (fun c20 => by exfalso; first | omega | exact absurd trivial c20 | exact c20 | (simp at c20)) (fun c20 => ?_)
          refine g_lload dX3_runSand_23 rfl ?_
          refine g_lconst (v := 0) dX3_runSand_25 (by decide) ?_
          refine g_lcmp dX3_runSand_26 ?_
          refine n_if_eq 81 dX3_runSand_27 (by decide) (lg_cmp_eq _ _) (fun c27 => by exfalso; exact hz c27) (fun c27 => ?_)
          refine g_iload dX3_runSand_30 rfl ?_
          refine n_if_le 81 dX3_runSand_32 (by decide) (by first | ((with_reducible apply cN_le0) <;> omega) | (with_reducible exact cI_le0)) (fun c32 => by exfalso; first | omega | exact absurd trivial c32 | exact c32 | (simp at c32)) (fun c32 => ?_)
          refine g_aload_n dX3_runSand_35 rfl ?_
          refine g_lload dX3_runSand_36 rfl ?_
          refine g_iload dX3_runSand_38 rfl ?_
          refine g_callV (fl) okX3_fillLayer lkX3_61 rfl (by first | rfl | exact pv_shx) rfl (by omega) (by omega) dX3_runSand_40 rfl (Nat.le_of_ble_eq_true rfl) (⟨by decide, by decide, by decide, by decide⟩) ?_
          rintro v nx' I2 J2 P' ⟨rfl, rfl, rfl, rfl, q1, q2⟩
          have sp := c_spread (P := P') (I := I2) (J := J2) (hg.mv (by rw [q2 2 (by decide), h2 2 (by decide)]) rfl) (f := (sndL w h a c0 s).1) (snd_lt (by omega) hc s)
          refine g_istore dX3_runSand_43 (by decide) rfl ?_
          refine g_aload_n dX3_runSand_45 rfl ?_
          refine g_getP dX3_runSand_46 fdX3_35 rfl (by first | rfl | exact pv_shx) (by omega) (by omega) (by decide) rfl (hP _ _ _ rfl) ?_
          refine g_lload dX3_runSand_49 rfl ?_
          refine p_callV (sp) okX2_spread lkX3_65 rfl (by first | rfl | exact pv_shx) rfl (by omega) (by omega) dX3_runSand_51 rfl (Nat.le_of_ble_eq_true rfl) (⟨by decide, by decide, by decide, by decide⟩) ?_
          refine g_aload_n dX3_runSand_54 rfl ?_
          refine n_getJ dX3_runSand_55 fdX3_45 rfl (by first | rfl | exact pv_shx) (by omega) (by omega) (by decide) rfl (by repeat (first | exact hr | (apply rd_s; done) | apply rd_n (by omega) | apply rp_s | apply rp_n (by omega) | (apply rdL_s; done) | apply rdL_n (by omega) | apply rpJ_s | apply rpJ_n (by omega) | rfl)) ?_
          refine n_land dX3_runSand_58 (mk_and) ?_
          refine g_lload dX3_runSand_59 rfl ?_
          refine g_ldc2 (v := (-1 : Int64)) dX3_runSand_61 kcX3_59 ?_
          refine n_lxor dX3_runSand_64 (mk_not) ?_
          refine n_land dX3_runSand_65 (eS) ?_
          refine g_lstore dX3_runSand_66 (by decide) rfl ?_
          refine g_lload dX3_runSand_68 rfl ?_
          refine g_lload dX3_runSand_70 rfl ?_
          refine n_lor dX3_runSand_72 (eO) ?_
          refine g_lstore dX3_runSand_73 (by decide) rfl ?_
          refine g_iinc dX3_runSand_75 rfl (by first | (with_reducible exact nI_1 _) | exact nI_1 _ | exact pk_m1 _ | rfl) (by decide) rfl ?_
          refine g_goto 16 dX3_runSand_78 (by decide) ?_
          exact ih (s + 1) I2 (by omega) q1 (fun z hz => (q2 z hz).trans (h2 z hz))
  have go := lp 64 0 I rfl (fun c hc => by rw [h7 c hc]; rfl) (fun _ _ => rfl)
  refine pvMet.of _ (by decide) rfl (Nat.le_of_ble_eq_true rfl) ?_
  refine g_iload_n dX3_runSand_0 rfl ?_
  refine p_callNS (bt) okX11_bit lkX3_55 rfl dX3_runSand_1 rfl (Nat.le_of_ble_eq_true rfl) (⟨by decide, by decide, by decide, by decide⟩) ?_
  refine g_lstore dX3_runSand_4 (by decide) rfl ?_
  refine g_lload dX3_runSand_6 rfl ?_
  refine g_lstore dX3_runSand_8 (by decide) rfl ?_
  refine g_iload_n dX3_runSand_10 rfl ?_
  refine g_istore dX3_runSand_11 (by decide) rfl ?_
  refine g_iconst (v := nI 0) dX3_runSand_13 (by decide) ?_
  refine g_istore dX3_runSand_14 (by decide) rfl ?_
  exact go
end SND
