/-! class: a fire settles at the beginning of a week; a fire begins -/
section STL2
variable {w h : Nat} {a : Nat → Int32} {wl : Nat} {wo : Option Nat} {s F m sn cat ce wk : Nat} {I : pvI} {J : pvJ} {P : pvP}
theorem f_settle (hP : pvOkP P) (hA : fAd F) (hm : m ≤ 99) (hs : sn ≤ 100) (h4 : I F 4 = nI m) (h5 : I F 5 = nI sn) (h0 : I F 0 = nI ce) (h1 : I F 1 = nI wk) (hce : cnt a (260 + 2 * s) = ce) (hwk : cnt a (260 + 2 * s + 1) = wk) (hce2 : ce < 64) (hwk2 : wk ≤ 99) (hcut : J 19 m = mk (cutb w h a (m + 1))) (hc : fCu F cat (fraw w h a wl wo s m) I J) (hI : fI w h a m (fraw w h a wl wo s m)) : pvMet mX1_settle 2 0 0 [.ref F, .ref 3] 224 I J P (stQ w h a wl wo s F m sn cat I J P) := by
  obtain ⟨⟨s0, s1, s2, s3, s4, s5⟩, h90, h138⟩ := hA.sh
  obtain ⟨p10, p11, p12, p13, p14⟩ := hA.pp hP
  obtain ⟨v6, v7, v8, v1, v2, wm, v9, cw⟩ := hc
  have hset := fbeg_sets (s := s) hI
  have eB : (fun c => (mB (fraw w h a wl wo s m) c || ign a s m (fraw w h a wl wo s m) c) && !cutb w h a (m + 1) c) = mB (fwk w h a wl wo s m) := funext (fun c => (hset c).1)
  have eT : (fun c => mT (fraw w h a wl wo s m) c && !cutb w h a (m + 1) c) = mT (fwk w h a wl wo s m) := funext (fun c => (hset c).2.1)
  have eU : (fun c => mU (fraw w h a wl wo s m) c && !cutb w h a (m + 1) c) = mU (fwk w h a wl wo s m) := funext (fun c => (hset c).2.2.1)
  have eM : (fun c => (mB (fraw w h a wl wo s m) c || ign a s m (fraw w h a wl wo s m) c) || mT (fraw w h a wl wo s m) c) = metB w h a wl wo s m := funext (fun c => (hset c).2.2.2.2)
  have eL : ∀ c, (fwk w h a wl wo s m).2.1 c = (if (mU (fraw w h a wl wo s m) c && cutb w h a (m + 1) c) = true then 0 else (fraw w h a wl wo s m).2.1 c) := fun c => (hset c).2.2.2.1
  have e22 : (fwk w h a wl wo s m).2.2 = (fraw w h a wl wo s m).2.2 := rfl
  have e11 : ∀ c, 0 < (fwk w h a wl wo s m).2.1 c → (fwk w h a wl wo s m).1 c ≠ 1 → 0 < (fraw w h a wl wo s m).2.1 c ∧ (fraw w h a wl wo s m).1 c ≠ 1 := by
    intro c z1 z2
    have hU := (hset c).2.2.1
    have hB := (hset c).1
    have zu : mU (fwk w h a wl wo s m) c = true := decide_eq_true z1
    have zb : mB (fwk w h a wl wo s m) c = false := decide_eq_false z2
    have hU' : (mU (fraw w h a wl wo s m) c && !cutb w h a (m + 1) c) = true := hU.trans zu
    have hB' : ((mB (fraw w h a wl wo s m) c || ign a s m (fraw w h a wl wo s m) c) && !cutb w h a (m + 1) c) = false := hB.trans zb
    rw [Bool.and_eq_true] at hU'
    rw [hU'.2, Bool.and_true, Bool.or_eq_false_iff] at hB'
    exact ⟨of_decide_eq_true hU'.1, of_decide_eq_false hB'.1⟩
  unfold stQ
  generalize hb : fwk w h a wl wo s m = b at *
  generalize hr : fraw w h a wl wo s m = r at *
  generalize hmet : metB w h a wl wo s m = met at *
  -- the end
  have fin : ∀ tg, (∀ c, c < 64 → tg c = nI (b.2.1 c)) → pvG mX1_settle (pvR 2 0 0) (pvZ (pvq P (fun v I' J' => v = none ∧ fCu F cat b I' J' ∧ fWk F m b met J' ∧ fFr F I J I' J' ∧ I' F 4 = nI m ∧ I' F 5 = nI (max sn (m + 1)) ∧ ∀ k, k ≠ m → J' (F + 3) k = J (F + 3) k ∧ J' (F + 4) k = J (F + 4) k ∧ J' (F + 5) k = J (F + 5) k)) 0 0) 114 [.ref F, .ref 3, .long (mk (cutb w h a (m + 1))), .retAddr 0, .retAddr 0, .retAddr 0, .retAddr 0] [] 0 0 224 (pvs I (F + 1) tg) (pvsJ (pvsJ J (F + 5) (vp_updL (J (F + 5)) m (mk met))) F (vp_updL (J F) 6 (mk (fun c => mB r c || ign a s m r c)))) P := by
    intro tg htg
    generalize hJ3 : pvsJ (pvsJ J (F + 5) (vp_updL (J (F + 5)) m (mk met))) F (vp_updL (vp_updL (vp_updL (vp_updL (J F) 6 (mk (fun c => mB r c || ign a s m r c))) 8 (mk (mU b))) 6 (mk (mB b))) 7 (mk (mT b))) = J3
    have nt := f_note (J := J3) (I := pvs I (F + 1) tg) (sn := sn) hP hA (rp_n (by omega) h4) hm (rp_n (by omega) h5) hs
    refine g_aload_n dX1_settle_114 rfl ?_
    refine g_dup dX1_settle_115 rfl ?_
    refine n_getJ dX1_settle_116 fdX1_61 rfl (by first | exact s0) (by omega) (by omega) (by decide) rfl (by repeat (first | exact v8 | exact v7 | (apply rd_s; done) | apply rd_n (by omega) | apply rp_s | apply rp_n (by omega) | (apply rdL_s; done) | apply rdL_n (by omega) | apply rpJ_s | apply rpJ_n (by omega) | rfl)) ?_
    refine g_lload_n dX1_settle_119 rfl ?_
    refine g_ldc2 (v := (-1 : Int64)) dX1_settle_120 kcX1_119 ?_
    refine n_lxor dX1_settle_123 (mk_not) ?_
    refine n_land dX1_settle_124 (mk_and.trans (congrArg mk eU)) ?_
    refine n_putJ dX1_settle_125 fdX1_61 rfl (fun h => absurd h (by decide)) (by first | exact s0) (by omega) (by omega) (by decide) rfl (by repeat (first | exact pvu_s | exact pvuJ_s | apply pvu_in (by omega) | apply pvuJ_in (by omega) | exact pvu_pvs | exact pvuJ_pvs)) ?_
    refine g_aload_n dX1_settle_128 rfl ?_
    refine g_dup dX1_settle_129 rfl ?_
    refine n_getJ dX1_settle_130 fdX1_54 rfl (by first | exact s0) (by omega) (by omega) (by decide) rfl (by repeat (first | exact v8 | exact v7 | (apply rd_s; done) | apply rd_n (by omega) | apply rp_s | apply rp_n (by omega) | (apply rdL_s; done) | apply rdL_n (by omega) | apply rpJ_s | apply rpJ_n (by omega) | rfl)) ?_
    refine g_lload_n dX1_settle_133 rfl ?_
    refine g_ldc2 (v := (-1 : Int64)) dX1_settle_134 kcX1_119 ?_
    refine n_lxor dX1_settle_137 (mk_not) ?_
    refine n_land dX1_settle_138 (mk_and.trans (congrArg mk eB)) ?_
    refine n_putJ dX1_settle_139 fdX1_54 rfl (fun h => absurd h (by decide)) (by first | exact s0) (by omega) (by omega) (by decide) rfl (by repeat (first | exact pvu_s | exact pvuJ_s | apply pvu_in (by omega) | apply pvuJ_in (by omega) | exact pvu_pvs | exact pvuJ_pvs)) ?_
    refine g_aload_n dX1_settle_142 rfl ?_
    refine g_dup dX1_settle_143 rfl ?_
    refine n_getJ dX1_settle_144 fdX1_58 rfl (by first | exact s0) (by omega) (by omega) (by decide) rfl (by repeat (first | exact v8 | exact v7 | (apply rd_s; done) | apply rd_n (by omega) | apply rp_s | apply rp_n (by omega) | (apply rdL_s; done) | apply rdL_n (by omega) | apply rpJ_s | apply rpJ_n (by omega) | rfl)) ?_
    refine g_lload_n dX1_settle_147 rfl ?_
    refine g_ldc2 (v := (-1 : Int64)) dX1_settle_148 kcX1_119 ?_
    refine n_lxor dX1_settle_151 (mk_not) ?_
    refine n_land dX1_settle_152 (mk_and.trans (congrArg mk eT)) ?_
    refine n_putJ dX1_settle_153 fdX1_58 rfl (fun h => absurd h (by decide)) (by first | exact s0) (by omega) (by omega) (by decide) rfl (by repeat (first | exact pvu_s | exact pvuJ_s | apply pvu_in (by omega) | apply pvuJ_in (by omega) | exact pvu_pvs | exact pvuJ_pvs)) ?_
    refine g_aload_n dX1_settle_156 rfl ?_
    rw [hJ3]
    refine g_callV (nt) okX1_note lkX1_73 rfl (s0) rfl (by omega) (by omega) dX1_settle_157 rfl (Nat.le_of_ble_eq_true rfl) (⟨by decide, by decide, by decide, by decide⟩) ?_
    rintro v nx' I4 J4 P' ⟨rfl, rfl, rfl, e1, e2, e3, e4⟩
    refine g_vret dX1_settle_160 rfl (⟨rfl, rfl, rfl, ⟨?_, ?_, ?_, fun c hc => ?_, fun c hc => ?_, wm, ?_, fun c hc z1 z2 z3 => ?_⟩, ⟨?_, ?_, ?_⟩, ⟨fun x hx => ?_, fun x hx => ?_, fun j z1 z2 => ?_, ?_⟩, ?_, ?_, fun k hk => ⟨?_, ?_, ?_⟩⟩)
    · rw [e4 F (by simp), ← hJ3]; simp [pvsJ, vp_updL]
    · rw [e4 F (by simp), ← hJ3]; simp [pvsJ, vp_updL]
    · rw [e4 F (by simp), ← hJ3]; simp [pvsJ, vp_updL]
    · rw [e1, pvs_ne (by omega), pvs_eq]; exact htg c hc
    · rw [e1, pvs_ne (by omega), pvs_ne (by omega), e22]; exact v2 c hc
    · rw [e4 F (by simp), ← hJ3]; simp [pvsJ, vp_updL]; exact v9
    · rw [e22] at z3
      obtain ⟨y1, y2⟩ := e11 c z1 z2
      exact cw c hc y1 y2 z3
    · rw [e2, ← hJ3]; simp [pvsJ, vp_updL]
    · rw [e3, ← hJ3]; simp [pvsJ, vp_updL]
    · rw [e4 (F + 5) (by simp), ← hJ3]; simp [pvsJ, vp_updL]
    · simp at hx; rw [e1, pvs_ne hx.1, pvs_ne hx.2.1]
    · simp at hx; rw [e4 x (by simp [hx]), ← hJ3, pvsJ_ne hx.1, pvsJ_ne hx.2.2.2]
    · rw [e1, pvs_eq]; simp [upd, z2]; rw [pvs_ne (by omega)]
    · rw [e4 F (by simp), ← hJ3]; simp [pvsJ, vp_updL]
    · rw [e1, pvs_eq]; simp [upd]; rw [pvs_ne (by omega)]; exact h4
    · rw [e1, pvs_eq]; simp [upd]
    · rw [e2, ← hJ3]; simp [pvsJ, vp_updL, hk]
    · rw [e3, ← hJ3]; simp [pvsJ, vp_updL, hk]
    · rw [e4 (F + 5) (by simp), ← hJ3]; simp [pvsJ, vp_updL, hk]
  -- from the cuts on
  have f32 : pvG mX1_settle (pvR 2 0 0) (pvZ (pvq P (fun v I' J' => v = none ∧ fCu F cat b I' J' ∧ fWk F m b met J' ∧ fFr F I J I' J' ∧ I' F 4 = nI m ∧ I' F 5 = nI (max sn (m + 1)) ∧ ∀ k, k ≠ m → J' (F + 3) k = J (F + 3) k ∧ J' (F + 4) k = J (F + 4) k ∧ J' (F + 5) k = J (F + 5) k)) 0 0) 32 [.ref F, .ref 3, .retAddr 0, .retAddr 0, .retAddr 0, .retAddr 0, .retAddr 0] [] 0 0 224 I (pvsJ J F (vp_updL (J F) 6 (mk (fun c => mB r c || ign a s m r c)))) P := by
    have lp := k_set1 (I := I) (f := fun c => mU r c && cutb w h a (m + 1) c) (cu := mk (cutb w h a (m + 1))) (tg := I (F + 1)) hP hA (fin (fun c => if c < 64 ∧ (mU r c && cutb w h a (m + 1) c) = true then nI 0 else I (F + 1) c) (fun c hc => by
      show (if c < 64 ∧ (mU r c && cutb w h a (m + 1) c) = true then nI 0 else I (F + 1) c) = _
      rw [eL c]
      by_cases z : (mU r c && cutb w h a (m + 1) c) = true
      · rw [if_pos ⟨hc, z⟩, if_pos z]
      · rw [if_neg (fun y => z y.2), if_neg z]; exact v1 c hc)) 64 0 0 (by omega) (by omega) (by omega)
    rw [show (fun c => if c < 0 ∧ (mU r c && cutb w h a (m + 1) c) = true then nI 0 else I (F + 1) c) = I (F + 1) from by funext c; rw [if_neg (by omega)], pvs_self] at lp
    refine g_aload_n dX1_settle_32 rfl ?_
    refine g_getP dX1_settle_33 fdX1_32 rfl (by first | exact s0 | exact s5 | rfl) (by omega) (by omega) (by decide) rfl (by first | exact p14 | exact hP _ _ _ rfl) ?_
    refine g_aload_n dX1_settle_36 rfl ?_
    refine n_getI dX1_settle_37 fdX1_15 rfl (by first | exact s0 | exact s5 | rfl) (by omega) (by omega) (by decide) rfl (by repeat (first | exact h4 | exact v7 | exact v8 | exact hcut | (apply rd_s; done) | apply rd_n (by omega) | apply rp_s | apply rp_n (by omega) | (apply rdL_s; done) | apply rdL_n (by omega) | apply rpJ_s | apply rpJ_n (by omega) | rfl)) ?_
    refine g_aload_n dX1_settle_40 rfl ?_
    refine n_getJ dX1_settle_41 fdX1_54 rfl (by first | exact s0 | exact s5 | rfl) (by omega) (by omega) (by decide) rfl (by repeat (first | exact h4 | exact v7 | exact v8 | exact hcut | (apply rd_s; done) | apply rd_n (by omega) | apply rp_s | apply rp_n (by omega) | (apply rdL_s; done) | apply rdL_n (by omega) | apply rpJ_s | apply rpJ_n (by omega) | rfl)) ?_
    refine g_aload_n dX1_settle_44 rfl ?_
    refine n_getJ dX1_settle_45 fdX1_58 rfl (by first | exact s0 | exact s5 | rfl) (by omega) (by omega) (by decide) rfl (by repeat (first | exact h4 | exact v7 | exact v8 | exact hcut | (apply rd_s; done) | apply rd_n (by omega) | apply rp_s | apply rp_n (by omega) | (apply rdL_s; done) | apply rdL_n (by omega) | apply rpJ_s | apply rpJ_n (by omega) | rfl)) ?_
    refine n_lor dX1_settle_48 (mk_or.trans (congrArg mk eM)) ?_
    refine n_last dX1_settle_49 (by first | exact s0 | exact s5 | rfl) (by omega) (by omega) (by omega) (by decide) (rfl) (by omega) (by repeat (first | exact pvu_s | exact pvuJ_s | apply pvu_in (by omega) | apply pvuJ_in (by omega) | exact pvu_pvs | exact pvuJ_pvs)) ?_
    refine g_aload_n dX1_settle_50 rfl ?_
    refine g_getP dX1_settle_51 fdX1_106 rfl (by first | exact s0 | exact s5 | rfl) (by omega) (by omega) (by decide) rfl (by first | exact p14 | exact hP _ _ _ rfl) ?_
    refine g_getP dX1_settle_54 fdX1_110 rfl (by first | exact s0 | exact s5 | rfl) (by omega) (by omega) (by decide) rfl (by first | exact p14 | exact hP _ _ _ rfl) ?_
    refine g_aload_n dX1_settle_57 rfl ?_
    refine n_getI dX1_settle_58 fdX1_15 rfl (by first | exact s0 | exact s5 | rfl) (by omega) (by omega) (by decide) rfl (by repeat (first | exact h4 | exact v7 | exact v8 | exact hcut | (apply rd_s; done) | apply rd_n (by omega) | apply rp_s | apply rp_n (by omega) | (apply rdL_s; done) | apply rdL_n (by omega) | apply rpJ_s | apply rpJ_n (by omega) | rfl)) ?_
    refine n_lald dX1_settle_61 (by first | exact s0 | exact s5 | rfl) (by omega) (by omega) (by decide) (rfl) (by omega) (by repeat (first | exact h4 | exact v7 | exact v8 | exact hcut | (apply rd_s; done) | apply rd_n (by omega) | apply rp_s | apply rp_n (by omega) | (apply rdL_s; done) | apply rdL_n (by omega) | apply rpJ_s | apply rpJ_n (by omega) | rfl)) ?_
    refine g_lstore_n dX1_settle_62 (by decide) rfl ?_
    refine g_aload_n dX1_settle_63 rfl ?_
    refine n_getJ dX1_settle_64 fdX1_61 rfl (by first | exact s0 | exact s5 | rfl) (by omega) (by omega) (by decide) rfl (by repeat (first | exact h4 | exact v7 | exact v8 | exact hcut | (apply rd_s; done) | apply rd_n (by omega) | apply rp_s | apply rp_n (by omega) | (apply rdL_s; done) | apply rdL_n (by omega) | apply rpJ_s | apply rpJ_n (by omega) | rfl)) ?_
    refine g_lload_n dX1_settle_67 rfl ?_
    refine n_land dX1_settle_68 (mk_and.trans rst_0.symm) ?_
    refine g_lstore dX1_settle_69 (by decide) rfl ?_
    refine g_iconst (v := nI 0) dX1_settle_71 (by decide) ?_
    refine g_istore dX1_settle_72 (by decide) rfl ?_
    exact g_drop _ (by repeat (first | exact trivial | refine ⟨Or.inr ⟨_, rfl⟩, ?_⟩ | refine ⟨Or.inl rfl, ?_⟩)) lp
  by_cases hmw : m = wk
  · have eI : mk (mB r) ||| mk (fun c => decide (c = ce) && mU r c) = mk (fun c => mB r c || ign a s m r c) := by
      rw [mk_or]
      refine mk_cong (fun c hc => ?_)
      congr 1
      unfold ign mU
      rw [hce, hwk, hmw]
      simp
    refine pvMet.of _ (by decide) rfl (Nat.le_of_ble_eq_true rfl) ?_
    refine g_aload_n dX1_settle_0 rfl ?_
    refine n_getI dX1_settle_1 fdX1_15 rfl (by first | exact s0) (by omega) (by omega) (by decide) rfl (by repeat (first | exact h4 | exact h1 | exact h0 | exact v6 | exact v8 | (apply rd_s; done) | apply rd_n (by omega) | apply rp_s | apply rp_n (by omega) | (apply rdL_s; done) | apply rdL_n (by omega) | apply rpJ_s | apply rpJ_n (by omega) | rfl)) ?_
    refine g_aload_n dX1_settle_4 rfl ?_
    refine n_getI dX1_settle_5 fdX1_38 rfl (by first | exact s0) (by omega) (by omega) (by decide) rfl (by repeat (first | exact h4 | exact h1 | exact h0 | exact v6 | exact v8 | (apply rd_s; done) | apply rd_n (by omega) | apply rp_s | apply rp_n (by omega) | (apply rdL_s; done) | apply rdL_n (by omega) | apply rpJ_s | apply rpJ_n (by omega) | rfl)) ?_
    refine n_icmp_ne 32 dX1_settle_8 (by decide) (by first | ((with_reducible apply cN_eq) <;> omega) | ((with_reducible apply cI_eqn) <;> omega) | exact Iff.rfl) (fun c8 => by exfalso; first | omega | exact absurd trivial c8 | exact c8 | (simp at c8)) (fun c8 => ?_)
    refine g_aload_n dX1_settle_11 rfl ?_
    refine g_dup dX1_settle_12 rfl ?_
    refine n_getJ dX1_settle_13 fdX1_54 rfl (by first | exact s0) (by omega) (by omega) (by decide) rfl (by repeat (first | exact h4 | exact h1 | exact h0 | exact v6 | exact v8 | (apply rd_s; done) | apply rd_n (by omega) | apply rp_s | apply rp_n (by omega) | (apply rdL_s; done) | apply rdL_n (by omega) | apply rpJ_s | apply rpJ_n (by omega) | rfl)) ?_
    refine g_aload_n dX1_settle_16 rfl ?_
    refine n_getI dX1_settle_17 fdX1_35 rfl (by first | exact s0) (by omega) (by omega) (by decide) rfl (by repeat (first | exact h4 | exact h1 | exact h0 | exact v6 | exact v8 | (apply rd_s; done) | apply rd_n (by omega) | apply rp_s | apply rp_n (by omega) | (apply rdL_s; done) | apply rdL_n (by omega) | apply rpJ_s | apply rpJ_n (by omega) | rfl)) ?_
    refine p_callNS (t_bit hce2) okX11_bit lkX1_102 rfl dX1_settle_20 rfl (Nat.le_of_ble_eq_true rfl) (⟨by decide, by decide, by decide, by decide⟩) ?_
    refine g_aload_n dX1_settle_23 rfl ?_
    refine n_getJ dX1_settle_24 fdX1_61 rfl (by first | exact s0) (by omega) (by omega) (by decide) rfl (by repeat (first | exact h4 | exact h1 | exact h0 | exact v6 | exact v8 | (apply rd_s; done) | apply rd_n (by omega) | apply rp_s | apply rp_n (by omega) | (apply rdL_s; done) | apply rdL_n (by omega) | apply rpJ_s | apply rpJ_n (by omega) | rfl)) ?_
    refine n_land dX1_settle_27 (mk_and) ?_
    refine n_lor dX1_settle_28 (eI) ?_
    refine n_putJ dX1_settle_29 fdX1_54 rfl (fun h => absurd h (by decide)) (by first | exact s0) (by omega) (by omega) (by decide) rfl (by repeat (first | exact pvu_s | exact pvuJ_s | apply pvu_in (by omega) | apply pvuJ_in (by omega) | exact pvu_pvs | exact pvuJ_pvs)) ?_
    exact g_drop _ (by repeat (first | exact trivial | refine ⟨Or.inr ⟨_, rfl⟩, ?_⟩ | refine ⟨Or.inl rfl, ?_⟩)) f32
  · have eI : vp_updL (J F) 6 (mk (fun c => mB r c || ign a s m r c)) = J F := updL_self (by
      rw [v6]
      refine mk_cong (fun c hc => ?_)
      have : ign a s m r c = false := by
        unfold ign
        rw [hwk]
        simp
        intro z
        exact absurd z.symm hmw
      rw [this, Bool.or_false])
    rw [eI, pvsJ_self] at f32
    refine pvMet.of _ (by decide) rfl (Nat.le_of_ble_eq_true rfl) ?_
    refine g_aload_n dX1_settle_0 rfl ?_
    refine n_getI dX1_settle_1 fdX1_15 rfl (by first | exact s0) (by omega) (by omega) (by decide) rfl (by repeat (first | exact h4 | exact h1 | (apply rd_s; done) | apply rd_n (by omega) | apply rp_s | apply rp_n (by omega) | (apply rdL_s; done) | apply rdL_n (by omega) | apply rpJ_s | apply rpJ_n (by omega) | rfl)) ?_
    refine g_aload_n dX1_settle_4 rfl ?_
    refine n_getI dX1_settle_5 fdX1_38 rfl (by first | exact s0) (by omega) (by omega) (by decide) rfl (by repeat (first | exact h4 | exact h1 | (apply rd_s; done) | apply rd_n (by omega) | apply rp_s | apply rp_n (by omega) | (apply rdL_s; done) | apply rdL_n (by omega) | apply rpJ_s | apply rpJ_n (by omega) | rfl)) ?_
    refine n_icmp_ne 32 dX1_settle_8 (by decide) (by first | ((with_reducible apply cN_eq) <;> omega) | ((with_reducible apply cI_eqn) <;> omega) | exact Iff.rfl) (fun c8 => ?_) (fun c8 => by exfalso; first | omega | exact absurd trivial c8 | exact c8 | (simp at c8))
    exact g_drop _ (by repeat (first | exact trivial | refine ⟨Or.inr ⟨_, rfl⟩, ?_⟩ | refine ⟨Or.inl rfl, ?_⟩)) f32
end STL2
