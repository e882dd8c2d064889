/-! class: best: the greatest loss of a set of walls -/
section GRE
variable {w h : Nat} {a : Nat → Int32} {I : pvI} {J : pvJ} {P : pvP}
theorem flw_wl {wl : Nat} : ∀ m, m ≤ cnt a 0 → flw a wl m = flw a 0 m
  | 0, _ => rfl
  | m + 1, hm => by
    have ih := flw_wl (wl := wl) m (by omega)
    show fl2 a m wl (fl1 a m (flw a wl m)) = fl2 a m 0 (fl1 a m (flw a 0 m))
    rw [ih]
    funext c
    unfold fl2
    rw [if_neg (fun z => by omega), if_neg (fun z => by omega)]
theorem fraw_wl {wl s : Nat} {wo : Option Nat} : ∀ m, m ≤ cnt a 0 → fraw w h a wl wo s m = fraw w h a 0 wo s m
  | 0, _ => rfl
  | m + 1, hm => by
    have ih := fraw_wl (wl := wl) (s := s) (wo := wo) m (by omega)
    have ef : ∀ b, fair w h a wl wo m b = fair w h a 0 wo m b := fun b => by
      unfold fair
      rw [flw_wl (wl := wl) (m + 1) hm]
    show fburn w h a wl wo m (fbeg w h a s m (fraw w h a wl wo s m)) = fburn w h a 0 wo m (fbeg w h a s m (fraw w h a 0 wo s m))
    rw [ih]
    unfold fburn
    rw [ef]
theorem fwk_wl {wl s m : Nat} {wo : Option Nat} (hm : m ≤ cnt a 0) : fwk w h a wl wo s m = fwk w h a 0 wo s m := by
  unfold fwk
  rw [fraw_wl m hm]
theorem wmost_mono {f : Nat → Nat} {lt : Nat → Bool} {i : Nat} : ∀ k, wmost f lt i ≤ wmost f lt (i + k)
  | 0 => Nat.le_refl _
  | k + 1 => by
    have ih := wmost_mono (f := f) (lt := lt) (i := i) k
    have e : wmost f lt (i + (k + 1)) = if lt (i + k) = true then max (wmost f lt (i + k)) (f (i + k)) else wmost f lt (i + k) := rfl
    rw [e]
    split <;> omega
theorem c_stand2 {s g : Nat} (hP : pvOkP P) (hb : kB w h a I J) (hs : s < cnt a 3) (hg : g ≤ 99) : pvMet mX1_standAt 4 0 0 [.ref (fad s), .ref 3, .int (nI g)] 224 I J P (pvq P (fun v I' J' => v = none ∧ kB w h a I' J' ∧ fFr (fad s) I J I' J' ∧ fCu (fad s) 0 (fwk w h a 0 none s g) I' J' ∧ I' (fad s) 4 = nI g)) := by
  obtain ⟨h8, hE, hB, hw, sn, hV⟩ := hb.st hs
  refine (f_standAt (g := g) hP (fad_ok (by omega)) hE hw hB hg (fun k _ => walOk0) hV).weaken ?_
  rintro v nx I' J' P' ⟨rfl, rfl, rfl, q1, q2, q3, q4⟩
  exact ⟨rfl, rfl, rfl, hb.q (q2.q (fad_ok (by omega))) (hb.2.2.1.look h8 hs q2 q1) (hb.2.2.2.1.fr h8 q2), q2, q4, q3⟩
theorem c_lostBy2 {F m : Nat} {r : fS} (hP : pvOkP P) (hA : fAd F) (hm : m ≤ 99) (hr : ∀ c, r.1 c ≤ 2) (v1 : J (F + 3) m = mk (mB r)) (v2 : J (F + 4) m = mk (mT r)) : pvMet mX11_lostBy 1 0 0 [.ref F, .int (nI m)] 224 I J P (pvpu (.int (nI (sp_ct (fun c => 0 < r.1 c) 64))) 224 I J P) := by
  obtain ⟨⟨s0, s1, s2, s3, s4, s5⟩, h90, h138⟩ := hA.sh
  obtain ⟨p10, p11, p12, p13, p14⟩ := hA.pp hP
  have bc := t_bitCount (nx := 224) (f := fun c => mB r c || mT r c) (I := I) (J := J) (P := P)
  rw [lost_ct hr, ← mk_or] at bc
  refine pvMet.of _ (by decide) rfl (Nat.le_of_ble_eq_true rfl) ?_
  refine g_aload_n dX11_lostBy_0 rfl ?_
  refine g_getP dX11_lostBy_1 fdX11_212 rfl (by first | exact s0 | exact s3 | exact s4) (by omega) (by omega) (by decide) rfl (by first | exact p12 | exact p13) ?_
  refine g_iload_n dX11_lostBy_4 rfl ?_
  refine n_lald dX11_lostBy_5 (by first | exact s0 | exact s3 | exact s4) (by omega) (by omega) (by decide) (rfl) (by omega) (by repeat (first | exact v1 | exact v2 | (apply rd_s; done) | apply rd_n (by omega) | apply rp_s | apply rp_n (by omega) | (apply rdL_s; done) | apply rdL_n (by omega) | apply rpJ_s | apply rpJ_n (by omega) | rfl)) ?_
  refine g_aload_n dX11_lostBy_6 rfl ?_
  refine g_getP dX11_lostBy_7 fdX11_216 rfl (by first | exact s0 | exact s3 | exact s4) (by omega) (by omega) (by decide) rfl (by first | exact p12 | exact p13) ?_
  refine g_iload_n dX11_lostBy_10 rfl ?_
  refine n_lald dX11_lostBy_11 (by first | exact s0 | exact s3 | exact s4) (by omega) (by omega) (by decide) (rfl) (by omega) (by repeat (first | exact v1 | exact v2 | (apply rd_s; done) | apply rd_n (by omega) | apply rp_s | apply rp_n (by omega) | (apply rdL_s; done) | apply rdL_n (by omega) | apply rpJ_s | apply rpJ_n (by omega) | rfl)) ?_
  refine n_lor dX11_lostBy_12 (rfl) ?_
  refine p_callS (bc) okJ13_bitCount_95d88 lkX11_426 rfl dX11_lostBy_13 rfl (Nat.le_of_ble_eq_true rfl) (⟨by decide, by decide, by decide, by decide⟩) ?_
  exact g_iret dX11_lostBy_16 rfl (⟨rfl, rfl, rfl, rfl, rfl⟩)
def grQ (w h : Nat) (a : Nat → Int32) (B W : Nat) (I : pvI) (J : pvJ) (P : pvP) : pvQT := pvq P (fun v I' J' => ∃ r, v = some (.int (nI r)) ∧ r ≤ 64 ∧ (r = W ∨ (B < r ∧ B < W)) ∧ kB w h a I' J' ∧ qF I J I' J')
theorem c_grLost {set g B : Nat} (hP : pvOkP P) (hb : kB w h a I J) (hset : set < 64) (hB : B ≤ 65) (h0 : cnt a 0 ≤ g) (hg : g ≤ 99) : pvMet mX11_greatestLost 6 0 0 [.ref 1, .long (mk (fun c => wlB a set c (cnt a 10))), .int (nI g), .int (nI (ltN w h a (cnt a 0))), .int (nI B)] 224 I J P (grQ w h a B (mostN w h a g set) I J P) := by
  obtain ⟨n3, -⟩ := hb.n3
  have hi := hb.2.2.2.2
  have A8 : fAd 138 := fad_ok (s := 8) (by decide)
  have hll := ltN_lt (w := w) (h := h) (a := a) (kn := cnt a 0) n3
  have hbit : ∀ s, s < cnt a 3 → (ltN w h a (cnt a 0) / 2 ^ s % 2 = 1 ↔ letB w h a s (cnt a 0) = true) := fun s hs => bN_dm.trans ⟨fun z => z.2, fun z => ⟨hs, z⟩⟩
  unfold mostN
  generalize hf : (fun s => lostN w h a set none s g) = f at *
  generalize hlt : (fun s => letB w h a s (cnt a 0)) = lt at *
  have hfs : ∀ s, lostN w h a set none s g = f s := fun s => by rw [← hf]
  have hlts : ∀ s, letB w h a s (cnt a 0) = lt s := fun s => by rw [← hlt]
  have hfl : ∀ s, f s ≤ 64 := fun s => by rw [← hfs]; exact lostN_le
  generalize ltN w h a (cnt a 0) = ln at *
  have lp : ∀ q i I1 J1, i + q = cnt a 3 → kB w h a I1 J1 → qF I J I1 J1 → pvG mX11_greatestLost (pvR 6 0 0) (pvZ (grQ w h a B (wmost f lt (cnt a 3)) I J P) 0 0) 6 [.ref 1, .long (mk (fun c => wlB a set c (cnt a 10))), .retAddr 0, .int (nI g), .int (nI ln), .int (nI B), .int (nI (wmost f lt i)), .int (nI i)] [] 0 0 224 I1 J1 P := by
    intro q
    induction q with
    | zero =>
      intro i I1 J1 hs h1 h2
      obtain rfl : i = cnt a 3 := by omega
      have r3 := h1.n3.2
      have hml := wmost_le (lt := lt) hfl (cnt a 3)
      refine g_iload dX11_greatestLost_6 rfl ?_
      refine g_aload_n dX11_greatestLost_8 rfl ?_
      refine g_getP dX11_greatestLost_9 fdX11_32 rfl (by first | rfl | exact pv_shx) (by omega) (by omega) (by decide) rfl (hP _ _ _ rfl) ?_
      refine g_getP dX11_greatestLost_12 fdX11_163 rfl (by first | rfl | exact pv_shx) (by omega) (by omega) (by decide) rfl (hP _ _ _ rfl) ?_
      refine n_getI dX11_greatestLost_15 fdX11_167 rfl (by first | rfl | exact pv_shx) (by omega) (by omega) (by decide) rfl (by repeat (first | exact r3 | (apply rd_s; done) | apply rd_n (by omega) | apply rp_s | apply rp_n (by omega) | (apply rdL_s; done) | apply rdL_n (by omega) | apply rpJ_s | apply rpJ_n (by omega) | rfl)) ?_
      refine n_icmp_ge 122 dX11_greatestLost_18 (by decide) (by first | ((with_reducible apply cN_le) <;> omega) | ((with_reducible apply cI_len) <;> omega) | ((with_reducible apply cI_nle) <;> omega) | (with_reducible exact cI_le)) (fun c18 => ?_) (fun c18 => by exfalso; first | omega | exact absurd trivial c18 | exact c18 | (simp at c18))
      refine g_iload dX11_greatestLost_122 rfl ?_
      exact g_iret dX11_greatestLost_124 rfl (⟨rfl, rfl, _, rfl, hml, Or.inl rfl, h1, h2⟩)
    | succ q ih =>
      intro i I1 J1 hi1 h1 h2
      have r3 := h1.n3.2
      have r0 := h1.n0.2
      have hml := wmost_le (lt := lt) hfl i
      have hs : i < cnt a 3 := by omega
      have bs := fad_lt (show i < 8 by omega)
      have hfi := hfl i
      have es : wmost f lt (i + 1) = if lt i = true then max (wmost f lt i) (f i) else wmost f lt i := rfl
      by_cases c1 : B < wmost f lt i
      · have mo := wmost_mono (f := f) (lt := lt) (i := i) (cnt a 3 - i)
        rw [show i + (cnt a 3 - i) = cnt a 3 by omega] at mo
        refine g_iload dX11_greatestLost_6 rfl ?_
        refine g_aload_n dX11_greatestLost_8 rfl ?_
        refine g_getP dX11_greatestLost_9 fdX11_32 rfl (by first | rfl | exact pv_shx) (by omega) (by omega) (by decide) rfl (hP _ _ _ rfl) ?_
        refine g_getP dX11_greatestLost_12 fdX11_163 rfl (by first | rfl | exact pv_shx) (by omega) (by omega) (by decide) rfl (hP _ _ _ rfl) ?_
        refine n_getI dX11_greatestLost_15 fdX11_167 rfl (by first | rfl | exact pv_shx) (by omega) (by omega) (by decide) rfl (by repeat (first | exact r3 | (apply rd_s; done) | apply rd_n (by omega) | apply rp_s | apply rp_n (by omega) | (apply rdL_s; done) | apply rdL_n (by omega) | apply rpJ_s | apply rpJ_n (by omega) | rfl)) ?_
        refine n_icmp_ge 122 dX11_greatestLost_18 (by decide) (by first | ((with_reducible apply cN_le) <;> omega) | ((with_reducible apply cI_len) <;> omega) | ((with_reducible apply cI_nle) <;> omega) | (with_reducible exact cI_le)) (fun c18 => by exfalso; first | omega | exact absurd trivial c18 | exact c18 | (simp at c18)) (fun c18 => ?_)
        refine g_iload dX11_greatestLost_21 rfl ?_
        refine g_iload dX11_greatestLost_23 rfl ?_
        refine n_icmp_gt 122 dX11_greatestLost_25 (by decide) (by first | ((with_reducible apply cN_lt) <;> omega) | ((with_reducible apply cI_ltn) <;> omega) | ((with_reducible apply cI_nlt) <;> omega) | (with_reducible exact cI_lt)) (fun c25 => ?_) (fun c25 => by exfalso; first | omega | exact absurd trivial c25 | exact c25 | (simp at c25))
        refine g_iload dX11_greatestLost_122 rfl ?_
        exact g_iret dX11_greatestLost_124 rfl (⟨rfl, rfl, _, rfl, hml, Or.inr ⟨c1, by omega⟩, h1, h2⟩)
      · have ii := c_isIn (nx := 224) (n := ln) (k := i) (I := I1) (J := J1) (P := P) (by omega) (by omega)
        have hbi := (hbit i hs).trans (by rw [hlts])
        by_cases c2 : lt i = true
        · rw [if_pos (hbi.mpr c2)] at ii
          rw [if_pos c2] at es
          have sd := c_stand2 (g := cnt a 0) hP h1 (s := i) hs (by omega)
          have s0 := (fad_ok (show i < 9 by omega)).sh.1.1
          refine g_iload dX11_greatestLost_6 rfl ?_
          refine g_aload_n dX11_greatestLost_8 rfl ?_
          refine g_getP dX11_greatestLost_9 fdX11_32 rfl (by first | rfl | exact pv_shx) (by omega) (by omega) (by decide) rfl (hP _ _ _ rfl) ?_
          refine g_getP dX11_greatestLost_12 fdX11_163 rfl (by first | rfl | exact pv_shx) (by omega) (by omega) (by decide) rfl (hP _ _ _ rfl) ?_
          refine n_getI dX11_greatestLost_15 fdX11_167 rfl (by first | rfl | exact pv_shx) (by omega) (by omega) (by decide) rfl (by repeat (first | exact r3 | exact r0 | (apply rd_s; done) | apply rd_n (by omega) | apply rp_s | apply rp_n (by omega) | (apply rdL_s; done) | apply rdL_n (by omega) | apply rpJ_s | apply rpJ_n (by omega) | rfl)) ?_
          refine n_icmp_ge 122 dX11_greatestLost_18 (by decide) (by first | ((with_reducible apply cN_le) <;> omega) | ((with_reducible apply cI_len) <;> omega) | ((with_reducible apply cI_nle) <;> omega) | (with_reducible exact cI_le)) (fun c18 => by exfalso; first | omega | exact absurd trivial c18 | exact c18 | (simp at c18)) (fun c18 => ?_)
          refine g_iload dX11_greatestLost_21 rfl ?_
          refine g_iload dX11_greatestLost_23 rfl ?_
          refine n_icmp_gt 122 dX11_greatestLost_25 (by decide) (by first | ((with_reducible apply cN_lt) <;> omega) | ((with_reducible apply cI_ltn) <;> omega) | ((with_reducible apply cI_nlt) <;> omega) | (with_reducible exact cI_lt)) (fun c25 => by exfalso; first | omega | exact absurd trivial c25 | exact c25 | (simp at c25)) (fun c25 => ?_)
          refine g_iload dX11_greatestLost_28 rfl ?_
          refine g_iload dX11_greatestLost_30 rfl ?_
          refine p_callS (ii) okX11_isIn lkX11_243 rfl dX11_greatestLost_32 rfl (Nat.le_of_ble_eq_true rfl) (⟨by decide, by decide, by decide, by decide⟩) ?_
          refine n_if_eq 116 dX11_greatestLost_35 (by decide) (by first | (with_reducible exact cB _) | ((with_reducible apply cN_eq0) <;> omega) | exact Iff.rfl) (fun c35 => by exfalso; first | omega | exact absurd trivial c35 | exact c35 | (simp at c35)) (fun c35 => ?_)
          refine g_aload_n dX11_greatestLost_38 rfl ?_
          refine g_getP dX11_greatestLost_39 fdX11_41 rfl (by first | rfl | exact pv_shx) (by omega) (by omega) (by decide) rfl (hP _ _ _ rfl) ?_
          refine g_iload dX11_greatestLost_42 rfl ?_
          refine g_aald _ dX11_greatestLost_44 (by first | exact Or.inl rfl | exact Or.inr rfl) (by omega) (by omega) (by decide) (rfl) (by omega) (fires_P hP (by omega)) ?_
          refine g_aload_n dX11_greatestLost_45 rfl ?_
          refine g_getP dX11_greatestLost_46 fdX11_32 rfl (by first | rfl | exact pv_shx) (by omega) (by omega) (by decide) rfl (hP _ _ _ rfl) ?_
          refine g_aload_n dX11_greatestLost_49 rfl ?_
          refine g_getP dX11_greatestLost_50 fdX11_32 rfl (by first | rfl | exact pv_shx) (by omega) (by omega) (by decide) rfl (hP _ _ _ rfl) ?_
          refine n_getI dX11_greatestLost_53 fdX11_77 rfl (by first | rfl | exact pv_shx) (by omega) (by omega) (by decide) rfl (by repeat (first | exact r3 | exact r0 | (apply rd_s; done) | apply rd_n (by omega) | apply rp_s | apply rp_n (by omega) | (apply rdL_s; done) | apply rdL_n (by omega) | apply rpJ_s | apply rpJ_n (by omega) | rfl)) ?_
          refine g_callV (sd) okX1_standAt lkX11_192 rfl (s0) rfl (by omega) (by omega) dX11_greatestLost_56 rfl (Nat.le_of_ble_eq_true rfl) (⟨by decide, by decide, by decide, by decide⟩) ?_
          rintro v nx' I2 J2 P' ⟨rfl, rfl, rfl, q1, q2, q3, q4⟩
          have sa := f_standAs (I := I2) (J := J2) (P := P') (F := fad i) (k := cnt a 0) (r := fwk w h a 0 none i (cnt a 0)) hP (fad_ok (by omega)) (by omega) (by omega) (by omega) q4 q3
          refine g_aload_n dX11_greatestLost_59 rfl ?_
          refine g_getP dX11_greatestLost_60 fdX11_46 rfl (by first | rfl | exact pv_shx) (by omega) (by omega) (by decide) rfl (hP _ _ _ rfl) ?_
          refine g_aload_n dX11_greatestLost_63 rfl ?_
          refine g_getP dX11_greatestLost_64 fdX11_41 rfl (by first | rfl | exact pv_shx) (by omega) (by omega) (by decide) rfl (hP _ _ _ rfl) ?_
          refine g_iload dX11_greatestLost_67 rfl ?_
          refine g_aald _ dX11_greatestLost_69 (by first | exact Or.inl rfl | exact Or.inr rfl) (by omega) (by omega) (by decide) (rfl) (by omega) (fires_P hP (by omega)) ?_
          refine g_callV (sa) okX1_standAs lkX11_523 rfl (by first | rfl | exact pv_shx) rfl (by omega) (by omega) dX11_greatestLost_70 rfl (Nat.le_of_ble_eq_true rfl) (⟨by decide, by decide, by decide, by decide⟩) ?_
          rintro v nx' I3 J3 P'' ⟨rfl, rfl, rfl, e0, e1, e2, e4, e5, e3, ec, eb, et, eo⟩
          obtain ⟨h8, hE, hB, hw, -⟩ := q1.st hs
          have J4o : ∀ x, x ≠ 138 → pvsJ J3 138 (vp_updL (J3 138) 3 (mk (fun c => wlB a set c (cnt a 10)))) x = J3 x := fun x hx => pvsJ_ne hx
          have hw4 : wF w h a I3 (pvsJ J3 138 (vp_updL (J3 138) 3 (mk (fun c => wlB a set c (cnt a 10))))) := (q1.2.1.mv (fun x _ z => (eo x (by omega)).1) (fun x _ z => (J4o x (by omega)).trans (eo x (by omega)).2)).wF (q1.1.mv (eo 2 (by omega)).1 ((J4o 2 (by omega)).trans (eo 2 (by omega)).2)) hi
          have hc4 : fCu 138 0 (fwk w h a set none i (cnt a 0)) I3 (pvsJ J3 138 (vp_updL (J3 138) 3 (mk (fun c => wlB a set c (cnt a 10))))) := by
            rw [fwk_wl (Nat.le_refl _)]
            obtain ⟨c1, c2, c3, c4, c5, wm, c6, c7⟩ := ec
            exact ⟨by rw [pvsJ_eq]; simpa [vp_updL] using c1, by rw [pvsJ_eq]; simpa [vp_updL] using c2, by rw [pvsJ_eq]; simpa [vp_updL] using c3, c4, c5, wm, by rw [pvsJ_eq]; simpa [vp_updL] using c6, c7⟩
          have fs := f_stand1 (w := w) (h := h) (a := a) (wl := set) (wo := none) (s := i) (F := 138) (sn := cnt a 0 + 1) (cat := 0) (I := I3) (J := pvsJ J3 138 (vp_updL (J3 138) 3 (mk (fun c => wlB a set c (cnt a 10))))) (u2 := -1) (wal := fun c => wlB a set c (cnt a 10)) (m0 := cnt a 0) (g := g) hP A8 hE hw4 ⟨e0.trans hB.1, e1.trans hB.2.1, e2.trans q1.2.2.2.1.1, by rw [pvsJ_eq]; simp [vp_updL]⟩ hg h0 (by omega) (by omega) e4 e5 (fun k z1 _ c _ => ⟨fun z => ⟨z1, z⟩, fun z => z.2⟩) hc4 (by rw [J4o _ (by decide), fwk_wl (Nat.le_refl _)]; exact et)
          refine g_aload_n dX11_greatestLost_73 rfl ?_
          refine g_getP dX11_greatestLost_74 fdX11_46 rfl (by first | rfl | exact pv_shx) (by omega) (by omega) (by decide) rfl (hP _ _ _ rfl) ?_
          refine g_lload_n dX11_greatestLost_77 rfl ?_
          refine n_putJ dX11_greatestLost_78 fdX11_527 rfl (fun h => absurd h (by decide)) (by first | rfl | exact pv_shx) (by omega) (by omega) (by decide) rfl (by repeat (first | exact pvu_s | exact pvuJ_s | apply pvu_in (by omega) | apply pvuJ_in (by omega) | exact pvu_pvs | exact pvuJ_pvs)) ?_
          refine g_aload_n dX11_greatestLost_81 rfl ?_
          refine g_getP dX11_greatestLost_82 fdX11_46 rfl (by first | rfl | exact pv_shx) (by omega) (by omega) (by decide) rfl (hP _ _ _ rfl) ?_
          refine g_aload_n dX11_greatestLost_85 rfl ?_
          refine g_getP dX11_greatestLost_86 fdX11_32 rfl (by first | rfl | exact pv_shx) (by omega) (by omega) (by decide) rfl (hP _ _ _ rfl) ?_
          refine g_iload_n dX11_greatestLost_89 rfl ?_
          refine g_callV (fs) okX1_standAt lkX11_192 rfl (by first | rfl | exact pv_shx) rfl (by omega) (by omega) dX11_greatestLost_90 rfl (Nat.le_of_ble_eq_true rfl) (⟨by decide, by decide, by decide, by decide⟩) ?_
          rintro v nx' I5 J5 P3 ⟨rfl, rfl, rfl, t1, t2, t3, t4, t5, t6⟩
          have m1 : J5 141 g = mk (mB (fwk w h a set none i g)) ∧ J5 142 g = mk (mT (fwk w h a set none i g)) := by
            by_cases e : g = cnt a 0
            · obtain ⟨y1, y2, -⟩ := t5 g (by omega)
              have y1' : J5 141 g = _ := y1
              have y2' : J5 142 g = _ := y2
              rw [y1', y2', pvsJ_ne (by omega), pvsJ_ne (by omega), fwk_wl (by omega), e]
              exact ⟨eb, et⟩
            · obtain ⟨y1, y2, -⟩ := t6 g (by omega) (Nat.le_refl _)
              exact ⟨y1, y2⟩
          have hI := fI_wk (wl := set) (wo := none) (s := i) (m := g) hi.2.2.2.2.2.1.1 (hb.ce hs)
          have lb := c_lostBy2 (F := 138) (m := g) (r := fwk w h a set none i g) (I := I5) (J := pvsJ J5 138 (vp_updL (J5 138) 3 0)) hP A8 hg (fun c => (hI c).2.2.1) ((congrFun (pvsJ_ne (by decide)) g).trans m1.1) ((congrFun (pvsJ_ne (by decide)) g).trans m1.2)
          have lb' : pvMet mX11_lostBy 1 0 0 [.ref 138, .int (nI g)] 224 I5 (pvsJ J5 138 (vp_updL (J5 138) 3 0)) P3 (pvpu (.int (nI (f i))) 224 I5 (pvsJ J5 138 (vp_updL (J5 138) 3 0)) P3) := by rw [← hfs i]; exact lb
          have fr5 : ∀ x, (x < 138 ∨ 143 < x) → I5 x = I2 x ∧ pvsJ J5 138 (vp_updL (J5 138) 3 0) x = J2 x := fun x hx => ⟨(t2.1 x (by simp; omega)).trans (eo x hx).1, by rw [pvsJ_ne (by omega), t2.2.1 x (by simp; omega), pvsJ_ne (by omega)]; exact (eo x hx).2⟩
          have kb5 : kB w h a I5 (pvsJ J5 138 (vp_updL (J5 138) 3 0)) := q1.q (fun x hx => fr5 x (by omega)) (q1.2.2.1.mv (fun x _ z => (fr5 x (by omega)).1) (fun x _ z => (fr5 x (by omega)).2)) ⟨by rw [t2.2.2.1 2 (by decide) (by decide), e2]; exact q1.2.2.2.1.1, by rw [pvsJ_eq]; simp [vp_updL], _, (by omega), t4, Or.inr ⟨g, hg, t3⟩⟩
          have nx := ih (i + 1) I5 (pvsJ J5 138 (vp_updL (J5 138) 3 0)) (by omega) kb5 ((h2.tr (q2.q (fad_ok (by omega)))).tr (fun x hx => fr5 x (by omega)))
          rw [es] at nx
          refine g_aload_n dX11_greatestLost_93 rfl ?_
          refine g_getP dX11_greatestLost_94 fdX11_46 rfl (by first | rfl | exact pv_shx) (by omega) (by omega) (by decide) rfl (hP _ _ _ rfl) ?_
          refine g_lconst (v := 0) dX11_greatestLost_97 (by decide) ?_
          refine n_putJ dX11_greatestLost_98 fdX11_527 rfl (fun h => absurd h (by decide)) (by first | rfl | exact pv_shx) (by omega) (by omega) (by decide) rfl (by repeat (first | exact pvu_s | exact pvuJ_s | apply pvu_in (by omega) | apply pvuJ_in (by omega) | exact pvu_pvs | exact pvuJ_pvs)) ?_
          refine g_iload dX11_greatestLost_101 rfl ?_
          refine g_aload_n dX11_greatestLost_103 rfl ?_
          refine g_getP dX11_greatestLost_104 fdX11_46 rfl (by first | rfl | exact pv_shx) (by omega) (by omega) (by decide) rfl (hP _ _ _ rfl) ?_
          refine g_iload_n dX11_greatestLost_107 rfl ?_
          refine p_callS (lb') okX11_lostBy lkX11_219 rfl dX11_greatestLost_108 rfl (Nat.le_of_ble_eq_true rfl) (⟨by decide, by decide, by decide, by decide⟩) ?_
          refine g_mmax dX11_greatestLost_111 lkX11_15 (by decide) (Nat.le_of_ble_eq_true rfl) (by decide) (by decide) (mm_max (by omega) (by omega)) ?_
          refine g_istore dX11_greatestLost_114 (by decide) rfl ?_
          refine g_iinc dX11_greatestLost_116 rfl (by first | (with_reducible exact nI_1 _) | exact nI_1 _ | exact pk_m1 _ | rfl) (by decide) rfl ?_
          refine g_goto 6 dX11_greatestLost_119 (by decide) ?_
          exact nx
        · rw [if_neg (fun z => c2 (hbi.mp z))] at ii
          rw [if_neg c2] at es
          have nx := ih (i + 1) I1 J1 (by omega) h1 h2
          rw [es] at nx
          refine g_iload dX11_greatestLost_6 rfl ?_
          refine g_aload_n dX11_greatestLost_8 rfl ?_
          refine g_getP dX11_greatestLost_9 fdX11_32 rfl (by first | rfl | exact pv_shx) (by omega) (by omega) (by decide) rfl (hP _ _ _ rfl) ?_
          refine g_getP dX11_greatestLost_12 fdX11_163 rfl (by first | rfl | exact pv_shx) (by omega) (by omega) (by decide) rfl (hP _ _ _ rfl) ?_
          refine n_getI dX11_greatestLost_15 fdX11_167 rfl (by first | rfl | exact pv_shx) (by omega) (by omega) (by decide) rfl (by repeat (first | exact r3 | (apply rd_s; done) | apply rd_n (by omega) | apply rp_s | apply rp_n (by omega) | (apply rdL_s; done) | apply rdL_n (by omega) | apply rpJ_s | apply rpJ_n (by omega) | rfl)) ?_
          refine n_icmp_ge 122 dX11_greatestLost_18 (by decide) (by first | ((with_reducible apply cN_le) <;> omega) | ((with_reducible apply cI_len) <;> omega) | ((with_reducible apply cI_nle) <;> omega) | (with_reducible exact cI_le)) (fun c18 => by exfalso; first | omega | exact absurd trivial c18 | exact c18 | (simp at c18)) (fun c18 => ?_)
          refine g_iload dX11_greatestLost_21 rfl ?_
          refine g_iload dX11_greatestLost_23 rfl ?_
          refine n_icmp_gt 122 dX11_greatestLost_25 (by decide) (by first | ((with_reducible apply cN_lt) <;> omega) | ((with_reducible apply cI_ltn) <;> omega) | ((with_reducible apply cI_nlt) <;> omega) | (with_reducible exact cI_lt)) (fun c25 => by exfalso; first | omega | exact absurd trivial c25 | exact c25 | (simp at c25)) (fun c25 => ?_)
          refine g_iload dX11_greatestLost_28 rfl ?_
          refine g_iload dX11_greatestLost_30 rfl ?_
          refine p_callS (ii) okX11_isIn lkX11_243 rfl dX11_greatestLost_32 rfl (Nat.le_of_ble_eq_true rfl) (⟨by decide, by decide, by decide, by decide⟩) ?_
          refine n_if_eq 116 dX11_greatestLost_35 (by decide) (by first | (with_reducible exact cB _) | ((with_reducible apply cN_eq0) <;> omega) | exact Iff.rfl) (fun c35 => ?_) (fun c35 => by exfalso; first | omega | exact absurd trivial c35 | exact c35 | (simp at c35))
          refine g_iinc dX11_greatestLost_116 rfl (by first | (with_reducible exact nI_1 _) | exact nI_1 _ | exact pk_m1 _ | rfl) (by decide) rfl ?_
          refine g_goto 6 dX11_greatestLost_119 (by decide) ?_
          exact nx
  refine pvMet.of _ (by decide) rfl (Nat.le_of_ble_eq_true rfl) ?_
  refine g_iconst (v := nI 0) dX11_greatestLost_0 (by decide) ?_
  refine g_istore dX11_greatestLost_1 (by decide) rfl ?_
  refine g_iconst (v := nI 0) dX11_greatestLost_3 (by decide) ?_
  refine g_istore dX11_greatestLost_4 (by decide) rfl ?_
  exact lp (cnt a 3) 0 I J (by omega) hb qF.rf
end GRE
