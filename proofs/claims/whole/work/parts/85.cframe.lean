/-! class: the world's parts that a call leaves alone -/
def ag (lo hi : Nat) (a a' : Nat → Int32) : Prop := ∀ i, lo ≤ i → i < hi → a' i = a i
theorem ag.rf {lo hi : Nat} {a : Nat → Int32} : ag lo hi a a := fun _ _ _ => rfl
theorem ag.c {lo hi i : Nat} {a a' : Nat → Int32} (h : ag lo hi a a') (h1 : lo ≤ i) (h2 : i < hi) : cnt a' i = cnt a i := by unfold cnt; rw [h i h1 h2]
theorem ag.sub {lo hi lo' hi' : Nat} {a a' : Nat → Int32} (h : ag lo hi a a') (h1 : lo ≤ lo') (h2 : hi' ≤ hi) : ag lo' hi' a a' := fun i z1 z2 => h i (by omega) (by omega)
theorem mG.le {a : Nat → Int32} (hg : mG a) {i : Nat} (hi : i < 16) : cnt a i ≤ sp_lim i := (mG_eq hg hi).2.1
section FRM
variable {w h n : Nat} {a a' : Nat → Int32}
theorem mG.fr (hg : mG a) (h0 : ag 0 16 a a') : mG a' := fun i hi => by rw [h0 i (by omega) hi]; exact hg i hi
theorem mG.one {i v : Nat} (hg : mG a) (hi : i < 16) (hv : v ≤ sp_lim i) (e : a' i = nI v) (h0 : ∀ j, j < 16 → j ≠ i → a' j = a j) : mG a' := fun j hj => by
  by_cases z : j = i
  · subst z; exact ⟨v, hv, e⟩
  · rw [h0 j hj z]; exact hg j hj
theorem mCells.fr (hc : mCells a) (h1 : ag 20 148 a a') (h2 : ag 1620 8020 a a') : mCells a' := ⟨fun c hc' => by rw [h1 _ (by omega) (by omega)]; exact hc.1 c hc', fun c hc' => by rw [h1 _ (by omega) (by omega)]; exact hc.2.1 c hc', fun m c hm hc' => by rw [h2 _ (by omega) (by omega)]; exact hc.2.2 m c hm hc'⟩
theorem mStates.fr (hs : mStates n a) (hg : mG a) (h3 : ag 3 4 a a') (h1 : ag 260 276 a a') : mStates n a' := fun s z => by
  rw [h3.c (by omega) (by omega)] at z
  have : cnt a 3 ≤ 8 := hg.le (by decide)
  rw [h1 _ (by omega) (by omega), h1 _ (by omega) (by omega)]
  exact hs s z
theorem mTrench.fr (hs : mTrench w h a) (hg : mG a) (h3 : ag 2 3 a a') (h1 : ag 210 260 a a') : mTrench w h a' := fun t z => by
  rw [h3.c (by omega) (by omega)] at z
  have : cnt a 2 ≤ 10 := hg.le (by decide)
  rw [h1 _ (by omega) (by omega), h1 _ (by omega) (by omega), h1 _ (by omega) (by omega), h1 _ (by omega) (by omega), h1 _ (by omega) (by omega)]
  exact hs t z
theorem mHoles.fr (hs : mHoles n a) (hg : mG a) (h3 : ag 1 2 a a') (h1 : ag 150 210 a a') : mHoles n a' := fun t z => by
  rw [h3.c (by omega) (by omega)] at z
  have : cnt a 1 ≤ 20 := hg.le (by decide)
  rw [h1 _ (by omega) (by omega), h1 _ (by omega) (by omega), h1 _ (by omega) (by omega)]
  exact hs t z
theorem mPlaces.fr (hs : mPlaces n a) (hg : mG a) (h3 : ag 10 11 a a') (h1 : ag 1600 1620 a a') : mPlaces n a' := fun t z => by
  rw [h3.c (by omega) (by omega)] at z
  have : cnt a 10 ≤ 6 := hg.le (by decide)
  rw [h1 _ (by omega) (by omega), h1 _ (by omega) (by omega)]
  exact hs t z
theorem mRead.fr (hs : mRead n a) (hg : mG a) (h3 : ag 4 5 a a') (h1 : ag 280 1080 a a') : mRead n a' := fun t z => by
  rw [h3.c (by omega) (by omega)] at z
  have : cnt a 4 ≤ 200 := hg.le (by decide)
  rw [h1 _ (by omega) (by omega), h1 _ (by omega) (by omega), h1 _ (by omega) (by omega), h1 _ (by omega) (by omega)]
  exact hs t z
theorem mPer.fr (hs : mPer a) (hg : mG a) (h3 : ag 5 7 a a') (h1 : ag 1200 1500 a a') : mPer a' := fun t z => by
  rw [h3.c (by omega) (by omega)] at z
  have : cnt a 6 ≤ 60 := hg.le (by decide)
  rw [h1 _ (by omega) (by omega), h1 _ (by omega) (by omega), h1 _ (by omega) (by omega), h1 _ (by omega) (by omega), h1 _ (by omega) (by omega), h3.c (i := 5) (by omega) (by omega)]
  exact hs t z
theorem mHou.fr (hs : mHou n a) (hg : mG a) (h3 : ag 5 6 a a') (h1 : ag 1080 1180 a a') : mHou n a' := fun t z => by
  rw [h3.c (by omega) (by omega)] at z
  have : cnt a 5 ≤ 20 := hg.le (by decide)
  rw [h1 _ (by omega) (by omega), h1 _ (by omega) (by omega), h1 _ (by omega) (by omega), h1 _ (by omega) (by omega), h1 _ (by omega) (by omega)]
  exact hs t z
theorem mWent.fr (hs : mWent a) (hg : mG a) (h3 : ag 6 8 a a') (h1 : ag 1200 1500 a a') : mWent a' := by
  unfold mWent at hs ⊢
  have : cnt a 6 ≤ 60 := hg.le (by decide)
  rw [h3 7 (by omega) (by omega), hs, h3.c (i := 6) (by omega) (by omega)]
  congr 1
  apply sp_ct_cong
  intro p hp
  unfold sp_here
  rw [h1 _ (by omega) (by omega)]
theorem mLv.fr (hs : mLv n a) (hg' : mG a') (h3 : ag 5 8 a a') (h1 : ag 1080 1500 a a') : mLv n a' := ⟨hs.1.fr hs.2.2.2 (h3.sub (by omega) (by omega)) (h1.sub (by omega) (by omega)), hs.2.1.fr hs.2.2.2 (h3.sub (by omega) (by omega)) (h1.sub (by omega) (by omega)), hs.2.2.1.fr hs.2.2.2 (h3.sub (by omega) (by omega)) (h1.sub (by omega) (by omega)), hg'⟩
theorem fN.fr (h2 : ag 1620 8020 a a') {c : Nat} (hc : c < 64) : fN a' c = fN a c := by
  unfold fN
  exact sumN_cong 100 (fun m hm => h2.c (by omega) (by omega))
theorem mFill.fr (hs : mFill a) (h2 : ag 1620 8020 a a') : mFill a' := fun c hc => by rw [fN.fr h2 hc]; exact hs c hc
theorem mForce.fr (hs : mForce a) (hg : mG a) (h3 : ag 8 10 a a') (h1 : ag 1500 1600 a a') : mForce a' := fun t z => by
  rw [h3.c (by omega) (by omega)] at z
  have : cnt a 9 ≤ 30 := hg.le (by decide)
  rw [h1 _ (by omega) (by omega), h1 _ (by omega) (by omega), h1 _ (by omega) (by omega), h3.c (i := 8) (by omega) (by omega)]
  exact hs t z
theorem fH.fr (hs : fH w h a) (h0 : ag 11 12 a a') (h1 : ag 84 148 a a') : fH w h a' := ⟨fun c z1 z2 => by rw [h1.c (by omega) (by omega)]; exact hs.1 c z1 z2, by rw [h0.c (by omega) (by omega)]; exact hs.2⟩
theorem fHk.fr (hs : fHk w h a) (h1 : ag 20 84 a a') : fHk w h a' := fun c z1 z2 => by rw [h1.c (by omega) (by omega)]; exact hs c z1 z2
/-- no sand is poured ahead; no reading is ahead -/
def mAh (a : Nat → Int32) : Prop := (∀ m c, cnt a 0 < m → m < 100 → c < 64 → cnt a (1620 + 64 * m + c) = 0) ∧ (∀ r, r < cnt a 4 → cnt a (280 + 4 * r + 1) ≤ cnt a 0)
theorem mAh.fr (hs : mAh a) (hg : mG a) (h0 : ag 0 1 a a') (h4 : ag 4 5 a a') (h1 : ag 280 1080 a a') (h2 : ag 1620 8020 a a') : mAh a' := by
  have : cnt a 4 ≤ 200 := hg.le (by decide)
  refine ⟨fun m c z1 z2 z3 => ?_, fun r z => ?_⟩
  · rw [h0.c (by omega) (by omega)] at z1
    rw [h2.c (by omega) (by omega)]
    exact hs.1 m c z1 z2 z3
  · rw [h4.c (by omega) (by omega)] at z
    rw [h1.c (by omega) (by omega), h0.c (by omega) (by omega)]
    exact hs.2 r z
variable {b : Nat} {I I' : pvI} {J J' : pvJ}
theorem cutw.fr (hg : mG a) (h2 : ag 2 3 a a') (h1 : ag 210 260 a a') (m : Nat) : cutw w h a' m = cutw w h a m := by
  have : cnt a 2 ≤ 10 := hg.le (by decide)
  funext c
  unfold cutw
  rw [h2.c (by omega) (by omega)]
  apply anyB_cong
  intro t ht
  have e : tr_n a' t = tr_n a t := h1.c (by omega) (by omega)
  rw [e]
  apply anyB_cong
  intro i hi
  have e1 : tr_w a' t i = tr_w a t i := by
    unfold tr_w
    rw [h1.c (by omega) (by omega), h1.c (by omega) (by omega)]
  have e2 : tr_c w h a' t i = tr_c w h a t i := by
    unfold tr_c
    rw [h1.c (by omega) (by omega), h1.c (by omega) (by omega)]
  rw [e1, e2]
theorem hoB.fr {m : Nat} {wo : Option Nat} (hg : mG a) (h1 : ag 1 2 a a') (h2 : ag 150 210 a a') : hoB a' m wo = hoB a m wo := by
  have : cnt a 1 ≤ 20 := hg.le (by decide)
  funext c
  unfold hoB
  rw [h1.c (by omega) (by omega)]
  apply anyB_cong
  intro k hk
  unfold hoK hoPd
  rw [h2.c (by omega) (by omega), h2.c (by omega) (by omega), h2 _ (by omega) (by omega)]
theorem flw.fr {wl : Nat} (h0 : wl = 0 ∨ (ag 0 1 a a' ∧ ag 10 11 a a' ∧ ag 1600 1620 a a' ∧ cnt a 10 ≤ 6)) (h2 : ag 1620 8020 a a') : ∀ m, m ≤ 100 → ∀ c, c < 64 → flw a' wl m c = flw a wl m c
  | 0, _, _, _ => rfl
  | m + 1, hm, c, hc => by
    have ih := flw.fr h0 h2 m (by omega) c hc
    show fl2 a' m wl (fl1 a' m (flw a' wl m)) c = fl2 a m wl (fl1 a m (flw a wl m)) c
    have e1 : fl1 a' m (flw a' wl m) c = fl1 a m (flw a wl m) c := by
      unfold fl1
      by_cases z : m = 0
      · rw [if_pos z, if_pos z]; exact ih
      · rw [if_neg z, if_neg z, ih, h2.c (by omega) (by omega)]
    unfold fl2
    rw [e1]
    rcases h0 with rfl | ⟨y0, y1, y2, y3⟩
    · have k : ∀ (x : Nat → Int32), ¬ (cnt x 0 ≤ m ∧ wlB x 0 c (cnt x 10) = true) := fun x z => by
        obtain ⟨p, -, q⟩ := anyB_iff.mp z.2
        have := (of_decide_eq_true q).1
        rw [Nat.zero_div] at this
        omega
      rw [if_neg (k a'), if_neg (k a)]
    · have e : wlB a' wl c (cnt a' 10) = wlB a wl c (cnt a 10) := by
        unfold wlB
        rw [y1.c (by omega) (by omega)]
        apply anyB_cong
        intro p hp
        rw [y2.c (by omega) (by omega)]
      rw [e, y0.c (by omega) (by omega)]
/-- all that a fire sees is the same -/
theorem fwk.fr {wl s m : Nat} {wo : Option Nat} (hw : 0 < w) (hwh : w * h ≤ 64) (hg : mG a) (hs : s < 8) (hm : m ≤ 99) (h0 : wl = 0 ∨ (ag 0 1 a a' ∧ ag 10 11 a a' ∧ ag 1600 1620 a a' ∧ cnt a 10 ≤ 6)) (h1 : ag 1 3 a a') (h11 : ag 11 14 a a') (h2 : ag 20 276 a a') (h3 : ag 1620 8020 a a') : fwk w h a' wl wo s m = fwk w h a wl wo s m ∧ metB w h a' wl wo s m = metB w h a wl wo s m :=
  fwk_cong hw hwh ⟨fun c hc => h2.c (by omega) (by omega), fun c hc => h2.c (by omega) (by omega), h11.c (by omega) (by omega), h11.c (by omega) (by omega), h11.c (by omega) (by omega)⟩ ⟨h2.c (by omega) (by omega), h2.c (by omega) (by omega)⟩ (fun j _ => cutw.fr hg (h1.sub (by omega) (by omega)) (h2.sub (by omega) (by omega)) j) (fun j hj c hc => flw.fr h0 h3 (j + 1) (by omega) c hc) (fun j _ => hoB.fr hg (h1.sub (by omega) (by omega)) (h2.sub (by omega) (by omega)))
theorem rFir.fr (hf : rFir w h a I J) (hw : 0 < w) (hwh : w * h ≤ 64) (hg : mG a) (h1 : ag 1 4 a a') (h11 : ag 11 14 a a') (h2 : ag 20 276 a a') (h3 : ag 1620 8020 a a') : rFir w h a' I J := by
  intro s hs
  obtain ⟨x1, x2, x3⟩ := hf s hs
  refine ⟨x1, x2, fun z => ?_⟩
  rw [h1.c (by omega) (by omega)] at z
  obtain ⟨y1, y2, sn, v1, v2, v3, v4⟩ := x3 z
  have k : ∀ m, m ≤ 99 → fwk w h a' 0 none s m = fwk w h a 0 none s m ∧ metB w h a' 0 none s m = metB w h a 0 none s m := fun m hm => fwk.fr hw hwh hg hs hm (Or.inl rfl) (h1.sub (by omega) (by omega)) h11 h2 h3
  refine ⟨by rw [h2 _ (by omega) (by omega)]; exact y1, by rw [h2 _ (by omega) (by omega)]; exact y2, sn, v1, v2, fun j hj => ?_, ?_⟩
  · rw [(k j (by omega)).1, (k j (by omega)).2]; exact v3 j hj
  · rcases v4 with z | ⟨j, j1, j2, j3⟩
    · exact Or.inl z
    · exact Or.inr ⟨j, j1, j2, by rw [(k j (by omega)).1]; exact j3⟩
theorem rGro.fr (hr : rGro w h b a I J) (h0 : ag 11 14 a a') (h15 : ag 15 16 a a') (h1 : ag 20 148 a a') (h2 : ag 1620 8020 a a') (hwh : w * h ≤ 64) : rGro w h b a' I J := by
  obtain ⟨x1, x2, x3, x4, x5, x6, x7, x8, x9, x10⟩ := hr
  refine ⟨fun c hc => by rw [h1 _ (by omega) (by omega)]; exact x1 c hc, fun c hc => by rw [h1 _ (by omega) (by omega)]; exact x2 c hc, fun c hc => by rw [fN.fr h2 hc]; exact x3 c hc, fun m hm => ?_, x5.trans (mk_cong (fun c hc => by rw [h1.c (by omega) (by omega)])), x6.trans (mk_cong (fun c hc => by rw [h1.c (by omega) (by omega)])), by rw [h15 _ (by omega) (by omega)]; exact x7, by rw [h0 _ (by omega) (by omega)]; exact x8, by rw [h0 _ (by omega) (by omega)]; exact x9, by rw [h0 _ (by omega) (by omega)]; exact x10⟩
  refine (x4 m hm).trans (mk_cong (fun c hc => ?_))
  unfold fullB fsum
  rw [sumN_cong m (fun k hk => h2.c (a := a) (a' := a') (i := 1620 + 64 * k + c) (by omega) (by omega))]
theorem rWrk.fr (hr : rWrk w h b a I J) (hg : mG a) (h0 : ag 1 3 a a') (h1 : ag 150 260 a a') : rWrk w h b a' I J := by
  obtain ⟨x1, x2, x3, x4, x5, x6⟩ := hr
  have n1 : cnt a 1 ≤ 20 := hg.le (by decide)
  have n2 : cnt a 2 ≤ 10 := hg.le (by decide)
  refine ⟨by rw [h0 _ (by omega) (by omega)]; exact x1, fun k z => ?_, fun m hm => ?_, by rw [h0 _ (by omega) (by omega)]; exact x4, fun t z => ?_, fun m hm => ?_⟩
  · rw [h0.c (by omega) (by omega)] at z
    rw [h1 _ (by omega) (by omega), h1 _ (by omega) (by omega), h1 _ (by omega) (by omega)]
    exact x2 k z
  · rw [hoB.fr hg (h0.sub (by omega) (by omega)) (h1.sub (by omega) (by omega))]; exact x3 m hm
  · rw [h0.c (by omega) (by omega)] at z
    rw [h1 _ (by omega) (by omega), h1.c (by omega) (by omega), h1 _ (by omega) (by omega), h1 _ (by omega) (by omega), h1 _ (by omega) (by omega)]
    exact x5 t z
  · rw [cutb_cong (fun j _ => cutw.fr hg (h0.sub (by omega) (by omega)) (h1.sub (by omega) (by omega)) j)]; exact x6 m hm
theorem rKno.fr (hr : rKno b a I) (hg : mG a) (h0 : ag 3 5 a a') (h1 : ag 260 1080 a a') : rKno b a' I := by
  obtain ⟨x1, x2, x3, x4⟩ := hr
  have n1 : cnt a 3 ≤ 8 := hg.le (by decide)
  have n2 : cnt a 4 ≤ 200 := hg.le (by decide)
  refine ⟨by rw [h0 _ (by omega) (by omega)]; exact x1, fun k z => ?_, by rw [h0 _ (by omega) (by omega)]; exact x3, fun t z => ?_⟩
  · rw [h0.c (by omega) (by omega)] at z
    rw [h1 _ (by omega) (by omega), h1 _ (by omega) (by omega)]
    exact x2 k z
  · rw [h0.c (by omega) (by omega)] at z
    rw [h1 _ (by omega) (by omega), h1 _ (by omega) (by omega), h1 _ (by omega) (by omega), h1 _ (by omega) (by omega)]
    exact x4 t z
theorem rTwn.fr (hr : rTwn b a I) (hg : mG a) (h0 : ag 5 7 a a') (h14 : ag 14 15 a a') (h1 : ag 1080 1500 a a') : rTwn b a' I := by
  obtain ⟨x1, x2, x3, x4, x5, x6⟩ := hr
  have n1 : cnt a 5 ≤ 20 := hg.le (by decide)
  have n2 : cnt a 6 ≤ 60 := hg.le (by decide)
  refine ⟨by rw [h0 _ (by omega) (by omega)]; exact x1, fun k z => ?_, by rw [h0 _ (by omega) (by omega)]; exact x3, fun t z => ?_, fun k hk => ?_, by rw [h14 _ (by omega) (by omega)]; exact x6⟩
  · rw [h0.c (by omega) (by omega)] at z
    rw [h1 _ (by omega) (by omega), h1 _ (by omega) (by omega), h1 _ (by omega) (by omega), h1 _ (by omega) (by omega), h1 _ (by omega) (by omega)]
    exact x2 k z
  · rw [h0.c (by omega) (by omega)] at z
    rw [h1 _ (by omega) (by omega), h1 _ (by omega) (by omega), h1 _ (by omega) (by omega), h1 _ (by omega) (by omega), h1 _ (by omega) (by omega)]
    exact x4 t z
  · rw [x5 k hk, h0.c (i := 6) (by omega) (by omega)]
    congr 1
    apply sp_ct_cong
    intro p hp
    unfold sp_kgP
    rw [h1 _ (by omega) (by omega), h1 _ (by omega) (by omega)]
theorem rLaw.fr (hr : rLaw b a I) (hg : mG a) (h0 : ag 8 10 a a') (h1 : ag 1500 1600 a a') : rLaw b a' I := by
  obtain ⟨x1, x2, x3⟩ := hr
  have n1 : cnt a 9 ≤ 30 := hg.le (by decide)
  refine ⟨by rw [h0 _ (by omega) (by omega)]; exact x1, by rw [h0 _ (by omega) (by omega)]; exact x2, fun k z => ?_⟩
  rw [h0.c (by omega) (by omega)] at z
  rw [h1 _ (by omega) (by omega), h1 _ (by omega) (by omega), h1 _ (by omega) (by omega)]
  exact x3 k z
theorem rWal.fr (hr : rWal b a I) (hg : mG a) (h0 : ag 10 11 a a') (h1 : ag 1600 1620 a a') : rWal b a' I := by
  obtain ⟨x1, x2⟩ := hr
  have n1 : cnt a 10 ≤ 6 := hg.le (by decide)
  refine ⟨by rw [h0 _ (by omega) (by omega)]; exact x1, fun k z => ?_⟩
  rw [h0.c (by omega) (by omega)] at z
  rw [h1 _ (by omega) (by omega), h1 _ (by omega) (by omega)]
  exact x2 k z
end FRM
