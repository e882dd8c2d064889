/-! class: how its memory tells of the reference's numbers -/
def stpI (w d : Nat) : Int32 := if d = 0 then nI 1 else if d = 1 then -nI 1 else if d = 2 then nI w else -nI w
def rGro (w h b : Nat) (a : Nat → Int32) (I : pvI) (J : pvJ) : Prop := (∀ c, c < 64 → I (b + 2) c = a (20 + c)) ∧ (∀ c, c < 64 → I (b + 3) c = a (84 + c)) ∧ (∀ c, c < 64 → I (b + 4) c = nI (fN a c)) ∧ (∀ m, m < 100 → J (b + 5) m = mk (fullB w h a m)) ∧ J (b + 1) 5 = mk (fun c => decide (cnt a (20 + c) = 3)) ∧ J (b + 1) 6 = mk (fun c => decide (0 < cnt a (84 + c))) ∧ I (b + 1) 7 = a 15 ∧ I (b + 1) 8 = a 11 ∧ I (b + 1) 9 = a 12 ∧ I (b + 1) 10 = a 13
def rWrk (w h b : Nat) (a : Nat → Int32) (I : pvI) (J : pvJ) : Prop := I (b + 6) 0 = a 1 ∧ (∀ k, k < cnt a 1 → I (b + 7) k = a (150 + 3 * k) ∧ I (b + 8) k = a (150 + 3 * k + 1) ∧ I (b + 9) k = a (150 + 3 * k + 2)) ∧ (∀ m, m < 100 → J (b + 10) m = mk (hoB a m none)) ∧ I (b + 6) 5 = a 2 ∧ (∀ t, t < cnt a 2 → I (b + 11) t = a (210 + 5 * t) ∧ I (b + 12) t = stpI w (cnt a (210 + 5 * t + 1)) ∧ I (b + 13) t = a (210 + 5 * t + 2) ∧ I (b + 14) t = a (210 + 5 * t + 3) ∧ I (b + 15) t = a (210 + 5 * t + 4)) ∧ (∀ m, m < 100 → J (b + 16) m = mk (cutb w h a (m + 1)))
def rKno (b : Nat) (a : Nat → Int32) (I : pvI) : Prop := I (b + 17) 0 = a 3 ∧ (∀ s, s < cnt a 3 → I (b + 18) s = a (260 + 2 * s) ∧ I (b + 19) s = a (260 + 2 * s + 1)) ∧ I (b + 17) 3 = a 4 ∧ (∀ r, r < cnt a 4 → I (b + 20) r = a (280 + 4 * r) ∧ I (b + 21) r = a (280 + 4 * r + 1) ∧ I (b + 22) r = a (280 + 4 * r + 2) ∧ I (b + 23) r = a (280 + 4 * r + 3))
def rTwn (b : Nat) (a : Nat → Int32) (I : pvI) : Prop := I (b + 24) 0 = a 5 ∧ (∀ k, k < cnt a 5 → I (b + 25) k = a (1080 + 5 * k) ∧ I (b + 26) k = a (1080 + 5 * k + 1) ∧ I (b + 27) k = a (1080 + 5 * k + 2) ∧ I (b + 28) k = a (1080 + 5 * k + 3) ∧ I (b + 29) k = a (1080 + 5 * k + 4)) ∧ I (b + 24) 6 = a 6 ∧ (∀ p, p < cnt a 6 → I (b + 30) p = a (1200 + 5 * p) ∧ I (b + 31) p = a (1200 + 5 * p + 1) ∧ I (b + 32) p = a (1200 + 5 * p + 2) ∧ I (b + 33) p = a (1200 + 5 * p + 3) ∧ I (b + 34) p = a (1200 + 5 * p + 4)) ∧ (∀ k, k < 10 → I (b + 35) k = nI (sp_ct (sp_kgP a (nI k)) (cnt a 6))) ∧ I (b + 24) 13 = a 14
def rLaw (b : Nat) (a : Nat → Int32) (I : pvI) : Prop := I (b + 36) 0 = a 8 ∧ I (b + 36) 1 = a 9 ∧ ∀ f, f < cnt a 9 → I (b + 37) f = a (1500 + 3 * f) ∧ I (b + 38) f = a (1500 + 3 * f + 1) ∧ I (b + 39) f = a (1500 + 3 * f + 2)
def rWal (b : Nat) (a : Nat → Int32) (I : pvI) : Prop := I (b + 40) 0 = a 10 ∧ ∀ p, p < cnt a 10 → I (b + 41) p = a (1600 + 2 * p) ∧ I (b + 42) p = a (1600 + 2 * p + 1)
def rW (w h b : Nat) (a : Nat → Int32) (I : pvI) (J : pvJ) : Prop := I b 0 = a 0 ∧ rGro w h b a I J ∧ rWrk w h b a I J ∧ rKno b a I ∧ rTwn b a I ∧ rLaw b a I ∧ rWal b a I
/-- what is known of the reference's numbers -/
def mInv (w h : Nat) (a : Nat → Int32) : Prop := mF w h a ∧ mRead (w * h) a ∧ mLv (w * h) a ∧ mFill a ∧ mForce a ∧ (fH w h a ∧ fHk w h a) ∧ (∀ m c, cnt a 0 < m → m < 100 → c < 64 → cnt a (1620 + 64 * m + c) = 0) ∧ (∀ r, r < cnt a 4 → cnt a (280 + 4 * r + 1) ≤ cnt a 0)
theorem mG_eq {a : Nat → Int32} (hg : mG a) {i : Nat} (hi : i < 16) : a i = nI (cnt a i) ∧ cnt a i ≤ sp_lim i ∧ sp_lim i ≤ 999 := by
  obtain ⟨v, v1, v2⟩ := hg i hi
  have hl : sp_lim i ≤ 999 := by
    have : ∀ i, i < 16 → sp_lim i ≤ 999 := by decide
    exact this i hi
  have e := cnt_of v2 (by omega)
  rw [e]
  exact ⟨v2, v1, hl⟩
theorem rW.wF {w h : Nat} {a : Nat → Int32} {I : pvI} {J : pvJ} (hr : rW w h 3 a I J) (hg : gridOk w h I J) (hi : mInv w h a) : wF w h a I J := by
  obtain ⟨r0, ⟨g1, g2, g3, g4, g5, g6, g7, g8, g9, g10⟩, ⟨k1, k2, k3, k4, k5, k6⟩, -⟩ := hr
  have hG := hi.1.1
  refine ⟨hg, fun c hc => ?_, g6, g5, ⟨by rw [g8]; exact (mG_eq hG (by decide)).1, by rw [g9]; exact (mG_eq hG (by decide)).1, by rw [g10]; exact (mG_eq hG (by decide)).1⟩, g4, k3, k6, by rw [k1]; exact (mG_eq hG (by decide)).1, k2⟩
  obtain ⟨v, v1, v2⟩ := hi.1.2.1.2.1 c hc
  rw [g2 c hc, cnt_of v2 (by omega)]; exact v2
/-- the fires -/
def fad (s : Nat) : Nat := 90 + 6 * s
theorem fad_ok {s : Nat} (h : s < 9) : fAd (fad s) := ⟨s, h, rfl⟩
def rFir (w h : Nat) (a : Nat → Int32) (I : pvI) (J : pvJ) : Prop := ∀ s, s < 8 → (I (fad s) 2 = -1 ∧ J (fad s) 3 = 0) ∧ (∃ sn, sn ≤ 100 ∧ I (fad s) 5 = nI sn ∧ (I (fad s) 4 = -1 ∨ ∃ k, k ≤ 99 ∧ I (fad s) 4 = nI k)) ∧ (s < cnt a 3 → I (fad s) 0 = a (260 + 2 * s) ∧ I (fad s) 1 = a (260 + 2 * s + 1) ∧ ∃ sn, fVn w h a 0 none s (fad s) 0 sn I J)
def rTri (I : pvI) (J : pvJ) : Prop := I 138 2 = -1 ∧ J 138 3 = 0 ∧ ∃ sn, sn ≤ 100 ∧ I 138 5 = nI sn ∧ (I 138 4 = -1 ∨ ∃ k, k ≤ 99 ∧ I 138 4 = nI k)
/-- all states were seen to a week -/
def seenT (w h : Nat) (a : Nat → Int32) (g : Nat) (I : pvI) (J : pvJ) : Prop := ∀ s, s < cnt a 3 → ∃ sn, g + 1 ≤ sn ∧ fVn w h a 0 none s (fad s) 0 sn I J
theorem fad_lt {s : Nat} (h : s < 8) : 90 ≤ fad s ∧ fad s + 5 < 138 := by unfold fad; omega
/-- a fire's own cells alone -/
theorem fVn.mv {w h : Nat} {a : Nat → Int32} {wl s F cat sn : Nat} {wo : Option Nat} {I I' : pvI} {J J' : pvJ} (hv : fVn w h a wl wo s F cat sn I J) (hI : ∀ x, F ≤ x → x ≤ F + 5 → I' x = I x) (hJ : ∀ x, F ≤ x → x ≤ F + 5 → J' x = J x) : fVn w h a wl wo s F cat sn I' J' := by
  unfold fVn fWk fCu at hv ⊢
  rw [hI F (by omega) (by omega), hI (F + 1) (by omega) (by omega), hI (F + 2) (by omega) (by omega), hJ F (by omega) (by omega), hJ (F + 3) (by omega) (by omega), hJ (F + 4) (by omega) (by omega), hJ (F + 5) (by omega) (by omega)]
  exact hv
theorem walOk0 {a : Nat → Int32} {m : Nat} : walOk a 0 m (fun _ => false) := fun c _ => by
  have : wlB a 0 c (cnt a 10) = false := by
    unfold wlB
    apply Bool.eq_false_iff.mpr
    intro z
    obtain ⟨p, -, h2⟩ := anyB_iff.mp z
    have := (of_decide_eq_true h2).1
    rw [Nat.zero_div] at this
    omega
  rw [this]
  simp
theorem fEnv0 {w h : Nat} {a : Nat → Int32} {s : Nat} (hi : mInv w h a) (hwh : w * h ≤ 64) (hs : s < cnt a 3) : fEnv w h a s none (cnt a (260 + 2 * s)) (cnt a (260 + 2 * s + 1)) (-1) := by
  obtain ⟨⟨x, x1, x2⟩, ⟨y, y1, y2⟩⟩ := hi.1.2.2.1 s hs
  obtain ⟨c1, c2⟩ := hi.2.2.2.2.2.1
  refine ⟨hi.1, c1, c2, ⟨rfl, ?_⟩, ⟨rfl, ?_⟩, fun k hk => ?_, by simp⟩
  · rw [cnt_of x2 (by omega)]; exact x1
  · rw [cnt_of y2 (by omega)]; exact y1
  · constructor
    · intro z
      have := congrArg Int32.toInt z
      rw [nI_toInt (by omega)] at this
      have e : ((-1 : Int32)).toInt = -1 := rfl
      omega
    · intro z; cases z
