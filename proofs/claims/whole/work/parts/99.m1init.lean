/-! the law: both objects, as they are made -/
def z0 : Nat → Int32 := fun _ => 0
def aZ : Nat → Int32 := a0 z0
theorem aZ_0 {i : Nat} (h : i < 11 ∨ 13 < i) : aZ i = 0 := by
  unfold aZ a0
  simp only [upd]
  rw [if_neg (by omega), if_neg (by omega), if_neg (by omega)]
  rfl
theorem aZ_c {i : Nat} (h : i < 11 ∨ 13 < i) : cnt aZ i = 0 := by unfold cnt; rw [aZ_0 h]; rfl
theorem sumN_0 {f : Nat → Nat} (h : ∀ m, f m = 0) : ∀ n, sumN f n = 0
  | 0 => rfl
  | n + 1 => by show sumN f n + f n = 0; rw [sumN_0 h n, h n]
theorem mk_f {f : Nat → Bool} (h : ∀ c, c < 64 → f c = false) : (0 : Int64) = mk f := by rw [← mk_zero]; exact mk_cong (fun c hc => (h c hc).symm)
theorem cut_0 {w h : Nat} {a : Nat → Int32} (h2 : cnt a 2 = 0) : ∀ m c, cutb w h a m c = false
  | 0, _ => rfl
  | m + 1, c => by
    show (cutb w h a m c || cutw w h a m c) = false
    rw [cut_0 h2 m c]
    unfold cutw
    rw [h2]; rfl
theorem rW_0 {w h b : Nat} {I : pvI} {J : pvJ} (hI : ∀ k, k ≤ 42 → k ≠ 1 → k ≠ 40 → I (b + k) = z0) (h1 : I (b + 1) = gr8 z0) (h40 : I (b + 40) = wl3 z0) (hJ : ∀ k, k ≤ 42 → J (b + k) = fun _ => 0) : rW w h b aZ I J := by
  have no : ∀ {n i : Nat} {p : Prop}, (i < 11 ∨ 13 < i) → n < cnt aZ i → p := fun hi hn => by rw [aZ_c hi] at hn; exact absurd hn (Nat.not_lt_zero _)
  have hb : I b = z0 := hI 0 (by decide) (by decide) (by decide)
  refine ⟨?_, ⟨fun c hc => ?_, fun c hc => ?_, fun c hc => ?_, fun m hm => ?_, ?_, ?_, ?_, ?_, ?_, ?_⟩, ⟨?_, fun k hk => no (by omega) hk, fun m hm => ?_, ?_, fun k hk => no (by omega) hk, fun m hm => ?_⟩, ⟨?_, fun k hk => no (by omega) hk, ?_, fun k hk => no (by omega) hk⟩, ⟨?_, fun k hk => no (by omega) hk, ?_, fun k hk => no (by omega) hk, fun k hk => ?_, ?_⟩, ⟨?_, ?_, fun k hk => no (by omega) hk⟩, ⟨?_, fun k hk => no (by omega) hk⟩⟩
  · rw [hb, aZ_0 (by omega)]; rfl
  · rw [hI 2 (by decide) (by decide) (by decide), aZ_0 (by omega)]; rfl
  · rw [hI 3 (by decide) (by decide) (by decide), aZ_0 (by omega)]; rfl
  · rw [hI 4 (by decide) (by decide) (by decide)]
    unfold fN
    rw [sumN_0 (fun m => aZ_c (by omega))]; rfl
  · rw [hJ 5 (by decide)]
    refine mk_f (fun c hc => ?_)
    unfold fullB
    refine decide_eq_false (fun z => ?_)
    have : fsum aZ m c = 0 := by unfold fsum; exact sumN_0 (fun m => aZ_c (by omega)) _
    omega
  · rw [hJ 1 (by decide)]
    refine mk_f (fun c hc => decide_eq_false (fun z => ?_))
    rw [aZ_c (by omega)] at z; omega
  · rw [hJ 1 (by decide)]
    refine mk_f (fun c hc => decide_eq_false (fun z => ?_))
    rw [aZ_c (by omega)] at z; omega
  · rw [h1, aZ_0 (by omega)]; rfl
  · rw [h1]; rfl
  · rw [h1]; rfl
  · rw [h1]; rfl
  · rw [hI 6 (by decide) (by decide) (by decide), aZ_0 (by omega)]; rfl
  · rw [hJ 10 (by decide)]
    refine mk_f (fun c hc => ?_)
    unfold hoB
    rw [aZ_c (by omega)]; rfl
  · rw [hI 6 (by decide) (by decide) (by decide), aZ_0 (by omega)]; rfl
  · rw [hJ 16 (by decide)]
    exact mk_f (fun c hc => cut_0 (aZ_c (by omega)) _ _)
  · rw [hI 17 (by decide) (by decide) (by decide), aZ_0 (by omega)]; rfl
  · rw [hI 17 (by decide) (by decide) (by decide), aZ_0 (by omega)]; rfl
  · rw [hI 24 (by decide) (by decide) (by decide), aZ_0 (by omega)]; rfl
  · rw [hI 24 (by decide) (by decide) (by decide), aZ_0 (by omega)]; rfl
  · rw [hI 35 (by decide) (by decide) (by decide), aZ_c (by omega)]; rfl
  · rw [hI 24 (by decide) (by decide) (by decide), aZ_0 (by omega)]; rfl
  · rw [hI 36 (by decide) (by decide) (by decide), aZ_0 (by omega)]; rfl
  · rw [hI 36 (by decide) (by decide) (by decide), aZ_0 (by omega)]; rfl
  · rw [h40, aZ_0 (by omega)]; rfl
theorem mInv_0 {w h : Nat} : mInv w h aZ := by
  have no : ∀ {n i : Nat} {p : Prop}, (i < 11 ∨ 13 < i) → n < cnt aZ i → p := fun hi hn => by rw [aZ_c hi] at hn; exact absurd hn (Nat.not_lt_zero _)
  have g : mG aZ := fun i hi => by
    by_cases e : i < 11 ∨ 13 < i
    · exact ⟨0, Nat.zero_le _, aZ_0 e⟩
    · obtain rfl | rfl | rfl : i = 11 ∨ i = 12 ∨ i = 13 := by omega
      · exact ⟨3, by decide, rfl⟩
      · exact ⟨10, by decide, rfl⟩
      · exact ⟨6, by decide, rfl⟩
  have z : ∀ i, 13 < i → aZ i = nI 0 := fun i hi => aZ_0 (Or.inr hi)
  refine ⟨⟨g, ⟨fun c hc => ⟨0, by decide, z _ (by omega)⟩, fun c hc => ⟨0, by decide, z _ (by omega)⟩, fun m c hm hc => ⟨0, by decide, z _ (by omega)⟩⟩, fun k hk => no (by omega) hk, fun k hk => no (by omega) hk, fun k hk => no (by omega) hk, fun k hk => no (by omega) hk⟩, fun k hk => no (by omega) hk, ⟨fun k hk => no (by omega) hk, fun k hk => no (by omega) hk, ?_, g⟩, fun c hc => ?_, fun k hk => no (by omega) hk, ⟨⟨fun c h1 h2 => aZ_c (by omega), by decide⟩, fun c h1 h2 => by rw [aZ_c (by omega)]; decide⟩, fun m c h1 h2 h3 => aZ_c (by omega), fun k hk => no (by omega) hk⟩
  · unfold mWent
    rw [aZ_c (by omega), aZ_0 (by omega)]; rfl
  · unfold fN
    rw [sumN_0 (fun m => aZ_c (by omega))]; decide
