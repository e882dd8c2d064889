/-! class: a week goes by in a fire -/
section PAS
variable {w h : Nat} {a : Nat → Int32} {wl m : Nat} {wo : Option Nat} {b : fS}
def auC (w h : Nat) (a : Nat → Int32) (wl : Nat) (wo : Option Nat) (m : Nat) (b : fS) (c : Nat) : Bool := decide (c < w * h) && fair w h a wl wo m b c
def spF (b : fS) (rt : Nat) (au : Nat → Bool) (c : Nat) : Bool := mB b c && decide (b.2.1 c ≤ if au c = true then rt else rt / 2)
def h1F (w h : Nat) (b : fS) (au : Nat → Bool) (c : Nat) : Nat := if wmF w h b au c = true then b.2.2 c + byN w h b.1 c 4 else b.2.2 c
theorem pass_sp (hb : fI w h a (m + 1) b) (c : Nat) : spF b (cnt a 12) (auC w h a wl wo m b) c = spt a (fair w h a wl wo m b) b c := by
  unfold spF spt mB boX auC
  apply bool_eq
  rw [Bool.and_eq_true, decide_eq_true_iff, decide_eq_true_iff, decide_eq_true_iff]
  by_cases e1 : b.1 c = 1
  · have hc : c < w * h := by
      rcases Nat.lt_or_ge c (w * h) with z | z
      · exact z
      · have := ((hb c).2.2.2.2.2 z).1; omega
    simp [hc]
  · simp [e1]
theorem pass_cg (hw : 2 ≤ w) (hb : fI w h a (m + 1) b) (c : Nat) : cgF w h (cnt a 11) b (auC w h a wl wo m b) c = cgt w h a (fair w h a wl wo m b) b c := by
  apply bool_eq
  rw [cgt_iff]
  unfold cgF wmF auC mU mB
  simp only [Bool.and_eq_true, decide_eq_true_iff, Bool.not_eq_true', decide_eq_false_iff_not]
  constructor
  · rintro ⟨⟨⟨⟨h1, h2⟩, h3⟩, h4, h5⟩, h6⟩
    exact ⟨h4, h3, h2, h5, h6⟩
  · rintro ⟨h1, h2, h3, h4, h5⟩
    refine ⟨⟨⟨⟨?_, h3⟩, h2⟩, h1, h4⟩, h5⟩
    cases hs : spr w h (mB b) c with
    | true => exact hs
    | false =>
      exfalso
      have := by_zero (b := b) hw h1 hs 4 (Nat.le_refl 4)
      have := (hb c).2.2.2.2.1 h3 h2
      omega
theorem pass_sets (hw : 2 ≤ w) (hb : fI w h a (m + 1) b) (c : Nat) : ((mB b c && !spF b (cnt a 12) (auC w h a wl wo m b) c) || cgF w h (cnt a 11) b (auC w h a wl wo m b) c) = mB (fburn w h a wl wo m b) c ∧ (mT b c || spF b (cnt a 12) (auC w h a wl wo m b) c) = mT (fburn w h a wl wo m b) c ∧ (mU b c && !spF b (cnt a 12) (auC w h a wl wo m b) c) = mU (fburn w h a wl wo m b) c ∧
    (fburn w h a wl wo m b).2.1 c = (if mB b c = true then b.2.1 c - (if auC w h a wl wo m b c = true then cnt a 12 else cnt a 12 / 2) else b.2.1 c) := by
  rw [pass_sp hb c, pass_cg hw hb c]
  obtain ⟨q1, q2, q3⟩ := fb_all (wl := wl) (wo := wo) hb c
  obtain ⟨h1, h2, h3, h4, h5, h6⟩ := hb c
  unfold mB mT mU
  rw [q1, q2]
  by_cases e1 : b.1 c = 1
  · have hc : c < w * h := by
      rcases Nat.lt_or_ge c (w * h) with z | z
      · exact z
      · have := (h6 z).1; omega
    have e0 := h2 e1
    have hg : cgt w h a (fair w h a wl wo m b) b c = false := Bool.eq_false_iff.mpr (fun z => (cgt_iff.mp z).2.1 e1)
    have hau : auC w h a wl wo m b c = fair w h a wl wo m b c := by unfold auC; simp [hc]
    have hbo : boX a (fair w h a wl wo m b) c = if fair w h a wl wo m b c = true then cnt a 12 else cnt a 12 / 2 := rfl
    by_cases e2 : spt a (fair w h a wl wo m b) b c = true
    · have e3 := (spt_iff.mp e2).2
      simp [e1, e2, hg, hau, ← hbo]
      omega
    · have e3 : ¬ b.2.1 c ≤ boX a (fair w h a wl wo m b) c := fun z => e2 (spt_iff.mpr ⟨e1, z⟩)
      have e2' : spt a (fair w h a wl wo m b) b c = false := by simpa using e2
      simp [e1, e2', hg, hau, ← hbo]
      omega
  · have hs : spt a (fair w h a wl wo m b) b c = false := Bool.eq_false_iff.mpr (fun z => e1 (spt_iff.mp z).1)
    by_cases e2 : cgt w h a (fair w h a wl wo m b) b c = true
    · have e3 := cgt_iff.mp e2
      simp [e1, e2, hs]
      intro z
      have := h1 z
      have := e3.2.2.1
      omega
    · have e2' : cgt w h a (fair w h a wl wo m b) b c = false := by simpa using e2
      simp [e1, e2', hs]
theorem pass_heat (hw : 2 ≤ w) (hb : fI w h a (m + 1) b) {wm : Nat → Bool} {c : Nat} (hwm : 0 < b.2.1 c → b.1 c ≠ 1 → 0 < b.2.2 c → wm c = true) :
    (fburn w h a wl wo m b).2.2 c = (if coF (fun c => wm c || wmF w h b (auC w h a wl wo m b) c) b (auC w h a wl wo m b) c = true then h1F w h b (auC w h a wl wo m b) c - 1 else h1F w h b (auC w h a wl wo m b) c) ∧
    (0 < (fburn w h a wl wo m b).2.1 c → (fburn w h a wl wo m b).1 c ≠ 1 → 0 < (fburn w h a wl wo m b).2.2 c → ((wm c || wmF w h b (auC w h a wl wo m b) c) && !(coF (fun c => wm c || wmF w h b (auC w h a wl wo m b) c) b (auC w h a wl wo m b) c && decide (h1F w h b (auC w h a wl wo m b) c - 1 = 0))) = true) := by
  obtain ⟨q1, q2, q3⟩ := fb_all (wl := wl) (wo := wo) hb c
  obtain ⟨h1, h2, h3, h4, h5, h6⟩ := hb c
  rw [q1, q2, q3]
  have e6 : w * h ≤ c → b.2.1 c = 0 := fun z => (h6 z).2
  by_cases e1 : b.1 c = 1
  · have hB : mB b c = true := decide_eq_true e1
    have hf : wmF w h b (auC w h a wl wo m b) c = false := by unfold wmF; rw [hB]; simp
    have hco : coF (fun c => wm c || wmF w h b (auC w h a wl wo m b) c) b (auC w h a wl wo m b) c = false := by unfold coF; rw [hB]; simp
    refine ⟨?_, ?_⟩
    · rw [if_neg (fun z => z.2.1 e1), hco, if_neg (by decide)]
      unfold h1F; rw [hf, if_neg (by decide)]
    · rw [if_pos e1, if_pos e1]
      by_cases e2 : spt a (fair w h a wl wo m b) b c = true
      · have := (spt_iff.mp e2).2
        intro z; omega
      · rw [if_neg e2]
        intro _ z; exact absurd rfl z
  · have hB : mB b c = false := decide_eq_false e1
    by_cases e2 : 0 < b.2.1 c
    · have hc : c < w * h := by
        rcases Nat.lt_or_ge c (w * h) with z | z
        · exact z
        · have := e6 z; omega
      have hU : mU b c = true := decide_eq_true e2
      have hau : auC w h a wl wo m b c = fair w h a wl wo m b c := by unfold auC; simp [hc]
      have hwf : wmF w h b (auC w h a wl wo m b) c = (spr w h (mB b) c && fair w h a wl wo m b c) := by unfold wmF; rw [hB, hU, hau]; simp
      have hco : coF (fun c => wm c || wmF w h b (auC w h a wl wo m b) c) b (auC w h a wl wo m b) c = ((wm c || wmF w h b (auC w h a wl wo m b) c) && !fair w h a wl wo m b c) := by unfold coF; rw [hB, hU, hau]; simp
      rw [if_pos (show c < w * h ∧ b.1 c ≠ 1 ∧ 0 < b.2.1 c from ⟨hc, e1, e2⟩), hco]
      have hwm' := hwm e2 e1
      by_cases e3 : fair w h a wl wo m b c = true
      · rw [if_pos e3]
        cases hs : spr w h (mB b) c with
        | true =>
          rw [hs, e3] at hwf
          unfold h1F
          rw [hwf, e3]
          simp
        | false =>
          rw [hs, Bool.false_and] at hwf
          have hz := by_zero (b := b) hw hc hs 4 (Nat.le_refl 4)
          unfold h1F
          rw [hwf, e3, hz]
          simp
          intro _ _ z
          exact hwm' z
      · have e3' : fair w h a wl wo m b c = false := by simpa using e3
        rw [if_neg e3]
        rw [e3', Bool.and_false] at hwf
        unfold h1F
        rw [hwf, e3']
        simp
        cases hwm0 : wm c with
        | true => simp; omega
        | false =>
          have hz : b.2.2 c = 0 := by
            rcases Nat.eq_zero_or_pos (b.2.2 c) with z | z
            · exact z
            · have := hwm' z; rw [hwm0] at this; cases this
          simp [hz]
    · have hU : mU b c = false := decide_eq_false e2
      have hf : wmF w h b (auC w h a wl wo m b) c = false := by unfold wmF; rw [hU]; simp
      have hco : coF (fun c => wm c || wmF w h b (auC w h a wl wo m b) c) b (auC w h a wl wo m b) c = false := by unfold coF; rw [hU]; simp
      refine ⟨?_, ?_⟩
      · rw [if_neg (fun z => e2 z.2.2), hco, if_neg (by decide)]
        unfold h1F; rw [hf, if_neg (by decide)]
      · rw [if_neg e1]
        intro z; exact absurd z e2
end PAS
