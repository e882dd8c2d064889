/-! the fire as sets of cells -/
def fH (w h : Nat) (a : Nat → Int32) : Prop := (∀ c, w * h ≤ c → c < 64 → cnt a (84 + c) = 0) ∧ 1 ≤ cnt a 11
def fI (w h : Nat) (a : Nat → Int32) (m : Nat) (r : fS) : Prop := ∀ c, (r.1 c = 2 → r.2.1 c = 0) ∧ (r.1 c = 1 → 0 < r.2.1 c) ∧ r.1 c ≤ 2 ∧ (cutb w h a m c = true → r.1 c = 0 ∧ r.2.1 c = 0) ∧ (0 < r.2.1 c → r.1 c ≠ 1 → r.2.2 c < cnt a 11) ∧ (w * h ≤ c → r.1 c = 0 ∧ r.2.1 c = 0)
theorem fI_0 {w h : Nat} {a : Nat → Int32} {wl s : Nat} {wo : Option Nat} (hf : fH w h a) : fI w h a 0 (fraw w h a wl wo s 0) := by
  intro c
  refine ⟨fun h1 => absurd h1 (by show ¬ (0 = 2); decide), fun h1 => absurd h1 (by show ¬ (0 = 1); decide), Nat.zero_le _, fun h1 => absurd h1 (by show ¬ (false = true); decide), fun _ _ => ?_, fun h1 => ⟨rfl, ?_⟩⟩
  · show 0 < cnt a 11
    exact hf.2
  · show (if c < 64 then cnt a (84 + c) else 0) = 0
    split
    · exact hf.1 c h1 (by assumption)
    · rfl
theorem nw1_cases {a : Nat → Int32} {s m : Nat} {lf cu nw : Nat → Nat} {c : Nat} : ((cnt a (260 + 2 * s + 1) = m ∧ c = cnt a (260 + 2 * s) ∧ 0 < lf c ∧ cu c = 0) ∧ nw1 a s m lf cu nw c = 1) ∨ (¬ (cnt a (260 + 2 * s + 1) = m ∧ c = cnt a (260 + 2 * s) ∧ 0 < lf c ∧ cu c = 0) ∧ nw1 a s m lf cu nw c = nw c) := by
  unfold nw1
  by_cases h : cnt a (260 + 2 * s + 1) = m ∧ c = cnt a (260 + 2 * s) ∧ 0 < lf c ∧ cu c = 0
  · rw [if_pos h]; exact Or.inl ⟨h, rfl⟩
  · rw [if_neg h]; exact Or.inr ⟨h, rfl⟩
theorem fbeg_1 {w h : Nat} {a : Nat → Int32} {s m : Nat} {r : fS} {c : Nat} : (fbeg w h a s m r).1 c = if cutw w h a m c = true then 0 else nw1 a s m r.2.1 (cuB w h a m) r.1 c := rfl
theorem fbeg_2 {w h : Nat} {a : Nat → Int32} {s m : Nat} {r : fS} {c : Nat} : (fbeg w h a s m r).2.1 c = if cutw w h a m c = true then 0 else r.2.1 c := rfl
theorem fbeg_3 {w h : Nat} {a : Nat → Int32} {s m : Nat} {r : fS} {c : Nat} : (fbeg w h a s m r).2.2 c = r.2.2 c := rfl
theorem cutb_s {w h : Nat} {a : Nat → Int32} {m c : Nat} : cutb w h a (m + 1) c = (cutb w h a m c || cutw w h a m c) := rfl
/-- the cell of a state that begins to burn -/
def ign (a : Nat → Int32) (s m : Nat) (r : fS) (c : Nat) : Bool := decide (cnt a (260 + 2 * s + 1) = m ∧ c = cnt a (260 + 2 * s) ∧ 0 < r.2.1 c)
theorem ign_iff {a : Nat → Int32} {s m : Nat} {r : fS} {c : Nat} : ign a s m r c = true ↔ (cnt a (260 + 2 * s + 1) = m ∧ c = cnt a (260 + 2 * s) ∧ 0 < r.2.1 c) := decide_eq_true_iff
theorem nw1_ign {w h : Nat} {a : Nat → Int32} {s m : Nat} {r : fS} (hr : fI w h a m r) {c : Nat} : nw1 a s m r.2.1 (cuB w h a m) r.1 c = if ign a s m r c = true then 1 else r.1 c := by
  obtain ⟨h1, h2, h3, h4, h5, h6⟩ := hr c
  rcases nw1_cases (a := a) (s := s) (m := m) (lf := r.2.1) (cu := cuB w h a m) (nw := r.1) (c := c) with ⟨g1, g2⟩ | ⟨g1, g2⟩
  · rw [g2, if_pos (ign_iff.mpr ⟨g1.1, g1.2.1, g1.2.2.1⟩)]
  · rw [g2]
    by_cases hi : ign a s m r c = true
    · exfalso
      have hi2 := ign_iff.mp hi
      apply g1
      refine ⟨hi2.1, hi2.2.1, hi2.2.2, ?_⟩
      unfold cuB
      rw [if_neg (fun z => by have := (h4 z).2; omega)]
    · rw [if_neg hi]
theorem fI_beg {w h : Nat} {a : Nat → Int32} {s m : Nat} {r : fS} (hs : cnt a (260 + 2 * s) < w * h) (hr : fI w h a m r) : fI w h a (m + 1) (fbeg w h a s m r) := by
  intro c
  obtain ⟨h1, h2, h3, h4, h5, h6⟩ := hr c
  rw [fbeg_1, fbeg_2, fbeg_3, cutb_s, nw1_ign hr]
  by_cases hc : cutw w h a m c = true
  · rw [if_pos hc, if_pos hc]
    exact ⟨fun z => absurd z (by decide), fun z => absurd z (by decide), Nat.zero_le _, fun _ => ⟨rfl, rfl⟩, fun z => absurd z (by decide), fun _ => ⟨rfl, rfl⟩⟩
  · rw [if_neg hc, if_neg hc]
    have hcf : cutw w h a m c = false := by simpa using hc
    rw [hcf, Bool.or_false]
    by_cases hi : ign a s m r c = true
    · have hi2 := ign_iff.mp hi
      rw [if_pos hi]
      refine ⟨fun z => absurd z (by decide), fun _ => hi2.2.2, by decide, fun z => ?_, fun _ z => absurd rfl z, fun z => ?_⟩
      · have := (h4 z).2; omega
      · have := hi2.2.1; omega
    · rw [if_neg hi]
      exact ⟨h1, h2, h3, h4, h5, h6⟩
theorem filN_at {f s : Nat → Nat} {i c : Nat} : filN f s i c = if c < i then f c else s c := rfl
section FB
variable {w h : Nat} {a : Nat → Int32} {wl m : Nat} {wo : Option Nat} {b : fS}
theorem fburn_1 {c : Nat} : (fburn w h a wl wo m b).1 c = if c < w * h then stB w h a (fair w h a wl wo m b) b.1 b.2.1 b.2.2 c else b.1 c := rfl
theorem fburn_2 {c : Nat} : (fburn w h a wl wo m b).2.1 c = if c < w * h then lfB a (fair w h a wl wo m b) b.1 b.2.1 c else b.2.1 c := rfl
theorem fburn_3 {c : Nat} : (fburn w h a wl wo m b).2.2 c = if c < w * h then htB w h (fair w h a wl wo m b) b.1 b.2.1 b.2.2 c else b.2.2 c := rfl
/-- caught, and spent, in a week -/
def cgt (w h : Nat) (a : Nat → Int32) (au : Nat → Bool) (b : fS) (c : Nat) : Bool := decide (c < w * h ∧ b.1 c ≠ 1 ∧ 0 < b.2.1 c ∧ au c = true ∧ cnt a 11 ≤ b.2.2 c + byN w h b.1 c 4)
def spt (a : Nat → Int32) (au : Nat → Bool) (b : fS) (c : Nat) : Bool := decide (b.1 c = 1 ∧ b.2.1 c ≤ boX a au c)
theorem cgt_iff {au : Nat → Bool} {c : Nat} : cgt w h a au b c = true ↔ (c < w * h ∧ b.1 c ≠ 1 ∧ 0 < b.2.1 c ∧ au c = true ∧ cnt a 11 ≤ b.2.2 c + byN w h b.1 c 4) := decide_eq_true_iff
theorem spt_iff {au : Nat → Bool} {c : Nat} : spt a au b c = true ↔ (b.1 c = 1 ∧ b.2.1 c ≤ boX a au c) := decide_eq_true_iff
theorem fb_all (hb : fI w h a (m + 1) b) (c : Nat) : (fburn w h a wl wo m b).1 c = (if b.1 c = 1 then (if spt a (fair w h a wl wo m b) b c = true then 2 else 1) else if cgt w h a (fair w h a wl wo m b) b c = true then 1 else b.1 c) ∧
    (fburn w h a wl wo m b).2.1 c = (if b.1 c = 1 then b.2.1 c - boX a (fair w h a wl wo m b) c else b.2.1 c) ∧
    (fburn w h a wl wo m b).2.2 c = (if c < w * h ∧ b.1 c ≠ 1 ∧ 0 < b.2.1 c then (if fair w h a wl wo m b c = true then b.2.2 c + byN w h b.1 c 4 else b.2.2 c - 1) else b.2.2 c) := by
  obtain ⟨h1, h2, h3, h4, h5, h6⟩ := hb c
  rw [fburn_1, fburn_2, fburn_3]
  generalize fair w h a wl wo m b = au
  by_cases hc : c < w * h
  · rw [if_pos hc, if_pos hc, if_pos hc]
    unfold stB lfB htB
    by_cases e1 : b.1 c = 1
    · by_cases e2 : b.2.1 c ≤ boX a au c
      · have hs : spt a au b c = true := spt_iff.mpr ⟨e1, e2⟩
        simp [e1, e2, hs]
      · have hs : spt a au b c = false := Bool.eq_false_iff.mpr (fun z => e2 (spt_iff.mp z).2)
        simp [e1, e2, hs]
    · by_cases e2 : 0 < b.2.1 c
      · by_cases e3 : au c = true
        · by_cases e4 : cnt a 11 ≤ b.2.2 c + byN w h b.1 c 4
          · have hg : cgt w h a au b c = true := cgt_iff.mpr ⟨hc, e1, e2, e3, e4⟩
            simp [e1, e2, e3, e4, hg, hc]
          · have hg : cgt w h a au b c = false := Bool.eq_false_iff.mpr (fun z => e4 (cgt_iff.mp z).2.2.2.2)
            simp [e1, e2, e3, e4, hg, hc]
        · have hg : cgt w h a au b c = false := Bool.eq_false_iff.mpr (fun z => e3 (cgt_iff.mp z).2.2.2.1)
          simp [e1, e2, e3, hg, hc]
      · have hg : cgt w h a au b c = false := Bool.eq_false_iff.mpr (fun z => e2 (cgt_iff.mp z).2.2.1)
        simp [e1, e2, hg, hc]
  · rw [if_neg hc, if_neg hc, if_neg hc]
    obtain ⟨g1, g2⟩ := h6 (by omega)
    refine ⟨?_, ?_, ?_⟩
    · rw [if_neg (by omega), if_neg (fun z => hc (cgt_iff.mp z).1)]
    · rw [if_neg (by omega)]
    · rw [if_neg (fun z => hc z.1)]
theorem fI_burn (hb : fI w h a (m + 1) b) : fI w h a (m + 1) (fburn w h a wl wo m b) := by
  intro c
  obtain ⟨h1, h2, h3, h4, h5, h6⟩ := hb c
  obtain ⟨q1, q2, q3⟩ := fb_all (wl := wl) (wo := wo) hb c
  rw [q1, q2, q3]
  generalize fair w h a wl wo m b = au
  by_cases e1 : b.1 c = 1
  · rw [if_pos e1, if_pos e1]
    have e0 := h2 e1
    by_cases e2 : spt a au b c = true
    · have e3 := (spt_iff.mp e2).2
      rw [if_pos e2]
      refine ⟨fun _ => by omega, fun z => absurd z (by decide), by decide, fun z => ?_, fun z => by omega, fun z => ?_⟩
      · have := (h4 z).1; omega
      · have := (h6 z).1; omega
    · have e3 : ¬ b.2.1 c ≤ boX a au c := fun z => e2 (spt_iff.mpr ⟨e1, z⟩)
      rw [if_neg e2]
      refine ⟨fun z => absurd z (by decide), fun _ => by omega, by decide, fun z => ?_, fun _ z => absurd rfl z, fun z => ?_⟩
      · have := (h4 z).1; omega
      · have := (h6 z).1; omega
  · rw [if_neg e1, if_neg e1]
    by_cases e2 : cgt w h a au b c = true
    · have e3 := cgt_iff.mp e2
      rw [if_pos e2]
      refine ⟨fun z => absurd z (by decide), fun _ => e3.2.2.1, by decide, fun z => ?_, fun _ z => absurd rfl z, fun z => ?_⟩
      · have := (h4 z).2; have := e3.2.2.1; omega
      · have := e3.1; omega
    · rw [if_neg e2]
      refine ⟨h1, fun z => absurd z e1, h3, h4, fun z1 z2 => ?_, h6⟩
      have g5 := h5 z1 e1
      by_cases e4 : c < w * h ∧ b.1 c ≠ 1 ∧ 0 < b.2.1 c
      · rw [if_pos e4]
        by_cases e5 : au c = true
        · rw [if_pos e5]
          have : ¬ cnt a 11 ≤ b.2.2 c + byN w h b.1 c 4 := fun z => e2 (cgt_iff.mpr ⟨e4.1, e1, z1, e5, z⟩)
          omega
        · rw [if_neg e5]; omega
      · rw [if_neg e4]; exact g5
end FB
theorem fI_raw {w h : Nat} {a : Nat → Int32} {wl s : Nat} {wo : Option Nat} (hf : fH w h a) (hs : cnt a (260 + 2 * s) < w * h) : ∀ m, fI w h a m (fraw w h a wl wo s m)
  | 0 => fI_0 hf
  | m + 1 => fI_burn (fI_beg hs (fI_raw hf hs m))
theorem fI_wk {w h : Nat} {a : Nat → Int32} {wl s m : Nat} {wo : Option Nat} (hf : fH w h a) (hs : cnt a (260 + 2 * s) < w * h) : fI w h a (m + 1) (fwk w h a wl wo s m) := fI_beg hs (fI_raw hf hs m)
-- sets of a state
def mB (r : fS) : Nat → Bool := fun c => decide (r.1 c = 1)
def mT (r : fS) : Nat → Bool := fun c => decide (r.1 c = 2)
def mU (r : fS) : Nat → Bool := fun c => decide (0 < r.2.1 c)
theorem bool_eq {p q : Bool} (h : p = true ↔ q = true) : p = q := by cases p <;> cases q <;> simp_all
/-- the beginning of a week, by sets -/
theorem fbeg_sets {w h : Nat} {a : Nat → Int32} {s m : Nat} {r : fS} (hr : fI w h a m r) (c : Nat) :
    ((mB r c || ign a s m r c) && !cutb w h a (m + 1) c) = mB (fbeg w h a s m r) c ∧ (mT r c && !cutb w h a (m + 1) c) = mT (fbeg w h a s m r) c ∧ (mU r c && !cutb w h a (m + 1) c) = mU (fbeg w h a s m r) c ∧
    (fbeg w h a s m r).2.1 c = (if (mU r c && cutb w h a (m + 1) c) = true then 0 else r.2.1 c) ∧ ((mB r c || ign a s m r c) || mT r c) = decide (nw1 a s m r.2.1 (cuB w h a m) r.1 c ≠ 0) := by
  obtain ⟨h1, h2, h3, h4, h5, h6⟩ := hr c
  unfold mB mT mU
  rw [fbeg_1, fbeg_2, cutb_s, nw1_ign hr]
  have hig : ign a s m r c = true → 0 < r.2.1 c := fun z => (ign_iff.mp z).2.2
  by_cases hc : cutw w h a m c = true
  · rw [if_pos hc, if_pos hc, hc, Bool.or_true]
    refine ⟨by simp, by simp, by simp, ?_, ?_⟩
    · by_cases e : 0 < r.2.1 c
      · simp [e]
      · simp [e]; omega
    · apply bool_eq
      by_cases hi : ign a s m r c = true
      · simp [hi]
      · rw [if_neg hi]; simp [hi]; omega
  · have hcf : cutw w h a m c = false := by simpa using hc
    rw [if_neg hc, if_neg hc, hcf, Bool.or_false]
    by_cases hb : cutb w h a m c = true
    · obtain ⟨g1, g2⟩ := h4 hb
      have hi : ¬ ign a s m r c = true := fun z => by have := hig z; omega
      rw [if_neg hi]
      simp [hb, g1, g2, hi]
    · have hbf : cutb w h a m c = false := by simpa using hb
      rw [hbf]
      by_cases hi : ign a s m r c = true
      · have := hig hi
        rw [if_pos hi]
        refine ⟨by simp [hi], ?_, by simp, by simp, by simp [hi]⟩
        simp
        intro z
        have := h1 z
        omega
      · rw [if_neg hi]
        refine ⟨by simp [hi], by simp, by simp, by simp, ?_⟩
        apply bool_eq
        simp [hi]
        omega
