/-! the air's spreading, as layers (fb_holes: out of kit/laws/COUNTS.to-paste) -/
theorem fb_holes : ∀ (m n : Nat) (f : Nat → Nat), (∀ i, i < n → f i < m) → (∀ i j, i < j → j < n → f i ≠ f j) → n ≤ m := by
  intro m
  induction m with
  | zero =>
    intro n f h1 _
    rcases Nat.eq_zero_or_pos n with h | h
    · omega
    · exact absurd (h1 0 h) (Nat.not_lt_zero _)
  | succ m ih =>
    intro n f h1 h2
    by_cases hx : ∃ i, i < n ∧ f i = m
    · obtain ⟨a, ha, hfa⟩ := hx
      have hg := ih (n - 1) (fun i => if i < a then f i else f (i + 1)) (by
        intro i hi
        by_cases q : i < a
        · simp only [if_pos q]
          have b1 := h1 i (by omega)
          have b2 := h2 i a q ha
          omega
        · simp only [if_neg q]
          have b1 := h1 (i + 1) (by omega)
          have b2 := h2 a (i + 1) (by omega) (by omega)
          omega) (by
        intro i j hij hj
        by_cases q : i < a
        · by_cases r : j < a
          · simp only [if_pos q, if_pos r]
            exact h2 i j hij (by omega)
          · simp only [if_pos q, if_neg r]
            exact h2 i (j + 1) (by omega) (by omega)
        · have r : ¬ j < a := by omega
          simp only [if_neg q, if_neg r]
          exact h2 (i + 1) (j + 1) (by omega) (by omega))
      omega
    · have hg := ih n f (fun i hi => by
        have b1 := h1 i hi
        have b2 : f i ≠ m := fun e => hx ⟨i, hi, e⟩
        omega) h2
      omega
/-- layers: (the cells j steps away, the cells at most j steps away) -/
def bfs (n : Nat) (ho op : Nat → Bool) (adj : Nat → Nat → Bool) : Nat → (Nat → Bool) × (Nat → Bool)
  | 0 => (ho, ho)
  | j + 1 => (fun c => op c && !(bfs n ho op adj j).2 c && anyB (fun x => (bfs n ho op adj j).1 x && adj x c) n, fun c => (bfs n ho op adj j).2 c || (op c && !(bfs n ho op adj j).2 c && anyB (fun x => (bfs n ho op adj j).1 x && adj x c) n))
section BFS
variable {n : Nat} {ho op : Nat → Bool} {adj : Nat → Nat → Bool}
theorem bfs_L {j c : Nat} : (bfs n ho op adj (j + 1)).1 c = true ↔ op c = true ∧ (bfs n ho op adj j).2 c = false ∧ ∃ x, x < n ∧ (bfs n ho op adj j).1 x = true ∧ adj x c = true := by
  show (op c && !(bfs n ho op adj j).2 c && anyB (fun x => (bfs n ho op adj j).1 x && adj x c) n) = true ↔ _
  rw [Bool.and_eq_true, Bool.and_eq_true, anyB_iff]
  constructor
  · rintro ⟨⟨h1, h2⟩, x, h3, h4⟩
    rw [Bool.and_eq_true] at h4
    exact ⟨h1, by simpa using h2, x, h3, h4.1, h4.2⟩
  · rintro ⟨h1, h2, x, h3, h4, h5⟩
    exact ⟨⟨h1, by simp [h2]⟩, x, h3, by simp [h4, h5]⟩
theorem bfs_S {j c : Nat} : (bfs n ho op adj (j + 1)).2 c = ((bfs n ho op adj j).2 c || (bfs n ho op adj (j + 1)).1 c) := rfl
theorem bfs_seen {j c : Nat} : (bfs n ho op adj j).2 c = true ↔ ∃ i, i ≤ j ∧ (bfs n ho op adj i).1 c = true := by
  induction j with
  | zero =>
    constructor
    · intro h; exact ⟨0, Nat.le_refl 0, h⟩
    · rintro ⟨i, hi, h⟩
      obtain rfl : i = 0 := by omega
      exact h
  | succ j ih =>
    rw [bfs_S, Bool.or_eq_true, ih]
    constructor
    · rintro (⟨i, h1, h2⟩ | h)
      · exact ⟨i, by omega, h2⟩
      · exact ⟨j + 1, Nat.le_refl _, h⟩
    · rintro ⟨i, h1, h2⟩
      by_cases e : i = j + 1
      · subst e; exact Or.inr h2
      · exact Or.inl ⟨i, by omega, h2⟩
theorem bfs_lt {i j c : Nat} (h : (bfs n ho op adj i).1 c = true) (h2 : (bfs n ho op adj j).1 c = true) : ¬ i < j := by
  intro hlt
  obtain ⟨k, rfl⟩ : ∃ k, j = k + 1 := ⟨j - 1, by omega⟩
  have h3 := (bfs_L.mp h2).2.1
  have h4 : (bfs n ho op adj k).2 c = true := bfs_seen.mpr ⟨i, by omega, h⟩
  rw [h3] at h4
  cases h4
theorem bfs_one {i j c : Nat} (h : (bfs n ho op adj i).1 c = true) (h2 : (bfs n ho op adj j).1 c = true) : i = j := by
  have a1 := bfs_lt h h2
  have a2 := bfs_lt h2 h
  omega
def updO (st : Nat → Option Nat) (c v : Nat) : Nat → Option Nat := fun x => if x = c then some v else st x
theorem updO_s {st : Nat → Option Nat} {c v : Nat} : updO st c v c = some v := by simp [updO]
theorem updO_n {st : Nat → Option Nat} {c v x : Nat} (h : ¬ x = c) : updO st c v x = st x := by simp [updO, h]
/-- what the queue holds: i cells are done -/
def bfI (n dr : Nat) (ho op : Nat → Bool) (adj : Nat → Nat → Bool) (st : Nat → Option Nat) (rw' : Nat → Nat) (mn i : Nat) : Prop :=
  i ≤ mn ∧ (∀ p, p < mn → rw' p < n ∧ st (rw' p) ≠ none) ∧ (∀ c, st c ≠ none → ∃ p, p < mn ∧ rw' p = c) ∧ (∀ p q, p < q → q < mn → rw' p ≠ rw' q) ∧
  (∀ p q kp kq, p ≤ q → q < mn → st (rw' p) = some kp → st (rw' q) = some kq → kp ≤ kq) ∧
  (∀ q kq ki, i < mn → q < mn → st (rw' q) = some kq → st (rw' i) = some ki → kq ≤ ki + 1) ∧
  (∀ c k, st c = some k → (bfs n ho op adj k).1 c = true ∧ k ≤ dr) ∧
  (∀ p k c, p < i → st (rw' p) = some k → k < dr → adj (rw' p) c = true → op c = true → st c ≠ none) ∧ (∀ c, ho c = true → st c = some 0)
theorem bfI_mn {dr : Nat} {st : Nat → Option Nat} {rw' : Nat → Nat} {mn i : Nat} (h : bfI n dr ho op adj st rw' mn i) : mn ≤ n := fb_holes n mn rw' (fun p hp => (h.2.1 p hp).1) h.2.2.2.1
/-- cells of layers up to that of the cell in hand are known -/
theorem bfI_done {dr : Nat} {st : Nat → Option Nat} {rw' : Nat → Nat} {mn i ki : Nat} (h : bfI n dr ho op adj st rw' mn i) (hi : i < mn) (hki : st (rw' i) = some ki) : ∀ {j : Nat}, j ≤ ki → ∀ {c : Nat}, (bfs n ho op adj j).1 c = true → st c ≠ none := by
  obtain ⟨h0, h1, h2, h3, h4, h5, h6, h7, h8⟩ := h
  intro j
  induction j with
  | zero =>
    intro _ c hc
    rw [h8 c hc]
    simp
  | succ j ih =>
    intro hj c hc
    obtain ⟨g1, g2, y, g3, g4, g5⟩ := bfs_L.mp hc
    have hy := ih (by omega) g4
    obtain ⟨jy, hjy⟩ := Option.ne_none_iff_exists'.mp hy
    have e := bfs_one (h6 y jy hjy).1 g4
    subst e
    obtain ⟨p, hp, hpy⟩ := h2 y hy
    have hpi : p < i := by
      rcases Nat.lt_or_ge p i with z | z
      · exact z
      · have := h4 i p ki jy z hp hki (by rw [hpy]; exact hjy)
        omega
    have hk := (h6 _ _ hki).2
    exact h7 p jy c hpi (by rw [hpy]; exact hjy) (by omega) (by rw [hpy]; exact g5) g1
theorem bfI_end {dr : Nat} {st : Nat → Option Nat} {rw' : Nat → Nat} {mn : Nat} (h : bfI n dr ho op adj st rw' mn mn) : ∀ k c, st c = some k ↔ k ≤ dr ∧ (bfs n ho op adj k).1 c = true := by
  obtain ⟨h0, h1, h2, h3, h4, h5, h6, h7, h8⟩ := h
  have fwd : ∀ k, k ≤ dr → ∀ c, (bfs n ho op adj k).1 c = true → st c = some k := by
    intro k
    induction k with
    | zero => intro _ c hc; exact h8 c hc
    | succ k ih =>
      intro hk c hc
      obtain ⟨g1, g2, y, g3, g4, g5⟩ := bfs_L.mp hc
      have hy := ih (by omega) y g4
      obtain ⟨p, hp, hpy⟩ := h2 y (by rw [hy]; simp)
      have hn := h7 p k c hp (by rw [hpy]; exact hy) (by omega) (by rw [hpy]; exact g5) g1
      obtain ⟨k', hk'⟩ := Option.ne_none_iff_exists'.mp hn
      have e := bfs_one (h6 c k' hk').1 hc
      rw [hk', e]
  intro k c
  exact ⟨fun z => ⟨(h6 c k z).2, (h6 c k z).1⟩, fun z => fwd k z.1 c z.2⟩
/-- one more cell behind the queue: found from the cell in hand -/
theorem bfI_push {dr : Nat} {st : Nat → Option Nat} {rw' : Nat → Nat} {mn i ki c : Nat} (h : bfI n dr ho op adj st rw' mn i) (hi : i < mn) (hki : st (rw' i) = some ki) (hd : ki < dr) (hc : st c = none) (hcn : c < n) (hop : op c = true) (ha : adj (rw' i) c = true) :
    bfI n dr ho op adj (updO st c (ki + 1)) (updN rw' mn c) (mn + 1) i := by
  have hdone := fun {j : Nat} (hj : j ≤ ki) {x : Nat} (hx : (bfs n ho op adj j).1 x = true) => bfI_done h hi hki hj hx
  obtain ⟨h0, h1, h2, h3, h4, h5, h6, h7, h8⟩ := h
  have old : ∀ p, p < mn → updN rw' mn c p = rw' p := fun p hp => by simp [updN, Nat.ne_of_lt hp]
  have new : updN rw' mn c mn = c := by simp [updN]
  have ne : ∀ p, p < mn → rw' p ≠ c := fun p hp e => (h1 p hp).2 (by rw [e]; exact hc)
  have stn : ∀ p, p < mn → updO st c (ki + 1) (rw' p) = st (rw' p) := fun p hp => updO_n (ne p hp)
  refine ⟨by omega, ?_, ?_, ?_, ?_, ?_, ?_, ?_, ?_⟩
  · intro p hp
    by_cases e : p = mn
    · subst e; rw [new, updO_s]; exact ⟨hcn, by simp⟩
    · rw [old p (by omega), stn p (by omega)]; exact h1 p (by omega)
  · intro x hx
    by_cases e : x = c
    · exact ⟨mn, by omega, by rw [new, e]⟩
    · rw [updO_n e] at hx
      obtain ⟨p, hp, hpx⟩ := h2 x hx
      exact ⟨p, by omega, by rw [old p hp]; exact hpx⟩
  · intro p q hpq hq
    by_cases e : q = mn
    · subst e; rw [new, old p hpq]; exact ne p hpq
    · rw [old q (by omega), old p (by omega)]; exact h3 p q hpq (by omega)
  · intro p q kp kq hpq hq hp1 hq1
    by_cases e : q = mn
    · subst e
      rw [new, updO_s] at hq1
      cases hq1
      by_cases e2 : p = q
      · subst e2
        rw [new, updO_s] at hp1
        cases hp1
        omega
      · rw [old p (by omega), stn p (by omega)] at hp1
        exact h5 p kp ki hi (by omega) hp1 hki
    · rw [old q (by omega), stn q (by omega)] at hq1
      rw [old p (by omega), stn p (by omega)] at hp1
      exact h4 p q kp kq hpq (by omega) hp1 hq1
  · intro q kq ki' _ hq hq1 hi1
    rw [old i hi, stn i hi, hki] at hi1
    cases hi1
    by_cases e : q = mn
    · subst e
      rw [new, updO_s] at hq1
      cases hq1
      omega
    · rw [old q (by omega), stn q (by omega)] at hq1
      exact h5 q kq ki hi (by omega) hq1 hki
  · intro x k hx
    by_cases e : x = c
    · rw [e, updO_s] at hx
      cases hx
      subst e
      refine ⟨bfs_L.mpr ⟨hop, ?_, rw' i, (h1 i hi).1, (h6 _ _ hki).1, ha⟩, by omega⟩
      cases hs : (bfs n ho op adj ki).2 x with
      | false => rfl
      | true =>
        obtain ⟨j, hj, hjx⟩ := bfs_seen.mp hs
        exact absurd hc (hdone hj hjx)
    · rw [updO_n e] at hx
      exact h6 x k hx
  · intro p k x hp hp1 hk hax hox
    rw [old p (by omega)] at hp1 hax
    rw [stn p (by omega)] at hp1
    have := h7 p k x hp hp1 hk hax hox
    by_cases e : x = c
    · rw [e, updO_s]; simp
    · rw [updO_n e]; exact this
  · intro x hx
    have := h8 x hx
    have e : x ≠ c := fun z => by rw [z, hc] at this; cases this
    rw [updO_n e]; exact this
/-- the cell in hand is done -/
theorem bfI_next {dr : Nat} {st : Nat → Option Nat} {rw' : Nat → Nat} {mn i ki : Nat} (h : bfI n dr ho op adj st rw' mn i) (hi : i < mn) (hki : st (rw' i) = some ki) (hd : ki < dr → ∀ c, adj (rw' i) c = true → op c = true → st c ≠ none) : bfI n dr ho op adj st rw' mn (i + 1) := by
  obtain ⟨h0, h1, h2, h3, h4, h5, h6, h7, h8⟩ := h
  refine ⟨by omega, h1, h2, h3, h4, ?_, h6, ?_, h8⟩
  · intro q kq k1 hi1 hq hq1 hk1
    have := h5 q kq ki hi hq hq1 hki
    have := h4 i (i + 1) ki k1 (by omega) hi1 hki hk1
    omega
  · intro p k c hp hp1 hk ha ho'
    by_cases e : p = i
    · subst e
      rw [hki] at hp1
      cases hp1
      exact hd hk c ha ho'
    · exact h7 p k c (by omega) hp1 hk ha ho'
end BFS
