/-! model: the air of a week -/
def stv (o : Option Nat) : Int32 := match o with
  | none => -1
  | some k => nI k
def arO (g : Nat → Int32) (n : Nat) (s : Nat → Option Nat) : Nat → Int32 := fun c => if c < n then stv (s c) else g c
theorem arO_at {g : Nat → Int32} {n : Nat} {s : Nat → Option Nat} {c : Nat} (h : c < n) : arO g n s c = stv (s c) := by simp [arO, h]
theorem arO_upd {g : Nat → Int32} {n : Nat} {s : Nat → Option Nat} {c v : Nat} (h : c < n) : upd (arO g n s) c (nI v) = arO g n (updO s c v) := by
  funext x
  by_cases e : x = c
  · subst e; simp [upd, arO, updO, h, stv]
  · simp [upd, arO, updO, e]
theorem arN_push {g : Nat → Int32} {n : Nat} {s : Nat → Nat} {v : Nat} : upd (arN g n s) n (nI v) = arN g (n + 1) (updN s n v) := by
  funext x
  by_cases e : x = n
  · subst e; simp [upd, arN, updN]
  · by_cases e2 : x < n
    · have : x < n + 1 := by omega
      simp [upd, arN, updN, e, e2, this]
    · have : ¬ x < n + 1 := by omega
      simp [upd, arN, e, e2, this]
def hoP (a : Nat → Int32) (m : Nat) (wo : Option Nat) (k : Nat) : Prop := ¬ wo = some k ∧ cnt a (150 + 3 * k + 1) ≤ m ∧ ((a (150 + 3 * k + 2)).toInt < 0 ∨ (m : Int) < (a (150 + 3 * k + 2)).toInt)
abbrev hoPd (a : Nat → Int32) (m : Nat) (wo : Option Nat) (k : Nat) : Prop := ¬ wo = some k ∧ cnt a (150 + 3 * k + 1) ≤ m ∧ ((a (150 + 3 * k + 2)).toInt < 0 ∨ (m : Int) < (a (150 + 3 * k + 2)).toInt)
def hoK (a : Nat → Int32) (m : Nat) (wo : Option Nat) (c k : Nat) : Bool := decide (hoPd a m wo k) && decide (cnt a (150 + 3 * k) = c)
def hoB (a : Nat → Int32) (m : Nat) (wo : Option Nat) (c : Nat) : Bool := anyB (hoK a m wo c) (cnt a 1)
def adjB (w h x c : Nat) : Bool := anyB (fun d => decide (sp_nb w h x d = some c)) 4
def opF (a : Nat → Int32) (nw cu fl : Nat → Nat) (c : Nat) : Bool := decide (opP a nw cu fl c)
/-- the layers of a week's air -/
abbrev airL (w h : Nat) (a : Nat → Int32) (m : Nat) (wo : Option Nat) (op : Nat → Bool) (j : Nat) : (Nat → Bool) × (Nat → Bool) := bfs (w * h) (hoB a m wo) op (adjB w h) j
/-- which cells have air -/
def auF (w h : Nat) (a : Nat → Int32) (m : Nat) (wo : Option Nat) (op : Nat → Bool) (c : Nat) : Bool := (airL w h a m wo op (cnt a 13)).2 c || (!op c && anyB (fun d => match sp_nb w h c d with
  | some x => op x && (decide (1 ≤ cnt a 13) && (airL w h a m wo op (cnt a 13 - 1)).2 x)
  | none => false) 4)
def hlI (n : Nat) (st : Nat → Option Nat) (rw' : Nat → Nat) (mn : Nat) : Prop := (∀ p, p < mn → rw' p < n ∧ st (rw' p) ≠ none) ∧ (∀ c, st c ≠ none → ∃ p, p < mn ∧ rw' p = c) ∧ (∀ p q, p < q → q < mn → rw' p ≠ rw' q)
def stH (a : Nat → Int32) (m : Nat) (wo : Option Nat) (k c : Nat) : Option Nat := if anyB (hoK a m wo c) k = true then some 0 else none
theorem stH_s {a : Nat → Int32} {m k : Nat} {wo : Option Nat} : (hoPd a m wo k → stH a m wo (k + 1) = updO (stH a m wo k) (cnt a (150 + 3 * k)) 0) ∧ (¬ hoPd a m wo k → stH a m wo (k + 1) = stH a m wo k) := by
  constructor
  · intro hp
    funext c
    have e : anyB (hoK a m wo c) (k + 1) = (anyB (hoK a m wo c) k || decide (cnt a (150 + 3 * k) = c)) := by
      show (anyB (hoK a m wo c) k || hoK a m wo c k) = _
      unfold hoK
      rw [decide_eq_true hp, Bool.true_and]
    unfold stH updO
    rw [e]
    by_cases z : c = cnt a (150 + 3 * k)
    · subst z; simp
    · have : ¬ cnt a (150 + 3 * k) = c := fun q => z q.symm
      simp [z, this]
  · intro hp
    funext c
    have e : anyB (hoK a m wo c) (k + 1) = anyB (hoK a m wo c) k := by
      show (anyB (hoK a m wo c) k || hoK a m wo c k) = _
      unfold hoK
      rw [decide_eq_false hp, Bool.false_and, Bool.or_false]
    unfold stH
    rw [e]
theorem hlI_push {n : Nat} {st : Nat → Option Nat} {rw' : Nat → Nat} {mn c : Nat} (h : hlI n st rw' mn) (hc : st c = none) (hcn : c < n) : hlI n (updO st c 0) (updN rw' mn c) (mn + 1) := by
  obtain ⟨h1, h2, h3⟩ := h
  have old : ∀ p, p < mn → updN rw' mn c p = rw' p := fun p hp => by simp [updN, Nat.ne_of_lt hp]
  have new : updN rw' mn c mn = c := by simp [updN]
  have ne : ∀ p, p < mn → rw' p ≠ c := fun p hp e => (h1 p hp).2 (by rw [e]; exact hc)
  refine ⟨fun p hp => ?_, fun x hx => ?_, fun p q hpq hq => ?_⟩
  · by_cases e : p = mn
    · subst e; rw [new, updO_s]; exact ⟨hcn, by simp⟩
    · rw [old p (by omega), updO_n (ne p (by omega))]; exact h1 p (by omega)
  · by_cases e : x = c
    · exact ⟨mn, by omega, by rw [new, e]⟩
    · rw [updO_n e] at hx
      obtain ⟨p, hp, hpx⟩ := h2 x hx
      exact ⟨p, by omega, by rw [old p hp]; exact hpx⟩
  · by_cases e : q = mn
    · subst e; rw [new, old p hpq]; exact ne p hpq
    · rw [old q (by omega), old p (by omega)]; exact h3 p q hpq (by omega)
theorem hlI_mn {n : Nat} {st : Nat → Option Nat} {rw' : Nat → Nat} {mn : Nat} (h : hlI n st rw' mn) : mn ≤ n := fb_holes n mn rw' (fun p hp => (h.1 p hp).1) h.2.2
theorem updO_id {st : Nat → Option Nat} {c v : Nat} (h : st c = some v) : updO st c v = st := by
  funext x
  by_cases e : x = c
  · subst e; rw [updO_s, h]
  · rw [updO_n e]
theorem hlI_bfI {n dr : Nat} {op : Nat → Bool} {adj : Nat → Nat → Bool} {a : Nat → Int32} {m : Nat} {wo : Option Nat} {rw' : Nat → Nat} {mn : Nat} (h : hlI n (stH a m wo (cnt a 1)) rw' mn) : bfI n dr (hoB a m wo) op adj (stH a m wo (cnt a 1)) rw' mn 0 := by
  have z : ∀ c k, stH a m wo (cnt a 1) c = some k → k = 0 ∧ hoB a m wo c = true := by
    intro c k hk
    unfold stH at hk
    by_cases e : anyB (hoK a m wo c) (cnt a 1) = true
    · rw [if_pos e] at hk; cases hk; exact ⟨rfl, e⟩
    · rw [if_neg e] at hk; cases hk
  refine ⟨Nat.zero_le _, h.1, h.2.1, h.2.2, ?_, ?_, ?_, ?_, ?_⟩
  · intro p q kp kq _ _ h1 h2
    rw [(z _ _ h1).1]; exact Nat.zero_le _
  · intro q kq ki _ _ h1 _
    rw [(z _ _ h1).1]; exact Nat.zero_le _
  · intro c k hk
    obtain ⟨rfl, h2⟩ := z c k hk
    exact ⟨h2, Nat.zero_le _⟩
  · intro p k c hp
    exact absurd hp (Nat.not_lt_zero p)
  · intro c hc
    unfold stH
    exact if_pos hc
