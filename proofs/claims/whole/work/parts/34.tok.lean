/-! tokens of a text -/
def isBl (c : Nat) : Bool := decide (c = 32 ∨ c = 10)
def isLt (c : Nat) : Bool := decide ((97 ≤ c ∧ c ≤ 122) ∨ (65 ≤ c ∧ c ≤ 90))
def isDg (c : Nat) : Bool := decide (48 ≤ c ∧ c ≤ 57)
def isSg (c : Nat) : Bool := decide (c = 60 ∨ c = 62 ∨ c = 61 ∨ c = 35 ∨ c = 43 ∨ c = 45 ∨ c = 42 ∨ c = 47 ∨ c = 40 ∨ c = 41 ∨ c = 59)
def rnE (q : Nat → Bool) (tx : Nat → Nat) (n : Nat) : Nat → Nat → Nat
  | 0, p => p
  | f + 1, p => if q (tx p) = true then rnE q tx n f (p + 1) else p
/-- behind the bytes of a sort that stand at p -/
def rn (q : Nat → Bool) (tx : Nat → Nat) (n p : Nat) : Nat := rnE q tx n (n - p) p
theorem rn_end {q : Nat → Bool} {tx : Nat → Nat} {n p : Nat} (h : ¬ p < n) : rn q tx n p = p := by
  unfold rn; rw [show n - p = 0 by omega]; rfl
theorem rn_yes {q : Nat → Bool} {tx : Nat → Nat} {n p : Nat} (h : p < n) (hq : q (tx p) = true) : rn q tx n p = rn q tx n (p + 1) := by
  unfold rn
  rw [show n - p = (n - (p + 1)) + 1 by omega]
  show (if q (tx p) = true then _ else _) = _
  rw [if_pos hq]
theorem rn_no {q : Nat → Bool} {tx : Nat → Nat} {n p : Nat} (hq : ¬ q (tx p) = true) : rn q tx n p = p := by
  by_cases h : p < n
  · unfold rn
    rw [show n - p = (n - (p + 1)) + 1 by omega]
    show (if q (tx p) = true then _ else _) = _
    rw [if_neg hq]
  · exact rn_end h
theorem rn_ge {q : Nat → Bool} {tx : Nat → Nat} {n : Nat} : ∀ d p, p + d = n → p ≤ rn q tx n p ∧ rn q tx n p ≤ n ∧ (rn q tx n p < n → ¬ q (tx (rn q tx n p)) = true) ∧ ∀ j, p ≤ j → j < rn q tx n p → q (tx j) = true
  | 0, p, h => by
    rw [rn_end (by omega)]
    exact ⟨Nat.le_refl _, by omega, fun h => by omega, fun j _ _ => by omega⟩
  | d + 1, p, h => by
    by_cases hq : q (tx p) = true
    · obtain ⟨h1, h2, h3, h4⟩ := rn_ge (q := q) (tx := tx) (n := n) d (p + 1) (by omega)
      rw [rn_yes (by omega) hq]
      refine ⟨by omega, h2, h3, fun j h5 h6 => ?_⟩
      by_cases e : j = p
      · subst e; exact hq
      · exact h4 j (by omega) h6
    · rw [rn_no hq]
      exact ⟨Nat.le_refl _, by omega, fun _ => hq, fun j _ _ => by omega⟩
theorem rn_b {q : Nat → Bool} {tx : Nat → Nat} {n p : Nat} (h : p ≤ n) : p ≤ rn q tx n p ∧ rn q tx n p ≤ n ∧ (rn q tx n p < n → ¬ q (tx (rn q tx n p)) = true) ∧ ∀ j, p ≤ j → j < rn q tx n p → q (tx j) = true := rn_ge (n - p) p (by omega)
/-- the words -/
def wdL : List (List Nat) := [[115, 104, 117, 116], [119, 111, 114, 116, 104], [119, 104, 111, 115, 101], [121, 101, 115], [111, 114], [97, 110, 100], [110, 111, 116], [103, 97, 115], [99, 114, 97, 99, 107, 115], [115, 105, 122, 101], [119, 101, 101, 107], [112, 101, 111, 112, 108, 101], [104, 101, 97, 114, 100], [97, 115, 107], [107, 105, 110]]
def wdO (i : Nat) : List Nat := wdL.getD i []
def pwd (f : Nat → Nat) : Nat → Nat
  | 0 => 0
  | j + 1 => pwd f j * 256 + f j
def isWd (tx : Nat → Nat) (p len i : Nat) : Bool := decide (len = (wdO i).length) && decide (∀ j, j < (wdO i).length → tx (p + j) = (wdO i).getD j 0)
def wdF (tx : Nat → Nat) (p len : Nat) : Nat → Nat
  | 0 => 1
  | i + 1 => if isWd tx p len i = true then 200 + i else wdF tx p len i
/-- the token that a word is -/
def wdT (tx : Nat → Nat) (p len : Nat) : Nat := wdF tx p len 15
def nuC (tx : Nat → Nat) (p : Nat) : Nat → Nat
  | 0 => 0
  | j + 1 => min 10000 (nuC tx p j * 10 + (tx (p + j) - 48))
def nuM (tx : Nat → Nat) (p : Nat) : Nat → Nat
  | 0 => 0
  | j + 1 => if nuM tx p j < 100000 then 10 * nuM tx p j + (tx (p + j) - 48) else nuM tx p j
theorem nu_eq {tx : Nat → Nat} {p : Nat} : ∀ j, (∀ i, i < j → tx (p + i) ≤ 57) → nuC tx p j = min 10000 (nuM tx p j) ∧ nuM tx p j ≤ 1000009
  | 0, _ => ⟨rfl, Nat.zero_le _⟩
  | j + 1, h => by
    obtain ⟨h1, h2⟩ := nu_eq j (fun i hi => h i (by omega))
    have h3 := h j (by omega)
    have e1 : nuC tx p (j + 1) = min 10000 (nuC tx p j * 10 + (tx (p + j) - 48)) := rfl
    have e2 : nuM tx p (j + 1) = if nuM tx p j < 100000 then 10 * nuM tx p j + (tx (p + j) - 48) else nuM tx p j := rfl
    rw [e1, e2]
    split <;> omega
/-- where the token at p ends, and what it is (at p no blank stands) -/
def tkE (tx : Nat → Nat) (n p : Nat) : Nat := if n ≤ p then p else if isDg (tx p) = true then rn isDg tx n p else if isLt (tx p) = true then rn isLt tx n p else if (tx p = 60 ∨ tx p = 62) ∧ p + 1 < n ∧ tx (p + 1) = 61 then p + 2 else p + 1
def tkT (tx : Nat → Nat) (n p : Nat) : Nat := if n ≤ p then 0 else if isDg (tx p) = true then 1000 + nuC tx p (rn isDg tx n p - p) else if isLt (tx p) = true then wdT tx p (rn isLt tx n p - p) else if (tx p = 60 ∨ tx p = 62) ∧ p + 1 < n ∧ tx (p + 1) = 61 then (if tx p = 60 then 2 else 3) else if isSg (tx p) = true then tx p else 1
/-- places of the tokens -/
def tkP (tx : Nat → Nat) (n : Nat) : Nat → Nat
  | 0 => rn isBl tx n 0
  | k + 1 => rn isBl tx n (tkE tx n (tkP tx n k))
def tkK (tx : Nat → Nat) (n k : Nat) : Nat := tkT tx n (tkP tx n k)
theorem tkE_b {tx : Nat → Nat} {n p : Nat} (h : p ≤ n) : p ≤ tkE tx n p ∧ tkE tx n p ≤ n ∧ (p < n → p < tkE tx n p) := by
  have h1 := rn_b (q := isDg) (tx := tx) h
  have h2 := rn_b (q := isLt) (tx := tx) h
  unfold tkE
  split
  · omega
  · split
    · rename_i hd
      have := rn_yes (q := isDg) (tx := tx) (n := n) (p := p) (by omega) hd
      have := rn_b (q := isDg) (tx := tx) (n := n) (p := p + 1) (by omega)
      omega
    · split
      · rename_i hd
        have := rn_yes (q := isLt) (tx := tx) (n := n) (p := p) (by omega) hd
        have := rn_b (q := isLt) (tx := tx) (n := n) (p := p + 1) (by omega)
        omega
      · split <;> omega
theorem tkP_b {tx : Nat → Nat} {n : Nat} : ∀ k, tkP tx n k ≤ n
  | 0 => (rn_b (Nat.zero_le n)).2.1
  | k + 1 => (rn_b (tkE_b (tkP_b k)).2.1).2.1
theorem wdF_lt {tx : Nat → Nat} {p len : Nat} : ∀ i, wdF tx p len i = 1 ∨ ∃ j, j < i ∧ wdF tx p len i = 200 + j ∧ isWd tx p len j = true
  | 0 => Or.inl rfl
  | i + 1 => by
    have e : wdF tx p len (i + 1) = if isWd tx p len i = true then 200 + i else wdF tx p len i := rfl
    rw [e]
    split
    · rename_i h; exact Or.inr ⟨i, by omega, rfl, h⟩
    · rcases wdF_lt (tx := tx) (p := p) (len := len) i with h | ⟨j, h1, h2⟩
      · exact Or.inl h
      · exact Or.inr ⟨j, by omega, h2⟩
theorem wdF_none {tx : Nat → Nat} {p len : Nat} : ∀ i, wdF tx p len i = 1 → ∀ j, j < i → ¬ isWd tx p len j = true
  | 0, _, j, hj => absurd hj (Nat.not_lt_zero j)
  | i + 1, h, j, hj => by
    have e : wdF tx p len (i + 1) = if isWd tx p len i = true then 200 + i else wdF tx p len i := rfl
    rw [e] at h
    split at h
    · omega
    · rename_i hn
      by_cases z : j = i
      · subst z; exact hn
      · exact wdF_none i h j (by omega)
theorem pwd_lt {f : Nat → Nat} : ∀ j, (∀ i, i < j → f i < 256) → pwd f j < 256 ^ j
  | 0, _ => Nat.lt_succ_self 0
  | j + 1, h => by
    have h1 := pwd_lt j (fun i hi => h i (by omega))
    have h2 := h j (by omega)
    show pwd f j * 256 + f j < 256 ^ j * 256
    omega
theorem pwd_inj {f g : Nat → Nat} : ∀ m m', (∀ i, i < m → 0 < f i ∧ f i < 256) → (∀ i, i < m' → 0 < g i ∧ g i < 256) → pwd f m = pwd g m' → m = m' ∧ ∀ i, i < m → f i = g i
  | 0, 0, _, _, _ => ⟨rfl, fun i hi => absurd hi (Nat.not_lt_zero i)⟩
  | 0, m' + 1, _, hg, h => by
    have := (hg m' (by omega)).1
    have e : pwd g (m' + 1) = pwd g m' * 256 + g m' := rfl
    rw [e] at h
    have e2 : pwd f 0 = 0 := rfl
    omega
  | m + 1, 0, hf, _, h => by
    have := (hf m (by omega)).1
    have e : pwd f (m + 1) = pwd f m * 256 + f m := rfl
    rw [e] at h
    have e2 : pwd g 0 = 0 := rfl
    omega
  | m + 1, m' + 1, hf, hg, h => by
    have e1 : pwd f (m + 1) = pwd f m * 256 + f m := rfl
    have e2 : pwd g (m' + 1) = pwd g m' * 256 + g m' := rfl
    rw [e1, e2] at h
    have h1 := hf m (by omega)
    have h2 := hg m' (by omega)
    obtain ⟨h3, h4⟩ := pwd_inj m m' (fun i hi => hf i (by omega)) (fun i hi => hg i (by omega)) (by omega)
    subst h3
    refine ⟨rfl, fun i hi => ?_⟩
    by_cases e : i = m
    · subst e; omega
    · exact h4 i (by omega)
def wdN (i : Nat) : Nat := pwd (fun j => (wdO i).getD j 0) (wdO i).length
theorem wdO_ok : ∀ i, i < 15 → (wdO i).length ≤ 6 ∧ 2 ≤ (wdO i).length ∧ ∀ j, j < (wdO i).length → 97 ≤ (wdO i).getD j 0 ∧ (wdO i).getD j 0 < 128 := by decide
theorem wdN_lt : ∀ i, i < 15 → wdN i < 2 ^ 48 ∧ 0 < wdN i := by decide
theorem wdN_inj : ∀ i, i < 15 → ∀ j, j < 15 → wdN i = wdN j → i = j := by decide
theorem wd_eq {tx : Nat → Nat} {p len i : Nat} (hi : i < 15) (ht : ∀ j, j < len → 0 < tx (p + j) ∧ tx (p + j) < 256) : pwd (fun j => tx (p + j)) len = wdN i ↔ isWd tx p len i = true := by
  have ho := wdO_ok i hi
  unfold isWd wdN
  rw [Bool.and_eq_true, decide_eq_true_iff, decide_eq_true_iff]
  constructor
  · intro h
    obtain ⟨h1, h2⟩ := pwd_inj len _ ht (fun j hj => by have := ho.2.2 j hj; omega) h
    exact ⟨h1, fun j hj => h2 j (by omega)⟩
  · rintro ⟨h1, h2⟩
    subst h1
    have : ∀ m, m ≤ (wdO i).length → pwd (fun j => tx (p + j)) m = pwd (fun j => (wdO i).getD j 0) m := by
      intro m
      induction m with
      | zero => intro _; rfl
      | succ m ih =>
        intro hm
        show pwd _ m * 256 + tx (p + m) = pwd _ m * 256 + (wdO i).getD m 0
        rw [ih (by omega), h2 m (by omega)]
    exact this _ (Nat.le_refl _)
/-- the model's token for a token -/
def tokR (t nu : Int32) (wd : Int64) (T : Nat) : Prop :=
  (T = 0 ∧ t = nI 0) ∨ (T = 1 ∧ t = nI 3) ∨ (T = 1 ∧ t = nI 2 ∧ ∀ i, i < 15 → wd ≠ lN (wdN i)) ∨ (T = 2 ∧ t = nI 4) ∨ (T = 3 ∧ t = nI 5) ∨ (isSg T = true ∧ t = nI T) ∨ (∃ i, i < 15 ∧ T = 200 + i ∧ t = nI 2 ∧ wd = lN (wdN i)) ∨ (∃ v, v ≤ 1000009 ∧ t = nI 1 ∧ nu = nI v ∧ T = 1000 + min 10000 v)
theorem lg_eq {x y : Int64} : lg_cmp x y = 0 ↔ x = y := by
  unfold lg_cmp
  by_cases h : x > y
  · rw [if_pos h]
    constructor
    · intro z; exact absurd z (by decide)
    · intro z; subst z; exact absurd h (fun q => by have := Int64.lt_iff_toInt_lt.mp q; omega)
  · rw [if_neg h]
    by_cases e : x = y
    · rw [if_pos e]; exact ⟨fun _ => e, fun _ => rfl⟩
    · rw [if_neg e]
      exact ⟨fun z => absurd z (by decide), fun z => absurd z e⟩
theorem lN_eq64 {a b : Nat} (ha : a < 2 ^ 63) (hb : b < 2 ^ 63) : lN a = lN b ↔ a = b := by
  constructor
  · intro h
    have h2 : (lN a).toBitVec.toNat = (lN b).toBitVec.toNat := by rw [h]
    rw [show (lN a).toBitVec = BitVec.ofNat 64 a from rfl, show (lN b).toBitVec = BitVec.ofNat 64 b from rfl, BitVec.toNat_ofNat, BitVec.toNat_ofNat] at h2
    omega
  · intro h; rw [h]
