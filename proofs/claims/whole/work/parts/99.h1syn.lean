/-! class: the reader: states of a reading, as the class goes through them -/
theorem gdL {α : Type} {l1 l2 : List α} {i : Nat} {d : α} (h : i < l1.length) : (l1 ++ l2).getD i d = l1.getD i d := by rw [List.getD_eq_getElem?_getD, List.getElem?_append_left h, ← List.getD_eq_getElem?_getD]
theorem gdR {α : Type} {l1 l2 : List α} {i : Nat} {d : α} (h : l1.length ≤ i) : (l1 ++ l2).getD i d = l2.getD (i - l1.length) d := by rw [List.getD_eq_getElem?_getD, List.getElem?_append_right h, ← List.getD_eq_getElem?_getD]
def refR (f : Nat) (r : pR) : pR := match r with
  | .ok (_, k) => .error (f, k)
  | .error x => .error x
def advR (r : pR) : pR := match r with
  | .ok (cd, k) => .ok (cd, k + 1)
  | .error x => .error x
def addR (x : Nat) (r : pR) : pR := match r with
  | .ok (cd, k) => .ok (cd ++ [x], k)
  | .error x => .error x
def bindR (f : Nat → pR) (r : pR) : pR := match r with
  | .ok (cd, k) => (match f k with
    | .ok (e, k2) => .ok (cd ++ e, k2)
    | .error x => .error x)
  | .error x => .error x
/-- the token that the class sees -/
def tkS (T : Nat → Nat) (r : pR) : Nat := match r with
  | .ok (_, k) => T k
  | .error _ => 0
def lpR (T : Nat → Nat) (st : Nat → pR) (sg : Nat → Bool) : Nat → List Nat → Nat → pR
  | 0, e, k => .ok (e, k)
  | f + 1, e, k => if sg (T k) = true then (match st (k + 1) with
    | .ok (e2, k2) => lpR T st sg f (e ++ e2 ++ [20000 + T k]) k2
    | .error x => .error x) else .ok (e, k)
def Zr (T : Nat → Nat) (n : Nat) (st : Nat → pR) (sg : Nat → Bool) (r : pR) : pR := match r with
  | .ok (cd, k) => lpR T st sg (n - k) cd k
  | .error x => .error x
def sgP (t : Nat) : Bool := decide (t = 42 ∨ t = 47)
def sgL (t : Nat) : Bool := decide (t = 43 ∨ t = 45)
def sgA (t : Nat) : Bool := decide (t = 205)
def sgO (t : Nat) : Bool := decide (t = 204)
section LPR
variable {T : Nat → Nat} {n srt : Nat} {st one : Nat → pR} {sg : Nat → Bool}
theorem rdP_lp : ∀ f e k, rdP T one f e k = lpR T one sgP f e k
  | 0, _, _ => rfl
  | f + 1, e, k => by
    have ih := rdP_lp f
    simp only [rdP, lpR, ih, sgP, decide_eq_true_eq]
    try rfl
theorem rdL_lp : ∀ f e k, rdL T n one f e k = lpR T (rdT T n one) sgL f e k
  | 0, _, _ => rfl
  | f + 1, e, k => by
    have ih := rdL_lp f
    simp only [rdL, lpR, ih, sgL, decide_eq_true_eq]
    try rfl
theorem rdAn_lp : ∀ f e k, rdAn T srt n f e k = lpR T (rdA T srt n 8) sgA f e k
  | 0, _, _ => rfl
  | f + 1, e, k => by
    have ih := rdAn_lp f
    simp only [rdAn, lpR, ih, sgA, decide_eq_true_eq]
    by_cases c : T k = 205
    · rw [if_pos c, if_pos c, c]
      try rfl
    · rw [if_neg c, if_neg c]
theorem rdOr_lp : ∀ f e k, rdOr T srt n f e k = lpR T (rdCj T srt n) sgO f e k
  | 0, _, _ => rfl
  | f + 1, e, k => by
    have ih := rdOr_lp f
    simp only [rdOr, lpR, ih, sgO, decide_eq_true_eq]
    by_cases c : T k = 204
    · rw [if_pos c, if_pos c, c]
      try rfl
    · rw [if_neg c, if_neg c]
theorem lpR_acc {c : List Nat} : ∀ f e k, lpR T st sg f (c ++ e) k = match lpR T st sg f e k with
    | .ok (e2, k2) => .ok (c ++ e2, k2)
    | .error x => .error x
  | 0, _, _ => rfl
  | f + 1, e, k => by
    have ih := lpR_acc (c := c) f
    simp only [lpR]
    by_cases h : sg (T k) = true
    · rw [if_pos h, if_pos h]
      cases st (k + 1) with
      | error x => rfl
      | ok v =>
        obtain ⟨e2, k2⟩ := v
        simp only
        rw [← ih, List.append_assoc, List.append_assoc, List.append_assoc]
    · rw [if_neg h, if_neg h]
theorem lpR_fuel (hT : ∀ j, T j ≠ 0 → j < n) (h0 : sg 0 = false) (h1 : ∀ k e k2, st k = .ok (e, k2) → k < k2) : ∀ f f' e k, n ≤ k + f → n ≤ k + f' → lpR T st sg f e k = lpR T st sg f' e k := by
  have stop : ∀ f e k, n ≤ k → lpR T st sg f e k = .ok (e, k) := by
    intro f e k hk
    cases f with
    | zero => rfl
    | succ f =>
      have : T k = 0 := Classical.byContradiction (fun z => by have := hT k z; omega)
      simp only [lpR, this, h0]
      rfl
  intro f
  induction f with
  | zero =>
    intro f' e k h2 h3
    rw [stop f' e k (by omega)]; rfl
  | succ f ih =>
    intro f' e k h2 h3
    cases f' with
    | zero => rw [stop (f + 1) e k (by omega)]; rfl
    | succ f' =>
      simp only [lpR]
      by_cases h : sg (T k) = true
      · rw [if_pos h, if_pos h]
        cases hs : st (k + 1) with
        | error x => rfl
        | ok v =>
          obtain ⟨e2, k2⟩ := v
          simp only
          have := h1 _ _ _ hs
          exact ih f' _ k2 (by omega) (by omega)
      · rw [if_neg h, if_neg h]
/-- one, and on as long as its sign stands -/
theorem bind_lp {r : pR} {full : Nat → pR} (hf : ∀ k, full k = match st k with
    | .ok (e, k2) => lpR T st sg (n - k2) e k2
    | .error x => .error x) : bindR full r = Zr T n st sg (bindR st r) := by
  cases r with
  | error x => rfl
  | ok v =>
    obtain ⟨cd, k⟩ := v
    simp only [bindR, hf]
    cases st k with
    | error x => rfl
    | ok v =>
      obtain ⟨e, k2⟩ := v
      simp only [Zr]
      rw [lpR_acc]
theorem Zr_step (hT : ∀ j, T j ≠ 0 → j < n) (h0 : sg 0 = false) (h1 : ∀ k e k2, st k = .ok (e, k2) → k < k2) {r : pR} (hs : sg (tkS T r) = true) : Zr T n st sg r = Zr T n st sg (addR (20000 + tkS T r) (bindR st (advR r))) := by
  cases r with
  | error x => rw [show tkS T (Except.error x) = 0 from rfl, h0] at hs; cases hs
  | ok v =>
    obtain ⟨cd, k⟩ := v
    replace hs : sg (T k) = true := hs
    have hk : k < n := hT k (fun z => by rw [z, h0] at hs; cases hs)
    show lpR T st sg (n - k) cd k = Zr T n st sg (addR (20000 + T k) (bindR st (.ok (cd, k + 1))))
    rw [show n - k = (n - k - 1) + 1 by omega]
    simp only [lpR, bindR]
    rw [if_pos hs]
    cases he : st (k + 1) with
    | error x => rfl
    | ok v =>
      obtain ⟨e2, k2⟩ := v
      have := h1 _ _ _ he
      simp only [addR, Zr]
      exact lpR_fuel hT h0 h1 _ _ _ _ (by omega) (by omega)
theorem Zr_stop {r : pR} (hs : ¬ sg (tkS T r) = true) : Zr T n st sg r = r := by
  cases r with
  | error x => rfl
  | ok v =>
    obtain ⟨cd, k⟩ := v
    replace hs : ¬ sg (T k) = true := hs
    show lpR T st sg (n - k) cd k = _
    cases n - k with
    | zero => rfl
    | succ f => simp only [lpR]; rw [if_neg hs]
theorem bind_T {r : pR} : bindR (rdT T n one) r = Zr T n one sgP (bindR one r) := bind_lp (fun k => by
  unfold rdT
  cases one k with
  | error x => rfl
  | ok v => exact rdP_lp _ _ _)
theorem bind_S {r : pR} : bindR (rdS T n one) r = Zr T n (rdT T n one) sgL (bindR (rdT T n one) r) := bind_lp (fun k => by
  unfold rdS
  cases rdT T n one k with
  | error x => rfl
  | ok v => exact rdL_lp _ _ _)
theorem bind_Cj {r : pR} : bindR (rdCj T srt n) r = Zr T n (rdA T srt n 8) sgA (bindR (rdA T srt n 8) r) := bind_lp (fun k => by
  unfold rdCj
  cases rdA T srt n 8 k with
  | error x => rfl
  | ok v => exact rdAn_lp _ _ _)
theorem bind_E {r : pR} : bindR (rdE T srt n) r = Zr T n (rdCj T srt n) sgO (bindR (rdCj T srt n) r) := bind_lp (fun k => by
  unfold rdE
  cases rdCj T srt n k with
  | error x => rfl
  | ok v => exact rdOr_lp _ _ _)
/-- a sum, or a name or number, in the class's steps -/
theorem bind_O_open {r : pR} {D k : Nat} {cd : List Nat} (hr : r = .ok (cd, k)) (ht : T k = 40) {r2 : pR} (h2 : r2 = bindR (rdS T n (rdO T srt n D)) (advR r)) : bindR (rdO T srt n (D + 1)) r = if tkS T r2 = 41 then advR r2 else refR 1 r2 := by
  subst hr
  subst h2
  cases hx : rdS T n (rdO T srt n D) (k + 1) with
  | error x =>
    have e1 : rdO T srt n (D + 1) k = .error x := by simp only [rdO]; rw [if_pos ht, hx]
    have e2 : bindR (rdS T n (rdO T srt n D)) (advR (.ok (cd, k))) = .error x := by simp only [bindR, advR, hx]
    rw [e2]
    simp only [bindR, e1]
    rfl
  | ok v =>
    obtain ⟨e, k2⟩ := v
    have e1 : rdO T srt n (D + 1) k = if T k2 = 41 then .ok (e, k2 + 1) else .error (1, k2) := by simp only [rdO]; rw [if_pos ht, hx]
    have e2 : bindR (rdS T n (rdO T srt n D)) (advR (.ok (cd, k))) = .ok (cd ++ e, k2) := by simp only [bindR, advR, hx]
    rw [e2]
    by_cases c : T k2 = 41
    · rw [if_pos c] at e1
      rw [if_pos (show tkS T (.ok (cd ++ e, k2)) = 41 from c)]
      simp only [bindR, e1, advR]
    · rw [if_neg c] at e1
      rw [if_neg (show ¬ tkS T (.ok (cd ++ e, k2)) = 41 from c)]
      simp only [bindR, e1, refR]
theorem bind_O_neg {r : pR} {D k : Nat} {cd : List Nat} (hr : r = .ok (cd, k)) (ht : T k = 45) : bindR (rdO T srt n (D + 1)) r = addR 40000 (bindR (rdO T srt n D) (advR r)) := by
  subst hr
  simp only [bindR, advR, rdO]
  rw [if_neg (by omega), if_pos ht]
  cases rdO T srt n D (k + 1) with
  | error x => rfl
  | ok v =>
    obtain ⟨e, k2⟩ := v
    simp only [addR, List.append_assoc]
theorem bind_O_atom {r : pR} {D k x : Nat} {cd : List Nat} (hr : r = .ok (cd, k)) (h1 : T k ≠ 40) (h2 : T k ≠ 45) (ha : atomT T srt k = .ok ([x], k + 1)) : bindR (rdO T srt n D) r = addR x (advR r) := by
  subst hr
  have : rdO T srt n D k = atomT T srt k := by
    cases D with
    | zero => simp only [rdO]; rw [if_neg (by omega)]
    | succ D => simp only [rdO]; rw [if_neg h1, if_neg h2]
  simp only [bindR, this, ha, advR, addR]
theorem bind_err {f : Nat → pR} {r : pR} {k e : Nat} {cd : List Nat} (hr : r = .ok (cd, k)) (h : f k = .error (e, k)) : bindR f r = refR e r := by
  subst hr
  simp only [bindR, h, refR]
end LPR
