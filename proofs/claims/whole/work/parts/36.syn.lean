/-! how tokens stand behind one another -/
abbrev pR : Type := Except (Nat × Nat) (List Nat × Nat)
abbrev pC : Type := Nat × Nat × List Nat
def barB (srt i : Nat) : Bool := decide ((5 ≤ i ∧ srt ≠ 3) ∨ (i ≤ 2 ∧ srt = 2))
section SYN
variable (T : Nat → Nat) (srt n : Nat)
def atomT (k : Nat) : pR := if 1000 ≤ T k then (if 10999 < T k then .error (2, k) else .ok ([T k - 1000], k + 1)) else if 207 ≤ T k then (if barB srt (T k - 207) = true then .error (5, k) else .ok ([10000 + (T k - 207)], k + 1)) else .error (1, k)
def rdP (one : Nat → pR) : Nat → List Nat → Nat → pR
  | 0, e, k => .ok (e, k)
  | f + 1, e, k => if T k = 42 ∨ T k = 47 then (match one (k + 1) with
    | .ok (e2, k2) => rdP one f (e ++ e2 ++ [20000 + T k]) k2
    | .error x => .error x) else .ok (e, k)
def rdT (one : Nat → pR) (k : Nat) : pR := match one k with
  | .ok (e, k2) => rdP T one (n - k2) e k2
  | .error x => .error x
def rdL (one : Nat → pR) : Nat → List Nat → Nat → pR
  | 0, e, k => .ok (e, k)
  | f + 1, e, k => if T k = 43 ∨ T k = 45 then (match rdT T n one (k + 1) with
    | .ok (e2, k2) => rdL one f (e ++ e2 ++ [20000 + T k]) k2
    | .error x => .error x) else .ok (e, k)
def rdS (one : Nat → pR) (k : Nat) : pR := match rdT T n one k with
  | .ok (e, k2) => rdL T n one (n - k2) e k2
  | .error x => .error x
def rdO : Nat → Nat → pR
  | 0, k => if T k = 40 ∨ T k = 45 then .error (3, k) else atomT T srt k
  | D + 1, k => if T k = 40 then (match rdS T n (rdO D) (k + 1) with
    | .ok (e, k2) => if T k2 = 41 then .ok (e, k2 + 1) else .error (1, k2)
    | .error x => .error x) else if T k = 45 then (match rdO D (k + 1) with
    | .ok (e, k2) => .ok (e ++ [40000], k2)
    | .error x => .error x) else atomT T srt k
def isCmp (t : Nat) : Bool := decide (t = 60 ∨ t = 62 ∨ t = 61 ∨ t = 35 ∨ t = 2 ∨ t = 3)
def rdC1 (D k : Nat) : pR := match rdS T n (rdO T srt n D) k with
  | .ok (e, k1) => if isCmp (T k1) = true then (match rdS T n (rdO T srt n D) (k1 + 1) with
    | .ok (e2, k2) => .ok (e ++ e2 ++ [20000 + T k1], k2)
    | .error x => .error x) else .error (1, k1)
  | .error x => .error x
def rdA : Nat → Nat → pR
  | 0, k => if T k = 206 then .error (3, k) else rdC1 T srt n 0 k
  | D + 1, k => if T k = 206 then (match rdA D (k + 1) with
    | .ok (q, k2) => .ok (q ++ [20206], k2)
    | .error x => .error x) else rdC1 T srt n (D + 1) k
def rdAn : Nat → List Nat → Nat → pR
  | 0, q, k => .ok (q, k)
  | f + 1, q, k => if T k = 205 then (match rdA T srt n 8 (k + 1) with
    | .ok (q2, k2) => rdAn f (q ++ q2 ++ [20205]) k2
    | .error x => .error x) else .ok (q, k)
def rdCj (k : Nat) : pR := match rdA T srt n 8 k with
  | .ok (q, k2) => rdAn T srt n (n - k2) q k2
  | .error x => .error x
def rdOr : Nat → List Nat → Nat → pR
  | 0, q, k => .ok (q, k)
  | f + 1, q, k => if T k = 204 then (match rdCj T srt n (k + 1) with
    | .ok (q2, k2) => rdOr f (q ++ q2 ++ [20204]) k2
    | .error x => .error x) else .ok (q, k)
def rdE (k : Nat) : pR := match rdCj T srt n k with
  | .ok (q, k2) => rdOr T srt n (n - k2) q k2
  | .error x => .error x
end SYN
section SYN2
variable (T : Nat → Nat) (n : Nat)
/-- what stands in a clause of a sort -/
def rdY (s k : Nat) : pR := if s = 1 then rdS T n (rdO T s n 8) k else rdE T s n k
def rdB (s o k : Nat) : Except (Nat × Nat) (pC × Nat) := match rdY T n s k with
  | .ok (e, k2) => if T k2 = 59 then .ok ((s, o, e), k2 + 1) else .error (1, k2)
  | .error x => .error x
def seenB (cs : List pC) (s : Nat) : Bool := cs.any (fun c => decide (c.1 = s))
def rdC (cs : List pC) (k : Nat) : Except (Nat × Nat) (pC × Nat) := if ¬ (200 ≤ T k ∧ T k ≤ 203) then .error (1, k) else if T k ≠ 202 ∧ seenB cs (T k - 200) = true then .error (4, k) else if cs.length = 20 then .error (6, k) else if T k = 202 then (if T (k + 1) < 1000 then .error (1, k + 1) else if 1009 < T (k + 1) then .error (2, k + 1) else rdB T n 2 (T (k + 1) - 1000) (k + 2)) else rdB T n (T k - 200) 0 (k + 1)
def rdX : Nat → List pC → Nat → Except (Nat × Nat) (List pC × Nat)
  | 0, cs, k => .ok (cs, k)
  | f + 1, cs, k => if T k = 0 then .ok (cs, k) else (match rdC T n cs k with
    | .ok (c, k2) => rdX f (cs ++ [c]) k2
    | .error x => .error x)
/-- the whole text -/
def rdAll : Except (Nat × Nat) (List pC × Nat) := rdX T n (n + 1) [] 0
end SYN2
/-- the model's code -/
def mN (i : Nat) : Nat := [0, 1, 2, 7, 3, 4, 5, 6].getD i 0
def itM (x : Nat) : Nat × Nat := if x < 10000 then (0, x) else if x < 20000 then (1, mN (x - 10000)) else if x = 40000 then (2, 0) else if x = 20043 then (3, 0) else if x = 20045 then (4, 0) else if x = 20042 then (5, 0) else if x = 20047 then (6, 0) else if x = 20060 then (10, 0) else if x = 20002 then (11, 0) else if x = 20062 then (12, 0) else if x = 20003 then (13, 0) else if x = 20061 then (14, 0) else if x = 20035 then (15, 0) else if x = 20206 then (20, 0) else if x = 20205 then (21, 0) else (22, 0)
theorem tkP_ge {tx : Nat → Nat} {n : Nat} : ∀ k, k ≤ tkP tx n k ∨ tkP tx n k = n
  | 0 => Or.inl (Nat.zero_le _)
  | k + 1 => by
    have h0 := tkP_b (tx := tx) (n := n) k
    have h1 := tkE_b (tx := tx) h0
    have h2 := rn_b (q := isBl) (tx := tx) h1.2.1
    have e : tkP tx n (k + 1) = rn isBl tx n (tkE tx n (tkP tx n k)) := rfl
    rw [e]
    rcases tkP_ge (tx := tx) (n := n) k with h | h <;> omega
theorem tkK_end {tx : Nat → Nat} {n k : Nat} (h : n ≤ k) : tkK tx n k = 0 := by
  have h0 := tkP_b (tx := tx) (n := n) k
  have : tkP tx n k = n := by rcases tkP_ge (tx := tx) (n := n) k with h1 | h1 <;> omega
  unfold tkK tkT
  rw [this, if_pos (Nat.le_refl n)]
theorem tkK_lt {tx : Nat → Nat} {n k : Nat} (h : tkK tx n k ≠ 0) : k < n := by
  by_cases h1 : n ≤ k
  · exact absurd (tkK_end h1) h
  · omega
