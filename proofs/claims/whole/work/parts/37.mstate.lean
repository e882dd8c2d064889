/-! model: the state of a reading -/
def wEnd : List Nat → Nat → List Nat → List Nat × Nat × List Nat
  | [], op, cd => ([], op, cd)
  | x :: r, op, cd => if x = 2 then wEnd r (op - 1) (cd ++ [40000]) else (x :: r, op, cd)
def nOp : List Nat → Nat
  | [] => 0
  | x :: r => (if x = 2 ∨ x = 40 then 1 else 0) + nOp r
def plV (pl : List Nat) : Prop := ∀ y, y ∈ pl → y ≤ 6 ∨ y = 40
/-- the item of an operation on the pile -/
def opI (x : Nat) : Nat := if x = 3 then 20043 else if x = 4 then 20045 else if x = 5 then 20042 else 20047
def stl (least : Nat) : List Nat → List Nat → List Nat × List Nat
  | [], cd => ([], cd)
  | x :: r, cd => if least ≤ x ∧ x < 40 then stl least r (cd ++ [opI x]) else (x :: r, cd)
def plA (f : Nat → Int32) (pl : List Nat) : Prop := ∀ i, i < pl.length → f i = nI (pl.getD (pl.length - 1 - i) 0)
def cdA (f : Nat → Int32) (b : Nat) (cd : List Nat) : Prop := ∀ i, i < cd.length → f (b + 130 + 2 * i) = nI (itM (cd.getD i 0)).1 ∧ f (b + 130 + 2 * i + 1) = nI (itM (cd.getD i 0)).2
def mS (tx : Nat → Nat) (n t0 : Nat) (I0 : pvI) (J0 : pvJ) (I : pvI) (J : pvJ) (k : Nat) (pl : List Nat) (op : Nat) (wh : Bool) (cd : List Nat) : Prop :=
  (mfix I0 I [202, 205, 218]) ∧ (∀ j, j ∉ [21, 22, 23, 24, 28, 31, 32, 33] → I 202 j = I0 202 j) ∧ (∀ x, x ≠ 202 → J x = J0 x) ∧ (I 202 21 = nI (tkE tx n (tkP tx n k))) ∧ (I 202 22 = nI (tkP tx n k)) ∧ (tokR (I 202 23) (I 202 24) (J 202 25) (tkK tx n k)) ∧ (I 202 28 = nI cd.length) ∧ (cdA (I 205) t0 cd) ∧ (∀ x, (x < t0 + 130 ∨ t0 + 800 ≤ x) → I 205 x = I0 205 x) ∧ (I 202 31 = nI pl.length) ∧ (plA (I 218) pl) ∧ (I 202 32 = nI op) ∧ (I 202 33 = if wh = true then 1 else 0)
theorem mS.mk' {tx : Nat → Nat} {n t0 : Nat} {I0 : pvI} {J0 : pvJ} {I : pvI} {J : pvJ} {k : Nat} {pl : List Nat} {op : Nat} {wh : Bool} {cd : List Nat} (fx : mfix I0 I [202, 205, 218]) (ff : ∀ j, j ∉ [21, 22, 23, 24, 28, 31, 32, 33] → I 202 j = I0 202 j) (fj : ∀ x, x ≠ 202 → J x = J0 x) (at' : I 202 21 = nI (tkE tx n (tkP tx n k))) (pla : I 202 22 = nI (tkP tx n k)) (tok : tokR (I 202 23) (I 202 24) (J 202 25) (tkK tx n k)) (wr : I 202 28 = nI cd.length) (cod : cdA (I 205) t0 cd) (fr5 : ∀ x, (x < t0 + 130 ∨ t0 + 800 ≤ x) → I 205 x = I0 205 x) (pd : I 202 31 = nI pl.length) (pil : plA (I 218) pl) (ops : I 202 32 = nI op) (who : I 202 33 = if wh = true then 1 else 0) : mS tx n t0 I0 J0 I J k pl op wh cd := ⟨fx, ff, fj, at', pla, tok, wr, cod, fr5, pd, pil, ops, who⟩
theorem mS.fx {tx : Nat → Nat} {n t0 : Nat} {I0 : pvI} {J0 : pvJ} {I : pvI} {J : pvJ} {k : Nat} {pl : List Nat} {op : Nat} {wh : Bool} {cd : List Nat} (h : mS tx n t0 I0 J0 I J k pl op wh cd) : mfix I0 I [202, 205, 218] := h.1
theorem mS.ff {tx : Nat → Nat} {n t0 : Nat} {I0 : pvI} {J0 : pvJ} {I : pvI} {J : pvJ} {k : Nat} {pl : List Nat} {op : Nat} {wh : Bool} {cd : List Nat} (h : mS tx n t0 I0 J0 I J k pl op wh cd) : ∀ j, j ∉ [21, 22, 23, 24, 28, 31, 32, 33] → I 202 j = I0 202 j := h.2.1
theorem mS.fj {tx : Nat → Nat} {n t0 : Nat} {I0 : pvI} {J0 : pvJ} {I : pvI} {J : pvJ} {k : Nat} {pl : List Nat} {op : Nat} {wh : Bool} {cd : List Nat} (h : mS tx n t0 I0 J0 I J k pl op wh cd) : ∀ x, x ≠ 202 → J x = J0 x := h.2.2.1
theorem mS.at' {tx : Nat → Nat} {n t0 : Nat} {I0 : pvI} {J0 : pvJ} {I : pvI} {J : pvJ} {k : Nat} {pl : List Nat} {op : Nat} {wh : Bool} {cd : List Nat} (h : mS tx n t0 I0 J0 I J k pl op wh cd) : I 202 21 = nI (tkE tx n (tkP tx n k)) := h.2.2.2.1
theorem mS.pla {tx : Nat → Nat} {n t0 : Nat} {I0 : pvI} {J0 : pvJ} {I : pvI} {J : pvJ} {k : Nat} {pl : List Nat} {op : Nat} {wh : Bool} {cd : List Nat} (h : mS tx n t0 I0 J0 I J k pl op wh cd) : I 202 22 = nI (tkP tx n k) := h.2.2.2.2.1
theorem mS.tok {tx : Nat → Nat} {n t0 : Nat} {I0 : pvI} {J0 : pvJ} {I : pvI} {J : pvJ} {k : Nat} {pl : List Nat} {op : Nat} {wh : Bool} {cd : List Nat} (h : mS tx n t0 I0 J0 I J k pl op wh cd) : tokR (I 202 23) (I 202 24) (J 202 25) (tkK tx n k) := h.2.2.2.2.2.1
theorem mS.wr {tx : Nat → Nat} {n t0 : Nat} {I0 : pvI} {J0 : pvJ} {I : pvI} {J : pvJ} {k : Nat} {pl : List Nat} {op : Nat} {wh : Bool} {cd : List Nat} (h : mS tx n t0 I0 J0 I J k pl op wh cd) : I 202 28 = nI cd.length := h.2.2.2.2.2.2.1
theorem mS.cod {tx : Nat → Nat} {n t0 : Nat} {I0 : pvI} {J0 : pvJ} {I : pvI} {J : pvJ} {k : Nat} {pl : List Nat} {op : Nat} {wh : Bool} {cd : List Nat} (h : mS tx n t0 I0 J0 I J k pl op wh cd) : cdA (I 205) t0 cd := h.2.2.2.2.2.2.2.1
theorem mS.fr5 {tx : Nat → Nat} {n t0 : Nat} {I0 : pvI} {J0 : pvJ} {I : pvI} {J : pvJ} {k : Nat} {pl : List Nat} {op : Nat} {wh : Bool} {cd : List Nat} (h : mS tx n t0 I0 J0 I J k pl op wh cd) : ∀ x, (x < t0 + 130 ∨ t0 + 800 ≤ x) → I 205 x = I0 205 x := h.2.2.2.2.2.2.2.2.1
theorem mS.pd {tx : Nat → Nat} {n t0 : Nat} {I0 : pvI} {J0 : pvJ} {I : pvI} {J : pvJ} {k : Nat} {pl : List Nat} {op : Nat} {wh : Bool} {cd : List Nat} (h : mS tx n t0 I0 J0 I J k pl op wh cd) : I 202 31 = nI pl.length := h.2.2.2.2.2.2.2.2.2.1
theorem mS.pil {tx : Nat → Nat} {n t0 : Nat} {I0 : pvI} {J0 : pvJ} {I : pvI} {J : pvJ} {k : Nat} {pl : List Nat} {op : Nat} {wh : Bool} {cd : List Nat} (h : mS tx n t0 I0 J0 I J k pl op wh cd) : plA (I 218) pl := h.2.2.2.2.2.2.2.2.2.2.1
theorem mS.ops {tx : Nat → Nat} {n t0 : Nat} {I0 : pvI} {J0 : pvJ} {I : pvI} {J : pvJ} {k : Nat} {pl : List Nat} {op : Nat} {wh : Bool} {cd : List Nat} (h : mS tx n t0 I0 J0 I J k pl op wh cd) : I 202 32 = nI op := h.2.2.2.2.2.2.2.2.2.2.2.1
theorem mS.who {tx : Nat → Nat} {n t0 : Nat} {I0 : pvI} {J0 : pvJ} {I : pvI} {J : pvJ} {k : Nat} {pl : List Nat} {op : Nat} {wh : Bool} {cd : List Nat} (h : mS tx n t0 I0 J0 I J k pl op wh cd) : I 202 33 = if wh = true then 1 else 0 := h.2.2.2.2.2.2.2.2.2.2.2.2
section MS
variable {tx : Nat → Nat} {n t0 : Nat} {I0 : pvI} {J0 : pvJ} {I : pvI} {J : pvJ} {k : Nat} {pl : List Nat} {op : Nat} {wh : Bool} {cd : List Nat}
theorem fld_at {f : Nat → Int32} {i j : Nat} {x v : Int32} (h : j ≠ i) (hv : f j = v) : upd f i x j = v := by simp [upd, h, hv]
theorem mS.p32 (h : mS tx n t0 I0 J0 I J k pl op wh cd) (o : Nat) : mS tx n t0 I0 J0 (pvs I 202 (upd (I 202) 32 (nI o))) J k pl o wh cd := mS.mk'
  (fx := fun x hx => by rw [pvs_ne (by simp at hx; omega)]; exact h.fx x hx)
  (ff := fun j hj => by rw [pvs_eq, fld_at (by simp at hj; omega) (h.ff j hj)])
  (fj := h.fj)
  (at' := by rw [pvs_eq]; exact fld_at (by decide) h.at')
  (pla := by rw [pvs_eq]; exact fld_at (by decide) h.pla)
  (tok := by rw [pvs_eq, fld_at (by decide) rfl, fld_at (by decide) rfl]; exact h.tok)
  (wr := by rw [pvs_eq]; exact fld_at (by decide) h.wr)
  (cod := by rw [pvs_ne (by decide)]; exact h.cod)
  (fr5 := by rw [pvs_ne (by decide)]; exact h.fr5)
  (pd := by rw [pvs_eq]; exact fld_at (by decide) h.pd)
  (pil := by rw [pvs_ne (by decide)]; exact h.pil)
  (ops := by rw [pvs_eq]; simp [upd])
  (who := by rw [pvs_eq]; exact fld_at (by decide) h.who)
theorem mS.p33 (h : mS tx n t0 I0 J0 I J k pl op wh cd) (b : Bool) : mS tx n t0 I0 J0 (pvs I 202 (upd (I 202) 33 (if b = true then 1 else 0))) J k pl op b cd := mS.mk'
  (fx := fun x hx => by rw [pvs_ne (by simp at hx; omega)]; exact h.fx x hx)
  (ff := fun j hj => by rw [pvs_eq, fld_at (by simp at hj; omega) (h.ff j hj)])
  (fj := h.fj)
  (at' := by rw [pvs_eq]; exact fld_at (by decide) h.at')
  (pla := by rw [pvs_eq]; exact fld_at (by decide) h.pla)
  (tok := by rw [pvs_eq, fld_at (by decide) rfl, fld_at (by decide) rfl]; exact h.tok)
  (wr := by rw [pvs_eq]; exact fld_at (by decide) h.wr)
  (cod := by rw [pvs_ne (by decide)]; exact h.cod)
  (fr5 := by rw [pvs_ne (by decide)]; exact h.fr5)
  (pd := by rw [pvs_eq]; exact fld_at (by decide) h.pd)
  (pil := by rw [pvs_ne (by decide)]; exact h.pil)
  (ops := by rw [pvs_eq]; exact fld_at (by decide) h.ops)
  (who := by rw [pvs_eq]; simp [upd])
theorem plA_tl {f : Nat → Int32} {x : Nat} {r : List Nat} (h : plA f (x :: r)) : plA f r ∧ f r.length = nI x := by
  refine ⟨fun i hi => ?_, ?_⟩
  · have := h i (by simp; omega)
    rw [this]
    rw [List.length_cons, show r.length + 1 - 1 - i = (r.length - 1 - i) + 1 by omega]
    rfl
  · have := h r.length (by simp)
    rw [this, List.length_cons, show r.length + 1 - 1 - r.length = 0 by omega]
    rfl
theorem plA_cons {f : Nat → Int32} {x : Nat} {r : List Nat} (h : plA f r) : plA (upd f r.length (nI x)) (x :: r) := by
  intro i hi
  rw [List.length_cons] at hi ⊢
  by_cases e : i = r.length
  · subst e
    rw [show r.length + 1 - 1 - r.length = 0 by omega]
    simp [upd]
  · simp only [upd, if_neg e]
    rw [h i (by omega), show r.length + 1 - 1 - i = (r.length - 1 - i) + 1 by omega]
    rfl
/-- the pile's uppermost taken -/
theorem mS.pop {x : Nat} {r : List Nat} (h : mS tx n t0 I0 J0 I J k (x :: r) op wh cd) : mS tx n t0 I0 J0 (pvs I 202 (upd (I 202) 31 (nI r.length))) J k r op wh cd := mS.mk'
  (fx := fun x hx => by rw [pvs_ne (by simp at hx; omega)]; exact h.fx x hx)
  (ff := fun j hj => by rw [pvs_eq, fld_at (by simp at hj; omega) (h.ff j hj)])
  (fj := h.fj)
  (at' := by rw [pvs_eq]; exact fld_at (by decide) h.at')
  (pla := by rw [pvs_eq]; exact fld_at (by decide) h.pla)
  (tok := by rw [pvs_eq, fld_at (by decide) rfl, fld_at (by decide) rfl]; exact h.tok)
  (wr := by rw [pvs_eq]; exact fld_at (by decide) h.wr)
  (cod := by rw [pvs_ne (by decide)]; exact h.cod)
  (fr5 := by rw [pvs_ne (by decide)]; exact h.fr5)
  (pd := by rw [pvs_eq]; simp [upd])
  (pil := by rw [pvs_ne (by decide)]; exact (plA_tl h.pil).1)
  (ops := by rw [pvs_eq]; exact fld_at (by decide) h.ops)
  (who := by rw [pvs_eq]; exact fld_at (by decide) h.who)
theorem mS.none (h : mS tx n t0 I0 J0 I J k pl op wh cd) : mS tx n t0 I0 J0 (pvs I 202 (upd (I 202) 31 (nI 0))) J k [] op wh cd := mS.mk'
  (fx := fun x hx => by rw [pvs_ne (by simp at hx; omega)]; exact h.fx x hx)
  (ff := fun j hj => by rw [pvs_eq, fld_at (by simp at hj; omega) (h.ff j hj)])
  (fj := h.fj)
  (at' := by rw [pvs_eq]; exact fld_at (by decide) h.at')
  (pla := by rw [pvs_eq]; exact fld_at (by decide) h.pla)
  (tok := by rw [pvs_eq, fld_at (by decide) rfl, fld_at (by decide) rfl]; exact h.tok)
  (wr := by rw [pvs_eq]; exact fld_at (by decide) h.wr)
  (cod := by rw [pvs_ne (by decide)]; exact h.cod)
  (fr5 := by rw [pvs_ne (by decide)]; exact h.fr5)
  (pd := by rw [pvs_eq]; simp [upd])
  (pil := fun i hi => absurd hi (Nat.not_lt_zero i))
  (ops := by rw [pvs_eq]; exact fld_at (by decide) h.ops)
  (who := by rw [pvs_eq]; exact fld_at (by decide) h.who)
theorem mS.psh (h : mS tx n t0 I0 J0 I J k pl op wh cd) (x : Nat) : mS tx n t0 I0 J0 (pvs (pvs I 218 (upd (I 218) pl.length (nI x))) 202 (upd (I 202) 31 (nI (pl.length + 1)))) J k (x :: pl) op wh cd := mS.mk'
  (fx := fun y hy => by rw [pvs_ne (by simp at hy; omega), pvs_ne (by simp at hy; omega)]; exact h.fx y hy)
  (ff := fun j hj => by rw [pvs_eq, fld_at (by simp at hj; omega) (h.ff j hj)])
  (fj := h.fj)
  (at' := by rw [pvs_eq]; exact fld_at (by decide) h.at')
  (pla := by rw [pvs_eq]; exact fld_at (by decide) h.pla)
  (tok := by rw [pvs_eq, fld_at (by decide) rfl, fld_at (by decide) rfl]; exact h.tok)
  (wr := by rw [pvs_eq]; exact fld_at (by decide) h.wr)
  (cod := by rw [pvs_ne (by decide), pvs_ne (by decide)]; exact h.cod)
  (fr5 := by rw [pvs_ne (by decide), pvs_ne (by decide)]; exact h.fr5)
  (pd := by rw [pvs_eq]; simp [upd])
  (pil := by rw [pvs_ne (by decide), pvs_eq]; exact plA_cons h.pil)
  (ops := by rw [pvs_eq]; exact fld_at (by decide) h.ops)
  (who := by rw [pvs_eq]; exact fld_at (by decide) h.who)
theorem cdA_app {f : Nat → Int32} {b : Nat} {x : Nat} (h : cdA f b cd) : cdA (upd (upd f (b + 130 + 2 * cd.length) (nI (itM x).1)) (b + 130 + 2 * cd.length + 1) (nI (itM x).2)) b (cd ++ [x]) := by
  intro i hi
  rw [List.length_append, List.length_singleton] at hi
  by_cases e : i = cd.length
  · subst e
    have : (cd ++ [x]).getD cd.length 0 = x := by simp [List.getD]
    rw [this]
    constructor
    · rw [fld_at (by omega) rfl]; simp [upd]
    · simp [upd]
  · have : (cd ++ [x]).getD i 0 = cd.getD i 0 := by simp [List.getD, List.getElem?_append_left (show i < cd.length by omega)]
    rw [this]
    have h2 := h i (by omega)
    exact ⟨fld_at (by omega) (fld_at (by omega) h2.1), fld_at (by omega) (fld_at (by omega) h2.2)⟩
theorem mS.emt (h : mS tx n t0 I0 J0 I J k pl op wh cd) (hc : cd.length < 330) (x : Nat) : mS tx n t0 I0 J0 (pvs (pvs I 205 (upd (upd (I 205) (t0 + 130 + 2 * cd.length) (nI (itM x).1)) (t0 + 130 + 2 * cd.length + 1) (nI (itM x).2))) 202 (upd (I 202) 28 (nI (cd.length + 1)))) J k pl op wh (cd ++ [x]) := mS.mk'
  (fx := fun y hy => by rw [pvs_ne (by simp at hy; omega), pvs_ne (by simp at hy; omega)]; exact h.fx y hy)
  (ff := fun j hj => by rw [pvs_eq, fld_at (by simp at hj; omega) (h.ff j hj)])
  (fj := h.fj)
  (at' := by rw [pvs_eq]; exact fld_at (by decide) h.at')
  (pla := by rw [pvs_eq]; exact fld_at (by decide) h.pla)
  (tok := by rw [pvs_eq, fld_at (by decide) rfl, fld_at (by decide) rfl]; exact h.tok)
  (wr := by rw [pvs_eq]; simp [upd])
  (cod := by rw [pvs_ne (by decide), pvs_eq]; exact cdA_app h.cod)
  (fr5 := fun y hy => by rw [pvs_ne (by decide), pvs_eq, fld_at (by omega) (fld_at (by omega) (h.fr5 y hy))])
  (pd := by rw [pvs_eq]; exact fld_at (by decide) h.pd)
  (pil := by rw [pvs_ne (by decide), pvs_ne (by decide)]; exact h.pil)
  (ops := by rw [pvs_eq]; exact fld_at (by decide) h.ops)
  (who := by rw [pvs_eq]; exact fld_at (by decide) h.who)
theorem mS.nxt {I' : pvI} {J' : pvJ} (h : mS tx n t0 I0 J0 I J k pl op wh cd) (hq : nxQ tx n (tkE tx n (tkP tx n k)) I J I' J') : mS tx n t0 I0 J0 I' J' (k + 1) pl op wh cd := by
  obtain ⟨q1, q2, q3, q4, q5, q6⟩ := hq
  exact mS.mk'
    (fx := fun y hy => by rw [q1 y (by simp at hy ⊢; omega)]; exact h.fx y hy)
    (ff := fun j hj => by rw [q2 j (by simp at hj ⊢; omega)]; exact h.ff j hj)
    (fj := fun y hy => by rw [q3 y hy]; exact h.fj y hy)
    (at' := q4)
    (pla := q5)
    (tok := q6)
    (wr := by rw [q2 28 (by decide)]; exact h.wr)
    (cod := by rw [q1 205 (by decide)]; exact h.cod)
    (fr5 := by rw [q1 205 (by decide)]; exact h.fr5)
    (pd := by rw [q2 31 (by decide)]; exact h.pd)
    (pil := by rw [q1 218 (by decide)]; exact h.pil)
    (ops := by rw [q2 32 (by decide)]; exact h.ops)
    (who := by rw [q2 33 (by decide)]; exact h.who)
end MS
