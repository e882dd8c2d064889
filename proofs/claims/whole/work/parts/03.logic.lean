/-! A logic over the machine: ONE memory (ints, longs, references by logical address and place), logical addresses 0 (the script), 1 .. (the cells in the order in which the law makes them), 1000 (the text of the reader's words). A method's walk speaks of logical things alone. -/
-- a context: the script's address, the heap's size at the law's entry, the tables' numbers, the array classes' numbers, the address of the reader's text
abbrev pvX : Type := Nat × Nat × va_G × (Nat → ClassId) × Nat
abbrev pvM : Type := MethodName × ByteArray × Nat × Option FieldType
abbrev pvI : Type := Nat → Nat → Int32
abbrev pvJ : Type := Nat → Nat → Int64
abbrev pvP : Type := Nat → Nat → Option Nat
abbrev pvQT : Type := Option Value → Nat → pvI → pvJ → pvP → Prop
def pvad (X : pvX) (k : Nat) : Nat := if k = 0 then X.1 else if k = 1000 then X.2.2.2.2 else X.2.1 + (k - 1)
def pvv (X : pvX) (v : Value) : Value := match v with
  | .ref k => .ref (pvad X k)
  | .int x => .int x
  | .long x => .long x
  | .null => .null
  | .float x => .float x
  | .double x => .double x
  | .retAddr x => .retAddr x
abbrev pvFree (X : pvX) : Nat → Prop := fun q => X.2.1 ≤ q
abbrev pvtys (X : pvX) : List (ClassId × FieldType) := [(X.2.2.2.1 0, .int), (X.2.2.2.1 1, .long), (X.2.2.2.1 2, .boolean), (X.2.2.2.1 3, .object "SeamFire$Fire"), (X.2.2.2.1 4, .object "SeamFire$Act")]
-- what each logical cell is: (0, n) ints, (1, n) longs, (2, n) booleans, (3, n) fires, (4, n) acts, (5 + c, slots) an object of class number c
def pv_world (j : Nat) : Nat × Nat := match j with
  | 0 => (15, 8) | 1 => (8, 11) | 2 => (0, 64) | 3 => (0, 64) | 4 => (0, 64) | 5 => (1, 100)
  | 6 => (14, 12) | 7 => (0, 20) | 8 => (0, 20) | 9 => (0, 20) | 10 => (1, 100) | 11 => (0, 10) | 12 => (0, 10) | 13 => (0, 10) | 14 => (0, 10) | 15 => (0, 10) | 16 => (1, 100)
  | 17 => (9, 8) | 18 => (0, 8) | 19 => (0, 8) | 20 => (0, 200) | 21 => (0, 200) | 22 => (0, 200) | 23 => (0, 200)
  | 24 => (12, 14) | 25 => (0, 20) | 26 => (0, 20) | 27 => (0, 20) | 28 => (0, 20) | 29 => (0, 20) | 30 => (0, 60) | 31 => (0, 60) | 32 => (0, 60) | 33 => (0, 60) | 34 => (0, 60) | 35 => (0, 10)
  | 36 => (10, 5) | 37 => (0, 30) | 38 => (0, 30) | 39 => (0, 30)
  | 40 => (13, 8) | 41 => (0, 6) | 42 => (0, 6)
  | _ => (0, 0)
def pv_fire (j : Nat) : Nat × Nat := match j with
  | 0 => (6, 15) | 1 => (0, 64) | 2 => (0, 64) | 3 => (1, 100) | 4 => (1, 100) | _ => (1, 100)
def pv_act (j : Nat) : Nat × Nat := match j with
  | 0 => (5, 6) | 1 => (0, 20) | 2 => (0, 20) | 3 => (0, 20) | _ => (0, 300)
def pv_model (j : Nat) : Nat × Nat := match j with
  | 0 => (17, 42) | 1 => (0, 8020) | 2 => (0, 8020) | 3 => (0, 8000) | 4 => (0, 64) | 5 => (0, 64) | 6 => (0, 64) | 7 => (0, 64) | 8 => (0, 64) | 9 => (0, 64) | 10 => (0, 64) | 11 => (0, 64) | 12 => (2, 64)
  | 13 => (0, 51200) | 14 => (0, 8) | 15 => (0, 300) | 16 => (0, 160) | 17 => (0, 8) | 18 => (1, 330) | 19 => (2, 330) | 20 => (0, 20) | 21 => (0, 60) | 22 => (2, 8)
  | _ => (0, 0)
def pvSH (k : Nat) : Nat × Nat :=
  if k = 0 then (0, 0) else if k = 1 then (16, 10) else if k = 2 then (7, 6) else if k < 46 then pv_world (k - 3) else if k < 89 then pv_world (k - 46) else if k = 89 then (3, 8) else if k < 144 then pv_fire ((k - 90) % 6)
  else if k = 144 then (11, 12) else if k = 145 then (0, 300) else if k < 148 then (0, 301) else if k = 148 then (4, 10) else if k < 199 then pv_act ((k - 149) % 5) else if k = 199 then (0, 8) else if k = 200 then (0, 300) else if k = 201 then (2, 60)
  else pv_model (k - 202)
-- the kind of a field: 0 an int or a truth, 1 a long, 2 a reference
def pv_kd : FieldType → Nat
  | .int => 0 | .boolean => 0 | .long => 1 | _ => 2
def pvTy (c : Nat) : Nat → FieldType := match c with
  | 0 => tyX0 | 1 => tyX1 | 2 => tyX2 | 3 => tyX3 | 4 => tyX4 | 5 => tyX5 | 6 => tyX6 | 7 => tyX7 | 8 => tyX8 | 9 => tyX9 | 10 => tyX10 | 11 => tyX11 | _ => tyX12
def pvval (X : pvX) (I : pvI) (J : pvJ) (P : pvP) (k : Nat) (t : Nat) (j : Nat) : Value := match t with
  | 0 => .int (I k j)
  | 1 => .long (J k j)
  | _ => va_rf ((P k j).map (pvad X))
def pvE (X : pvX) (I : pvI) (J : pvJ) (P : pvP) (k : Nat) : va_E := match pvSH k with
  | (0, n) => .inl (X.2.2.2.1 0, n, .inl (I k))
  | (1, n) => .inl (X.2.2.2.1 1, n, .inr (.inl (J k)))
  | (2, n) => .inl (X.2.2.2.1 2, n, .inl (I k))
  | (3, n) => .inl (X.2.2.2.1 3, n, .inr (.inr (.inr (.inr (fun i => (P k i).map (pvad X))))))
  | (4, n) => .inl (X.2.2.2.1 4, n, .inr (.inr (.inr (.inr (fun i => (P k i).map (pvad X))))))
  | (c + 5, n) => .inr (c, (List.range n).map (fun j => pvval X I J P k (pv_kd (pvTy c j)) j))
-- the cells as a list, logical address k + 1 at place k
def pvW (X : pvX) (nx : Nat) (I : pvI) (J : pvJ) (P : pvP) : va_W := (List.range nx).map (fun k => (X.2.1 + k, pvE X I J P (k + 1)))
def pvHd (X : pvX) (nx : Nat) (I : pvI) (J : pvJ) (P : pvP) (U : State) (H : Heap) : Prop :=
  (nx < 224 → H.size = X.2.1 + nx) ∧ X.1 < X.2.1 ∧ nx < 900 ∧ va_X X.1 ((P 0 0).getD 0) (I 0) U H ∧ va_P X.2.2.1 vwCl (pvW X nx I J P) H
-- what stays: the words of nest mates, the reader's text, two statics of the JDK
def pvNest (w : Cond) : Bool := match w with
  | .methodLinkNest .. => true
  | _ => false
def pv_text : String := "shut worth whose yes or and not gas cracks size week people heard ask kin "
def pv_bytes : List Int32 := [115, 104, 117, 116, 32, 119, 111, 114, 116, 104, 32, 119, 104, 111, 115, 101, 32, 121, 101, 115, 32, 111, 114, 32, 97, 110, 100, 32, 110, 111, 116, 32, 103, 97, 115, 32, 99, 114, 97, 99, 107, 115, 32, 115, 105, 122, 101, 32, 119, 101, 101, 107, 32, 112, 101, 111, 112, 108, 101, 32, 104, 101, 97, 114, 100, 32, 97, 115, 107, 32, 107, 105, 110, 32]
def pvStat (X : pvX) (U : State) (H : Heap) : Prop :=
  (∀ w ∈ lw_tbl, pvNest w = true → va_Nw w U) ∧ vk_R "SeamFire$Reader" 80 pv_text X.2.2.2.2 U ∧
  (∃ adK adV : Nat → Nat, adK 0 = X.2.2.2.2 ∧ vk_S 1 [74] [pv_bytes] adK adV (pvFree X) U H) ∧
  va_Z "java/lang/String" "COMPACT_STRINGS" "Z" (.int 1) (pvFree X) U H ∧
  va_Zq "jdk/internal/util/Preconditions" "SIOOBE_FORMATTER" "Ljava/util/function/BiFunction;" (pvFree X) U H ∧
  va_AO "SeamFire$Fire" U ∧ va_AO "SeamFire$Act" U
def pvR (d mc ms : Nat) : Room := { frames := d, cells := mc, slots := ms, locals := 60 * d }
def pvPre (X : pvX) (nx : Nat) (I : pvI) (J : pvJ) (P : pvP) (U : State) : Prop :=
  va_K X.2.2.1 vwCl (pvtys X) U ∧ X.2.1 ≤ U.heap.size ∧ pvHd X nx I J P U U.heap ∧ pvStat X U U.heap
def pvQ (X : pvX) (Q : pvQT) : Array Value → State → Outcome → State → Prop := fun _ st oc t =>
  ∃ (v : Option Value) (nx : Nat) (I : pvI) (J : pvJ) (P : pvP), oc = .returned (v.map (pvv X)) ∧ Q v nx I J P ∧ pvHd X nx I J P t t.heap ∧ va_F (pvFree X) st t
abbrev pvws (M : pvM) : List Cond := Cond.code M.1 M.2.1 M.2.2.1 M.2.2.2 :: pv_T
/-- a method's contract -/
def pvMet (M : pvM) (d mc ms : Nat) (vs : List Value) (nx : Nat) (I : pvI) (J : pvJ) (P : pvP) (Q : pvQT) : Prop :=
  ∀ (l : Launch) (X : pvX), Met l M.1 (pvws M) (pvR d mc ms) (va_Pc (vs.map (pvv X)) (pvPre X nx I J P)) (pvQ X Q) mc ms (pvFree X)
abbrev pvZT : Type := pvX → List Frame → Array Value → State → State → Prop
def pvZ (Q : pvQT) (mc ms : Nat) : pvZT := fun X below args s => MQ below (pvQ X Q) args s mc ms (pvFree X)
-- locals: a place that holds .retAddr says nothing
def pvgd (v : Value) : Bool := match v with
  | .retAddr _ => false
  | _ => true
def pvL (X : pvX) (nL : Nat) (ls : List Value) (als : Array Slot) : Prop := als.size = nL ∧ lv_wf als ∧ ∀ (i : Nat) (v : Value), ls[i]? = some v → pvgd v = true → als[i]? = some (.val (pvv X v))
def pvC (M : pvM) (X : pvX) (nx : Nat) (I : pvI) (J : pvJ) (P : pvP) (p : Program) (s : State) (m : MethodId) (args : Array Value) (meth : Method) (c : Code) (H : Heap) (locs : List Loc) : Prop :=
  p.tables.exec = Jvm.exec ∧ c.code = M.2.1 ∧ c.maxLocals = M.2.2.1 ∧ meth.sig.returnType = M.2.2.2 ∧ meth.locks = false ∧ s.vm.findClass M.1.cls = some m.cls ∧ meth.name = M.1.name ∧ (∀ w ∈ pv_T, w.before args s = true) ∧
  va_K X.2.2.1 vwCl (pvtys X) s ∧ X.2.1 ≤ s.heap.size ∧ va_S (pvFree X) s.heap H locs ∧ pvHd X nx I J P s H ∧ pvStat X s s.heap
/-- the machine, at pc of method M with these locals, this stack, this memory, comes to an end with Z -/
def pvG (M : pvM) (R : Room) (Z : pvZT) (pc : Nat) (ls st : List Value) (kc kn nx : Nat) (I : pvI) (J : pvJ) (P : pvP) : Prop :=
  ∀ (X : pvX) (p : Program) (l : Launch) (e : Env) (s : State) (m : MethodId) (args : Array Value) (below : List Frame) (meth : Method) (c : Code) (H : Heap) (locs : List Loc) (als : Array Slot),
    pvC M X nx I J P p s m args meth c H locs → pvL X M.2.2.1 ls als → W p l e R s m args below meth c H locs kc kn (Z X below args s) (F0 m pc als (st.map (pvv X)))
theorem pvW_at {X : pvX} {nx : Nat} {I : pvI} {J : pvJ} {P : pvP} {k : Nat} (h : k < nx) : (pvW X nx I J P)[k]? = some (X.2.1 + k, pvE X I J P (k + 1)) := by
  simp [pvW, h]
theorem pvW_D {X : pvX} {nx : Nat} {I : pvI} {J : pvJ} {P : pvP} : va_D (pvFree X) (pvW X nx I J P) := by
  refine ⟨fun i j p q hi hj h => ?_, fun k q hk => ?_⟩
  · have hi' : i < nx := by
      have := (List.getElem?_eq_some_iff.mp hi).1
      simpa [pvW] using this
    have hj' : j < nx := by
      have := (List.getElem?_eq_some_iff.mp hj).1
      simpa [pvW] using this
    rw [pvW_at hi'] at hi
    rw [pvW_at hj'] at hj
    cases hi
    cases hj
    simp at h
    exact h
  · have hk' : k < nx := by
      have := (List.getElem?_eq_some_iff.mp hk).1
      simpa [pvW] using this
    rw [pvW_at hk'] at hk
    cases hk
    exact Nat.le_add_right _ _
theorem pvad_pos {X : pvX} {k : Nat} (h : k < 900) : pvad X (k + 1) = X.2.1 + k := by
  unfold pvad
  rw [if_neg (by omega), if_neg (by omega)]
  rfl
/-- changing one cell -/
theorem pvW_set {X : pvX} {nx : Nat} {I I' : pvI} {J J' : pvJ} {P P' : pvP} {k : Nat} {e : va_E} (hk : k < nx) (he : pvE X I' J' P' (k + 1) = e) (ho : ∀ j, j ≠ k → pvE X I' J' P' (j + 1) = pvE X I J P (j + 1)) :
    (pvW X nx I J P).set k (X.2.1 + k, e) = pvW X nx I' J' P' := by
  apply List.ext_getElem?
  intro i
  by_cases hi : i < nx
  · rw [pvW_at hi]
    by_cases hik : i = k
    · subst hik
      rw [List.getElem?_set_self (by simpa [pvW] using hi), he]
    · rw [List.getElem?_set_ne (fun h => hik h.symm), pvW_at hi, ho i hik]
  · rw [List.getElem?_eq_none (by simpa [pvW] using hi), List.getElem?_eq_none (by simpa [pvW] using hi)]
theorem pvStat.move {X : pvX} {s U : State} {locs : List Loc} (hW : s.WarmedH U.vm) (hS : va_S (pvFree X) s.heap U.heap locs) (h : pvStat X s s.heap) : pvStat X U U.heap := by
  obtain ⟨h1, h2, ⟨adK, adV, h3, h4⟩, h5, h6, h7, h8⟩ := h
  refine ⟨fun w hw hn => ?_, vk_R.warm hW h2, ⟨adK, adV, h3, (h4.kept hS.2.1).moved hW.alike⟩, va_Z.moved hW.alike (h5.kept hS.2.1), ?_, va_AO.moved hW.alike h7, va_AO.moved hW.alike h8⟩
  · have h := h1 w hw hn
    cases w <;> simp [pvNest] at hn
    exact va_Nw.warmM hW h
  · rcases h6 with h6 | ⟨t, h6⟩
    · exact Or.inl (va_Z.moved hW.alike (h6.kept hS.2.1))
    · exact Or.inr ⟨t, va_Z.moved hW.alike (h6.kept hS.2.1)⟩
theorem pvHd.move {X : pvX} {nx : Nat} {I : pvI} {J : pvJ} {P : pvP} {s U : State} {H : Heap} (hvm : s.vm.Alike U.vm) (h : pvHd X nx I J P s H) : pvHd X nx I J P U H := ⟨h.1, h.2.1, h.2.2.1, va_X.moved hvm h.2.2.2.1, h.2.2.2.2⟩
