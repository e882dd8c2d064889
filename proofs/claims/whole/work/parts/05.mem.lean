/-! The logic's rows on memory: fields, arrays. -/
def pvu (I : pvI) (k j : Nat) (x : Int32) : pvI := fun a => if a = k then upd (I k) j x else I a
def pvuJ (J : pvJ) (k j : Nat) (x : Int64) : pvJ := fun a => if a = k then vp_updL (J k) j x else J a
def pvuP (P : pvP) (k j : Nat) (x : Option Nat) : pvP := fun a => if a = k then va_up (P k) j x else P a
theorem pvat {X : pvX} {nx : Nat} {I : pvI} {J : pvJ} {P : pvP} {k : Nat} (h1 : 1 ≤ k) (h2 : k ≤ nx) (h9 : nx < 900) : (pvW X nx I J P)[k - 1]? = some (pvad X k, pvE X I J P k) := by
  obtain ⟨k, rfl⟩ : ∃ j, k = j + 1 := ⟨k - 1, by omega⟩
  rw [Nat.add_sub_cancel, pvW_at (by omega), pvad_pos (by omega)]
theorem pvE_i {X : pvX} {I : pvI} {J : pvJ} {P : pvP} {k n : Nat} (h : pvSH k = (0, n)) : pvE X I J P k = .inl (X.2.2.2.1 0, n, .inl (I k)) := by unfold pvE; rw [h]
theorem pvE_l {X : pvX} {I : pvI} {J : pvJ} {P : pvP} {k n : Nat} (h : pvSH k = (1, n)) : pvE X I J P k = .inl (X.2.2.2.1 1, n, .inr (.inl (J k))) := by unfold pvE; rw [h]
theorem pvE_z {X : pvX} {I : pvI} {J : pvJ} {P : pvP} {k n : Nat} (h : pvSH k = (2, n)) : pvE X I J P k = .inl (X.2.2.2.1 2, n, .inl (I k)) := by unfold pvE; rw [h]
theorem pvE_f {X : pvX} {I : pvI} {J : pvJ} {P : pvP} {k n : Nat} (h : pvSH k = (3, n)) : pvE X I J P k = .inl (X.2.2.2.1 3, n, .inr (.inr (.inr (.inr (fun i => (P k i).map (pvad X)))))) := by unfold pvE; rw [h]
theorem pvE_a {X : pvX} {I : pvI} {J : pvJ} {P : pvP} {k n : Nat} (h : pvSH k = (4, n)) : pvE X I J P k = .inl (X.2.2.2.1 4, n, .inr (.inr (.inr (.inr (fun i => (P k i).map (pvad X)))))) := by unfold pvE; rw [h]
theorem pvE_o {X : pvX} {I : pvI} {J : pvJ} {P : pvP} {k c n : Nat} (h : pvSH k = (c + 5, n)) : pvE X I J P k = .inr (c, (List.range n).map (fun j => pvval X I J P k (pv_kd (pvTy c j)) j)) := by unfold pvE; rw [h]
theorem pvE_congr {X : pvX} {I I' : pvI} {J J' : pvJ} {P P' : pvP} {k : Nat} (h1 : I' k = I k) (h2 : J' k = J k) (h3 : P' k = P k) : pvE X I' J' P' k = pvE X I J P k := by
  have hv : ∀ t j, pvval X I' J' P' k t j = pvval X I J P k t j := by
    intro t j
    unfold pvval
    rw [h1, h2, h3]
  unfold pvE
  split <;> simp only [h1, h2, h3, hv]
theorem pvE_set {X : pvX} {I I' : pvI} {J J' : pvJ} {P P' : pvP} {k c n j : Nat} {v : Value} (hsh : pvSH k = (c + 5, n)) (hj : j < n) (hv : pvval X I' J' P' k (pv_kd (pvTy c j)) j = v) (ho : ∀ t i, i ≠ j → pvval X I' J' P' k t i = pvval X I J P k t i) :
    pvE X I' J' P' k = .inr (c, ((List.range n).map (fun j => pvval X I J P k (pv_kd (pvTy c j)) j)).set j v) := by
  rw [pvE_o hsh]
  congr 2
  apply List.ext_getElem?
  intro i
  by_cases hi : i = j
  · subst hi
    rw [List.getElem?_set_self (by simpa using hj)]
    simp [hj, hv]
  · rw [List.getElem?_set_ne (fun h => hi h.symm)]
    by_cases hin : i < n
    · simp [hin, ho _ i hi]
    · simp [hin]
theorem pvval_u {X : pvX} {I : pvI} {J : pvJ} {P : pvP} {k j : Nat} {x : Int32} (t i : Nat) (h : i ≠ j) : pvval X (pvu I k j x) J P k t i = pvval X I J P k t i := by
  unfold pvval
  simp [pvu, upd, h]
theorem pvval_uJ {X : pvX} {I : pvI} {J : pvJ} {P : pvP} {k j : Nat} {x : Int64} (t i : Nat) (h : i ≠ j) : pvval X I (pvuJ J k j x) P k t i = pvval X I J P k t i := by
  unfold pvval
  simp [pvuJ, vp_updL, h]
theorem pvval_uP {X : pvX} {I : pvI} {J : pvJ} {P : pvP} {k j : Nat} {x : Option Nat} (t i : Nat) (h : i ≠ j) : pvval X I J (pvuP P k j x) k t i = pvval X I J P k t i := by
  unfold pvval
  simp [pvuP, va_up, h]
theorem pvu_ne {I : pvI} {k j a : Nat} {x : Int32} (h : a ≠ k) : pvu I k j x a = I a := by simp [pvu, h]
theorem pvu_eq {I : pvI} {k j : Nat} {x : Int32} : pvu I k j x k = upd (I k) j x := by simp [pvu]
theorem pvuJ_ne {J : pvJ} {k j a : Nat} {x : Int64} (h : a ≠ k) : pvuJ J k j x a = J a := by simp [pvuJ, h]
theorem pvuJ_eq {J : pvJ} {k j : Nat} {x : Int64} : pvuJ J k j x k = vp_updL (J k) j x := by simp [pvuJ]
theorem pvuP_ne {P : pvP} {k j a : Nat} {x : Option Nat} (h : a ≠ k) : pvuP P k j x a = P a := by simp [pvuP, h]
theorem pvuP_eq {P : pvP} {k j : Nat} {x : Option Nat} : pvuP P k j x k = va_up (P k) j x := by simp [pvuP]
/-- the heap behind one changed cell -/
theorem pvHd.put {X : pvX} {nx : Nat} {I I' : pvI} {J J' : pvJ} {P P' : pvP} {s : State} {H H1 : Heap} {locs locs1 : List Loc} {k : Nat} {e : va_E} (h : pvHd X nx I J P s H) (hB : X.2.1 ≤ s.heap.size) (hS : va_S (pvFree X) s.heap H locs) (hS1 : va_S (pvFree X) s.heap H1 locs1) (hz : nx < 224 → H1.size = H.size)
    (h1 : 1 ≤ k) (h2 : k ≤ nx) (hP : va_P X.2.2.1 vwCl ((pvW X nx I J P).set (k - 1) (pvad X k, e)) H1) (he : pvE X I' J' P' k = e) (hI : ∀ a, a ≠ k → I' a = I a) (hJ : ∀ a, a ≠ k → J' a = J a) (hPP : ∀ a, a ≠ k → P' a = P a) : pvHd X nx I' J' P' s H1 := by
  obtain ⟨g1, g2, g3, g4, g5⟩ := h
  have hb : H1[X.1]? = H[X.1]? := by
    rw [hS.2.1 X.1 (by omega) (by show ¬ X.2.1 ≤ X.1; omega), hS1.2.1 X.1 (by omega) (by show ¬ X.2.1 ≤ X.1; omega)]
  refine ⟨fun h => (hz h).trans (g1 h), g2, g3, ?_, ?_⟩
  · rw [hI 0 (by omega), hPP 0 (by omega)]
    exact g4.kept hb
  · obtain ⟨k, rfl⟩ : ∃ j, k = j + 1 := ⟨k - 1, by omega⟩
    rw [Nat.add_sub_cancel, pvad_pos (by omega), pvW_set (I' := I') (J' := J') (P' := P') (by omega) he (fun j hj => pvE_congr (hI _ (by omega)) (hJ _ (by omega)) (hPP _ (by omega)))] at hP
    exact hP
-- a field's words
def pvFd (own : String) (idx c j : Nat) : Prop := ∃ (C : String) (T : u_T) (N : Nat), vwCl[c]? = some (C, T, N) ∧ (∀ w ∈ u_ws C T N, w ∈ pv_T) ∧ j < N ∧ Cond.fieldLink own idx (T j).1 (T j).2.1 (T j).2.2.1 ∈ pv_T ∧
  (∀ k, k < N → parseFieldDescriptor (T k).2.2.1 = some (pvTy c k)) ∧ (∀ a, a < N → ∀ b, b < N → a ≠ b → (T a).2.1 ≠ (T b).2.1) ∧ (T j).1 = C
def pvFin (c j : Nat) : Bool := match vwCl[c]? with
  | some q => (q.2.1 j).2.2.2
  | none => false
section PVF
variable {M : pvM} {R : Room} {Z : pvZT} {pc : Nat} {ls st : List Value} {kc kn nx : Nat} {I : pvI} {J : pvJ} {P : pvP}
theorem pv_get {own : String} {idx c j k n : Nat} {v : Value} (hd : decode M.2.1 pc = .ok (.getfield idx, 3)) (hF : pvFd own idx c j) (ho : M.1.cls = own) (hsh : pvSH k = (c + 5, n)) (h1 : 1 ≤ k) (h2 : k ≤ nx) (hj : j < n) (hv : ∀ X, pvval X I J P k (pv_kd (pvTy c j)) j = pvv X v)
    (kk : pvG M R Z (pc + 3) ls (v :: st) kc kn nx I J P) : pvG M R Z pc ls (.ref k :: st) kc kn nx I J P := by
  intro X p l e s m args below meth c0 H locs als hC hL
  obtain ⟨C, T, N, f1, f2, f3, f4, f5, f6, f7⟩ := hF
  have hHd := hC.2.2.2.2.2.2.2.2.2.2.2.1
  refine va_get (own := own) (ref := (T j).1) (C := C) (T := T) (N := N) (ci := c) (index := idx) hC.1 hC.2.1 hC.2.2.2.2.2.2.2.1 f2 (ho ▸ hC.2.2.2.2.2.1) hC.2.2.2.2.2.2.2.2.1 hHd.2.2.2.2 (k - 1) (a := pvad X k) (fs := (List.range n).map (fun j => pvval X I J P k (pv_kd (pvTy c j)) j)) ?_ f1 j f3 (hC.2.2.2.2.2.2.2.1 _ f4) (fun x h => h) (v := pvv X v) ?_ hd (kk X p l e s m args below meth c0 H locs als hC hL)
  · rw [pvat h1 h2 hHd.2.2.1, pvE_o hsh]
  · rw [← hv X]
    simp [hj]
theorem g_getI {own : String} {idx c j k n : Nat} (hd : decode M.2.1 pc = .ok (.getfield idx, 3)) (hF : pvFd own idx c j) (ho : M.1.cls = own) (hsh : pvSH k = (c + 5, n)) (h1 : 1 ≤ k) (h2 : k ≤ nx) (hj : j < n) (hk : pv_kd (pvTy c j) = 0)
    (kk : pvG M R Z (pc + 3) ls (.int (I k j) :: st) kc kn nx I J P) : pvG M R Z pc ls (.ref k :: st) kc kn nx I J P := pv_get hd hF ho hsh h1 h2 hj (fun X => by rw [hk]; rfl) kk
theorem g_getJ {own : String} {idx c j k n : Nat} (hd : decode M.2.1 pc = .ok (.getfield idx, 3)) (hF : pvFd own idx c j) (ho : M.1.cls = own) (hsh : pvSH k = (c + 5, n)) (h1 : 1 ≤ k) (h2 : k ≤ nx) (hj : j < n) (hk : pv_kd (pvTy c j) = 1)
    (kk : pvG M R Z (pc + 3) ls (.long (J k j) :: st) kc kn nx I J P) : pvG M R Z pc ls (.ref k :: st) kc kn nx I J P := pv_get hd hF ho hsh h1 h2 hj (fun X => by rw [hk]; rfl) kk
theorem g_getP {own : String} {idx c j k n a : Nat} (hd : decode M.2.1 pc = .ok (.getfield idx, 3)) (hF : pvFd own idx c j) (ho : M.1.cls = own) (hsh : pvSH k = (c + 5, n)) (h1 : 1 ≤ k) (h2 : k ≤ nx) (hj : j < n) (hk : pv_kd (pvTy c j) = 2) (hp : P k j = some a)
    (kk : pvG M R Z (pc + 3) ls (.ref a :: st) kc kn nx I J P) : pvG M R Z pc ls (.ref k :: st) kc kn nx I J P := pv_get hd hF ho hsh h1 h2 hj (fun X => by rw [hk]; show va_rf ((P k j).map _) = _; rw [hp]; rfl) kk
theorem pv_put {own : String} {idx c j k n : Nat} {v : Value} {I' : pvI} {J' : pvJ} {P' : pvP} (hd : decode M.2.1 pc = .ok (.putfield idx, 3)) (hF : pvFd own idx c j) (ho : M.1.cls = own) (hfin : pvFin c j = true → M.1.name = "<init>" ∧ ∃ C T N, vwCl[c]? = some (C, T, N) ∧ C = own) (hsh : pvSH k = (c + 5, n)) (h1 : 1 ≤ k) (h2 : k ≤ nx) (hj : j < n)
    (hn : ∀ X, narrow (pvTy c j) (pvv X v) = pvv X v) (hfit : ∀ X, fits (pvTy c j) (pvv X v) = true) (hv : ∀ X, pvval X I' J' P' k (pv_kd (pvTy c j)) j = pvv X v) (hov : ∀ X t i, i ≠ j → pvval X I' J' P' k t i = pvval X I J P k t i)
    (hI : ∀ a, a ≠ k → I' a = I a) (hJ : ∀ a, a ≠ k → J' a = J a) (hPP : ∀ a, a ≠ k → P' a = P a) (kk : pvG M R Z (pc + 3) ls st kc kn nx I' J' P') : pvG M R Z pc ls (v :: .ref k :: st) kc kn nx I J P := by
  intro X p l e s m args below meth c0 H locs als hC hL
  obtain ⟨C, T, N, f1, f2, f3, f4, f5, f6, f7⟩ := hF
  obtain ⟨c1, c2, c3, c4, c5, c6, c7, c8, c9, c10, c11, c12, c13⟩ := id hC
  have he : (pvW X nx I J P)[k - 1]? = some (pvad X k, .inr (c, (List.range n).map (fun j => pvval X I J P k (pv_kd (pvTy c j)) j))) := by rw [pvat h1 h2 c12.2.2.1, pvE_o hsh]
  have hD := pvW_D (X := X) (nx := nx) (I := I) (J := J) (P := P)
  have hap := va_apart (own := own) c8 f2 (pvTy c) f5 f6 c9 f1
  obtain ⟨r, r1, cell, q1, q2, q3, q4⟩ := c12.2.2.2.2 (k - 1) _ he
  have hr : r = (C, T, N) := Option.some.inj (r1.symm.trans f1)
  subst hr
  obtain ⟨hSl, hfc, kC, hkC, hkind⟩ := c9.1 c _ f1
  obtain ⟨cf, kf, fi, f, hi, hsl⟩ := hSl j f3
  have hlay := c8 _ (f2 _ (u_in_lay f3))
  unfold u_lay at hlay
  have hst := (u_facts hfc hkC (u_lays c8 f2 f3) hi).1
  have hl : j < ((List.range n).map (fun j => pvval X I J P k (pv_kd (pvTy c j)) j)).length := by simpa using hj
  have fin : ∀ (H' : Heap), H'[pvad X k]? = some (cell.setSlot f.slot (pvv X v)) → H'.size = H.size → (∀ q, q ≠ pvad X k → H'[q]? = H[q]?) → W p l e R s m args below meth c0 H' (locs ++ [⟨pvad X k, f.slot⟩]) kc kn (Z X below args s) (F0 m (pc + 3) als (st.map (pvv X))) := by
    intro H' e1 e2 e3
    rw [hsl] at e1 ⊢
    have hS1 := c11.put (k := (X.2.2.1.2 c) j) e2 e3 (hD.2 (k - 1) _ he)
    refine kk X p l e s m args below meth c0 H' _ als ⟨c1, c2, c3, c4, c5, c6, c7, c8, c9, c10, hS1, ?_, c13⟩ hL
    exact c12.put c10 c11 hS1 (fun _ => e2) h1 h2 (c12.2.2.2.2.set (e := .inr (c, ((List.range n).map (fun j => pvval X I J P k (pv_kd (pvTy c j)) j)).set j (pvv X v))) hD he ⟨_, f1, t_OB.to (V := updV (vp_V ((List.range n).map (fun j => pvval X I J P k (pv_kd (pvTy c j)) j))) j (pvv X v)) ⟨_, e1, q2, q3, t_set q4 hap f3 (pvv X v)⟩ (fun i _ => vp_updV_set hl (pvv X v) i)⟩ e3) (pvE_set hsh hj (hv X) (hov X)) hI hJ hPP
  by_cases hf : (T j).2.2.2 = true
  · rw [if_pos hf] at hlay
    have hff : pvFin c j = true := by simp only [pvFin, f1]; exact hf
    obtain ⟨hnm, C', T', N', h4, h5⟩ := hfin hff
    have hCC : C = own := by
      have := f1.symm.trans h4
      cases this
      exact h5
    have hcf : m.cls = cf := by
      obtain ⟨_, _, c', _, _, _, -, -, hf', -, -, -, hown2, -⟩ := Cond.laysFinal_spec hlay
      have e1 : c' = cf := by have := hi.symm.trans hf'; simp at this; exact this.1.symm
      rw [f7, hCC] at hown2
      rw [← e1]
      exact Option.some.inj ((ho ▸ c6).symm.trans hown2)
    have h6 := u_fits hfc hkC hkind (Or.inr hlay) hi (f5 j f3) (hn X) (hfit X)
    exact W.putFinK c1 c2 (ho ▸ c6) (c8 _ f4) hi hst hcf (c7.trans hnm) (by rw [q2]; exact h6) q1 q3 (by rw [hsl]; exact k2_hasslot (q4 j f3)) rfl rfl hd fin
  · rw [if_neg hf] at hlay
    have h6 := u_store hfc hkC hkind hlay hi (f5 j f3) (hn X) (hfit X)
    exact W.putK c1 c2 (f := f) ⟨ho ▸ c6, c8 _ f4, ⟨_, _, _, hi⟩, hst⟩ (by rw [q2]; exact h6) q1 q3 (by rw [hsl]; exact k2_hasslot (q4 j f3)) rfl rfl hd fin
theorem g_putI {own : String} {idx c j k n : Nat} {x : Int32} (hd : decode M.2.1 pc = .ok (.putfield idx, 3)) (hF : pvFd own idx c j) (ho : M.1.cls = own) (hfin : pvFin c j = true → M.1.name = "<init>" ∧ ∃ C T N, vwCl[c]? = some (C, T, N) ∧ C = own) (hsh : pvSH k = (c + 5, n)) (h1 : 1 ≤ k) (h2 : k ≤ nx) (hj : j < n) (hk : pvTy c j = .int)
    (kk : pvG M R Z (pc + 3) ls st kc kn nx (pvu I k j x) J P) : pvG M R Z pc ls (.int x :: .ref k :: st) kc kn nx I J P :=
  pv_put hd hF ho hfin hsh h1 h2 hj (fun X => by rw [hk]; rfl) (fun X => by rw [hk]; rfl) (fun X => by rw [hk]; show Value.int (pvu I k j x k j) = _; simp [pvu, upd, pvv]) (fun X t i h => pvval_u t i h) (fun a h => pvu_ne h) (fun a h => rfl) (fun a h => rfl) kk
theorem g_putZ {own : String} {idx c j k n : Nat} {x : Int32} (hx : x = 0 ∨ x = 1) (hd : decode M.2.1 pc = .ok (.putfield idx, 3)) (hF : pvFd own idx c j) (ho : M.1.cls = own) (hfin : pvFin c j = true → M.1.name = "<init>" ∧ ∃ C T N, vwCl[c]? = some (C, T, N) ∧ C = own) (hsh : pvSH k = (c + 5, n)) (h1 : 1 ≤ k) (h2 : k ≤ nx) (hj : j < n) (hk : pvTy c j = .boolean)
    (kk : pvG M R Z (pc + 3) ls st kc kn nx (pvu I k j x) J P) : pvG M R Z pc ls (.int x :: .ref k :: st) kc kn nx I J P :=
  pv_put hd hF ho hfin hsh h1 h2 hj (fun X => by rw [hk]; rcases hx with rfl | rfl <;> rfl) (fun X => by rw [hk]; rcases hx with rfl | rfl <;> rfl) (fun X => by rw [hk]; show Value.int (pvu I k j x k j) = _; simp [pvu, upd, pvv]) (fun X t i h => pvval_u t i h) (fun a h => pvu_ne h) (fun a h => rfl) (fun a h => rfl) kk
theorem g_putJ {own : String} {idx c j k n : Nat} {x : Int64} (hd : decode M.2.1 pc = .ok (.putfield idx, 3)) (hF : pvFd own idx c j) (ho : M.1.cls = own) (hfin : pvFin c j = true → M.1.name = "<init>" ∧ ∃ C T N, vwCl[c]? = some (C, T, N) ∧ C = own) (hsh : pvSH k = (c + 5, n)) (h1 : 1 ≤ k) (h2 : k ≤ nx) (hj : j < n) (hk : pvTy c j = .long)
    (kk : pvG M R Z (pc + 3) ls st kc kn nx I (pvuJ J k j x) P) : pvG M R Z pc ls (.long x :: .ref k :: st) kc kn nx I J P :=
  pv_put hd hF ho hfin hsh h1 h2 hj (fun X => by rw [hk]; rfl) (fun X => by rw [hk]; rfl) (fun X => by rw [hk]; show Value.long (pvuJ J k j x k j) = _; simp [pvuJ, vp_updL, pvv]) (fun X t i h => pvval_uJ t i h) (fun a h => rfl) (fun a h => pvuJ_ne h) (fun a h => rfl) kk
theorem g_putP {own : String} {idx c j k n a : Nat} {ty : FieldType} (hd : decode M.2.1 pc = .ok (.putfield idx, 3)) (hF : pvFd own idx c j) (ho : M.1.cls = own) (hfin : pvFin c j = true → M.1.name = "<init>" ∧ ∃ C T N, vwCl[c]? = some (C, T, N) ∧ C = own) (hsh : pvSH k = (c + 5, n)) (h1 : 1 ≤ k) (h2 : k ≤ nx) (hj : j < n) (hk : pvTy c j = ty) (hr : (∃ C, ty = .object C) ∨ ∃ t, ty = .array t)
    (kk : pvG M R Z (pc + 3) ls st kc kn nx I J (pvuP P k j (some a))) : pvG M R Z pc ls (.ref a :: .ref k :: st) kc kn nx I J P :=
  pv_put hd hF ho hfin hsh h1 h2 hj (fun X => by rw [hk]; rcases hr with ⟨C, rfl⟩ | ⟨t, rfl⟩ <;> rfl) (fun X => by rw [hk]; rcases hr with ⟨C, rfl⟩ | ⟨t, rfl⟩ <;> rfl) (fun X => by rw [hk]; rcases hr with ⟨C, rfl⟩ | ⟨t, rfl⟩ <;> (show va_rf ((pvuP P k j (some a) k j).map (pvad X)) = _; simp [pvuP, va_up, va_rf, pvv])) (fun X t i h => pvval_uP t i h) (fun a h => rfl) (fun a h => rfl) (fun a h => pvuP_ne h) kk
end PVF
section PVA
variable {M : pvM} {R : Room} {Z : pvZT} {pc : Nat} {ls st : List Value} {kc kn nx : Nat} {I : pvI} {J : pvJ} {P : pvP}
theorem pv_ix {i : Int32} {ix n : Nat} (hix : i = nI ix) (hlt : ix < n) (hn : n ≤ 100000) : vp_in i n ∧ i.toNatClampNeg = ix := by
  subst hix
  exact ⟨vp_in_nI hlt (by omega), nI_clamp (by omega)⟩
theorem g_iald {k n : Nat} {i : Int32} (ix : Nat) (hd : decode M.2.1 pc = .ok (.iaload, 1)) (hsh : pvSH k = (0, n)) (h1 : 1 ≤ k) (h2 : k ≤ nx) (hn : n ≤ 100000) (hix : i = nI ix) (hlt : ix < n) (kk : pvG M R Z (pc + 1) ls (.int (I k ix) :: st) kc kn nx I J P) : pvG M R Z pc ls (.int i :: .ref k :: st) kc kn nx I J P := by
  intro X p l e s m args below meth c0 H locs als hC hL
  have hHd := hC.2.2.2.2.2.2.2.2.2.2.2.1
  obtain ⟨g1, g2⟩ := pv_ix hix hlt hn
  refine va_iald (a := pvad X k) hC.1 hC.2.1 hC.2.2.2.2.2.2.2.2.1 hHd.2.2.2.2 (k - 1) 0 (f := I k) (n := n) (cA := X.2.2.2.1 0) (by rw [pvat h1 h2 hHd.2.2.1, pvE_i hsh]) rfl g1 hd ?_
  rw [g2]
  exact kk X p l e s m args below meth c0 H locs als hC hL
theorem g_zald {k n : Nat} {i : Int32} (ix : Nat) (hd : decode M.2.1 pc = .ok (.baload, 1)) (hsh : pvSH k = (2, n)) (h1 : 1 ≤ k) (h2 : k ≤ nx) (hn : n ≤ 100000) (hix : i = nI ix) (hlt : ix < n) (kk : pvG M R Z (pc + 1) ls (.int (I k ix) :: st) kc kn nx I J P) : pvG M R Z pc ls (.int i :: .ref k :: st) kc kn nx I J P := by
  intro X p l e s m args below meth c0 H locs als hC hL
  have hHd := hC.2.2.2.2.2.2.2.2.2.2.2.1
  obtain ⟨g1, g2⟩ := pv_ix hix hlt hn
  refine va_zald (a := pvad X k) hC.1 hC.2.1 hC.2.2.2.2.2.2.2.2.1 hHd.2.2.2.2 (k - 1) 2 (f := I k) (n := n) (cA := X.2.2.2.1 2) (by rw [pvat h1 h2 hHd.2.2.1, pvE_z hsh]) rfl g1 hd ?_
  rw [g2]
  exact kk X p l e s m args below meth c0 H locs als hC hL
theorem g_lald {k n : Nat} {i : Int32} (ix : Nat) (hd : decode M.2.1 pc = .ok (.laload, 1)) (hsh : pvSH k = (1, n)) (h1 : 1 ≤ k) (h2 : k ≤ nx) (hn : n ≤ 100000) (hix : i = nI ix) (hlt : ix < n) (kk : pvG M R Z (pc + 1) ls (.long (J k ix) :: st) kc kn nx I J P) : pvG M R Z pc ls (.int i :: .ref k :: st) kc kn nx I J P := by
  intro X p l e s m args below meth c0 H locs als hC hL
  have hHd := hC.2.2.2.2.2.2.2.2.2.2.2.1
  obtain ⟨g1, g2⟩ := pv_ix hix hlt hn
  refine va_lald (a := pvad X k) hC.1 hC.2.1 hC.2.2.2.2.2.2.2.2.1 hHd.2.2.2.2 (k - 1) 1 (f := J k) (n := n) (cA := X.2.2.2.1 1) (by rw [pvat h1 h2 hHd.2.2.1, pvE_l hsh]) rfl g1 hd ?_
  rw [g2]
  exact kk X p l e s m args below meth c0 H locs als hC hL
theorem g_aald {k n a : Nat} {i : Int32} (ix : Nat) (hd : decode M.2.1 pc = .ok (.aaload, 1)) (hsh : pvSH k = (3, n) ∨ pvSH k = (4, n)) (h1 : 1 ≤ k) (h2 : k ≤ nx) (hn : n ≤ 100000) (hix : i = nI ix) (hlt : ix < n) (hp : P k ix = some a) (kk : pvG M R Z (pc + 1) ls (.ref a :: st) kc kn nx I J P) : pvG M R Z pc ls (.int i :: .ref k :: st) kc kn nx I J P := by
  intro X p l e s m args below meth c0 H locs als hC hL
  have hHd := hC.2.2.2.2.2.2.2.2.2.2.2.1
  obtain ⟨g1, g2⟩ := pv_ix hix hlt hn
  have hk := kk X p l e s m args below meth c0 H locs als hC hL
  rcases hsh with hsh | hsh
  · refine va_aldq (a := pvad X k) (C := "SeamFire$Fire") hC.1 hC.2.1 hC.2.2.2.2.2.2.2.2.1 hHd.2.2.2.2 (k - 1) 3 (f := fun i => (P k i).map (pvad X)) (n := n) (cA := X.2.2.2.1 3) (by rw [pvat h1 h2 hHd.2.2.1, pvE_f hsh]) rfl g1 hd ?_
    rw [g2, hp]
    exact hk
  · refine va_aldq (a := pvad X k) (C := "SeamFire$Act") hC.1 hC.2.1 hC.2.2.2.2.2.2.2.2.1 hHd.2.2.2.2 (k - 1) 4 (f := fun i => (P k i).map (pvad X)) (n := n) (cA := X.2.2.2.1 4) (by rw [pvat h1 h2 hHd.2.2.1, pvE_a hsh]) rfl g1 hd ?_
    rw [g2, hp]
    exact hk
theorem g_alen {k n : Nat} (hd : decode M.2.1 pc = .ok (.arraylength, 1)) (hsh : pvSH k = (0, n)) (h1 : 1 ≤ k) (h2 : k ≤ nx) (kk : pvG M R Z (pc + 1) ls (.int (nI n) :: st) kc kn nx I J P) : pvG M R Z pc ls (.ref k :: st) kc kn nx I J P := by
  intro X p l e s m args below meth c0 H locs als hC hL
  have hHd := hC.2.2.2.2.2.2.2.2.2.2.2.1
  exact va_alen (a := pvad X k) hC.1 hC.2.1 hC.2.2.2.2.2.2.2.2.1 hHd.2.2.2.2 (k - 1) 0 (x := (n, .inl (I k))) (cA := X.2.2.2.1 0) (by rw [pvat h1 h2 hHd.2.2.1, pvE_i hsh]) rfl rfl hd (kk X p l e s m args below meth c0 H locs als hC hL)
theorem g_iast {k n : Nat} {i x : Int32} (ix : Nat) (hd : decode M.2.1 pc = .ok (.iastore, 1)) (hsh : pvSH k = (0, n)) (h1 : 1 ≤ k) (h2 : k ≤ nx) (h3 : 224 ≤ nx) (hn : n ≤ 100000) (hix : i = nI ix) (hlt : ix < n) (kk : pvG M R Z (pc + 1) ls st kc kn nx (pvu I k ix x) J P) : pvG M R Z pc ls (.int x :: .int i :: .ref k :: st) kc kn nx I J P := by
  intro X p l e s m args below meth c0 H locs als hC hL
  obtain ⟨c1, c2, c3, c4, c5, c6, c7, c8, c9, c10, c11, c12, c13⟩ := id hC
  obtain ⟨g1, g2⟩ := pv_ix hix hlt hn
  refine va_iast (a := pvad X k) c1 c2 c9 c12.2.2.2.2 pvW_D c11 (k - 1) 0 (f := I k) (n := n) (cA := X.2.2.2.1 0) (by rw [pvat h1 h2 c12.2.2.1, pvE_i hsh]) rfl g1 hd (fun H1 locs1 hP hD hS => ?_)
  rw [g2] at hP
  exact kk X p l e s m args below meth c0 H1 locs1 als ⟨c1, c2, c3, c4, c5, c6, c7, c8, c9, c10, hS, c12.put c10 c11 hS (fun h => by omega) h1 h2 hP (by rw [pvE_i hsh, pvu_eq]) (fun a h => pvu_ne h) (fun a h => rfl) (fun a h => rfl), c13⟩ hL
theorem g_zast {k n : Nat} {i x : Int32} (ix : Nat) (hx : x = 0 ∨ x = 1) (hd : decode M.2.1 pc = .ok (.bastore, 1)) (hsh : pvSH k = (2, n)) (h1 : 1 ≤ k) (h2 : k ≤ nx) (h3 : 224 ≤ nx) (hn : n ≤ 100000) (hix : i = nI ix) (hlt : ix < n) (kk : pvG M R Z (pc + 1) ls st kc kn nx (pvu I k ix x) J P) : pvG M R Z pc ls (.int x :: .int i :: .ref k :: st) kc kn nx I J P := by
  intro X p l e s m args below meth c0 H locs als hC hL
  obtain ⟨c1, c2, c3, c4, c5, c6, c7, c8, c9, c10, c11, c12, c13⟩ := id hC
  obtain ⟨g1, g2⟩ := pv_ix hix hlt hn
  have hxx : vp_nar .boolean x = x := by rcases hx with rfl | rfl <;> rfl
  refine va_zast (a := pvad X k) c1 c2 c9 c12.2.2.2.2 pvW_D c11 (k - 1) 2 (f := I k) (n := n) (cA := X.2.2.2.1 2) (by rw [pvat h1 h2 c12.2.2.1, pvE_z hsh]) rfl g1 hd (fun H1 locs1 hP hD hS => ?_)
  rw [g2, hxx] at hP
  exact kk X p l e s m args below meth c0 H1 locs1 als ⟨c1, c2, c3, c4, c5, c6, c7, c8, c9, c10, hS, c12.put c10 c11 hS (fun h => by omega) h1 h2 hP (by rw [pvE_z hsh, pvu_eq]) (fun a h => pvu_ne h) (fun a h => rfl) (fun a h => rfl), c13⟩ hL
theorem g_last {k n : Nat} {i : Int32} {x : Int64} (ix : Nat) (hd : decode M.2.1 pc = .ok (.lastore, 1)) (hsh : pvSH k = (1, n)) (h1 : 1 ≤ k) (h2 : k ≤ nx) (h3 : 224 ≤ nx) (hn : n ≤ 100000) (hix : i = nI ix) (hlt : ix < n) (kk : pvG M R Z (pc + 1) ls st kc kn nx I (pvuJ J k ix x) P) : pvG M R Z pc ls (.long x :: .int i :: .ref k :: st) kc kn nx I J P := by
  intro X p l e s m args below meth c0 H locs als hC hL
  obtain ⟨c1, c2, c3, c4, c5, c6, c7, c8, c9, c10, c11, c12, c13⟩ := id hC
  obtain ⟨g1, g2⟩ := pv_ix hix hlt hn
  refine va_last (a := pvad X k) c1 c2 c9 c12.2.2.2.2 pvW_D c11 (k - 1) 1 (f := J k) (n := n) (cA := X.2.2.2.1 1) (by rw [pvat h1 h2 c12.2.2.1, pvE_l hsh]) rfl g1 hd (fun H1 locs1 hP hD hS => ?_)
  rw [g2] at hP
  exact kk X p l e s m args below meth c0 H1 locs1 als ⟨c1, c2, c3, c4, c5, c6, c7, c8, c9, c10, hS, c12.put c10 c11 hS (fun h => by omega) h1 h2 hP (by rw [pvE_l hsh, pvuJ_eq]) (fun a h => rfl) (fun a h => pvuJ_ne h) (fun a h => rfl), c13⟩ hL
end PVA
