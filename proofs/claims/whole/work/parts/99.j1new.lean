/-! objects and arrays are made -/
theorem ac_int : Cond.arrayClass .int ∈ pv_T := pv_in (List.mem_of_getElem? (i := 225) (by decide +kernel)) rfl
theorem ac_long : Cond.arrayClass .long ∈ pv_T := pv_in (List.mem_of_getElem? (i := 226) (by decide +kernel)) rfl
theorem ac_bool : Cond.arrayClass .boolean ∈ pv_T := pv_in (List.mem_of_getElem? (i := 640) (by decide +kernel)) rfl
theorem oi_inst : Cond.instanceMethod Lib.objectInit ∈ pv_T := pv_in (List.mem_of_getElem? (i := 128) (by decide +kernel)) rfl
theorem oi_code : Cond.code Lib.objectInit ⟨#[0xb1]⟩ 1 none ∈ pv_T := pv_in (List.mem_of_getElem? (i := 129) (by decide +kernel)) rfl
theorem loX11_1 : Cond.methodLink RX11 1 Lib.objectInit ∈ pv_T := pv_in (List.mem_of_getElem? (i := 127) (by decide +kernel)) rfl
theorem loX2_1 : Cond.methodLink RX2 1 Lib.objectInit ∈ pv_T := pv_in (List.mem_of_getElem? (i := 141) (by decide +kernel)) rfl
theorem loX10_1 : Cond.methodLink RX10 1 Lib.objectInit ∈ pv_T := pv_in (List.mem_of_getElem? (i := 171) (by decide +kernel)) rfl
theorem loX3_3 : Cond.methodLink RX3 3 Lib.objectInit ∈ pv_T := pv_in (List.mem_of_getElem? (i := 177) (by decide +kernel)) rfl
theorem loX9_3 : Cond.methodLink RX9 3 Lib.objectInit ∈ pv_T := pv_in (List.mem_of_getElem? (i := 232) (by decide +kernel)) rfl
theorem loX4_3 : Cond.methodLink RX4 3 Lib.objectInit ∈ pv_T := pv_in (List.mem_of_getElem? (i := 281) (by decide +kernel)) rfl
theorem loX7_3 : Cond.methodLink RX7 3 Lib.objectInit ∈ pv_T := pv_in (List.mem_of_getElem? (i := 320) (by decide +kernel)) rfl
theorem loX5_1 : Cond.methodLink RX5 1 Lib.objectInit ∈ pv_T := pv_in (List.mem_of_getElem? (i := 382) (by decide +kernel)) rfl
theorem loX8_3 : Cond.methodLink RX8 3 Lib.objectInit ∈ pv_T := pv_in (List.mem_of_getElem? (i := 409) (by decide +kernel)) rfl
theorem loX1_3 : Cond.methodLink RX1 3 Lib.objectInit ∈ pv_T := pv_in (List.mem_of_getElem? (i := 479) (by decide +kernel)) rfl
theorem loX6_3 : Cond.methodLink RX6 3 Lib.objectInit ∈ pv_T := pv_in (List.mem_of_getElem? (i := 538) (by decide +kernel)) rfl
theorem loX0_3 : Cond.methodLink RX0 3 Lib.objectInit ∈ pv_T := pv_in (List.mem_of_getElem? (i := 585) (by decide +kernel)) rfl
theorem loX12_1 : Cond.methodLink RX12 1 Lib.objectInit ∈ pv_T := pv_in (List.mem_of_getElem? (i := 1335) (by decide +kernel)) rfl
section NEW
variable {M : pvM} {R : Room} {Z : pvZT} {pc : Nat} {ls st : List Value} {kc kn nx : Nat} {I : pvI} {J : pvJ} {P : pvP}
theorem g_objInit {idx a : Nat} (hd : decode M.2.1 pc = .ok (.invokespecial idx, 3)) (hlk : Cond.methodLink M.1.cls idx Lib.objectInit ∈ pv_T) (hfr : 1 ≤ R.frames) (hlo : (st.map fun v => v.category).sum + 12 ≤ R.locals) (kk : pvG M R Z (pc + 3) ls st kc kn nx I J P) : pvG M R Z pc ls (.ref a :: st) kc kn nx I J P := by
  intro X p l e s m args below meth c0 H locs als hC hL
  obtain ⟨c1, c2, c3, c4, c5, c6, c7, c8, c9, c10, c11, c12, c13⟩ := id hC
  exact W.objInit c1 c2 c6 (c8 _ hlk) (c8 _ oi_inst) (c8 _ oi_code) rfl (hL.1.trans c3.symm) rfl hd hfr (by show 2 * 0 + _ + 12 ≤ _; rw [pv_mapcat]; omega) (kk X p l e s m args below meth c0 H locs als hC hL)
theorem pvHd.grow {X : pvX} {s : State} {H H1 : Heap} {locs : List Loc} (h : pvHd X nx I J P s H) (hn : nx < 224) (hB : X.2.1 ≤ s.heap.size) (hS : va_S (pvFree X) s.heap H locs) (hz : H1.size = H.size + 1) (ho : ∀ q, q < H.size → H1[q]? = H[q]?) (ha : va_at X.2.2.1 vwCl (X.2.1 + nx, pvE X I J P (nx + 1)) H1) : pvHd X (nx + 1) I J P s H1 := by
  obtain ⟨g1, g2, g3, g4, g5⟩ := h
  have hH := g1 hn
  have h1 := hS.1
  refine ⟨fun _ => by rw [hz, hH]; omega, g2, by omega, g4.kept (ho X.1 (by omega)), ?_⟩
  have e : pvW X (nx + 1) I J P = pvW X nx I J P ++ [(X.2.1 + nx, pvE X I J P (nx + 1))] := by
    unfold pvW
    rw [List.range_succ, List.map_append]
    rfl
  rw [e]
  exact (g5.kept (fun k q hk => ho q.1 ((g5 k q hk).lt))).app (fun k x hx => by
    have hk : k < 1 := (List.getElem?_eq_some_iff.mp hx).1
    rw [show k = 0 by omega] at hx
    cases hx
    exact ha)
theorem pv_S1 {X : pvX} {s : State} {H H1 : Heap} {locs : List Loc} (hS : va_S (pvFree X) s.heap H locs) (hz : H1.size = H.size + 1) (ho : ∀ q, q < H.size → H1[q]? = H[q]?) : va_S (pvFree X) s.heap H1 locs := ⟨Nat.le_trans hS.1 (by omega), fun x h1 h2 => (ho x (Nat.lt_of_lt_of_le h1 hS.1)).trans (hS.2.1 x h1 h2), hS.2.2⟩
theorem g_newI {n : Nat} (hd : decode M.2.1 pc = .ok (.newarray .int, 2)) (hsh : pvSH (nx + 1) = (0, n)) (hn : n ≤ 100000) (hx : nx < 224) (hz : I (nx + 1) = fun _ => 0) (hc : kc + 1 ≤ R.cells) (hs : kn + n ≤ R.slots) (kk : pvG M R Z (pc + 2) ls (.ref (nx + 1) :: st) (kc + 1) (kn + n) (nx + 1) I J P) : pvG M R Z pc ls (.int (nI n) :: st) kc kn nx I J P := by
  intro X p l e s m args below meth c0 H locs als hC hL
  obtain ⟨c1, c2, c3, c4, c5, c6, c7, c8, c9, c10, c11, c12, c13⟩ := id hC
  have hH : H.size = X.2.1 + nx := c12.1 hx
  refine va_newaK c1 c2 (atype := .int) (c8 _ ac_int) rfl hd rfl (nI_pos (by omega)) (nI_clamp (by omega)) (by show n * 4 ≤ _; omega) hc hs rfl fun H1 cA e1 z1 o1 hAr hNm => ?_
  have hcA : cA = X.2.2.2.1 0 := Option.some.inj (hNm.symm.trans (c9.2 0 _ rfl).2)
  subst hcA
  have hg := c12.grow hx c10 c11 z1 o1 (by rw [pvE_i hsh, hz, ← hH]; exact e1)
  have := kk X p l e s m args below meth c0 H1 locs als ⟨c1, c2, c3, c4, c5, c6, c7, c8, c9, c10, pv_S1 c11 z1 o1, hg, c13⟩ hL
  have ea : pvad X (nx + 1) = H.size := by rw [pvad_pos (by omega), hH]
  show W p l e R s m args below meth c0 H1 locs (kc + 1) (kn + n) (Z X below args s) (F0 m (pc + 2) als (.ref H.size :: st.map (pvv X)))
  rw [← ea]
  exact this
theorem g_newJ {n : Nat} (hd : decode M.2.1 pc = .ok (.newarray .long, 2)) (hsh : pvSH (nx + 1) = (1, n)) (hn : n ≤ 100000) (hx : nx < 224) (hz : J (nx + 1) = fun _ => 0) (hc : kc + 1 ≤ R.cells) (hs : kn + n ≤ R.slots) (kk : pvG M R Z (pc + 2) ls (.ref (nx + 1) :: st) (kc + 1) (kn + n) (nx + 1) I J P) : pvG M R Z pc ls (.int (nI n) :: st) kc kn nx I J P := by
  intro X p l e s m args below meth c0 H locs als hC hL
  obtain ⟨c1, c2, c3, c4, c5, c6, c7, c8, c9, c10, c11, c12, c13⟩ := id hC
  have hH : H.size = X.2.1 + nx := c12.1 hx
  refine va_newaK c1 c2 (atype := .long) (c8 _ ac_long) rfl hd rfl (nI_pos (by omega)) (nI_clamp (by omega)) (by show n * 8 ≤ _; omega) hc hs rfl fun H1 cA e1 z1 o1 hAr hNm => ?_
  have hcA : cA = X.2.2.2.1 1 := Option.some.inj (hNm.symm.trans (c9.2 1 _ rfl).2)
  subst hcA
  have hg := c12.grow hx c10 c11 z1 o1 (by rw [pvE_l hsh, hz, ← hH]; exact e1)
  have := kk X p l e s m args below meth c0 H1 locs als ⟨c1, c2, c3, c4, c5, c6, c7, c8, c9, c10, pv_S1 c11 z1 o1, hg, c13⟩ hL
  have ea : pvad X (nx + 1) = H.size := by rw [pvad_pos (by omega), hH]
  show W p l e R s m args below meth c0 H1 locs (kc + 1) (kn + n) (Z X below args s) (F0 m (pc + 2) als (.ref H.size :: st.map (pvv X)))
  rw [← ea]
  exact this
theorem g_newZ {n : Nat} (hd : decode M.2.1 pc = .ok (.newarray .boolean, 2)) (hsh : pvSH (nx + 1) = (2, n)) (hn : n ≤ 100000) (hx : nx < 224) (hz : I (nx + 1) = fun _ => 0) (hc : kc + 1 ≤ R.cells) (hs : kn + n ≤ R.slots) (kk : pvG M R Z (pc + 2) ls (.ref (nx + 1) :: st) (kc + 1) (kn + n) (nx + 1) I J P) : pvG M R Z pc ls (.int (nI n) :: st) kc kn nx I J P := by
  intro X p l e s m args below meth c0 H locs als hC hL
  obtain ⟨c1, c2, c3, c4, c5, c6, c7, c8, c9, c10, c11, c12, c13⟩ := id hC
  have hH : H.size = X.2.1 + nx := c12.1 hx
  refine va_newaK c1 c2 (atype := .boolean) (c8 _ ac_bool) rfl hd rfl (nI_pos (by omega)) (nI_clamp (by omega)) (by show n * 1 ≤ _; omega) hc hs rfl fun H1 cA e1 z1 o1 hAr hNm => ?_
  have hcA : cA = X.2.2.2.1 2 := Option.some.inj (hNm.symm.trans (c9.2 2 _ rfl).2)
  subst hcA
  have hg := c12.grow hx c10 c11 z1 o1 (by rw [pvE_z hsh, hz, ← hH]; exact e1)
  have := kk X p l e s m args below meth c0 H1 locs als ⟨c1, c2, c3, c4, c5, c6, c7, c8, c9, c10, pv_S1 c11 z1 o1, hg, c13⟩ hL
  have ea : pvad X (nx + 1) = H.size := by rw [pvad_pos (by omega), hH]
  show W p l e R s m args below meth c0 H1 locs (kc + 1) (kn + n) (Z X below args s) (F0 m (pc + 2) als (.ref H.size :: st.map (pvv X)))
  rw [← ea]
  exact this
/-- what the making of an object needs -/
def pvNw (own : String) (idx c n : Nat) : Prop := ∃ (C : String) (T : u_T), vwCl[c]? = some (C, T, n) ∧ (∀ w ∈ u_ws C T n, w ∈ pv_T) ∧ (∀ k, k < n → parseFieldDescriptor (T k).2.2.1 = some (pvTy c k)) ∧ Cond.classLink own idx C ∈ pv_T ∧ Cond.instantiable C n ∈ pv_T ∧ Cond.initialized C ∈ pv_T
theorem pvNw_of {own own' : String} {idx idx' c j n : Nat} (hF : pvFd own' idx' c j) (h : ∀ C T N, vwCl[c]? = some (C, T, N) → N = n ∧ Cond.classLink own idx C ∈ pv_T ∧ Cond.instantiable C N ∈ pv_T ∧ Cond.initialized C ∈ pv_T) : pvNw own idx c n := by
  obtain ⟨C, T, N, f1, f2, f3, f4, f5, f6, f7⟩ := hF
  obtain ⟨rfl, h2, h3, h4⟩ := h C T N f1
  exact ⟨C, T, f1, f2, f5, h2, h3, h4⟩
def kdOk (t : FieldType) : Bool := match t with
  | .int => true | .boolean => true | .long => true | .object _ => true | .array _ => true | _ => false
theorem g_new {own : String} {idx c n : Nat} (hd : decode M.2.1 pc = .ok (.new idx, 3)) (hN : pvNw own idx c n) (hk : ∀ j, j < n → kdOk (pvTy c j) = true) (ho : M.1.cls = own) (hsh : pvSH (nx + 1) = (c + 5, n)) (hx : nx < 224) (hzI : I (nx + 1) = fun _ => 0) (hzJ : J (nx + 1) = fun _ => 0) (hzP : P (nx + 1) = fun _ => none) (hc : kc + 1 ≤ R.cells) (hs : kn + n ≤ R.slots) (kk : pvG M R Z (pc + 3) ls (.ref (nx + 1) :: st) (kc + 1) (kn + n) (nx + 1) I J P) : pvG M R Z pc ls st kc kn nx I J P := by
  intro X p l e s m args below meth c0 H locs als hC hL
  obtain ⟨c1, c2, c3, c4, c5, c6, c7, c8, c9, c10, c11, c12, c13⟩ := id hC
  obtain ⟨C, T, f1, f2, f5, w1, w2, w3⟩ := hN
  have hH : H.size = X.2.1 + nx := c12.1 hx
  have hKn := c9.1 c _ f1
  refine W.newcK c1 c2 (ho ▸ c6) (c8 _ w1) (c8 _ w2) (c8 _ w3) rfl hd hc hs hKn.2.1 rfl fun H1 kC hkC e1 z1 o1 => ?_
  have hg := c12.grow hx c10 c11 z1 o1 (by
    rw [pvE_o hsh, ← hH]
    refine ⟨_, f1, (u_born (pvTy c) c8 f2 hKn hkC e1 f5).to (fun j hj => ?_)⟩
    have hj' : j < n := hj
    have hkj := hk j hj'
    show defaultValue (pvTy c j) = vp_V ((List.range n).map (fun j => pvval X I J P (nx + 1) (pv_kd (pvTy c j)) j)) j
    have ev : vp_V ((List.range n).map (fun j => pvval X I J P (nx + 1) (pv_kd (pvTy c j)) j)) j = pvval X I J P (nx + 1) (pv_kd (pvTy c j)) j := by simp [vp_V, hj']
    rw [ev]
    unfold pvval
    rw [hzI, hzJ, hzP]
    cases ht : pvTy c j <;> rw [ht] at hkj <;> first | rfl | (exact absurd hkj (by decide)))
  have := kk X p l e s m args below meth c0 H1 locs als ⟨c1, c2, c3, c4, c5, c6, c7, c8, c9, c10, pv_S1 c11 z1 o1, hg, c13⟩ hL
  have ea : pvad X (nx + 1) = H.size := by rw [pvad_pos (by omega), hH]
  show W p l e R s m args below meth c0 H1 locs (kc + 1) (kn + n) (Z X below args s) (F0 m (pc + 3) als (.ref H.size :: st.map (pvv X)))
  rw [← ea]
  exact this
theorem g_anewF {idx n : Nat} (hd : decode M.2.1 pc = .ok (.anewarray idx, 3)) (hlk : Cond.classLink M.1.cls idx "SeamFire$Fire" ∈ pv_T) (hsh : pvSH (nx + 1) = (3, n)) (hn : n ≤ 100000) (hx : nx < 224) (hz : P (nx + 1) = fun _ => none) (hc : kc + 1 ≤ R.cells) (hs : kn + n ≤ R.slots) (kk : pvG M R Z (pc + 3) ls (.ref (nx + 1) :: st) (kc + 1) (kn + n) (nx + 1) I J P) : pvG M R Z pc ls (.int (nI n) :: st) kc kn nx I J P := by
  intro X p l e s m args below meth c0 H locs als hC hL
  obtain ⟨c1, c2, c3, c4, c5, c6, c7, c8, c9, c10, c11, c12, c13⟩ := id hC
  have hH : H.size = X.2.1 + nx := c12.1 hx
  have hcl : (nI n).toNatClampNeg = n := nI_clamp (by omega)
  refine W.anew c1 c2 c6 (c8 _ hlk) (va_AO.use c13.2.2.2.2.2.1) rfl hd rfl (nI_pos (by omega)) (by rw [hcl]; omega) hc (by rw [hcl]; exact hs) fun cA kA comp f1 f2 f3 f4 => ?_
  obtain ⟨kA', comp', -, -, -, r4⟩ := (c9.2 3 _ rfl).2
  have hcA : cA = X.2.2.2.1 3 := Option.some.inj (f1.symm.trans r4)
  subst hcA
  rw [hcl]
  generalize hH1 : H.push ({ cls := X.2.2.2.1 3, slots := Array.replicate n .null, vm := .none } : Cell) = H1
  have z1 : H1.size = H.size + 1 := by rw [← hH1, Array.size_push]
  have e1 : H1[H.size]? = some (arrV (X.2.2.2.1 3) n (fun _ => .null)) := by rw [← hH1, Array.getElem?_push_size, ← arrV_new]
  have o1 : ∀ q : Nat, q < H.size → H1[q]? = H[q]? := fun q hq => by rw [← hH1, Array.getElem?_push, if_neg (Nat.ne_of_lt hq)]
  have hg := c12.grow hx c10 c11 z1 o1 (by rw [pvE_f hsh, hz, ← hH]; exact e1)
  have := kk X p l e s m args below meth c0 H1 locs als ⟨c1, c2, c3, c4, c5, c6, c7, c8, c9, c10, pv_S1 c11 z1 o1, hg, c13⟩ hL
  have ea : pvad X (nx + 1) = H.size := by rw [pvad_pos (by omega), hH]
  show W p l e R s m args below meth c0 H1 locs (kc + 1) (kn + n) (Z X below args s) (F0 m (pc + 3) als (.ref H.size :: st.map (pvv X)))
  rw [← ea]
  exact this
theorem g_anewA {idx n : Nat} (hd : decode M.2.1 pc = .ok (.anewarray idx, 3)) (hlk : Cond.classLink M.1.cls idx "SeamFire$Act" ∈ pv_T) (hsh : pvSH (nx + 1) = (4, n)) (hn : n ≤ 100000) (hx : nx < 224) (hz : P (nx + 1) = fun _ => none) (hc : kc + 1 ≤ R.cells) (hs : kn + n ≤ R.slots) (kk : pvG M R Z (pc + 3) ls (.ref (nx + 1) :: st) (kc + 1) (kn + n) (nx + 1) I J P) : pvG M R Z pc ls (.int (nI n) :: st) kc kn nx I J P := by
  intro X p l e s m args below meth c0 H locs als hC hL
  obtain ⟨c1, c2, c3, c4, c5, c6, c7, c8, c9, c10, c11, c12, c13⟩ := id hC
  have hH : H.size = X.2.1 + nx := c12.1 hx
  have hcl : (nI n).toNatClampNeg = n := nI_clamp (by omega)
  refine W.anew c1 c2 c6 (c8 _ hlk) (va_AO.use c13.2.2.2.2.2.2) rfl hd rfl (nI_pos (by omega)) (by rw [hcl]; omega) hc (by rw [hcl]; exact hs) fun cA kA comp f1 f2 f3 f4 => ?_
  obtain ⟨kA', comp', -, -, -, r4⟩ := (c9.2 4 _ rfl).2
  have hcA : cA = X.2.2.2.1 4 := Option.some.inj (f1.symm.trans r4)
  subst hcA
  rw [hcl]
  generalize hH1 : H.push ({ cls := X.2.2.2.1 4, slots := Array.replicate n .null, vm := .none } : Cell) = H1
  have z1 : H1.size = H.size + 1 := by rw [← hH1, Array.size_push]
  have e1 : H1[H.size]? = some (arrV (X.2.2.2.1 4) n (fun _ => .null)) := by rw [← hH1, Array.getElem?_push_size, ← arrV_new]
  have o1 : ∀ q : Nat, q < H.size → H1[q]? = H[q]? := fun q hq => by rw [← hH1, Array.getElem?_push, if_neg (Nat.ne_of_lt hq)]
  have hg := c12.grow hx c10 c11 z1 o1 (by rw [pvE_a hsh, hz, ← hH]; exact e1)
  have := kk X p l e s m args below meth c0 H1 locs als ⟨c1, c2, c3, c4, c5, c6, c7, c8, c9, c10, pv_S1 c11 z1 o1, hg, c13⟩ hL
  have ea : pvad X (nx + 1) = H.size := by rw [pvad_pos (by omega), hH]
  show W p l e R s m args below meth c0 H1 locs (kc + 1) (kn + n) (Z X below args s) (F0 m (pc + 3) als (.ref H.size :: st.map (pvv X)))
  rw [← ea]
  exact this
theorem va_up_map {X : pvX} {f : Nat → Option Nat} {i v : Nat} : va_up (fun j => (f j).map (pvad X)) i (some (pvad X v)) = fun j => (va_up f i (some v) j).map (pvad X) := by
  funext j
  unfold va_up
  split <;> rfl
theorem g_aast {k n ci i v t nn : Nat} {r : vw_C} (hd : decode M.2.1 pc = .ok (.aastore, 1)) (hsh : (t = 3 ∨ t = 4) ∧ pvSH k = (t, n)) (hsv : pvSH v = (ci + 5, nn)) (hr : vwCl[ci]? = some r) (hty : r.1 = (if t = 3 then "SeamFire$Fire" else "SeamFire$Act")) (h1 : 1 ≤ k) (h2 : k ≤ nx) (h3 : 1 ≤ v) (h4 : v ≤ nx) (hi : i < n) (hn : n ≤ 1000) (kk : pvG M R Z (pc + 1) ls st kc kn nx I J (pvuP P k i (some v))) : pvG M R Z pc ls (.ref v :: .int (nI i) :: .ref k :: st) kc kn nx I J P := by
  intro X p l e s m args below meth c0 H locs als hC hL
  obtain ⟨c1, c2, c3, c4, c5, c6, c7, c8, c9, c10, c11, c12, c13⟩ := id hC
  have hP := c12.2.2.2.2
  have hD := pvW_D (X := X) (nx := nx) (I := I) (J := J) (P := P)
  have ci0 : (nI i).toNatClampNeg = i := nI_clamp (by omega)
  have ha : (pvW X nx I J P)[k - 1]? = some (pvad X k, .inl (X.2.2.2.1 t, n, .inr (.inr (.inr (.inr (fun i => (P k i).map (pvad X))))))) := by
    rw [pvat h1 h2 c12.2.2.1]
    rcases hsh.1 with rfl | rfl
    · rw [pvE_f hsh.2]
    · rw [pvE_a hsh.2]
  have hv : (pvW X nx I J P)[v - 1]? = some (pvad X v, .inr (ci, (List.range nn).map (fun j => pvval X I J P v (pv_kd (pvTy ci j)) j))) := by rw [pvat h3 h4 c12.2.2.1, pvE_o hsv]
  obtain ⟨r', hr', cellV, g1, g2, g3, -⟩ := hP (v - 1) _ hv
  have hcls := (c9.1 ci r hr).2
  have ht : (pvtys X)[t]? = some (X.2.2.2.1 t, .object r.1) := by
    rcases hsh.1 with rfl | rfl <;> rw [hty] <;> rfl
  obtain ⟨kA, comp, k1, k2, k3, -⟩ := (c9.2 t _ ht).2
  have hcomp : comp = X.2.2.1.1 ci := Option.some.inj (k3.symm.trans hcls.1)
  subst hcomp
  obtain ⟨kC, hkC, -⟩ := hcls.2
  refine W.aast c1 c2 (hP (k - 1) _ ha) (fun q h => by cases h) (fun h => by cases h) k1 k2 rfl hkC ⟨nI_pos (by omega), by show _ < (arrV _ _ _).slots.size; rw [arrV_size, ci0]; exact hi⟩ g1 (fun q h => by rw [g3] at h; cases h) (by rw [g2]; exact hkC) (by rw [g2]; exact va_assign hcls) rfl rfl hd fun H1 e2 z oq => ?_
  have hPs : va_P X.2.2.1 vwCl ((pvW X nx I J P).set (k - 1) (pvad X k, .inl (X.2.2.2.1 t, n, .inr (.inr (.inr (.inr (fun j => (va_up (P k) i (some v) j).map (pvad X)))))))) H1 := hP.set hD ha (by
    show H1[pvad X k]? = some (vp_cell _ _)
    rw [e2, ← va_up_map, ci0]
    rw [vp_cell_q, vp_cell_q, arrV_store]
    congr 2
    funext q
    by_cases hq : q = i
    · subst hq
      simp [updV, va_up, va_rf]
    · simp [updV, va_up, hq]) oq
  have hS1 := c11.put (k := (nI i).toNatClampNeg) z oq (hD.2 (k - 1) _ ha)
  have he : pvE X I J (pvuP P k i (some v)) k = .inl (X.2.2.2.1 t, n, .inr (.inr (.inr (.inr (fun j => (va_up (P k) i (some v) j).map (pvad X)))))) := by
    rcases hsh.1 with rfl | rfl
    · rw [pvE_f hsh.2, pvuP_eq]
    · rw [pvE_a hsh.2, pvuP_eq]
  exact kk X p l e s m args below meth c0 H1 _ als ⟨c1, c2, c3, c4, c5, c6, c7, c8, c9, c10, hS1, c12.put c10 c11 hS1 (fun _ => z) h1 h2 hPs he (fun a h => rfl) (fun a h => rfl) (fun a h => pvuP_ne h), c13⟩ hL
end NEW
