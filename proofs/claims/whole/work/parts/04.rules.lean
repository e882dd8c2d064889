/-! The logic's rows: one an instruction. -/
section PVR
variable {M : pvM} {R : Room} {Z : pvZT} {pc : Nat} {ls st : List Value} {kc kn nx : Nat} {I : pvI} {J : pvJ} {P : pvP}
theorem g_iadd {x y : Int32} (hd : decode M.2.1 pc = .ok (.iadd, 1))  (k : pvG M R Z (pc + 1) ls (.int (x + y) :: st) kc kn nx I J P) : pvG M R Z pc ls (.int y :: .int x :: st) kc kn nx I J P := fun X p l e s m args below meth c H locs als hC hL => lv_iadd hC.1 hC.2.1 hd  (k X p l e s m args below meth c H locs als hC hL)
theorem g_isub {x y : Int32} (hd : decode M.2.1 pc = .ok (.isub, 1))  (k : pvG M R Z (pc + 1) ls (.int (x - y) :: st) kc kn nx I J P) : pvG M R Z pc ls (.int y :: .int x :: st) kc kn nx I J P := fun X p l e s m args below meth c H locs als hC hL => lv_isub hC.1 hC.2.1 hd  (k X p l e s m args below meth c H locs als hC hL)
theorem g_imul {x y : Int32} (hd : decode M.2.1 pc = .ok (.imul, 1))  (k : pvG M R Z (pc + 1) ls (.int (x * y) :: st) kc kn nx I J P) : pvG M R Z pc ls (.int y :: .int x :: st) kc kn nx I J P := fun X p l e s m args below meth c H locs als hC hL => lv_imul hC.1 hC.2.1 hd  (k X p l e s m args below meth c H locs als hC hL)
theorem g_iand {x y : Int32} (hd : decode M.2.1 pc = .ok (.iand, 1))  (k : pvG M R Z (pc + 1) ls (.int (x &&& y) :: st) kc kn nx I J P) : pvG M R Z pc ls (.int y :: .int x :: st) kc kn nx I J P := fun X p l e s m args below meth c H locs als hC hL => lv_iand hC.1 hC.2.1 hd  (k X p l e s m args below meth c H locs als hC hL)
theorem g_ior {x y : Int32} (hd : decode M.2.1 pc = .ok (.ior, 1))  (k : pvG M R Z (pc + 1) ls (.int (x ||| y) :: st) kc kn nx I J P) : pvG M R Z pc ls (.int y :: .int x :: st) kc kn nx I J P := fun X p l e s m args below meth c H locs als hC hL => lv_ior hC.1 hC.2.1 hd  (k X p l e s m args below meth c H locs als hC hL)
theorem g_ixor {x y : Int32} (hd : decode M.2.1 pc = .ok (.ixor, 1))  (k : pvG M R Z (pc + 1) ls (.int (x ^^^ y) :: st) kc kn nx I J P) : pvG M R Z pc ls (.int y :: .int x :: st) kc kn nx I J P := fun X p l e s m args below meth c H locs als hC hL => lv_ixor hC.1 hC.2.1 hd  (k X p l e s m args below meth c H locs als hC hL)
theorem g_ishl {x y : Int32} (hd : decode M.2.1 pc = .ok (.ishl, 1))  (k : pvG M R Z (pc + 1) ls (.int (x <<< (y &&& 31)) :: st) kc kn nx I J P) : pvG M R Z pc ls (.int y :: .int x :: st) kc kn nx I J P := fun X p l e s m args below meth c H locs als hC hL => lv_ishl hC.1 hC.2.1 hd  (k X p l e s m args below meth c H locs als hC hL)
theorem g_ishr {x y : Int32} (hd : decode M.2.1 pc = .ok (.ishr, 1))  (k : pvG M R Z (pc + 1) ls (.int (x >>> (y &&& 31)) :: st) kc kn nx I J P) : pvG M R Z pc ls (.int y :: .int x :: st) kc kn nx I J P := fun X p l e s m args below meth c H locs als hC hL => lv_ishr hC.1 hC.2.1 hd  (k X p l e s m args below meth c H locs als hC hL)
theorem g_idiv {x y : Int32} (hd : decode M.2.1 pc = .ok (.idiv, 1)) (hne : ¬ y = 0) (k : pvG M R Z (pc + 1) ls (.int (x / y) :: st) kc kn nx I J P) : pvG M R Z pc ls (.int y :: .int x :: st) kc kn nx I J P := fun X p l e s m args below meth c H locs als hC hL => lv_idiv hC.1 hC.2.1 hd hne (k X p l e s m args below meth c H locs als hC hL)
theorem g_irem {x y : Int32} (hd : decode M.2.1 pc = .ok (.irem, 1)) (hne : ¬ y = 0) (k : pvG M R Z (pc + 1) ls (.int (x - x / y * y) :: st) kc kn nx I J P) : pvG M R Z pc ls (.int y :: .int x :: st) kc kn nx I J P := fun X p l e s m args below meth c H locs als hC hL => lv_irem hC.1 hC.2.1 hd hne (k X p l e s m args below meth c H locs als hC hL)
theorem g_ineg {x : Int32} (hd : decode M.2.1 pc = .ok (.ineg, 1))  (k : pvG M R Z (pc + 1) ls (.int (-x) :: st) kc kn nx I J P) : pvG M R Z pc ls (.int x :: st) kc kn nx I J P := fun X p l e s m args below meth c H locs als hC hL => lv_ineg hC.1 hC.2.1 hd  (k X p l e s m args below meth c H locs als hC hL)
theorem g_ladd {x y : Int64} (hd : decode M.2.1 pc = .ok (.ladd, 1))  (k : pvG M R Z (pc + 1) ls (.long (x + y) :: st) kc kn nx I J P) : pvG M R Z pc ls (.long y :: .long x :: st) kc kn nx I J P := fun X p l e s m args below meth c H locs als hC hL => lv_ladd hC.1 hC.2.1 hd  (k X p l e s m args below meth c H locs als hC hL)
theorem g_lsub {x y : Int64} (hd : decode M.2.1 pc = .ok (.lsub, 1))  (k : pvG M R Z (pc + 1) ls (.long (x - y) :: st) kc kn nx I J P) : pvG M R Z pc ls (.long y :: .long x :: st) kc kn nx I J P := fun X p l e s m args below meth c H locs als hC hL => lv_lsub hC.1 hC.2.1 hd  (k X p l e s m args below meth c H locs als hC hL)
theorem g_lmul {x y : Int64} (hd : decode M.2.1 pc = .ok (.lmul, 1))  (k : pvG M R Z (pc + 1) ls (.long (x * y) :: st) kc kn nx I J P) : pvG M R Z pc ls (.long y :: .long x :: st) kc kn nx I J P := fun X p l e s m args below meth c H locs als hC hL => lv_lmul hC.1 hC.2.1 hd  (k X p l e s m args below meth c H locs als hC hL)
theorem g_land {x y : Int64} (hd : decode M.2.1 pc = .ok (.land, 1))  (k : pvG M R Z (pc + 1) ls (.long (x &&& y) :: st) kc kn nx I J P) : pvG M R Z pc ls (.long y :: .long x :: st) kc kn nx I J P := fun X p l e s m args below meth c H locs als hC hL => lv_land hC.1 hC.2.1 hd  (k X p l e s m args below meth c H locs als hC hL)
theorem g_lor {x y : Int64} (hd : decode M.2.1 pc = .ok (.lor, 1))  (k : pvG M R Z (pc + 1) ls (.long (x ||| y) :: st) kc kn nx I J P) : pvG M R Z pc ls (.long y :: .long x :: st) kc kn nx I J P := fun X p l e s m args below meth c H locs als hC hL => lv_lor hC.1 hC.2.1 hd  (k X p l e s m args below meth c H locs als hC hL)
theorem g_lxor {x y : Int64} (hd : decode M.2.1 pc = .ok (.lxor, 1))  (k : pvG M R Z (pc + 1) ls (.long (x ^^^ y) :: st) kc kn nx I J P) : pvG M R Z pc ls (.long y :: .long x :: st) kc kn nx I J P := fun X p l e s m args below meth c H locs als hC hL => lv_lxor hC.1 hC.2.1 hd  (k X p l e s m args below meth c H locs als hC hL)
theorem g_ldiv {x y : Int64} (hd : decode M.2.1 pc = .ok (.ldiv, 1)) (hne : ¬ y = 0) (k : pvG M R Z (pc + 1) ls (.long (x / y) :: st) kc kn nx I J P) : pvG M R Z pc ls (.long y :: .long x :: st) kc kn nx I J P := fun X p l e s m args below meth c H locs als hC hL => lv_ldiv hC.1 hC.2.1 hd hne (k X p l e s m args below meth c H locs als hC hL)
theorem g_lneg {x : Int64} (hd : decode M.2.1 pc = .ok (.lneg, 1))  (k : pvG M R Z (pc + 1) ls (.long (-x) :: st) kc kn nx I J P) : pvG M R Z pc ls (.long x :: st) kc kn nx I J P := fun X p l e s m args below meth c H locs als hC hL => lv_lneg hC.1 hC.2.1 hd  (k X p l e s m args below meth c H locs als hC hL)
theorem g_lcmp {x y : Int64} (hd : decode M.2.1 pc = .ok (.lcmp, 1))  (k : pvG M R Z (pc + 1) ls (.int (lg_cmp x y) :: st) kc kn nx I J P) : pvG M R Z pc ls (.long y :: .long x :: st) kc kn nx I J P := fun X p l e s m args below meth c H locs als hC hL => W.lcmp hC.1 hC.2.1 hd  (k X p l e s m args below meth c H locs als hC hL)
theorem g_i2l {x : Int32} (hd : decode M.2.1 pc = .ok (.i2l, 1))  (k : pvG M R Z (pc + 1) ls (.long x.toInt64 :: st) kc kn nx I J P) : pvG M R Z pc ls (.int x :: st) kc kn nx I J P := fun X p l e s m args below meth c H locs als hC hL => lv_i2l hC.1 hC.2.1 hd rfl (k X p l e s m args below meth c H locs als hC hL)
theorem g_l2i {x : Int64} (hd : decode M.2.1 pc = .ok (.l2i, 1))  (k : pvG M R Z (pc + 1) ls (.int x.toInt32 :: st) kc kn nx I J P) : pvG M R Z pc ls (.long x :: st) kc kn nx I J P := fun X p l e s m args below meth c H locs als hC hL => lv_l2i hC.1 hC.2.1 hd rfl (k X p l e s m args below meth c H locs als hC hL)
theorem g_iushr {x y : Int32} (hd : decode M.2.1 pc = .ok (.iushr, 1))  (k : pvG M R Z (pc + 1) ls (.int (x.toUInt32 >>> (y.toUInt32 &&& Int32.toUInt32 31)).toInt32 :: st) kc kn nx I J P) : pvG M R Z pc ls (.int y :: .int x :: st) kc kn nx I J P := fun X p l e s m args below meth c H locs als hC hL => lv_iushr hC.1 hC.2.1 hd rfl (k X p l e s m args below meth c H locs als hC hL)
theorem g_lushr {x : Int64} {y : Int32} (hd : decode M.2.1 pc = .ok (.lushr, 1))  (k : pvG M R Z (pc + 1) ls (.long (x.toUInt64 >>> (y.toInt64.toUInt64 &&& Int64.toUInt64 63)).toInt64 :: st) kc kn nx I J P) : pvG M R Z pc ls (.int y :: .long x :: st) kc kn nx I J P := fun X p l e s m args below meth c H locs als hC hL => lv_lushr hC.1 hC.2.1 hd rfl (k X p l e s m args below meth c H locs als hC hL)
theorem g_lshl {x : Int64} {y : Int32} (hd : decode M.2.1 pc = .ok (.lshl, 1))  (k : pvG M R Z (pc + 1) ls (.long (x <<< (y.toInt64 &&& 63)) :: st) kc kn nx I J P) : pvG M R Z pc ls (.int y :: .long x :: st) kc kn nx I J P := fun X p l e s m args below meth c H locs als hC hL => lv_lshl hC.1 hC.2.1 hd rfl (k X p l e s m args below meth c H locs als hC hL)
theorem g_iconst {n : Int} {v : Int32} (hd : decode M.2.1 pc = .ok (.iconst n, 1)) (hv : Int32.ofInt n = v) (k : pvG M R Z (pc + 1) ls (.int v :: st) kc kn nx I J P) : pvG M R Z pc ls st kc kn nx I J P := fun X p l e s m args below meth c H locs als hC hL => lv_iconst hC.1 hC.2.1 hd hv (k X p l e s m args below meth c H locs als hC hL)
theorem g_bipush {n : Int} {v : Int32} (hd : decode M.2.1 pc = .ok (.bipush n, 2)) (hv : (Int8.ofInt n).toInt32 = v) (k : pvG M R Z (pc + 2) ls (.int v :: st) kc kn nx I J P) : pvG M R Z pc ls st kc kn nx I J P := fun X p l e s m args below meth c H locs als hC hL => lv_bipush hC.1 hC.2.1 hd hv (k X p l e s m args below meth c H locs als hC hL)
theorem g_sipush {n : Int} {v : Int32} (hd : decode M.2.1 pc = .ok (.sipush n, 3)) (hv : (Int16.ofInt n).toInt32 = v) (k : pvG M R Z (pc + 3) ls (.int v :: st) kc kn nx I J P) : pvG M R Z pc ls st kc kn nx I J P := fun X p l e s m args below meth c H locs als hC hL => lv_sipush hC.1 hC.2.1 hd hv (k X p l e s m args below meth c H locs als hC hL)
theorem g_lconst {n : Fin 2} {v : Int64} (hd : decode M.2.1 pc = .ok (.lconst n, 1)) (hv : Int64.ofNat (n : Nat) = v) (k : pvG M R Z (pc + 1) ls (.long v :: st) kc kn nx I J P) : pvG M R Z pc ls st kc kn nx I J P := fun X p l e s m args below meth c H locs als hC hL => lv_lconst hC.1 hC.2.1 hd hv (k X p l e s m args below meth c H locs als hC hL)
theorem g_ldc {idx : Nat} {v : Int32} (hd : decode M.2.1 pc = .ok (.ldc idx, 2)) (hw : Cond.constant M.1.cls idx v ∈ pv_T) (k : pvG M R Z (pc + 2) ls (.int v :: st) kc kn nx I J P) : pvG M R Z pc ls st kc kn nx I J P := fun X p l e s m args below meth c H locs als hC hL => lv_ldc hC.1 hC.2.1 hC.2.2.2.2.2.1 (hC.2.2.2.2.2.2.2.1 _ hw) hd (k X p l e s m args below meth c H locs als hC hL)
theorem g_ldcw {idx : Nat} {v : Int32} (hd : decode M.2.1 pc = .ok (.ldc_w idx, 3)) (hw : Cond.constant M.1.cls idx v ∈ pv_T) (k : pvG M R Z (pc + 3) ls (.int v :: st) kc kn nx I J P) : pvG M R Z pc ls st kc kn nx I J P := fun X p l e s m args below meth c H locs als hC hL => lv_ldcw hC.1 hC.2.1 hC.2.2.2.2.2.1 (hC.2.2.2.2.2.2.2.1 _ hw) hd (k X p l e s m args below meth c H locs als hC hL)
theorem g_ldc2 {idx : Nat} {v : Int64} (hd : decode M.2.1 pc = .ok (.ldc2_w idx, 3)) (hw : Cond.constantLong M.1.cls idx v ∈ pv_T) (k : pvG M R Z (pc + 3) ls (.long v :: st) kc kn nx I J P) : pvG M R Z pc ls st kc kn nx I J P := fun X p l e s m args below meth c H locs als hC hL => lv_ldc2 hC.1 hC.2.1 hC.2.2.2.2.2.1 (hC.2.2.2.2.2.2.2.1 _ hw) hd (k X p l e s m args below meth c H locs als hC hL)
theorem g_null  (hd : decode M.2.1 pc = .ok (.aconst_null, 1))  (k : pvG M R Z (pc + 1) ls (.null :: st) kc kn nx I J P) : pvG M R Z pc ls st kc kn nx I J P := fun X p l e s m args below meth c H locs als hC hL => lv_null hC.1 hC.2.1 hd  (k X p l e s m args below meth c H locs als hC hL)
theorem g_iload_n {i : Fin 4} {x : Int32} (hd : decode M.2.1 pc = .ok (.iload_n i, 1)) (hl : ls[(i : Nat)]? = some (.int x)) (k : pvG M R Z (pc + 1) ls (.int x :: st) kc kn nx I J P) : pvG M R Z pc ls st kc kn nx I J P := fun X p l e s m args below meth c H locs als hC hL => lv_iload_n hC.1 hC.2.1 hd rfl (hL.2.2 _ _ hl rfl) (k X p l e s m args below meth c H locs als hC hL)
theorem g_iload {i : Nat} {x : Int32} (hd : decode M.2.1 pc = .ok (.iload i, 2)) (hl : ls[i]? = some (.int x)) (k : pvG M R Z (pc + 2) ls (.int x :: st) kc kn nx I J P) : pvG M R Z pc ls st kc kn nx I J P := fun X p l e s m args below meth c H locs als hC hL => lv_iload hC.1 hC.2.1 hd (hL.2.2 _ _ hl rfl) (k X p l e s m args below meth c H locs als hC hL)
theorem g_lload_n {i : Fin 4} {x : Int64} (hd : decode M.2.1 pc = .ok (.lload_n i, 1)) (hl : ls[(i : Nat)]? = some (.long x)) (k : pvG M R Z (pc + 1) ls (.long x :: st) kc kn nx I J P) : pvG M R Z pc ls st kc kn nx I J P := fun X p l e s m args below meth c H locs als hC hL => lv_lload_n hC.1 hC.2.1 hd rfl (hL.2.2 _ _ hl rfl) (k X p l e s m args below meth c H locs als hC hL)
theorem g_lload {i : Nat} {x : Int64} (hd : decode M.2.1 pc = .ok (.lload i, 2)) (hl : ls[i]? = some (.long x)) (k : pvG M R Z (pc + 2) ls (.long x :: st) kc kn nx I J P) : pvG M R Z pc ls st kc kn nx I J P := fun X p l e s m args below meth c H locs als hC hL => lv_lload hC.1 hC.2.1 hd (hL.2.2 _ _ hl rfl) (k X p l e s m args below meth c H locs als hC hL)
theorem g_aload_n {i : Fin 4} {x : Nat} (hd : decode M.2.1 pc = .ok (.aload_n i, 1)) (hl : ls[(i : Nat)]? = some (.ref x)) (k : pvG M R Z (pc + 1) ls (.ref x :: st) kc kn nx I J P) : pvG M R Z pc ls st kc kn nx I J P := fun X p l e s m args below meth c H locs als hC hL => lv_aload_n hC.1 hC.2.1 hd rfl (hL.2.2 _ _ hl rfl) (k X p l e s m args below meth c H locs als hC hL)
theorem g_aload {i : Nat} {x : Nat} (hd : decode M.2.1 pc = .ok (.aload i, 2)) (hl : ls[i]? = some (.ref x)) (k : pvG M R Z (pc + 2) ls (.ref x :: st) kc kn nx I J P) : pvG M R Z pc ls st kc kn nx I J P := fun X p l e s m args below meth c H locs als hC hL => lv_aload hC.1 hC.2.1 hd (hL.2.2 _ _ hl rfl) (k X p l e s m args below meth c H locs als hC hL)
theorem g_aload_nN {i : Fin 4} (hd : decode M.2.1 pc = .ok (.aload_n i, 1)) (hl : ls[(i : Nat)]? = some .null) (k : pvG M R Z (pc + 1) ls (.null :: st) kc kn nx I J P) : pvG M R Z pc ls st kc kn nx I J P := fun X p l e s m args below meth c H locs als hC hL => lv_aload_nN hC.1 hC.2.1 hd rfl (hL.2.2 _ _ hl rfl) (k X p l e s m args below meth c H locs als hC hL)
theorem g_aloadN {i : Nat} (hd : decode M.2.1 pc = .ok (.aload i, 2)) (hl : ls[i]? = some .null) (k : pvG M R Z (pc + 2) ls (.null :: st) kc kn nx I J P) : pvG M R Z pc ls st kc kn nx I J P := fun X p l e s m args below meth c H locs als hC hL => lv_aloadN hC.1 hC.2.1 hd (hL.2.2 _ _ hl rfl) (k X p l e s m args below meth c H locs als hC hL)
def pvprs (X : pvX) (ls : List Value) : List (Nat × Value) := (List.range ls.length).filterMap (fun i => match ls[i]? with
  | some v => if pvgd v = true then some (i, pvv X v) else none
  | none => none)
theorem pvprs_mem {X : pvX} {ls : List Value} {q : Nat × Value} : q ∈ pvprs X ls ↔ ∃ v, ls[q.1]? = some v ∧ pvgd v = true ∧ q.2 = pvv X v := by
  unfold pvprs
  rw [List.mem_filterMap]
  constructor
  · rintro ⟨i, hi, h⟩
    cases hv : ls[i]? with
    | none => simp [hv] at h
    | some v =>
      simp only [hv] at h
      by_cases hg : pvgd v = true
      · rw [if_pos hg] at h
        cases h
        exact ⟨v, hv, hg, rfl⟩
      · rw [if_neg hg] at h
        cases h
  · rintro ⟨v, hv, hg, h⟩
    refine ⟨q.1, List.mem_range.mpr (List.getElem?_eq_some_iff.mp hv).1, ?_⟩
    simp only [hv]
    rw [if_pos hg, ← h]
theorem pvL.has {X : pvX} {nL : Nat} {ls : List Value} {als : Array Slot} (h : pvL X nL ls als) : lv_has als nL (pvprs X ls) := by
  refine ⟨h.1, h.2.1, fun q hq => ?_⟩
  obtain ⟨v, hv, hg, e⟩ := pvprs_mem.mp hq
  rw [e]
  exact h.2.2 _ _ hv hg
def pvfr (ls : List Value) (i : Nat) : Bool := match i with
  | 0 => true
  | j + 1 => match ls[j]? with
    | some (.long _) => false
    | some (.double _) => false
    | _ => true
theorem pvfr_cat {X : pvX} {ls : List Value} {i j : Nat} {v : Value} (h : pvfr ls i = true) (hj : j + 1 = i) (hv : ls[j]? = some v) : ((pvv X v).category == 2) = false := by
  subst hj
  simp only [pvfr, hv] at h
  cases v <;> simp_all [pvv, Value.category]
theorem pvL.st1 {X : pvX} {nL i : Nat} {ls : List Value} {als : Array Slot} {v : Value} (hf : pvfr ls i = true) (h : lv_has als nL ((i, pvv X v) :: (pvprs X ls).filter (fun q => !(q.1 == i) && !(q.1 + 1 == i && q.2.category == 2)))) : pvL X nL (ls.set i v) als := by
  refine ⟨h.1, h.2.1, fun j w hw hg => ?_⟩
  by_cases hj : j = i
  · subst hj
    have hlt : j < ls.length := by
      have := (List.getElem?_eq_some_iff.mp hw).1
      simpa using this
    rw [List.getElem?_set_self hlt] at hw
    cases hw
    exact h.2.2 _ List.mem_cons_self
  · rw [List.getElem?_set_ne (fun e => hj e.symm)] at hw
    refine h.2.2 (j, pvv X w) (List.mem_cons_of_mem _ (List.mem_filter.mpr ⟨pvprs_mem.mpr ⟨w, hw, hg, rfl⟩, ?_⟩))
    have h1 : (j == i) = false := by simpa using hj
    by_cases h2 : j + 1 = i
    · have h3 := pvfr_cat (X := X) hf h2 hw
      simp [h1, h3]
    · have h3 : (j + 1 == i) = false := by simpa using h2
      simp [h1, h3]
theorem pvL.st2 {X : pvX} {nL i : Nat} {ls : List Value} {als : Array Slot} {v : Value} (hf : pvfr ls i = true) (h : lv_has als nL ((i, pvv X v) :: (pvprs X ls).filter (fun q => !(q.1 == i) && (!(q.1 == i + 1) && !(q.1 + 1 == i && q.2.category == 2))))) : pvL X nL ((ls.set i v).set (i + 1) (.retAddr 0)) als := by
  refine ⟨h.1, h.2.1, fun j w hw hg => ?_⟩
  by_cases hj1 : j = i + 1
  · subst hj1
    have hlt : i + 1 < (ls.set i v).length := by
      have := (List.getElem?_eq_some_iff.mp hw).1
      simpa using this
    rw [List.getElem?_set_self hlt] at hw
    cases hw
    simp [pvgd] at hg
  · rw [List.getElem?_set_ne (fun e => hj1 e.symm)] at hw
    by_cases hj : j = i
    · subst hj
      have hlt : j < ls.length := by
        have := (List.getElem?_eq_some_iff.mp hw).1
        simpa using this
      rw [List.getElem?_set_self hlt] at hw
      cases hw
      exact h.2.2 _ List.mem_cons_self
    · rw [List.getElem?_set_ne (fun e => hj e.symm)] at hw
      refine h.2.2 (j, pvv X w) (List.mem_cons_of_mem _ (List.mem_filter.mpr ⟨pvprs_mem.mpr ⟨w, hw, hg, rfl⟩, ?_⟩))
      have h1 : (j == i) = false := by simpa using hj
      have h0 : (j == i + 1) = false := by simpa using hj1
      by_cases h2 : j + 1 = i
      · have h3 := pvfr_cat (X := X) hf h2 hw
        simp [h1, h0, h3]
      · have h3 : (j + 1 == i) = false := by simpa using h2
        simp [h1, h0, h3]
theorem g_istore_n {i : Fin 4} {x : Int32} (hd : decode M.2.1 pc = .ok (.istore_n i, 1)) (hn : (i : Nat) < M.2.2.1) (hf : pvfr ls (i : Nat) = true) (k : pvG M R Z (pc + 1) (ls.set (i : Nat) (.int x)) st kc kn nx I J P) : pvG M R Z pc ls (.int x :: st) kc kn nx I J P := fun X p l e s m args below meth c H locs als hC hL => lv_istore_n hC.1 hC.2.1 hd rfl hL.has hn rfl (fun ls' h' => k X p l e s m args below meth c H locs ls' hC (pvL.st1 (v := .int x) hf h'))
theorem g_istore {i : Nat} {x : Int32} (hd : decode M.2.1 pc = .ok (.istore i, 2)) (hn : i < M.2.2.1) (hf : pvfr ls i = true) (k : pvG M R Z (pc + 2) (ls.set i (.int x)) st kc kn nx I J P) : pvG M R Z pc ls (.int x :: st) kc kn nx I J P := fun X p l e s m args below meth c H locs als hC hL => lv_istore hC.1 hC.2.1 hd  hL.has hn rfl (fun ls' h' => k X p l e s m args below meth c H locs ls' hC (pvL.st1 (v := .int x) hf h'))
theorem g_astore_n {i : Fin 4} {x : Nat} (hd : decode M.2.1 pc = .ok (.astore_n i, 1)) (hn : (i : Nat) < M.2.2.1) (hf : pvfr ls (i : Nat) = true) (k : pvG M R Z (pc + 1) (ls.set (i : Nat) (.ref x)) st kc kn nx I J P) : pvG M R Z pc ls (.ref x :: st) kc kn nx I J P := fun X p l e s m args below meth c H locs als hC hL => lv_astore_n hC.1 hC.2.1 hd rfl hL.has hn rfl (fun ls' h' => k X p l e s m args below meth c H locs ls' hC (pvL.st1 (v := .ref x) hf h'))
theorem g_astore {i : Nat} {x : Nat} (hd : decode M.2.1 pc = .ok (.astore i, 2)) (hn : i < M.2.2.1) (hf : pvfr ls i = true) (k : pvG M R Z (pc + 2) (ls.set i (.ref x)) st kc kn nx I J P) : pvG M R Z pc ls (.ref x :: st) kc kn nx I J P := fun X p l e s m args below meth c H locs als hC hL => lv_astore hC.1 hC.2.1 hd  hL.has hn rfl (fun ls' h' => k X p l e s m args below meth c H locs ls' hC (pvL.st1 (v := .ref x) hf h'))
theorem g_astore_nN {i : Fin 4} (hd : decode M.2.1 pc = .ok (.astore_n i, 1)) (hn : (i : Nat) < M.2.2.1) (hf : pvfr ls (i : Nat) = true) (k : pvG M R Z (pc + 1) (ls.set (i : Nat) .null) st kc kn nx I J P) : pvG M R Z pc ls (.null :: st) kc kn nx I J P := fun X p l e s m args below meth c H locs als hC hL => lv_astore_nN hC.1 hC.2.1 hd rfl hL.has hn rfl (fun ls' h' => k X p l e s m args below meth c H locs ls' hC (pvL.st1 (v := .null) hf h'))
theorem g_astoreN {i : Nat} (hd : decode M.2.1 pc = .ok (.astore i, 2)) (hn : i < M.2.2.1) (hf : pvfr ls i = true) (k : pvG M R Z (pc + 2) (ls.set i .null) st kc kn nx I J P) : pvG M R Z pc ls (.null :: st) kc kn nx I J P := fun X p l e s m args below meth c H locs als hC hL => lv_astoreN hC.1 hC.2.1 hd hL.has hn rfl (fun ls' h' => k X p l e s m args below meth c H locs ls' hC (pvL.st1 (v := .null) hf h'))
theorem g_lstore_n {i : Fin 4} {x : Int64} (hd : decode M.2.1 pc = .ok (.lstore_n i, 1)) (hn : (i : Nat) + 1 < M.2.2.1) (hf : pvfr ls (i : Nat) = true) (k : pvG M R Z (pc + 1) ((ls.set (i : Nat) (.long x)).set ((i : Nat) + 1) (.retAddr 0)) st kc kn nx I J P) : pvG M R Z pc ls (.long x :: st) kc kn nx I J P := fun X p l e s m args below meth c H locs als hC hL => lv_lstore_n hC.1 hC.2.1 hd rfl hL.has hn rfl (fun ls' h' => k X p l e s m args below meth c H locs ls' hC (pvL.st2 (v := .long x) hf h'))
theorem g_lstore {i : Nat} {x : Int64} (hd : decode M.2.1 pc = .ok (.lstore i, 2)) (hn : i + 1 < M.2.2.1) (hf : pvfr ls i = true) (k : pvG M R Z (pc + 2) ((ls.set i (.long x)).set (i + 1) (.retAddr 0)) st kc kn nx I J P) : pvG M R Z pc ls (.long x :: st) kc kn nx I J P := fun X p l e s m args below meth c H locs als hC hL => lv_lstore hC.1 hC.2.1 hd  hL.has hn rfl (fun ls' h' => k X p l e s m args below meth c H locs ls' hC (pvL.st2 (v := .long x) hf h'))
theorem g_iinc {i : Nat} {n : Int} {x v : Int32} (hd : decode M.2.1 pc = .ok (.iinc i n, 3)) (hl : ls[i]? = some (.int x)) (hv : x + Int32.ofInt n = v) (hn : i < M.2.2.1) (hf : pvfr ls i = true) (k : pvG M R Z (pc + 3) (ls.set i (.int v)) st kc kn nx I J P) : pvG M R Z pc ls st kc kn nx I J P := by
  intro X p l e s m args below meth c H locs als hC hL
  have hm : (i, Value.int x) ∈ pvprs X ls := pvprs_mem.mpr ⟨_, hl, rfl, rfl⟩
  obtain ⟨q, hq⟩ := List.getElem?_of_mem hm
  exact lv_iinc hC.1 hC.2.1 hd hL.has hq hv hn rfl (fun ls' h' => k X p l e s m args below meth c H locs ls' hC (pvL.st1 (v := .int v) hf h'))
theorem pvcat (X : pvX) (v : Value) : (pvv X v).category = v.category := by cases v <;> rfl
theorem g_dup {va : Value} (hd : decode M.2.1 pc = .ok (.dup, 1)) (hc : va.category = 1) (k : pvG M R Z (pc + 1) ls (va :: va :: st) kc kn nx I J P) : pvG M R Z pc ls (va :: st) kc kn nx I J P := fun X p l e s m args below meth c H locs als hC hL => lv_dup hC.1 hC.2.1 hd ((pvcat X va).trans hc) (k X p l e s m args below meth c H locs als hC hL)
theorem g_pop {va : Value} (hd : decode M.2.1 pc = .ok (.pop, 1)) (hc : va.category = 1) (k : pvG M R Z (pc + 1) ls st kc kn nx I J P) : pvG M R Z pc ls (va :: st) kc kn nx I J P := fun X p l e s m args below meth c H locs als hC hL => lv_pop hC.1 hC.2.1 hd ((pvcat X va).trans hc) (k X p l e s m args below meth c H locs als hC hL)
theorem g_dup2 {va vb : Value} (hd : decode M.2.1 pc = .ok (.dup2, 1)) (hc : va.category = 1) (hc2 : vb.category = 1) (k : pvG M R Z (pc + 1) ls (va :: vb :: va :: vb :: st) kc kn nx I J P) : pvG M R Z pc ls (va :: vb :: st) kc kn nx I J P := fun X p l e s m args below meth c H locs als hC hL => lv_dup2_11 hC.1 hC.2.1 hd ((pvcat X va).trans hc) ((pvcat X vb).trans hc2) (k X p l e s m args below meth c H locs als hC hL)
theorem g_icmp_eq {x y : Int32} {off : Int} (tgt : Nat) (hd : decode M.2.1 pc = .ok (.if_icmp .eq off, 3)) (ht : (pc : Int) + off = (tgt : Int)) (kt : x = y → pvG M R Z tgt ls st kc kn nx I J P) (kf : ¬ x = y → pvG M R Z (pc + 3) ls st kc kn nx I J P) : pvG M R Z pc ls (.int y :: .int x :: st) kc kn nx I J P := fun X p l e s m args below meth c H locs als hC hL => lv_icmp_eq hC.1 hC.2.1 hd ht (fun h => kt h X p l e s m args below meth c H locs als hC hL) (fun h => kf h X p l e s m args below meth c H locs als hC hL)
theorem g_if_eq {x : Int32} {off : Int} (tgt : Nat) (hd : decode M.2.1 pc = .ok (.ifCond .eq off, 3)) (ht : (pc : Int) + off = (tgt : Int)) (kt : x = 0 → pvG M R Z tgt ls st kc kn nx I J P) (kf : ¬ x = 0 → pvG M R Z (pc + 3) ls st kc kn nx I J P) : pvG M R Z pc ls (.int x :: st) kc kn nx I J P := fun X p l e s m args below meth c H locs als hC hL => lv_if_eq hC.1 hC.2.1 hd ht (fun h => kt h X p l e s m args below meth c H locs als hC hL) (fun h => kf h X p l e s m args below meth c H locs als hC hL)
theorem g_icmp_ne {x y : Int32} {off : Int} (tgt : Nat) (hd : decode M.2.1 pc = .ok (.if_icmp .ne off, 3)) (ht : (pc : Int) + off = (tgt : Int)) (kt : ¬ x = y → pvG M R Z tgt ls st kc kn nx I J P) (kf : x = y → pvG M R Z (pc + 3) ls st kc kn nx I J P) : pvG M R Z pc ls (.int y :: .int x :: st) kc kn nx I J P := fun X p l e s m args below meth c H locs als hC hL => lv_icmp_ne hC.1 hC.2.1 hd ht (fun h => kt h X p l e s m args below meth c H locs als hC hL) (fun h => kf h X p l e s m args below meth c H locs als hC hL)
theorem g_if_ne {x : Int32} {off : Int} (tgt : Nat) (hd : decode M.2.1 pc = .ok (.ifCond .ne off, 3)) (ht : (pc : Int) + off = (tgt : Int)) (kt : ¬ x = 0 → pvG M R Z tgt ls st kc kn nx I J P) (kf : x = 0 → pvG M R Z (pc + 3) ls st kc kn nx I J P) : pvG M R Z pc ls (.int x :: st) kc kn nx I J P := fun X p l e s m args below meth c H locs als hC hL => lv_if_ne hC.1 hC.2.1 hd ht (fun h => kt h X p l e s m args below meth c H locs als hC hL) (fun h => kf h X p l e s m args below meth c H locs als hC hL)
theorem g_icmp_lt {x y : Int32} {off : Int} (tgt : Nat) (hd : decode M.2.1 pc = .ok (.if_icmp .lt off, 3)) (ht : (pc : Int) + off = (tgt : Int)) (kt : x < y → pvG M R Z tgt ls st kc kn nx I J P) (kf : ¬ x < y → pvG M R Z (pc + 3) ls st kc kn nx I J P) : pvG M R Z pc ls (.int y :: .int x :: st) kc kn nx I J P := fun X p l e s m args below meth c H locs als hC hL => lv_icmp_lt hC.1 hC.2.1 hd ht (fun h => kt h X p l e s m args below meth c H locs als hC hL) (fun h => kf h X p l e s m args below meth c H locs als hC hL)
theorem g_if_lt {x : Int32} {off : Int} (tgt : Nat) (hd : decode M.2.1 pc = .ok (.ifCond .lt off, 3)) (ht : (pc : Int) + off = (tgt : Int)) (kt : x < 0 → pvG M R Z tgt ls st kc kn nx I J P) (kf : ¬ x < 0 → pvG M R Z (pc + 3) ls st kc kn nx I J P) : pvG M R Z pc ls (.int x :: st) kc kn nx I J P := fun X p l e s m args below meth c H locs als hC hL => lv_if_lt hC.1 hC.2.1 hd ht (fun h => kt h X p l e s m args below meth c H locs als hC hL) (fun h => kf h X p l e s m args below meth c H locs als hC hL)
theorem g_icmp_ge {x y : Int32} {off : Int} (tgt : Nat) (hd : decode M.2.1 pc = .ok (.if_icmp .ge off, 3)) (ht : (pc : Int) + off = (tgt : Int)) (kt : y ≤ x → pvG M R Z tgt ls st kc kn nx I J P) (kf : ¬ y ≤ x → pvG M R Z (pc + 3) ls st kc kn nx I J P) : pvG M R Z pc ls (.int y :: .int x :: st) kc kn nx I J P := fun X p l e s m args below meth c H locs als hC hL => lv_icmp_ge hC.1 hC.2.1 hd ht (fun h => kt h X p l e s m args below meth c H locs als hC hL) (fun h => kf h X p l e s m args below meth c H locs als hC hL)
theorem g_if_ge {x : Int32} {off : Int} (tgt : Nat) (hd : decode M.2.1 pc = .ok (.ifCond .ge off, 3)) (ht : (pc : Int) + off = (tgt : Int)) (kt : 0 ≤ x → pvG M R Z tgt ls st kc kn nx I J P) (kf : ¬ 0 ≤ x → pvG M R Z (pc + 3) ls st kc kn nx I J P) : pvG M R Z pc ls (.int x :: st) kc kn nx I J P := fun X p l e s m args below meth c H locs als hC hL => lv_if_ge hC.1 hC.2.1 hd ht (fun h => kt h X p l e s m args below meth c H locs als hC hL) (fun h => kf h X p l e s m args below meth c H locs als hC hL)
theorem g_icmp_gt {x y : Int32} {off : Int} (tgt : Nat) (hd : decode M.2.1 pc = .ok (.if_icmp .gt off, 3)) (ht : (pc : Int) + off = (tgt : Int)) (kt : y < x → pvG M R Z tgt ls st kc kn nx I J P) (kf : ¬ y < x → pvG M R Z (pc + 3) ls st kc kn nx I J P) : pvG M R Z pc ls (.int y :: .int x :: st) kc kn nx I J P := fun X p l e s m args below meth c H locs als hC hL => lv_icmp_gt hC.1 hC.2.1 hd ht (fun h => kt h X p l e s m args below meth c H locs als hC hL) (fun h => kf h X p l e s m args below meth c H locs als hC hL)
theorem g_if_gt {x : Int32} {off : Int} (tgt : Nat) (hd : decode M.2.1 pc = .ok (.ifCond .gt off, 3)) (ht : (pc : Int) + off = (tgt : Int)) (kt : 0 < x → pvG M R Z tgt ls st kc kn nx I J P) (kf : ¬ 0 < x → pvG M R Z (pc + 3) ls st kc kn nx I J P) : pvG M R Z pc ls (.int x :: st) kc kn nx I J P := fun X p l e s m args below meth c H locs als hC hL => lv_if_gt hC.1 hC.2.1 hd ht (fun h => kt h X p l e s m args below meth c H locs als hC hL) (fun h => kf h X p l e s m args below meth c H locs als hC hL)
theorem g_icmp_le {x y : Int32} {off : Int} (tgt : Nat) (hd : decode M.2.1 pc = .ok (.if_icmp .le off, 3)) (ht : (pc : Int) + off = (tgt : Int)) (kt : x ≤ y → pvG M R Z tgt ls st kc kn nx I J P) (kf : ¬ x ≤ y → pvG M R Z (pc + 3) ls st kc kn nx I J P) : pvG M R Z pc ls (.int y :: .int x :: st) kc kn nx I J P := fun X p l e s m args below meth c H locs als hC hL => lv_icmp_le hC.1 hC.2.1 hd ht (fun h => kt h X p l e s m args below meth c H locs als hC hL) (fun h => kf h X p l e s m args below meth c H locs als hC hL)
theorem g_if_le {x : Int32} {off : Int} (tgt : Nat) (hd : decode M.2.1 pc = .ok (.ifCond .le off, 3)) (ht : (pc : Int) + off = (tgt : Int)) (kt : x ≤ 0 → pvG M R Z tgt ls st kc kn nx I J P) (kf : ¬ x ≤ 0 → pvG M R Z (pc + 3) ls st kc kn nx I J P) : pvG M R Z pc ls (.int x :: st) kc kn nx I J P := fun X p l e s m args below meth c H locs als hC hL => lv_if_le hC.1 hC.2.1 hd ht (fun h => kt h X p l e s m args below meth c H locs als hC hL) (fun h => kf h X p l e s m args below meth c H locs als hC hL)
theorem g_goto {off : Int} (tgt : Nat) (hd : decode M.2.1 pc = .ok (.goto off, 3)) (ht : (pc : Int) + off = (tgt : Int)) (k : pvG M R Z tgt ls st kc kn nx I J P) : pvG M R Z pc ls st kc kn nx I J P := fun X p l e s m args below meth c H locs als hC hL => lv_goto hC.1 hC.2.1 hd ht (k X p l e s m args below meth c H locs als hC hL)
theorem g_ifnonnull {x : Nat} {off : Int} (tgt : Nat) (hd : decode M.2.1 pc = .ok (.ifnonnull off, 3)) (ht : (pc : Int) + off = (tgt : Int)) (k : pvG M R Z tgt ls st kc kn nx I J P) : pvG M R Z pc ls (.ref x :: st) kc kn nx I J P := fun X p l e s m args below meth c H locs als hC hL => lv_ifnonnull hC.1 hC.2.1 hd ht (k X p l e s m args below meth c H locs als hC hL)
theorem g_ifnonnullN {off : Int} (hd : decode M.2.1 pc = .ok (.ifnonnull off, 3)) (k : pvG M R Z (pc + 3) ls st kc kn nx I J P) : pvG M R Z pc ls (.null :: st) kc kn nx I J P := fun X p l e s m args below meth c H locs als hC hL => lv_ifnonnullN hC.1 hC.2.1 hd (k X p l e s m args below meth c H locs als hC hL)
theorem g_ifnull {x : Nat} {off : Int} (hd : decode M.2.1 pc = .ok (.ifnull off, 3)) (k : pvG M R Z (pc + 3) ls st kc kn nx I J P) : pvG M R Z pc ls (.ref x :: st) kc kn nx I J P := fun X p l e s m args below meth c H locs als hC hL => lv_ifnull hC.1 hC.2.1 hd (k X p l e s m args below meth c H locs als hC hL)
theorem g_ifnullN {off : Int} (tgt : Nat) (hd : decode M.2.1 pc = .ok (.ifnull off, 3)) (ht : (pc : Int) + off = (tgt : Int)) (k : pvG M R Z tgt ls st kc kn nx I J P) : pvG M R Z pc ls (.null :: st) kc kn nx I J P := fun X p l e s m args below meth c H locs als hC hL => lv_ifnullN hC.1 hC.2.1 hd ht (k X p l e s m args below meth c H locs als hC hL)
theorem g_lookup {dflt : Int} {ps : Array (Int × Int)} {len : Nat} {x : Int32} {off : Int} (tgt : Nat) (hd : decode M.2.1 pc = .ok (.lookupswitch dflt ps, len)) (hp : (ps.toList.zip (ps.toList.drop 1)).all (fun (a, next) => a.1 < next.1) = true) (ho : Op.lookupswitch.offset ps.toList dflt x.toInt = off) (ht : (pc : Int) + off = (tgt : Int)) (k : pvG M R Z tgt ls st kc kn nx I J P) : pvG M R Z pc ls (.int x :: st) kc kn nx I J P := fun X p l e s m args below meth c H locs als hC hL => lv_lookup hC.1 hC.2.1 hd hp ho ht (k X p l e s m args below meth c H locs als hC hL)
theorem g_tableOut {dflt lo hi : Int} {offs : Array Int} {len : Nat} {x : Int32} (tgt : Nat) (hd : decode M.2.1 pc = .ok (.tableswitch dflt lo hi offs, len)) (h : x.toInt < lo ∨ hi < x.toInt) (ht : (pc : Int) + dflt = (tgt : Int)) (k : pvG M R Z tgt ls st kc kn nx I J P) : pvG M R Z pc ls (.int x :: st) kc kn nx I J P := fun X p l e s m args below meth c H locs als hC hL => lv_tableOut hC.1 hC.2.1 hd h ht (k X p l e s m args below meth c H locs als hC hL)
theorem g_tableIn {dflt lo hi : Int} {offs : Array Int} {len : Nat} {x : Int32} {off : Int} (tgt : Nat) (hd : decode M.2.1 pc = .ok (.tableswitch dflt lo hi offs, len)) (h1 : ¬ x.toInt < lo) (h2 : ¬ hi < x.toInt) (ho : offs[(x.toInt - lo).toNat]? = some off) (ht : (pc : Int) + off = (tgt : Int)) (k : pvG M R Z tgt ls st kc kn nx I J P) : pvG M R Z pc ls (.int x :: st) kc kn nx I J P := fun X p l e s m args below meth c H locs als hC hL => lv_tableIn hC.1 hC.2.1 hd h1 h2 ho ht (k X p l e s m args below meth c H locs als hC hL)
end PVR
