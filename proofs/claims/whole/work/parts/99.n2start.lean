/-! the law's own entry and end -/
def lwZ : pvZT := fun X below args s t => X.2.1 = s.heap.size → args = #[Value.ref X.1] → lw_Z below args s t
theorem lw_end {nm : String} {ls : List Value} {nx : Nat} {I : pvI} {J : pvJ} {P : pvP} : pvG (mLw nm) room_1 lwZ 1495 ls [] 224 90037 nx I J P := by
  refine g_iconst (v := nI 1) dL_law_1495 (by decide) ?_
  intro X p l e s m args below meth c H locs als hC hL
  obtain ⟨c1, c2, c3, c4, c5, c6, c7, c8, c9, c10, c11, c12, c13⟩ := id hC
  by_cases hX : X.2.1 = s.heap.size ∧ args = #[Value.ref X.1]
  · obtain ⟨hX, rfl⟩ := hX
    have w := va_forget (p := p) (l := l) (e := e) (below := below) (locs := locs) (s := s) (fun q hq => by rw [← hX]; exact c11.2.2 q hq) (W.widen (k := 600000) (n := 7302250) (cells := 224) (slots := 90037) (by decide) (by decide) (lw_ret (p := p) (l := l) (e := e) (s := s) (m := m) (below := below) (b := X.1) (H := H) (ls := als) (pc := 1496) c1 c2 c4 c5 dL_law_1496))
    intro T hT Xs
    obtain ⟨t, st, q⟩ := w T hT Xs
    exact ⟨t, st, fun _ _ => q⟩
  · intro T hT Xs
    exact ⟨_, Steps.refl _, fun h1 h2 => absurd ⟨h1, h2⟩ hX⟩
theorem kn_of {own : String} {idx c n : Nat} {s : State} {args : Array Value} (hN : pvNw own idx c n) (hts : ∀ w ∈ pv_T, w.before args s = true) : ∃ y : ClassId × (Nat → Nat), ∀ q, vwCl[c]? = some q → u_Kn s q.1 q.2.1 q.2.2 y.1 y.2 := by
  obtain ⟨C, T, f1, f2, f5, w1, w2, w3⟩ := hN
  obtain ⟨cC, iS, h⟩ := u_known hts f2 (hts _ w2)
  refine ⟨(cC, iS), fun q hq => ?_⟩
  rw [f1] at hq
  cases hq
  exact h
theorem kn_all {s : State} {args : Array Value} (hts : ∀ w ∈ pv_T, w.before args s = true) : ∃ f : Nat → ClassId × (Nat → Nat), ∀ c q, vwCl[c]? = some q → u_Kn s q.1 q.2.1 q.2.2 (f c).1 (f c).2 := by
  have K : ∀ c : Nat, ∃ y : ClassId × (Nat → Nat), ∀ q : vw_C, vwCl[c]? = some q → u_Kn s q.1 q.2.1 q.2.2 y.1 y.2 := by
   intro c
   match c with
   | 0 => exact kn_of nwX11_57 hts
   | 1 => exact kn_of nwX11_39 hts
   | 2 => exact kn_of nwX11_7 hts
   | 3 => exact kn_of nwX10_13 hts
   | 4 => exact kn_of nwX10_29 hts
   | 5 => exact kn_of nwX10_43 hts
   | 6 => exact kn_of nwX11_50 hts
   | 7 => exact kn_of nwX10_36 hts
   | 8 => exact kn_of nwX10_50 hts
   | 9 => exact kn_of nwX10_22 hts
   | 10 => exact kn_of nwX11_27 hts
   | 11 => exact kn_of nwL_7 hts
   | 12 => exact kn_of nwL_18 hts
   | c + 13 => exact ⟨(default, fun _ => 0), fun q hq => by simp [vwCl] at hq⟩
  exact Classical.axiomOfChoice K
theorem ar_i {s : State} {args : Array Value} (h : (Cond.arrayClass .int).before args s = true) : ∃ c, ArrOfT s c .int ∧ va_RA s c .int := by
  obtain ⟨c, k, comp, f1, f2, f3⟩ := Cond.arrayClass_spec h
  exact ⟨c, fun N z => ⟨(fun k h => by cases h), k, f2, comp, f3⟩, f1⟩
theorem ar_l {s : State} {args : Array Value} (h : (Cond.arrayClass .long).before args s = true) : ∃ c, ArrOfT s c .long ∧ va_RA s c .long := by
  obtain ⟨c, k, comp, f1, f2, f3⟩ := Cond.arrayClass_spec h
  exact ⟨c, fun N z => ⟨(fun k h => by cases h), k, f2, comp, f3⟩, f1⟩
theorem ar_z {s : State} {args : Array Value} (h : (Cond.arrayClass .boolean).before args s = true) : ∃ c, ArrOfT s c .boolean ∧ va_RA s c .boolean := by
  obtain ⟨c, k, comp, f1, f2, f3⟩ := Cond.arrayClass_spec h
  exact ⟨c, fun N z => ⟨(fun k h => by cases h), k, f2, comp, f3⟩, f1⟩
theorem ar_o {s : State} {args : Array Value} {C : String} (h : (Cond.arrayOver (.object C)).before args s = true) : ∃ c, ArrOfT s c (.object C) ∧ va_RA s c (.object C) := by
  obtain ⟨comp, c, k, f1, f2, f3, f4, f5⟩ := Cond.arrayOver_spec h
  exact ⟨c, fun N z => ⟨(fun k h => by cases h), k, f3, comp, f4⟩, k, comp, f3, f4, f1, f5⟩
theorem whole_start {p : Program} {e : Env} {s : State} {m : MethodId} {below : List Frame} {meth : Method} {c : Code} (l : Launch) {b L : Nat} {xs : Nat → Int32} (hL : L ≤ 3074) (C0 : lw_At p s m meth c b L xs) : W p l e room_1 s m #[Value.ref b] below meth c s.heap [] 0 0 (lw_Z below #[Value.ref b] s) (entryFrame m ([Value.ref b] : List Value).toArray 4) := by
  obtain ⟨hx, hb, hr, hml, hown, hts, hX, hbl, hlocks, hgv⟩ := id C0
  have hT : ∀ w ∈ pv_T, w.before #[Value.ref b] s = true := fun w hw => hts w (pv_out hw)
  have hgs := flat_of_before _ hgv
  obtain ⟨f, hf⟩ := kn_all hT
  obtain ⟨d0, h0⟩ := ar_i (hts (.arrayClass .int) (by decide +kernel))
  obtain ⟨d1, h1⟩ := ar_l (hts (.arrayClass .long) (by decide +kernel))
  obtain ⟨d2, h2⟩ := ar_z (hts (.arrayClass .boolean) (by decide +kernel))
  have o3 := hts (.arrayOver (.object "SeamFire$Fire")) (by decide +kernel)
  have o4 := hts (.arrayOver (.object "SeamFire$Act")) (by decide +kernel)
  obtain ⟨d3, h3⟩ := ar_o o3
  obtain ⟨d4, h4⟩ := ar_o o4
  have hA : ∀ a : Nat, a < s.heap.size → ¬ (fun q : Nat => s.heap.size ≤ q) a := fun a h => Nat.not_le.mpr h
  have e1 : ∀ i : Nat, i < 1 → (Cond.eq (.length (.field (.string "SeamFire$Reader" 80) "java/lang/String" "value" "[B")) (.int (Int32.ofNat ([74].getD i 0)))).before #[Value.ref b] s = true := fun i hi => by
    obtain rfl : i = 0 := by omega
    exact hgs _ (by decide +kernel)
  have e2 : ∀ i : Nat, i < 1 → ∀ j : Nat, j < [74].getD i 0 → (Cond.eq (.elem (.field (.string "SeamFire$Reader" 80) "java/lang/String" "value" "[B") (.int (Int32.ofNat j))) (.int (([pv_bytes].getD i []).getD j 0))).before #[Value.ref b] s = true := fun i hi j hj => by
    obtain rfl : i = 0 := by omega
    have : ∀ j, j < 74 → Cond.eq (.elem (.field (.string "SeamFire$Reader" 80) "java/lang/String" "value" "[B") (.int (Int32.ofNat j))) (.int (pv_bytes.getD j 0)) ∈ flatC (Jvm.Cond.and given_1 narrow_1) := by decide +kernel
    exact hgs _ (this j hj)
  have e3 : ∀ i : Nat, i < 1 → [74].getD i 0 < 2 ^ 31 := fun i hi => by
    obtain rfl : i = 0 := by omega
    decide
  obtain ⟨adK, adV, hS, hE⟩ := vk_Sof (args := #[Value.ref b]) (s := s) (N := 1) (tm := fun _ => .string "SeamFire$Reader" 80) (len := [74]) (byt := [pv_bytes]) (A := fun q : Nat => s.heap.size ≤ q) e3 (fun i _ => hgs _ (by decide +kernel)) (fun i _ => hgs _ (by decide +kernel)) (fun i _ => hgs _ (by decide +kernel)) e1 e2 (fun i j hi hj hij => absurd (show i = j by omega) hij) hA
  let X : pvX := (b, s.heap.size, (fun k => (f k).1, fun k => (f k).2), (fun k => if k = 0 then d0 else if k = 1 then d1 else if k = 2 then d2 else if k = 3 then d3 else d4), adK 0)
  have hK : va_K X.2.2.1 vwCl (pvtys X) s := by
    refine ⟨fun k q hq => hf k q hq, fun k q hk => ?_⟩
    match k, hk with
    | 0, hk => cases hk; exact h0
    | 1, hk => cases hk; exact h1
    | 2, hk => cases hk; exact h2
    | 3, hk => cases hk; exact h3
    | 4, hk => cases hk; exact h4
    | k + 5, hk => simp [pvtys] at hk
  have hSt : pvStat X s s.heap := by
    refine ⟨fun w hw hn => ?_, ?_, ⟨adK, adV, rfl, hS⟩, ?_, ?_, va_AO.of o3, va_AO.of o4⟩
    · have h := hts w hw
      cases w <;> simp [pvNest] at hn
      exact va_Nw.of rfl h
    · exact vk_R.of (hts (.stringRef "SeamFire$Reader" 80 pv_text) (by decide +kernel)) (hE 0 (by decide))
    · exact va_Zof (hts (.laysStatic "java/lang/String" "COMPACT_STRINGS" "Z") (by decide +kernel)) (hts (.initialized "java/lang/String") (by decide +kernel)) (va_eqi (hgs (.eq (.static "java/lang/String" "COMPACT_STRINGS" "Z") (.int 1)) (by decide +kernel))) hA
    · exact va_Zqof (hts (.laysStatic "jdk/internal/util/Preconditions" "SIOOBE_FORMATTER" "Ljava/util/function/BiFunction;") (by decide +kernel)) (hts (.initialized "jdk/internal/util/Preconditions") (by decide +kernel)) (hgs (.isRef (.static "jdk/internal/util/Preconditions" "SIOOBE_FORMATTER" "Ljava/util/function/BiFunction;")) (by decide +kernel)) hA
  have go := lw_begin (nm := meth.name) (Z := lwZ) (xs := xs) (L := L) (I := fun k => if k = 0 then xs else fun _ => 0) (J := fun _ _ => 0) (P := fun k j => if k = 0 ∧ j = 0 then some L else none) hL (fun x y1 y2 => ⟨if_neg (by omega), rfl, funext (fun j => if_neg (by omega))⟩) (if_pos ⟨rfl, rfl⟩) (fun j => rfl) (fun i I J P => lw_end)
  have hl := lv_entry ([.ref b]) (n := 4) (Nat.le_of_ble_eq_true rfl)
  rw [lg_entry_eq]
  have w := go X p l e s m #[Value.ref b] below meth c s.heap [] _ ⟨hx, hb, hml, hr, hlocks, hown, rfl, hT, hK, Nat.le_refl _, va_S.rf, ⟨fun _ => rfl, hbl, by decide, hX, fun k q hq => by simp [pvW] at hq⟩, hSt⟩ ⟨hl.1, hl.2.1, fun i v hi hg => by
    match i, hi with
    | 0, hi => cases hi; exact hl.2.2 (0, .ref b) List.mem_cons_self
    | 1, hi => cases hi; cases hg
    | 2, hi => cases hi; cases hg
    | 3, hi => cases hi; cases hg
    | i + 4, hi => cases hi⟩
  intro T hT' Xs
  obtain ⟨t, st, q⟩ := w T hT' Xs
  exact ⟨t, st, q rfl rfl⟩
