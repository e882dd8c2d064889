/-! class: the reader's words: String.length, String.charAt -/
section STR
variable {M : pvM} {R : Room} {Z : pvZT} {pc : Nat} {ls st : List Value} {kc kn nx : Nat} {I : pvI} {J : pvJ} {P : pvP}
theorem fl_38 : Cond.fieldLink "java/lang/String" 38 "java/lang/String" "COMPACT_STRINGS" "Z" ∈ pv_T := pv_in (List.mem_of_getElem? (i := 1051) (by decide +kernel)) rfl
theorem fl_15 : Cond.fieldLink "java/lang/String" 15 "java/lang/String" "coder" "B" ∈ pv_T := pv_in (List.mem_of_getElem? (i := 1869) (by decide +kernel)) rfl
theorem fl_9 : Cond.fieldLink "java/lang/String" 9 "java/lang/String" "value" "[B" ∈ pv_T := pv_in (List.mem_of_getElem? (i := 1868) (by decide +kernel)) rfl
theorem fl_1053 : Cond.fieldLink "java/lang/String" 1053 "jdk/internal/util/Preconditions" "SIOOBE_FORMATTER" "Ljava/util/function/BiFunction;" ∈ pv_T := pv_in (List.mem_of_getElem? (i := 1067) (by decide +kernel)) rfl
theorem g_ldcS (ho : M.1.cls = "SeamFire$Reader") (hd : decode M.2.1 pc = .ok (.ldc 80, 2)) (kk : pvG M R Z (pc + 2) ls (.ref 1000 :: st) kc kn nx I J P) : pvG M R Z pc ls st kc kn nx I J P := by
  intro X p l e s m args below meth c0 H locs als hC hL
  obtain ⟨c1, c2, c3, c4, c5, c6, c7, c8, c9, c10, c11, c12, c13⟩ := id hC
  exact va_ldcS c1 c2 (own := "SeamFire$Reader") (by rw [← ho]; exact c6) c13.2.1 hd (kk X p l e s m args below meth c0 H locs als hC hL)
theorem g_compact (ho : M.1.cls = "java/lang/String") (hd : decode M.2.1 pc = .ok (.getstatic 38, 3)) (kk : pvG M R Z (pc + 3) ls (.int 1 :: st) kc kn nx I J P) : pvG M R Z pc ls st kc kn nx I J P := by
  intro X p l e s m args below meth c0 H locs als hC hL
  obtain ⟨c1, c2, c3, c4, c5, c6, c7, c8, c9, c10, c11, c12, c13⟩ := id hC
  exact va_gets c1 c2 c13.2.2.2.1 c11 (own := "java/lang/String") (by rw [← ho]; exact c6) (c8 _ fl_38) (fun x h => h) hd (kk X p l e s m args below meth c0 H locs als hC hL)
theorem g_coder (ho : M.1.cls = "java/lang/String") (hd : decode M.2.1 pc = .ok (.getfield 15, 3)) (kk : pvG M R Z (pc + 3) ls (.int 0 :: st) kc kn nx I J P) : pvG M R Z pc ls (.ref 1000 :: st) kc kn nx I J P := by
  intro X p l e s m args below meth c0 H locs als hC hL
  obtain ⟨c1, c2, c3, c4, c5, c6, c7, c8, c9, c10, c11, c12, c13⟩ := id hC
  obtain ⟨adK, adV, hK0, hS⟩ := c13.2.2.1
  have h := (hS.1 0 (by decide)).2.1
  rw [hK0] at h
  exact vk_getf c1 c2 h c11 (own := "java/lang/String") (by rw [← ho]; exact c6) (c8 _ fl_15) (fun x h => h) hd (kk X p l e s m args below meth c0 H locs als hC hL)
theorem g_strLen (ho : M.1.cls = "java/lang/String") (hd : decode M.2.1 pc = .ok (.getfield 9, 3)) (hd2 : decode M.2.1 (pc + 3) = .ok (.arraylength, 1)) (kk : pvG M R Z (pc + 3 + 1) ls (.int (nI 74) :: st) kc kn nx I J P) : pvG M R Z pc ls (.ref 1000 :: st) kc kn nx I J P := by
  intro X p l e s m args below meth c0 H locs als hC hL
  obtain ⟨c1, c2, c3, c4, c5, c6, c7, c8, c9, c10, c11, c12, c13⟩ := id hC
  obtain ⟨adK, adV, hK0, hS⟩ := c13.2.2.1
  obtain ⟨-, -, h, hT⟩ := hS.1 0 (by decide)
  rw [hK0] at h
  exact vk_getf c1 c2 h c11 (own := "java/lang/String") (by rw [← ho]; exact c6) (c8 _ fl_9) (fun x h => h) hd (va_tlen c1 c2 hT c11 (v := nI 74) rfl hd2 (kk X p l e s m args below meth c0 H locs als hC hL))
theorem g_callStr {M2 : pvM} {n d2 idx : Nat} {vs st0 : List Value} {Q2 : pvQT} (hM : pvMet M2 d2 0 0 (.ref 1000 :: vs) nx I J P Q2) (hok : pvOk M2 n) (hlk : pvLV M.1.cls idx M2) (hn : vs.length = n) (hcl : M2.1.cls = "java/lang/String")
    (hd : decode M.2.1 pc = .ok (.invokevirtual idx, 3)) (hst : st0 = vs.reverse ++ .ref 1000 :: st) (hcat : (st.map fun v => v.category).sum ≤ 8) (hR : d2 + 1 ≤ R.frames ∧ 8 + (M2.2.2.1 + 11) + 60 * d2 ≤ R.locals ∧ kc + 0 ≤ R.cells ∧ kn + 0 ≤ R.slots)
    (kk : ∀ v nx' I' J' P', Q2 v nx' I' J' P' → pvG M R Z (pc + 3) ls (v.toList ++ st) (kc + 0) (kn + 0) nx' I' J' P') : pvG M R Z pc ls st0 kc kn nx I J P := by
  intro X p l e s m args below meth c0 H locs als hC hL
  obtain ⟨c1, c2, c3, c4, c5, c6, c7, c8, c9, c10, c11, c12, c13⟩ := id hC
  obtain ⟨adK, adV, hK0, hS⟩ := c13.2.2.1
  have hrec := vk_recv hS (i := 0) (by decide) c11
  rw [hK0, ← hcl] at hrec
  subst hst
  rw [pv_mapapp]
  exact pv_after (M2 := M2) (mc2 := 0) (ms2 := 0) (Q2 := Q2) hC hL (va_runV (n := n) (As := vs.map (pvv X)) ⟨c1, c2, c3, c6, c8⟩ (hM l X) ⟨pv_CallB c8 hok hlk.1 ⟨hR.1, hR.2.1⟩, c8 _ hlk.2.1, c8 _ hlk.2.2⟩ ⟨pvPre_blind, hrec, fun U hU hW => pv_pre (M2 := M2) (vs := .ref 1000 :: vs) hC U hU hW⟩ rfl (by simpa using hn) hL.1 rfl (lv_room (by rw [pv_mapcat]; exact hcat)) hd ⟨hR.2.2.1, hR.2.2.2⟩) kk
theorem p_callStr {M2 : pvM} {n d2 idx : Nat} {vs st0 : List Value} {v0 : Value} (hM : pvMet M2 d2 0 0 (.ref 1000 :: vs) nx I J P (pvpu v0 nx I J P)) (hok : pvOk M2 n) (hlk : pvLV M.1.cls idx M2) (hn : vs.length = n) (hcl : M2.1.cls = "java/lang/String")
    (hd : decode M.2.1 pc = .ok (.invokevirtual idx, 3)) (hst : st0 = vs.reverse ++ .ref 1000 :: st) (hcat : (st.map fun v => v.category).sum ≤ 8) (hR : d2 + 1 ≤ R.frames ∧ 8 + (M2.2.2.1 + 11) + 60 * d2 ≤ R.locals ∧ kc + 0 ≤ R.cells ∧ kn + 0 ≤ R.slots)
    (kk : pvG M R Z (pc + 3) ls (v0 :: st) kc kn nx I J P) : pvG M R Z pc ls st0 kc kn nx I J P :=
  g_callStr hM hok hlk hn hcl hd hst hcat hR (by rintro v nx' I' J' P' ⟨rfl, rfl, rfl, rfl, rfl⟩; exact kk)
/-- a method whose arguments stand at any places -/
theorem met_raw {Q : pvQT} {d : Nat} {l : Launch} {X : pvX} {vr : List Value} (ls : List Value) (hcls : plainName M.1.cls = true) (hlen : (lg_sl vr).length ≤ M.2.2.1) (hls : ∀ i v, ls[i]? = some v → pvgd v = true → (i, pvv X v) ∈ lv_args 0 vr) (h : pvG M (pvR d 0 0) (pvZ Q 0 0) 0 ls [] 0 0 nx I J P) : Met l M.1 (pvws M) (pvR d 0 0) (va_Pc vr (pvPre X nx I J P)) (pvQ X Q) 0 0 (pvFree X) := by
  refine Met.ofW (cc := M.2.1) (maxL := M.2.2.1) (ret := M.2.2.2) hcls rfl ?_
  intro p e s m args below meth c s₁ B hml hv
  obtain ⟨rfl, hK, hB, hH, hSt⟩ := hv
  have hts := atoms_spec (ws := pvws M) B.pre
  have hown : s.vm.findClass M.1.cls = some m.cls := findClass_of_methodNamed B.named
  have hin : meth.name = M.1.name := (name_of_methodNamed B.named B.method).1
  have hl := lv_entry vr (n := M.2.2.1) hlen
  rw [lg_entry_eq]
  refine h X p l e s m _ below meth c s.heap [] _ ⟨B.exec, B.bytes, hml, B.returns, B.notSynchronized, hown, hin, fun w hw => hts w (List.mem_cons_of_mem _ hw), hK, hB, va_S.rf, hH, hSt⟩ ⟨hl.1, hl.2.1, fun i v hi hg => ?_⟩
  exact hl.2.2 _ (hls i v hi hg)
theorem r_chk3 {i L : Nat} {z : Value} (hi : i < L) (hL : L < 2 ^ 31) (hz : (lg_sl [.int (nI i), .int (nI L), z]).length ≤ 3) (l : Launch) (X : pvX) : Met l mJ3_checkIndex_8e157.1 (pvws mJ3_checkIndex_8e157) (pvR 0 0 0) (va_Pc [.int (nI i), .int (nI L), z] (pvPre X nx I J P)) (pvQ X (pvpu (.int (nI i)) nx I J P)) 0 0 (pvFree X) := by
  refine met_raw [.int (nI i), .int (nI L), .retAddr 0] (by decide) hz (fun j v hj hg => ?_) ?_
  · match j, hj with
    | 0, hj => cases hj; exact List.mem_cons_self
    | 1, hj => cases hj; exact List.mem_cons_of_mem _ List.mem_cons_self
    | 2, hj => cases hj; cases hg
    | j + 3, hj => cases hj
  · skip
    refine g_iload_n dJ3_checkIndex_8e157_0 rfl ?_
    refine n_if_lt 9 dJ3_checkIndex_8e157_1 (by decide) (by first | ((with_reducible apply cN_lt0) <;> omega) | (with_reducible exact cI_lt0)) (fun c1 => by exfalso; first | omega | exact absurd trivial c1 | exact c1 | (simp at c1)) (fun c1 => ?_)
    refine g_iload_n dJ3_checkIndex_8e157_4 rfl ?_
    refine g_iload_n dJ3_checkIndex_8e157_5 rfl ?_
    refine n_icmp_lt 16 dJ3_checkIndex_8e157_6 (by decide) (by first | ((with_reducible apply cN_lt) <;> omega) | ((with_reducible apply cI_ltn) <;> omega) | ((with_reducible apply cI_nlt) <;> omega) | (with_reducible exact cI_lt)) (fun c6 => ?_) (fun c6 => by exfalso; first | omega | exact absurd trivial c6 | exact c6 | (simp at c6))
    refine g_iload_n dJ3_checkIndex_8e157_16 rfl ?_
    exact g_iret dJ3_checkIndex_8e157_17 rfl (⟨rfl, rfl, rfl, rfl, rfl⟩)
theorem pv_preR {X : pvX} {vr : List Value} {p : Program} {s : State} {m : MethodId} {args : Array Value} {meth : Method} {c : Code} {H : Heap} {locs : List Loc} (hC : pvC M X nx I J P p s m args meth c H locs) (U : State) (hU : U.heap = H) (hW : s.WarmedH U.vm) : va_Pc vr (pvPre X nx I J P) vr.toArray U := by
  obtain ⟨c1, c2, c3, c4, c5, c6, c7, c8, c9, c10, c11, c12, c13⟩ := id hC
  refine ⟨rfl, va_K.moved hW.alike c9, by rw [hU]; exact Nat.le_trans c10 c11.1, by rw [hU]; exact c12.move hW.alike, ?_⟩
  exact pvStat.move (locs := locs) hW (by rw [hU]; exact c11) c13
def pvun (nx : Nat) (I : pvI) (J : pvJ) (P : pvP) : pvQT := fun v nx' I' J' P' => v = none ∧ nx' = nx ∧ I' = I ∧ J' = J ∧ P' = P
theorem g_chk {i L : Nat} (hi : i < L) (hL2 : L < 2 ^ 31) (ho : M.1.cls = "java/lang/String") (hd : decode M.2.1 pc = .ok (.getstatic 1053, 3)) (hd2 : decode M.2.1 (pc + 3) = .ok (.invokestatic 1059, 3)) (hR : 0 + 1 ≤ R.frames ∧ 8 + (mJ3_checkIndex_8e157.2.2.1 + 11) + 60 * 0 ≤ R.locals) (hc : kc ≤ R.cells) (hs : kn ≤ R.slots)
    (kk : pvG M R Z (pc + 3 + 3) ls [.int (nI i)] kc kn nx I J P) : pvG M R Z pc ls [.int (nI L), .int (nI i)] kc kn nx I J P := by
  intro X p l e s m args below meth c0 H locs als hC hL
  obtain ⟨c1, c2, c3, c4, c5, c6, c7, c8, c9, c10, c11, c12, c13⟩ := id hC
  have hown : s.vm.findClass "java/lang/String" = some m.cls := by rw [← ho]; exact c6
  have go : ∀ z : Value, (lg_sl [.int (nI i), .int (nI L), z]).length ≤ 3 → W p l e R s m args below meth c0 H locs kc kn (Z X below args s) (F0 m (pc + 3) als (z :: [Value.int (nI L), Value.int (nI i)])) := fun z hz =>
    pv_after (M2 := mJ3_checkIndex_8e157) (mc2 := 0) (ms2 := 0) (Q2 := pvpu (.int (nI i)) nx I J P) (st := []) hC hL (va_runS (n := 3) (As := [.int (nI i), .int (nI L), z]) ⟨c1, c2, c3, hown, c8⟩ (r_chk3 hi hL2 hz l X) ⟨pv_CallB c8 okJ3_checkIndex_8e157 lkJ0_1059.1 hR, c8 _ lkJ0_1059.2⟩ ⟨pvPre_blind, fun U hU hW => pv_preR hC U hU hW⟩ rfl rfl hL.1 rfl (lv_room (Nat.zero_le _)) hd2 ⟨hc, hs⟩) (by rintro v nx' I' J' P' ⟨rfl, rfl, rfl, rfl, rfl⟩; exact kk)
  rcases c13.2.2.2.2.1 with h | ⟨t, h⟩
  · exact va_gets c1 c2 h c11 hown (c8 _ fl_1053) (fun x h => h) hd (go .null (Nat.le_refl _))
  · exact va_gets c1 c2 h c11 hown (c8 _ fl_1053) (fun x h => h) hd (go (.ref t) (Nat.le_refl _))
theorem c_chk {i L : Nat} (hi : i < L) (hL2 : L < 2 ^ 31) : pvMet mJ0_checkIndex_df160 1 0 0 [.int (nI i), .int (nI L)] nx I J P (pvun nx I J P) := by
  refine pvMet.of _ (by decide) rfl (Nat.le_of_ble_eq_true rfl) ?_
  refine g_iload_n dJ0_checkIndex_df160_0 rfl ?_
  refine g_iload_n dJ0_checkIndex_df160_1 rfl ?_
  refine g_chk hi hL2 rfl dJ0_checkIndex_df160_2 dJ0_checkIndex_df160_5 (by decide) (by decide) (by decide) ?_
  refine g_pop dJ0_checkIndex_df160_8 rfl ?_
  exact g_vret dJ0_checkIndex_df160_9 rfl ⟨rfl, rfl, rfl, rfl, rfl⟩
/-- after a call, with the locals as they were -/
theorem pv_afterR {M2 : pvM} {Q2 : pvQT} {st0 : List Value} {X : pvX} {p : Program} {l : Launch} {e : Env} {s : State} {m : MethodId} {args : Array Value} {below : List Frame} {meth : Method} {c : Code} {H : Heap} {locs : List Loc} {als : Array Slot} {av : Array Value} {Q : State → Prop}
    (hC : pvC M X nx I J P p s m args meth c H locs) (hr : va_Run p l e R s m args below meth c H locs kc kn 0 0 (F0 m pc als st0) (st.map (pvv X)) (pvQ X Q2 av) (pvFree X))
    (kk : ∀ v nx' I' J' P' H' locs', Q2 v nx' I' J' P' → pvC M X nx' I' J' P' p s m args meth c H' locs' → W p l e R s m args below meth c H' locs' kc kn Q (F0 m (pc + 3) als ((v.toList ++ st).map (pvv X)))) : W p l e R s m args below meth c H locs kc kn Q (F0 m pc als st0) := by
  intro T hT X'
  obtain ⟨v, st₀, t, T', L, h0, X'', hLf, e1, e2, ⟨v', nx', I', J', P', hv, hQ, hHd, hz, hk⟩, stp⟩ := hr T hT X'
  cases hv
  obtain ⟨c1, c2, c3, c4, c5, c6, c7, c8, c9, c10, c11, c12, c13⟩ := id hC
  rw [h0] at hz hk
  have al : s.vm.Alike t.vm := by rw [← e2]; exact X''.warmed.alike
  have hS' : va_S (pvFree X) s.heap T'.heap (locs ++ L) := ⟨Nat.le_trans c11.1 (by rw [e1]; exact hz), fun q h1 h2 => by rw [e1, hk q (Nat.lt_of_lt_of_le h1 c11.1) h2]; exact c11.2.1 q h1 h2, fun q hq => by
      rcases List.mem_append.mp hq with h | h
      · exact c11.2.2 q h
      · exact hLf q h⟩
  obtain ⟨t2, a1, b1⟩ := kk v' nx' I' J' P' T'.heap (locs ++ L) hQ ⟨c1, c2, c3, c4, c5, c6, c7, c8, c9, c10, hS', by rw [e1]; exact hHd.move al.symm, c13⟩ T' rfl X''
  refine ⟨t2, stp t2 ?_, b1⟩
  have hst : (v'.map (pvv X)).toList ++ st.map (pvv X) = (v'.toList ++ st).map (pvv X) := by cases v' <;> simp
  show Steps p.tables e below (T'.setTop { method := m, pc := pc + 3, locals := als, stack := (v'.map (pvv X)).toList ++ st.map (pvv X), locked := none }) t2
  rw [hst]
  exact a1
def chP (X : pvX) (t nx : Nat) (I : pvI) (J : pvJ) (P : pvP) (U : State) : Prop := pvPre X nx I J P U ∧ va_T .byte t 74 (fun j => .int (pv_bytes.getD j 0)) (pvFree X) U U.heap
theorem chP_blind {X : pvX} {t : Nat} {vs : List Value} : FrameBlind (va_Pc vs (chP X t nx I J P)) := by
  intro a U g mk q
  obtain ⟨q0, q1, qT⟩ := q
  have al : U.vm.Alike (U.calling g mk a).vm := Vm.Alike.refl U.vm
  exact ⟨q0, ((pvPre_blind (vs := vs)) a U g mk ⟨q0, q1⟩).2, va_T.moved al qT⟩
theorem byt_ok : ∀ i, i < 74 → ((pv_bytes.getD i 0 &&& nI 255).toUInt32 % 65536).toInt32 = pv_bytes.getD i 0 ∧ narrow .char (.int (pv_bytes.getD i 0)) = .int (pv_bytes.getD i 0) := by decide +kernel
theorem r_charAt {i : Nat} (hi : i < 74) (l : Launch) (X : pvX) (t : Nat) : Met l mJ1_charAt_3b067.1 (pvws mJ1_charAt_3b067) (pvR 2 0 0) (va_Pc [.ref t, .int (nI i)] (chP X t nx I J P)) (pvQ X (pvpu (.int (pv_bytes.getD i 0)) nx I J P)) 0 0 (pvFree X) := by
  refine Met.ofW (cc := mJ1_charAt_3b067.2.1) (maxL := mJ1_charAt_3b067.2.2.1) (ret := mJ1_charAt_3b067.2.2.2) (by decide) rfl ?_
  intro p e s m args below meth c s₁ B hml hv
  obtain ⟨rfl, ⟨hK, hB, hH, hSt⟩, hT⟩ := hv
  have hts := atoms_spec (ws := pvws mJ1_charAt_3b067) B.pre
  have hown : s.vm.findClass mJ1_charAt_3b067.1.cls = some m.cls := findClass_of_methodNamed B.named
  have hin : meth.name = mJ1_charAt_3b067.1.name := (name_of_methodNamed B.named B.method).1
  have hl := lv_entry [.ref t, .int (nI i)] (n := mJ1_charAt_3b067.2.2.1) (Nat.le_refl 2)
  rw [lg_entry_eq]
  have a0 := hl.2.2 (0, .ref t) List.mem_cons_self
  have a1 := hl.2.2 (1, .int (nI i)) (List.mem_cons_of_mem _ List.mem_cons_self)
  have hsz := hl.1
  have hC : pvC mJ1_charAt_3b067 X nx I J P p s m [Value.ref t, Value.int (nI i)].toArray meth c s.heap [] := ⟨B.exec, B.bytes, hml, B.returns, B.notSynchronized, hown, hin, fun w hw => hts w (List.mem_cons_of_mem _ hw), hK, hB, va_S.rf, hH, hSt⟩
  generalize (lg_sl [Value.ref t, Value.int (nI i)] ++ List.replicate (mJ1_charAt_3b067.2.2.1 - (lg_sl [Value.ref t, Value.int (nI i)]).length) Slot.unset).toArray = als at *
  have c1 := hC.1
  have c2 := hC.2.1
  have c8 := hC.2.2.2.2.2.2.2.1
  refine lv_iload_n c1 c2 dJ1_charAt_3b067_0 rfl a1 ?_
  refine lv_aload_n c1 c2 dJ1_charAt_3b067_1 rfl a0 ?_
  refine va_tlen c1 c2 hT va_S.rf (v := nI 74) rfl dJ1_charAt_3b067_2 ?_
  refine pv_afterR (M2 := mJ0_checkIndex_df160) (Q2 := pvun nx I J P) (st := []) hC (va_runS (n := 2) (As := [.int (nI i), .int (nI 74)]) ⟨c1, c2, hC.2.2.1, hown, c8⟩ (c_chk hi (by decide) l X) ⟨pv_CallB c8 okJ0_checkIndex_df160 lkJ1_9.1 (by decide), c8 _ lkJ1_9.2⟩ ⟨pvPre_blind, fun U hU hW => pv_preR hC U hU hW⟩ rfl rfl hsz rfl (lv_room (Nat.zero_le _)) dJ1_charAt_3b067_3 ⟨by decide, by decide⟩) ?_
  rintro v nx' I' J' P' H' locs' ⟨rfl, rfl, rfl, rfl, rfl⟩ hC'
  obtain ⟨o1, o2⟩ := byt_ok i hi
  have hin2 : vp_in (nI i) 74 := vp_in_nI hi (by decide)
  refine lv_aload_n c1 c2 dJ1_charAt_3b067_6 rfl a0 ?_
  refine lv_iload_n c1 c2 dJ1_charAt_3b067_7 rfl a1 ?_
  refine va_tb c1 c2 hT hC'.2.2.2.2.2.2.2.2.2.2.1 hin2 (v := .int (pv_bytes.getD i 0)) (by rw [nI_clamp (by omega)]) dJ1_charAt_3b067_8 ?_
  refine lv_sipush c1 c2 dJ1_charAt_3b067_9 (v := nI 255) (by decide) ?_
  refine lv_iand c1 c2 dJ1_charAt_3b067_12 ?_
  refine lv_i2c c1 c2 dJ1_charAt_3b067_13 o1 ?_
  exact W.zret c1 c2 (ty := .char) hC.2.2.2.1 o2 (fun t ht hW => pv_end (v := some (.int (pv_bytes.getD i 0))) hC'.2.2.2.2.2.2.2.2.2.2.1 hC'.2.2.2.2.2.2.2.2.2.2.2.1 ⟨rfl, rfl, rfl, rfl, rfl⟩ t ht hW) (fun q hq => hC'.2.2.2.2.2.2.2.2.2.2.1.2.2 q hq) dJ1_charAt_3b067_14 hC.2.2.2.2.1
theorem g_bret {Q : pvQT} {x : Int32} {ty : FieldType} (hx : narrow ty (.int x) = .int x) (hd : decode M.2.1 pc = .ok (.ireturn, 1)) (hr : M.2.2.2 = some ty) (hQ : Q (some (.int x)) nx I J P) : pvG M R (pvZ Q kc kn) pc ls [.int x] kc kn nx I J P := by
  intro X p l e s m args below meth c0 H locs als hC hL
  obtain ⟨c1, c2, c3, c4, c5, c6, c7, c8, c9, c10, c11, c12, c13⟩ := id hC
  exact W.zret c1 c2 (c4.trans hr) hx (fun t ht hW => pv_end (v := some (.int x)) c11 c12 hQ t ht hW) (fun q hq => c11.2.2 q hq) hd c5
theorem c_coder : pvMet mJ0_coder_7d493 0 0 0 [.ref 1000] nx I J P (pvpu (.int 0) nx I J P) := by
  refine pvMet.of _ (by decide) rfl (Nat.le_of_ble_eq_true rfl) ?_
  refine g_compact rfl dJ0_coder_7d493_0 ?_
  refine n_if_eq 13 dJ0_coder_7d493_3 (by decide) (q := False) (by decide) (fun h => h.elim) (fun _ => ?_)
  refine g_aload_n dJ0_coder_7d493_6 rfl ?_
  refine g_coder rfl dJ0_coder_7d493_7 ?_
  refine g_goto 14 dJ0_coder_7d493_10 (by decide) ?_
  exact g_bret (ty := .byte) (by decide) dJ0_coder_7d493_14 rfl ⟨rfl, rfl, rfl, rfl, rfl⟩
theorem c_isLatin1 : pvMet mJ0_isLatin1_aae02 0 0 0 [.ref 1000] nx I J P (pvpu (.int 1) nx I J P) := by
  refine pvMet.of _ (by decide) rfl (Nat.le_of_ble_eq_true rfl) ?_
  refine g_compact rfl dJ0_isLatin1_aae02_0 ?_
  refine n_if_eq 17 dJ0_isLatin1_aae02_3 (by decide) (q := False) (by decide) (fun h => h.elim) (fun _ => ?_)
  refine g_aload_n dJ0_isLatin1_aae02_6 rfl ?_
  refine g_coder rfl dJ0_isLatin1_aae02_7 ?_
  refine n_if_ne 17 dJ0_isLatin1_aae02_10 (by decide) (q := True) (by decide) (fun h => (h trivial).elim) (fun _ => ?_)
  refine g_iconst (v := nI 1) dJ0_isLatin1_aae02_13 (by decide) ?_
  refine g_goto 18 dJ0_isLatin1_aae02_14 (by decide) ?_
  exact g_zret (Or.inr rfl) dJ0_isLatin1_aae02_18 rfl ⟨rfl, rfl, rfl, rfl, rfl⟩
theorem c_strLength : pvMet mJ0_length_8abf5 1 0 0 [.ref 1000] nx I J P (pvpu (.int (nI 74)) nx I J P) := by
  refine pvMet.of _ (by decide) rfl (Nat.le_of_ble_eq_true rfl) ?_
  refine g_aload_n dJ0_length_8abf5_0 rfl ?_
  refine g_strLen rfl dJ0_length_8abf5_1 dJ0_length_8abf5_4 ?_
  refine g_aload_n dJ0_length_8abf5_5 rfl ?_
  refine p_callStr c_coder okJ0_coder_7d493 lkJ0_335 rfl rfl dJ0_length_8abf5_6 rfl (Nat.le_of_ble_eq_true rfl) ⟨by decide, by decide, by decide, by decide⟩ ?_
  refine n_ishr dJ0_length_8abf5_9 (v := nI 74) (by decide) ?_
  exact g_iret dJ0_length_8abf5_10 rfl ⟨rfl, rfl, rfl, rfl, rfl⟩
theorem g_chAt {i : Nat} (hi : i < 74) (ho : M.1.cls = "java/lang/String") (h1 : ls[1]? = some (.int (nI i))) (hd : decode M.2.1 pc = .ok (.getfield 9, 3)) (hd2 : decode M.2.1 (pc + 3) = .ok (.iload_n 1, 1)) (hd3 : decode M.2.1 (pc + 3 + 1) = .ok (.invokestatic 495, 3)) (hR : 2 + 1 ≤ R.frames ∧ 8 + (mJ1_charAt_3b067.2.2.1 + 11) + 60 * 2 ≤ R.locals) (hc : kc ≤ R.cells) (hs : kn ≤ R.slots)
    (kk : pvG M R Z (pc + 3 + 1 + 3) ls [.int (pv_bytes.getD i 0)] kc kn nx I J P) : pvG M R Z pc ls [.ref 1000] kc kn nx I J P := by
  intro X p l e s m args below meth c0 H locs als hC hL
  obtain ⟨c1, c2, c3, c4, c5, c6, c7, c8, c9, c10, c11, c12, c13⟩ := id hC
  have hown : s.vm.findClass "java/lang/String" = some m.cls := by rw [← ho]; exact c6
  obtain ⟨adK, adV, hK0, hS⟩ := c13.2.2.1
  obtain ⟨-, -, h, hT⟩ := hS.1 0 (by decide)
  rw [hK0] at h
  refine vk_getf c1 c2 h c11 hown (c8 _ fl_9) (fun x h => h) hd ?_
  refine lv_iload_n c1 c2 hd2 rfl (hL.2.2 _ _ h1 rfl) ?_
  exact pv_after (M2 := mJ1_charAt_3b067) (mc2 := 0) (ms2 := 0) (Q2 := pvpu (.int (pv_bytes.getD i 0)) nx I J P) (st := []) hC hL (va_runS (n := 2) (As := [.ref (adV 0), .int (nI i)]) ⟨c1, c2, c3, hown, c8⟩ (r_charAt hi l X (adV 0)) ⟨pv_CallB c8 okJ1_charAt_3b067 lkJ0_495.1 hR, c8 _ lkJ0_495.2⟩ ⟨chP_blind, fun U hU hW => ⟨rfl, (pv_preR (vr := []) hC U hU hW).2, va_T.moved hW.alike (by rw [hU]; exact va_T.kept hT c11.2.1)⟩⟩ rfl rfl hL.1 rfl (lv_room (Nat.zero_le _)) hd3 ⟨hc, hs⟩) (by rintro v nx' I' J' P' ⟨rfl, rfl, rfl, rfl, rfl⟩; exact kk)
theorem c_charAt {i : Nat} (hi : i < 74) : pvMet mJ0_charAt_5068e 3 0 0 [.ref 1000, .int (nI i)] nx I J P (pvpu (.int (pv_bytes.getD i 0)) nx I J P) := by
  refine pvMet.of _ (by decide) rfl (Nat.le_of_ble_eq_true rfl) ?_
  refine g_aload_n dJ0_charAt_5068e_0 rfl ?_
  refine p_callStr c_isLatin1 okJ0_isLatin1_aae02 lkJ0_492 rfl rfl dJ0_charAt_5068e_1 rfl (Nat.le_of_ble_eq_true rfl) ⟨by decide, by decide, by decide, by decide⟩ ?_
  refine n_if_eq 16 dJ0_charAt_5068e_4 (by decide) (q := False) (by decide) (fun h => h.elim) (fun _ => ?_)
  refine g_aload_n dJ0_charAt_5068e_7 rfl ?_
  refine g_chAt hi rfl rfl dJ0_charAt_5068e_8 dJ0_charAt_5068e_11 dJ0_charAt_5068e_12 (by decide) (by decide) (by decide) ?_
  exact g_bret (ty := .char) (byt_ok i hi).2 dJ0_charAt_5068e_15 rfl ⟨rfl, rfl, rfl, rfl, rfl⟩
end STR
