/-! The logic's rows: a method's end, its entry, calls. -/
section PVE
variable {M : pvM} {R : Room} {Z : pvZT} {pc : Nat} {ls st : List Value} {kc kn nx : Nat} {I : pvI} {J : pvJ} {P : pvP} {Q : pvQT}
theorem pv_end {X : pvX} {s : State} {args : Array Value} {locs : List Loc} {H : Heap} {v : Option Value} (hS : va_S (pvFree X) s.heap H locs) (hH : pvHd X nx I J P s H) (hQ : Q v nx I J P) (t : State) (ht : t.heap = H) (hW : s.WarmedH t.vm) : pvQ X Q args s (.returned (v.map (pvv X))) t :=
  ⟨v, nx, I, J, P, rfl, hQ, by rw [ht]; exact hH.move hW.alike, hS.F ht⟩
theorem g_iret {x : Int32} (hd : decode M.2.1 pc = .ok (.ireturn, 1)) (hr : M.2.2.2 = some .int) (hQ : Q (some (.int x)) nx I J P) : pvG M R (pvZ Q kc kn) pc ls [.int x] kc kn nx I J P := by
  intro X p l e s m args below meth c0 H locs als hC hL
  obtain ⟨c1, c2, c3, c4, c5, c6, c7, c8, c9, c10, c11, c12, c13⟩ := id hC
  exact W.iret c1 c2 (c4.trans hr) (fun t ht hW => pv_end (v := some (.int x)) c11 c12 hQ t ht hW) (fun q hq => c11.2.2 q hq) hd c5
theorem g_zret {x : Int32} (hx : x = 0 ∨ x = 1) (hd : decode M.2.1 pc = .ok (.ireturn, 1)) (hr : M.2.2.2 = some .boolean) (hQ : Q (some (.int x)) nx I J P) : pvG M R (pvZ Q kc kn) pc ls [.int x] kc kn nx I J P := by
  intro X p l e s m args below meth c0 H locs als hC hL
  obtain ⟨c1, c2, c3, c4, c5, c6, c7, c8, c9, c10, c11, c12, c13⟩ := id hC
  exact W.zret c1 c2 (c4.trans hr) (by rcases hx with rfl | rfl <;> rfl) (fun t ht hW => pv_end (v := some (.int x)) c11 c12 hQ t ht hW) (fun q hq => c11.2.2 q hq) hd c5
theorem g_lret {x : Int64} (hd : decode M.2.1 pc = .ok (.lreturn, 1)) (hr : M.2.2.2 = some .long) (hQ : Q (some (.long x)) nx I J P) : pvG M R (pvZ Q kc kn) pc ls [.long x] kc kn nx I J P := by
  intro X p l e s m args below meth c0 H locs als hC hL
  obtain ⟨c1, c2, c3, c4, c5, c6, c7, c8, c9, c10, c11, c12, c13⟩ := id hC
  exact W.lret c1 c2 (c4.trans hr) (fun t ht hW => pv_end (v := some (.long x)) c11 c12 hQ t ht hW) (fun q hq => c11.2.2 q hq) hd c5
theorem g_vret (hd : decode M.2.1 pc = .ok (.return_, 1)) (hr : M.2.2.2 = none) (hQ : Q none nx I J P) : pvG M R (pvZ Q kc kn) pc ls [] kc kn nx I J P := by
  intro X p l e s m args below meth c0 H locs als hC hL
  obtain ⟨c1, c2, c3, c4, c5, c6, c7, c8, c9, c10, c11, c12, c13⟩ := id hC
  exact W.vret c1 c2 (c4.trans hr) (fun t ht hW => pv_end (v := none) c11 c12 hQ t ht hW) (fun q hq => c11.2.2 q hq) hd c5
theorem g_aret {a : Nat} {C : String} (hd : decode M.2.1 pc = .ok (.areturn, 1)) (hr : M.2.2.2 = some (.object C)) (hQ : Q (some (.ref a)) nx I J P) : pvG M R (pvZ Q kc kn) pc ls [.ref a] kc kn nx I J P := by
  intro X p l e s m args below meth c0 H locs als hC hL
  obtain ⟨c1, c2, c3, c4, c5, c6, c7, c8, c9, c10, c11, c12, c13⟩ := id hC
  exact W.aret c1 c2 (c4.trans hr) (Or.inl ⟨C, rfl⟩) (Or.inr ⟨pvad X a, rfl⟩) (fun t ht hW => pv_end (v := some (.ref a)) c11 c12 hQ t ht hW) (fun q hq => c11.2.2 q hq) hd c5
theorem g_aretN {C : String} (hd : decode M.2.1 pc = .ok (.areturn, 1)) (hr : M.2.2.2 = some (.object C)) (hQ : Q (some .null) nx I J P) : pvG M R (pvZ Q kc kn) pc ls [.null] kc kn nx I J P := by
  intro X p l e s m args below meth c0 H locs als hC hL
  obtain ⟨c1, c2, c3, c4, c5, c6, c7, c8, c9, c10, c11, c12, c13⟩ := id hC
  exact W.aret c1 c2 (c4.trans hr) (Or.inl ⟨C, rfl⟩) (Or.inl rfl) (fun t ht hW => pv_end (v := some .null) c11 c12 hQ t ht hW) (fun q hq => c11.2.2 q hq) hd c5
theorem g_widen {k n : Nat} (h1 : kc ≤ k) (h2 : kn ≤ n) (kk : pvG M R Z pc ls st k n nx I J P) : pvG M R Z pc ls st kc kn nx I J P := fun X p l e s m args below meth c0 H locs als hC hL => W.widen h1 h2 (kk X p l e s m args below meth c0 H locs als hC hL)
end PVE
-- a method's entry
def pvexp (vs : List Value) : List Value := vs.flatMap fun v => if v.category = 2 then [v, .retAddr 0] else [v]
def pvent (vs : List Value) (n : Nat) : List Value := pvexp vs ++ List.replicate (n - (pvexp vs).length) (.retAddr 0)
theorem pvexp_args (X : pvX) : ∀ (vs : List Value) (b : Nat) (i : Nat) (v : Value), (pvexp vs)[i]? = some v → pvgd v = true → (b + i, pvv X v) ∈ lv_args b (vs.map (pvv X))
  | [], b, i, v, h, _ => by simp [pvexp] at h
  | w :: vs, b, i, v, h, hg => by
    have ih := pvexp_args X vs
    show (b + i, pvv X v) ∈ (b, pvv X w) :: lv_args (if (pvv X w).category = 2 then b + 2 else b + 1) (vs.map (pvv X))
    rw [pvcat]
    by_cases hc : w.category = 2
    · rw [if_pos hc]
      have he : pvexp (w :: vs) = w :: .retAddr 0 :: pvexp vs := by simp [pvexp, hc]
      rw [he] at h
      match i, h with
      | 0, h => cases h; exact List.mem_cons_self
      | 1, h => cases h; simp [pvgd] at hg
      | i + 2, h =>
        have := ih (b + 2) i v h hg
        rw [show b + (i + 2) = b + 2 + i by omega]
        exact List.mem_cons_of_mem _ this
    · rw [if_neg hc]
      have he : pvexp (w :: vs) = w :: pvexp vs := by simp [pvexp, hc]
      rw [he] at h
      match i, h with
      | 0, h => cases h; exact List.mem_cons_self
      | i + 1, h =>
        have := ih (b + 1) i v h hg
        rw [show b + (i + 1) = b + 1 + i by omega]
        exact List.mem_cons_of_mem _ this
theorem pvexp_len (X : pvX) (vs : List Value) : (lg_sl (vs.map (pvv X))).length = (pvexp vs).length := by
  induction vs with
  | nil => rfl
  | cons v vs ih =>
    have h1 : lg_sl ((v :: vs).map (pvv X)) = (if (pvv X v).category = 2 then [.val (pvv X v), .second] else [.val (pvv X v)]) ++ lg_sl (vs.map (pvv X)) := by simp [lg_sl]
    have h2 : pvexp (v :: vs) = (if v.category = 2 then [v, .retAddr 0] else [v]) ++ pvexp vs := by simp [pvexp]
    rw [h1, h2, List.length_append, List.length_append, ih, pvcat]
    by_cases hc : v.category = 2 <;> simp [hc]
theorem pvMet.of {M : pvM} {d mc ms : Nat} {vs : List Value} {nx : Nat} {I : pvI} {J : pvJ} {P : pvP} {Q : pvQT} (ls : List Value) (hcls : plainName M.1.cls = true) (hls : pvent vs M.2.2.1 = ls) (hlen : (pvexp vs).length ≤ M.2.2.1) (h : pvG M (pvR d mc ms) (pvZ Q mc ms) 0 ls [] 0 0 nx I J P) : pvMet M d mc ms vs nx I J P Q := by
  intro l X
  refine Met.ofW (cc := M.2.1) (maxL := M.2.2.1) (ret := M.2.2.2) hcls rfl ?_
  intro p e s m args below meth c s₁ B hml hv
  obtain ⟨rfl, hK, hB, hH, hSt⟩ := hv
  have hts := atoms_spec (ws := pvws M) B.pre
  have hown : s.vm.findClass M.1.cls = some m.cls := findClass_of_methodNamed B.named
  have hin : meth.name = M.1.name := (name_of_methodNamed B.named B.method).1
  have hl := lv_entry (vs.map (pvv X)) (n := M.2.2.1) (by rw [pvexp_len]; exact hlen)
  rw [lg_entry_eq]
  refine h X p l e s m _ below meth c s.heap [] _ ⟨B.exec, B.bytes, hml, B.returns, B.notSynchronized, hown, hin, fun w hw => hts w (List.mem_cons_of_mem _ hw), hK, hB, va_S.rf, hH, hSt⟩ ⟨hl.1, hl.2.1, fun i v hi hg => ?_⟩
  subst hls
  unfold pvent at hi
  by_cases hlt : i < (pvexp vs).length
  · rw [List.getElem?_append_left hlt] at hi
    have := hl.2.2 _ (pvexp_args X vs 0 i v hi hg)
    simpa using this
  · rw [List.getElem?_append_right (by omega)] at hi
    have := List.getElem?_eq_some_iff.mp hi
    obtain ⟨_, h2⟩ := this
    rw [List.getElem_replicate] at h2
    subst h2
    simp [pvgd] at hg
theorem pvMet.weaken {M : pvM} {d mc ms : Nat} {vs : List Value} {nx : Nat} {I : pvI} {J : pvJ} {P : pvP} {Q Q' : pvQT} (h : pvMet M d mc ms vs nx I J P Q) (hQ : ∀ v nx I J P, Q v nx I J P → Q' v nx I J P) : pvMet M d mc ms vs nx I J P Q' := by
  intro l X
  have hm := h l X
  intro p e ha hc hk s m args below hf hap hP hK
  obtain ⟨k, o, a1, a2, a3, ⟨v, nx', I', J', P', b1, b2, b3, b4⟩, b5⟩ := hm p e ha hc hk s m args below hf hap hP hK
  exact ⟨k, o, a1, a2, a3, ⟨v, nx', I', J', P', b1, hQ _ _ _ _ _ b2, b3, b4⟩, b5⟩
-- what a callee's words say
def pvOk (M : pvM) (n : Nat) : Prop := Cond.code M.1 M.2.1 M.2.2.1 M.2.2.2 ∈ pv_T ∧ Cond.initialized M.1.cls ∈ pv_T ∧ M.1.cls ≠ "java/lang/invoke/MethodHandle" ∧ M.1.cls ≠ "java/lang/invoke/VarHandle" ∧ (parseMethodDescriptor M.1.desc).map (fun d => d.parameters.length) = some n
def pvLV (own : String) (idx : Nat) (M : pvM) : Prop := Cond.methodLink own idx M.1 ∈ pv_T ∧ Cond.instanceMethod M.1 ∈ pv_T ∧ Cond.selects M.1.cls M.1 M.1 ∈ pv_T
def pvLS (own : String) (idx : Nat) (M : pvM) : Prop := Cond.methodLink own idx M.1 ∈ pv_T ∧ Cond.static M.1 ∈ pv_T
def pvLI (own : String) (idx : Nat) (M : pvM) : Prop := Cond.methodLink own idx M.1 ∈ pv_T ∧ Cond.instanceMethod M.1 ∈ pv_T ∧ M.1.name = "<init>"
def pvNI (own : String) (idx : Nat) (M : pvM) : Prop := (∃ host, Cond.methodLinkNest own idx M.1 host ∈ lw_tbl) ∧ Cond.instanceMethod M.1 ∈ pv_T ∧ M.1.name = "<init>"
def pvNS (own : String) (idx : Nat) (M : pvM) : Prop := (∃ host, Cond.methodLinkNest own idx M.1 host ∈ lw_tbl) ∧ Cond.static M.1 ∈ pv_T
theorem pvPre_blind {X : pvX} {vs : List Value} {nx : Nat} {I : pvI} {J : pvJ} {P : pvP} : FrameBlind (va_Pc vs (pvPre X nx I J P)) := by
  intro a U g mk q
  obtain ⟨q0, qK, qB, qH, qS⟩ := q
  have al : U.vm.Alike (U.calling g mk a).vm := Vm.Alike.refl U.vm
  refine ⟨q0, va_K.moved al qK, qB, qH.move al, ?_⟩
  exact pvStat.move (s := U) (U := U.calling g mk a) (locs := []) (State.WarmedH.refl U) va_S.rf qS
section PVCALL
variable {M : pvM} {R : Room} {Z : pvZT} {pc : Nat} {ls st : List Value} {kc kn nx : Nat} {I : pvI} {J : pvJ} {P : pvP}
theorem pv_after {M2 : pvM} {mc2 ms2 : Nat} {Q2 : pvQT} {st0 : List Value} {X : pvX} {p : Program} {l : Launch} {e : Env} {s : State} {m : MethodId} {args : Array Value} {below : List Frame} {meth : Method} {c : Code} {H : Heap} {locs : List Loc} {als : Array Slot} {av : Array Value}
    (hC : pvC M X nx I J P p s m args meth c H locs) (hL : pvL X M.2.2.1 ls als) (hr : va_Run p l e R s m args below meth c H locs kc kn mc2 ms2 (F0 m pc als st0) (st.map (pvv X)) (pvQ X Q2 av) (pvFree X))
    (kk : ∀ v nx' I' J' P', Q2 v nx' I' J' P' → pvG M R Z (pc + 3) ls (v.toList ++ st) (kc + mc2) (kn + ms2) nx' I' J' P') : W p l e R s m args below meth c H locs kc kn (Z X below args s) (F0 m pc als st0) := by
  intro T hT X'
  obtain ⟨v, st₀, t, T', L, h0, X'', hLf, e1, e2, ⟨v', nx', I', J', P', hv, hQ, hHd, hz, hk⟩, stp⟩ := hr T hT X'
  cases hv
  obtain ⟨c1, c2, c3, c4, c5, c6, c7, c8, c9, c10, c11, c12, c13⟩ := id hC
  rw [h0] at hz hk
  have al : s.vm.Alike t.vm := by rw [← e2]; exact X''.warmed.alike
  have hS' : va_S (pvFree X) s.heap T'.heap (locs ++ L) := ⟨Nat.le_trans c11.1 (by rw [e1]; exact hz), fun q h1 h2 => by rw [e1, hk q (Nat.lt_of_lt_of_le h1 c11.1) h2]; exact c11.2.1 q h1 h2, fun q hq => by
      rcases List.mem_append.mp hq with h | h
      · exact c11.2.2 q h
      · exact hLf q h⟩
  obtain ⟨t2, a1, b1⟩ := kk v' nx' I' J' P' hQ X p l e s m args below meth c T'.heap (locs ++ L) als ⟨c1, c2, c3, c4, c5, c6, c7, c8, c9, c10, hS', by rw [e1]; exact hHd.move al.symm, c13⟩ hL T' rfl X''
  refine ⟨t2, stp t2 ?_, b1⟩
  have hst : (v'.map (pvv X)).toList ++ st.map (pvv X) = (v'.toList ++ st).map (pvv X) := by cases v' <;> simp
  show Steps p.tables e below (T'.setTop { method := m, pc := pc + 3, locals := als, stack := (v'.map (pvv X)).toList ++ st.map (pvv X), locked := none }) t2
  rw [hst]
  exact a1
theorem pv_pre {M2 : pvM} {X : pvX} {vs : List Value} {p : Program} {s : State} {m : MethodId} {args : Array Value} {meth : Method} {c : Code} {H : Heap} {locs : List Loc} (hC : pvC M X nx I J P p s m args meth c H locs) (U : State) (hU : U.heap = H) (hW : s.WarmedH U.vm) : va_Pc (vs.map (pvv X)) (pvPre X nx I J P) ((vs.map (pvv X)).toArray) U := by
  obtain ⟨c1, c2, c3, c4, c5, c6, c7, c8, c9, c10, c11, c12, c13⟩ := id hC
  refine ⟨rfl, va_K.moved hW.alike c9, by rw [hU]; exact Nat.le_trans c10 c11.1, by rw [hU]; exact c12.move hW.alike, ?_⟩
  exact pvStat.move (locs := locs) hW (by rw [hU]; exact c11) c13
theorem pv_CallB {M2 : pvM} {d2 mc2 ms2 n idx : Nat} {own : String} {s : State} {args : Array Value} (c8 : ∀ w ∈ pv_T, w.before args s = true) (hok : pvOk M2 n) (hlk : Cond.methodLink own idx M2.1 ∈ pv_T) (hR : d2 + 1 ≤ R.frames ∧ 8 + (M2.2.2.1 + 11) + 60 * d2 ≤ R.locals) :
    CallB R s args own idx M2.1 M2.2.1 M2.2.2.1 M2.2.2.2 (pvws M2) (pvR d2 mc2 ms2) mc2 ms2 n := by
  obtain ⟨o1, o2, o3, o4, o5⟩ := hok
  refine callB_of n c8 (pv_good fun w hw => ?_) rfl rfl rfl (c8 _ o2) (c8 _ hlk) ⟨o3, o4, o5⟩ hR
  rcases List.mem_cons.mp hw with rfl | h
  · exact o1
  · exact h
theorem pv_mapapp (X : pvX) (vs st : List Value) (a : Nat) : (vs.reverse ++ .ref a :: st).map (pvv X) = (vs.map (pvv X)).reverse ++ .ref (pvad X a) :: st.map (pvv X) := by simp [pvv]
theorem pv_mapcat (X : pvX) (st : List Value) : ((st.map (pvv X)).map fun v => v.category) = st.map fun v => v.category := by
  rw [List.map_map]
  apply List.map_congr_left
  intro v _
  exact pvcat X v
theorem g_callV {M2 : pvM} {n d2 mc2 ms2 idx c nn a : Nat} {vs st0 : List Value} {Q2 : pvQT} (hM : pvMet M2 d2 mc2 ms2 (.ref a :: vs) nx I J P Q2) (hok : pvOk M2 n) (hlk : pvLV M.1.cls idx M2) (hn : vs.length = n) (hsh : pvSH a = (c + 5, nn)) (hcl : (vwCl[c]?).map (fun q => q.1) = some M2.1.cls) (h1 : 1 ≤ a) (h2 : a ≤ nx)
    (hd : decode M.2.1 pc = .ok (.invokevirtual idx, 3)) (hst : st0 = vs.reverse ++ .ref a :: st) (hcat : (st.map fun v => v.category).sum ≤ 8) (hR : d2 + 1 ≤ R.frames ∧ 8 + (M2.2.2.1 + 11) + 60 * d2 ≤ R.locals ∧ kc + mc2 ≤ R.cells ∧ kn + ms2 ≤ R.slots)
    (kk : ∀ v nx' I' J' P', Q2 v nx' I' J' P' → pvG M R Z (pc + 3) ls (v.toList ++ st) (kc + mc2) (kn + ms2) nx' I' J' P') : pvG M R Z pc ls st0 kc kn nx I J P := by
  intro X p l e s m args below meth c0 H locs als hC hL
  obtain ⟨c1, c2, c3, c4, c5, c6, c7, c8, c9, c10, c11, c12, c13⟩ := id hC
  subst hst
  rw [pv_mapapp]
  have he : (pvW X nx I J P)[a - 1]? = some (pvad X a, .inr (c, (List.range nn).map (fun j => pvval X I J P a (pv_kd (pvTy c j)) j))) := by rw [pvat h1 h2 c12.2.2.1, pvE_o hsh]
  obtain ⟨q, hq, hq1⟩ := Option.map_eq_some_iff.mp hcl
  have hrec := va_recv c9 c12.2.2.2.2 hq he
  rw [hq1] at hrec
  refine pv_after (M2 := M2) (mc2 := mc2) (ms2 := ms2) (Q2 := Q2) hC hL (va_runV (n := n) (As := vs.map (pvv X)) ⟨c1, c2, c3, c6, c8⟩ (hM l X) ⟨pv_CallB c8 hok hlk.1 ⟨hR.1, hR.2.1⟩, c8 _ hlk.2.1, c8 _ hlk.2.2⟩ ⟨pvPre_blind, hrec, fun U hU hW => pv_pre (M2 := M2) (vs := .ref a :: vs) hC U hU hW⟩ rfl (by simpa using hn) hL.1 rfl (lv_room (by rw [pv_mapcat]; exact hcat)) hd ⟨hR.2.2.1, hR.2.2.2⟩) kk
theorem g_callS {M2 : pvM} {n d2 mc2 ms2 idx : Nat} {vs st0 : List Value} {Q2 : pvQT} (hM : pvMet M2 d2 mc2 ms2 vs nx I J P Q2) (hok : pvOk M2 n) (hlk : pvLS M.1.cls idx M2) (hn : vs.length = n)
    (hd : decode M.2.1 pc = .ok (.invokestatic idx, 3)) (hst : st0 = vs.reverse ++ st) (hcat : (st.map fun v => v.category).sum ≤ 8) (hR : d2 + 1 ≤ R.frames ∧ 8 + (M2.2.2.1 + 11) + 60 * d2 ≤ R.locals ∧ kc + mc2 ≤ R.cells ∧ kn + ms2 ≤ R.slots)
    (kk : ∀ v nx' I' J' P', Q2 v nx' I' J' P' → pvG M R Z (pc + 3) ls (v.toList ++ st) (kc + mc2) (kn + ms2) nx' I' J' P') : pvG M R Z pc ls st0 kc kn nx I J P := by
  intro X p l e s m args below meth c0 H locs als hC hL
  obtain ⟨c1, c2, c3, c4, c5, c6, c7, c8, c9, c10, c11, c12, c13⟩ := id hC
  subst hst
  rw [List.map_append, List.map_reverse]
  refine pv_after (M2 := M2) (mc2 := mc2) (ms2 := ms2) (Q2 := Q2) hC hL (va_runS (n := n) (As := vs.map (pvv X)) ⟨c1, c2, c3, c6, c8⟩ (hM l X) ⟨pv_CallB c8 hok hlk.1 ⟨hR.1, hR.2.1⟩, c8 _ hlk.2⟩ ⟨pvPre_blind, fun U hU hW => pv_pre (M2 := M2) (vs := vs) hC U hU hW⟩ rfl (by simpa using hn) hL.1 rfl (lv_room (by rw [pv_mapcat]; exact hcat)) hd ⟨hR.2.2.1, hR.2.2.2⟩) kk
theorem g_callI {M2 : pvM} {n d2 mc2 ms2 idx a : Nat} {vs st0 : List Value} {Q2 : pvQT} (hM : pvMet M2 d2 mc2 ms2 (.ref a :: vs) nx I J P Q2) (hok : pvOk M2 n) (hret : M2.2.2.2 = none) (hlk : pvLI M.1.cls idx M2) (hn : vs.length = n)
    (hd : decode M.2.1 pc = .ok (.invokespecial idx, 3)) (hst : st0 = vs.reverse ++ .ref a :: st) (hcat : (st.map fun v => v.category).sum ≤ 8) (hR : d2 + 1 ≤ R.frames ∧ 8 + (M2.2.2.1 + 11) + 60 * d2 ≤ R.locals ∧ kc + mc2 ≤ R.cells ∧ kn + ms2 ≤ R.slots)
    (kk : ∀ v nx' I' J' P', Q2 v nx' I' J' P' → pvG M R Z (pc + 3) ls (v.toList ++ st) (kc + mc2) (kn + ms2) nx' I' J' P') : pvG M R Z pc ls st0 kc kn nx I J P := by
  intro X p l e s m args below meth c0 H locs als hC hL
  obtain ⟨c1, c2, c3, c4, c5, c6, c7, c8, c9, c10, c11, c12, c13⟩ := id hC
  subst hst
  rw [pv_mapapp]
  have hB := pv_CallB (mc2 := mc2) (ms2 := ms2) (R := R) c8 hok hlk.1 ⟨hR.1, hR.2.1⟩
  rw [hret] at hB
  refine pv_after (M2 := M2) (mc2 := mc2) (ms2 := ms2) (Q2 := Q2) hC hL (va_runI (n := n) (As := vs.map (pvv X)) ⟨c1, c2, c3, c6, c8⟩ (hM l X) ⟨hB, hlk.2.2, c8 _ hlk.2.1⟩ ⟨pvPre_blind, fun U hU hW => pv_pre (M2 := M2) (vs := .ref a :: vs) hC U hU hW⟩ rfl (by simpa using hn) hL.1 rfl (lv_room (by rw [pv_mapcat]; exact hcat)) hd ⟨hR.2.2.1, hR.2.2.2⟩) kk
theorem g_callNS {M2 : pvM} {n d2 mc2 ms2 idx : Nat} {vs st0 : List Value} {Q2 : pvQT} (hM : pvMet M2 d2 mc2 ms2 vs nx I J P Q2) (hok : pvOk M2 n) (hlk : pvNS M.1.cls idx M2) (hn : vs.length = n)
    (hd : decode M.2.1 pc = .ok (.invokestatic idx, 3)) (hst : st0 = vs.reverse ++ st) (hcat : (st.map fun v => v.category).sum ≤ 8) (hR : d2 + 1 ≤ R.frames ∧ 8 + (M2.2.2.1 + 11) + 60 * d2 ≤ R.locals ∧ kc + mc2 ≤ R.cells ∧ kn + ms2 ≤ R.slots)
    (kk : ∀ v nx' I' J' P', Q2 v nx' I' J' P' → pvG M R Z (pc + 3) ls (v.toList ++ st) (kc + mc2) (kn + ms2) nx' I' J' P') : pvG M R Z pc ls st0 kc kn nx I J P := by
  intro X p l e s m args below meth c0 H locs als hC hL
  obtain ⟨c1, c2, c3, c4, c5, c6, c7, c8, c9, c10, c11, c12, c13⟩ := id hC
  obtain ⟨⟨host, hh⟩, hstat⟩ := hlk
  obtain ⟨o1, o2, o3, o4, o5⟩ := hok
  subst hst
  rw [List.map_append, List.map_reverse]
  have hG : GoodIn pv_T (pvws M2) := pv_good fun w hw => by
    rcases List.mem_cons.mp hw with rfl | h
    · exact o1
    · exact h
  refine pv_after (M2 := M2) (mc2 := mc2) (ms2 := ms2) (Q2 := Q2) hC hL (va_runSN (n := n) (host := host) (As := vs.map (pvv X)) ⟨c1, c2, c3, c6, c8⟩ (hM l X) ⟨va_cnB n c8 hG rfl rfl rfl (c13.1 _ hh rfl) (c8 _ o2) ⟨o3, o4, o5⟩ ⟨hR.1, hR.2.1⟩, c8 _ hstat, trivial⟩ ⟨pvPre_blind, fun U hU hW => pv_pre (M2 := M2) (vs := vs) hC U hU hW⟩ rfl (by simpa using hn) hL.1 rfl (lv_room (by rw [pv_mapcat]; exact hcat)) hd ⟨hR.2.2.1, hR.2.2.2⟩) kk
theorem g_callNI {M2 : pvM} {n d2 mc2 ms2 idx a : Nat} {vs st0 : List Value} {Q2 : pvQT} (hM : pvMet M2 d2 mc2 ms2 (.ref a :: vs) nx I J P Q2) (hok : pvOk M2 n) (hret : M2.2.2.2 = none) (hlk : pvNI M.1.cls idx M2) (hn : vs.length = n)
    (hd : decode M.2.1 pc = .ok (.invokespecial idx, 3)) (hst : st0 = vs.reverse ++ .ref a :: st) (hcat : (st.map fun v => v.category).sum ≤ 8) (hR : d2 + 1 ≤ R.frames ∧ 8 + (M2.2.2.1 + 11) + 60 * d2 ≤ R.locals ∧ kc + mc2 ≤ R.cells ∧ kn + ms2 ≤ R.slots)
    (kk : ∀ v nx' I' J' P', Q2 v nx' I' J' P' → pvG M R Z (pc + 3) ls (v.toList ++ st) (kc + mc2) (kn + ms2) nx' I' J' P') : pvG M R Z pc ls st0 kc kn nx I J P := by
  intro X p l e s m args below meth c0 H locs als hC hL
  obtain ⟨c1, c2, c3, c4, c5, c6, c7, c8, c9, c10, c11, c12, c13⟩ := id hC
  obtain ⟨⟨host, hh⟩, hinst, hnm⟩ := hlk
  obtain ⟨o1, o2, o3, o4, o5⟩ := hok
  subst hst
  rw [pv_mapapp]
  have hG : GoodIn pv_T (pvws M2) := pv_good fun w hw => by
    rcases List.mem_cons.mp hw with rfl | h
    · exact o1
    · exact h
  have hB := va_cnB (args := args) (R := R) (mc := mc2) (ms := ms2) (rm := pvR d2 mc2 ms2) n c8 hG rfl rfl rfl (c13.1 _ hh rfl) (c8 _ o2) ⟨o3, o4, o5⟩ ⟨hR.1, hR.2.1⟩
  rw [hret] at hB
  refine pv_after (M2 := M2) (mc2 := mc2) (ms2 := ms2) (Q2 := Q2) hC hL (va_runIN (n := n) (host := host) (As := vs.map (pvv X)) ⟨c1, c2, c3, c6, c8⟩ (hM l X) ⟨hB, hnm, c8 _ hinst⟩ ⟨pvPre_blind, fun U hU hW => pv_pre (M2 := M2) (vs := .ref a :: vs) hC U hU hW⟩ rfl (by simpa using hn) hL.1 rfl (lv_room (by rw [pv_mapcat]; exact hcat)) hd ⟨hR.2.2.1, hR.2.2.2⟩) kk
end PVCALL
