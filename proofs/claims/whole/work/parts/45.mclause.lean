/-! model: clauses -/
def camN (cs : List pC) : Nat := cs.foldl (fun m c => m ||| 2 ^ (c.1 + 1)) 0
theorem camN_app {cs : List pC} {c : pC} : camN (cs ++ [c]) = camN cs ||| 2 ^ (c.1 + 1) := by unfold camN; rw [List.foldl_append]; rfl
theorem seenB_app {cs : List pC} {c : pC} {s : Nat} : seenB (cs ++ [c]) s = (seenB cs s || decide (c.1 = s)) := by unfold seenB; simp
theorem bit_or {m i j : Nat} : (m ||| 2 ^ i) / 2 ^ j % 2 = 1 ↔ m / 2 ^ j % 2 = 1 ∨ i = j := by
  have tb : ∀ a, a / 2 ^ j % 2 = 1 ↔ a.testBit j = true := fun a => by
    rw [Nat.testBit_eq_decide_div_mod_eq, decide_eq_true_iff]
  rw [tb, tb, Nat.testBit_or, Bool.or_eq_true, Nat.testBit_two_pow]
  simp
theorem camN_snoc {p : List pC → Prop} (h0 : p []) (h1 : ∀ cs c, p cs → p (cs ++ [c])) : ∀ cs, p cs := by
  intro cs
  have : ∀ n (l : List pC), l.length = n → p l := by
    intro n
    induction n with
    | zero => intro l hl; rw [List.length_eq_zero_iff.mp hl]; exact h0
    | succ n ih =>
      intro l hl
      have hne : l ≠ [] := fun z => by rw [z] at hl; cases hl
      rw [← List.dropLast_concat_getLast hne]
      exact h1 _ _ (ih _ (by rw [List.length_dropLast]; omega))
  exact this cs.length cs rfl
theorem camN_bit {s : Nat} : ∀ cs : List pC, camN cs / 2 ^ (s + 1) % 2 = 1 ↔ seenB cs s = true := by
  apply camN_snoc
  · show 0 / 2 ^ (s + 1) % 2 = 1 ↔ false = true
    rw [Nat.zero_div]; simp
  · intro cs c ih
    rw [camN_app, bit_or, ih, seenB_app, Bool.or_eq_true, decide_eq_true_iff]
    constructor
    · rintro (h | h)
      · exact Or.inl h
      · exact Or.inr (by omega)
    · rintro (h | h)
      · exact Or.inl h
      · exact Or.inr (by omega)
theorem camN_lt : ∀ cs : List pC, (∀ c, c ∈ cs → c.1 ≤ 3) → camN cs < 32 := by
  apply camN_snoc
  · intro _; decide
  · intro cs c ih h
    rw [camN_app]
    have h1 := ih (fun x hx => h x (List.mem_append_left _ hx))
    have h2 := h c (by simp)
    have h3 : 2 ^ (c.1 + 1) < 2 ^ 5 := Nat.pow_lt_pow_right (by decide) (by omega)
    exact Nat.or_lt_two_pow (n := 5) h1 h3
def clD (f : Nat → Int32) (b j : Nat) (c : pC) (cd : List Nat) : Prop := f (b + 1 + 6 * j) = nI (c.1 + 1) ∧ (c.1 = 2 → f (b + 1 + 6 * j + 1) = nI c.2.1) ∧ ∃ s, s + c.2.2.length ≤ cd.length ∧ f (b + 1 + 6 * j + 4) = nI s ∧ f (b + 1 + 6 * j + 5) = nI (s + c.2.2.length) ∧ ∀ i, i < c.2.2.length → cd.getD (s + i) 0 = c.2.2.getD i 0
/-- fields of a reading that may change -/
abbrev LF : List Nat := [18, 21, 22, 23, 24, 27, 28, 29, 31, 32, 33]
/-- a fault at token kf -/
def mFb (tx : Nat → Nat) (n t0 : Nat) (I0 : pvI) (J0 : pvJ) (I : pvI) (J : pvJ) (kf : Nat) : Prop := mfix I0 I [202, 205, 218] ∧ (∀ j, j ∉ LF → I 202 j = I0 202 j) ∧ (∀ x, x ≠ 202 → J x = J0 x) ∧ I 202 22 = nI (tkP tx n kf) ∧ (∀ x, (x < t0 ∨ t0 + 800 ≤ x) → I 205 x = I0 205 x) ∧ (I 202 33 = 0 ∨ I 202 33 = 1)
/-- between clauses, at token k -/
def mX (tx : Nat → Nat) (n t0 : Nat) (I0 : pvI) (J0 : pvJ) (I : pvI) (J : pvJ) (k : Nat) (cs : List pC) (cd : List Nat) : Prop := mFb tx n t0 I0 J0 I J k ∧ (I 202 21 = nI (tkE tx n (tkP tx n k)) ∧ tokR (I 202 23) (I 202 24) (J 202 25) (tkK tx n k)) ∧ (I 202 27 = nI cs.length ∧ I 202 28 = nI cd.length ∧ I 202 29 = nI (camN cs) ∧ I 202 32 = nI 0) ∧ cdA (I 205) t0 cd ∧ (∀ j, j < cs.length → clD (I 205) t0 j (cs.getD j (0, 0, [])) cd) ∧ cs.length ≤ 20 ∧ (∀ c, c ∈ cs → c.1 ≤ 3)
theorem plEx (I : pvI) : ∃ pl : List Nat, I 202 31 = nI pl.length ∧ plA (I 218) pl := by
  obtain ⟨m, hm, he⟩ := wb_of32 (I 202 31)
  refine ⟨(List.range m).map (fun i => (I 218 (m - 1 - i)).toBitVec.toNat), by rw [List.length_map, List.length_range]; exact he, ?_⟩
  intro i hi
  rw [List.length_map, List.length_range] at hi ⊢
  have : ((List.range m).map (fun i => (I 218 (m - 1 - i)).toBitVec.toNat)).getD (m - 1 - i) 0 = (I 218 i).toBitVec.toNat := by
    have h1 : m - 1 - i < m := by omega
    rw [List.getD_eq_getElem?_getD, List.getElem?_map, List.getElem?_range h1]
    simp only [Option.map_some, Option.getD_some]
    rw [show m - 1 - (m - 1 - i) = i by omega]
  rw [this]
  apply Int32.toBitVec_inj.mp
  show _ = BitVec.ofNat 32 _
  simp
section MCL
variable {tx : Nat → Nat} {n t0 : Nat} {I0 : pvI} {J0 : pvJ} {P : pvP} {Q : pvQT}
/-- what holds of a memory behind mS, seen from the reading's beginning -/
theorem mFb_tr {I1 I : pvI} {J1 J : pvJ} {k kf : Nat} {pl : List Nat} {op : Nat} {wh : Bool} {cd : List Nat} (h1 : mfix I0 I1 [202, 205, 218]) (h2 : ∀ j, j ∉ LF → I1 202 j = I0 202 j) (h3 : ∀ x, x ≠ 202 → J1 x = J0 x) (h4 : ∀ x, (x < t0 ∨ t0 + 800 ≤ x) → I1 205 x = I0 205 x) (hs : mS tx n t0 I1 J1 I J kf pl op wh cd) : mFb tx n t0 I0 J0 I J kf :=
  ⟨fun x hx => (hs.fx x hx).trans (h1 x hx), fun j hj => (hs.ff j (by simp at hj ⊢; omega)).trans (h2 j hj), fun x hx => (hs.fj x hx).trans (h3 x hx), hs.pla, fun x hx => (hs.fr5 x (by omega)).trans (h4 x hx), by rw [hs.who]; cases wh <;> simp⟩
theorem okF_An {T : Nat → Nat} {srt : Nat} : ∀ f q k, okF (rdAn T srt n f q k)
  | 0, q, k => fun f kf h => by cases h
  | g + 1, q, k => fun f kf h => by
    have es : rdAn T srt n (g + 1) q k = if T k = 205 then (match rdA T srt n 8 (k + 1) with
      | .ok (q2, k2) => rdAn T srt n g (q ++ q2 ++ [20205]) k2
      | .error x => .error x) else .ok (q, k) := rfl
    rw [es] at h
    split at h
    · cases ho : rdA T srt n 8 (k + 1) with
      | ok v => obtain ⟨e2, k2⟩ := v; rw [ho] at h; exact okF_An g _ _ f kf h
      | error v => rw [ho] at h; cases h; exact okF_A 8 _ _ _ ho
    · cases h
theorem okF_Cj {T : Nat → Nat} {srt : Nat} (k : Nat) : okF (rdCj T srt n k) := by
  intro f kf h
  unfold rdCj at h
  cases ho : rdA T srt n 8 k with
  | ok v => obtain ⟨e2, k2⟩ := v; rw [ho] at h; exact okF_An _ _ _ f kf h
  | error v => rw [ho] at h; cases h; exact okF_A 8 _ _ _ ho
theorem okF_Or {T : Nat → Nat} {srt : Nat} : ∀ f q k, okF (rdOr T srt n f q k)
  | 0, q, k => fun f kf h => by cases h
  | g + 1, q, k => fun f kf h => by
    have es : rdOr T srt n (g + 1) q k = if T k = 204 then (match rdCj T srt n (k + 1) with
      | .ok (q2, k2) => rdOr T srt n g (q ++ q2 ++ [20204]) k2
      | .error x => .error x) else .ok (q, k) := rfl
    rw [es] at h
    split at h
    · cases ho : rdCj T srt n (k + 1) with
      | ok v => obtain ⟨e2, k2⟩ := v; rw [ho] at h; exact okF_Or g _ _ f kf h
      | error v => rw [ho] at h; cases h; exact okF_Cj _ _ _ ho
    · cases h
theorem okF_E {T : Nat → Nat} {srt : Nat} (k : Nat) : okF (rdE T srt n k) := by
  intro f kf h
  unfold rdE at h
  cases ho : rdCj T srt n k with
  | ok v => obtain ⟨e2, k2⟩ := v; rw [ho] at h; exact okF_Or _ _ _ f kf h
  | error v => rw [ho] at h; cases h; exact okF_Cj _ _ _ ho
/-- the clause's inside and its end: from the memory I1 -/
theorem k_body {I1 : pvI} {J1 : pvJ} {k j srt : Nat} {pl : List Nat} {wh : Bool} {cd : List Nat} (hP : pvOkP P) (h0 : mS0 tx n t0 srt I1) (hs : mS tx n t0 I1 J1 I1 J1 k pl 0 wh cd) (hb : cd.length ≤ k) (hkn : k ≤ n) (hj : I1 202 27 = nI j) (hj2 : j < 20)
    (hok : ∀ e k2, rdY (tkK tx n) n srt k = .ok (e, k2) → tkK tx n k2 = 59 → ∀ I2 J2 I3 J3 pl', mS tx n t0 I1 J1 I2 J2 k2 [] 0 true (cd ++ e) → mS tx n t0 I3 J3 I3 J3 (k2 + 1) pl' 0 true (cd ++ e) → (∀ x, x ≠ 202 → x ≠ 205 → I3 x = I2 x) → (∀ x, x ∉ [21, 22, 23, 24, 27] → I3 202 x = I2 202 x) → I3 202 27 = nI (j + 1) → I3 205 = upd (I2 205) (t0 + 1 + 6 * j + 5) (nI (cd ++ e).length) → (∀ x, x ≠ 202 → J3 x = J2 x) → cd.length + e.length ≤ k2 → k < k2 → k2 < n → Q (some (.int (nI 0))) 224 I3 J3 P)
    (bad1 : ∀ f kf, rdY (tkK tx n) n srt k = .error (f, kf) → ∀ I' J' pl' op' wh' cd', mS tx n t0 I1 J1 I' J' kf pl' op' wh' cd' → Q (some (.int (nI f))) 224 I' J' P)
    (bad2 : ∀ e k2, rdY (tkK tx n) n srt k = .ok (e, k2) → tkK tx n k2 ≠ 59 → ∀ I2 J2, mS tx n t0 I1 J1 I2 J2 k2 [] 0 true (cd ++ e) → Q (some (.int (nI 1))) 224 (pvs I2 205 (upd (I2 205) (t0 + 1 + 6 * j + 5) (nI (cd ++ e).length))) J2 P) :
    ∀ v2, pvG mX12_clause (pvR 8 0 0) (pvZ Q 0 0) 159 [.ref 202, .int (nI (t0 + 1 + 6 * j)), v2] [] 0 0 224 I1 J1 P := by
  intro v2
  have f18 := h0.2.2.2.1
  have hn300 := h0.1.2.1
  have ht0 := h0.2.2.1
  have hsr := h0.2.2.2.2
  have fin : ∀ e k2 I2 J2 v2, rdY (tkK tx n) n srt k = .ok (e, k2) → mS tx n t0 I1 J1 I2 J2 k2 [] 0 true (cd ++ e) → cd.length + e.length ≤ k2 → k < k2 → k2 ≤ n → pvG mX12_clause (pvR 8 0 0) (pvZ Q 0 0) 185 [.ref 202, .int (nI (t0 + 1 + 6 * j)), v2] [] 0 0 224 I2 J2 P := by
    intro e k2 I2 J2 v2 he s2 hl hk hk2
    have f28 := s2.wr
    have f27 : I2 202 27 = nI j := by rw [s2.ff 27 (by decide)]; exact hj
    have htk := s2.tok
    by_cases c : tkK tx n k2 = 59
    · skip
      have hkn2 := tkK_lt (tx := tx) (n := n) (k := k2) (by omega)
      have q1 : ∀ I3, I3 = pvs (pvs I2 202 (upd (I2 202) 27 (nI (j + 1)))) 205 (upd (I2 205) (t0 + 1 + 6 * j + 5) (nI (cd ++ e).length)) → mS tx n t0 I3 J2 I3 J2 k2 [] 0 true (cd ++ e) := by
        intro I3 h3
        have e202 : I3 202 = upd (I2 202) 27 (nI (j + 1)) := by rw [h3, pvs_ne (by decide), pvs_eq]
        have e205 : I3 205 = upd (I2 205) (t0 + 1 + 6 * j + 5) (nI (cd ++ e).length) := by rw [h3, pvs_eq]
        have e218 : I3 218 = I2 218 := by rw [h3, pvs_ne (by decide), pvs_ne (by decide)]
        refine mS.mk' (fun _ _ => rfl) (fun _ _ => rfl) (fun _ _ => rfl) ?_ ?_ ?_ ?_ ?_ (fun _ _ => rfl) ?_ ?_ ?_ ?_
        · rw [e202]; exact fld_at (by decide) s2.at'
        · rw [e202]; exact fld_at (by decide) s2.pla
        · rw [e202, fld_at (by decide) rfl, fld_at (by decide) rfl]; exact s2.tok
        · rw [e202]; exact fld_at (by decide) s2.wr
        · rw [e205]
          intro i hi
          have := s2.cod i hi
          exact ⟨fld_at (by omega) this.1, fld_at (by omega) this.2⟩
        · rw [e202]; exact fld_at (by decide) s2.pd
        · rw [e218]; exact s2.pil
        · rw [e202]; exact fld_at (by decide) s2.ops
        · rw [e202]; exact fld_at (by decide) s2.who
      generalize hI3 : pvs (pvs I2 202 (upd (I2 202) 27 (nI (j + 1)))) 205 (upd (I2 205) (t0 + 1 + 6 * j + 5) (nI (cd ++ e).length)) = I3 at *
      have s3 := q1 I3 rfl
      have e202 : I3 202 = upd (I2 202) 27 (nI (j + 1)) := by rw [← hI3, pvs_ne (by decide), pvs_eq]
      have e205 : I3 205 = upd (I2 205) (t0 + 1 + 6 * j + 5) (nI (cd ++ e).length) := by rw [← hI3, pvs_eq]
      have t3 : mTx tx n I3 := ⟨by rw [e202, fld_at (by decide) rfl, s2.ff 17 (by decide)]; exact h0.1.1, h0.1.2.1, fun i hi => by rw [← hI3, pvs_ne (by decide), pvs_ne (by decide), s2.fx 217 (by decide)]; exact h0.1.2.2 i hi⟩
      have nx := t_next (J := J2) hP t3 s3.at' (tkE_b (tkP_b k2)).2.1
      have go : ∀ I4 J4, nxQ tx n (tkE tx n (tkP tx n k2)) I3 J2 I4 J4 → Q (some (.int (nI 0))) 224 I4 J4 P := by
        intro I4 J4 hq
        have s4 := s3.nxt hq
        obtain ⟨g1, g2, g3, g4, g5, g6⟩ := hq
        refine hok e k2 he c I2 J2 I4 J4 [] s2 ?_ (fun x h1 h2 => ?_) (fun x h1 => ?_) ?_ ?_ (fun x h1 => g3 x h1) hl hk hkn2
        · exact mS.mk' (fun _ _ => rfl) (fun _ _ => rfl) (fun _ _ => rfl) s4.at' s4.pla s4.tok s4.wr s4.cod (fun _ _ => rfl) s4.pd s4.pil s4.ops s4.who
        · rw [g1 x (by simpa using h1), ← hI3, pvs_ne h2, pvs_ne h1]
        · rw [g2 x (by simp at h1 ⊢; omega), e202, fld_at (by simp at h1; omega) rfl]
        · rw [g2 27 (by decide), e202]; simp [upd]
        · rw [g1 205 (by decide), e205]
      refine g_aload_n dX12_clause_185 rfl ?_
      refine g_getP dX12_clause_186 fdX12_16 rfl (by first | rfl | exact pv_shx) (by omega) (by omega) (by decide) rfl (hP _ _ _ rfl) ?_
      refine g_iload_n dX12_clause_189 rfl ?_
      refine g_iconst (v := nI 5) dX12_clause_190 (by decide) ?_
      refine n_iadd dX12_clause_191 (by first | (with_reducible exact nI_add _ _) | rfl) ?_
      refine g_aload_n dX12_clause_192 rfl ?_
      refine n_getI dX12_clause_193 fdX12_222 rfl (by first | rfl | exact pv_shx) (by omega) (by omega) (by decide) rfl (by repeat (first | exact f28 | exact f27 | (apply rd_s; done) | apply rd_n (by omega) | apply rp_s | apply rp_n (by omega) | (apply rdL_s; done) | apply rdL_n (by omega) | apply rpJ_s | apply rpJ_n (by omega) | rfl)) ?_
      refine n_iast dX12_clause_196 (by first | rfl | exact pv_shx) (by omega) (by omega) (by omega) (by decide) (rfl) (by omega) (by repeat (first | exact pvu_s | exact pvuJ_s | apply pvu_in (by omega) | apply pvuJ_in (by omega) | exact pvu_pvs | exact pvuJ_pvs)) ?_
      refine g_aload_n dX12_clause_197 rfl ?_
      refine n_getI dX12_clause_198 fdX12_194 rfl (by first | rfl | exact pv_shx) (by omega) (by omega) (by decide) rfl (by repeat (first | exact f28 | exact f27 | (apply rd_s; done) | apply rd_n (by omega) | apply rp_s | apply rp_n (by omega) | (apply rdL_s; done) | apply rdL_n (by omega) | apply rpJ_s | apply rpJ_n (by omega) | rfl)) ?_
      refine g_bipush (v := nI 59) dX12_clause_201 (by decide) ?_
      refine n_icmp_eq 208 dX12_clause_203 (by decide) (tokR_s htk (by decide)) (fun c203 => ?_) (fun c203 => by exfalso; first | omega | exact absurd trivial c203 | exact c203)
      refine g_aload_n dX12_clause_208 rfl ?_
      refine g_dup dX12_clause_209 rfl ?_
      refine n_getI dX12_clause_210 fdX12_302 rfl (by first | rfl | exact pv_shx) (by omega) (by omega) (by decide) rfl (by repeat (first | exact f28 | exact f27 | (apply rd_s; done) | apply rd_n (by omega) | apply rp_s | apply rp_n (by omega) | (apply rdL_s; done) | apply rdL_n (by omega) | apply rpJ_s | apply rpJ_n (by omega) | rfl)) ?_
      refine g_iconst (v := nI 1) dX12_clause_213 (by decide) ?_
      refine n_iadd dX12_clause_214 (by first | (with_reducible exact nI_add _ _) | rfl) ?_
      refine n_putI dX12_clause_215 fdX12_302 rfl (fun h => absurd h (by decide)) (by first | rfl | exact pv_shx) (by omega) (by omega) (by decide) rfl (by repeat (first | exact pvu_s | exact pvuJ_s | apply pvu_in (by omega) | apply pvuJ_in (by omega) | exact pvu_pvs | exact pvuJ_pvs)) ?_
      refine g_aload_n dX12_clause_218 rfl ?_
      rw [hI3]
      refine g_callV (nx) okX12_nextToken lkX12_249 rfl (by first | rfl | exact pv_shx) rfl (by omega) (by omega) dX12_clause_219 rfl (Nat.le_of_ble_eq_true rfl) (⟨by decide, by decide, by decide, by decide⟩) ?_
      rintro w nx' I4 J4 P' ⟨rfl, rfl, rfl, hq⟩
      refine g_iconst (v := nI 0) dX12_clause_222 (by decide) ?_
      exact g_iret dX12_clause_223 rfl (go I4 J4 hq)
    · have b2 := bad2 e k2 he c I2 J2 s2
      refine g_aload_n dX12_clause_185 rfl ?_
      refine g_getP dX12_clause_186 fdX12_16 rfl (by first | rfl | exact pv_shx) (by omega) (by omega) (by decide) rfl (hP _ _ _ rfl) ?_
      refine g_iload_n dX12_clause_189 rfl ?_
      refine g_iconst (v := nI 5) dX12_clause_190 (by decide) ?_
      refine n_iadd dX12_clause_191 (by first | (with_reducible exact nI_add _ _) | rfl) ?_
      refine g_aload_n dX12_clause_192 rfl ?_
      refine n_getI dX12_clause_193 fdX12_222 rfl (by first | rfl | exact pv_shx) (by omega) (by omega) (by decide) rfl (by repeat (first | exact f28 | (apply rd_s; done) | apply rd_n (by omega) | apply rp_s | apply rp_n (by omega) | (apply rdL_s; done) | apply rdL_n (by omega) | apply rpJ_s | apply rpJ_n (by omega) | rfl)) ?_
      refine n_iast dX12_clause_196 (by first | rfl | exact pv_shx) (by omega) (by omega) (by omega) (by decide) (rfl) (by omega) (by repeat (first | exact pvu_s | exact pvuJ_s | apply pvu_in (by omega) | apply pvuJ_in (by omega) | exact pvu_pvs | exact pvuJ_pvs)) ?_
      refine g_aload_n dX12_clause_197 rfl ?_
      refine n_getI dX12_clause_198 fdX12_194 rfl (by first | rfl | exact pv_shx) (by omega) (by omega) (by decide) rfl (by repeat (first | exact f28 | (apply rd_s; done) | apply rd_n (by omega) | apply rp_s | apply rp_n (by omega) | (apply rdL_s; done) | apply rdL_n (by omega) | apply rpJ_s | apply rpJ_n (by omega) | rfl)) ?_
      refine g_bipush (v := nI 59) dX12_clause_201 (by decide) ?_
      refine n_icmp_eq 208 dX12_clause_203 (by decide) (tokR_s htk (by decide)) (fun c203 => by exfalso; first | omega | exact absurd trivial c203 | exact c203) (fun c203 => ?_)
      refine g_iconst (v := nI 1) dX12_clause_206 (by decide) ?_
      exact g_iret dX12_clause_207 rfl (b2)
  by_cases c : srt = 1
  · have hY : rdY (tkK tx n) n srt k = rdS (tkK tx n) n (rdO (tkK tx n) srt n 8) k := if_pos c
    have sm := t_summed' (D := 8) hP h0 hs (by omega) hb hkn
    rw [← hY] at sm
    have hf1 := okF_S (n := n) (T := tkK tx n) (okF_O (T := tkK tx n) (srt := srt) (n := n) 8) k
    rw [← hY] at hf1
    cases hr : rdY (tkK tx n) n srt k with
    | error x =>
      obtain ⟨f, kf⟩ := x
      rw [hr] at sm hf1
      have hf := hf1 f kf rfl
      refine g_aload_n dX12_clause_159 rfl ?_
      refine n_getI dX12_clause_160 fdX12_246 rfl (by first | rfl | exact pv_shx) (by omega) (by omega) (by decide) rfl (by repeat (first | exact f18 | (apply rd_s; done) | apply rd_n (by omega) | apply rp_s | apply rp_n (by omega) | (apply rdL_s; done) | apply rdL_n (by omega) | apply rpJ_s | apply rpJ_n (by omega) | rfl)) ?_
      refine g_iconst (v := nI 2) dX12_clause_163 (by decide) ?_
      refine n_icmp_ne 174 dX12_clause_164 (by decide) (by first | ((with_reducible apply cN_eq) <;> omega) | ((with_reducible apply cI_eqn) <;> omega) | exact Iff.rfl) (fun c164 => by exfalso; first | omega | exact absurd trivial c164 | exact c164) (fun c164 => ?_)
      refine g_aload_n dX12_clause_167 rfl ?_
      refine g_callV (sm) okX12_summed lkX12_285 rfl (by first | rfl | exact pv_shx) rfl (by omega) (by omega) dX12_clause_168 rfl (Nat.le_of_ble_eq_true rfl) (⟨by decide, by decide, by decide, by decide⟩) ?_
      rintro w nx' I2 J2 P' ⟨rfl, rfl, rfl, pl2, op2, wh2, cd2, s2⟩
      refine g_goto 178 dX12_clause_171 (by decide) ?_
      refine g_istore_n dX12_clause_178 (by decide) rfl ?_
      refine g_iload_n dX12_clause_179 rfl ?_
      refine n_if_eq 185 dX12_clause_180 (by decide) (by first | (with_reducible exact cB _) | ((with_reducible apply cN_eq0) <;> omega) | exact Iff.rfl) (fun c180 => by exfalso; first | omega | exact absurd trivial c180 | exact c180) (fun c180 => ?_)
      refine g_iload_n dX12_clause_183 rfl ?_
      exact g_iret dX12_clause_184 rfl (bad1 f kf hr I2 J2 pl2 op2 wh2 cd2 s2)
    | ok x =>
      obtain ⟨e, k2⟩ := x
      rw [hr] at sm
      refine g_aload_n dX12_clause_159 rfl ?_
      refine n_getI dX12_clause_160 fdX12_246 rfl (by first | rfl | exact pv_shx) (by omega) (by omega) (by decide) rfl (by repeat (first | exact f18 | (apply rd_s; done) | apply rd_n (by omega) | apply rp_s | apply rp_n (by omega) | (apply rdL_s; done) | apply rdL_n (by omega) | apply rpJ_s | apply rpJ_n (by omega) | rfl)) ?_
      refine g_iconst (v := nI 2) dX12_clause_163 (by decide) ?_
      refine n_icmp_ne 174 dX12_clause_164 (by decide) (by first | ((with_reducible apply cN_eq) <;> omega) | ((with_reducible apply cI_eqn) <;> omega) | exact Iff.rfl) (fun c164 => by exfalso; first | omega | exact absurd trivial c164 | exact c164) (fun c164 => ?_)
      refine g_aload_n dX12_clause_167 rfl ?_
      refine g_callV (sm) okX12_summed lkX12_285 rfl (by first | rfl | exact pv_shx) rfl (by omega) (by omega) dX12_clause_168 rfl (Nat.le_of_ble_eq_true rfl) (⟨by decide, by decide, by decide, by decide⟩) ?_
      rintro w nx' I2 J2 P' ⟨rfl, rfl, rfl, s2, hl2, hk2, hkn2⟩
      refine g_goto 178 dX12_clause_171 (by decide) ?_
      refine g_istore_n dX12_clause_178 (by decide) rfl ?_
      refine g_iload_n dX12_clause_179 rfl ?_
      refine n_if_eq 185 dX12_clause_180 (by decide) (by first | (with_reducible exact cB _) | ((with_reducible apply cN_eq0) <;> omega) | exact Iff.rfl) (fun c180 => ?_) (fun c180 => by exfalso; first | omega | exact absurd trivial c180 | exact c180)
      exact fin e k2 I2 J2 _ hr s2 hl2 hk2 hkn2
  · have hY : rdY (tkK tx n) n srt k = rdE (tkK tx n) srt n k := if_neg c
    have sm := t_either hP h0 hs hb hkn
    rw [← hY] at sm
    have hf1 := okF_E (n := n) (T := tkK tx n) (srt := srt) k
    rw [← hY] at hf1
    cases hr : rdY (tkK tx n) n srt k with
    | error x =>
      obtain ⟨f, kf⟩ := x
      rw [hr] at sm hf1
      have hf := hf1 f kf rfl
      refine g_aload_n dX12_clause_159 rfl ?_
      refine n_getI dX12_clause_160 fdX12_246 rfl (by first | rfl | exact pv_shx) (by omega) (by omega) (by decide) rfl (by repeat (first | exact f18 | (apply rd_s; done) | apply rd_n (by omega) | apply rp_s | apply rp_n (by omega) | (apply rdL_s; done) | apply rdL_n (by omega) | apply rpJ_s | apply rpJ_n (by omega) | rfl)) ?_
      refine g_iconst (v := nI 2) dX12_clause_163 (by decide) ?_
      refine n_icmp_ne 174 dX12_clause_164 (by decide) (by first | ((with_reducible apply cN_eq) <;> omega) | ((with_reducible apply cI_eqn) <;> omega) | exact Iff.rfl) (fun c164 => ?_) (fun c164 => by exfalso; first | omega | exact absurd trivial c164 | exact c164)
      refine g_aload_n dX12_clause_174 rfl ?_
      refine g_callV (sm) okX12_either lkX12_305 rfl (by first | rfl | exact pv_shx) rfl (by omega) (by omega) dX12_clause_175 rfl (Nat.le_of_ble_eq_true rfl) (⟨by decide, by decide, by decide, by decide⟩) ?_
      rintro w nx' I2 J2 P' ⟨rfl, rfl, rfl, pl2, op2, wh2, cd2, s2⟩
      refine g_istore_n dX12_clause_178 (by decide) rfl ?_
      refine g_iload_n dX12_clause_179 rfl ?_
      refine n_if_eq 185 dX12_clause_180 (by decide) (by first | (with_reducible exact cB _) | ((with_reducible apply cN_eq0) <;> omega) | exact Iff.rfl) (fun c180 => by exfalso; first | omega | exact absurd trivial c180 | exact c180) (fun c180 => ?_)
      refine g_iload_n dX12_clause_183 rfl ?_
      exact g_iret dX12_clause_184 rfl (bad1 f kf hr I2 J2 pl2 op2 wh2 cd2 s2)
    | ok x =>
      obtain ⟨e, k2⟩ := x
      rw [hr] at sm
      refine g_aload_n dX12_clause_159 rfl ?_
      refine n_getI dX12_clause_160 fdX12_246 rfl (by first | rfl | exact pv_shx) (by omega) (by omega) (by decide) rfl (by repeat (first | exact f18 | (apply rd_s; done) | apply rd_n (by omega) | apply rp_s | apply rp_n (by omega) | (apply rdL_s; done) | apply rdL_n (by omega) | apply rpJ_s | apply rpJ_n (by omega) | rfl)) ?_
      refine g_iconst (v := nI 2) dX12_clause_163 (by decide) ?_
      refine n_icmp_ne 174 dX12_clause_164 (by decide) (by first | ((with_reducible apply cN_eq) <;> omega) | ((with_reducible apply cI_eqn) <;> omega) | exact Iff.rfl) (fun c164 => ?_) (fun c164 => by exfalso; first | omega | exact absurd trivial c164 | exact c164)
      refine g_aload_n dX12_clause_174 rfl ?_
      refine g_callV (sm) okX12_either lkX12_305 rfl (by first | rfl | exact pv_shx) rfl (by omega) (by omega) dX12_clause_175 rfl (Nat.le_of_ble_eq_true rfl) (⟨by decide, by decide, by decide, by decide⟩) ?_
      rintro w nx' I2 J2 P' ⟨rfl, rfl, rfl, s2, hl2, hk2, hkn2⟩
      refine g_istore_n dX12_clause_178 (by decide) rfl ?_
      refine g_iload_n dX12_clause_179 rfl ?_
      refine n_if_eq 185 dX12_clause_180 (by decide) (by first | (with_reducible exact cB _) | ((with_reducible apply cN_eq0) <;> omega) | exact Iff.rfl) (fun c180 => ?_) (fun c180 => by exfalso; first | omega | exact absurd trivial c180 | exact c180)
      exact fin e k2 I2 J2 _ hr s2 hl2 hk2 hkn2
end MCL
