/-! what is read is well formed -/
theorem ck_app {e e2 : List Nat} : ∀ {p : Nat × Nat}, ck (e ++ e2) p = (ck e p).bind (ck e2) := by
  induction e with
  | nil => intro p; rfl
  | cons x e ih =>
    intro p
    show (ckI x p.1 p.2).bind (ck (e ++ e2)) = ((ckI x p.1 p.2).bind (ck e)).bind (ck e2)
    cases h : ckI x p.1 p.2 with
    | none => rfl
    | some q => exact ih
def okV (srt : Nat) (e : List Nat) : Prop := (∀ x, x ∈ e → itOk srt x) ∧ ∀ n t, ck e (n, t) = some (n + 1, t)
def okT (srt : Nat) (e : List Nat) : Prop := (∀ x, x ∈ e → itOk srt x) ∧ ∀ t, ck e (0, t) = some (0, t + 1)
theorem okV_2 {srt x : Nat} {e e2 : List Nat} (h1 : okV srt e) (h2 : okV srt e2) (hx : x ∈ itS) (h3 : (itM x).1 ≠ 2) (h4 : (itM x).1 < 10) : okV srt (e ++ e2 ++ [x]) := by
  refine ⟨fun y hy => ?_, fun n t => ?_⟩
  · rcases List.mem_append.mp hy with hy | hy
    · rcases List.mem_append.mp hy with hy | hy
      · exact h1.1 y hy
      · exact h2.1 y hy
    · rw [List.mem_singleton.mp hy]; exact Or.inr (Or.inr hx)
  · have h20 := (itS_ok x hx).1
    rw [ck_app, ck_app, h1.2, Option.bind_some, h2.2, Option.bind_some]
    show (ckI x (n + 1 + 1) t).bind (ck []) = _
    unfold ckI
    rw [if_neg (by omega), if_neg h3, if_pos h4, if_pos (by omega)]
    rfl
theorem okV_m {srt : Nat} {e : List Nat} (h1 : okV srt e) : okV srt (e ++ [40000]) := by
  refine ⟨fun y hy => ?_, fun n t => ?_⟩
  · rcases List.mem_append.mp hy with hy | hy
    · exact h1.1 y hy
    · rw [List.mem_singleton.mp hy]; exact Or.inr (Or.inr (by decide))
  · rw [ck_app, h1.2, Option.bind_some]
    show (ckI 40000 (n + 1) t).bind (ck []) = _
    unfold ckI
    rw [if_neg (by decide), if_pos (by decide), if_pos (by omega)]
    rfl
theorem okT_c {srt x : Nat} {e e2 : List Nat} (h1 : okV srt e) (h2 : okV srt e2) (hx : x ∈ itS) (h3 : 10 ≤ (itM x).1) (h4 : (itM x).1 < 20) : okT srt (e ++ e2 ++ [x]) := by
  refine ⟨fun y hy => ?_, fun t => ?_⟩
  · rcases List.mem_append.mp hy with hy | hy
    · rcases List.mem_append.mp hy with hy | hy
      · exact h1.1 y hy
      · exact h2.1 y hy
    · rw [List.mem_singleton.mp hy]; exact Or.inr (Or.inr hx)
  · have h20 := (itS_ok x hx).1
    rw [ck_app, ck_app, h1.2, Option.bind_some, h2.2, Option.bind_some]
    show (ckI x (0 + 1 + 1) t).bind (ck []) = _
    unfold ckI
    rw [if_neg (by omega), if_neg (by omega), if_neg (by omega), if_pos h4, if_pos (by omega)]
    rfl
theorem okT_n {srt : Nat} {e : List Nat} (h1 : okT srt e) : okT srt (e ++ [20206]) := by
  refine ⟨fun y hy => ?_, fun t => ?_⟩
  · rcases List.mem_append.mp hy with hy | hy
    · exact h1.1 y hy
    · rw [List.mem_singleton.mp hy]; exact Or.inr (Or.inr (by decide))
  · rw [ck_app, h1.2, Option.bind_some]
    show (ckI 20206 0 (t + 1)).bind (ck []) = _
    unfold ckI
    rw [if_neg (by decide), if_neg (by decide), if_neg (by decide), if_neg (by decide), if_pos (by decide), if_pos (by omega)]
    rfl
theorem okT_2 {srt x : Nat} {e e2 : List Nat} (h1 : okT srt e) (h2 : okT srt e2) (hx : x = 20205 ∨ x = 20204) : okT srt (e ++ e2 ++ [x]) := by
  refine ⟨fun y hy => ?_, fun t => ?_⟩
  · rcases List.mem_append.mp hy with hy | hy
    · rcases List.mem_append.mp hy with hy | hy
      · exact h1.1 y hy
      · exact h2.1 y hy
    · rw [List.mem_singleton.mp hy]; exact Or.inr (Or.inr (by rcases hx with rfl | rfl <;> decide))
  · rw [ck_app, ck_app, h1.2, Option.bind_some, h2.2, Option.bind_some]
    show (ckI x 0 (t + 1 + 1)).bind (ck []) = _
    have e1 : ckI x 0 (t + 1 + 1) = some (0, t + 1 + 1 - 1) := by
      rcases hx with rfl | rfl
      · unfold ckI
        rw [if_neg (by decide), if_neg (by decide), if_neg (by decide), if_neg (by decide), if_neg (by decide), if_pos (by omega)]
      · unfold ckI
        rw [if_neg (by decide), if_neg (by decide), if_neg (by decide), if_neg (by decide), if_neg (by decide), if_pos (by omega)]
    rw [e1]
    rfl
section WF
variable {T : Nat → Nat} {srt n : Nat}
theorem wf_atom (hT : ∀ k, T k ≤ 62 ∨ (200 ≤ T k ∧ T k < 215) ∨ 1000 ≤ T k) {k k2 : Nat} {e : List Nat} (h : atomT T srt k = .ok (e, k2)) : okV srt e := by
  unfold atomT at h
  have ht := hT k
  split at h
  · split at h
    · cases h
    · cases h
      refine ⟨fun x hx => ?_, fun n t => ?_⟩
      · rw [List.mem_singleton.mp hx]; exact Or.inl (by omega)
      · show (ckI _ _ _).bind (ck []) = _
        unfold ckI
        rw [if_pos (by omega)]
        rfl
  · split at h
    · split at h
      · cases h
      · rename_i h1 h2 h3
        cases h
        refine ⟨fun x hx => ?_, fun n t => ?_⟩
        · rw [List.mem_singleton.mp hx]; exact Or.inr (Or.inl ⟨T k - 207, by omega, rfl, by simpa using h3⟩)
        · show (ckI _ _ _).bind (ck []) = _
          unfold ckI
          rw [if_pos (by omega)]
          rfl
    · cases h
theorem wf_P {one : Nat → pR} (h1 : ∀ k e k2, one k = .ok (e, k2) → okV srt e) : ∀ f e k e' k', okV srt e → rdP T one f e k = .ok (e', k') → okV srt e'
  | 0, e, k, e', k', he, h => by cases h; exact he
  | f + 1, e, k, e', k', he, h => by
    have es : rdP T one (f + 1) e k = if T k = 42 ∨ T k = 47 then (match one (k + 1) with
      | .ok (e2, k2) => rdP T one f (e ++ e2 ++ [20000 + T k]) k2
      | .error x => .error x) else .ok (e, k) := rfl
    rw [es] at h
    split at h
    · rename_i hk
      cases ho : one (k + 1) with
      | ok v =>
        obtain ⟨e2, k2⟩ := v
        rw [ho] at h
        refine wf_P h1 f _ _ _ _ (okV_2 he (h1 _ _ _ ho) ?_ ?_ ?_) h <;> (rcases hk with hk | hk <;> rw [hk] <;> decide)
      | error v => rw [ho] at h; cases h
    · cases h; exact he
theorem wf_T {one : Nat → pR} (h1 : ∀ k e k2, one k = .ok (e, k2) → okV srt e) {k k' : Nat} {e' : List Nat} (h : rdT T n one k = .ok (e', k')) : okV srt e' := by
  unfold rdT at h
  cases ho : one k with
  | ok v => obtain ⟨e2, k2⟩ := v; rw [ho] at h; exact wf_P h1 _ _ _ _ _ (h1 _ _ _ ho) h
  | error v => rw [ho] at h; cases h
theorem wf_L {one : Nat → pR} (h1 : ∀ k e k2, one k = .ok (e, k2) → okV srt e) : ∀ f e k e' k', okV srt e → rdL T n one f e k = .ok (e', k') → okV srt e'
  | 0, e, k, e', k', he, h => by cases h; exact he
  | f + 1, e, k, e', k', he, h => by
    have es : rdL T n one (f + 1) e k = if T k = 43 ∨ T k = 45 then (match rdT T n one (k + 1) with
      | .ok (e2, k2) => rdL T n one f (e ++ e2 ++ [20000 + T k]) k2
      | .error x => .error x) else .ok (e, k) := rfl
    rw [es] at h
    split at h
    · rename_i hk
      cases ho : rdT T n one (k + 1) with
      | ok v =>
        obtain ⟨e2, k2⟩ := v
        rw [ho] at h
        refine wf_L h1 f _ _ _ _ (okV_2 he (wf_T h1 ho) ?_ ?_ ?_) h <;> (rcases hk with hk | hk <;> rw [hk] <;> decide)
      | error v => rw [ho] at h; cases h
    · cases h; exact he
theorem wf_S {one : Nat → pR} (h1 : ∀ k e k2, one k = .ok (e, k2) → okV srt e) {k k' : Nat} {e' : List Nat} (h : rdS T n one k = .ok (e', k')) : okV srt e' := by
  unfold rdS at h
  cases ho : rdT T n one k with
  | ok v => obtain ⟨e2, k2⟩ := v; rw [ho] at h; exact wf_L h1 _ _ _ _ _ (wf_T h1 ho) h
  | error v => rw [ho] at h; cases h
theorem wf_O (hT : ∀ k, T k ≤ 62 ∨ (200 ≤ T k ∧ T k < 215) ∨ 1000 ≤ T k) : ∀ D k e k2, rdO T srt n D k = .ok (e, k2) → okV srt e
  | 0, k, e, k2, h => by
    have es : rdO T srt n 0 k = if T k = 40 ∨ T k = 45 then .error (3, k) else atomT T srt k := rfl
    rw [es] at h
    split at h
    · cases h
    · exact wf_atom hT h
  | D + 1, k, e, k2, h => by
    have es : rdO T srt n (D + 1) k = if T k = 40 then (match rdS T n (rdO T srt n D) (k + 1) with
      | .ok (e, k2) => if T k2 = 41 then .ok (e, k2 + 1) else .error (1, k2)
      | .error x => .error x) else if T k = 45 then (match rdO T srt n D (k + 1) with
      | .ok (e, k2) => .ok (e ++ [40000], k2)
      | .error x => .error x) else atomT T srt k := rfl
    rw [es] at h
    split at h
    · cases ho : rdS T n (rdO T srt n D) (k + 1) with
      | ok v =>
        obtain ⟨e2, k3⟩ := v
        rw [ho] at h
        dsimp only at h
        split at h
        · cases h; exact wf_S (wf_O hT D) ho
        · cases h
      | error v => rw [ho] at h; cases h
    · split at h
      · cases ho : rdO T srt n D (k + 1) with
        | ok v =>
          obtain ⟨e2, k3⟩ := v
          rw [ho] at h
          cases h
          exact okV_m (wf_O hT D _ _ _ ho)
        | error v => rw [ho] at h; cases h
      · exact wf_atom hT h
theorem cmp_it {t : Nat} (h : isCmp t = true) : 20000 + t ∈ itS ∧ 10 ≤ (itM (20000 + t)).1 ∧ (itM (20000 + t)).1 < 20 := by
  unfold isCmp at h
  rw [decide_eq_true_iff] at h
  rcases h with rfl | rfl | rfl | rfl | rfl | rfl <;> decide
theorem wf_C1 (hT : ∀ k, T k ≤ 62 ∨ (200 ≤ T k ∧ T k < 215) ∨ 1000 ≤ T k) {D k k2 : Nat} {e : List Nat} (h : rdC1 T srt n D k = .ok (e, k2)) : okT srt e := by
  unfold rdC1 at h
  cases ho : rdS T n (rdO T srt n D) k with
  | ok v =>
    obtain ⟨e1, k1⟩ := v
    rw [ho] at h
    dsimp only at h
    split at h
    · rename_i hc
      cases ho2 : rdS T n (rdO T srt n D) (k1 + 1) with
      | ok v =>
        obtain ⟨e2, k3⟩ := v
        rw [ho2] at h
        cases h
        have := cmp_it hc
        exact okT_c (wf_S (wf_O hT D) ho) (wf_S (wf_O hT D) ho2) this.1 this.2.1 this.2.2
      | error v => rw [ho2] at h; cases h
    · cases h
  | error v => rw [ho] at h; cases h
theorem wf_A (hT : ∀ k, T k ≤ 62 ∨ (200 ≤ T k ∧ T k < 215) ∨ 1000 ≤ T k) : ∀ D k e k2, rdA T srt n D k = .ok (e, k2) → okT srt e
  | 0, k, e, k2, h => by
    have es : rdA T srt n 0 k = if T k = 206 then .error (3, k) else rdC1 T srt n 0 k := rfl
    rw [es] at h
    split at h
    · cases h
    · exact wf_C1 hT h
  | D + 1, k, e, k2, h => by
    have es : rdA T srt n (D + 1) k = if T k = 206 then (match rdA T srt n D (k + 1) with
      | .ok (q, k2) => .ok (q ++ [20206], k2)
      | .error x => .error x) else rdC1 T srt n (D + 1) k := rfl
    rw [es] at h
    split at h
    · cases ho : rdA T srt n D (k + 1) with
      | ok v =>
        obtain ⟨e2, k3⟩ := v
        rw [ho] at h
        cases h
        exact okT_n (wf_A hT D _ _ _ ho)
      | error v => rw [ho] at h; cases h
    · exact wf_C1 hT h
theorem wf_An (hT : ∀ k, T k ≤ 62 ∨ (200 ≤ T k ∧ T k < 215) ∨ 1000 ≤ T k) : ∀ f q k e' k', okT srt q → rdAn T srt n f q k = .ok (e', k') → okT srt e'
  | 0, q, k, e', k', hq, h => by cases h; exact hq
  | f + 1, q, k, e', k', hq, h => by
    have es : rdAn T srt n (f + 1) q k = if T k = 205 then (match rdA T srt n 8 (k + 1) with
      | .ok (q2, k2) => rdAn T srt n f (q ++ q2 ++ [20205]) k2
      | .error x => .error x) else .ok (q, k) := rfl
    rw [es] at h
    split at h
    · cases ho : rdA T srt n 8 (k + 1) with
      | ok v => obtain ⟨e2, k2⟩ := v; rw [ho] at h; exact wf_An hT f _ _ _ _ (okT_2 hq (wf_A hT 8 _ _ _ ho) (Or.inl rfl)) h
      | error v => rw [ho] at h; cases h
    · cases h; exact hq
theorem wf_Cj (hT : ∀ k, T k ≤ 62 ∨ (200 ≤ T k ∧ T k < 215) ∨ 1000 ≤ T k) {k k' : Nat} {e' : List Nat} (h : rdCj T srt n k = .ok (e', k')) : okT srt e' := by
  unfold rdCj at h
  cases ho : rdA T srt n 8 k with
  | ok v => obtain ⟨e2, k2⟩ := v; rw [ho] at h; exact wf_An hT _ _ _ _ _ (wf_A hT 8 _ _ _ ho) h
  | error v => rw [ho] at h; cases h
theorem wf_Or (hT : ∀ k, T k ≤ 62 ∨ (200 ≤ T k ∧ T k < 215) ∨ 1000 ≤ T k) : ∀ f q k e' k', okT srt q → rdOr T srt n f q k = .ok (e', k') → okT srt e'
  | 0, q, k, e', k', hq, h => by cases h; exact hq
  | f + 1, q, k, e', k', hq, h => by
    have es : rdOr T srt n (f + 1) q k = if T k = 204 then (match rdCj T srt n (k + 1) with
      | .ok (q2, k2) => rdOr T srt n f (q ++ q2 ++ [20204]) k2
      | .error x => .error x) else .ok (q, k) := rfl
    rw [es] at h
    split at h
    · cases ho : rdCj T srt n (k + 1) with
      | ok v => obtain ⟨e2, k2⟩ := v; rw [ho] at h; exact wf_Or hT f _ _ _ _ (okT_2 hq (wf_Cj hT ho) (Or.inr rfl)) h
      | error v => rw [ho] at h; cases h
    · cases h; exact hq
theorem wf_E (hT : ∀ k, T k ≤ 62 ∨ (200 ≤ T k ∧ T k < 215) ∨ 1000 ≤ T k) {k k' : Nat} {e' : List Nat} (h : rdE T srt n k = .ok (e', k')) : okT srt e' := by
  unfold rdE at h
  cases ho : rdCj T srt n k with
  | ok v => obtain ⟨e2, k2⟩ := v; rw [ho] at h; exact wf_Or hT _ _ _ _ _ (wf_Cj hT ho) h
  | error v => rw [ho] at h; cases h
end WF
/-- clauses as they are read -/
def clOk (c : pC) : Prop := c.1 ≤ 3 ∧ c.2.1 ≤ 9 ∧ (c.1 = 1 → okV c.1 c.2.2) ∧ (c.1 ≠ 1 → okT c.1 c.2.2)
def csOk (cs : List pC) : Prop := ∀ c, c ∈ cs → clOk c
section WF2
variable {T : Nat → Nat} {n : Nat}
theorem wf_B (hT : ∀ k, T k ≤ 62 ∨ (200 ≤ T k ∧ T k < 215) ∨ 1000 ≤ T k) {s o k k2 : Nat} {c : pC} (hs : s ≤ 3) (ho : o ≤ 9) (h : rdB T n s o k = .ok (c, k2)) : clOk c := by
  unfold rdB at h
  cases hy : rdY T n s k with
  | error v => rw [hy] at h; cases h
  | ok v =>
    obtain ⟨e, k1⟩ := v
    rw [hy] at h
    dsimp only at h
    unfold rdY at hy
    split at h
    · cases h
      refine ⟨hs, ho, fun h1 => ?_, fun h1 => ?_⟩
      · rw [if_pos h1] at hy; exact wf_S (wf_O hT 8) hy
      · rw [if_neg h1] at hy; exact wf_E hT hy
    · cases h
theorem wf_C (hT : ∀ k, T k ≤ 62 ∨ (200 ≤ T k ∧ T k < 215) ∨ 1000 ≤ T k) {cs : List pC} {k k2 : Nat} {c : pC} (h : rdC T n cs k = .ok (c, k2)) : clOk c := by
  unfold rdC at h
  split at h
  · cases h
  · rename_i h1
    split at h
    · cases h
    · split at h
      · cases h
      · split at h
        · split at h
          · cases h
          · split at h
            · cases h
            · exact wf_B hT (by decide) (by omega) h
        · exact wf_B hT (by omega) (by decide) h
theorem wf_X (hT : ∀ k, T k ≤ 62 ∨ (200 ≤ T k ∧ T k < 215) ∨ 1000 ≤ T k) : ∀ f cs k cs' k', csOk cs → rdX T n f cs k = .ok (cs', k') → csOk cs'
  | 0, cs, k, cs', k', hc, h => by cases h; exact hc
  | f + 1, cs, k, cs', k', hc, h => by
    have es : rdX T n (f + 1) cs k = if T k = 0 then .ok (cs, k) else (match rdC T n cs k with
      | .ok (c, k2) => rdX T n f (cs ++ [c]) k2
      | .error x => .error x) := rfl
    rw [es] at h
    split at h
    · cases h; exact hc
    · cases ho : rdC T n cs k with
      | ok v =>
        obtain ⟨c, k2⟩ := v
        rw [ho] at h
        refine wf_X hT f _ _ _ _ (fun d hd => ?_) h
        rcases List.mem_append.mp hd with hd | hd
        · exact hc d hd
        · rw [List.mem_singleton.mp hd]; exact wf_C hT ho
      | error v => rw [ho] at h; cases h
end WF2
theorem tkK_b {tx : Nat → Nat} {n : Nat} (k : Nat) : tkK tx n k ≤ 62 ∨ (200 ≤ tkK tx n k ∧ tkK tx n k < 215) ∨ 1000 ≤ tkK tx n k := by
  unfold tkK tkT
  split
  · exact Or.inl (by decide)
  · split
    · exact Or.inr (Or.inr (by omega))
    · split
      · unfold wdT
        rcases wdF_lt (tx := tx) (p := tkP tx n k) (len := rn isLt tx n (tkP tx n k) - tkP tx n k) 15 with h | ⟨j, h1, h2, -⟩
        · rw [h]; exact Or.inl (by decide)
        · rw [h2]; exact Or.inr (Or.inl (by omega))
      · split
        · split <;> exact Or.inl (by decide)
        · split
          · rename_i h; exact Or.inl (sg_lt h)
          · exact Or.inl (by decide)
theorem wf_all {tx : Nat → Nat} {n : Nat} {cs : List pC} {k : Nat} (h : rdAll (tkK tx n) n = .ok (cs, k)) : csOk cs := wf_X tkK_b _ _ _ _ _ (fun c hc => absurd hc List.not_mem_nil) h
