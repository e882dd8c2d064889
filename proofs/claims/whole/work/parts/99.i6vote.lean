/-! class: votes -/
theorem noL_mem {a : Nat → Int32} {yb : Nat → Bool} {y : Nat} : ∀ n, y ∈ noL a yb n ↔ ∃ p, p < n ∧ sp_here a p ∧ yb p = false ∧ cnt a (1200 + 5 * p + 2) = y
  | 0 => ⟨fun h => absurd h List.not_mem_nil, fun ⟨p, h, _⟩ => absurd h (Nat.not_lt_zero p)⟩
  | n + 1 => by
    have ih := noL_mem (a := a) (yb := yb) (y := y) n
    show y ∈ noL a yb n ++ (if sp_here a n ∧ yb n = false then [cnt a (1200 + 5 * n + 2)] else []) ↔ _
    rw [List.mem_append, ih]
    constructor
    · rintro (⟨p, h1, h2⟩ | h)
      · exact ⟨p, by omega, h2⟩
      · split at h
        · rename_i c; rw [List.mem_singleton] at h; exact ⟨n, by omega, c.1, c.2, h.symm⟩
        · exact absurd h List.not_mem_nil
    · rintro ⟨p, h1, h2, h3, h4⟩
      by_cases e : p = n
      · subst e; right; rw [if_pos ⟨h2, h3⟩, h4]; exact List.mem_singleton.mpr rfl
      · exact Or.inl ⟨p, by omega, h2, h3, h4⟩
theorem noL_cong {a : Nat → Int32} {yb yb' : Nat → Bool} : ∀ n, (∀ p, p < n → yb' p = yb p) → noL a yb' n = noL a yb n
  | 0, _ => rfl
  | n + 1, h => by
    show noL a yb' n ++ (if sp_here a n ∧ yb' n = false then [cnt a (1200 + 5 * n + 2)] else []) = noL a yb n ++ (if sp_here a n ∧ yb n = false then [cnt a (1200 + 5 * n + 2)] else [])
    rw [noL_cong n (fun p hp => h p (by omega)), h n (by omega)]
theorem noL_take {a : Nat → Int32} {yb yb' : Nat → Bool} {b : Nat} (hb : sp_here a b ∧ yb b = false) (h1 : yb' b = true) (h2 : ∀ p, p ≠ b → yb' p = yb p) : ∀ n, b < n → (noL a yb n).Perm (cnt a (1200 + 5 * b + 2) :: noL a yb' n)
  | 0, h => absurd h (Nat.not_lt_zero b)
  | n + 1, h => by
    show (noL a yb n ++ (if sp_here a n ∧ yb n = false then [cnt a (1200 + 5 * n + 2)] else [])).Perm (cnt a (1200 + 5 * b + 2) :: (noL a yb' n ++ (if sp_here a n ∧ yb' n = false then [cnt a (1200 + 5 * n + 2)] else [])))
    by_cases e : b = n
    · subst e
      rw [if_pos hb, if_neg (fun z => by rw [h1] at z; cases z.2), List.append_nil, noL_cong (yb := yb) (yb' := yb') b (fun p hp => h2 p (by omega))]
      exact List.perm_append_comm
    · have ih := noL_take hb h1 h2 n (by omega)
      rw [h2 n (fun z => e z.symm)]
      exact ih.append_right _
section VOT
variable {w h : Nat} {a : Nat → Int32} {cl : Nat → List pC} {I : pvI} {J : pvJ} {P : pvP}
theorem kB.per {p : Nat} (hb : kB w h a I J) (hp : p < cnt a 6) : (cnt a (1200 + 5 * p) < cnt a 5 ∧ I 33 p = nI (cnt a (1200 + 5 * p))) ∧ (cnt a (1200 + 5 * p + 1) ≤ 9 ∧ I 34 p = nI (cnt a (1200 + 5 * p + 1))) ∧ (cnt a (1200 + 5 * p + 2) ≤ 9999 ∧ I 35 p = nI (cnt a (1200 + 5 * p + 2))) ∧ (cnt a (1200 + 5 * p + 3) ≤ 9999 ∧ I 36 p = nI (cnt a (1200 + 5 * p + 3))) := by
  have n5 := hb.n5.1
  obtain ⟨y1, y2, y3, y4, y5⟩ := hb.2.1.2.2.2.2.1.2.2.2.1 p hp
  obtain ⟨⟨v1, u1, t1⟩, ⟨v2, u2, t2⟩, ⟨v3, u3, t3⟩, ⟨v4, u4, t4⟩, -⟩ := hb.2.2.2.2.2.2.1.1 p hp
  rw [cnt_of t1 (by omega), cnt_of t2 (by omega), cnt_of t3 (by omega), cnt_of t4 (by omega)]
  exact ⟨⟨u1, y1.trans t1⟩, ⟨by omega, y2.trans t2⟩, ⟨by omega, y3.trans t3⟩, ⟨by omega, y4.trans t4⟩⟩
end VOT
