/-! class: the least gift; vote -/
theorem noL_cong2 {a : Nat → Int32} {yb yb' : Nat → Bool} : ∀ n, (∀ p, p < n → sp_here a p → yb' p = yb p) → noL a yb' n = noL a yb n
  | 0, _ => rfl
  | n + 1, h => by
    show noL a yb' n ++ (if sp_here a n ∧ yb' n = false then [cnt a (1200 + 5 * n + 2)] else []) = noL a yb n ++ (if sp_here a n ∧ yb n = false then [cnt a (1200 + 5 * n + 2)] else [])
    rw [noL_cong2 n (fun p hp => h p (by omega))]
    by_cases c : sp_here a n
    · rw [h n (by omega) c]
    · rw [if_neg (fun z => c z.1), if_neg (fun z => c z.1)]
theorem there_eq {a : Nat → Int32} {yb : Nat → Bool} : ∀ n, sp_ct (poP a (-1)) n = sp_ct (yeP a yb) n + (noL a yb n).length
  | 0 => rfl
  | n + 1 => by
    have ih := there_eq (a := a) (yb := yb) n
    show sp_ct (poP a (-1)) n + (if poP a (-1) n then 1 else 0) = sp_ct (yeP a yb) n + (if yeP a yb n then 1 else 0) + (noL a yb n ++ (if sp_here a n ∧ yb n = false then [cnt a (1200 + 5 * n + 2)] else [])).length
    rw [ih, List.length_append]
    by_cases c : sp_here a n
    · rw [if_pos (show poP a (-1) n from ⟨Or.inl rfl, c⟩)]
      by_cases hy : yb n = true
      · rw [if_pos (show yeP a yb n from ⟨c, hy⟩), if_neg (fun z => by have y := z.2; rw [hy] at y; cases y)]
        show _ = _ + 1 + (_ + 0)
        omega
      · rw [if_neg (fun z => hy z.2), if_pos ⟨c, by simpa using hy⟩]
        show _ = _ + 0 + (_ + 1)
        omega
    · rw [if_neg (fun z => c z.2), if_neg (fun z => c z.1), if_neg (fun z => c z.1)]
      show _ = _ + 0 + (_ + 0)
      omega
section GIF
variable {w h : Nat} {a : Nat → Int32} {cl : Nat → List pC} {I : pvI} {J : pvJ} {P : pvP}
abbrev elg (a : Nat → Int32) (sy : Nat → Bool) (p : Nat) : Prop := sp_here a p ∧ sy p = false
def giI (a : Nat → Int32) (sy : Nat → Bool) (I I1 : pvI) : Prop := (∀ x, x ≠ 201 → I1 x = I x) ∧ syA (I1 201) sy (cnt a 6)
theorem c_cheap {Y N K s q : Nat} {sy : Nat → Bool} {I1 : pvI} {Z : pvZT} (hP : pvOkP P) (hb : kB w h a I J) (hs : giI a sy I I1) (hne : ∃ b, b < cnt a 6 ∧ elg a sy b)
    (kk : ∀ b, b < cnt a 6 → elg a sy b → (∀ p, p < cnt a 6 → elg a sy p → cnt a (1200 + 5 * b + 2) ≤ cnt a (1200 + 5 * p + 2)) → pvG mX11_leastGift (pvR 1 0 0) Z 118 [.ref 1, .int (nI Y), .int (nI N), .int (nI K), .int (nI s), .int (nI q), .int (nI b), .retAddr 0] [] 0 0 224 I1 J P) :
    ∀ r p c, p + r = cnt a 6 → (c = none ∧ (∀ p', p' < p → ¬ elg a sy p') ∨ ∃ b, c = some b ∧ b < p ∧ elg a sy b ∧ ∀ p', p' < p → elg a sy p' → cnt a (1200 + 5 * b + 2) ≤ cnt a (1200 + 5 * p' + 2)) → pvG mX11_leastGift (pvR 1 0 0) Z 33 [.ref 1, .int (nI Y), .int (nI N), .int (nI K), .int (nI s), .int (nI q), .int (stv c), .int (nI p)] [] 0 0 224 I1 J P := by
  obtain ⟨n6, r6⟩ := hb.n6
  have hk1 : kB w h a I1 J := hb.far (fun x hx => hs.1 x (by omega)) (fun _ _ => rfl)
  have r61 : I1 27 6 = nI (cnt a 6) := by rw [hs.1 27 (by decide)]; exact r6
  have e1 : ((-1 : Int32) = -1) ↔ True := by decide
  intro r
  induction r with
  | zero =>
    intro p c hp hc
    obtain rfl : p = cnt a 6 := by omega
    rcases hc with ⟨rfl, h2⟩ | ⟨b, rfl, b1, b2, b3⟩
    · obtain ⟨b, b1, b2⟩ := hne
      exact absurd b2 (h2 b b1)
    · have go := kk b b1 b2 b3
      show pvG _ _ _ _ [_, _, _, _, _, _, .int (nI b), _] _ _ _ _ _ _ _
      refine g_iload dX11_leastGift_33 rfl ?_
      refine g_aload_n dX11_leastGift_35 rfl ?_
      refine g_getP dX11_leastGift_36 fdX11_32 rfl (by first | rfl | exact pv_shx) (by omega) (by omega) (by decide) rfl (hP _ _ _ rfl) ?_
      refine g_getP dX11_leastGift_39 fdX11_277 rfl (by first | rfl | exact pv_shx) (by omega) (by omega) (by decide) rfl (hP _ _ _ rfl) ?_
      refine n_getI dX11_leastGift_42 fdX11_294 rfl (by first | rfl | exact pv_shx) (by omega) (by omega) (by decide) rfl (by repeat (first | exact r61 | (apply rd_s; done) | apply rd_n (by omega) | apply rp_s | apply rp_n (by omega) | (apply rdL_s; done) | apply rdL_n (by omega) | apply rpJ_s | apply rpJ_n (by omega) | rfl)) ?_
      refine n_icmp_ge 118 dX11_leastGift_45 (by decide) (by first | ((with_reducible apply cN_le) <;> omega) | ((with_reducible apply cI_len) <;> omega) | ((with_reducible apply cI_nle) <;> omega) | (with_reducible exact cI_le)) (fun c45 => ?_) (fun c45 => by exfalso; first | omega | exact absurd trivial c45 | exact c45 | (simp at c45))
      exact g_drop _ (by repeat (first | exact trivial | refine ⟨Or.inr ⟨_, rfl⟩, ?_⟩ | refine ⟨Or.inl rfl, ?_⟩)) go
  | succ r ih =>
    intro p c hp hc
    have is := hk1.there hP (p := p) (by omega)
    have s1 := hs.2 p (by omega)
    obtain ⟨-, -, ⟨k5, k6⟩, -⟩ := hk1.per (p := p) (by omega)
    by_cases d : elg a sy p
    · rw [if_pos d.1] at is
      rw [d.2, if_neg (by decide)] at s1
      rcases hc with ⟨rfl, h2⟩ | ⟨b, rfl, b1, b2, b3⟩
      · have nx := ih (p + 1) (some p) (by omega) (Or.inr ⟨p, rfl, by omega, d, fun p' h1 h3 => by
          by_cases e : p' = p
          · subst e; exact Nat.le_refl _
          · exact absurd h3 (h2 p' (by omega))⟩)
        show pvG _ _ _ _ [_, _, _, _, _, _, .int (-1), _] _ _ _ _ _ _ _
        refine g_iload dX11_leastGift_33 rfl ?_
        refine g_aload_n dX11_leastGift_35 rfl ?_
        refine g_getP dX11_leastGift_36 fdX11_32 rfl (by first | rfl | exact pv_shx) (by omega) (by omega) (by decide) rfl (hP _ _ _ rfl) ?_
        refine g_getP dX11_leastGift_39 fdX11_277 rfl (by first | rfl | exact pv_shx) (by omega) (by omega) (by decide) rfl (hP _ _ _ rfl) ?_
        refine n_getI dX11_leastGift_42 fdX11_294 rfl (by first | rfl | exact pv_shx) (by omega) (by omega) (by decide) rfl (by repeat (first | exact r61 | exact s1 | (apply rd_s; done) | apply rd_n (by omega) | apply rp_s | apply rp_n (by omega) | (apply rdL_s; done) | apply rdL_n (by omega) | apply rpJ_s | apply rpJ_n (by omega) | rfl)) ?_
        refine n_icmp_ge 118 dX11_leastGift_45 (by decide) (by first | ((with_reducible apply cN_le) <;> omega) | ((with_reducible apply cI_len) <;> omega) | ((with_reducible apply cI_nle) <;> omega) | (with_reducible exact cI_le)) (fun c45 => by exfalso; first | omega | exact absurd trivial c45 | exact c45 | (simp at c45)) (fun c45 => ?_)
        refine g_aload_n dX11_leastGift_48 rfl ?_
        refine g_getP dX11_leastGift_49 fdX11_32 rfl (by first | rfl | exact pv_shx) (by omega) (by omega) (by decide) rfl (hP _ _ _ rfl) ?_
        refine g_getP dX11_leastGift_52 fdX11_277 rfl (by first | rfl | exact pv_shx) (by omega) (by omega) (by decide) rfl (hP _ _ _ rfl) ?_
        refine g_iload dX11_leastGift_55 rfl ?_
        refine p_callV (is) okX7_isThere lkX11_497 rfl (by first | rfl | exact pv_shx) rfl (by omega) (by omega) dX11_leastGift_57 rfl (Nat.le_of_ble_eq_true rfl) (⟨by decide, by decide, by decide, by decide⟩) ?_
        refine n_if_eq 112 dX11_leastGift_60 (by decide) (by first | (with_reducible exact cB _) | ((with_reducible apply cN_eq0) <;> omega) | exact Iff.rfl) (fun c60 => by exfalso; first | omega | exact absurd trivial c60 | exact c60 | (simp at c60)) (fun c60 => ?_)
        refine g_aload_n dX11_leastGift_63 rfl ?_
        refine g_getP dX11_leastGift_64 fdX11_73 rfl (by first | rfl | exact pv_shx) (by omega) (by omega) (by decide) rfl (hP _ _ _ rfl) ?_
        refine g_iload dX11_leastGift_67 rfl ?_
        refine n_zald dX11_leastGift_69 (by first | rfl | exact pv_shx) (by omega) (by omega) (by decide) (rfl) (by omega) (by repeat (first | exact r61 | exact s1 | (apply rd_s; done) | apply rd_n (by omega) | apply rp_s | apply rp_n (by omega) | (apply rdL_s; done) | apply rdL_n (by omega) | apply rpJ_s | apply rpJ_n (by omega) | rfl)) ?_
        refine n_if_ne 112 dX11_leastGift_70 (by decide) (by first | (with_reducible exact cB _) | ((with_reducible apply cN_eq0) <;> omega) | exact Iff.rfl) (fun c70 => by exfalso; first | omega | exact absurd trivial c70 | exact c70 | (simp at c70)) (fun c70 => ?_)
        refine g_iload dX11_leastGift_73 rfl ?_
        refine g_iconst (v := (-1)) dX11_leastGift_75 (by decide) ?_
        refine n_icmp_eq 108 dX11_leastGift_76 (by decide) (e1) (fun c76 => ?_) (fun c76 => by exfalso; first | omega | exact absurd trivial c76 | exact c76 | (simp at c76))
        refine g_iload dX11_leastGift_108 rfl ?_
        refine g_istore dX11_leastGift_110 (by decide) rfl ?_
        refine g_iinc dX11_leastGift_112 rfl (by first | (with_reducible exact nI_1 _) | exact nI_1 _ | exact pk_m1 _ | rfl) (by decide) rfl ?_
        refine g_goto 33 dX11_leastGift_115 (by decide) ?_
        exact nx
      · obtain ⟨-, -, ⟨k7, k8⟩, -⟩ := hk1.per (p := b) (by omega)
        have hm1 : (nI b = -1) ↔ False := by
          rw [cI_m1, nI_toInt (by omega)]
          exact ⟨fun z => by omega, False.elim⟩
        show pvG _ _ _ _ [_, _, _, _, _, _, .int (nI b), _] _ _ _ _ _ _ _
        by_cases d2 : cnt a (1200 + 5 * p + 2) < cnt a (1200 + 5 * b + 2)
        · have nx := ih (p + 1) (some p) (by omega) (Or.inr ⟨p, rfl, by omega, d, fun p' h1 h3 => by
            by_cases e : p' = p
            · subst e; exact Nat.le_refl _
            · have := b3 p' (by omega) h3; omega⟩)
          refine g_iload dX11_leastGift_33 rfl ?_
          refine g_aload_n dX11_leastGift_35 rfl ?_
          refine g_getP dX11_leastGift_36 fdX11_32 rfl (by first | rfl | exact pv_shx) (by omega) (by omega) (by decide) rfl (hP _ _ _ rfl) ?_
          refine g_getP dX11_leastGift_39 fdX11_277 rfl (by first | rfl | exact pv_shx) (by omega) (by omega) (by decide) rfl (hP _ _ _ rfl) ?_
          refine n_getI dX11_leastGift_42 fdX11_294 rfl (by first | rfl | exact pv_shx) (by omega) (by omega) (by decide) rfl (by repeat (first | exact r61 | exact s1 | exact k6 | exact k8 | (apply rd_s; done) | apply rd_n (by omega) | apply rp_s | apply rp_n (by omega) | (apply rdL_s; done) | apply rdL_n (by omega) | apply rpJ_s | apply rpJ_n (by omega) | rfl)) ?_
          refine n_icmp_ge 118 dX11_leastGift_45 (by decide) (by first | ((with_reducible apply cN_le) <;> omega) | ((with_reducible apply cI_len) <;> omega) | ((with_reducible apply cI_nle) <;> omega) | (with_reducible exact cI_le)) (fun c45 => by exfalso; first | omega | exact absurd trivial c45 | exact c45 | (simp at c45)) (fun c45 => ?_)
          refine g_aload_n dX11_leastGift_48 rfl ?_
          refine g_getP dX11_leastGift_49 fdX11_32 rfl (by first | rfl | exact pv_shx) (by omega) (by omega) (by decide) rfl (hP _ _ _ rfl) ?_
          refine g_getP dX11_leastGift_52 fdX11_277 rfl (by first | rfl | exact pv_shx) (by omega) (by omega) (by decide) rfl (hP _ _ _ rfl) ?_
          refine g_iload dX11_leastGift_55 rfl ?_
          refine p_callV (is) okX7_isThere lkX11_497 rfl (by first | rfl | exact pv_shx) rfl (by omega) (by omega) dX11_leastGift_57 rfl (Nat.le_of_ble_eq_true rfl) (⟨by decide, by decide, by decide, by decide⟩) ?_
          refine n_if_eq 112 dX11_leastGift_60 (by decide) (by first | (with_reducible exact cB _) | ((with_reducible apply cN_eq0) <;> omega) | exact Iff.rfl) (fun c60 => by exfalso; first | omega | exact absurd trivial c60 | exact c60 | (simp at c60)) (fun c60 => ?_)
          refine g_aload_n dX11_leastGift_63 rfl ?_
          refine g_getP dX11_leastGift_64 fdX11_73 rfl (by first | rfl | exact pv_shx) (by omega) (by omega) (by decide) rfl (hP _ _ _ rfl) ?_
          refine g_iload dX11_leastGift_67 rfl ?_
          refine n_zald dX11_leastGift_69 (by first | rfl | exact pv_shx) (by omega) (by omega) (by decide) (rfl) (by omega) (by repeat (first | exact r61 | exact s1 | exact k6 | exact k8 | (apply rd_s; done) | apply rd_n (by omega) | apply rp_s | apply rp_n (by omega) | (apply rdL_s; done) | apply rdL_n (by omega) | apply rpJ_s | apply rpJ_n (by omega) | rfl)) ?_
          refine n_if_ne 112 dX11_leastGift_70 (by decide) (by first | (with_reducible exact cB _) | ((with_reducible apply cN_eq0) <;> omega) | exact Iff.rfl) (fun c70 => by exfalso; first | omega | exact absurd trivial c70 | exact c70 | (simp at c70)) (fun c70 => ?_)
          refine g_iload dX11_leastGift_73 rfl ?_
          refine g_iconst (v := (-1)) dX11_leastGift_75 (by decide) ?_
          refine n_icmp_eq 108 dX11_leastGift_76 (by decide) (hm1) (fun c76 => by exfalso; first | omega | exact absurd trivial c76 | exact c76 | (simp at c76)) (fun c76 => ?_)
          refine g_aload_n dX11_leastGift_79 rfl ?_
          refine g_getP dX11_leastGift_80 fdX11_32 rfl (by first | rfl | exact pv_shx) (by omega) (by omega) (by decide) rfl (hP _ _ _ rfl) ?_
          refine g_getP dX11_leastGift_83 fdX11_277 rfl (by first | rfl | exact pv_shx) (by omega) (by omega) (by decide) rfl (hP _ _ _ rfl) ?_
          refine g_getP dX11_leastGift_86 fdX11_507 rfl (by first | rfl | exact pv_shx) (by omega) (by omega) (by decide) rfl (hP _ _ _ rfl) ?_
          refine g_iload dX11_leastGift_89 rfl ?_
          refine n_iald dX11_leastGift_91 (by first | rfl | exact pv_shx) (by omega) (by omega) (by decide) (rfl) (by omega) (by repeat (first | exact r61 | exact s1 | exact k6 | exact k8 | (apply rd_s; done) | apply rd_n (by omega) | apply rp_s | apply rp_n (by omega) | (apply rdL_s; done) | apply rdL_n (by omega) | apply rpJ_s | apply rpJ_n (by omega) | rfl)) ?_
          refine g_aload_n dX11_leastGift_92 rfl ?_
          refine g_getP dX11_leastGift_93 fdX11_32 rfl (by first | rfl | exact pv_shx) (by omega) (by omega) (by decide) rfl (hP _ _ _ rfl) ?_
          refine g_getP dX11_leastGift_96 fdX11_277 rfl (by first | rfl | exact pv_shx) (by omega) (by omega) (by decide) rfl (hP _ _ _ rfl) ?_
          refine g_getP dX11_leastGift_99 fdX11_507 rfl (by first | rfl | exact pv_shx) (by omega) (by omega) (by decide) rfl (hP _ _ _ rfl) ?_
          refine g_iload dX11_leastGift_102 rfl ?_
          refine n_iald dX11_leastGift_104 (by first | rfl | exact pv_shx) (by omega) (by omega) (by decide) (rfl) (by omega) (by repeat (first | exact r61 | exact s1 | exact k6 | exact k8 | (apply rd_s; done) | apply rd_n (by omega) | apply rp_s | apply rp_n (by omega) | (apply rdL_s; done) | apply rdL_n (by omega) | apply rpJ_s | apply rpJ_n (by omega) | rfl)) ?_
          refine n_icmp_ge 112 dX11_leastGift_105 (by decide) (by first | ((with_reducible apply cN_le) <;> omega) | ((with_reducible apply cI_len) <;> omega) | ((with_reducible apply cI_nle) <;> omega) | (with_reducible exact cI_le)) (fun c105 => by exfalso; first | omega | exact absurd trivial c105 | exact c105 | (simp at c105)) (fun c105 => ?_)
          refine g_iload dX11_leastGift_108 rfl ?_
          refine g_istore dX11_leastGift_110 (by decide) rfl ?_
          refine g_iinc dX11_leastGift_112 rfl (by first | (with_reducible exact nI_1 _) | exact nI_1 _ | exact pk_m1 _ | rfl) (by decide) rfl ?_
          refine g_goto 33 dX11_leastGift_115 (by decide) ?_
          exact nx
        · have nx := ih (p + 1) (some b) (by omega) (Or.inr ⟨b, rfl, by omega, b2, fun p' h1 h3 => by
            by_cases e : p' = p
            · subst e; omega
            · exact b3 p' (by omega) h3⟩)
          refine g_iload dX11_leastGift_33 rfl ?_
          refine g_aload_n dX11_leastGift_35 rfl ?_
          refine g_getP dX11_leastGift_36 fdX11_32 rfl (by first | rfl | exact pv_shx) (by omega) (by omega) (by decide) rfl (hP _ _ _ rfl) ?_
          refine g_getP dX11_leastGift_39 fdX11_277 rfl (by first | rfl | exact pv_shx) (by omega) (by omega) (by decide) rfl (hP _ _ _ rfl) ?_
          refine n_getI dX11_leastGift_42 fdX11_294 rfl (by first | rfl | exact pv_shx) (by omega) (by omega) (by decide) rfl (by repeat (first | exact r61 | exact s1 | exact k6 | exact k8 | (apply rd_s; done) | apply rd_n (by omega) | apply rp_s | apply rp_n (by omega) | (apply rdL_s; done) | apply rdL_n (by omega) | apply rpJ_s | apply rpJ_n (by omega) | rfl)) ?_
          refine n_icmp_ge 118 dX11_leastGift_45 (by decide) (by first | ((with_reducible apply cN_le) <;> omega) | ((with_reducible apply cI_len) <;> omega) | ((with_reducible apply cI_nle) <;> omega) | (with_reducible exact cI_le)) (fun c45 => by exfalso; first | omega | exact absurd trivial c45 | exact c45 | (simp at c45)) (fun c45 => ?_)
          refine g_aload_n dX11_leastGift_48 rfl ?_
          refine g_getP dX11_leastGift_49 fdX11_32 rfl (by first | rfl | exact pv_shx) (by omega) (by omega) (by decide) rfl (hP _ _ _ rfl) ?_
          refine g_getP dX11_leastGift_52 fdX11_277 rfl (by first | rfl | exact pv_shx) (by omega) (by omega) (by decide) rfl (hP _ _ _ rfl) ?_
          refine g_iload dX11_leastGift_55 rfl ?_
          refine p_callV (is) okX7_isThere lkX11_497 rfl (by first | rfl | exact pv_shx) rfl (by omega) (by omega) dX11_leastGift_57 rfl (Nat.le_of_ble_eq_true rfl) (⟨by decide, by decide, by decide, by decide⟩) ?_
          refine n_if_eq 112 dX11_leastGift_60 (by decide) (by first | (with_reducible exact cB _) | ((with_reducible apply cN_eq0) <;> omega) | exact Iff.rfl) (fun c60 => by exfalso; first | omega | exact absurd trivial c60 | exact c60 | (simp at c60)) (fun c60 => ?_)
          refine g_aload_n dX11_leastGift_63 rfl ?_
          refine g_getP dX11_leastGift_64 fdX11_73 rfl (by first | rfl | exact pv_shx) (by omega) (by omega) (by decide) rfl (hP _ _ _ rfl) ?_
          refine g_iload dX11_leastGift_67 rfl ?_
          refine n_zald dX11_leastGift_69 (by first | rfl | exact pv_shx) (by omega) (by omega) (by decide) (rfl) (by omega) (by repeat (first | exact r61 | exact s1 | exact k6 | exact k8 | (apply rd_s; done) | apply rd_n (by omega) | apply rp_s | apply rp_n (by omega) | (apply rdL_s; done) | apply rdL_n (by omega) | apply rpJ_s | apply rpJ_n (by omega) | rfl)) ?_
          refine n_if_ne 112 dX11_leastGift_70 (by decide) (by first | (with_reducible exact cB _) | ((with_reducible apply cN_eq0) <;> omega) | exact Iff.rfl) (fun c70 => by exfalso; first | omega | exact absurd trivial c70 | exact c70 | (simp at c70)) (fun c70 => ?_)
          refine g_iload dX11_leastGift_73 rfl ?_
          refine g_iconst (v := (-1)) dX11_leastGift_75 (by decide) ?_
          refine n_icmp_eq 108 dX11_leastGift_76 (by decide) (hm1) (fun c76 => by exfalso; first | omega | exact absurd trivial c76 | exact c76 | (simp at c76)) (fun c76 => ?_)
          refine g_aload_n dX11_leastGift_79 rfl ?_
          refine g_getP dX11_leastGift_80 fdX11_32 rfl (by first | rfl | exact pv_shx) (by omega) (by omega) (by decide) rfl (hP _ _ _ rfl) ?_
          refine g_getP dX11_leastGift_83 fdX11_277 rfl (by first | rfl | exact pv_shx) (by omega) (by omega) (by decide) rfl (hP _ _ _ rfl) ?_
          refine g_getP dX11_leastGift_86 fdX11_507 rfl (by first | rfl | exact pv_shx) (by omega) (by omega) (by decide) rfl (hP _ _ _ rfl) ?_
          refine g_iload dX11_leastGift_89 rfl ?_
          refine n_iald dX11_leastGift_91 (by first | rfl | exact pv_shx) (by omega) (by omega) (by decide) (rfl) (by omega) (by repeat (first | exact r61 | exact s1 | exact k6 | exact k8 | (apply rd_s; done) | apply rd_n (by omega) | apply rp_s | apply rp_n (by omega) | (apply rdL_s; done) | apply rdL_n (by omega) | apply rpJ_s | apply rpJ_n (by omega) | rfl)) ?_
          refine g_aload_n dX11_leastGift_92 rfl ?_
          refine g_getP dX11_leastGift_93 fdX11_32 rfl (by first | rfl | exact pv_shx) (by omega) (by omega) (by decide) rfl (hP _ _ _ rfl) ?_
          refine g_getP dX11_leastGift_96 fdX11_277 rfl (by first | rfl | exact pv_shx) (by omega) (by omega) (by decide) rfl (hP _ _ _ rfl) ?_
          refine g_getP dX11_leastGift_99 fdX11_507 rfl (by first | rfl | exact pv_shx) (by omega) (by omega) (by decide) rfl (hP _ _ _ rfl) ?_
          refine g_iload dX11_leastGift_102 rfl ?_
          refine n_iald dX11_leastGift_104 (by first | rfl | exact pv_shx) (by omega) (by omega) (by decide) (rfl) (by omega) (by repeat (first | exact r61 | exact s1 | exact k6 | exact k8 | (apply rd_s; done) | apply rd_n (by omega) | apply rp_s | apply rp_n (by omega) | (apply rdL_s; done) | apply rdL_n (by omega) | apply rpJ_s | apply rpJ_n (by omega) | rfl)) ?_
          refine n_icmp_ge 112 dX11_leastGift_105 (by decide) (by first | ((with_reducible apply cN_le) <;> omega) | ((with_reducible apply cI_len) <;> omega) | ((with_reducible apply cI_nle) <;> omega) | (with_reducible exact cI_le)) (fun c105 => ?_) (fun c105 => by exfalso; first | omega | exact absurd trivial c105 | exact c105 | (simp at c105))
          refine g_iinc dX11_leastGift_112 rfl (by first | (with_reducible exact nI_1 _) | exact nI_1 _ | exact pk_m1 _ | rfl) (by decide) rfl ?_
          refine g_goto 33 dX11_leastGift_115 (by decide) ?_
          exact nx
    · have nx := ih (p + 1) c (by omega) (by
        rcases hc with ⟨h1, h2⟩ | ⟨b, h1, b1, b2, b3⟩
        · exact Or.inl ⟨h1, fun p' h3 => by
            by_cases e : p' = p
            · subst e; exact d
            · exact h2 p' (by omega)⟩
        · exact Or.inr ⟨b, h1, by omega, b2, fun p' h3 h4 => by
            by_cases e : p' = p
            · subst e; exact absurd h4 d
            · exact b3 p' (by omega) h4⟩)
      by_cases d1 : sp_here a p
      · have d3 : sy p = true := by
          cases hy : sy p with
          | true => rfl
          | false => exact absurd ⟨d1, hy⟩ d
        rw [if_pos d1] at is
        rw [d3, if_pos rfl] at s1
        refine g_iload dX11_leastGift_33 rfl ?_
        refine g_aload_n dX11_leastGift_35 rfl ?_
        refine g_getP dX11_leastGift_36 fdX11_32 rfl (by first | rfl | exact pv_shx) (by omega) (by omega) (by decide) rfl (hP _ _ _ rfl) ?_
        refine g_getP dX11_leastGift_39 fdX11_277 rfl (by first | rfl | exact pv_shx) (by omega) (by omega) (by decide) rfl (hP _ _ _ rfl) ?_
        refine n_getI dX11_leastGift_42 fdX11_294 rfl (by first | rfl | exact pv_shx) (by omega) (by omega) (by decide) rfl (by repeat (first | exact r61 | exact s1 | (apply rd_s; done) | apply rd_n (by omega) | apply rp_s | apply rp_n (by omega) | (apply rdL_s; done) | apply rdL_n (by omega) | apply rpJ_s | apply rpJ_n (by omega) | rfl)) ?_
        refine n_icmp_ge 118 dX11_leastGift_45 (by decide) (by first | ((with_reducible apply cN_le) <;> omega) | ((with_reducible apply cI_len) <;> omega) | ((with_reducible apply cI_nle) <;> omega) | (with_reducible exact cI_le)) (fun c45 => by exfalso; first | omega | exact absurd trivial c45 | exact c45 | (simp at c45)) (fun c45 => ?_)
        refine g_aload_n dX11_leastGift_48 rfl ?_
        refine g_getP dX11_leastGift_49 fdX11_32 rfl (by first | rfl | exact pv_shx) (by omega) (by omega) (by decide) rfl (hP _ _ _ rfl) ?_
        refine g_getP dX11_leastGift_52 fdX11_277 rfl (by first | rfl | exact pv_shx) (by omega) (by omega) (by decide) rfl (hP _ _ _ rfl) ?_
        refine g_iload dX11_leastGift_55 rfl ?_
        refine p_callV (is) okX7_isThere lkX11_497 rfl (by first | rfl | exact pv_shx) rfl (by omega) (by omega) dX11_leastGift_57 rfl (Nat.le_of_ble_eq_true rfl) (⟨by decide, by decide, by decide, by decide⟩) ?_
        refine n_if_eq 112 dX11_leastGift_60 (by decide) (by first | (with_reducible exact cB _) | ((with_reducible apply cN_eq0) <;> omega) | exact Iff.rfl) (fun c60 => by exfalso; first | omega | exact absurd trivial c60 | exact c60 | (simp at c60)) (fun c60 => ?_)
        refine g_aload_n dX11_leastGift_63 rfl ?_
        refine g_getP dX11_leastGift_64 fdX11_73 rfl (by first | rfl | exact pv_shx) (by omega) (by omega) (by decide) rfl (hP _ _ _ rfl) ?_
        refine g_iload dX11_leastGift_67 rfl ?_
        refine n_zald dX11_leastGift_69 (by first | rfl | exact pv_shx) (by omega) (by omega) (by decide) (rfl) (by omega) (by repeat (first | exact r61 | exact s1 | (apply rd_s; done) | apply rd_n (by omega) | apply rp_s | apply rp_n (by omega) | (apply rdL_s; done) | apply rdL_n (by omega) | apply rpJ_s | apply rpJ_n (by omega) | rfl)) ?_
        refine n_if_ne 112 dX11_leastGift_70 (by decide) (by first | (with_reducible exact cB _) | ((with_reducible apply cN_eq0) <;> omega) | exact Iff.rfl) (fun c70 => ?_) (fun c70 => by exfalso; first | omega | exact absurd trivial c70 | exact c70 | (simp at c70))
        refine g_iinc dX11_leastGift_112 rfl (by first | (with_reducible exact nI_1 _) | exact nI_1 _ | exact pk_m1 _ | rfl) (by decide) rfl ?_
        refine g_goto 33 dX11_leastGift_115 (by decide) ?_
        exact nx
      · rw [if_neg d1] at is
        refine g_iload dX11_leastGift_33 rfl ?_
        refine g_aload_n dX11_leastGift_35 rfl ?_
        refine g_getP dX11_leastGift_36 fdX11_32 rfl (by first | rfl | exact pv_shx) (by omega) (by omega) (by decide) rfl (hP _ _ _ rfl) ?_
        refine g_getP dX11_leastGift_39 fdX11_277 rfl (by first | rfl | exact pv_shx) (by omega) (by omega) (by decide) rfl (hP _ _ _ rfl) ?_
        refine n_getI dX11_leastGift_42 fdX11_294 rfl (by first | rfl | exact pv_shx) (by omega) (by omega) (by decide) rfl (by repeat (first | exact r61 | (apply rd_s; done) | apply rd_n (by omega) | apply rp_s | apply rp_n (by omega) | (apply rdL_s; done) | apply rdL_n (by omega) | apply rpJ_s | apply rpJ_n (by omega) | rfl)) ?_
        refine n_icmp_ge 118 dX11_leastGift_45 (by decide) (by first | ((with_reducible apply cN_le) <;> omega) | ((with_reducible apply cI_len) <;> omega) | ((with_reducible apply cI_nle) <;> omega) | (with_reducible exact cI_le)) (fun c45 => by exfalso; first | omega | exact absurd trivial c45 | exact c45 | (simp at c45)) (fun c45 => ?_)
        refine g_aload_n dX11_leastGift_48 rfl ?_
        refine g_getP dX11_leastGift_49 fdX11_32 rfl (by first | rfl | exact pv_shx) (by omega) (by omega) (by decide) rfl (hP _ _ _ rfl) ?_
        refine g_getP dX11_leastGift_52 fdX11_277 rfl (by first | rfl | exact pv_shx) (by omega) (by omega) (by decide) rfl (hP _ _ _ rfl) ?_
        refine g_iload dX11_leastGift_55 rfl ?_
        refine p_callV (is) okX7_isThere lkX11_497 rfl (by first | rfl | exact pv_shx) rfl (by omega) (by omega) dX11_leastGift_57 rfl (Nat.le_of_ble_eq_true rfl) (⟨by decide, by decide, by decide, by decide⟩) ?_
        refine n_if_eq 112 dX11_leastGift_60 (by decide) (by first | (with_reducible exact cB _) | ((with_reducible apply cN_eq0) <;> omega) | exact Iff.rfl) (fun c60 => ?_) (fun c60 => by exfalso; first | omega | exact absurd trivial c60 | exact c60 | (simp at c60))
        refine g_iinc dX11_leastGift_112 rfl (by first | (with_reducible exact nI_1 _) | exact nI_1 _ | exact pk_m1 _ | rfl) (by decide) rfl ?_
        refine g_goto 33 dX11_leastGift_115 (by decide) ?_
        exact nx
theorem c_leastGift {Y N : Nat} {sy : Nat → Bool} (hP : pvOkP P) (hb : kB w h a I J) (hs : syA (I 201) sy (cnt a 6)) (hN : (noL a sy (cnt a 6)).length = N) (hY : Y ≤ 60) (hpos : 0 < Y + N) : pvMet mX11_leastGift 1 0 0 [.ref 1, .int (nI Y), .int (nI N)] 224 I J P (pvq P (fun v I' J' => v = some (.int (nI (msum (kN Y N) (noL a sy (cnt a 6))))) ∧ J' = J ∧ ∀ x, x ≠ 201 → I' x = I x)) := by
  obtain ⟨n6, r6⟩ := hb.n6
  have hNl := noL_len (a := a) (yb := sy) (cnt a 6)
  by_cases c : N < Y
  · have e : kN Y N = 0 := by unfold kN; rw [if_pos c]
    rw [e]
    refine pvMet.of _ (by decide) rfl (Nat.le_of_ble_eq_true rfl) ?_
    refine g_iload_n dX11_leastGift_0 rfl ?_
    refine g_iload_n dX11_leastGift_1 rfl ?_
    refine n_icmp_le 7 dX11_leastGift_2 (by decide) (by first | ((with_reducible apply cN_le) <;> omega) | ((with_reducible apply cI_len) <;> omega) | ((with_reducible apply cI_nle) <;> omega) | (with_reducible exact cI_le)) (fun c2 => by exfalso; first | omega | exact absurd trivial c2 | exact c2 | (simp at c2)) (fun c2 => ?_)
    refine g_iconst (v := nI 0) dX11_leastGift_5 (by decide) ?_
    exact g_iret dX11_leastGift_6 rfl (⟨rfl, rfl, rfl, rfl, fun _ _ => rfl⟩)
  · have e : kN Y N = (N - Y) / 2 + 1 := by unfold kN; rw [if_neg c]
    generalize hK : kN Y N = K at *
    generalize htot : msum K (noL a sy (cnt a 6)) = tot
    have lp : ∀ r q s sy I1, q + r = K → s ≤ 9999 * q → giI a sy I I1 → r ≤ (noL a sy (cnt a 6)).length → s + msum r (noL a sy (cnt a 6)) = tot → pvG mX11_leastGift (pvR 1 0 0) (pvZ (pvq P (fun v I' J' => v = some (.int (nI tot)) ∧ J' = J ∧ ∀ x, x ≠ 201 → I' x = I x)) 0 0) 21 [.ref 1, .int (nI Y), .int (nI N), .int (nI K), .int (nI s), .int (nI q), .retAddr 0, .retAddr 0] [] 0 0 224 I1 J P := by
      intro r
      induction r with
      | zero =>
        intro q s sy I1 hq hsl hs hr ht
        obtain rfl : q = K := by omega
        have ht : s + 0 = tot := ht
        refine g_iload dX11_leastGift_21 rfl ?_
        refine g_iload_n dX11_leastGift_23 rfl ?_
        refine n_icmp_ge 156 dX11_leastGift_24 (by decide) (by first | ((with_reducible apply cN_le) <;> omega) | ((with_reducible apply cI_len) <;> omega) | ((with_reducible apply cI_nle) <;> omega) | (with_reducible exact cI_le)) (fun c24 => ?_) (fun c24 => by exfalso; first | omega | exact absurd trivial c24 | exact c24 | (simp at c24))
        refine g_iload dX11_leastGift_156 rfl ?_
        exact g_iret dX11_leastGift_158 rfl (⟨rfl, rfl, by rw [← ht]; rfl, rfl, hs.1⟩)
      | succ r ih =>
        intro q s sy I1 hq hsl hs hr ht
        have hne : ∃ b, b < cnt a 6 ∧ elg a sy b := by
          cases hl : noL a sy (cnt a 6) with
          | nil => rw [hl] at hr; exact absurd hr (by simp)
          | cons x l =>
            obtain ⟨b, b1, b2, b3, -⟩ := (noL_mem (y := x) (cnt a 6)).mp (by rw [hl]; exact List.mem_cons_self)
            exact ⟨b, b1, b2, b3⟩
        have ch := c_cheap (Y := Y) (N := N) (K := K) (s := s) (q := q) (Z := pvZ (pvq P (fun v I' J' => v = some (.int (nI tot)) ∧ J' = J ∧ ∀ x, x ≠ 201 → I' x = I x)) 0 0) hP hb hs hne (fun b b1 b2 b3 => by
          have hk1 : kB w h a I1 J := hb.far (fun x hx => hs.1 x (by omega)) (fun _ _ => rfl)
          obtain ⟨-, -, ⟨k5, k6⟩, -⟩ := hk1.per b1
          have hm1 : (nI b = -1) ↔ False := by
            rw [cI_m1, nI_toInt (by omega)]
            exact ⟨fun z => by omega, False.elim⟩
          have pm := noL_take (a := a) (yb := sy) (yb' := fun p => if p = b then true else sy p) b2 (by simp) (fun p hp => by simp [hp]) (cnt a 6) b1
          have hmin : lmin (noL a sy (cnt a 6)) = cnt a (1200 + 5 * b + 2) := lmin_eq ((noL_mem _).mpr ⟨b, b1, b2.1, b2.2, rfl⟩) (fun y hy => by
            obtain ⟨p, p1, p2, p3, p4⟩ := (noL_mem _).mp hy
            rw [← p4]; exact b3 p p1 ⟨p2, p3⟩)
          have hle := pm.length_eq
          rw [List.length_cons] at hle
          have pe := pm.erase (cnt a (1200 + 5 * b + 2))
          rw [List.erase_cons_head] at pe
          have ht2 : s + (lmin (noL a sy (cnt a 6)) + msum r ((noL a sy (cnt a 6)).erase (lmin (noL a sy (cnt a 6))))) = tot := ht
          rw [hmin, msum_perm pe] at ht2
          have nx := ih (q + 1) (s + cnt a (1200 + 5 * b + 2)) (fun p => if p = b then true else sy p) (pvs I1 201 (upd (I1 201) b (nI 1))) (by omega) (by omega) ⟨fun x hx => by rw [pvs_ne hx]; exact hs.1 x hx, fun p hp => by
            rw [pvs_eq]
            by_cases e : p = b
            · subst e; rw [updS]; simp; rfl
            · rw [updI e, hs.2 p hp]; simp [e]⟩ (by omega) (by omega)
          refine g_iload dX11_leastGift_118 rfl ?_
          refine g_iconst (v := (-1)) dX11_leastGift_120 (by decide) ?_
          refine n_icmp_eq 150 dX11_leastGift_121 (by decide) (hm1) (fun c121 => by exfalso; first | omega | exact absurd trivial c121 | exact c121 | (simp at c121)) (fun c121 => ?_)
          refine g_aload_n dX11_leastGift_124 rfl ?_
          refine g_getP dX11_leastGift_125 fdX11_73 rfl (by first | rfl | exact pv_shx) (by omega) (by omega) (by decide) rfl (hP _ _ _ rfl) ?_
          refine g_iload dX11_leastGift_128 rfl ?_
          refine g_iconst (v := nI 1) dX11_leastGift_130 (by decide) ?_
          refine n_zast (by first | exact Or.inl rfl | exact Or.inr rfl | exact cB01 _) dX11_leastGift_131 (by first | rfl | exact pv_shx) (by omega) (by omega) (by omega) (by decide) (rfl) (by omega) (by repeat (first | exact pvu_s | exact pvuJ_s | apply pvu_in (by omega) | apply pvuJ_in (by omega) | exact pvu_pvs | exact pvuJ_pvs)) ?_
          refine g_iload dX11_leastGift_132 rfl ?_
          refine g_aload_n dX11_leastGift_134 rfl ?_
          refine g_getP dX11_leastGift_135 fdX11_32 rfl (by first | rfl | exact pv_shx) (by omega) (by omega) (by decide) rfl (hP _ _ _ rfl) ?_
          refine g_getP dX11_leastGift_138 fdX11_277 rfl (by first | rfl | exact pv_shx) (by omega) (by omega) (by decide) rfl (hP _ _ _ rfl) ?_
          refine g_getP dX11_leastGift_141 fdX11_507 rfl (by first | rfl | exact pv_shx) (by omega) (by omega) (by decide) rfl (hP _ _ _ rfl) ?_
          refine g_iload dX11_leastGift_144 rfl ?_
          refine n_iald dX11_leastGift_146 (by first | rfl | exact pv_shx) (by omega) (by omega) (by decide) (rfl) (by omega) (by repeat (first | exact k6 | (apply rd_s; done) | apply rd_n (by omega) | apply rp_s | apply rp_n (by omega) | (apply rdL_s; done) | apply rdL_n (by omega) | apply rpJ_s | apply rpJ_n (by omega) | rfl)) ?_
          refine n_iadd dX11_leastGift_147 (by first | (with_reducible exact nI_add _ _) | rfl) ?_
          refine g_istore dX11_leastGift_148 (by decide) rfl ?_
          refine g_iinc dX11_leastGift_150 rfl (by first | (with_reducible exact nI_1 _) | exact nI_1 _ | exact pk_m1 _ | rfl) (by decide) rfl ?_
          refine g_goto 21 dX11_leastGift_153 (by decide) ?_
          exact g_drop _ (by repeat (first | exact trivial | refine ⟨Or.inr ⟨_, rfl⟩, ?_⟩ | refine ⟨Or.inl rfl, ?_⟩)) nx)
        have go := ch (cnt a 6) 0 none (by omega) (Or.inl ⟨rfl, fun p' hp' => absurd hp' (Nat.not_lt_zero p')⟩)
        refine g_iload dX11_leastGift_21 rfl ?_
        refine g_iload_n dX11_leastGift_23 rfl ?_
        refine n_icmp_ge 156 dX11_leastGift_24 (by decide) (by first | ((with_reducible apply cN_le) <;> omega) | ((with_reducible apply cI_len) <;> omega) | ((with_reducible apply cI_nle) <;> omega) | (with_reducible exact cI_le)) (fun c24 => by exfalso; first | omega | exact absurd trivial c24 | exact c24 | (simp at c24)) (fun c24 => ?_)
        refine g_iconst (v := (-1)) dX11_leastGift_27 (by decide) ?_
        refine g_istore dX11_leastGift_28 (by decide) rfl ?_
        refine g_iconst (v := nI 0) dX11_leastGift_30 (by decide) ?_
        refine g_istore dX11_leastGift_31 (by decide) rfl ?_
        exact go
    have e14 : nI ((N - Y) / 2 + 1) = nI K := by rw [e]
    have go := lp K 0 0 sy I (by omega) (Nat.le_refl _) ⟨fun _ _ => rfl, hs⟩ (by omega) (by omega)
    rw [e] at go
    refine pvMet.of _ (by decide) rfl (Nat.le_of_ble_eq_true rfl) ?_
    refine g_iload_n dX11_leastGift_0 rfl ?_
    refine g_iload_n dX11_leastGift_1 rfl ?_
    refine n_icmp_le 7 dX11_leastGift_2 (by decide) (by first | ((with_reducible apply cN_le) <;> omega) | ((with_reducible apply cI_len) <;> omega) | ((with_reducible apply cI_nle) <;> omega) | (with_reducible exact cI_le)) (fun c2 => ?_) (fun c2 => by exfalso; first | omega | exact absurd trivial c2 | exact c2 | (simp at c2))
    refine g_iload_n dX11_leastGift_7 rfl ?_
    refine g_iload_n dX11_leastGift_8 rfl ?_
    refine n_isub dX11_leastGift_9 (by first | ((with_reducible apply pk_sub) <;> omega) | rfl) ?_
    refine g_iconst (v := nI 2) dX11_leastGift_10 (by decide) ?_
    refine n_idiv dX11_leastGift_11 (by first | decide | ((with_reducible apply nI_ne0) <;> omega)) (by first | ((with_reducible apply pk_div) <;> omega) | rfl) ?_
    refine g_iconst (v := nI 1) dX11_leastGift_12 (by decide) ?_
    refine n_iadd dX11_leastGift_13 (by first | (with_reducible exact nI_add _ _) | rfl) ?_
    refine g_istore_n dX11_leastGift_14 (by decide) rfl ?_
    refine g_iconst (v := nI 0) dX11_leastGift_15 (by decide) ?_
    refine g_istore dX11_leastGift_16 (by decide) rfl ?_
    refine g_iconst (v := nI 0) dX11_leastGift_18 (by decide) ?_
    refine g_istore dX11_leastGift_19 (by decide) rfl ?_
    exact g_drop _ (by repeat (first | exact trivial | refine ⟨Or.inr ⟨_, rfl⟩, ?_⟩ | refine ⟨Or.inl rfl, ?_⟩)) go
theorem c_vote {m x : Int32} (hP : pvOkP P) (hb : kB w h a I J) (hA : cActs (cnt a 8) cl I) : pvMet mX11_vote 7 0 0 [.ref 1, .int m, .int x] 224 I J P (byC w h a I J P (sp_vote w h a cl m x)) := by
  have n0 := hb.n0.1
  have n8 := hb.n9.2.2.1
  have n6 := hb.n6.1
  have iw := c_isWeek (nx := 224) (v := m) (I := I) (J := J) (P := P)
  have ix := c_within (nx := 224) (v := x) (lo := nI 0) (hi := nI 2) (L := 0) (H := 2) (I := I) (J := J) (P := P) (by decide) (by decide)
  by_cases hm : 0 ≤ m.toInt ∧ m.toInt ≤ 99
  · rw [if_pos hm] at iw
    by_cases hx : 0 ≤ x.toInt ∧ x.toInt ≤ 2
    · rw [if_pos hx] at ix
      obtain ⟨mn, hmn, rfl⟩ := cI_of (x := m) (n := 100) (by omega) (by omega) (by omega)
      obtain ⟨xn, hxn, rfl⟩ := cI_of (x := x) (n := 3) (by omega) (by omega) (by omega)
      have se := c_see (m := mn) hP hb (by omega)
      refine pvMet.of _ (by decide) rfl (Nat.le_of_ble_eq_true rfl) ?_
      refine g_iload_n dX11_vote_0 rfl ?_
      refine p_callS (iw) okX11_isWeek lkX11_160 rfl dX11_vote_1 rfl (Nat.le_of_ble_eq_true rfl) (⟨by decide, by decide, by decide, by decide⟩) ?_
      refine n_if_eq 16 dX11_vote_4 (by decide) (by first | (with_reducible exact cB _) | ((with_reducible apply cN_eq0) <;> omega) | exact Iff.rfl) (fun c4 => by exfalso; first | omega | exact absurd trivial c4 | exact c4 | (simp at c4)) (fun c4 => ?_)
      refine g_iload_n dX11_vote_7 rfl ?_
      refine g_iconst (v := nI 0) dX11_vote_8 (by decide) ?_
      refine g_iconst (v := nI 2) dX11_vote_9 (by decide) ?_
      refine p_callS (ix) okX11_within lkX11_85 rfl dX11_vote_10 rfl (Nat.le_of_ble_eq_true rfl) (⟨by decide, by decide, by decide, by decide⟩) ?_
      refine n_if_ne 18 dX11_vote_13 (by decide) (by first | (with_reducible exact cB _) | ((with_reducible apply cN_eq0) <;> omega) | exact Iff.rfl) (fun c13 => ?_) (fun c13 => by exfalso; first | omega | exact absurd trivial c13 | exact c13 | (simp at c13))
      refine g_aload_n dX11_vote_18 rfl ?_
      refine g_iload_n dX11_vote_19 rfl ?_
      refine g_callV (se) okX11_see lkX11_236 rfl (by first | rfl | exact pv_shx) rfl (by omega) (by omega) dX11_vote_20 rfl (Nat.le_of_ble_eq_true rfl) (⟨by decide, by decide, by decide, by decide⟩) ?_
      rintro v nx' I1 J1 P' ⟨rfl, rfl, rfl, q1, q2, q3, q4⟩
      have mov : cActs (cnt a 8) cl I1 := hA.mv n8 (fun y z1 z2 => (q2 y (by omega)).1)
      have cv := c_countVotes (m := mn) hP q1 mov q3 (by omega) (by omega) (by omega)
      obtain ⟨-, r61, hsub1⟩ := people_there q1
      have wn := c_went (P := P') hP q1
      refine g_aload_n dX11_vote_23 rfl ?_
      refine g_getP dX11_vote_24 fdX11_32 rfl (by first | rfl | exact pv_shx) (by omega) (by omega) (by decide) rfl (hP _ _ _ rfl) ?_
      refine g_getP dX11_vote_27 fdX11_277 rfl (by first | rfl | exact pv_shx) (by omega) (by omega) (by decide) rfl (hP _ _ _ rfl) ?_
      refine n_getI dX11_vote_30 fdX11_294 rfl (by first | rfl | exact pv_shx) (by omega) (by omega) (by decide) rfl (by repeat (first | exact r61 | (apply rd_s; done) | apply rd_n (by omega) | apply rp_s | apply rp_n (by omega) | (apply rdL_s; done) | apply rdL_n (by omega) | apply rpJ_s | apply rpJ_n (by omega) | rfl)) ?_
      refine g_aload_n dX11_vote_33 rfl ?_
      refine g_getP dX11_vote_34 fdX11_32 rfl (by first | rfl | exact pv_shx) (by omega) (by omega) (by decide) rfl (hP _ _ _ rfl) ?_
      refine g_getP dX11_vote_37 fdX11_277 rfl (by first | rfl | exact pv_shx) (by omega) (by omega) (by decide) rfl (hP _ _ _ rfl) ?_
      refine p_callV (wn) okX7_howManyWent lkX11_369 rfl (by first | rfl | exact pv_shx) rfl (by omega) (by omega) dX11_vote_40 rfl (Nat.le_of_ble_eq_true rfl) (⟨by decide, by decide, by decide, by decide⟩) ?_
      refine n_isub dX11_vote_43 (hsub1) ?_
      refine g_istore_n dX11_vote_44 (by decide) rfl ?_
      refine g_aload_n dX11_vote_45 rfl ?_
      refine g_iload_n dX11_vote_46 rfl ?_
      refine g_callV (cv) okX11_countVotes lkX11_385 rfl (by first | rfl | exact pv_shx) rfl (by omega) (by omega) dX11_vote_47 rfl (Nat.le_of_ble_eq_true rfl) (⟨by decide, by decide, by decide, by decide⟩) ?_
      rintro v nx' I2 J2 P2 ⟨rfl, rfl, rfl, rfl, hcv⟩
      have kb2 : kB w h a I2 J2 := q1.far (fun x hx => hcv.1 x (by omega) (by omega) (by omega)) (fun _ _ => rfl)
      have bf2 : byF I J I2 J2 := q2.by.tr (fun x hx => ⟨hcv.1 x (by omega) (by omega) (by omega), rfl⟩)
      have te := there_eq (a := a) (yb := yesB w h a cl mn) (cnt a 6)
      have tle : sp_ct (poP a (-1)) (cnt a 6) ≤ cnt a 6 := sp_ct_le _
      have hans : sp_vote w h a cl (nI mn) (nI xn) = if xn = 0 then nI (votY w h a cl mn) else if xn = 1 then nI (votN w h a cl mn).length else if votY w h a cl mn + (votN w h a cl mn).length = 0 then -1 else nI (msum (kN (votY w h a cl mn) (votN w h a cl mn).length) (votN w h a cl mn)) := by
        rw [sp_vote, if_pos ⟨hm, hx⟩, nI_clamp (by omega : mn < 2 ^ 31), nI_toInt (by omega : xn < 2 ^ 31)]
        rcases (show xn = 0 ∨ xn = 1 ∨ xn = 2 by omega) with rfl | rfl | rfl
        · rfl
        · rfl
        · rfl
      have eY : votY w h a cl mn = sp_ct (yeP a (yesB w h a cl mn)) (cnt a 6) := rfl
      have eN : votN w h a cl mn = noL a (yesB w h a cl mn) (cnt a 6) := rfl
      have esy : noL a (fun p => decide (sp_here a p) && yesB w h a cl mn p) (cnt a 6) = noL a (yesB w h a cl mn) (cnt a 6) := noL_cong2 _ (fun p _ hp => by rw [decide_eq_true hp, Bool.true_and])
      have lg := c_leastGift (J := J2) (P := P2) (I := I2) (Y := sp_ct (yeP a (yesB w h a cl mn)) (cnt a 6)) (N := (noL a (yesB w h a cl mn) (cnt a 6)).length) (sy := fun p => decide (sp_here a p) && yesB w h a cl mn p) hP kb2 (fun p hp => hcv.2 p hp) (by rw [esy]) (by omega)
      rw [esy] at lg
      rw [hans, eY, eN]
      rw [te]
      generalize sp_ct (yeP a (yesB w h a cl mn)) (cnt a 6) = Y at *
      generalize noL a (yesB w h a cl mn) (cnt a 6) = L at *
      have esub : nI (Y + L.length) - nI Y = nI L.length := sub_l2 (by omega)
      rcases (show xn = 0 ∨ xn = 1 ∨ xn = 2 by omega) with rfl | rfl | rfl
      · skip
        refine g_istore dX11_vote_50 (by decide) rfl ?_
        refine g_iload_n dX11_vote_52 rfl ?_
        refine g_iconst (v := nI 2) dX11_vote_53 (by decide) ?_
        refine n_icmp_ge 71 dX11_vote_54 (by decide) (by first | ((with_reducible apply cN_le) <;> omega) | ((with_reducible apply cI_len) <;> omega) | ((with_reducible apply cI_nle) <;> omega) | (with_reducible exact cI_le)) (fun c54 => by exfalso; first | omega | exact absurd trivial c54 | exact c54 | (simp at c54)) (fun c54 => ?_)
        refine g_iload_n dX11_vote_57 rfl ?_
        refine n_if_ne 66 dX11_vote_58 (by decide) (by first | (with_reducible exact cB _) | ((with_reducible apply cN_eq0) <;> omega) | exact Iff.rfl) (fun c58 => by exfalso; first | omega | exact absurd trivial c58 | exact c58 | (simp at c58)) (fun c58 => ?_)
        refine g_iload dX11_vote_61 rfl ?_
        refine g_goto 70 dX11_vote_63 (by decide) ?_
        exact g_iret dX11_vote_70 rfl (⟨rfl, rfl, rfl, kb2, bf2⟩)
      · skip
        refine g_istore dX11_vote_50 (by decide) rfl ?_
        refine g_iload_n dX11_vote_52 rfl ?_
        refine g_iconst (v := nI 2) dX11_vote_53 (by decide) ?_
        refine n_icmp_ge 71 dX11_vote_54 (by decide) (by first | ((with_reducible apply cN_le) <;> omega) | ((with_reducible apply cI_len) <;> omega) | ((with_reducible apply cI_nle) <;> omega) | (with_reducible exact cI_le)) (fun c54 => by exfalso; first | omega | exact absurd trivial c54 | exact c54 | (simp at c54)) (fun c54 => ?_)
        refine g_iload_n dX11_vote_57 rfl ?_
        refine n_if_ne 66 dX11_vote_58 (by decide) (by first | (with_reducible exact cB _) | ((with_reducible apply cN_eq0) <;> omega) | exact Iff.rfl) (fun c58 => ?_) (fun c58 => by exfalso; first | omega | exact absurd trivial c58 | exact c58 | (simp at c58))
        refine g_iload_n dX11_vote_66 rfl ?_
        refine g_iload dX11_vote_67 rfl ?_
        refine n_isub dX11_vote_69 (esub) ?_
        exact g_iret dX11_vote_70 rfl (⟨rfl, rfl, rfl, kb2, bf2⟩)
      · rw [if_neg (by decide), if_neg (by decide)]
        by_cases z : Y + L.length = 0
        · rw [if_pos z]
          refine g_istore dX11_vote_50 (by decide) rfl ?_
          refine g_iload_n dX11_vote_52 rfl ?_
          refine g_iconst (v := nI 2) dX11_vote_53 (by decide) ?_
          refine n_icmp_ge 71 dX11_vote_54 (by decide) (by first | ((with_reducible apply cN_le) <;> omega) | ((with_reducible apply cI_len) <;> omega) | ((with_reducible apply cI_nle) <;> omega) | (with_reducible exact cI_le)) (fun c54 => ?_) (fun c54 => by exfalso; first | omega | exact absurd trivial c54 | exact c54 | (simp at c54))
          refine g_iload_n dX11_vote_71 rfl ?_
          refine n_if_ne 79 dX11_vote_72 (by decide) (by first | (with_reducible exact cB _) | ((with_reducible apply cN_eq0) <;> omega) | exact Iff.rfl) (fun c72 => by exfalso; first | omega | exact absurd trivial c72 | exact c72 | (simp at c72)) (fun c72 => ?_)
          refine g_iconst (v := (-1)) dX11_vote_75 (by decide) ?_
          refine g_goto 89 dX11_vote_76 (by decide) ?_
          exact g_iret dX11_vote_89 rfl (⟨rfl, rfl, rfl, kb2, bf2⟩)
        · rw [if_neg z]
          have lg' := lg (by omega)
          refine g_istore dX11_vote_50 (by decide) rfl ?_
          refine g_iload_n dX11_vote_52 rfl ?_
          refine g_iconst (v := nI 2) dX11_vote_53 (by decide) ?_
          refine n_icmp_ge 71 dX11_vote_54 (by decide) (by first | ((with_reducible apply cN_le) <;> omega) | ((with_reducible apply cI_len) <;> omega) | ((with_reducible apply cI_nle) <;> omega) | (with_reducible exact cI_le)) (fun c54 => ?_) (fun c54 => by exfalso; first | omega | exact absurd trivial c54 | exact c54 | (simp at c54))
          refine g_iload_n dX11_vote_71 rfl ?_
          refine n_if_ne 79 dX11_vote_72 (by decide) (by first | (with_reducible exact cB _) | ((with_reducible apply cN_eq0) <;> omega) | exact Iff.rfl) (fun c72 => ?_) (fun c72 => by exfalso; first | omega | exact absurd trivial c72 | exact c72 | (simp at c72))
          refine g_aload_n dX11_vote_79 rfl ?_
          refine g_iload dX11_vote_80 rfl ?_
          refine g_iload_n dX11_vote_82 rfl ?_
          refine g_iload dX11_vote_83 rfl ?_
          refine n_isub dX11_vote_85 (esub) ?_
          refine g_callV (lg') okX11_leastGift lkX11_388 rfl (by first | rfl | exact pv_shx) rfl (by omega) (by omega) dX11_vote_86 rfl (Nat.le_of_ble_eq_true rfl) (⟨by decide, by decide, by decide, by decide⟩) ?_
          rintro v nx' I3 J3 P3 ⟨rfl, rfl, rfl, rfl, hg⟩
          exact g_iret dX11_vote_89 rfl (⟨rfl, rfl, rfl, kb2.far (fun x hx => hg x (by omega)) (fun _ _ => rfl), bf2.tr (fun x hx => ⟨hg x (by omega), rfl⟩)⟩)
    · rw [if_neg hx] at ix
      refine pvMet.of _ (by decide) rfl (Nat.le_of_ble_eq_true rfl) ?_
      refine g_iload_n dX11_vote_0 rfl ?_
      refine p_callS (iw) okX11_isWeek lkX11_160 rfl dX11_vote_1 rfl (Nat.le_of_ble_eq_true rfl) (⟨by decide, by decide, by decide, by decide⟩) ?_
      refine n_if_eq 16 dX11_vote_4 (by decide) (by first | (with_reducible exact cB _) | ((with_reducible apply cN_eq0) <;> omega) | exact Iff.rfl) (fun c4 => by exfalso; first | omega | exact absurd trivial c4 | exact c4 | (simp at c4)) (fun c4 => ?_)
      refine g_iload_n dX11_vote_7 rfl ?_
      refine g_iconst (v := nI 0) dX11_vote_8 (by decide) ?_
      refine g_iconst (v := nI 2) dX11_vote_9 (by decide) ?_
      refine p_callS (ix) okX11_within lkX11_85 rfl dX11_vote_10 rfl (Nat.le_of_ble_eq_true rfl) (⟨by decide, by decide, by decide, by decide⟩) ?_
      refine n_if_ne 18 dX11_vote_13 (by decide) (by first | (with_reducible exact cB _) | ((with_reducible apply cN_eq0) <;> omega) | exact Iff.rfl) (fun c13 => by exfalso; first | omega | exact absurd trivial c13 | exact c13 | (simp at c13)) (fun c13 => ?_)
      refine g_iconst (v := (-1)) dX11_vote_16 (by decide) ?_
      exact g_iret dX11_vote_17 rfl (⟨rfl, rfl, by rw [sp_vote, if_neg (fun z => hx z.2)], hb, byF.rf⟩)
  · rw [if_neg hm] at iw
    refine pvMet.of _ (by decide) rfl (Nat.le_of_ble_eq_true rfl) ?_
    refine g_iload_n dX11_vote_0 rfl ?_
    refine p_callS (iw) okX11_isWeek lkX11_160 rfl dX11_vote_1 rfl (Nat.le_of_ble_eq_true rfl) (⟨by decide, by decide, by decide, by decide⟩) ?_
    refine n_if_eq 16 dX11_vote_4 (by decide) (by first | (with_reducible exact cB _) | ((with_reducible apply cN_eq0) <;> omega) | exact Iff.rfl) (fun c4 => ?_) (fun c4 => by exfalso; first | omega | exact absurd trivial c4 | exact c4 | (simp at c4))
    refine g_iconst (v := (-1)) dX11_vote_16 (by decide) ?_
    exact g_iret dX11_vote_17 rfl (⟨rfl, rfl, by rw [sp_vote, if_neg (fun z => hm z.1)], hb, byF.rf⟩)
end GIF
