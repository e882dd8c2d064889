/-! class: trench: step, holds -/
theorem go_crd {w h d c : Nat} (hw : 0 < w) (hd : d < 4) : ∀ k x, sp_go w h d k c = some x → (d = 0 → x % w = c % w + k ∧ x / w = c / w) ∧ (d = 1 → x % w + k = c % w ∧ x / w = c / w) ∧ (d = 2 → x % w = c % w ∧ x / w = c / w + k) ∧ (d = 3 → x % w = c % w ∧ x / w + k = c / w)
  | 0, x, hx => by
    cases hx
    refine ⟨fun _ => ⟨rfl, rfl⟩, fun _ => ⟨rfl, rfl⟩, fun _ => ⟨rfl, rfl⟩, fun _ => ⟨rfl, rfl⟩⟩
  | k + 1, x, hx => by
    obtain ⟨y, h1, h2⟩ := Option.bind_eq_some_iff.mp hx
    obtain ⟨i0, i1, i2, i3⟩ := go_crd hw hd k y h1
    have e := Nat.div_add_mod y w
    have hm := Nat.mod_lt y hw
    refine ⟨?_, ?_, ?_, ?_⟩
    · rintro rfl
      rw [sp_nb0] at h2
      by_cases z : y % w + 1 < w
      · rw [if_pos z] at h2; cases h2
        obtain ⟨q1, q2⟩ := crd_of (c := y + 1) (q := y / w) z (by omega)
        have := i0 rfl
        omega
      · rw [if_neg z] at h2; cases h2
    · rintro rfl
      rw [sp_nb1] at h2
      by_cases z : 0 < y % w
      · rw [if_pos z] at h2; cases h2
        obtain ⟨q1, q2⟩ := crd_of (c := y - 1) (q := y / w) (r := y % w - 1) (w := w) (by omega) (by omega)
        have := i1 rfl
        omega
      · rw [if_neg z] at h2; cases h2
    · rintro rfl
      rw [sp_nb2] at h2
      by_cases z : y / w + 1 < h
      · rw [if_pos z] at h2; cases h2
        have : w * (y / w + 1) = w * (y / w) + w := Nat.mul_succ w (y / w)
        obtain ⟨q1, q2⟩ := crd_of (c := y + w) (q := y / w + 1) (r := y % w) (w := w) hm (by omega)
        have := i2 rfl
        omega
      · rw [if_neg z] at h2; cases h2
    · rintro rfl
      rw [sp_nb3] at h2
      by_cases z : 0 < y / w
      · rw [if_pos z] at h2; cases h2
        obtain ⟨q, hq⟩ : ∃ q, y / w = q + 1 := ⟨y / w - 1, by omega⟩
        have i3' := i3 rfl
        rw [hq] at e i3'
        have : w * (q + 1) = w * q + w := Nat.mul_succ w q
        obtain ⟨q1, q2⟩ := crd_of (c := y - w) (q := q) (r := y % w) (w := w) hm (by omega)
        omega
      · rw [if_neg z] at h2; cases h2
/-- a trench of k more cells stays in the seam -/
def goP (w h d c k : Nat) : Prop := (d = 0 → c % w + k < w) ∧ (d = 1 → k ≤ c % w) ∧ (d = 2 → c / w + k < h) ∧ (d = 3 → k ≤ c / w)
theorem go_iff {w h d c : Nat} (hw : 0 < w) (hd : d < 4) (hc : c < w * h) : ∀ k, ¬ sp_go w h d k c = none ↔ goP w h d c k
  | 0 => by
    have hm := Nat.mod_lt c hw
    have hq : c / w < h := Nat.div_lt_of_lt_mul hc
    exact ⟨fun _ => ⟨fun _ => by omega, fun _ => by omega, fun _ => by omega, fun _ => Nat.zero_le _⟩, fun _ z => by cases z⟩
  | k + 1 => by
    have ih := go_iff hw hd hc k
    cases hy : sp_go w h d k c with
    | none =>
      rw [hy] at ih
      have hn : sp_go w h d (k + 1) c = none := by show (sp_go w h d k c).bind _ = none; rw [hy]; rfl
      rw [hn]
      refine ⟨fun z => absurd rfl z, fun z => absurd (ih.mpr ⟨fun e => by have := z.1 e; omega, fun e => by have := z.2.1 e; omega, fun e => by have := z.2.2.1 e; omega, fun e => Nat.le_of_succ_le (z.2.2.2 e)⟩) (fun q => q rfl)⟩
    | some y =>
      have hn : sp_go w h d (k + 1) c = sp_nb w h y d := by show (sp_go w h d k c).bind _ = _; rw [hy]; rfl
      rw [hn]
      obtain ⟨i0, i1, i2, i3⟩ := go_crd hw hd k y hy
      have gp : ∀ (p : Prop) [Decidable p] (v : Nat), (¬ (if p then some v else none) = none) ↔ p := fun p _ v => by
        by_cases z : p
        · rw [if_pos z]; exact ⟨fun _ => z, fun _ q => by cases q⟩
        · rw [if_neg z]; exact ⟨fun q => absurd rfl q, fun q => absurd q z⟩
      unfold goP
      rcases (show d = 0 ∨ d = 1 ∨ d = 2 ∨ d = 3 by omega) with rfl | rfl | rfl | rfl
      · rw [sp_nb0, gp]
        obtain ⟨j1, j2⟩ := i0 rfl
        exact ⟨fun z => ⟨fun _ => by omega, fun q => (by cases q), fun q => (by cases q), fun q => (by cases q)⟩, fun z => by have := z.1 rfl; omega⟩
      · rw [sp_nb1, gp]
        obtain ⟨j1, j2⟩ := i1 rfl
        exact ⟨fun z => ⟨fun q => (by cases q), fun _ => by omega, fun q => (by cases q), fun q => (by cases q)⟩, fun z => by have := z.2.1 rfl; omega⟩
      · rw [sp_nb2, gp]
        obtain ⟨j1, j2⟩ := i2 rfl
        exact ⟨fun z => ⟨fun q => (by cases q), fun q => (by cases q), fun _ => by omega, fun q => (by cases q)⟩, fun z => by have := z.2.2.1 rfl; omega⟩
      · rw [sp_nb3, gp]
        obtain ⟨j1, j2⟩ := i3 rfl
        generalize y / w = Y at *
        generalize c / w = C at *
        exact ⟨fun z => ⟨fun q => (by cases q), fun q => (by cases q), fun q => (by cases q), fun _ => by omega⟩, fun z => by have := z.2.2.2 rfl; omega⟩
section STP
variable {w h : Nat} {I : pvI} {J : pvJ} {P : pvP}
theorem c_step {d : Nat} (hg : gridOk w h I J) (hd : d < 4) : pvMet mX2_step 0 0 0 [.ref 2, .int (nI d)] 224 I J P (pvpu (.int (stpI w d)) 224 I J P) := by
  obtain ⟨g0, g1, -⟩ := id hg
  have hw := hg.2.2.2.2.2.2.1
  rcases (show d = 0 ∨ d = 1 ∨ d = 2 ∨ d = 3 by omega) with rfl | rfl | rfl | rfl
  · skip
    refine pvMet.of _ (by decide) rfl (Nat.le_of_ble_eq_true rfl) ?_
    refine g_iload_n dX2_step_0 rfl ?_
    refine g_iconst (v := nI 2) dX2_step_1 (by decide) ?_
    refine n_icmp_ge 9 dX2_step_2 (by decide) (by first | ((with_reducible apply cN_le) <;> omega) | ((with_reducible apply cI_len) <;> omega) | ((with_reducible apply cI_nle) <;> omega) | (with_reducible exact cI_le)) (fun c2 => by exfalso; first | omega | exact absurd trivial c2 | exact c2 | (simp at c2)) (fun c2 => ?_)
    refine g_iconst (v := nI 1) dX2_step_5 (by decide) ?_
    refine g_goto 13 dX2_step_6 (by decide) ?_
    refine g_istore_n dX2_step_13 (by decide) rfl ?_
    refine g_iload_n dX2_step_14 rfl ?_
    refine g_iconst (v := nI 1) dX2_step_15 (by decide) ?_
    refine n_iand dX2_step_16 (show nI 0 &&& nI 1 = nI 0 from rfl) ?_
    refine n_if_ne 24 dX2_step_17 (by decide) (by first | (with_reducible exact cB _) | ((with_reducible apply cN_eq0) <;> omega) | exact Iff.rfl) (fun c17 => by exfalso; first | omega | exact absurd trivial c17 | exact c17 | (simp at c17)) (fun c17 => ?_)
    refine g_iload_n dX2_step_20 rfl ?_
    refine g_goto 26 dX2_step_21 (by decide) ?_
    exact g_iret dX2_step_26 rfl (⟨rfl, rfl, rfl, rfl, rfl⟩)
  · skip
    refine pvMet.of _ (by decide) rfl (Nat.le_of_ble_eq_true rfl) ?_
    refine g_iload_n dX2_step_0 rfl ?_
    refine g_iconst (v := nI 2) dX2_step_1 (by decide) ?_
    refine n_icmp_ge 9 dX2_step_2 (by decide) (by first | ((with_reducible apply cN_le) <;> omega) | ((with_reducible apply cI_len) <;> omega) | ((with_reducible apply cI_nle) <;> omega) | (with_reducible exact cI_le)) (fun c2 => by exfalso; first | omega | exact absurd trivial c2 | exact c2 | (simp at c2)) (fun c2 => ?_)
    refine g_iconst (v := nI 1) dX2_step_5 (by decide) ?_
    refine g_goto 13 dX2_step_6 (by decide) ?_
    refine g_istore_n dX2_step_13 (by decide) rfl ?_
    refine g_iload_n dX2_step_14 rfl ?_
    refine g_iconst (v := nI 1) dX2_step_15 (by decide) ?_
    refine n_iand dX2_step_16 (show nI 1 &&& nI 1 = nI 1 from rfl) ?_
    refine n_if_ne 24 dX2_step_17 (by decide) (by first | (with_reducible exact cB _) | ((with_reducible apply cN_eq0) <;> omega) | exact Iff.rfl) (fun c17 => ?_) (fun c17 => by exfalso; first | omega | exact absurd trivial c17 | exact c17 | (simp at c17))
    refine g_iload_n dX2_step_24 rfl ?_
    refine n_ineg dX2_step_25 (rfl) ?_
    exact g_iret dX2_step_26 rfl (⟨rfl, rfl, rfl, rfl, rfl⟩)
  · skip
    refine pvMet.of _ (by decide) rfl (Nat.le_of_ble_eq_true rfl) ?_
    refine g_iload_n dX2_step_0 rfl ?_
    refine g_iconst (v := nI 2) dX2_step_1 (by decide) ?_
    refine n_icmp_ge 9 dX2_step_2 (by decide) (by first | ((with_reducible apply cN_le) <;> omega) | ((with_reducible apply cI_len) <;> omega) | ((with_reducible apply cI_nle) <;> omega) | (with_reducible exact cI_le)) (fun c2 => ?_) (fun c2 => by exfalso; first | omega | exact absurd trivial c2 | exact c2 | (simp at c2))
    refine g_aload_n dX2_step_9 rfl ?_
    refine n_getI dX2_step_10 fdX2_7 rfl (by first | rfl | exact pv_shx) (by omega) (by omega) (by decide) rfl (by repeat (first | exact g0 | (apply rd_s; done) | apply rd_n (by omega) | apply rp_s | apply rp_n (by omega) | (apply rdL_s; done) | apply rdL_n (by omega) | apply rpJ_s | apply rpJ_n (by omega) | rfl)) ?_
    refine g_istore_n dX2_step_13 (by decide) rfl ?_
    refine g_iload_n dX2_step_14 rfl ?_
    refine g_iconst (v := nI 1) dX2_step_15 (by decide) ?_
    refine n_iand dX2_step_16 (show nI 2 &&& nI 1 = nI 0 from rfl) ?_
    refine n_if_ne 24 dX2_step_17 (by decide) (by first | (with_reducible exact cB _) | ((with_reducible apply cN_eq0) <;> omega) | exact Iff.rfl) (fun c17 => by exfalso; first | omega | exact absurd trivial c17 | exact c17 | (simp at c17)) (fun c17 => ?_)
    refine g_iload_n dX2_step_20 rfl ?_
    refine g_goto 26 dX2_step_21 (by decide) ?_
    exact g_iret dX2_step_26 rfl (⟨rfl, rfl, rfl, rfl, rfl⟩)
  · skip
    refine pvMet.of _ (by decide) rfl (Nat.le_of_ble_eq_true rfl) ?_
    refine g_iload_n dX2_step_0 rfl ?_
    refine g_iconst (v := nI 2) dX2_step_1 (by decide) ?_
    refine n_icmp_ge 9 dX2_step_2 (by decide) (by first | ((with_reducible apply cN_le) <;> omega) | ((with_reducible apply cI_len) <;> omega) | ((with_reducible apply cI_nle) <;> omega) | (with_reducible exact cI_le)) (fun c2 => ?_) (fun c2 => by exfalso; first | omega | exact absurd trivial c2 | exact c2 | (simp at c2))
    refine g_aload_n dX2_step_9 rfl ?_
    refine n_getI dX2_step_10 fdX2_7 rfl (by first | rfl | exact pv_shx) (by omega) (by omega) (by decide) rfl (by repeat (first | exact g0 | (apply rd_s; done) | apply rd_n (by omega) | apply rp_s | apply rp_n (by omega) | (apply rdL_s; done) | apply rdL_n (by omega) | apply rpJ_s | apply rpJ_n (by omega) | rfl)) ?_
    refine g_istore_n dX2_step_13 (by decide) rfl ?_
    refine g_iload_n dX2_step_14 rfl ?_
    refine g_iconst (v := nI 1) dX2_step_15 (by decide) ?_
    refine n_iand dX2_step_16 (show nI 3 &&& nI 1 = nI 1 from rfl) ?_
    refine n_if_ne 24 dX2_step_17 (by decide) (by first | (with_reducible exact cB _) | ((with_reducible apply cN_eq0) <;> omega) | exact Iff.rfl) (fun c17 => ?_) (fun c17 => by exfalso; first | omega | exact absurd trivial c17 | exact c17 | (simp at c17))
    refine g_iload_n dX2_step_24 rfl ?_
    refine n_ineg dX2_step_25 (rfl) ?_
    exact g_iret dX2_step_26 rfl (⟨rfl, rfl, rfl, rfl, rfl⟩)
end STP
