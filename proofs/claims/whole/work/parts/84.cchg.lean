/-! class: what is forgotten when the world changes -/
def fg2 (F k sn : Nat) (I I' : pvI) : Prop := (∀ j, j ≠ 4 → j ≠ 5 → I' F j = I F j) ∧ I' F 5 = nI (min sn k) ∧ (I' F 4 = -1 ∨ ∃ j, j < k ∧ I F 4 = nI j ∧ I' F 4 = nI j)
def chg (k : Nat) (I I' : pvI) : Prop := (∀ x, x ≠ 43 → (∀ s, s < 8 → x ≠ fad s) → I' x = I x) ∧ I' 43 = upd (upd (I 43) 3 (-1)) 4 (-1) ∧ ∀ s, s < 8 → ∀ sn, I (fad s) 5 = nI sn → sn ≤ 100 → fg2 (fad s) k sn I I'
section CHG
variable {w h : Nat} {a a' : Nat → Int32} {I : pvI} {J : pvJ} {P : pvP}
theorem c_wforget (hP : pvOkP P) : pvMet mX8_forget 0 0 0 [.ref 43] 224 I J P (pvq P (fun v I' J' => v = none ∧ J' = J ∧ I' = pvs I 43 (upd (upd (I 43) 3 (-1)) 4 (-1)))) := by
  refine pvMet.of _ (by decide) rfl (Nat.le_of_ble_eq_true rfl) ?_
  refine g_aload_n dX8_forget_0 rfl ?_
  refine g_iconst (v := (-1)) dX8_forget_1 (by decide) ?_
  refine n_putI dX8_forget_2 fdX8_18 rfl (fun h => absurd h (by decide)) (by first | rfl | exact pv_shx) (by omega) (by omega) (by decide) rfl (by repeat (first | exact pvu_s | exact pvuJ_s | apply pvu_in (by omega) | apply pvuJ_in (by omega) | exact pvu_pvs | exact pvuJ_pvs)) ?_
  refine g_aload_n dX8_forget_5 rfl ?_
  refine g_iconst (v := (-1)) dX8_forget_6 (by decide) ?_
  refine n_putI dX8_forget_7 fdX8_22 rfl (fun h => absurd h (by decide)) (by first | rfl | exact pv_shx) (by omega) (by omega) (by decide) rfl (by repeat (first | exact pvu_s | exact pvuJ_s | apply pvu_in (by omega) | apply pvuJ_in (by omega) | exact pvu_pvs | exact pvuJ_pvs)) ?_
  exact g_vret dX8_forget_10 rfl (⟨rfl, rfl, rfl, rfl, rfl⟩)
theorem c_changedFrom {k : Nat} (hP : pvOkP P) (hf : rFir w h a I J) (hk : k ≤ 1000) : pvMet mX11_changedFrom 2 0 0 [.ref 1, .int (nI k)] 224 I J P (pvq P (fun v I' J' => v = none ∧ J' = J ∧ chg k I I')) := by
  have fne : ∀ s t, s < 8 → t < 8 → s ≠ t → fad s ≠ fad t := fun s t _ _ z y => by unfold fad at y; omega
  have lp : ∀ q i I1, i + q = 8 → (∀ x, (∀ s, s < i → x ≠ fad s) → I1 x = I x) → (∀ s, s < i → ∀ sn, I (fad s) 5 = nI sn → sn ≤ 100 → fg2 (fad s) k sn I I1) → pvG mX11_changedFrom (pvR 2 0 0) (pvZ (pvq P (fun v I' J' => v = none ∧ J' = J ∧ chg k I I')) 0 0) 2 [.ref 1, .int (nI k), .int (nI i)] [] 0 0 224 I1 J P := by
    intro q
    induction q with
    | zero =>
      intro i I1 hi h1 h2
      obtain rfl : i = 8 := by omega
      have wf := c_wforget (I := I1) (J := J) hP
      have e43 : I1 43 = I 43 := h1 43 (fun s hs z => by unfold fad at z; omega)
      refine g_iload_n dX11_changedFrom_2 rfl ?_
      refine g_bipush (v := nI 8) dX11_changedFrom_3 (by decide) ?_
      refine n_icmp_ge 24 dX11_changedFrom_5 (by decide) (by first | ((with_reducible apply cN_le) <;> omega) | ((with_reducible apply cI_len) <;> omega) | ((with_reducible apply cI_nle) <;> omega) | (with_reducible exact cI_le)) (fun c5 => ?_) (fun c5 => by exfalso; first | omega | exact absurd trivial c5 | exact c5 | (simp at c5))
      refine g_aload_n dX11_changedFrom_24 rfl ?_
      refine g_getP dX11_changedFrom_25 fdX11_32 rfl (by first | rfl | exact pv_shx) (by omega) (by omega) (by decide) rfl (hP _ _ _ rfl) ?_
      refine g_getP dX11_changedFrom_28 fdX11_180 rfl (by first | rfl | exact pv_shx) (by omega) (by omega) (by decide) rfl (hP _ _ _ rfl) ?_
      refine g_callV (wf) okX8_forget lkX11_184 rfl (by first | rfl | exact pv_shx) rfl (by omega) (by omega) dX11_changedFrom_31 rfl (Nat.le_of_ble_eq_true rfl) (⟨by decide, by decide, by decide, by decide⟩) ?_
      rintro v nx' I2 J2 P' ⟨rfl, rfl, rfl, rfl, rfl⟩
      exact g_vret dX11_changedFrom_34 rfl (⟨rfl, rfl, rfl, rfl, fun x z1 z2 => by rw [pvs_ne z1]; exact h1 x z2, by rw [pvs_eq, e43], fun s hs sn z1 z2 => by
  have hne : fad s ≠ 43 := by unfold fad; omega
  unfold fg2
  rw [pvs_ne hne]
  exact h2 s hs sn z1 z2⟩)
    | succ q ih =>
      intro i I1 hi h1 h2
      obtain ⟨-, ⟨sn, sn1, sn2, sn3⟩, -⟩ := hf i (by omega)
      have e0 : I1 (fad i) = I (fad i) := h1 _ (fun s hs => fne i s (by omega) (by omega) (by omega))
      have fo := f_forget (F := fad i) (k := k) (sn := sn) (I := I1) (J := J) (P := P) (fad_ok (by omega)) hk sn1 (by rw [e0]; exact sn2) (by rw [e0]; exact sn3)
      have s0 := (fad_ok (show i < 9 by omega)).sh.1.1
      have bs := fad_lt (show i < 8 by omega)
      refine g_iload_n dX11_changedFrom_2 rfl ?_
      refine g_bipush (v := nI 8) dX11_changedFrom_3 (by decide) ?_
      refine n_icmp_ge 24 dX11_changedFrom_5 (by decide) (by first | ((with_reducible apply cN_le) <;> omega) | ((with_reducible apply cI_len) <;> omega) | ((with_reducible apply cI_nle) <;> omega) | (with_reducible exact cI_le)) (fun c5 => by exfalso; first | omega | exact absurd trivial c5 | exact c5 | (simp at c5)) (fun c5 => ?_)
      refine g_aload_n dX11_changedFrom_8 rfl ?_
      refine g_getP dX11_changedFrom_9 fdX11_41 rfl (by first | rfl | exact pv_shx) (by omega) (by omega) (by decide) rfl (hP _ _ _ rfl) ?_
      refine g_iload_n dX11_changedFrom_12 rfl ?_
      refine g_aald _ dX11_changedFrom_13 (by first | exact Or.inl rfl | exact Or.inr rfl) (by omega) (by omega) (by decide) (rfl) (by omega) (fires_P hP (by omega)) ?_
      refine g_iload_n dX11_changedFrom_14 rfl ?_
      refine g_callV (fo) okX1_forgetFrom lkX11_431 rfl (s0) rfl (by omega) (by omega) dX11_changedFrom_15 rfl (Nat.le_of_ble_eq_true rfl) (⟨by decide, by decide, by decide, by decide⟩) ?_
      rintro v nx' I2 J2 P' ⟨rfl, rfl, rfl, rfl, g1, g2, g3, g4⟩
      refine g_iinc dX11_changedFrom_18 rfl (by first | (with_reducible exact nI_1 _) | exact nI_1 _ | exact pk_m1 _ | rfl) (by decide) rfl ?_
      refine g_goto 2 dX11_changedFrom_21 (by decide) ?_
      refine ih (i + 1) I2 (by omega) (fun x hx => ?_) (fun s hs sm z1 z2 => ?_)
      · rw [g1 x (by simpa using hx i (by omega))]
        exact h1 x (fun s hs => hx s (by omega))
      · by_cases e : s = i
        · subst e
          have : sm = sn := by rw [sn2, nI_eq (by omega) (by omega)] at z1; exact z1.symm
          subst this
          unfold fg2
          rw [← e0]
          exact ⟨g2, g3, g4⟩
        · unfold fg2
          rw [g1 (fad s) (by simpa using fne s i (by omega) (by omega) e)]
          exact h2 s (by omega) sm z1 z2
  refine pvMet.of _ (by decide) rfl (Nat.le_of_ble_eq_true rfl) ?_
  refine g_iconst (v := nI 0) dX11_changedFrom_0 (by decide) ?_
  refine g_istore_n dX11_changedFrom_1 (by decide) rfl ?_
  exact lp 8 0 I rfl (fun _ _ => rfl) (fun s hs => absurd hs (Nat.not_lt_zero s))
/-- forgetting makes the rest so for another world -/
theorem fVn.fg {s k sn : Nat} {I' : pvI} (hv : fVn w h a 0 none s (fad s) 0 sn I J) (hk : k ≤ 1000) (hfg : fg2 (fad s) k sn I I') (hI : I' (fad s + 1) = I (fad s + 1) ∧ I' (fad s + 2) = I (fad s + 2)) (hc : ∀ j, j < k → j < sn → fwk w h a' 0 none s j = fwk w h a 0 none s j ∧ metB w h a' 0 none s j = metB w h a 0 none s j) : fVn w h a' 0 none s (fad s) 0 (min sn k) I' J := by
  obtain ⟨v1, v2, v3, v4⟩ := hv
  refine ⟨by omega, hfg.2.1, fun j hj => ?_, ?_⟩
  · obtain ⟨c1, c2⟩ := hc j (by omega) (by omega)
    rw [c1, c2]
    exact v3 j (by omega)
  · rcases hfg.2.2 with z | ⟨j, j1, j2, j3⟩
    · exact Or.inl z
    · rcases v4 with y | ⟨i, i1, i2, i3⟩
      · exfalso
        rw [y] at j2
        have := congrArg Int32.toInt j2
        rw [nI_toInt (by omega)] at this
        have e : ((-1 : Int32)).toInt = -1 := rfl
        omega
      · have hij : i = j := by rw [i2, nI_eq (by omega) (by omega)] at j2; exact j2
        subst hij
        refine Or.inr ⟨i, by omega, j3, ?_⟩
        rw [(hc i (by omega) (by omega)).1]
        unfold fCu at i3 ⊢
        rw [hI.1, hI.2]
        exact i3
/-- the fires after the world changed from week k on -/
theorem rFir.chg {k : Nat} {I' : pvI} (hf : rFir w h a I J) (hc : chg k I I') (hk : k ≤ 1000) (h3 : cnt a' 3 = cnt a 3) (hs : ∀ s, s < cnt a 3 → a' (260 + 2 * s) = a (260 + 2 * s) ∧ a' (260 + 2 * s + 1) = a (260 + 2 * s + 1)) (hw : ∀ s j, s < cnt a 3 → s < 8 → j < k → j ≤ 99 → fwk w h a' 0 none s j = fwk w h a 0 none s j ∧ metB w h a' 0 none s j = metB w h a 0 none s j) : rFir w h a' I' J := by
  obtain ⟨c1, c2, c3⟩ := hc
  intro s h8
  obtain ⟨⟨x1, x2⟩, ⟨sn, n1, n2, n3⟩, x3⟩ := hf s h8
  have fg := c3 s h8 sn n2 n1
  have off : ∀ d, 1 ≤ d → d ≤ 5 → I' (fad s + d) = I (fad s + d) := fun d d1 d2 => c1 _ (by unfold fad; omega) (fun t ht => by unfold fad; omega)
  refine ⟨⟨by rw [fg.1 2 (by decide) (by decide)]; exact x1, x2⟩, ⟨min sn k, by omega, fg.2.1, ?_⟩, fun z => ?_⟩
  · rcases fg.2.2 with z | ⟨j, j1, j2, j3⟩
    · exact Or.inl z
    · rcases n3 with y | ⟨i, i1, i2⟩
      · exact Or.inl (by rw [j3, ← j2]; exact y)
      · exact Or.inr ⟨i, i1, by rw [j3, ← j2]; exact i2⟩
  · rw [h3] at z
    obtain ⟨y1, y2, sm, y3⟩ := x3 z
    have e : sm = sn := by
      have := y3.2.1
      have l := y3.1
      rw [n2, nI_eq (by omega) (by omega)] at this
      exact this.symm
    subst e
    obtain ⟨z1, z2⟩ := hs s z
    exact ⟨by rw [fg.1 0 (by decide) (by decide), z1]; exact y1, by rw [fg.1 1 (by decide) (by decide), z2]; exact y2, _, y3.fg hk fg ⟨off 1 (by omega) (by omega), off 2 (by omega) (by omega)⟩ (fun j j1 j2 => hw s j z h8 j1 (by have := y3.1; omega))⟩
theorem rTri.chg {k : Nat} {I' : pvI} (ht : rTri I J) (hc : chg k I I') : rTri I' J := ht.mv (hc.1 138 (by decide) (fun s hs => by unfold fad; omega)) rfl
end CHG
