/-! class: its parts are made -/
def zz (nx : Nat) (I : pvI) (J : pvJ) (P : pvP) : Prop := ∀ x, nx < x → x ≤ 224 → I x = (fun _ => 0) ∧ J x = (fun _ => 0) ∧ P x = (fun _ => none)
section INI
variable {A F b : Nat} {I : pvI} {J : pvJ} {P : pvP}
theorem n_act (hA : aAd A) (hz : zz A I J P) : pvMet mX0_init 1 4 360 [.ref A] A I J P (fun v nx' I' J' P' => v = none ∧ nx' = A + 4 ∧ I' = I ∧ J' = J ∧ (∀ x, x ≠ A → P' x = P x) ∧ P' A 2 = some (A + 1) ∧ P' A 3 = some (A + 2) ∧ P' A 4 = some (A + 3) ∧ P' A 5 = some (A + 4)) := by
  obtain ⟨⟨s0, s1, s2, s3, s4⟩, h149, h194⟩ := hA.sh
  refine pvMet.of _ (by decide) rfl (Nat.le_of_ble_eq_true rfl) ?_
  refine g_aload_n dX0_init_0 rfl ?_
  refine g_objInit dX0_init_1 loX0_3 (by decide) (by decide) ?_
  refine g_aload_n dX0_init_4 rfl ?_
  refine g_bipush (v := nI 20) dX0_init_5 (by decide) ?_
  refine g_newI dX0_init_7 (by first | exact s0 | exact s1 | exact s2 | exact s3 | exact s4) (by decide) (by omega) (by first | exact (hz _ (by omega) (by omega)).1 | (rw [pvs_ne (by omega)]; exact (hz _ (by omega) (by omega)).1)) (by decide) (by decide) ?_
  refine g_putP dX0_init_9 fdX0_11 rfl (fun _ => ⟨rfl, _, _, _, rfl, rfl⟩) (by first | exact s0 | exact s1 | exact s2 | exact s3 | exact s4) (by omega) (by omega) (by decide) rfl (by first | exact Or.inl ⟨_, rfl⟩ | exact Or.inr ⟨_, rfl⟩) ?_
  refine g_aload_n dX0_init_12 rfl ?_
  refine g_bipush (v := nI 20) dX0_init_13 (by decide) ?_
  refine g_newI dX0_init_15 (by first | exact s0 | exact s1 | exact s2 | exact s3 | exact s4) (by decide) (by omega) (by first | exact (hz _ (by omega) (by omega)).1 | (rw [pvs_ne (by omega)]; exact (hz _ (by omega) (by omega)).1)) (by decide) (by decide) ?_
  refine g_putP dX0_init_17 fdX0_15 rfl (fun _ => ⟨rfl, _, _, _, rfl, rfl⟩) (by first | exact s0 | exact s1 | exact s2 | exact s3 | exact s4) (by omega) (by omega) (by decide) rfl (by first | exact Or.inl ⟨_, rfl⟩ | exact Or.inr ⟨_, rfl⟩) ?_
  refine g_aload_n dX0_init_20 rfl ?_
  refine g_bipush (v := nI 20) dX0_init_21 (by decide) ?_
  refine g_newI dX0_init_23 (by first | exact s0 | exact s1 | exact s2 | exact s3 | exact s4) (by decide) (by omega) (by first | exact (hz _ (by omega) (by omega)).1 | (rw [pvs_ne (by omega)]; exact (hz _ (by omega) (by omega)).1)) (by decide) (by decide) ?_
  refine g_putP dX0_init_25 fdX0_18 rfl (fun _ => ⟨rfl, _, _, _, rfl, rfl⟩) (by first | exact s0 | exact s1 | exact s2 | exact s3 | exact s4) (by omega) (by omega) (by decide) rfl (by first | exact Or.inl ⟨_, rfl⟩ | exact Or.inr ⟨_, rfl⟩) ?_
  refine g_aload_n dX0_init_28 rfl ?_
  refine g_sipush (v := nI 300) dX0_init_29 (by decide) ?_
  refine g_newI dX0_init_32 (by first | exact s0 | exact s1 | exact s2 | exact s3 | exact s4) (by decide) (by omega) (by first | exact (hz _ (by omega) (by omega)).1 | (rw [pvs_ne (by omega)]; exact (hz _ (by omega) (by omega)).1)) (by decide) (by decide) ?_
  refine g_putP dX0_init_34 fdX0_21 rfl (fun _ => ⟨rfl, _, _, _, rfl, rfl⟩) (by first | exact s0 | exact s1 | exact s2 | exact s3 | exact s4) (by omega) (by omega) (by decide) rfl (by first | exact Or.inl ⟨_, rfl⟩ | exact Or.inr ⟨_, rfl⟩) ?_
  exact g_vret dX0_init_37 rfl (⟨rfl, rfl, rfl, rfl, fun x hx => by simp [pvuP, hx], by simp [pvuP, va_up], by simp [pvuP, va_up], by simp [pvuP, va_up], by simp [pvuP, va_up]⟩)
theorem n_fire (hA : fAd F) (hz : zz F I J P) : pvMet mX1_init 1 5 428 [.ref F] F I J P (fun v nx' I' J' P' => v = none ∧ nx' = F + 5 ∧ I' = pvs I F (upd (upd (I F) 2 (-1)) 4 (-1)) ∧ J' = J ∧ (∀ x, x ≠ F → P' x = P x) ∧ P' F 10 = some (F + 1) ∧ P' F 11 = some (F + 2) ∧ P' F 12 = some (F + 3) ∧ P' F 13 = some (F + 4) ∧ P' F 14 = some (F + 5)) := by
  obtain ⟨⟨s0, s1, s2, s3, s4, s5⟩, h90, h138⟩ := hA.sh
  refine pvMet.of _ (by decide) rfl (Nat.le_of_ble_eq_true rfl) ?_
  refine g_aload_n dX1_init_0 rfl ?_
  refine g_objInit dX1_init_1 loX1_3 (by decide) (by decide) ?_
  refine g_aload_n dX1_init_4 rfl ?_
  refine g_iconst (v := (-1)) dX1_init_5 (by decide) ?_
  refine n_putI dX1_init_6 fdX1_9 rfl (fun h => absurd h (by decide)) (by first | exact s0 | exact s1 | exact s2 | exact s3 | exact s4 | exact s5) (by omega) (by omega) (by decide) rfl (by repeat (first | exact pvu_s | exact pvuJ_s | apply pvu_in (by omega) | apply pvuJ_in (by omega) | exact pvu_pvs | exact pvuJ_pvs)) ?_
  refine g_aload_n dX1_init_9 rfl ?_
  refine g_iconst (v := (-1)) dX1_init_10 (by decide) ?_
  refine n_putI dX1_init_11 fdX1_15 rfl (fun h => absurd h (by decide)) (by first | exact s0 | exact s1 | exact s2 | exact s3 | exact s4 | exact s5) (by omega) (by omega) (by decide) rfl (by repeat (first | exact pvu_s | exact pvuJ_s | apply pvu_in (by omega) | apply pvuJ_in (by omega) | exact pvu_pvs | exact pvuJ_pvs)) ?_
  refine g_aload_n dX1_init_14 rfl ?_
  refine g_bipush (v := nI 64) dX1_init_15 (by decide) ?_
  refine g_newI dX1_init_17 (by first | exact s0 | exact s1 | exact s2 | exact s3 | exact s4 | exact s5) (by decide) (by omega) (by first | exact (hz _ (by omega) (by omega)).1 | (rw [pvs_ne (by omega)]; exact (hz _ (by omega) (by omega)).1)) (by decide) (by decide) ?_
  refine g_putP dX1_init_19 fdX1_18 rfl (fun _ => ⟨rfl, _, _, _, rfl, rfl⟩) (by first | exact s0 | exact s1 | exact s2 | exact s3 | exact s4 | exact s5) (by omega) (by omega) (by decide) rfl (by first | exact Or.inl ⟨_, rfl⟩ | exact Or.inr ⟨_, rfl⟩) ?_
  refine g_aload_n dX1_init_22 rfl ?_
  refine g_bipush (v := nI 64) dX1_init_23 (by decide) ?_
  refine g_newI dX1_init_25 (by first | exact s0 | exact s1 | exact s2 | exact s3 | exact s4 | exact s5) (by decide) (by omega) (by first | exact (hz _ (by omega) (by omega)).1 | (rw [pvs_ne (by omega)]; exact (hz _ (by omega) (by omega)).1)) (by decide) (by decide) ?_
  refine g_putP dX1_init_27 fdX1_22 rfl (fun _ => ⟨rfl, _, _, _, rfl, rfl⟩) (by first | exact s0 | exact s1 | exact s2 | exact s3 | exact s4 | exact s5) (by omega) (by omega) (by decide) rfl (by first | exact Or.inl ⟨_, rfl⟩ | exact Or.inr ⟨_, rfl⟩) ?_
  refine g_aload_n dX1_init_30 rfl ?_
  refine g_bipush (v := nI 100) dX1_init_31 (by decide) ?_
  refine g_newJ dX1_init_33 (by first | exact s0 | exact s1 | exact s2 | exact s3 | exact s4 | exact s5) (by decide) (by omega) (by first | exact (hz _ (by omega) (by omega)).2.1 | (rw [pvs_ne (by omega)]; exact (hz _ (by omega) (by omega)).2.1)) (by decide) (by decide) ?_
  refine g_putP dX1_init_35 fdX1_25 rfl (fun _ => ⟨rfl, _, _, _, rfl, rfl⟩) (by first | exact s0 | exact s1 | exact s2 | exact s3 | exact s4 | exact s5) (by omega) (by omega) (by decide) rfl (by first | exact Or.inl ⟨_, rfl⟩ | exact Or.inr ⟨_, rfl⟩) ?_
  refine g_aload_n dX1_init_38 rfl ?_
  refine g_bipush (v := nI 100) dX1_init_39 (by decide) ?_
  refine g_newJ dX1_init_41 (by first | exact s0 | exact s1 | exact s2 | exact s3 | exact s4 | exact s5) (by decide) (by omega) (by first | exact (hz _ (by omega) (by omega)).2.1 | (rw [pvs_ne (by omega)]; exact (hz _ (by omega) (by omega)).2.1)) (by decide) (by decide) ?_
  refine g_putP dX1_init_43 fdX1_29 rfl (fun _ => ⟨rfl, _, _, _, rfl, rfl⟩) (by first | exact s0 | exact s1 | exact s2 | exact s3 | exact s4 | exact s5) (by omega) (by omega) (by decide) rfl (by first | exact Or.inl ⟨_, rfl⟩ | exact Or.inr ⟨_, rfl⟩) ?_
  refine g_aload_n dX1_init_46 rfl ?_
  refine g_bipush (v := nI 100) dX1_init_47 (by decide) ?_
  refine g_newJ dX1_init_49 (by first | exact s0 | exact s1 | exact s2 | exact s3 | exact s4 | exact s5) (by decide) (by omega) (by first | exact (hz _ (by omega) (by omega)).2.1 | (rw [pvs_ne (by omega)]; exact (hz _ (by omega) (by omega)).2.1)) (by decide) (by decide) ?_
  refine g_putP dX1_init_51 fdX1_32 rfl (fun _ => ⟨rfl, _, _, _, rfl, rfl⟩) (by first | exact s0 | exact s1 | exact s2 | exact s3 | exact s4 | exact s5) (by omega) (by omega) (by decide) rfl (by first | exact Or.inl ⟨_, rfl⟩ | exact Or.inr ⟨_, rfl⟩) ?_
  exact g_vret dX1_init_54 rfl (⟨rfl, rfl, rfl, rfl, fun x hx => by simp [pvuP, hx], by simp [pvuP, va_up], by simp [pvuP, va_up], by simp [pvuP, va_up], by simp [pvuP, va_up], by simp [pvuP, va_up]⟩)
theorem n_reader (hz : zz 144 I J P) : pvMet mX6_init 1 3 902 [.ref 144] 144 I J P (fun v nx' I' J' P' => v = none ∧ nx' = 147 ∧ I' = pvs I 144 (upd (upd (I 144) 2 (-1)) 3 (-1)) ∧ J' = J ∧ (∀ x, x ≠ 144 → P' x = P x) ∧ P' 144 0 = some 145 ∧ P' 144 4 = some 146 ∧ P' 144 5 = some 147) := by
  refine pvMet.of _ (by decide) rfl (Nat.le_of_ble_eq_true rfl) ?_
  refine g_aload_n dX6_init_0 rfl ?_
  refine g_objInit dX6_init_1 loX6_3 (by decide) (by decide) ?_
  refine g_aload_n dX6_init_4 rfl ?_
  refine g_sipush (v := nI 300) dX6_init_5 (by decide) ?_
  refine g_newI dX6_init_8 (rfl) (by decide) (by omega) (by first | exact (hz _ (by omega) (by omega)).1 | (rw [pvs_ne (by omega)]; exact (hz _ (by omega) (by omega)).1)) (by decide) (by decide) ?_
  refine g_putP dX6_init_10 fdX6_9 rfl (fun _ => ⟨rfl, _, _, _, rfl, rfl⟩) (by first | rfl | exact pv_shx) (by omega) (by omega) (by decide) rfl (by first | exact Or.inl ⟨_, rfl⟩ | exact Or.inr ⟨_, rfl⟩) ?_
  refine g_aload_n dX6_init_13 rfl ?_
  refine g_iconst (v := (-1)) dX6_init_14 (by decide) ?_
  refine n_putI dX6_init_15 fdX6_15 rfl (fun h => absurd h (by decide)) (by first | rfl | exact pv_shx) (by omega) (by omega) (by decide) rfl (by repeat (first | exact pvu_s | exact pvuJ_s | apply pvu_in (by omega) | apply pvuJ_in (by omega) | exact pvu_pvs | exact pvuJ_pvs)) ?_
  refine g_aload_n dX6_init_18 rfl ?_
  refine g_iconst (v := (-1)) dX6_init_19 (by decide) ?_
  refine n_putI dX6_init_20 fdX6_19 rfl (fun h => absurd h (by decide)) (by first | rfl | exact pv_shx) (by omega) (by omega) (by decide) rfl (by repeat (first | exact pvu_s | exact pvuJ_s | apply pvu_in (by omega) | apply pvuJ_in (by omega) | exact pvu_pvs | exact pvuJ_pvs)) ?_
  refine g_aload_n dX6_init_23 rfl ?_
  refine g_sipush (v := nI 301) dX6_init_24 (by decide) ?_
  refine g_newI dX6_init_27 (rfl) (by decide) (by omega) (by first | exact (hz _ (by omega) (by omega)).1 | (rw [pvs_ne (by omega)]; exact (hz _ (by omega) (by omega)).1)) (by decide) (by decide) ?_
  refine g_putP dX6_init_29 fdX6_22 rfl (fun _ => ⟨rfl, _, _, _, rfl, rfl⟩) (by first | rfl | exact pv_shx) (by omega) (by omega) (by decide) rfl (by first | exact Or.inl ⟨_, rfl⟩ | exact Or.inr ⟨_, rfl⟩) ?_
  refine g_aload_n dX6_init_32 rfl ?_
  refine g_sipush (v := nI 301) dX6_init_33 (by decide) ?_
  refine g_newI dX6_init_36 (rfl) (by decide) (by omega) (by first | exact (hz _ (by omega) (by omega)).1 | (rw [pvs_ne (by omega)]; exact (hz _ (by omega) (by omega)).1)) (by decide) (by decide) ?_
  refine g_putP dX6_init_38 fdX6_25 rfl (fun _ => ⟨rfl, _, _, _, rfl, rfl⟩) (by first | rfl | exact pv_shx) (by omega) (by omega) (by decide) rfl (by first | exact Or.inl ⟨_, rfl⟩ | exact Or.inr ⟨_, rfl⟩) ?_
  exact g_vret dX6_init_41 rfl (⟨rfl, rfl, rfl, rfl, fun x hx => by simp [pvuP, hx], by simp [pvuP, va_up], by simp [pvuP, va_up], by simp [pvuP, va_up]⟩)
/-- the two worlds -/
def wAd (b : Nat) : Prop := b = 3 ∨ b = 46
theorem n_ground (hb : wAd b) (hz : zz (b + 1) I J P) : pvMet mX3_init 1 4 292 [.ref (b + 1), .ref 2] (b + 1) I J P (fun v nx' I' J' P' => v = none ∧ nx' = b + 5 ∧ I' = pvs I (b + 1) (upd (upd (upd (I (b + 1)) 8 (nI 3)) 9 (nI 10)) 10 (nI 6)) ∧ J' = J ∧ (∀ x, x ≠ b + 1 → P' x = P x) ∧ P' (b + 1) 0 = some 2 ∧ P' (b + 1) 1 = some (b + 2) ∧ P' (b + 1) 2 = some (b + 3) ∧ P' (b + 1) 3 = some (b + 4) ∧ P' (b + 1) 4 = some (b + 5)) := by
  rcases hb with rfl | rfl
  · skip
    refine pvMet.of _ (by decide) rfl (Nat.le_of_ble_eq_true rfl) ?_
    refine g_aload_n dX3_init_0 rfl ?_
    refine g_objInit dX3_init_1 loX3_3 (by decide) (by decide) ?_
    refine g_aload_n dX3_init_4 rfl ?_
    refine g_bipush (v := nI 64) dX3_init_5 (by decide) ?_
    refine g_newI dX3_init_7 (rfl) (by decide) (by omega) (by first | exact (hz _ (by omega) (by omega)).1 | (rw [pvs_ne (by omega)]; exact (hz _ (by omega) (by omega)).1)) (by decide) (by decide) ?_
    refine g_putP dX3_init_9 fdX3_9 rfl (fun _ => ⟨rfl, _, _, _, rfl, rfl⟩) (by first | rfl | exact pv_shx) (by omega) (by omega) (by decide) rfl (by first | exact Or.inl ⟨_, rfl⟩ | exact Or.inr ⟨_, rfl⟩) ?_
    refine g_aload_n dX3_init_12 rfl ?_
    refine g_bipush (v := nI 64) dX3_init_13 (by decide) ?_
    refine g_newI dX3_init_15 (rfl) (by decide) (by omega) (by first | exact (hz _ (by omega) (by omega)).1 | (rw [pvs_ne (by omega)]; exact (hz _ (by omega) (by omega)).1)) (by decide) (by decide) ?_
    refine g_putP dX3_init_17 fdX3_15 rfl (fun _ => ⟨rfl, _, _, _, rfl, rfl⟩) (by first | rfl | exact pv_shx) (by omega) (by omega) (by decide) rfl (by first | exact Or.inl ⟨_, rfl⟩ | exact Or.inr ⟨_, rfl⟩) ?_
    refine g_aload_n dX3_init_20 rfl ?_
    refine g_bipush (v := nI 64) dX3_init_21 (by decide) ?_
    refine g_newI dX3_init_23 (rfl) (by decide) (by omega) (by first | exact (hz _ (by omega) (by omega)).1 | (rw [pvs_ne (by omega)]; exact (hz _ (by omega) (by omega)).1)) (by decide) (by decide) ?_
    refine g_putP dX3_init_25 fdX3_18 rfl (fun _ => ⟨rfl, _, _, _, rfl, rfl⟩) (by first | rfl | exact pv_shx) (by omega) (by omega) (by decide) rfl (by first | exact Or.inl ⟨_, rfl⟩ | exact Or.inr ⟨_, rfl⟩) ?_
    refine g_aload_n dX3_init_28 rfl ?_
    refine g_bipush (v := nI 100) dX3_init_29 (by decide) ?_
    refine g_newJ dX3_init_31 (rfl) (by decide) (by omega) (by first | exact (hz _ (by omega) (by omega)).2.1 | (rw [pvs_ne (by omega)]; exact (hz _ (by omega) (by omega)).2.1)) (by decide) (by decide) ?_
    refine g_putP dX3_init_33 fdX3_21 rfl (fun _ => ⟨rfl, _, _, _, rfl, rfl⟩) (by first | rfl | exact pv_shx) (by omega) (by omega) (by decide) rfl (by first | exact Or.inl ⟨_, rfl⟩ | exact Or.inr ⟨_, rfl⟩) ?_
    refine g_aload_n dX3_init_36 rfl ?_
    refine g_iconst (v := nI 3) dX3_init_37 (by decide) ?_
    refine n_putI dX3_init_38 fdX3_25 rfl (fun h => absurd h (by decide)) (by first | rfl | exact pv_shx) (by omega) (by omega) (by decide) rfl (by repeat (first | exact pvu_s | exact pvuJ_s | apply pvu_in (by omega) | apply pvuJ_in (by omega) | exact pvu_pvs | exact pvuJ_pvs)) ?_
    refine g_aload_n dX3_init_41 rfl ?_
    refine g_bipush (v := nI 10) dX3_init_42 (by decide) ?_
    refine n_putI dX3_init_44 fdX3_29 rfl (fun h => absurd h (by decide)) (by first | rfl | exact pv_shx) (by omega) (by omega) (by decide) rfl (by repeat (first | exact pvu_s | exact pvuJ_s | apply pvu_in (by omega) | apply pvuJ_in (by omega) | exact pvu_pvs | exact pvuJ_pvs)) ?_
    refine g_aload_n dX3_init_47 rfl ?_
    refine g_bipush (v := nI 6) dX3_init_48 (by decide) ?_
    refine n_putI dX3_init_50 fdX3_32 rfl (fun h => absurd h (by decide)) (by first | rfl | exact pv_shx) (by omega) (by omega) (by decide) rfl (by repeat (first | exact pvu_s | exact pvuJ_s | apply pvu_in (by omega) | apply pvuJ_in (by omega) | exact pvu_pvs | exact pvuJ_pvs)) ?_
    refine g_aload_n dX3_init_53 rfl ?_
    refine g_aload_n dX3_init_54 rfl ?_
    refine g_putP dX3_init_55 fdX3_35 rfl (fun _ => ⟨rfl, _, _, _, rfl, rfl⟩) (by first | rfl | exact pv_shx) (by omega) (by omega) (by decide) rfl (by first | exact Or.inl ⟨_, rfl⟩ | exact Or.inr ⟨_, rfl⟩) ?_
    exact g_vret dX3_init_58 rfl (⟨rfl, rfl, rfl, rfl, fun x hx => by simp [pvuP, hx], by simp [pvuP, va_up], by simp [pvuP, va_up], by simp [pvuP, va_up], by simp [pvuP, va_up], by simp [pvuP, va_up]⟩)
  · skip
    refine pvMet.of _ (by decide) rfl (Nat.le_of_ble_eq_true rfl) ?_
    refine g_aload_n dX3_init_0 rfl ?_
    refine g_objInit dX3_init_1 loX3_3 (by decide) (by decide) ?_
    refine g_aload_n dX3_init_4 rfl ?_
    refine g_bipush (v := nI 64) dX3_init_5 (by decide) ?_
    refine g_newI dX3_init_7 (rfl) (by decide) (by omega) (by first | exact (hz _ (by omega) (by omega)).1 | (rw [pvs_ne (by omega)]; exact (hz _ (by omega) (by omega)).1)) (by decide) (by decide) ?_
    refine g_putP dX3_init_9 fdX3_9 rfl (fun _ => ⟨rfl, _, _, _, rfl, rfl⟩) (by first | rfl | exact pv_shx) (by omega) (by omega) (by decide) rfl (by first | exact Or.inl ⟨_, rfl⟩ | exact Or.inr ⟨_, rfl⟩) ?_
    refine g_aload_n dX3_init_12 rfl ?_
    refine g_bipush (v := nI 64) dX3_init_13 (by decide) ?_
    refine g_newI dX3_init_15 (rfl) (by decide) (by omega) (by first | exact (hz _ (by omega) (by omega)).1 | (rw [pvs_ne (by omega)]; exact (hz _ (by omega) (by omega)).1)) (by decide) (by decide) ?_
    refine g_putP dX3_init_17 fdX3_15 rfl (fun _ => ⟨rfl, _, _, _, rfl, rfl⟩) (by first | rfl | exact pv_shx) (by omega) (by omega) (by decide) rfl (by first | exact Or.inl ⟨_, rfl⟩ | exact Or.inr ⟨_, rfl⟩) ?_
    refine g_aload_n dX3_init_20 rfl ?_
    refine g_bipush (v := nI 64) dX3_init_21 (by decide) ?_
    refine g_newI dX3_init_23 (rfl) (by decide) (by omega) (by first | exact (hz _ (by omega) (by omega)).1 | (rw [pvs_ne (by omega)]; exact (hz _ (by omega) (by omega)).1)) (by decide) (by decide) ?_
    refine g_putP dX3_init_25 fdX3_18 rfl (fun _ => ⟨rfl, _, _, _, rfl, rfl⟩) (by first | rfl | exact pv_shx) (by omega) (by omega) (by decide) rfl (by first | exact Or.inl ⟨_, rfl⟩ | exact Or.inr ⟨_, rfl⟩) ?_
    refine g_aload_n dX3_init_28 rfl ?_
    refine g_bipush (v := nI 100) dX3_init_29 (by decide) ?_
    refine g_newJ dX3_init_31 (rfl) (by decide) (by omega) (by first | exact (hz _ (by omega) (by omega)).2.1 | (rw [pvs_ne (by omega)]; exact (hz _ (by omega) (by omega)).2.1)) (by decide) (by decide) ?_
    refine g_putP dX3_init_33 fdX3_21 rfl (fun _ => ⟨rfl, _, _, _, rfl, rfl⟩) (by first | rfl | exact pv_shx) (by omega) (by omega) (by decide) rfl (by first | exact Or.inl ⟨_, rfl⟩ | exact Or.inr ⟨_, rfl⟩) ?_
    refine g_aload_n dX3_init_36 rfl ?_
    refine g_iconst (v := nI 3) dX3_init_37 (by decide) ?_
    refine n_putI dX3_init_38 fdX3_25 rfl (fun h => absurd h (by decide)) (by first | rfl | exact pv_shx) (by omega) (by omega) (by decide) rfl (by repeat (first | exact pvu_s | exact pvuJ_s | apply pvu_in (by omega) | apply pvuJ_in (by omega) | exact pvu_pvs | exact pvuJ_pvs)) ?_
    refine g_aload_n dX3_init_41 rfl ?_
    refine g_bipush (v := nI 10) dX3_init_42 (by decide) ?_
    refine n_putI dX3_init_44 fdX3_29 rfl (fun h => absurd h (by decide)) (by first | rfl | exact pv_shx) (by omega) (by omega) (by decide) rfl (by repeat (first | exact pvu_s | exact pvuJ_s | apply pvu_in (by omega) | apply pvuJ_in (by omega) | exact pvu_pvs | exact pvuJ_pvs)) ?_
    refine g_aload_n dX3_init_47 rfl ?_
    refine g_bipush (v := nI 6) dX3_init_48 (by decide) ?_
    refine n_putI dX3_init_50 fdX3_32 rfl (fun h => absurd h (by decide)) (by first | rfl | exact pv_shx) (by omega) (by omega) (by decide) rfl (by repeat (first | exact pvu_s | exact pvuJ_s | apply pvu_in (by omega) | apply pvuJ_in (by omega) | exact pvu_pvs | exact pvuJ_pvs)) ?_
    refine g_aload_n dX3_init_53 rfl ?_
    refine g_aload_n dX3_init_54 rfl ?_
    refine g_putP dX3_init_55 fdX3_35 rfl (fun _ => ⟨rfl, _, _, _, rfl, rfl⟩) (by first | rfl | exact pv_shx) (by omega) (by omega) (by decide) rfl (by first | exact Or.inl ⟨_, rfl⟩ | exact Or.inr ⟨_, rfl⟩) ?_
    exact g_vret dX3_init_58 rfl (⟨rfl, rfl, rfl, rfl, fun x hx => by simp [pvuP, hx], by simp [pvuP, va_up], by simp [pvuP, va_up], by simp [pvuP, va_up], by simp [pvuP, va_up], by simp [pvuP, va_up]⟩)
theorem n_works (hb : wAd b) (hz : zz (b + 6) I J P) : pvMet mX9_init 1 10 310 [.ref (b + 6)] (b + 6) I J P (fun v nx' I' J' P' => v = none ∧ nx' = b + 16 ∧ I' = I ∧ J' = J ∧ (∀ x, x ≠ b + 6 → P' x = P x) ∧ P' (b + 6) 1 = some (b + 7) ∧ P' (b + 6) 2 = some (b + 8) ∧ P' (b + 6) 3 = some (b + 9) ∧ P' (b + 6) 4 = some (b + 10) ∧ P' (b + 6) 6 = some (b + 11) ∧ P' (b + 6) 7 = some (b + 12) ∧ P' (b + 6) 8 = some (b + 13) ∧ P' (b + 6) 9 = some (b + 14) ∧ P' (b + 6) 10 = some (b + 15) ∧ P' (b + 6) 11 = some (b + 16)) := by
  rcases hb with rfl | rfl
  · skip
    refine pvMet.of _ (by decide) rfl (Nat.le_of_ble_eq_true rfl) ?_
    refine g_aload_n dX9_init_0 rfl ?_
    refine g_objInit dX9_init_1 loX9_3 (by decide) (by decide) ?_
    refine g_aload_n dX9_init_4 rfl ?_
    refine g_bipush (v := nI 20) dX9_init_5 (by decide) ?_
    refine g_newI dX9_init_7 (rfl) (by decide) (by omega) (by first | exact (hz _ (by omega) (by omega)).1 | (rw [pvs_ne (by omega)]; exact (hz _ (by omega) (by omega)).1)) (by decide) (by decide) ?_
    refine g_putP dX9_init_9 fdX9_11 rfl (fun _ => ⟨rfl, _, _, _, rfl, rfl⟩) (by first | rfl | exact pv_shx) (by omega) (by omega) (by decide) rfl (by first | exact Or.inl ⟨_, rfl⟩ | exact Or.inr ⟨_, rfl⟩) ?_
    refine g_aload_n dX9_init_12 rfl ?_
    refine g_bipush (v := nI 20) dX9_init_13 (by decide) ?_
    refine g_newI dX9_init_15 (rfl) (by decide) (by omega) (by first | exact (hz _ (by omega) (by omega)).1 | (rw [pvs_ne (by omega)]; exact (hz _ (by omega) (by omega)).1)) (by decide) (by decide) ?_
    refine g_putP dX9_init_17 fdX9_15 rfl (fun _ => ⟨rfl, _, _, _, rfl, rfl⟩) (by first | rfl | exact pv_shx) (by omega) (by omega) (by decide) rfl (by first | exact Or.inl ⟨_, rfl⟩ | exact Or.inr ⟨_, rfl⟩) ?_
    refine g_aload_n dX9_init_20 rfl ?_
    refine g_bipush (v := nI 20) dX9_init_21 (by decide) ?_
    refine g_newI dX9_init_23 (rfl) (by decide) (by omega) (by first | exact (hz _ (by omega) (by omega)).1 | (rw [pvs_ne (by omega)]; exact (hz _ (by omega) (by omega)).1)) (by decide) (by decide) ?_
    refine g_putP dX9_init_25 fdX9_18 rfl (fun _ => ⟨rfl, _, _, _, rfl, rfl⟩) (by first | rfl | exact pv_shx) (by omega) (by omega) (by decide) rfl (by first | exact Or.inl ⟨_, rfl⟩ | exact Or.inr ⟨_, rfl⟩) ?_
    refine g_aload_n dX9_init_28 rfl ?_
    refine g_bipush (v := nI 100) dX9_init_29 (by decide) ?_
    refine g_newJ dX9_init_31 (rfl) (by decide) (by omega) (by first | exact (hz _ (by omega) (by omega)).2.1 | (rw [pvs_ne (by omega)]; exact (hz _ (by omega) (by omega)).2.1)) (by decide) (by decide) ?_
    refine g_putP dX9_init_33 fdX9_21 rfl (fun _ => ⟨rfl, _, _, _, rfl, rfl⟩) (by first | rfl | exact pv_shx) (by omega) (by omega) (by decide) rfl (by first | exact Or.inl ⟨_, rfl⟩ | exact Or.inr ⟨_, rfl⟩) ?_
    refine g_aload_n dX9_init_36 rfl ?_
    refine g_bipush (v := nI 10) dX9_init_37 (by decide) ?_
    refine g_newI dX9_init_39 (rfl) (by decide) (by omega) (by first | exact (hz _ (by omega) (by omega)).1 | (rw [pvs_ne (by omega)]; exact (hz _ (by omega) (by omega)).1)) (by decide) (by decide) ?_
    refine g_putP dX9_init_41 fdX9_25 rfl (fun _ => ⟨rfl, _, _, _, rfl, rfl⟩) (by first | rfl | exact pv_shx) (by omega) (by omega) (by decide) rfl (by first | exact Or.inl ⟨_, rfl⟩ | exact Or.inr ⟨_, rfl⟩) ?_
    refine g_aload_n dX9_init_44 rfl ?_
    refine g_bipush (v := nI 10) dX9_init_45 (by decide) ?_
    refine g_newI dX9_init_47 (rfl) (by decide) (by omega) (by first | exact (hz _ (by omega) (by omega)).1 | (rw [pvs_ne (by omega)]; exact (hz _ (by omega) (by omega)).1)) (by decide) (by decide) ?_
    refine g_putP dX9_init_49 fdX9_28 rfl (fun _ => ⟨rfl, _, _, _, rfl, rfl⟩) (by first | rfl | exact pv_shx) (by omega) (by omega) (by decide) rfl (by first | exact Or.inl ⟨_, rfl⟩ | exact Or.inr ⟨_, rfl⟩) ?_
    refine g_aload_n dX9_init_52 rfl ?_
    refine g_bipush (v := nI 10) dX9_init_53 (by decide) ?_
    refine g_newI dX9_init_55 (rfl) (by decide) (by omega) (by first | exact (hz _ (by omega) (by omega)).1 | (rw [pvs_ne (by omega)]; exact (hz _ (by omega) (by omega)).1)) (by decide) (by decide) ?_
    refine g_putP dX9_init_57 fdX9_31 rfl (fun _ => ⟨rfl, _, _, _, rfl, rfl⟩) (by first | rfl | exact pv_shx) (by omega) (by omega) (by decide) rfl (by first | exact Or.inl ⟨_, rfl⟩ | exact Or.inr ⟨_, rfl⟩) ?_
    refine g_aload_n dX9_init_60 rfl ?_
    refine g_bipush (v := nI 10) dX9_init_61 (by decide) ?_
    refine g_newI dX9_init_63 (rfl) (by decide) (by omega) (by first | exact (hz _ (by omega) (by omega)).1 | (rw [pvs_ne (by omega)]; exact (hz _ (by omega) (by omega)).1)) (by decide) (by decide) ?_
    refine g_putP dX9_init_65 fdX9_34 rfl (fun _ => ⟨rfl, _, _, _, rfl, rfl⟩) (by first | rfl | exact pv_shx) (by omega) (by omega) (by decide) rfl (by first | exact Or.inl ⟨_, rfl⟩ | exact Or.inr ⟨_, rfl⟩) ?_
    refine g_aload_n dX9_init_68 rfl ?_
    refine g_bipush (v := nI 10) dX9_init_69 (by decide) ?_
    refine g_newI dX9_init_71 (rfl) (by decide) (by omega) (by first | exact (hz _ (by omega) (by omega)).1 | (rw [pvs_ne (by omega)]; exact (hz _ (by omega) (by omega)).1)) (by decide) (by decide) ?_
    refine g_putP dX9_init_73 fdX9_37 rfl (fun _ => ⟨rfl, _, _, _, rfl, rfl⟩) (by first | rfl | exact pv_shx) (by omega) (by omega) (by decide) rfl (by first | exact Or.inl ⟨_, rfl⟩ | exact Or.inr ⟨_, rfl⟩) ?_
    refine g_aload_n dX9_init_76 rfl ?_
    refine g_bipush (v := nI 100) dX9_init_77 (by decide) ?_
    refine g_newJ dX9_init_79 (rfl) (by decide) (by omega) (by first | exact (hz _ (by omega) (by omega)).2.1 | (rw [pvs_ne (by omega)]; exact (hz _ (by omega) (by omega)).2.1)) (by decide) (by decide) ?_
    refine g_putP dX9_init_81 fdX9_40 rfl (fun _ => ⟨rfl, _, _, _, rfl, rfl⟩) (by first | rfl | exact pv_shx) (by omega) (by omega) (by decide) rfl (by first | exact Or.inl ⟨_, rfl⟩ | exact Or.inr ⟨_, rfl⟩) ?_
    exact g_vret dX9_init_84 rfl (⟨rfl, rfl, rfl, rfl, fun x hx => by simp [pvuP, hx], by simp [pvuP, va_up], by simp [pvuP, va_up], by simp [pvuP, va_up], by simp [pvuP, va_up], by simp [pvuP, va_up], by simp [pvuP, va_up], by simp [pvuP, va_up], by simp [pvuP, va_up], by simp [pvuP, va_up], by simp [pvuP, va_up]⟩)
  · skip
    refine pvMet.of _ (by decide) rfl (Nat.le_of_ble_eq_true rfl) ?_
    refine g_aload_n dX9_init_0 rfl ?_
    refine g_objInit dX9_init_1 loX9_3 (by decide) (by decide) ?_
    refine g_aload_n dX9_init_4 rfl ?_
    refine g_bipush (v := nI 20) dX9_init_5 (by decide) ?_
    refine g_newI dX9_init_7 (rfl) (by decide) (by omega) (by first | exact (hz _ (by omega) (by omega)).1 | (rw [pvs_ne (by omega)]; exact (hz _ (by omega) (by omega)).1)) (by decide) (by decide) ?_
    refine g_putP dX9_init_9 fdX9_11 rfl (fun _ => ⟨rfl, _, _, _, rfl, rfl⟩) (by first | rfl | exact pv_shx) (by omega) (by omega) (by decide) rfl (by first | exact Or.inl ⟨_, rfl⟩ | exact Or.inr ⟨_, rfl⟩) ?_
    refine g_aload_n dX9_init_12 rfl ?_
    refine g_bipush (v := nI 20) dX9_init_13 (by decide) ?_
    refine g_newI dX9_init_15 (rfl) (by decide) (by omega) (by first | exact (hz _ (by omega) (by omega)).1 | (rw [pvs_ne (by omega)]; exact (hz _ (by omega) (by omega)).1)) (by decide) (by decide) ?_
    refine g_putP dX9_init_17 fdX9_15 rfl (fun _ => ⟨rfl, _, _, _, rfl, rfl⟩) (by first | rfl | exact pv_shx) (by omega) (by omega) (by decide) rfl (by first | exact Or.inl ⟨_, rfl⟩ | exact Or.inr ⟨_, rfl⟩) ?_
    refine g_aload_n dX9_init_20 rfl ?_
    refine g_bipush (v := nI 20) dX9_init_21 (by decide) ?_
    refine g_newI dX9_init_23 (rfl) (by decide) (by omega) (by first | exact (hz _ (by omega) (by omega)).1 | (rw [pvs_ne (by omega)]; exact (hz _ (by omega) (by omega)).1)) (by decide) (by decide) ?_
    refine g_putP dX9_init_25 fdX9_18 rfl (fun _ => ⟨rfl, _, _, _, rfl, rfl⟩) (by first | rfl | exact pv_shx) (by omega) (by omega) (by decide) rfl (by first | exact Or.inl ⟨_, rfl⟩ | exact Or.inr ⟨_, rfl⟩) ?_
    refine g_aload_n dX9_init_28 rfl ?_
    refine g_bipush (v := nI 100) dX9_init_29 (by decide) ?_
    refine g_newJ dX9_init_31 (rfl) (by decide) (by omega) (by first | exact (hz _ (by omega) (by omega)).2.1 | (rw [pvs_ne (by omega)]; exact (hz _ (by omega) (by omega)).2.1)) (by decide) (by decide) ?_
    refine g_putP dX9_init_33 fdX9_21 rfl (fun _ => ⟨rfl, _, _, _, rfl, rfl⟩) (by first | rfl | exact pv_shx) (by omega) (by omega) (by decide) rfl (by first | exact Or.inl ⟨_, rfl⟩ | exact Or.inr ⟨_, rfl⟩) ?_
    refine g_aload_n dX9_init_36 rfl ?_
    refine g_bipush (v := nI 10) dX9_init_37 (by decide) ?_
    refine g_newI dX9_init_39 (rfl) (by decide) (by omega) (by first | exact (hz _ (by omega) (by omega)).1 | (rw [pvs_ne (by omega)]; exact (hz _ (by omega) (by omega)).1)) (by decide) (by decide) ?_
    refine g_putP dX9_init_41 fdX9_25 rfl (fun _ => ⟨rfl, _, _, _, rfl, rfl⟩) (by first | rfl | exact pv_shx) (by omega) (by omega) (by decide) rfl (by first | exact Or.inl ⟨_, rfl⟩ | exact Or.inr ⟨_, rfl⟩) ?_
    refine g_aload_n dX9_init_44 rfl ?_
    refine g_bipush (v := nI 10) dX9_init_45 (by decide) ?_
    refine g_newI dX9_init_47 (rfl) (by decide) (by omega) (by first | exact (hz _ (by omega) (by omega)).1 | (rw [pvs_ne (by omega)]; exact (hz _ (by omega) (by omega)).1)) (by decide) (by decide) ?_
    refine g_putP dX9_init_49 fdX9_28 rfl (fun _ => ⟨rfl, _, _, _, rfl, rfl⟩) (by first | rfl | exact pv_shx) (by omega) (by omega) (by decide) rfl (by first | exact Or.inl ⟨_, rfl⟩ | exact Or.inr ⟨_, rfl⟩) ?_
    refine g_aload_n dX9_init_52 rfl ?_
    refine g_bipush (v := nI 10) dX9_init_53 (by decide) ?_
    refine g_newI dX9_init_55 (rfl) (by decide) (by omega) (by first | exact (hz _ (by omega) (by omega)).1 | (rw [pvs_ne (by omega)]; exact (hz _ (by omega) (by omega)).1)) (by decide) (by decide) ?_
    refine g_putP dX9_init_57 fdX9_31 rfl (fun _ => ⟨rfl, _, _, _, rfl, rfl⟩) (by first | rfl | exact pv_shx) (by omega) (by omega) (by decide) rfl (by first | exact Or.inl ⟨_, rfl⟩ | exact Or.inr ⟨_, rfl⟩) ?_
    refine g_aload_n dX9_init_60 rfl ?_
    refine g_bipush (v := nI 10) dX9_init_61 (by decide) ?_
    refine g_newI dX9_init_63 (rfl) (by decide) (by omega) (by first | exact (hz _ (by omega) (by omega)).1 | (rw [pvs_ne (by omega)]; exact (hz _ (by omega) (by omega)).1)) (by decide) (by decide) ?_
    refine g_putP dX9_init_65 fdX9_34 rfl (fun _ => ⟨rfl, _, _, _, rfl, rfl⟩) (by first | rfl | exact pv_shx) (by omega) (by omega) (by decide) rfl (by first | exact Or.inl ⟨_, rfl⟩ | exact Or.inr ⟨_, rfl⟩) ?_
    refine g_aload_n dX9_init_68 rfl ?_
    refine g_bipush (v := nI 10) dX9_init_69 (by decide) ?_
    refine g_newI dX9_init_71 (rfl) (by decide) (by omega) (by first | exact (hz _ (by omega) (by omega)).1 | (rw [pvs_ne (by omega)]; exact (hz _ (by omega) (by omega)).1)) (by decide) (by decide) ?_
    refine g_putP dX9_init_73 fdX9_37 rfl (fun _ => ⟨rfl, _, _, _, rfl, rfl⟩) (by first | rfl | exact pv_shx) (by omega) (by omega) (by decide) rfl (by first | exact Or.inl ⟨_, rfl⟩ | exact Or.inr ⟨_, rfl⟩) ?_
    refine g_aload_n dX9_init_76 rfl ?_
    refine g_bipush (v := nI 100) dX9_init_77 (by decide) ?_
    refine g_newJ dX9_init_79 (rfl) (by decide) (by omega) (by first | exact (hz _ (by omega) (by omega)).2.1 | (rw [pvs_ne (by omega)]; exact (hz _ (by omega) (by omega)).2.1)) (by decide) (by decide) ?_
    refine g_putP dX9_init_81 fdX9_40 rfl (fun _ => ⟨rfl, _, _, _, rfl, rfl⟩) (by first | rfl | exact pv_shx) (by omega) (by omega) (by decide) rfl (by first | exact Or.inl ⟨_, rfl⟩ | exact Or.inr ⟨_, rfl⟩) ?_
    exact g_vret dX9_init_84 rfl (⟨rfl, rfl, rfl, rfl, fun x hx => by simp [pvuP, hx], by simp [pvuP, va_up], by simp [pvuP, va_up], by simp [pvuP, va_up], by simp [pvuP, va_up], by simp [pvuP, va_up], by simp [pvuP, va_up], by simp [pvuP, va_up], by simp [pvuP, va_up], by simp [pvuP, va_up], by simp [pvuP, va_up]⟩)
theorem n_known (hb : wAd b) (hz : zz (b + 17) I J P) : pvMet mX4_init 1 6 816 [.ref (b + 17)] (b + 17) I J P (fun v nx' I' J' P' => v = none ∧ nx' = b + 23 ∧ I' = I ∧ J' = J ∧ (∀ x, x ≠ b + 17 → P' x = P x) ∧ P' (b + 17) 1 = some (b + 18) ∧ P' (b + 17) 2 = some (b + 19) ∧ P' (b + 17) 4 = some (b + 20) ∧ P' (b + 17) 5 = some (b + 21) ∧ P' (b + 17) 6 = some (b + 22) ∧ P' (b + 17) 7 = some (b + 23)) := by
  rcases hb with rfl | rfl
  · skip
    refine pvMet.of _ (by decide) rfl (Nat.le_of_ble_eq_true rfl) ?_
    refine g_aload_n dX4_init_0 rfl ?_
    refine g_objInit dX4_init_1 loX4_3 (by decide) (by decide) ?_
    refine g_aload_n dX4_init_4 rfl ?_
    refine g_bipush (v := nI 8) dX4_init_5 (by decide) ?_
    refine g_newI dX4_init_7 (rfl) (by decide) (by omega) (by first | exact (hz _ (by omega) (by omega)).1 | (rw [pvs_ne (by omega)]; exact (hz _ (by omega) (by omega)).1)) (by decide) (by decide) ?_
    refine g_putP dX4_init_9 fdX4_9 rfl (fun _ => ⟨rfl, _, _, _, rfl, rfl⟩) (by first | rfl | exact pv_shx) (by omega) (by omega) (by decide) rfl (by first | exact Or.inl ⟨_, rfl⟩ | exact Or.inr ⟨_, rfl⟩) ?_
    refine g_aload_n dX4_init_12 rfl ?_
    refine g_bipush (v := nI 8) dX4_init_13 (by decide) ?_
    refine g_newI dX4_init_15 (rfl) (by decide) (by omega) (by first | exact (hz _ (by omega) (by omega)).1 | (rw [pvs_ne (by omega)]; exact (hz _ (by omega) (by omega)).1)) (by decide) (by decide) ?_
    refine g_putP dX4_init_17 fdX4_15 rfl (fun _ => ⟨rfl, _, _, _, rfl, rfl⟩) (by first | rfl | exact pv_shx) (by omega) (by omega) (by decide) rfl (by first | exact Or.inl ⟨_, rfl⟩ | exact Or.inr ⟨_, rfl⟩) ?_
    refine g_aload_n dX4_init_20 rfl ?_
    refine g_sipush (v := nI 200) dX4_init_21 (by decide) ?_
    refine g_newI dX4_init_24 (rfl) (by decide) (by omega) (by first | exact (hz _ (by omega) (by omega)).1 | (rw [pvs_ne (by omega)]; exact (hz _ (by omega) (by omega)).1)) (by decide) (by decide) ?_
    refine g_putP dX4_init_26 fdX4_18 rfl (fun _ => ⟨rfl, _, _, _, rfl, rfl⟩) (by first | rfl | exact pv_shx) (by omega) (by omega) (by decide) rfl (by first | exact Or.inl ⟨_, rfl⟩ | exact Or.inr ⟨_, rfl⟩) ?_
    refine g_aload_n dX4_init_29 rfl ?_
    refine g_sipush (v := nI 200) dX4_init_30 (by decide) ?_
    refine g_newI dX4_init_33 (rfl) (by decide) (by omega) (by first | exact (hz _ (by omega) (by omega)).1 | (rw [pvs_ne (by omega)]; exact (hz _ (by omega) (by omega)).1)) (by decide) (by decide) ?_
    refine g_putP dX4_init_35 fdX4_21 rfl (fun _ => ⟨rfl, _, _, _, rfl, rfl⟩) (by first | rfl | exact pv_shx) (by omega) (by omega) (by decide) rfl (by first | exact Or.inl ⟨_, rfl⟩ | exact Or.inr ⟨_, rfl⟩) ?_
    refine g_aload_n dX4_init_38 rfl ?_
    refine g_sipush (v := nI 200) dX4_init_39 (by decide) ?_
    refine g_newI dX4_init_42 (rfl) (by decide) (by omega) (by first | exact (hz _ (by omega) (by omega)).1 | (rw [pvs_ne (by omega)]; exact (hz _ (by omega) (by omega)).1)) (by decide) (by decide) ?_
    refine g_putP dX4_init_44 fdX4_24 rfl (fun _ => ⟨rfl, _, _, _, rfl, rfl⟩) (by first | rfl | exact pv_shx) (by omega) (by omega) (by decide) rfl (by first | exact Or.inl ⟨_, rfl⟩ | exact Or.inr ⟨_, rfl⟩) ?_
    refine g_aload_n dX4_init_47 rfl ?_
    refine g_sipush (v := nI 200) dX4_init_48 (by decide) ?_
    refine g_newI dX4_init_51 (rfl) (by decide) (by omega) (by first | exact (hz _ (by omega) (by omega)).1 | (rw [pvs_ne (by omega)]; exact (hz _ (by omega) (by omega)).1)) (by decide) (by decide) ?_
    refine g_putP dX4_init_53 fdX4_27 rfl (fun _ => ⟨rfl, _, _, _, rfl, rfl⟩) (by first | rfl | exact pv_shx) (by omega) (by omega) (by decide) rfl (by first | exact Or.inl ⟨_, rfl⟩ | exact Or.inr ⟨_, rfl⟩) ?_
    exact g_vret dX4_init_56 rfl (⟨rfl, rfl, rfl, rfl, fun x hx => by simp [pvuP, hx], by simp [pvuP, va_up], by simp [pvuP, va_up], by simp [pvuP, va_up], by simp [pvuP, va_up], by simp [pvuP, va_up], by simp [pvuP, va_up]⟩)
  · skip
    refine pvMet.of _ (by decide) rfl (Nat.le_of_ble_eq_true rfl) ?_
    refine g_aload_n dX4_init_0 rfl ?_
    refine g_objInit dX4_init_1 loX4_3 (by decide) (by decide) ?_
    refine g_aload_n dX4_init_4 rfl ?_
    refine g_bipush (v := nI 8) dX4_init_5 (by decide) ?_
    refine g_newI dX4_init_7 (rfl) (by decide) (by omega) (by first | exact (hz _ (by omega) (by omega)).1 | (rw [pvs_ne (by omega)]; exact (hz _ (by omega) (by omega)).1)) (by decide) (by decide) ?_
    refine g_putP dX4_init_9 fdX4_9 rfl (fun _ => ⟨rfl, _, _, _, rfl, rfl⟩) (by first | rfl | exact pv_shx) (by omega) (by omega) (by decide) rfl (by first | exact Or.inl ⟨_, rfl⟩ | exact Or.inr ⟨_, rfl⟩) ?_
    refine g_aload_n dX4_init_12 rfl ?_
    refine g_bipush (v := nI 8) dX4_init_13 (by decide) ?_
    refine g_newI dX4_init_15 (rfl) (by decide) (by omega) (by first | exact (hz _ (by omega) (by omega)).1 | (rw [pvs_ne (by omega)]; exact (hz _ (by omega) (by omega)).1)) (by decide) (by decide) ?_
    refine g_putP dX4_init_17 fdX4_15 rfl (fun _ => ⟨rfl, _, _, _, rfl, rfl⟩) (by first | rfl | exact pv_shx) (by omega) (by omega) (by decide) rfl (by first | exact Or.inl ⟨_, rfl⟩ | exact Or.inr ⟨_, rfl⟩) ?_
    refine g_aload_n dX4_init_20 rfl ?_
    refine g_sipush (v := nI 200) dX4_init_21 (by decide) ?_
    refine g_newI dX4_init_24 (rfl) (by decide) (by omega) (by first | exact (hz _ (by omega) (by omega)).1 | (rw [pvs_ne (by omega)]; exact (hz _ (by omega) (by omega)).1)) (by decide) (by decide) ?_
    refine g_putP dX4_init_26 fdX4_18 rfl (fun _ => ⟨rfl, _, _, _, rfl, rfl⟩) (by first | rfl | exact pv_shx) (by omega) (by omega) (by decide) rfl (by first | exact Or.inl ⟨_, rfl⟩ | exact Or.inr ⟨_, rfl⟩) ?_
    refine g_aload_n dX4_init_29 rfl ?_
    refine g_sipush (v := nI 200) dX4_init_30 (by decide) ?_
    refine g_newI dX4_init_33 (rfl) (by decide) (by omega) (by first | exact (hz _ (by omega) (by omega)).1 | (rw [pvs_ne (by omega)]; exact (hz _ (by omega) (by omega)).1)) (by decide) (by decide) ?_
    refine g_putP dX4_init_35 fdX4_21 rfl (fun _ => ⟨rfl, _, _, _, rfl, rfl⟩) (by first | rfl | exact pv_shx) (by omega) (by omega) (by decide) rfl (by first | exact Or.inl ⟨_, rfl⟩ | exact Or.inr ⟨_, rfl⟩) ?_
    refine g_aload_n dX4_init_38 rfl ?_
    refine g_sipush (v := nI 200) dX4_init_39 (by decide) ?_
    refine g_newI dX4_init_42 (rfl) (by decide) (by omega) (by first | exact (hz _ (by omega) (by omega)).1 | (rw [pvs_ne (by omega)]; exact (hz _ (by omega) (by omega)).1)) (by decide) (by decide) ?_
    refine g_putP dX4_init_44 fdX4_24 rfl (fun _ => ⟨rfl, _, _, _, rfl, rfl⟩) (by first | rfl | exact pv_shx) (by omega) (by omega) (by decide) rfl (by first | exact Or.inl ⟨_, rfl⟩ | exact Or.inr ⟨_, rfl⟩) ?_
    refine g_aload_n dX4_init_47 rfl ?_
    refine g_sipush (v := nI 200) dX4_init_48 (by decide) ?_
    refine g_newI dX4_init_51 (rfl) (by decide) (by omega) (by first | exact (hz _ (by omega) (by omega)).1 | (rw [pvs_ne (by omega)]; exact (hz _ (by omega) (by omega)).1)) (by decide) (by decide) ?_
    refine g_putP dX4_init_53 fdX4_27 rfl (fun _ => ⟨rfl, _, _, _, rfl, rfl⟩) (by first | rfl | exact pv_shx) (by omega) (by omega) (by decide) rfl (by first | exact Or.inl ⟨_, rfl⟩ | exact Or.inr ⟨_, rfl⟩) ?_
    exact g_vret dX4_init_56 rfl (⟨rfl, rfl, rfl, rfl, fun x hx => by simp [pvuP, hx], by simp [pvuP, va_up], by simp [pvuP, va_up], by simp [pvuP, va_up], by simp [pvuP, va_up], by simp [pvuP, va_up], by simp [pvuP, va_up]⟩)
theorem n_town (hb : wAd b) (hz : zz (b + 24) I J P) : pvMet mX7_init 1 11 410 [.ref (b + 24)] (b + 24) I J P (fun v nx' I' J' P' => v = none ∧ nx' = b + 35 ∧ I' = I ∧ J' = J ∧ (∀ x, x ≠ b + 24 → P' x = P x) ∧ P' (b + 24) 1 = some (b + 25) ∧ P' (b + 24) 2 = some (b + 26) ∧ P' (b + 24) 3 = some (b + 27) ∧ P' (b + 24) 4 = some (b + 28) ∧ P' (b + 24) 5 = some (b + 29) ∧ P' (b + 24) 7 = some (b + 30) ∧ P' (b + 24) 8 = some (b + 31) ∧ P' (b + 24) 9 = some (b + 32) ∧ P' (b + 24) 10 = some (b + 33) ∧ P' (b + 24) 11 = some (b + 34) ∧ P' (b + 24) 12 = some (b + 35)) := by
  rcases hb with rfl | rfl
  · skip
    refine pvMet.of _ (by decide) rfl (Nat.le_of_ble_eq_true rfl) ?_
    refine g_aload_n dX7_init_0 rfl ?_
    refine g_objInit dX7_init_1 loX7_3 (by decide) (by decide) ?_
    refine g_aload_n dX7_init_4 rfl ?_
    refine g_bipush (v := nI 20) dX7_init_5 (by decide) ?_
    refine g_newI dX7_init_7 (rfl) (by decide) (by omega) (by first | exact (hz _ (by omega) (by omega)).1 | (rw [pvs_ne (by omega)]; exact (hz _ (by omega) (by omega)).1)) (by decide) (by decide) ?_
    refine g_putP dX7_init_9 fdX7_11 rfl (fun _ => ⟨rfl, _, _, _, rfl, rfl⟩) (by first | rfl | exact pv_shx) (by omega) (by omega) (by decide) rfl (by first | exact Or.inl ⟨_, rfl⟩ | exact Or.inr ⟨_, rfl⟩) ?_
    refine g_aload_n dX7_init_12 rfl ?_
    refine g_bipush (v := nI 20) dX7_init_13 (by decide) ?_
    refine g_newI dX7_init_15 (rfl) (by decide) (by omega) (by first | exact (hz _ (by omega) (by omega)).1 | (rw [pvs_ne (by omega)]; exact (hz _ (by omega) (by omega)).1)) (by decide) (by decide) ?_
    refine g_putP dX7_init_17 fdX7_15 rfl (fun _ => ⟨rfl, _, _, _, rfl, rfl⟩) (by first | rfl | exact pv_shx) (by omega) (by omega) (by decide) rfl (by first | exact Or.inl ⟨_, rfl⟩ | exact Or.inr ⟨_, rfl⟩) ?_
    refine g_aload_n dX7_init_20 rfl ?_
    refine g_bipush (v := nI 20) dX7_init_21 (by decide) ?_
    refine g_newI dX7_init_23 (rfl) (by decide) (by omega) (by first | exact (hz _ (by omega) (by omega)).1 | (rw [pvs_ne (by omega)]; exact (hz _ (by omega) (by omega)).1)) (by decide) (by decide) ?_
    refine g_putP dX7_init_25 fdX7_18 rfl (fun _ => ⟨rfl, _, _, _, rfl, rfl⟩) (by first | rfl | exact pv_shx) (by omega) (by omega) (by decide) rfl (by first | exact Or.inl ⟨_, rfl⟩ | exact Or.inr ⟨_, rfl⟩) ?_
    refine g_aload_n dX7_init_28 rfl ?_
    refine g_bipush (v := nI 20) dX7_init_29 (by decide) ?_
    refine g_newI dX7_init_31 (rfl) (by decide) (by omega) (by first | exact (hz _ (by omega) (by omega)).1 | (rw [pvs_ne (by omega)]; exact (hz _ (by omega) (by omega)).1)) (by decide) (by decide) ?_
    refine g_putP dX7_init_33 fdX7_21 rfl (fun _ => ⟨rfl, _, _, _, rfl, rfl⟩) (by first | rfl | exact pv_shx) (by omega) (by omega) (by decide) rfl (by first | exact Or.inl ⟨_, rfl⟩ | exact Or.inr ⟨_, rfl⟩) ?_
    refine g_aload_n dX7_init_36 rfl ?_
    refine g_bipush (v := nI 20) dX7_init_37 (by decide) ?_
    refine g_newI dX7_init_39 (rfl) (by decide) (by omega) (by first | exact (hz _ (by omega) (by omega)).1 | (rw [pvs_ne (by omega)]; exact (hz _ (by omega) (by omega)).1)) (by decide) (by decide) ?_
    refine g_putP dX7_init_41 fdX7_24 rfl (fun _ => ⟨rfl, _, _, _, rfl, rfl⟩) (by first | rfl | exact pv_shx) (by omega) (by omega) (by decide) rfl (by first | exact Or.inl ⟨_, rfl⟩ | exact Or.inr ⟨_, rfl⟩) ?_
    refine g_aload_n dX7_init_44 rfl ?_
    refine g_bipush (v := nI 60) dX7_init_45 (by decide) ?_
    refine g_newI dX7_init_47 (rfl) (by decide) (by omega) (by first | exact (hz _ (by omega) (by omega)).1 | (rw [pvs_ne (by omega)]; exact (hz _ (by omega) (by omega)).1)) (by decide) (by decide) ?_
    refine g_putP dX7_init_49 fdX7_27 rfl (fun _ => ⟨rfl, _, _, _, rfl, rfl⟩) (by first | rfl | exact pv_shx) (by omega) (by omega) (by decide) rfl (by first | exact Or.inl ⟨_, rfl⟩ | exact Or.inr ⟨_, rfl⟩) ?_
    refine g_aload_n dX7_init_52 rfl ?_
    refine g_bipush (v := nI 60) dX7_init_53 (by decide) ?_
    refine g_newI dX7_init_55 (rfl) (by decide) (by omega) (by first | exact (hz _ (by omega) (by omega)).1 | (rw [pvs_ne (by omega)]; exact (hz _ (by omega) (by omega)).1)) (by decide) (by decide) ?_
    refine g_putP dX7_init_57 fdX7_30 rfl (fun _ => ⟨rfl, _, _, _, rfl, rfl⟩) (by first | rfl | exact pv_shx) (by omega) (by omega) (by decide) rfl (by first | exact Or.inl ⟨_, rfl⟩ | exact Or.inr ⟨_, rfl⟩) ?_
    refine g_aload_n dX7_init_60 rfl ?_
    refine g_bipush (v := nI 60) dX7_init_61 (by decide) ?_
    refine g_newI dX7_init_63 (rfl) (by decide) (by omega) (by first | exact (hz _ (by omega) (by omega)).1 | (rw [pvs_ne (by omega)]; exact (hz _ (by omega) (by omega)).1)) (by decide) (by decide) ?_
    refine g_putP dX7_init_65 fdX7_33 rfl (fun _ => ⟨rfl, _, _, _, rfl, rfl⟩) (by first | rfl | exact pv_shx) (by omega) (by omega) (by decide) rfl (by first | exact Or.inl ⟨_, rfl⟩ | exact Or.inr ⟨_, rfl⟩) ?_
    refine g_aload_n dX7_init_68 rfl ?_
    refine g_bipush (v := nI 60) dX7_init_69 (by decide) ?_
    refine g_newI dX7_init_71 (rfl) (by decide) (by omega) (by first | exact (hz _ (by omega) (by omega)).1 | (rw [pvs_ne (by omega)]; exact (hz _ (by omega) (by omega)).1)) (by decide) (by decide) ?_
    refine g_putP dX7_init_73 fdX7_36 rfl (fun _ => ⟨rfl, _, _, _, rfl, rfl⟩) (by first | rfl | exact pv_shx) (by omega) (by omega) (by decide) rfl (by first | exact Or.inl ⟨_, rfl⟩ | exact Or.inr ⟨_, rfl⟩) ?_
    refine g_aload_n dX7_init_76 rfl ?_
    refine g_bipush (v := nI 60) dX7_init_77 (by decide) ?_
    refine g_newI dX7_init_79 (rfl) (by decide) (by omega) (by first | exact (hz _ (by omega) (by omega)).1 | (rw [pvs_ne (by omega)]; exact (hz _ (by omega) (by omega)).1)) (by decide) (by decide) ?_
    refine g_putP dX7_init_81 fdX7_39 rfl (fun _ => ⟨rfl, _, _, _, rfl, rfl⟩) (by first | rfl | exact pv_shx) (by omega) (by omega) (by decide) rfl (by first | exact Or.inl ⟨_, rfl⟩ | exact Or.inr ⟨_, rfl⟩) ?_
    refine g_aload_n dX7_init_84 rfl ?_
    refine g_bipush (v := nI 10) dX7_init_85 (by decide) ?_
    refine g_newI dX7_init_87 (rfl) (by decide) (by omega) (by first | exact (hz _ (by omega) (by omega)).1 | (rw [pvs_ne (by omega)]; exact (hz _ (by omega) (by omega)).1)) (by decide) (by decide) ?_
    refine g_putP dX7_init_89 fdX7_42 rfl (fun _ => ⟨rfl, _, _, _, rfl, rfl⟩) (by first | rfl | exact pv_shx) (by omega) (by omega) (by decide) rfl (by first | exact Or.inl ⟨_, rfl⟩ | exact Or.inr ⟨_, rfl⟩) ?_
    exact g_vret dX7_init_92 rfl (⟨rfl, rfl, rfl, rfl, fun x hx => by simp [pvuP, hx], by simp [pvuP, va_up], by simp [pvuP, va_up], by simp [pvuP, va_up], by simp [pvuP, va_up], by simp [pvuP, va_up], by simp [pvuP, va_up], by simp [pvuP, va_up], by simp [pvuP, va_up], by simp [pvuP, va_up], by simp [pvuP, va_up], by simp [pvuP, va_up]⟩)
  · skip
    refine pvMet.of _ (by decide) rfl (Nat.le_of_ble_eq_true rfl) ?_
    refine g_aload_n dX7_init_0 rfl ?_
    refine g_objInit dX7_init_1 loX7_3 (by decide) (by decide) ?_
    refine g_aload_n dX7_init_4 rfl ?_
    refine g_bipush (v := nI 20) dX7_init_5 (by decide) ?_
    refine g_newI dX7_init_7 (rfl) (by decide) (by omega) (by first | exact (hz _ (by omega) (by omega)).1 | (rw [pvs_ne (by omega)]; exact (hz _ (by omega) (by omega)).1)) (by decide) (by decide) ?_
    refine g_putP dX7_init_9 fdX7_11 rfl (fun _ => ⟨rfl, _, _, _, rfl, rfl⟩) (by first | rfl | exact pv_shx) (by omega) (by omega) (by decide) rfl (by first | exact Or.inl ⟨_, rfl⟩ | exact Or.inr ⟨_, rfl⟩) ?_
    refine g_aload_n dX7_init_12 rfl ?_
    refine g_bipush (v := nI 20) dX7_init_13 (by decide) ?_
    refine g_newI dX7_init_15 (rfl) (by decide) (by omega) (by first | exact (hz _ (by omega) (by omega)).1 | (rw [pvs_ne (by omega)]; exact (hz _ (by omega) (by omega)).1)) (by decide) (by decide) ?_
    refine g_putP dX7_init_17 fdX7_15 rfl (fun _ => ⟨rfl, _, _, _, rfl, rfl⟩) (by first | rfl | exact pv_shx) (by omega) (by omega) (by decide) rfl (by first | exact Or.inl ⟨_, rfl⟩ | exact Or.inr ⟨_, rfl⟩) ?_
    refine g_aload_n dX7_init_20 rfl ?_
    refine g_bipush (v := nI 20) dX7_init_21 (by decide) ?_
    refine g_newI dX7_init_23 (rfl) (by decide) (by omega) (by first | exact (hz _ (by omega) (by omega)).1 | (rw [pvs_ne (by omega)]; exact (hz _ (by omega) (by omega)).1)) (by decide) (by decide) ?_
    refine g_putP dX7_init_25 fdX7_18 rfl (fun _ => ⟨rfl, _, _, _, rfl, rfl⟩) (by first | rfl | exact pv_shx) (by omega) (by omega) (by decide) rfl (by first | exact Or.inl ⟨_, rfl⟩ | exact Or.inr ⟨_, rfl⟩) ?_
    refine g_aload_n dX7_init_28 rfl ?_
    refine g_bipush (v := nI 20) dX7_init_29 (by decide) ?_
    refine g_newI dX7_init_31 (rfl) (by decide) (by omega) (by first | exact (hz _ (by omega) (by omega)).1 | (rw [pvs_ne (by omega)]; exact (hz _ (by omega) (by omega)).1)) (by decide) (by decide) ?_
    refine g_putP dX7_init_33 fdX7_21 rfl (fun _ => ⟨rfl, _, _, _, rfl, rfl⟩) (by first | rfl | exact pv_shx) (by omega) (by omega) (by decide) rfl (by first | exact Or.inl ⟨_, rfl⟩ | exact Or.inr ⟨_, rfl⟩) ?_
    refine g_aload_n dX7_init_36 rfl ?_
    refine g_bipush (v := nI 20) dX7_init_37 (by decide) ?_
    refine g_newI dX7_init_39 (rfl) (by decide) (by omega) (by first | exact (hz _ (by omega) (by omega)).1 | (rw [pvs_ne (by omega)]; exact (hz _ (by omega) (by omega)).1)) (by decide) (by decide) ?_
    refine g_putP dX7_init_41 fdX7_24 rfl (fun _ => ⟨rfl, _, _, _, rfl, rfl⟩) (by first | rfl | exact pv_shx) (by omega) (by omega) (by decide) rfl (by first | exact Or.inl ⟨_, rfl⟩ | exact Or.inr ⟨_, rfl⟩) ?_
    refine g_aload_n dX7_init_44 rfl ?_
    refine g_bipush (v := nI 60) dX7_init_45 (by decide) ?_
    refine g_newI dX7_init_47 (rfl) (by decide) (by omega) (by first | exact (hz _ (by omega) (by omega)).1 | (rw [pvs_ne (by omega)]; exact (hz _ (by omega) (by omega)).1)) (by decide) (by decide) ?_
    refine g_putP dX7_init_49 fdX7_27 rfl (fun _ => ⟨rfl, _, _, _, rfl, rfl⟩) (by first | rfl | exact pv_shx) (by omega) (by omega) (by decide) rfl (by first | exact Or.inl ⟨_, rfl⟩ | exact Or.inr ⟨_, rfl⟩) ?_
    refine g_aload_n dX7_init_52 rfl ?_
    refine g_bipush (v := nI 60) dX7_init_53 (by decide) ?_
    refine g_newI dX7_init_55 (rfl) (by decide) (by omega) (by first | exact (hz _ (by omega) (by omega)).1 | (rw [pvs_ne (by omega)]; exact (hz _ (by omega) (by omega)).1)) (by decide) (by decide) ?_
    refine g_putP dX7_init_57 fdX7_30 rfl (fun _ => ⟨rfl, _, _, _, rfl, rfl⟩) (by first | rfl | exact pv_shx) (by omega) (by omega) (by decide) rfl (by first | exact Or.inl ⟨_, rfl⟩ | exact Or.inr ⟨_, rfl⟩) ?_
    refine g_aload_n dX7_init_60 rfl ?_
    refine g_bipush (v := nI 60) dX7_init_61 (by decide) ?_
    refine g_newI dX7_init_63 (rfl) (by decide) (by omega) (by first | exact (hz _ (by omega) (by omega)).1 | (rw [pvs_ne (by omega)]; exact (hz _ (by omega) (by omega)).1)) (by decide) (by decide) ?_
    refine g_putP dX7_init_65 fdX7_33 rfl (fun _ => ⟨rfl, _, _, _, rfl, rfl⟩) (by first | rfl | exact pv_shx) (by omega) (by omega) (by decide) rfl (by first | exact Or.inl ⟨_, rfl⟩ | exact Or.inr ⟨_, rfl⟩) ?_
    refine g_aload_n dX7_init_68 rfl ?_
    refine g_bipush (v := nI 60) dX7_init_69 (by decide) ?_
    refine g_newI dX7_init_71 (rfl) (by decide) (by omega) (by first | exact (hz _ (by omega) (by omega)).1 | (rw [pvs_ne (by omega)]; exact (hz _ (by omega) (by omega)).1)) (by decide) (by decide) ?_
    refine g_putP dX7_init_73 fdX7_36 rfl (fun _ => ⟨rfl, _, _, _, rfl, rfl⟩) (by first | rfl | exact pv_shx) (by omega) (by omega) (by decide) rfl (by first | exact Or.inl ⟨_, rfl⟩ | exact Or.inr ⟨_, rfl⟩) ?_
    refine g_aload_n dX7_init_76 rfl ?_
    refine g_bipush (v := nI 60) dX7_init_77 (by decide) ?_
    refine g_newI dX7_init_79 (rfl) (by decide) (by omega) (by first | exact (hz _ (by omega) (by omega)).1 | (rw [pvs_ne (by omega)]; exact (hz _ (by omega) (by omega)).1)) (by decide) (by decide) ?_
    refine g_putP dX7_init_81 fdX7_39 rfl (fun _ => ⟨rfl, _, _, _, rfl, rfl⟩) (by first | rfl | exact pv_shx) (by omega) (by omega) (by decide) rfl (by first | exact Or.inl ⟨_, rfl⟩ | exact Or.inr ⟨_, rfl⟩) ?_
    refine g_aload_n dX7_init_84 rfl ?_
    refine g_bipush (v := nI 10) dX7_init_85 (by decide) ?_
    refine g_newI dX7_init_87 (rfl) (by decide) (by omega) (by first | exact (hz _ (by omega) (by omega)).1 | (rw [pvs_ne (by omega)]; exact (hz _ (by omega) (by omega)).1)) (by decide) (by decide) ?_
    refine g_putP dX7_init_89 fdX7_42 rfl (fun _ => ⟨rfl, _, _, _, rfl, rfl⟩) (by first | rfl | exact pv_shx) (by omega) (by omega) (by decide) rfl (by first | exact Or.inl ⟨_, rfl⟩ | exact Or.inr ⟨_, rfl⟩) ?_
    exact g_vret dX7_init_92 rfl (⟨rfl, rfl, rfl, rfl, fun x hx => by simp [pvuP, hx], by simp [pvuP, va_up], by simp [pvuP, va_up], by simp [pvuP, va_up], by simp [pvuP, va_up], by simp [pvuP, va_up], by simp [pvuP, va_up], by simp [pvuP, va_up], by simp [pvuP, va_up], by simp [pvuP, va_up], by simp [pvuP, va_up], by simp [pvuP, va_up]⟩)
theorem n_law (hb : wAd b) (hz : zz (b + 36) I J P) : pvMet mX5_init 1 3 90 [.ref (b + 36)] (b + 36) I J P (fun v nx' I' J' P' => v = none ∧ nx' = b + 39 ∧ I' = I ∧ J' = J ∧ (∀ x, x ≠ b + 36 → P' x = P x) ∧ P' (b + 36) 2 = some (b + 37) ∧ P' (b + 36) 3 = some (b + 38) ∧ P' (b + 36) 4 = some (b + 39)) := by
  rcases hb with rfl | rfl
  · skip
    refine pvMet.of _ (by decide) rfl (Nat.le_of_ble_eq_true rfl) ?_
    refine g_aload_n dX5_init_0 rfl ?_
    refine g_objInit dX5_init_1 loX5_1 (by decide) (by decide) ?_
    refine g_aload_n dX5_init_4 rfl ?_
    refine g_bipush (v := nI 30) dX5_init_5 (by decide) ?_
    refine g_newI dX5_init_7 (rfl) (by decide) (by omega) (by first | exact (hz _ (by omega) (by omega)).1 | (rw [pvs_ne (by omega)]; exact (hz _ (by omega) (by omega)).1)) (by decide) (by decide) ?_
    refine g_putP dX5_init_9 fdX5_9 rfl (fun _ => ⟨rfl, _, _, _, rfl, rfl⟩) (by first | rfl | exact pv_shx) (by omega) (by omega) (by decide) rfl (by first | exact Or.inl ⟨_, rfl⟩ | exact Or.inr ⟨_, rfl⟩) ?_
    refine g_aload_n dX5_init_12 rfl ?_
    refine g_bipush (v := nI 30) dX5_init_13 (by decide) ?_
    refine g_newI dX5_init_15 (rfl) (by decide) (by omega) (by first | exact (hz _ (by omega) (by omega)).1 | (rw [pvs_ne (by omega)]; exact (hz _ (by omega) (by omega)).1)) (by decide) (by decide) ?_
    refine g_putP dX5_init_17 fdX5_13 rfl (fun _ => ⟨rfl, _, _, _, rfl, rfl⟩) (by first | rfl | exact pv_shx) (by omega) (by omega) (by decide) rfl (by first | exact Or.inl ⟨_, rfl⟩ | exact Or.inr ⟨_, rfl⟩) ?_
    refine g_aload_n dX5_init_20 rfl ?_
    refine g_bipush (v := nI 30) dX5_init_21 (by decide) ?_
    refine g_newI dX5_init_23 (rfl) (by decide) (by omega) (by first | exact (hz _ (by omega) (by omega)).1 | (rw [pvs_ne (by omega)]; exact (hz _ (by omega) (by omega)).1)) (by decide) (by decide) ?_
    refine g_putP dX5_init_25 fdX5_16 rfl (fun _ => ⟨rfl, _, _, _, rfl, rfl⟩) (by first | rfl | exact pv_shx) (by omega) (by omega) (by decide) rfl (by first | exact Or.inl ⟨_, rfl⟩ | exact Or.inr ⟨_, rfl⟩) ?_
    exact g_vret dX5_init_28 rfl (⟨rfl, rfl, rfl, rfl, fun x hx => by simp [pvuP, hx], by simp [pvuP, va_up], by simp [pvuP, va_up], by simp [pvuP, va_up]⟩)
  · skip
    refine pvMet.of _ (by decide) rfl (Nat.le_of_ble_eq_true rfl) ?_
    refine g_aload_n dX5_init_0 rfl ?_
    refine g_objInit dX5_init_1 loX5_1 (by decide) (by decide) ?_
    refine g_aload_n dX5_init_4 rfl ?_
    refine g_bipush (v := nI 30) dX5_init_5 (by decide) ?_
    refine g_newI dX5_init_7 (rfl) (by decide) (by omega) (by first | exact (hz _ (by omega) (by omega)).1 | (rw [pvs_ne (by omega)]; exact (hz _ (by omega) (by omega)).1)) (by decide) (by decide) ?_
    refine g_putP dX5_init_9 fdX5_9 rfl (fun _ => ⟨rfl, _, _, _, rfl, rfl⟩) (by first | rfl | exact pv_shx) (by omega) (by omega) (by decide) rfl (by first | exact Or.inl ⟨_, rfl⟩ | exact Or.inr ⟨_, rfl⟩) ?_
    refine g_aload_n dX5_init_12 rfl ?_
    refine g_bipush (v := nI 30) dX5_init_13 (by decide) ?_
    refine g_newI dX5_init_15 (rfl) (by decide) (by omega) (by first | exact (hz _ (by omega) (by omega)).1 | (rw [pvs_ne (by omega)]; exact (hz _ (by omega) (by omega)).1)) (by decide) (by decide) ?_
    refine g_putP dX5_init_17 fdX5_13 rfl (fun _ => ⟨rfl, _, _, _, rfl, rfl⟩) (by first | rfl | exact pv_shx) (by omega) (by omega) (by decide) rfl (by first | exact Or.inl ⟨_, rfl⟩ | exact Or.inr ⟨_, rfl⟩) ?_
    refine g_aload_n dX5_init_20 rfl ?_
    refine g_bipush (v := nI 30) dX5_init_21 (by decide) ?_
    refine g_newI dX5_init_23 (rfl) (by decide) (by omega) (by first | exact (hz _ (by omega) (by omega)).1 | (rw [pvs_ne (by omega)]; exact (hz _ (by omega) (by omega)).1)) (by decide) (by decide) ?_
    refine g_putP dX5_init_25 fdX5_16 rfl (fun _ => ⟨rfl, _, _, _, rfl, rfl⟩) (by first | rfl | exact pv_shx) (by omega) (by omega) (by decide) rfl (by first | exact Or.inl ⟨_, rfl⟩ | exact Or.inr ⟨_, rfl⟩) ?_
    exact g_vret dX5_init_28 rfl (⟨rfl, rfl, rfl, rfl, fun x hx => by simp [pvuP, hx], by simp [pvuP, va_up], by simp [pvuP, va_up], by simp [pvuP, va_up]⟩)
theorem n_walls (hb : wAd b) (hz : zz (b + 40) I J P) : pvMet mX8_init 1 2 12 [.ref (b + 40)] (b + 40) I J P (fun v nx' I' J' P' => v = none ∧ nx' = b + 42 ∧ I' = pvs I (b + 40) (upd (upd (I (b + 40)) 3 (-1)) 4 (-1)) ∧ J' = J ∧ (∀ x, x ≠ b + 40 → P' x = P x) ∧ P' (b + 40) 1 = some (b + 41) ∧ P' (b + 40) 2 = some (b + 42)) := by
  rcases hb with rfl | rfl
  · skip
    refine pvMet.of _ (by decide) rfl (Nat.le_of_ble_eq_true rfl) ?_
    refine g_aload_n dX8_init_0 rfl ?_
    refine g_objInit dX8_init_1 loX8_3 (by decide) (by decide) ?_
    refine g_aload_n dX8_init_4 rfl ?_
    refine g_bipush (v := nI 6) dX8_init_5 (by decide) ?_
    refine g_newI dX8_init_7 (rfl) (by decide) (by omega) (by first | exact (hz _ (by omega) (by omega)).1 | (rw [pvs_ne (by omega)]; exact (hz _ (by omega) (by omega)).1)) (by decide) (by decide) ?_
    refine g_putP dX8_init_9 fdX8_11 rfl (fun _ => ⟨rfl, _, _, _, rfl, rfl⟩) (by first | rfl | exact pv_shx) (by omega) (by omega) (by decide) rfl (by first | exact Or.inl ⟨_, rfl⟩ | exact Or.inr ⟨_, rfl⟩) ?_
    refine g_aload_n dX8_init_12 rfl ?_
    refine g_bipush (v := nI 6) dX8_init_13 (by decide) ?_
    refine g_newI dX8_init_15 (rfl) (by decide) (by omega) (by first | exact (hz _ (by omega) (by omega)).1 | (rw [pvs_ne (by omega)]; exact (hz _ (by omega) (by omega)).1)) (by decide) (by decide) ?_
    refine g_putP dX8_init_17 fdX8_15 rfl (fun _ => ⟨rfl, _, _, _, rfl, rfl⟩) (by first | rfl | exact pv_shx) (by omega) (by omega) (by decide) rfl (by first | exact Or.inl ⟨_, rfl⟩ | exact Or.inr ⟨_, rfl⟩) ?_
    refine g_aload_n dX8_init_20 rfl ?_
    refine g_iconst (v := (-1)) dX8_init_21 (by decide) ?_
    refine n_putI dX8_init_22 fdX8_18 rfl (fun h => absurd h (by decide)) (by first | rfl | exact pv_shx) (by omega) (by omega) (by decide) rfl (by repeat (first | exact pvu_s | exact pvuJ_s | apply pvu_in (by omega) | apply pvuJ_in (by omega) | exact pvu_pvs | exact pvuJ_pvs)) ?_
    refine g_aload_n dX8_init_25 rfl ?_
    refine g_iconst (v := (-1)) dX8_init_26 (by decide) ?_
    refine n_putI dX8_init_27 fdX8_22 rfl (fun h => absurd h (by decide)) (by first | rfl | exact pv_shx) (by omega) (by omega) (by decide) rfl (by repeat (first | exact pvu_s | exact pvuJ_s | apply pvu_in (by omega) | apply pvuJ_in (by omega) | exact pvu_pvs | exact pvuJ_pvs)) ?_
    exact g_vret dX8_init_30 rfl (⟨rfl, rfl, rfl, rfl, fun x hx => by simp [pvuP, hx], by simp [pvuP, va_up], by simp [pvuP, va_up]⟩)
  · skip
    refine pvMet.of _ (by decide) rfl (Nat.le_of_ble_eq_true rfl) ?_
    refine g_aload_n dX8_init_0 rfl ?_
    refine g_objInit dX8_init_1 loX8_3 (by decide) (by decide) ?_
    refine g_aload_n dX8_init_4 rfl ?_
    refine g_bipush (v := nI 6) dX8_init_5 (by decide) ?_
    refine g_newI dX8_init_7 (rfl) (by decide) (by omega) (by first | exact (hz _ (by omega) (by omega)).1 | (rw [pvs_ne (by omega)]; exact (hz _ (by omega) (by omega)).1)) (by decide) (by decide) ?_
    refine g_putP dX8_init_9 fdX8_11 rfl (fun _ => ⟨rfl, _, _, _, rfl, rfl⟩) (by first | rfl | exact pv_shx) (by omega) (by omega) (by decide) rfl (by first | exact Or.inl ⟨_, rfl⟩ | exact Or.inr ⟨_, rfl⟩) ?_
    refine g_aload_n dX8_init_12 rfl ?_
    refine g_bipush (v := nI 6) dX8_init_13 (by decide) ?_
    refine g_newI dX8_init_15 (rfl) (by decide) (by omega) (by first | exact (hz _ (by omega) (by omega)).1 | (rw [pvs_ne (by omega)]; exact (hz _ (by omega) (by omega)).1)) (by decide) (by decide) ?_
    refine g_putP dX8_init_17 fdX8_15 rfl (fun _ => ⟨rfl, _, _, _, rfl, rfl⟩) (by first | rfl | exact pv_shx) (by omega) (by omega) (by decide) rfl (by first | exact Or.inl ⟨_, rfl⟩ | exact Or.inr ⟨_, rfl⟩) ?_
    refine g_aload_n dX8_init_20 rfl ?_
    refine g_iconst (v := (-1)) dX8_init_21 (by decide) ?_
    refine n_putI dX8_init_22 fdX8_18 rfl (fun h => absurd h (by decide)) (by first | rfl | exact pv_shx) (by omega) (by omega) (by decide) rfl (by repeat (first | exact pvu_s | exact pvuJ_s | apply pvu_in (by omega) | apply pvuJ_in (by omega) | exact pvu_pvs | exact pvuJ_pvs)) ?_
    refine g_aload_n dX8_init_25 rfl ?_
    refine g_iconst (v := (-1)) dX8_init_26 (by decide) ?_
    refine n_putI dX8_init_27 fdX8_22 rfl (fun h => absurd h (by decide)) (by first | rfl | exact pv_shx) (by omega) (by omega) (by decide) rfl (by repeat (first | exact pvu_s | exact pvuJ_s | apply pvu_in (by omega) | apply pvuJ_in (by omega) | exact pvu_pvs | exact pvuJ_pvs)) ?_
    exact g_vret dX8_init_30 rfl (⟨rfl, rfl, rfl, rfl, fun x hx => by simp [pvuP, hx], by simp [pvuP, va_up], by simp [pvuP, va_up]⟩)
end INI
