/-! the law: the calls that change other things than numbers -/
theorem nI_self (x : Int32) : x = nI x.toUInt32.toNat := by
  unfold nI
  apply Int32.toBitVec_inj.mp
  rw [Int32.toBitVec_ofNat']
  simp
theorem and_lo (x : Int32) {k : Nat} {m : Int32} (hm : m.toBitVec.toNat = 2 ^ k - 1) : x &&& m = nI (x.toUInt32.toNat % 2 ^ k) := by
  have h := pk_andN (n := x.toUInt32.toNat) (x.toUInt32.toNat_lt) k hm
  rw [← nI_self x] at h
  exact h
section H8
variable {w h : Nat} {a a' : Nat → Int32} {c d e k m n t x y z b : Int32}
theorem h8_cell : (sp_cell w h a c k t).2 8 = a 8 := by
  unfold sp_cell; split
  · simp only [upd]; rw [if_neg (by omega), if_neg (by omega)]
  · rfl
theorem h8_rules : (sp_rules a x y z).2 8 = a 8 := by
  unfold sp_rules; split
  · simp only [upd]; repeat (rw [if_neg (by omega)])
  · rfl
theorem h8_hole : (sp_hole w h a c).2 8 = a 8 := by
  unfold sp_hole; split
  · simp only [upd]; repeat (rw [if_neg (by omega)])
  · rfl
theorem h8_plug : (sp_plug a k).2 8 = a 8 := by
  unfold sp_plug; split
  · simp only [upd]; repeat (rw [if_neg (by omega)])
  · rfl
theorem h8_pour : (sp_pour w h a c t).2 8 = a 8 := by
  unfold sp_pour; split
  · exact cameA_low (by decide) (by decide)
  · rfl
theorem h8_trench : (sp_trench w h a c d n e).2 8 = a 8 := by
  unfold sp_trench; split
  · simp only [upd]; repeat (rw [if_neg (by omega)])
  · rfl
theorem h8_state : (sp_state w h a c m).2 8 = a 8 := by
  unfold sp_state; split
  · simp only [upd]; repeat (rw [if_neg (by omega)])
  · rfl
theorem h8_read : (sp_read w h a c m b).2 8 = a 8 := by
  unfold sp_read; split
  · simp only [upd]; repeat (rw [if_neg (by omega)])
  · rfl
theorem h8_house : (sp_house w h a c x y).2 8 = a 8 := by
  unfold sp_house; split
  · simp only [upd]; repeat (rw [if_neg (by omega)])
  · rfl
theorem h8_person : (sp_person a c x y).2 8 = a 8 := by
  unfold sp_person; split
  · simp only [upd]; repeat (rw [if_neg (by omega)])
  · rfl
theorem h8_hears : (sp_hears a c x).2 8 = a 8 := by
  unfold sp_hears; split
  · simp only [upd]; repeat (rw [if_neg (by omega)])
  · rfl
theorem h8_offer : (sp_offer a c x y).2 8 = a 8 := by
  unfold sp_offer; split
  · simp only [upd]; repeat (rw [if_neg (by omega)])
  · rfl
theorem h8_pull : (sp_pull a x).2 8 = a 8 := by
  unfold sp_pull; split
  · simp only [upd]; repeat (rw [if_neg (by omega)])
  · rfl
theorem h8_force : (sp_force a c x y).2 8 = a 8 := by
  unfold sp_force; split
  · simp only [upd]; repeat (rw [if_neg (by omega)])
  · rfl
theorem h8_place : (sp_place w h a c x).2 8 = a 8 := by
  unfold sp_place; split
  · simp only [upd]; repeat (rw [if_neg (by omega)])
  · rfl
theorem pass_8 : ∀ {n : Nat}, sp_pass a n 8 = a 8
  | 0 => rfl
  | n + 1 => by
    show sp_step (sp_pass a n) n 8 = a 8
    unfold sp_step
    split
    · simp only [upd]; rw [if_neg (by omega), if_neg (by omega)]; exact pass_8
    · exact pass_8
theorem lv_8 : ∀ {n : Nat} {a : Nat → Int32}, sp_lv n a 8 = a 8
  | 0, _ => rfl
  | n + 1, a => by
    unfold sp_lv
    split
    · rw [lv_8, pass_8]
    · rw [pass_8]
theorem wks_8 : ∀ {n : Nat}, sp_wks a n 8 = a 8
  | 0 => rfl
  | n + 1 => by
    show sp_tick (sp_lv 61 (sp_wks a n)) 8 = a 8
    unfold sp_tick
    simp only [upd]
    rw [if_neg (by decide), lv_8, wks_8]
theorem h8_weeks : (sp_weeks a n).2 8 = a 8 := by
  unfold sp_weeks; split
  · exact wks_8
  · rfl
end H8
section FDR
variable {w h : Nat} {a a' : Nat → Int32} {I I' : pvI} {J J' : pvJ}
theorem mInv.fr (hi : mInv w h a) (hwh : w * h ≤ 64) (hA : ag 0 8020 a a') : mInv w h a' := by
  obtain ⟨⟨i1, i2, i3, i4, i5, i6⟩, i7, i8, i9, i10, ⟨i11, i12⟩, i13⟩ := hi
  have s : ∀ lo hi', hi' ≤ 8020 → ag lo hi' a a' := fun lo hi' hz => hA.sub (by omega) hz
  have g1 : mG a' := i1.fr (s _ _ (by decide))
  exact ⟨⟨g1, i2.fr (s _ _ (by decide)) (s _ _ (by decide)), i3.fr i1 (s _ _ (by decide)) (s _ _ (by decide)), i4.fr i1 (s _ _ (by decide)) (s _ _ (by decide)), i5.fr i1 (s _ _ (by decide)) (s _ _ (by decide)), i6.fr i1 (s _ _ (by decide)) (s _ _ (by decide))⟩, i7.fr i1 (s _ _ (by decide)) (s _ _ (by decide)), i8.fr g1 (s _ _ (by decide)) (s _ _ (by decide)), i9.fr (s _ _ (by decide)), i10.fr i1 (s _ _ (by decide)) (s _ _ (by decide)), ⟨i11.fr (s _ _ (by decide)) (s _ _ (by decide)), i12.fr (s _ _ (by decide))⟩, mAh.fr i13 i1 (s _ _ (by decide)) (s _ _ (by decide)) (s _ _ (by decide)) (s _ _ (by decide))⟩
theorem rW.fr {b : Nat} (hr : rW w h b a I J) (hg : mG a) (hwh : w * h ≤ 64) (hA : ag 0 8020 a a') : rW w h b a' I J := by
  obtain ⟨r0, r1, r2, r3, r4, r5, r6⟩ := hr
  have s : ∀ lo hi', hi' ≤ 8020 → ag lo hi' a a' := fun lo hi' hz => hA.sub (by omega) hz
  exact ⟨by rw [hA 0 (by decide) (by decide)]; exact r0, r1.fr (s _ _ (by decide)) (s _ _ (by decide)) (s _ _ (by decide)) (s _ _ (by decide)) hwh, r2.fr hg (s _ _ (by decide)) (s _ _ (by decide)), r3.fr hg (s _ _ (by decide)) (s _ _ (by decide)), r4.fr hg (s _ _ (by decide)) (s _ _ (by decide)) (s _ _ (by decide)), r5.fr hg (s _ _ (by decide)) (s _ _ (by decide)), r6.fr hg (s _ _ (by decide)) (s _ _ (by decide))⟩
theorem fil_ag {f g : Nat → Int32} : ag 0 8020 f (sp_fil f g 8020) := fun i _ hi => by unfold sp_fil; rw [if_pos hi]
theorem fil_8 {f g : Nat → Int32} : cnt (sp_fil f g 8020) 8 = cnt f 8 := by unfold cnt; rw [fil_ag 8 (by decide) (by decide)]
theorem fill_N {c : Nat} (hc : mCells a) (h : c < 64) : sp_sum (sp_came a c) 100 = nI (fN a c) := by
  rw [sp_sum_N (f := fun m => cnt a (1620 + 64 * m + c))]
  · rfl
  · intro m hm
    obtain ⟨v, v1, v2⟩ := hc.2.2 m c hm h
    show a (1620 + 64 * m + c) = _
    rw [cnt_of v2 (by omega)]; exact v2
end FDR
section TAP
def tH (f : Nat → Int32) (tx : Nat → Nat) (n : Nat) : Prop := ∀ i, i < n → f i = nI (tx i) ∧ tx i ≤ 255
def tx4 (tx : Nat → Nat) (tp : Nat) (v : Int32) : Nat → Nat := fun i => if i = tp + 3 then (sp_byt v 0).toNatClampNeg else if i = tp + 2 then (sp_byt v 8).toNatClampNeg else if i = tp + 1 then (sp_byt v 16).toNatClampNeg else if i = tp then (sp_byt v 24).toNatClampNeg else tx i
def txF (tx : Nat → Nat) (tp : Nat) (a b c d e : Int32) : Nat → Nat := tx4 (tx4 (tx4 (tx4 (tx4 tx tp a) (tp + 4) b) (tp + 8) c) (tp + 12) d) (tp + 16) e
theorem byt_b {v : Int32} {k : Nat} : sp_byt v k = nI (sp_byt v k).toNatClampNeg ∧ (sp_byt v k).toNatClampNeg ≤ 255 := by
  have h := and_lo (v >>> (nI k &&& 31)) (k := 8) (m := nI 255) (by decide)
  have e : sp_byt v k = nI ((v >>> (nI k &&& 31)).toUInt32.toNat % 256) := h
  have l : (v >>> (nI k &&& 31)).toUInt32.toNat % 256 ≤ 255 := by omega
  rw [e, nI_clamp (by omega)]
  exact ⟨rfl, l⟩
theorem tH.four {f : Nat → Int32} {tx : Nat → Nat} {tp : Nat} {v : Int32} (h : tH f tx tp) : tH (sp_four f tp v) (tx4 tx tp v) (tp + 4) := fun i hi => by
  unfold sp_four tx4
  simp only [upd]
  by_cases e3 : i = tp + 3
  · rw [if_pos e3, if_pos e3]; exact byt_b
  rw [if_neg e3, if_neg e3]
  by_cases e2 : i = tp + 2
  · rw [if_pos e2, if_pos e2]; exact byt_b
  rw [if_neg e2, if_neg e2]
  by_cases e1 : i = tp + 1
  · rw [if_pos e1, if_pos e1]; exact byt_b
  rw [if_neg e1, if_neg e1]
  by_cases e0 : i = tp
  · rw [if_pos e0, if_pos e0]; exact byt_b
  rw [if_neg e0, if_neg e0]
  exact h i (by omega)
theorem tH.feed {f : Nat → Int32} {tx : Nat → Nat} {tp : Nat} {a b c d e : Int32} (h : tH f tx tp) : tH (sp_feed f tp a b c d e) (txF tx tp a b c d e) (tp + 20) := h.four.four.four.four.four
end TAP
