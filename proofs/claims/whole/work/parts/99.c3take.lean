/-! class: an image is taken -/
section TA3
variable {w h : Nat} {a : Nat → Int32} {I I' : pvI} {J J' : pvJ} {P : pvP}
theorem c_takeA46 (hP : pvOkP P) (hg : mG a) (hr : rW w h 3 a I J) : pvMet mX10_take 2 0 0 [.ref 46, .ref 3] 224 I J P (pvq P (fun v I' J' => v = none ∧ rW w h 46 a I' J' ∧ I' 86 3 = -1 ∧ tkO 46 88 I J I' J')) := by
  obtain ⟨r0, r1, r2, r3, r4, r5, r6⟩ := hr
  have o0 : ∀ x, x ≠ 46 → pvs I 46 (upd (I 46) 0 (a 0)) x = I x := fun x hx => pvs_ne hx
  have t1 := c_takeG46 (w := w) (h := h) (a := a) (I := pvs I 46 (upd (I 46) 0 (a 0))) (J := J) hP (r1.mv (fun x z1 z2 => o0 x (by omega)) (fun _ _ _ => rfl))
  refine pvMet.of _ (by decide) rfl (Nat.le_of_ble_eq_true rfl) ?_
  refine g_aload_n dX10_take_0 rfl ?_
  refine g_aload_n dX10_take_1 rfl ?_
  refine n_getI dX10_take_2 fdX10_57 rfl (by first | rfl | exact pv_shx) (by omega) (by omega) (by decide) rfl (by repeat (first | exact r0 | (apply rd_s; done) | apply rd_n (by omega) | apply rp_s | apply rp_n (by omega) | (apply rdL_s; done) | apply rdL_n (by omega) | apply rpJ_s | apply rpJ_n (by omega) | rfl)) ?_
  refine n_putI dX10_take_5 fdX10_57 rfl (fun h => absurd h (by decide)) (by first | rfl | exact pv_shx) (by omega) (by omega) (by decide) rfl (by repeat (first | exact pvu_s | exact pvuJ_s | apply pvu_in (by omega) | apply pvuJ_in (by omega) | exact pvu_pvs | exact pvuJ_pvs)) ?_
  refine g_aload_n dX10_take_8 rfl ?_
  refine g_getP dX10_take_9 fdX10_18 rfl (by first | rfl | exact pv_shx) (by omega) (by omega) (by decide) rfl (hP _ _ _ rfl) ?_
  refine g_aload_n dX10_take_12 rfl ?_
  refine g_getP dX10_take_13 fdX10_18 rfl (by first | rfl | exact pv_shx) (by omega) (by omega) (by decide) rfl (hP _ _ _ rfl) ?_
  refine g_callV (t1) okX3_take lkX10_61 rfl (by first | rfl | exact pv_shx) rfl (by omega) (by omega) dX10_take_16 rfl (Nat.le_of_ble_eq_true rfl) (⟨by decide, by decide, by decide, by decide⟩) ?_
  rintro v nx' I1 J1 P' ⟨rfl, rfl, rfl, q1, p1⟩
  have t2 := c_takeW46 (w := w) (h := h) (a := a) (I := I1) (J := J1) hP hg (r2.mv (fun x z1 z2 => ((p1 x (by omega)).1).trans (o0 x (by omega))) (fun x z1 z2 => (p1 x (by omega)).2))
  refine g_aload_n dX10_take_19 rfl ?_
  refine g_getP dX10_take_20 fdX10_25 rfl (by first | rfl | exact pv_shx) (by omega) (by omega) (by decide) rfl (hP _ _ _ rfl) ?_
  refine g_aload_n dX10_take_23 rfl ?_
  refine g_getP dX10_take_24 fdX10_25 rfl (by first | rfl | exact pv_shx) (by omega) (by omega) (by decide) rfl (hP _ _ _ rfl) ?_
  refine g_callV (t2) okX9_take lkX10_65 rfl (by first | rfl | exact pv_shx) rfl (by omega) (by omega) dX10_take_27 rfl (Nat.le_of_ble_eq_true rfl) (⟨by decide, by decide, by decide, by decide⟩) ?_
  rintro v nx' I2 J2 P' ⟨rfl, rfl, rfl, q2, p2⟩
  have t3 := c_takeK46 (a := a) (I := I2) (J := J2) hP hg (r3.mv (fun x z1 z2 => ((p2 x (by omega)).1).trans (((p1 x (by omega)).1).trans (o0 x (by omega)))))
  refine g_aload_n dX10_take_30 rfl ?_
  refine g_getP dX10_take_31 fdX10_32 rfl (by first | rfl | exact pv_shx) (by omega) (by omega) (by decide) rfl (hP _ _ _ rfl) ?_
  refine g_aload_n dX10_take_34 rfl ?_
  refine g_getP dX10_take_35 fdX10_32 rfl (by first | rfl | exact pv_shx) (by omega) (by omega) (by decide) rfl (hP _ _ _ rfl) ?_
  refine g_callV (t3) okX4_take lkX10_68 rfl (by first | rfl | exact pv_shx) rfl (by omega) (by omega) dX10_take_38 rfl (Nat.le_of_ble_eq_true rfl) (⟨by decide, by decide, by decide, by decide⟩) ?_
  rintro v nx' I3 J3 P' ⟨rfl, rfl, rfl, q3, p3⟩
  have t4 := c_takeT46 (a := a) (I := I3) (J := J3) hP hg (r4.mv (fun x z1 z2 => ((p3 x (by omega)).1).trans (((p2 x (by omega)).1).trans (((p1 x (by omega)).1).trans (o0 x (by omega))))))
  refine g_aload_n dX10_take_41 rfl ?_
  refine g_getP dX10_take_42 fdX10_39 rfl (by first | rfl | exact pv_shx) (by omega) (by omega) (by decide) rfl (hP _ _ _ rfl) ?_
  refine g_aload_n dX10_take_45 rfl ?_
  refine g_getP dX10_take_46 fdX10_39 rfl (by first | rfl | exact pv_shx) (by omega) (by omega) (by decide) rfl (hP _ _ _ rfl) ?_
  refine g_callV (t4) okX7_take lkX10_71 rfl (by first | rfl | exact pv_shx) rfl (by omega) (by omega) dX10_take_49 rfl (Nat.le_of_ble_eq_true rfl) (⟨by decide, by decide, by decide, by decide⟩) ?_
  rintro v nx' I4 J4 P' ⟨rfl, rfl, rfl, q4, p4⟩
  have t5 := c_takeL46 (a := a) (I := I4) (J := J4) hP hg (r5.mv (fun x z1 z2 => ((p4 x (by omega)).1).trans (((p3 x (by omega)).1).trans (((p2 x (by omega)).1).trans (((p1 x (by omega)).1).trans (o0 x (by omega)))))))
  refine g_aload_n dX10_take_52 rfl ?_
  refine g_getP dX10_take_53 fdX10_46 rfl (by first | rfl | exact pv_shx) (by omega) (by omega) (by decide) rfl (hP _ _ _ rfl) ?_
  refine g_aload_n dX10_take_56 rfl ?_
  refine g_getP dX10_take_57 fdX10_46 rfl (by first | rfl | exact pv_shx) (by omega) (by omega) (by decide) rfl (hP _ _ _ rfl) ?_
  refine g_callV (t5) okX5_take lkX10_74 rfl (by first | rfl | exact pv_shx) rfl (by omega) (by omega) dX10_take_60 rfl (Nat.le_of_ble_eq_true rfl) (⟨by decide, by decide, by decide, by decide⟩) ?_
  rintro v nx' I5 J5 P' ⟨rfl, rfl, rfl, q5, p5⟩
  have pr : ∀ x, (x < 46 ∨ 88 < x) → I5 x = I x := fun x hx => ((p5 x (by omega)).1).trans (((p4 x (by omega)).1).trans (((p3 x (by omega)).1).trans (((p2 x (by omega)).1).trans (((p1 x (by omega)).1).trans (o0 x (by omega))))))
  have t6 := c_takeP46 (a := a) (I := I5) (J := J5) hP hg (r6.mv (fun x z1 z2 => pr x (by omega)) (by rw [pr _ (by omega)]))
  refine g_aload_n dX10_take_63 rfl ?_
  refine g_getP dX10_take_64 fdX10_53 rfl (by first | rfl | exact pv_shx) (by omega) (by omega) (by decide) rfl (hP _ _ _ rfl) ?_
  refine g_aload_n dX10_take_67 rfl ?_
  refine g_getP dX10_take_68 fdX10_53 rfl (by first | rfl | exact pv_shx) (by omega) (by omega) (by decide) rfl (hP _ _ _ rfl) ?_
  refine g_callV (t6) okX8_take lkX10_77 rfl (by first | rfl | exact pv_shx) rfl (by omega) (by omega) dX10_take_71 rfl (Nat.le_of_ble_eq_true rfl) (⟨by decide, by decide, by decide, by decide⟩) ?_
  rintro v nx' I6 J6 P' ⟨rfl, rfl, rfl, q6, q7, p6⟩
  exact g_vret dX10_take_74 rfl (⟨rfl, rfl, rfl, ⟨by rw [(p6 46 (by omega)).1, (p5 46 (by omega)).1, (p4 46 (by omega)).1, (p3 46 (by omega)).1, (p2 46 (by omega)).1, (p1 46 (by omega)).1, pvs_eq, updS], q1.mv (fun x z1 z2 => by rw [(p6 x (by omega)).1, (p5 x (by omega)).1, (p4 x (by omega)).1, (p3 x (by omega)).1, (p2 x (by omega)).1]) (fun x z1 z2 => by rw [(p6 x (by omega)).2, (p5 x (by omega)).2, (p4 x (by omega)).2, (p3 x (by omega)).2, (p2 x (by omega)).2]), q2.mv (fun x z1 z2 => by rw [(p6 x (by omega)).1, (p5 x (by omega)).1, (p4 x (by omega)).1, (p3 x (by omega)).1]) (fun x z1 z2 => by rw [(p6 x (by omega)).2, (p5 x (by omega)).2, (p4 x (by omega)).2, (p3 x (by omega)).2]), q3.mv (fun x z1 z2 => by rw [(p6 x (by omega)).1, (p5 x (by omega)).1, (p4 x (by omega)).1]), q4.mv (fun x z1 z2 => by rw [(p6 x (by omega)).1, (p5 x (by omega)).1]), q5.mv (fun x z1 z2 => by rw [(p6 x (by omega)).1]), q6⟩, q7, fun x hx => ⟨((p6 x (by omega)).1).trans (pr x (by omega)), ((p6 x (by omega)).2).trans (((p5 x (by omega)).2).trans (((p4 x (by omega)).2).trans (((p3 x (by omega)).2).trans (((p2 x (by omega)).2).trans ((p1 x (by omega)).2)))))⟩⟩)
theorem c_takeA3 (hP : pvOkP P) (hg : mG a) (hr : rW w h 46 a I J) : pvMet mX10_take 2 0 0 [.ref 3, .ref 46] 224 I J P (pvq P (fun v I' J' => v = none ∧ rW w h 3 a I' J' ∧ I' 43 3 = -1 ∧ tkO 3 45 I J I' J')) := by
  obtain ⟨r0, r1, r2, r3, r4, r5, r6⟩ := hr
  have o0 : ∀ x, x ≠ 3 → pvs I 3 (upd (I 3) 0 (a 0)) x = I x := fun x hx => pvs_ne hx
  have t1 := c_takeG3 (w := w) (h := h) (a := a) (I := pvs I 3 (upd (I 3) 0 (a 0))) (J := J) hP (r1.mv (fun x z1 z2 => o0 x (by omega)) (fun _ _ _ => rfl))
  refine pvMet.of _ (by decide) rfl (Nat.le_of_ble_eq_true rfl) ?_
  refine g_aload_n dX10_take_0 rfl ?_
  refine g_aload_n dX10_take_1 rfl ?_
  refine n_getI dX10_take_2 fdX10_57 rfl (by first | rfl | exact pv_shx) (by omega) (by omega) (by decide) rfl (by repeat (first | exact r0 | (apply rd_s; done) | apply rd_n (by omega) | apply rp_s | apply rp_n (by omega) | (apply rdL_s; done) | apply rdL_n (by omega) | apply rpJ_s | apply rpJ_n (by omega) | rfl)) ?_
  refine n_putI dX10_take_5 fdX10_57 rfl (fun h => absurd h (by decide)) (by first | rfl | exact pv_shx) (by omega) (by omega) (by decide) rfl (by repeat (first | exact pvu_s | exact pvuJ_s | apply pvu_in (by omega) | apply pvuJ_in (by omega) | exact pvu_pvs | exact pvuJ_pvs)) ?_
  refine g_aload_n dX10_take_8 rfl ?_
  refine g_getP dX10_take_9 fdX10_18 rfl (by first | rfl | exact pv_shx) (by omega) (by omega) (by decide) rfl (hP _ _ _ rfl) ?_
  refine g_aload_n dX10_take_12 rfl ?_
  refine g_getP dX10_take_13 fdX10_18 rfl (by first | rfl | exact pv_shx) (by omega) (by omega) (by decide) rfl (hP _ _ _ rfl) ?_
  refine g_callV (t1) okX3_take lkX10_61 rfl (by first | rfl | exact pv_shx) rfl (by omega) (by omega) dX10_take_16 rfl (Nat.le_of_ble_eq_true rfl) (⟨by decide, by decide, by decide, by decide⟩) ?_
  rintro v nx' I1 J1 P' ⟨rfl, rfl, rfl, q1, p1⟩
  have t2 := c_takeW3 (w := w) (h := h) (a := a) (I := I1) (J := J1) hP hg (r2.mv (fun x z1 z2 => ((p1 x (by omega)).1).trans (o0 x (by omega))) (fun x z1 z2 => (p1 x (by omega)).2))
  refine g_aload_n dX10_take_19 rfl ?_
  refine g_getP dX10_take_20 fdX10_25 rfl (by first | rfl | exact pv_shx) (by omega) (by omega) (by decide) rfl (hP _ _ _ rfl) ?_
  refine g_aload_n dX10_take_23 rfl ?_
  refine g_getP dX10_take_24 fdX10_25 rfl (by first | rfl | exact pv_shx) (by omega) (by omega) (by decide) rfl (hP _ _ _ rfl) ?_
  refine g_callV (t2) okX9_take lkX10_65 rfl (by first | rfl | exact pv_shx) rfl (by omega) (by omega) dX10_take_27 rfl (Nat.le_of_ble_eq_true rfl) (⟨by decide, by decide, by decide, by decide⟩) ?_
  rintro v nx' I2 J2 P' ⟨rfl, rfl, rfl, q2, p2⟩
  have t3 := c_takeK3 (a := a) (I := I2) (J := J2) hP hg (r3.mv (fun x z1 z2 => ((p2 x (by omega)).1).trans (((p1 x (by omega)).1).trans (o0 x (by omega)))))
  refine g_aload_n dX10_take_30 rfl ?_
  refine g_getP dX10_take_31 fdX10_32 rfl (by first | rfl | exact pv_shx) (by omega) (by omega) (by decide) rfl (hP _ _ _ rfl) ?_
  refine g_aload_n dX10_take_34 rfl ?_
  refine g_getP dX10_take_35 fdX10_32 rfl (by first | rfl | exact pv_shx) (by omega) (by omega) (by decide) rfl (hP _ _ _ rfl) ?_
  refine g_callV (t3) okX4_take lkX10_68 rfl (by first | rfl | exact pv_shx) rfl (by omega) (by omega) dX10_take_38 rfl (Nat.le_of_ble_eq_true rfl) (⟨by decide, by decide, by decide, by decide⟩) ?_
  rintro v nx' I3 J3 P' ⟨rfl, rfl, rfl, q3, p3⟩
  have t4 := c_takeT3 (a := a) (I := I3) (J := J3) hP hg (r4.mv (fun x z1 z2 => ((p3 x (by omega)).1).trans (((p2 x (by omega)).1).trans (((p1 x (by omega)).1).trans (o0 x (by omega))))))
  refine g_aload_n dX10_take_41 rfl ?_
  refine g_getP dX10_take_42 fdX10_39 rfl (by first | rfl | exact pv_shx) (by omega) (by omega) (by decide) rfl (hP _ _ _ rfl) ?_
  refine g_aload_n dX10_take_45 rfl ?_
  refine g_getP dX10_take_46 fdX10_39 rfl (by first | rfl | exact pv_shx) (by omega) (by omega) (by decide) rfl (hP _ _ _ rfl) ?_
  refine g_callV (t4) okX7_take lkX10_71 rfl (by first | rfl | exact pv_shx) rfl (by omega) (by omega) dX10_take_49 rfl (Nat.le_of_ble_eq_true rfl) (⟨by decide, by decide, by decide, by decide⟩) ?_
  rintro v nx' I4 J4 P' ⟨rfl, rfl, rfl, q4, p4⟩
  have t5 := c_takeL3 (a := a) (I := I4) (J := J4) hP hg (r5.mv (fun x z1 z2 => ((p4 x (by omega)).1).trans (((p3 x (by omega)).1).trans (((p2 x (by omega)).1).trans (((p1 x (by omega)).1).trans (o0 x (by omega)))))))
  refine g_aload_n dX10_take_52 rfl ?_
  refine g_getP dX10_take_53 fdX10_46 rfl (by first | rfl | exact pv_shx) (by omega) (by omega) (by decide) rfl (hP _ _ _ rfl) ?_
  refine g_aload_n dX10_take_56 rfl ?_
  refine g_getP dX10_take_57 fdX10_46 rfl (by first | rfl | exact pv_shx) (by omega) (by omega) (by decide) rfl (hP _ _ _ rfl) ?_
  refine g_callV (t5) okX5_take lkX10_74 rfl (by first | rfl | exact pv_shx) rfl (by omega) (by omega) dX10_take_60 rfl (Nat.le_of_ble_eq_true rfl) (⟨by decide, by decide, by decide, by decide⟩) ?_
  rintro v nx' I5 J5 P' ⟨rfl, rfl, rfl, q5, p5⟩
  have pr : ∀ x, (x < 3 ∨ 45 < x) → I5 x = I x := fun x hx => ((p5 x (by omega)).1).trans (((p4 x (by omega)).1).trans (((p3 x (by omega)).1).trans (((p2 x (by omega)).1).trans (((p1 x (by omega)).1).trans (o0 x (by omega))))))
  have t6 := c_takeP3 (a := a) (I := I5) (J := J5) hP hg (r6.mv (fun x z1 z2 => pr x (by omega)) (by rw [pr _ (by omega)]))
  refine g_aload_n dX10_take_63 rfl ?_
  refine g_getP dX10_take_64 fdX10_53 rfl (by first | rfl | exact pv_shx) (by omega) (by omega) (by decide) rfl (hP _ _ _ rfl) ?_
  refine g_aload_n dX10_take_67 rfl ?_
  refine g_getP dX10_take_68 fdX10_53 rfl (by first | rfl | exact pv_shx) (by omega) (by omega) (by decide) rfl (hP _ _ _ rfl) ?_
  refine g_callV (t6) okX8_take lkX10_77 rfl (by first | rfl | exact pv_shx) rfl (by omega) (by omega) dX10_take_71 rfl (Nat.le_of_ble_eq_true rfl) (⟨by decide, by decide, by decide, by decide⟩) ?_
  rintro v nx' I6 J6 P' ⟨rfl, rfl, rfl, q6, q7, p6⟩
  exact g_vret dX10_take_74 rfl (⟨rfl, rfl, rfl, ⟨by rw [(p6 3 (by omega)).1, (p5 3 (by omega)).1, (p4 3 (by omega)).1, (p3 3 (by omega)).1, (p2 3 (by omega)).1, (p1 3 (by omega)).1, pvs_eq, updS], q1.mv (fun x z1 z2 => by rw [(p6 x (by omega)).1, (p5 x (by omega)).1, (p4 x (by omega)).1, (p3 x (by omega)).1, (p2 x (by omega)).1]) (fun x z1 z2 => by rw [(p6 x (by omega)).2, (p5 x (by omega)).2, (p4 x (by omega)).2, (p3 x (by omega)).2, (p2 x (by omega)).2]), q2.mv (fun x z1 z2 => by rw [(p6 x (by omega)).1, (p5 x (by omega)).1, (p4 x (by omega)).1, (p3 x (by omega)).1]) (fun x z1 z2 => by rw [(p6 x (by omega)).2, (p5 x (by omega)).2, (p4 x (by omega)).2, (p3 x (by omega)).2]), q3.mv (fun x z1 z2 => by rw [(p6 x (by omega)).1, (p5 x (by omega)).1, (p4 x (by omega)).1]), q4.mv (fun x z1 z2 => by rw [(p6 x (by omega)).1, (p5 x (by omega)).1]), q5.mv (fun x z1 z2 => by rw [(p6 x (by omega)).1]), q6⟩, q7, fun x hx => ⟨((p6 x (by omega)).1).trans (pr x (by omega)), ((p6 x (by omega)).2).trans (((p5 x (by omega)).2).trans (((p4 x (by omega)).2).trans (((p3 x (by omega)).2).trans (((p2 x (by omega)).2).trans ((p1 x (by omega)).2)))))⟩⟩)
end TA3
