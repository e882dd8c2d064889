/-! the law: calls 9 to 18 -/
section LC1
variable {nm : String} {Z : pvZT} {xs : Nat → Int32} {L i w h n : Nat} {a im : Nat → Int32} {tx : Nat → Nat} {cl : Nat → List pC} {f1 f2 : Int32} {I : pvI} {J : pvJ} {P : pvP}
theorem lw_9 (hL : L ≤ 3074) (hi : i + 6 ≤ L) (hA : lwA xs L w h a im tx n cl f1 f2 I J P) (K : lwN nm Z xs L i w h) : lwB nm Z i 543 I J P := by
  unfold lwB
  obtain ⟨⟨hP, s0, e0⟩, hc, hm, hK⟩ := hA
  have hwh := hc.1.1.wh.2
  have k1 := k_lost (v1 := xs (i + 1)) (v2 := xs (i + 2)) hP hc
  refine g_aload_n dL_law_543 rfl ?_
  refine g_aload_n dL_law_544 rfl ?_
  refine g_iload_n dL_law_545 rfl ?_
  refine g_iconst (v := nI 1) dL_law_546 (by decide) ?_
  refine n_iadd dL_law_547 (by first | (with_reducible exact nI_add _ _) | rfl) ?_
  refine g_sld dL_law_548 (by first | exact s1 | exact s0) (by omega) (rfl) (by omega) (by first | exact e1 _ | exact e0 _) ?_
  refine g_aload_n dL_law_549 rfl ?_
  refine g_iload_n dL_law_550 rfl ?_
  refine g_iconst (v := nI 2) dL_law_551 (by decide) ?_
  refine n_iadd dL_law_552 (by first | (with_reducible exact nI_add _ _) | rfl) ?_
  refine g_sld dL_law_553 (by first | exact s1 | exact s0) (by omega) (rfl) (by omega) (by first | exact e1 _ | exact e0 _) ?_
  refine g_callV (k1) okX11_lost lkL_61 rfl (by first | rfl | exact pv_shx) rfl (by omega) (by omega) dL_law_554 rfl (Nat.le_of_ble_eq_true rfl) (⟨by decide, by decide, by decide, by decide⟩) ?_
  rintro v nx' I1 J1 P1 ⟨rfl, rfl, hP1, p1, hc1, x1⟩
  have s1 : P1 0 0 = some L := by rw [p1]; exact s0
  have e1 : ∀ j, I1 0 j = xs j := fun j => by rw [x1 0 (Or.inl rfl)]; exact e0 j
  have hm1 := hm.mv x1
  have k2 := q_lost (J := J1) (v1 := xs (i + 1)) (v2 := xs (i + 2)) hP1 hK.1 hm1
  refine g_aload_n dL_law_557 rfl ?_
  refine g_aload_n dL_law_558 rfl ?_
  refine g_iload_n dL_law_559 rfl ?_
  refine g_iconst (v := nI 1) dL_law_560 (by decide) ?_
  refine n_iadd dL_law_561 (by first | (with_reducible exact nI_add _ _) | rfl) ?_
  refine g_sld dL_law_562 (by first | exact s1 | exact s0) (by omega) (rfl) (by omega) (by first | exact e1 _ | exact e0 _) ?_
  refine g_aload_n dL_law_563 rfl ?_
  refine g_iload_n dL_law_564 rfl ?_
  refine g_iconst (v := nI 2) dL_law_565 (by decide) ?_
  refine n_iadd dL_law_566 (by first | (with_reducible exact nI_add _ _) | rfl) ?_
  refine g_sld dL_law_567 (by first | exact s1 | exact s0) (by omega) (rfl) (by omega) (by first | exact e1 _ | exact e0 _) ?_
  refine g_callV (k2) okX12_lost lkL_64 rfl (by first | rfl | exact pv_shx) rfl (by omega) (by omega) dL_law_568 rfl (Nat.le_of_ble_eq_true rfl) (⟨by decide, by decide, by decide, by decide⟩) ?_
  rintro v nx' I2 J2 P2 ⟨rfl, rfl, rfl, hm2, x2⟩
  refine n_icmp_eq 1489 dL_law_571 (by decide) (by first | ((with_reducible apply cN_eq) <;> omega) | ((with_reducible apply cI_eqn) <;> omega) | exact Iff.rfl) (fun c571 => ?_) (fun c571 => by exfalso; first | omega | exact absurd trivial c571 | exact c571 | (simp at c571))
  exact K _ _ _ _ _ _ _ _ _ _ ⟨⟨hP1, s1, fun j => by rw [(x2 0 (by decide)).1]; exact e1 j⟩, hc1.mv x2, hm2, hK⟩
theorem lw_10 (hL : L ≤ 3074) (hi : i + 6 ≤ L) (hA : lwA xs L w h a im tx n cl f1 f2 I J P) (K : lwN nm Z xs L i w h) : lwB nm Z i 576 I J P := by
  unfold lwB
  obtain ⟨⟨hP, s0, e0⟩, hc, hm, hK⟩ := hA
  have hwh := hc.1.1.wh.2
  have k1 := k_fed (v1 := xs (i + 1)) (v2 := xs (i + 2)) (v3 := xs (i + 3)) hP hc
  refine g_aload_n dL_law_576 rfl ?_
  refine g_aload_n dL_law_577 rfl ?_
  refine g_iload_n dL_law_578 rfl ?_
  refine g_iconst (v := nI 1) dL_law_579 (by decide) ?_
  refine n_iadd dL_law_580 (by first | (with_reducible exact nI_add _ _) | rfl) ?_
  refine g_sld dL_law_581 (by first | exact s1 | exact s0) (by omega) (rfl) (by omega) (by first | exact e1 _ | exact e0 _) ?_
  refine g_aload_n dL_law_582 rfl ?_
  refine g_iload_n dL_law_583 rfl ?_
  refine g_iconst (v := nI 2) dL_law_584 (by decide) ?_
  refine n_iadd dL_law_585 (by first | (with_reducible exact nI_add _ _) | rfl) ?_
  refine g_sld dL_law_586 (by first | exact s1 | exact s0) (by omega) (rfl) (by omega) (by first | exact e1 _ | exact e0 _) ?_
  refine g_aload_n dL_law_587 rfl ?_
  refine g_iload_n dL_law_588 rfl ?_
  refine g_iconst (v := nI 3) dL_law_589 (by decide) ?_
  refine n_iadd dL_law_590 (by first | (with_reducible exact nI_add _ _) | rfl) ?_
  refine g_sld dL_law_591 (by first | exact s1 | exact s0) (by omega) (rfl) (by omega) (by first | exact e1 _ | exact e0 _) ?_
  refine g_callV (k1) okX11_fed lkL_65 rfl (by first | rfl | exact pv_shx) rfl (by omega) (by omega) dL_law_592 rfl (Nat.le_of_ble_eq_true rfl) (⟨by decide, by decide, by decide, by decide⟩) ?_
  rintro v nx' I1 J1 P1 ⟨rfl, rfl, hP1, p1, hc1, x1⟩
  have s1 : P1 0 0 = some L := by rw [p1]; exact s0
  have e1 : ∀ j, I1 0 j = xs j := fun j => by rw [x1 0 (Or.inl rfl)]; exact e0 j
  have hm1 := hm.mv x1
  have k2 := q_fed (J := J1) (v1 := xs (i + 1)) (v2 := xs (i + 2)) (v3 := xs (i + 3)) hP1 hK.1 hm1
  refine g_aload_n dL_law_595 rfl ?_
  refine g_aload_n dL_law_596 rfl ?_
  refine g_iload_n dL_law_597 rfl ?_
  refine g_iconst (v := nI 1) dL_law_598 (by decide) ?_
  refine n_iadd dL_law_599 (by first | (with_reducible exact nI_add _ _) | rfl) ?_
  refine g_sld dL_law_600 (by first | exact s1 | exact s0) (by omega) (rfl) (by omega) (by first | exact e1 _ | exact e0 _) ?_
  refine g_aload_n dL_law_601 rfl ?_
  refine g_iload_n dL_law_602 rfl ?_
  refine g_iconst (v := nI 2) dL_law_603 (by decide) ?_
  refine n_iadd dL_law_604 (by first | (with_reducible exact nI_add _ _) | rfl) ?_
  refine g_sld dL_law_605 (by first | exact s1 | exact s0) (by omega) (rfl) (by omega) (by first | exact e1 _ | exact e0 _) ?_
  refine g_aload_n dL_law_606 rfl ?_
  refine g_iload_n dL_law_607 rfl ?_
  refine g_iconst (v := nI 3) dL_law_608 (by decide) ?_
  refine n_iadd dL_law_609 (by first | (with_reducible exact nI_add _ _) | rfl) ?_
  refine g_sld dL_law_610 (by first | exact s1 | exact s0) (by omega) (rfl) (by omega) (by first | exact e1 _ | exact e0 _) ?_
  refine g_callV (k2) okX12_fed lkL_69 rfl (by first | rfl | exact pv_shx) rfl (by omega) (by omega) dL_law_611 rfl (Nat.le_of_ble_eq_true rfl) (⟨by decide, by decide, by decide, by decide⟩) ?_
  rintro v nx' I2 J2 P2 ⟨rfl, rfl, rfl, hm2, x2⟩
  refine n_icmp_eq 1489 dL_law_614 (by decide) (by first | ((with_reducible apply cN_eq) <;> omega) | ((with_reducible apply cI_eqn) <;> omega) | exact Iff.rfl) (fun c614 => ?_) (fun c614 => by exfalso; first | omega | exact absurd trivial c614 | exact c614 | (simp at c614))
  exact K _ _ _ _ _ _ _ _ _ _ ⟨⟨hP1, s1, fun j => by rw [(x2 0 (by decide)).1]; exact e1 j⟩, hc1.mv x2, hm2, hK⟩
theorem lw_11 (hL : L ≤ 3074) (hi : i + 6 ≤ L) (hA : lwA xs L w h a im tx n cl f1 f2 I J P) (K : lwN nm Z xs L i w h) : lwB nm Z i 619 I J P := by
  unfold lwB
  obtain ⟨⟨hP, s0, e0⟩, hc, hm, hK⟩ := hA
  have hwh := hc.1.1.wh.2
  have k1 := k_inTime (v1 := xs (i + 1)) (v2 := xs (i + 2)) hP hc
  refine g_aload_n dL_law_619 rfl ?_
  refine g_aload_n dL_law_620 rfl ?_
  refine g_iload_n dL_law_621 rfl ?_
  refine g_iconst (v := nI 1) dL_law_622 (by decide) ?_
  refine n_iadd dL_law_623 (by first | (with_reducible exact nI_add _ _) | rfl) ?_
  refine g_sld dL_law_624 (by first | exact s1 | exact s0) (by omega) (rfl) (by omega) (by first | exact e1 _ | exact e0 _) ?_
  refine g_aload_n dL_law_625 rfl ?_
  refine g_iload_n dL_law_626 rfl ?_
  refine g_iconst (v := nI 2) dL_law_627 (by decide) ?_
  refine n_iadd dL_law_628 (by first | (with_reducible exact nI_add _ _) | rfl) ?_
  refine g_sld dL_law_629 (by first | exact s1 | exact s0) (by omega) (rfl) (by omega) (by first | exact e1 _ | exact e0 _) ?_
  refine g_callV (k1) okX11_inTime lkL_70 rfl (by first | rfl | exact pv_shx) rfl (by omega) (by omega) dL_law_630 rfl (Nat.le_of_ble_eq_true rfl) (⟨by decide, by decide, by decide, by decide⟩) ?_
  rintro v nx' I1 J1 P1 ⟨rfl, rfl, hP1, p1, hc1, x1⟩
  have s1 : P1 0 0 = some L := by rw [p1]; exact s0
  have e1 : ∀ j, I1 0 j = xs j := fun j => by rw [x1 0 (Or.inl rfl)]; exact e0 j
  have hm1 := hm.mv x1
  have k2 := q_inTime (J := J1) (v1 := xs (i + 1)) (v2 := xs (i + 2)) hP1 hK.1 hm1
  refine g_aload_n dL_law_633 rfl ?_
  refine g_aload_n dL_law_634 rfl ?_
  refine g_iload_n dL_law_635 rfl ?_
  refine g_iconst (v := nI 1) dL_law_636 (by decide) ?_
  refine n_iadd dL_law_637 (by first | (with_reducible exact nI_add _ _) | rfl) ?_
  refine g_sld dL_law_638 (by first | exact s1 | exact s0) (by omega) (rfl) (by omega) (by first | exact e1 _ | exact e0 _) ?_
  refine g_aload_n dL_law_639 rfl ?_
  refine g_iload_n dL_law_640 rfl ?_
  refine g_iconst (v := nI 2) dL_law_641 (by decide) ?_
  refine n_iadd dL_law_642 (by first | (with_reducible exact nI_add _ _) | rfl) ?_
  refine g_sld dL_law_643 (by first | exact s1 | exact s0) (by omega) (rfl) (by omega) (by first | exact e1 _ | exact e0 _) ?_
  refine g_callV (k2) okX12_inTime lkL_73 rfl (by first | rfl | exact pv_shx) rfl (by omega) (by omega) dL_law_644 rfl (Nat.le_of_ble_eq_true rfl) (⟨by decide, by decide, by decide, by decide⟩) ?_
  rintro v nx' I2 J2 P2 ⟨rfl, rfl, rfl, hm2, x2⟩
  refine n_icmp_eq 1489 dL_law_647 (by decide) (by first | ((with_reducible apply cN_eq) <;> omega) | ((with_reducible apply cI_eqn) <;> omega) | exact Iff.rfl) (fun c647 => ?_) (fun c647 => by exfalso; first | omega | exact absurd trivial c647 | exact c647 | (simp at c647))
  exact K _ _ _ _ _ _ _ _ _ _ ⟨⟨hP1, s1, fun j => by rw [(x2 0 (by decide)).1]; exact e1 j⟩, hc1.mv x2, hm2, hK⟩
theorem lw_12 (hL : L ≤ 3074) (hi : i + 6 ≤ L) (hA : lwA xs L w h a im tx n cl f1 f2 I J P) (K : lwN nm Z xs L i w h) : lwB nm Z i 652 I J P := by
  unfold lwB
  obtain ⟨⟨hP, s0, e0⟩, hc, hm, hK⟩ := hA
  have hwh := hc.1.1.wh.2
  by_cases hb : xs (i + 3) = 0
  · skip
    have k1 := k_read (v1 := xs (i + 1)) (v2 := xs (i + 2)) (v3 := nI 0) hP hc
    refine g_aload_n dL_law_652 rfl ?_
    refine g_aload_n dL_law_653 rfl ?_
    refine g_iload_n dL_law_654 rfl ?_
    refine g_iconst (v := nI 1) dL_law_655 (by decide) ?_
    refine n_iadd dL_law_656 (by first | (with_reducible exact nI_add _ _) | rfl) ?_
    refine g_sld dL_law_657 (by first | exact s1 | exact s0) (by omega) (rfl) (by omega) (by first | exact e1 _ | exact e0 _) ?_
    refine g_aload_n dL_law_658 rfl ?_
    refine g_iload_n dL_law_659 rfl ?_
    refine g_iconst (v := nI 2) dL_law_660 (by decide) ?_
    refine n_iadd dL_law_661 (by first | (with_reducible exact nI_add _ _) | rfl) ?_
    refine g_sld dL_law_662 (by first | exact s1 | exact s0) (by omega) (rfl) (by omega) (by first | exact e1 _ | exact e0 _) ?_
    refine g_aload_n dL_law_663 rfl ?_
    refine g_iload_n dL_law_664 rfl ?_
    refine g_iconst (v := nI 3) dL_law_665 (by decide) ?_
    refine n_iadd dL_law_666 (by first | (with_reducible exact nI_add _ _) | rfl) ?_
    refine g_sld dL_law_667 (by first | exact s1 | exact s0) (by omega) (rfl) (by omega) (by first | exact e1 _ | exact e0 _) ?_
    refine n_if_eq 675 dL_law_668 (by decide) (by first | (with_reducible exact cB _) | ((with_reducible apply cN_eq0) <;> omega) | exact Iff.rfl) (fun c668 => ?_) (fun c668 => by exfalso; exact c668 hb)
    refine g_iconst (v := nI 0) dL_law_675 (by decide) ?_
    refine g_callV (k1) okX11_read lkL_74 rfl (by first | rfl | exact pv_shx) rfl (by omega) (by omega) dL_law_676 rfl (Nat.le_of_ble_eq_true rfl) (⟨by decide, by decide, by decide, by decide⟩) ?_
    rintro v nx' I1 J1 P1 ⟨rfl, rfl, hP1, p1, hc1, x1⟩
    have s1 : P1 0 0 = some L := by rw [p1]; exact s0
    have e1 : ∀ j, I1 0 j = xs j := fun j => by rw [x1 0 (Or.inl rfl)]; exact e0 j
    have hm1 := hm.mv x1
    have k2 := q_read (J := J1) (v1 := xs (i + 1)) (v2 := xs (i + 2)) (v3 := nI 0) hP1 hK.1 hm1
    refine g_aload_n dL_law_679 rfl ?_
    refine g_aload_n dL_law_680 rfl ?_
    refine g_iload_n dL_law_681 rfl ?_
    refine g_iconst (v := nI 1) dL_law_682 (by decide) ?_
    refine n_iadd dL_law_683 (by first | (with_reducible exact nI_add _ _) | rfl) ?_
    refine g_sld dL_law_684 (by first | exact s1 | exact s0) (by omega) (rfl) (by omega) (by first | exact e1 _ | exact e0 _) ?_
    refine g_aload_n dL_law_685 rfl ?_
    refine g_iload_n dL_law_686 rfl ?_
    refine g_iconst (v := nI 2) dL_law_687 (by decide) ?_
    refine n_iadd dL_law_688 (by first | (with_reducible exact nI_add _ _) | rfl) ?_
    refine g_sld dL_law_689 (by first | exact s1 | exact s0) (by omega) (rfl) (by omega) (by first | exact e1 _ | exact e0 _) ?_
    refine g_aload_n dL_law_690 rfl ?_
    refine g_iload_n dL_law_691 rfl ?_
    refine g_iconst (v := nI 3) dL_law_692 (by decide) ?_
    refine n_iadd dL_law_693 (by first | (with_reducible exact nI_add _ _) | rfl) ?_
    refine g_sld dL_law_694 (by first | exact s1 | exact s0) (by omega) (rfl) (by omega) (by first | exact e1 _ | exact e0 _) ?_
    refine n_if_eq 702 dL_law_695 (by decide) (by first | (with_reducible exact cB _) | ((with_reducible apply cN_eq0) <;> omega) | exact Iff.rfl) (fun c695 => ?_) (fun c695 => by exfalso; exact c695 hb)
    refine g_iconst (v := nI 0) dL_law_702 (by decide) ?_
    refine g_callV (k2) okX12_read lkL_78 rfl (by first | rfl | exact pv_shx) rfl (by omega) (by omega) dL_law_703 rfl (Nat.le_of_ble_eq_true rfl) (⟨by decide, by decide, by decide, by decide⟩) ?_
    rintro v nx' I2 J2 P2 ⟨rfl, rfl, rfl, hm2, x2⟩
    refine n_icmp_eq 1489 dL_law_706 (by decide) (by first | ((with_reducible apply cN_eq) <;> omega) | ((with_reducible apply cI_eqn) <;> omega) | exact Iff.rfl) (fun c706 => ?_) (fun c706 => by exfalso; first | omega | exact absurd trivial c706 | exact c706 | (simp at c706))
    exact K _ _ _ _ _ _ _ _ _ _ ⟨⟨hP1, s1, fun j => by rw [(x2 0 (by decide)).1]; exact e1 j⟩, hc1.mv x2, hm2, hK.mt hc1.1.2.2.2.2 h8_read⟩
  · skip
    have k1 := k_read (v1 := xs (i + 1)) (v2 := xs (i + 2)) (v3 := nI 1) hP hc
    refine g_aload_n dL_law_652 rfl ?_
    refine g_aload_n dL_law_653 rfl ?_
    refine g_iload_n dL_law_654 rfl ?_
    refine g_iconst (v := nI 1) dL_law_655 (by decide) ?_
    refine n_iadd dL_law_656 (by first | (with_reducible exact nI_add _ _) | rfl) ?_
    refine g_sld dL_law_657 (by first | exact s1 | exact s0) (by omega) (rfl) (by omega) (by first | exact e1 _ | exact e0 _) ?_
    refine g_aload_n dL_law_658 rfl ?_
    refine g_iload_n dL_law_659 rfl ?_
    refine g_iconst (v := nI 2) dL_law_660 (by decide) ?_
    refine n_iadd dL_law_661 (by first | (with_reducible exact nI_add _ _) | rfl) ?_
    refine g_sld dL_law_662 (by first | exact s1 | exact s0) (by omega) (rfl) (by omega) (by first | exact e1 _ | exact e0 _) ?_
    refine g_aload_n dL_law_663 rfl ?_
    refine g_iload_n dL_law_664 rfl ?_
    refine g_iconst (v := nI 3) dL_law_665 (by decide) ?_
    refine n_iadd dL_law_666 (by first | (with_reducible exact nI_add _ _) | rfl) ?_
    refine g_sld dL_law_667 (by first | exact s1 | exact s0) (by omega) (rfl) (by omega) (by first | exact e1 _ | exact e0 _) ?_
    refine n_if_eq 675 dL_law_668 (by decide) (by first | (with_reducible exact cB _) | ((with_reducible apply cN_eq0) <;> omega) | exact Iff.rfl) (fun c668 => by exfalso; exact hb c668) (fun c668 => ?_)
    refine g_iconst (v := nI 1) dL_law_671 (by decide) ?_
    refine g_goto 676 dL_law_672 (by decide) ?_
    refine g_callV (k1) okX11_read lkL_74 rfl (by first | rfl | exact pv_shx) rfl (by omega) (by omega) dL_law_676 rfl (Nat.le_of_ble_eq_true rfl) (⟨by decide, by decide, by decide, by decide⟩) ?_
    rintro v nx' I1 J1 P1 ⟨rfl, rfl, hP1, p1, hc1, x1⟩
    have s1 : P1 0 0 = some L := by rw [p1]; exact s0
    have e1 : ∀ j, I1 0 j = xs j := fun j => by rw [x1 0 (Or.inl rfl)]; exact e0 j
    have hm1 := hm.mv x1
    have k2 := q_read (J := J1) (v1 := xs (i + 1)) (v2 := xs (i + 2)) (v3 := nI 1) hP1 hK.1 hm1
    refine g_aload_n dL_law_679 rfl ?_
    refine g_aload_n dL_law_680 rfl ?_
    refine g_iload_n dL_law_681 rfl ?_
    refine g_iconst (v := nI 1) dL_law_682 (by decide) ?_
    refine n_iadd dL_law_683 (by first | (with_reducible exact nI_add _ _) | rfl) ?_
    refine g_sld dL_law_684 (by first | exact s1 | exact s0) (by omega) (rfl) (by omega) (by first | exact e1 _ | exact e0 _) ?_
    refine g_aload_n dL_law_685 rfl ?_
    refine g_iload_n dL_law_686 rfl ?_
    refine g_iconst (v := nI 2) dL_law_687 (by decide) ?_
    refine n_iadd dL_law_688 (by first | (with_reducible exact nI_add _ _) | rfl) ?_
    refine g_sld dL_law_689 (by first | exact s1 | exact s0) (by omega) (rfl) (by omega) (by first | exact e1 _ | exact e0 _) ?_
    refine g_aload_n dL_law_690 rfl ?_
    refine g_iload_n dL_law_691 rfl ?_
    refine g_iconst (v := nI 3) dL_law_692 (by decide) ?_
    refine n_iadd dL_law_693 (by first | (with_reducible exact nI_add _ _) | rfl) ?_
    refine g_sld dL_law_694 (by first | exact s1 | exact s0) (by omega) (rfl) (by omega) (by first | exact e1 _ | exact e0 _) ?_
    refine n_if_eq 702 dL_law_695 (by decide) (by first | (with_reducible exact cB _) | ((with_reducible apply cN_eq0) <;> omega) | exact Iff.rfl) (fun c695 => by exfalso; exact hb c695) (fun c695 => ?_)
    refine g_iconst (v := nI 1) dL_law_698 (by decide) ?_
    refine g_goto 703 dL_law_699 (by decide) ?_
    refine g_callV (k2) okX12_read lkL_78 rfl (by first | rfl | exact pv_shx) rfl (by omega) (by omega) dL_law_703 rfl (Nat.le_of_ble_eq_true rfl) (⟨by decide, by decide, by decide, by decide⟩) ?_
    rintro v nx' I2 J2 P2 ⟨rfl, rfl, rfl, hm2, x2⟩
    refine n_icmp_eq 1489 dL_law_706 (by decide) (by first | ((with_reducible apply cN_eq) <;> omega) | ((with_reducible apply cI_eqn) <;> omega) | exact Iff.rfl) (fun c706 => ?_) (fun c706 => by exfalso; first | omega | exact absurd trivial c706 | exact c706 | (simp at c706))
    exact K _ _ _ _ _ _ _ _ _ _ ⟨⟨hP1, s1, fun j => by rw [(x2 0 (by decide)).1]; exact e1 j⟩, hc1.mv x2, hm2, hK.mt hc1.1.2.2.2.2 h8_read⟩
theorem lw_13 (hL : L ≤ 3074) (hi : i + 6 ≤ L) (hA : lwA xs L w h a im tx n cl f1 f2 I J P) (K : lwN nm Z xs L i w h) : lwB nm Z i 711 I J P := by
  unfold lwB
  obtain ⟨⟨hP, s0, e0⟩, hc, hm, hK⟩ := hA
  have hwh := hc.1.1.wh.2
  have k1 := k_let (v1 := xs (i + 1)) (v2 := xs (i + 2)) hP hc
  refine g_aload_n dL_law_711 rfl ?_
  refine g_aload_n dL_law_712 rfl ?_
  refine g_iload_n dL_law_713 rfl ?_
  refine g_iconst (v := nI 1) dL_law_714 (by decide) ?_
  refine n_iadd dL_law_715 (by first | (with_reducible exact nI_add _ _) | rfl) ?_
  refine g_sld dL_law_716 (by first | exact s1 | exact s0) (by omega) (rfl) (by omega) (by first | exact e1 _ | exact e0 _) ?_
  refine g_aload_n dL_law_717 rfl ?_
  refine g_iload_n dL_law_718 rfl ?_
  refine g_iconst (v := nI 2) dL_law_719 (by decide) ?_
  refine n_iadd dL_law_720 (by first | (with_reducible exact nI_add _ _) | rfl) ?_
  refine g_sld dL_law_721 (by first | exact s1 | exact s0) (by omega) (rfl) (by omega) (by first | exact e1 _ | exact e0 _) ?_
  refine g_callV (k1) okX11_let lkL_79 rfl (by first | rfl | exact pv_shx) rfl (by omega) (by omega) dL_law_722 rfl (Nat.le_of_ble_eq_true rfl) (⟨by decide, by decide, by decide, by decide⟩) ?_
  rintro v nx' I1 J1 P1 ⟨rfl, rfl, hP1, p1, hc1, x1⟩
  have s1 : P1 0 0 = some L := by rw [p1]; exact s0
  have e1 : ∀ j, I1 0 j = xs j := fun j => by rw [x1 0 (Or.inl rfl)]; exact e0 j
  have hm1 := hm.mv x1
  have k2 := q_let (J := J1) (v1 := xs (i + 1)) (v2 := xs (i + 2)) hP1 hK.1 hm1
  refine g_aload_n dL_law_725 rfl ?_
  refine g_aload_n dL_law_726 rfl ?_
  refine g_iload_n dL_law_727 rfl ?_
  refine g_iconst (v := nI 1) dL_law_728 (by decide) ?_
  refine n_iadd dL_law_729 (by first | (with_reducible exact nI_add _ _) | rfl) ?_
  refine g_sld dL_law_730 (by first | exact s1 | exact s0) (by omega) (rfl) (by omega) (by first | exact e1 _ | exact e0 _) ?_
  refine g_aload_n dL_law_731 rfl ?_
  refine g_iload_n dL_law_732 rfl ?_
  refine g_iconst (v := nI 2) dL_law_733 (by decide) ?_
  refine n_iadd dL_law_734 (by first | (with_reducible exact nI_add _ _) | rfl) ?_
  refine g_sld dL_law_735 (by first | exact s1 | exact s0) (by omega) (rfl) (by omega) (by first | exact e1 _ | exact e0 _) ?_
  refine g_callV (k2) okX12_let lkL_82 rfl (by first | rfl | exact pv_shx) rfl (by omega) (by omega) dL_law_736 rfl (Nat.le_of_ble_eq_true rfl) (⟨by decide, by decide, by decide, by decide⟩) ?_
  rintro v nx' I2 J2 P2 ⟨rfl, rfl, rfl, hm2, x2⟩
  refine n_icmp_eq 1489 dL_law_739 (by decide) (by first | ((with_reducible apply cN_eq) <;> omega) | ((with_reducible apply cI_eqn) <;> omega) | exact Iff.rfl) (fun c739 => ?_) (fun c739 => by exfalso; first | omega | exact absurd trivial c739 | exact c739 | (simp at c739))
  exact K _ _ _ _ _ _ _ _ _ _ ⟨⟨hP1, s1, fun j => by rw [(x2 0 (by decide)).1]; exact e1 j⟩, hc1.mv x2, hm2, hK⟩
theorem lw_14 (hL : L ≤ 3074) (hi : i + 6 ≤ L) (hA : lwA xs L w h a im tx n cl f1 f2 I J P) (K : lwN nm Z xs L i w h) : lwB nm Z i 744 I J P := by
  unfold lwB
  obtain ⟨⟨hP, s0, e0⟩, hc, hm, hK⟩ := hA
  have hwh := hc.1.1.wh.2
  have k1 := k_span (v1 := xs (i + 1)) (v2 := xs (i + 2)) (v3 := xs (i + 3)) hP hc
  refine g_aload_n dL_law_744 rfl ?_
  refine g_aload_n dL_law_745 rfl ?_
  refine g_iload_n dL_law_746 rfl ?_
  refine g_iconst (v := nI 1) dL_law_747 (by decide) ?_
  refine n_iadd dL_law_748 (by first | (with_reducible exact nI_add _ _) | rfl) ?_
  refine g_sld dL_law_749 (by first | exact s1 | exact s0) (by omega) (rfl) (by omega) (by first | exact e1 _ | exact e0 _) ?_
  refine g_aload_n dL_law_750 rfl ?_
  refine g_iload_n dL_law_751 rfl ?_
  refine g_iconst (v := nI 2) dL_law_752 (by decide) ?_
  refine n_iadd dL_law_753 (by first | (with_reducible exact nI_add _ _) | rfl) ?_
  refine g_sld dL_law_754 (by first | exact s1 | exact s0) (by omega) (rfl) (by omega) (by first | exact e1 _ | exact e0 _) ?_
  refine g_aload_n dL_law_755 rfl ?_
  refine g_iload_n dL_law_756 rfl ?_
  refine g_iconst (v := nI 3) dL_law_757 (by decide) ?_
  refine n_iadd dL_law_758 (by first | (with_reducible exact nI_add _ _) | rfl) ?_
  refine g_sld dL_law_759 (by first | exact s1 | exact s0) (by omega) (rfl) (by omega) (by first | exact e1 _ | exact e0 _) ?_
  refine g_callV (k1) okX11_span lkL_83 rfl (by first | rfl | exact pv_shx) rfl (by omega) (by omega) dL_law_760 rfl (Nat.le_of_ble_eq_true rfl) (⟨by decide, by decide, by decide, by decide⟩) ?_
  rintro v nx' I1 J1 P1 ⟨rfl, rfl, hP1, p1, hc1, x1⟩
  have s1 : P1 0 0 = some L := by rw [p1]; exact s0
  have e1 : ∀ j, I1 0 j = xs j := fun j => by rw [x1 0 (Or.inl rfl)]; exact e0 j
  have hm1 := hm.mv x1
  have k2 := q_span (J := J1) (v1 := xs (i + 1)) (v2 := xs (i + 2)) (v3 := xs (i + 3)) hP1 hK.1 hm1
  refine g_aload_n dL_law_763 rfl ?_
  refine g_aload_n dL_law_764 rfl ?_
  refine g_iload_n dL_law_765 rfl ?_
  refine g_iconst (v := nI 1) dL_law_766 (by decide) ?_
  refine n_iadd dL_law_767 (by first | (with_reducible exact nI_add _ _) | rfl) ?_
  refine g_sld dL_law_768 (by first | exact s1 | exact s0) (by omega) (rfl) (by omega) (by first | exact e1 _ | exact e0 _) ?_
  refine g_aload_n dL_law_769 rfl ?_
  refine g_iload_n dL_law_770 rfl ?_
  refine g_iconst (v := nI 2) dL_law_771 (by decide) ?_
  refine n_iadd dL_law_772 (by first | (with_reducible exact nI_add _ _) | rfl) ?_
  refine g_sld dL_law_773 (by first | exact s1 | exact s0) (by omega) (rfl) (by omega) (by first | exact e1 _ | exact e0 _) ?_
  refine g_aload_n dL_law_774 rfl ?_
  refine g_iload_n dL_law_775 rfl ?_
  refine g_iconst (v := nI 3) dL_law_776 (by decide) ?_
  refine n_iadd dL_law_777 (by first | (with_reducible exact nI_add _ _) | rfl) ?_
  refine g_sld dL_law_778 (by first | exact s1 | exact s0) (by omega) (rfl) (by omega) (by first | exact e1 _ | exact e0 _) ?_
  refine g_callV (k2) okX12_span lkL_86 rfl (by first | rfl | exact pv_shx) rfl (by omega) (by omega) dL_law_779 rfl (Nat.le_of_ble_eq_true rfl) (⟨by decide, by decide, by decide, by decide⟩) ?_
  rintro v nx' I2 J2 P2 ⟨rfl, rfl, rfl, hm2, x2⟩
  refine n_icmp_eq 1489 dL_law_782 (by decide) (by first | ((with_reducible apply cN_eq) <;> omega) | ((with_reducible apply cI_eqn) <;> omega) | exact Iff.rfl) (fun c782 => ?_) (fun c782 => by exfalso; first | omega | exact absurd trivial c782 | exact c782 | (simp at c782))
  exact K _ _ _ _ _ _ _ _ _ _ ⟨⟨hP1, s1, fun j => by rw [(x2 0 (by decide)).1]; exact e1 j⟩, hc1.mv x2, hm2, hK⟩
theorem lw_15 (hL : L ≤ 3074) (hi : i + 6 ≤ L) (hA : lwA xs L w h a im tx n cl f1 f2 I J P) (K : lwN nm Z xs L i w h) : lwB nm Z i 787 I J P := by
  unfold lwB
  obtain ⟨⟨hP, s0, e0⟩, hc, hm, hK⟩ := hA
  have hwh := hc.1.1.wh.2
  have k1 := k_parts (v1 := xs (i + 1)) hP hc
  refine g_aload_n dL_law_787 rfl ?_
  refine g_aload_n dL_law_788 rfl ?_
  refine g_iload_n dL_law_789 rfl ?_
  refine g_iconst (v := nI 1) dL_law_790 (by decide) ?_
  refine n_iadd dL_law_791 (by first | (with_reducible exact nI_add _ _) | rfl) ?_
  refine g_sld dL_law_792 (by first | exact s1 | exact s0) (by omega) (rfl) (by omega) (by first | exact e1 _ | exact e0 _) ?_
  refine g_callV (k1) okX11_parts lkL_87 rfl (by first | rfl | exact pv_shx) rfl (by omega) (by omega) dL_law_793 rfl (Nat.le_of_ble_eq_true rfl) (⟨by decide, by decide, by decide, by decide⟩) ?_
  rintro v nx' I1 J1 P1 ⟨rfl, rfl, hP1, p1, hc1, x1⟩
  have s1 : P1 0 0 = some L := by rw [p1]; exact s0
  have e1 : ∀ j, I1 0 j = xs j := fun j => by rw [x1 0 (Or.inl rfl)]; exact e0 j
  have hm1 := hm.mv x1
  have k2 := q_parts (J := J1) (v1 := xs (i + 1)) hP1 hK.1 hm1
  refine g_aload_n dL_law_796 rfl ?_
  refine g_aload_n dL_law_797 rfl ?_
  refine g_iload_n dL_law_798 rfl ?_
  refine g_iconst (v := nI 1) dL_law_799 (by decide) ?_
  refine n_iadd dL_law_800 (by first | (with_reducible exact nI_add _ _) | rfl) ?_
  refine g_sld dL_law_801 (by first | exact s1 | exact s0) (by omega) (rfl) (by omega) (by first | exact e1 _ | exact e0 _) ?_
  refine g_callV (k2) okX12_parts lkL_90 rfl (by first | rfl | exact pv_shx) rfl (by omega) (by omega) dL_law_802 rfl (Nat.le_of_ble_eq_true rfl) (⟨by decide, by decide, by decide, by decide⟩) ?_
  rintro v nx' I2 J2 P2 ⟨rfl, rfl, rfl, hm2, x2⟩
  refine n_icmp_eq 1489 dL_law_805 (by decide) (by first | ((with_reducible apply cN_eq) <;> omega) | ((with_reducible apply cI_eqn) <;> omega) | exact Iff.rfl) (fun c805 => ?_) (fun c805 => by exfalso; first | omega | exact absurd trivial c805 | exact c805 | (simp at c805))
  exact K _ _ _ _ _ _ _ _ _ _ ⟨⟨hP1, s1, fun j => by rw [(x2 0 (by decide)).1]; exact e1 j⟩, hc1.mv x2, hm2, hK⟩
theorem lw_16 (hL : L ≤ 3074) (hi : i + 6 ≤ L) (hA : lwA xs L w h a im tx n cl f1 f2 I J P) (K : lwN nm Z xs L i w h) : lwB nm Z i 810 I J P := by
  unfold lwB
  obtain ⟨⟨hP, s0, e0⟩, hc, hm, hK⟩ := hA
  have hwh := hc.1.1.wh.2
  have k1 := k_house (v1 := xs (i + 1)) (v2 := xs (i + 2)) (v3 := xs (i + 3)) hP hc
  refine g_aload_n dL_law_810 rfl ?_
  refine g_aload_n dL_law_811 rfl ?_
  refine g_iload_n dL_law_812 rfl ?_
  refine g_iconst (v := nI 1) dL_law_813 (by decide) ?_
  refine n_iadd dL_law_814 (by first | (with_reducible exact nI_add _ _) | rfl) ?_
  refine g_sld dL_law_815 (by first | exact s1 | exact s0) (by omega) (rfl) (by omega) (by first | exact e1 _ | exact e0 _) ?_
  refine g_aload_n dL_law_816 rfl ?_
  refine g_iload_n dL_law_817 rfl ?_
  refine g_iconst (v := nI 2) dL_law_818 (by decide) ?_
  refine n_iadd dL_law_819 (by first | (with_reducible exact nI_add _ _) | rfl) ?_
  refine g_sld dL_law_820 (by first | exact s1 | exact s0) (by omega) (rfl) (by omega) (by first | exact e1 _ | exact e0 _) ?_
  refine g_aload_n dL_law_821 rfl ?_
  refine g_iload_n dL_law_822 rfl ?_
  refine g_iconst (v := nI 3) dL_law_823 (by decide) ?_
  refine n_iadd dL_law_824 (by first | (with_reducible exact nI_add _ _) | rfl) ?_
  refine g_sld dL_law_825 (by first | exact s1 | exact s0) (by omega) (rfl) (by omega) (by first | exact e1 _ | exact e0 _) ?_
  refine g_callV (k1) okX11_house lkL_91 rfl (by first | rfl | exact pv_shx) rfl (by omega) (by omega) dL_law_826 rfl (Nat.le_of_ble_eq_true rfl) (⟨by decide, by decide, by decide, by decide⟩) ?_
  rintro v nx' I1 J1 P1 ⟨rfl, rfl, hP1, p1, hc1, x1⟩
  have s1 : P1 0 0 = some L := by rw [p1]; exact s0
  have e1 : ∀ j, I1 0 j = xs j := fun j => by rw [x1 0 (Or.inl rfl)]; exact e0 j
  have hm1 := hm.mv x1
  have k2 := q_house (J := J1) (v1 := xs (i + 1)) (v2 := xs (i + 2)) (v3 := xs (i + 3)) hP1 hK.1 hm1
  refine g_aload_n dL_law_829 rfl ?_
  refine g_aload_n dL_law_830 rfl ?_
  refine g_iload_n dL_law_831 rfl ?_
  refine g_iconst (v := nI 1) dL_law_832 (by decide) ?_
  refine n_iadd dL_law_833 (by first | (with_reducible exact nI_add _ _) | rfl) ?_
  refine g_sld dL_law_834 (by first | exact s1 | exact s0) (by omega) (rfl) (by omega) (by first | exact e1 _ | exact e0 _) ?_
  refine g_aload_n dL_law_835 rfl ?_
  refine g_iload_n dL_law_836 rfl ?_
  refine g_iconst (v := nI 2) dL_law_837 (by decide) ?_
  refine n_iadd dL_law_838 (by first | (with_reducible exact nI_add _ _) | rfl) ?_
  refine g_sld dL_law_839 (by first | exact s1 | exact s0) (by omega) (rfl) (by omega) (by first | exact e1 _ | exact e0 _) ?_
  refine g_aload_n dL_law_840 rfl ?_
  refine g_iload_n dL_law_841 rfl ?_
  refine g_iconst (v := nI 3) dL_law_842 (by decide) ?_
  refine n_iadd dL_law_843 (by first | (with_reducible exact nI_add _ _) | rfl) ?_
  refine g_sld dL_law_844 (by first | exact s1 | exact s0) (by omega) (rfl) (by omega) (by first | exact e1 _ | exact e0 _) ?_
  refine g_callV (k2) okX12_house lkL_94 rfl (by first | rfl | exact pv_shx) rfl (by omega) (by omega) dL_law_845 rfl (Nat.le_of_ble_eq_true rfl) (⟨by decide, by decide, by decide, by decide⟩) ?_
  rintro v nx' I2 J2 P2 ⟨rfl, rfl, rfl, hm2, x2⟩
  refine n_icmp_eq 1489 dL_law_848 (by decide) (by first | ((with_reducible apply cN_eq) <;> omega) | ((with_reducible apply cI_eqn) <;> omega) | exact Iff.rfl) (fun c848 => ?_) (fun c848 => by exfalso; first | omega | exact absurd trivial c848 | exact c848 | (simp at c848))
  exact K _ _ _ _ _ _ _ _ _ _ ⟨⟨hP1, s1, fun j => by rw [(x2 0 (by decide)).1]; exact e1 j⟩, hc1.mv x2, hm2, hK.mt hc1.1.2.2.2.2 h8_house⟩
theorem lw_17 (hL : L ≤ 3074) (hi : i + 6 ≤ L) (hA : lwA xs L w h a im tx n cl f1 f2 I J P) (K : lwN nm Z xs L i w h) : lwB nm Z i 853 I J P := by
  unfold lwB
  obtain ⟨⟨hP, s0, e0⟩, hc, hm, hK⟩ := hA
  have hwh := hc.1.1.wh.2
  by_cases hb : xs (i + 3) = 0
  · skip
    have k1 := k_gas (v1 := xs (i + 1)) (v2 := xs (i + 2)) (v3 := nI 0) hP hc
    refine g_aload_n dL_law_853 rfl ?_
    refine g_aload_n dL_law_854 rfl ?_
    refine g_iload_n dL_law_855 rfl ?_
    refine g_iconst (v := nI 1) dL_law_856 (by decide) ?_
    refine n_iadd dL_law_857 (by first | (with_reducible exact nI_add _ _) | rfl) ?_
    refine g_sld dL_law_858 (by first | exact s1 | exact s0) (by omega) (rfl) (by omega) (by first | exact e1 _ | exact e0 _) ?_
    refine g_aload_n dL_law_859 rfl ?_
    refine g_iload_n dL_law_860 rfl ?_
    refine g_iconst (v := nI 2) dL_law_861 (by decide) ?_
    refine n_iadd dL_law_862 (by first | (with_reducible exact nI_add _ _) | rfl) ?_
    refine g_sld dL_law_863 (by first | exact s1 | exact s0) (by omega) (rfl) (by omega) (by first | exact e1 _ | exact e0 _) ?_
    refine g_aload_n dL_law_864 rfl ?_
    refine g_iload_n dL_law_865 rfl ?_
    refine g_iconst (v := nI 3) dL_law_866 (by decide) ?_
    refine n_iadd dL_law_867 (by first | (with_reducible exact nI_add _ _) | rfl) ?_
    refine g_sld dL_law_868 (by first | exact s1 | exact s0) (by omega) (rfl) (by omega) (by first | exact e1 _ | exact e0 _) ?_
    refine n_if_eq 876 dL_law_869 (by decide) (by first | (with_reducible exact cB _) | ((with_reducible apply cN_eq0) <;> omega) | exact Iff.rfl) (fun c869 => ?_) (fun c869 => by exfalso; exact c869 hb)
    refine g_iconst (v := nI 0) dL_law_876 (by decide) ?_
    refine g_callV (k1) okX11_gas lkL_95 rfl (by first | rfl | exact pv_shx) rfl (by omega) (by omega) dL_law_877 rfl (Nat.le_of_ble_eq_true rfl) (⟨by decide, by decide, by decide, by decide⟩) ?_
    rintro v nx' I1 J1 P1 ⟨rfl, rfl, hP1, p1, hc1, x1⟩
    have s1 : P1 0 0 = some L := by rw [p1]; exact s0
    have e1 : ∀ j, I1 0 j = xs j := fun j => by rw [x1 0 (Or.inl rfl)]; exact e0 j
    have hm1 := hm.mv x1
    have k2 := q_gas (J := J1) (v1 := xs (i + 1)) (v2 := xs (i + 2)) (v3 := nI 0) hP1 hK.1 hm1
    refine g_aload_n dL_law_880 rfl ?_
    refine g_aload_n dL_law_881 rfl ?_
    refine g_iload_n dL_law_882 rfl ?_
    refine g_iconst (v := nI 1) dL_law_883 (by decide) ?_
    refine n_iadd dL_law_884 (by first | (with_reducible exact nI_add _ _) | rfl) ?_
    refine g_sld dL_law_885 (by first | exact s1 | exact s0) (by omega) (rfl) (by omega) (by first | exact e1 _ | exact e0 _) ?_
    refine g_aload_n dL_law_886 rfl ?_
    refine g_iload_n dL_law_887 rfl ?_
    refine g_iconst (v := nI 2) dL_law_888 (by decide) ?_
    refine n_iadd dL_law_889 (by first | (with_reducible exact nI_add _ _) | rfl) ?_
    refine g_sld dL_law_890 (by first | exact s1 | exact s0) (by omega) (rfl) (by omega) (by first | exact e1 _ | exact e0 _) ?_
    refine g_aload_n dL_law_891 rfl ?_
    refine g_iload_n dL_law_892 rfl ?_
    refine g_iconst (v := nI 3) dL_law_893 (by decide) ?_
    refine n_iadd dL_law_894 (by first | (with_reducible exact nI_add _ _) | rfl) ?_
    refine g_sld dL_law_895 (by first | exact s1 | exact s0) (by omega) (rfl) (by omega) (by first | exact e1 _ | exact e0 _) ?_
    refine n_if_eq 903 dL_law_896 (by decide) (by first | (with_reducible exact cB _) | ((with_reducible apply cN_eq0) <;> omega) | exact Iff.rfl) (fun c896 => ?_) (fun c896 => by exfalso; exact c896 hb)
    refine g_iconst (v := nI 0) dL_law_903 (by decide) ?_
    refine g_callV (k2) okX12_gas lkL_98 rfl (by first | rfl | exact pv_shx) rfl (by omega) (by omega) dL_law_904 rfl (Nat.le_of_ble_eq_true rfl) (⟨by decide, by decide, by decide, by decide⟩) ?_
    rintro v nx' I2 J2 P2 ⟨rfl, rfl, rfl, hm2, x2⟩
    refine n_icmp_eq 1489 dL_law_907 (by decide) (by first | ((with_reducible apply cN_eq) <;> omega) | ((with_reducible apply cI_eqn) <;> omega) | exact Iff.rfl) (fun c907 => ?_) (fun c907 => by exfalso; first | omega | exact absurd trivial c907 | exact c907 | (simp at c907))
    exact K _ _ _ _ _ _ _ _ _ _ ⟨⟨hP1, s1, fun j => by rw [(x2 0 (by decide)).1]; exact e1 j⟩, hc1.mv x2, hm2, hK⟩
  · skip
    have k1 := k_gas (v1 := xs (i + 1)) (v2 := xs (i + 2)) (v3 := nI 1) hP hc
    refine g_aload_n dL_law_853 rfl ?_
    refine g_aload_n dL_law_854 rfl ?_
    refine g_iload_n dL_law_855 rfl ?_
    refine g_iconst (v := nI 1) dL_law_856 (by decide) ?_
    refine n_iadd dL_law_857 (by first | (with_reducible exact nI_add _ _) | rfl) ?_
    refine g_sld dL_law_858 (by first | exact s1 | exact s0) (by omega) (rfl) (by omega) (by first | exact e1 _ | exact e0 _) ?_
    refine g_aload_n dL_law_859 rfl ?_
    refine g_iload_n dL_law_860 rfl ?_
    refine g_iconst (v := nI 2) dL_law_861 (by decide) ?_
    refine n_iadd dL_law_862 (by first | (with_reducible exact nI_add _ _) | rfl) ?_
    refine g_sld dL_law_863 (by first | exact s1 | exact s0) (by omega) (rfl) (by omega) (by first | exact e1 _ | exact e0 _) ?_
    refine g_aload_n dL_law_864 rfl ?_
    refine g_iload_n dL_law_865 rfl ?_
    refine g_iconst (v := nI 3) dL_law_866 (by decide) ?_
    refine n_iadd dL_law_867 (by first | (with_reducible exact nI_add _ _) | rfl) ?_
    refine g_sld dL_law_868 (by first | exact s1 | exact s0) (by omega) (rfl) (by omega) (by first | exact e1 _ | exact e0 _) ?_
    refine n_if_eq 876 dL_law_869 (by decide) (by first | (with_reducible exact cB _) | ((with_reducible apply cN_eq0) <;> omega) | exact Iff.rfl) (fun c869 => by exfalso; exact hb c869) (fun c869 => ?_)
    refine g_iconst (v := nI 1) dL_law_872 (by decide) ?_
    refine g_goto 877 dL_law_873 (by decide) ?_
    refine g_callV (k1) okX11_gas lkL_95 rfl (by first | rfl | exact pv_shx) rfl (by omega) (by omega) dL_law_877 rfl (Nat.le_of_ble_eq_true rfl) (⟨by decide, by decide, by decide, by decide⟩) ?_
    rintro v nx' I1 J1 P1 ⟨rfl, rfl, hP1, p1, hc1, x1⟩
    have s1 : P1 0 0 = some L := by rw [p1]; exact s0
    have e1 : ∀ j, I1 0 j = xs j := fun j => by rw [x1 0 (Or.inl rfl)]; exact e0 j
    have hm1 := hm.mv x1
    have k2 := q_gas (J := J1) (v1 := xs (i + 1)) (v2 := xs (i + 2)) (v3 := nI 1) hP1 hK.1 hm1
    refine g_aload_n dL_law_880 rfl ?_
    refine g_aload_n dL_law_881 rfl ?_
    refine g_iload_n dL_law_882 rfl ?_
    refine g_iconst (v := nI 1) dL_law_883 (by decide) ?_
    refine n_iadd dL_law_884 (by first | (with_reducible exact nI_add _ _) | rfl) ?_
    refine g_sld dL_law_885 (by first | exact s1 | exact s0) (by omega) (rfl) (by omega) (by first | exact e1 _ | exact e0 _) ?_
    refine g_aload_n dL_law_886 rfl ?_
    refine g_iload_n dL_law_887 rfl ?_
    refine g_iconst (v := nI 2) dL_law_888 (by decide) ?_
    refine n_iadd dL_law_889 (by first | (with_reducible exact nI_add _ _) | rfl) ?_
    refine g_sld dL_law_890 (by first | exact s1 | exact s0) (by omega) (rfl) (by omega) (by first | exact e1 _ | exact e0 _) ?_
    refine g_aload_n dL_law_891 rfl ?_
    refine g_iload_n dL_law_892 rfl ?_
    refine g_iconst (v := nI 3) dL_law_893 (by decide) ?_
    refine n_iadd dL_law_894 (by first | (with_reducible exact nI_add _ _) | rfl) ?_
    refine g_sld dL_law_895 (by first | exact s1 | exact s0) (by omega) (rfl) (by omega) (by first | exact e1 _ | exact e0 _) ?_
    refine n_if_eq 903 dL_law_896 (by decide) (by first | (with_reducible exact cB _) | ((with_reducible apply cN_eq0) <;> omega) | exact Iff.rfl) (fun c896 => by exfalso; exact hb c896) (fun c896 => ?_)
    refine g_iconst (v := nI 1) dL_law_899 (by decide) ?_
    refine g_goto 904 dL_law_900 (by decide) ?_
    refine g_callV (k2) okX12_gas lkL_98 rfl (by first | rfl | exact pv_shx) rfl (by omega) (by omega) dL_law_904 rfl (Nat.le_of_ble_eq_true rfl) (⟨by decide, by decide, by decide, by decide⟩) ?_
    rintro v nx' I2 J2 P2 ⟨rfl, rfl, rfl, hm2, x2⟩
    refine n_icmp_eq 1489 dL_law_907 (by decide) (by first | ((with_reducible apply cN_eq) <;> omega) | ((with_reducible apply cI_eqn) <;> omega) | exact Iff.rfl) (fun c907 => ?_) (fun c907 => by exfalso; first | omega | exact absurd trivial c907 | exact c907 | (simp at c907))
    exact K _ _ _ _ _ _ _ _ _ _ ⟨⟨hP1, s1, fun j => by rw [(x2 0 (by decide)).1]; exact e1 j⟩, hc1.mv x2, hm2, hK⟩
theorem lw_18 (hL : L ≤ 3074) (hi : i + 6 ≤ L) (hA : lwA xs L w h a im tx n cl f1 f2 I J P) (K : lwN nm Z xs L i w h) : lwB nm Z i 912 I J P := by
  unfold lwB
  obtain ⟨⟨hP, s0, e0⟩, hc, hm, hK⟩ := hA
  have hwh := hc.1.1.wh.2
  have k1 := k_person (v1 := xs (i + 1)) (v2 := xs (i + 2)) (v3 := xs (i + 3)) hP hc
  refine g_aload_n dL_law_912 rfl ?_
  refine g_aload_n dL_law_913 rfl ?_
  refine g_iload_n dL_law_914 rfl ?_
  refine g_iconst (v := nI 1) dL_law_915 (by decide) ?_
  refine n_iadd dL_law_916 (by first | (with_reducible exact nI_add _ _) | rfl) ?_
  refine g_sld dL_law_917 (by first | exact s1 | exact s0) (by omega) (rfl) (by omega) (by first | exact e1 _ | exact e0 _) ?_
  refine g_aload_n dL_law_918 rfl ?_
  refine g_iload_n dL_law_919 rfl ?_
  refine g_iconst (v := nI 2) dL_law_920 (by decide) ?_
  refine n_iadd dL_law_921 (by first | (with_reducible exact nI_add _ _) | rfl) ?_
  refine g_sld dL_law_922 (by first | exact s1 | exact s0) (by omega) (rfl) (by omega) (by first | exact e1 _ | exact e0 _) ?_
  refine g_aload_n dL_law_923 rfl ?_
  refine g_iload_n dL_law_924 rfl ?_
  refine g_iconst (v := nI 3) dL_law_925 (by decide) ?_
  refine n_iadd dL_law_926 (by first | (with_reducible exact nI_add _ _) | rfl) ?_
  refine g_sld dL_law_927 (by first | exact s1 | exact s0) (by omega) (rfl) (by omega) (by first | exact e1 _ | exact e0 _) ?_
  refine g_callV (k1) okX11_person lkL_99 rfl (by first | rfl | exact pv_shx) rfl (by omega) (by omega) dL_law_928 rfl (Nat.le_of_ble_eq_true rfl) (⟨by decide, by decide, by decide, by decide⟩) ?_
  rintro v nx' I1 J1 P1 ⟨rfl, rfl, hP1, p1, hc1, x1⟩
  have s1 : P1 0 0 = some L := by rw [p1]; exact s0
  have e1 : ∀ j, I1 0 j = xs j := fun j => by rw [x1 0 (Or.inl rfl)]; exact e0 j
  have hm1 := hm.mv x1
  have k2 := q_person (J := J1) (v1 := xs (i + 1)) (v2 := xs (i + 2)) (v3 := xs (i + 3)) hP1 hK.1 hm1
  refine g_aload_n dL_law_931 rfl ?_
  refine g_aload_n dL_law_932 rfl ?_
  refine g_iload_n dL_law_933 rfl ?_
  refine g_iconst (v := nI 1) dL_law_934 (by decide) ?_
  refine n_iadd dL_law_935 (by first | (with_reducible exact nI_add _ _) | rfl) ?_
  refine g_sld dL_law_936 (by first | exact s1 | exact s0) (by omega) (rfl) (by omega) (by first | exact e1 _ | exact e0 _) ?_
  refine g_aload_n dL_law_937 rfl ?_
  refine g_iload_n dL_law_938 rfl ?_
  refine g_iconst (v := nI 2) dL_law_939 (by decide) ?_
  refine n_iadd dL_law_940 (by first | (with_reducible exact nI_add _ _) | rfl) ?_
  refine g_sld dL_law_941 (by first | exact s1 | exact s0) (by omega) (rfl) (by omega) (by first | exact e1 _ | exact e0 _) ?_
  refine g_aload_n dL_law_942 rfl ?_
  refine g_iload_n dL_law_943 rfl ?_
  refine g_iconst (v := nI 3) dL_law_944 (by decide) ?_
  refine n_iadd dL_law_945 (by first | (with_reducible exact nI_add _ _) | rfl) ?_
  refine g_sld dL_law_946 (by first | exact s1 | exact s0) (by omega) (rfl) (by omega) (by first | exact e1 _ | exact e0 _) ?_
  refine g_callV (k2) okX12_person lkL_102 rfl (by first | rfl | exact pv_shx) rfl (by omega) (by omega) dL_law_947 rfl (Nat.le_of_ble_eq_true rfl) (⟨by decide, by decide, by decide, by decide⟩) ?_
  rintro v nx' I2 J2 P2 ⟨rfl, rfl, rfl, hm2, x2⟩
  refine n_icmp_eq 1489 dL_law_950 (by decide) (by first | ((with_reducible apply cN_eq) <;> omega) | ((with_reducible apply cI_eqn) <;> omega) | exact Iff.rfl) (fun c950 => ?_) (fun c950 => by exfalso; first | omega | exact absurd trivial c950 | exact c950 | (simp at c950))
  exact K _ _ _ _ _ _ _ _ _ _ ⟨⟨hP1, s1, fun j => by rw [(x2 0 (by decide)).1]; exact e1 j⟩, hc1.mv x2, hm2, hK.mt hc1.1.2.2.2.2 h8_person⟩
end LC1
