/-! the law: calls 19 to 28 -/
section LC2
variable {nm : String} {Z : pvZT} {xs : Nat → Int32} {L i w h n : Nat} {a im : Nat → Int32} {tx : Nat → Nat} {cl : Nat → List pC} {f1 f2 : Int32} {I : pvI} {J : pvJ} {P : pvP}
theorem lw_19 (hL : L ≤ 3074) (hi : i + 6 ≤ L) (hA : lwA xs L w h a im tx n cl f1 f2 I J P) (K : lwN nm Z xs L i w h) : lwB nm Z i 955 I J P := by
  unfold lwB
  obtain ⟨⟨hP, s0, e0⟩, hc, hm, hK⟩ := hA
  have hwh := hc.1.1.wh.2
  have k1 := k_hears (v1 := xs (i + 1)) (v2 := xs (i + 2)) hP hc
  refine g_aload_n dL_law_955 rfl ?_
  refine g_aload_n dL_law_956 rfl ?_
  refine g_iload_n dL_law_957 rfl ?_
  refine g_iconst (v := nI 1) dL_law_958 (by decide) ?_
  refine n_iadd dL_law_959 (by first | (with_reducible exact nI_add _ _) | rfl) ?_
  refine g_sld dL_law_960 (by first | exact s1 | exact s0) (by omega) (rfl) (by omega) (by first | exact e1 _ | exact e0 _) ?_
  refine g_aload_n dL_law_961 rfl ?_
  refine g_iload_n dL_law_962 rfl ?_
  refine g_iconst (v := nI 2) dL_law_963 (by decide) ?_
  refine n_iadd dL_law_964 (by first | (with_reducible exact nI_add _ _) | rfl) ?_
  refine g_sld dL_law_965 (by first | exact s1 | exact s0) (by omega) (rfl) (by omega) (by first | exact e1 _ | exact e0 _) ?_
  refine g_callV (k1) okX11_hears lkL_103 rfl (by first | rfl | exact pv_shx) rfl (by omega) (by omega) dL_law_966 rfl (Nat.le_of_ble_eq_true rfl) (⟨by decide, by decide, by decide, by decide⟩) ?_
  rintro v nx' I1 J1 P1 ⟨rfl, rfl, hP1, p1, hc1, x1⟩
  have s1 : P1 0 0 = some L := by rw [p1]; exact s0
  have e1 : ∀ j, I1 0 j = xs j := fun j => by rw [x1 0 (Or.inl rfl)]; exact e0 j
  have hm1 := hm.mv x1
  have k2 := q_hears (J := J1) (v1 := xs (i + 1)) (v2 := xs (i + 2)) hP1 hK.1 hm1
  refine g_aload_n dL_law_969 rfl ?_
  refine g_aload_n dL_law_970 rfl ?_
  refine g_iload_n dL_law_971 rfl ?_
  refine g_iconst (v := nI 1) dL_law_972 (by decide) ?_
  refine n_iadd dL_law_973 (by first | (with_reducible exact nI_add _ _) | rfl) ?_
  refine g_sld dL_law_974 (by first | exact s1 | exact s0) (by omega) (rfl) (by omega) (by first | exact e1 _ | exact e0 _) ?_
  refine g_aload_n dL_law_975 rfl ?_
  refine g_iload_n dL_law_976 rfl ?_
  refine g_iconst (v := nI 2) dL_law_977 (by decide) ?_
  refine n_iadd dL_law_978 (by first | (with_reducible exact nI_add _ _) | rfl) ?_
  refine g_sld dL_law_979 (by first | exact s1 | exact s0) (by omega) (rfl) (by omega) (by first | exact e1 _ | exact e0 _) ?_
  refine g_callV (k2) okX12_hears lkL_107 rfl (by first | rfl | exact pv_shx) rfl (by omega) (by omega) dL_law_980 rfl (Nat.le_of_ble_eq_true rfl) (⟨by decide, by decide, by decide, by decide⟩) ?_
  rintro v nx' I2 J2 P2 ⟨rfl, rfl, rfl, hm2, x2⟩
  refine n_icmp_eq 1489 dL_law_983 (by decide) (by first | ((with_reducible apply cN_eq) <;> omega) | ((with_reducible apply cI_eqn) <;> omega) | exact Iff.rfl) (fun c983 => ?_) (fun c983 => by exfalso; first | omega | exact absurd trivial c983 | exact c983 | (simp at c983))
  exact K _ _ _ _ _ _ _ _ _ _ ⟨⟨hP1, s1, fun j => by rw [(x2 0 (by decide)).1]; exact e1 j⟩, hc1.mv x2, hm2, hK.mt hc1.1.2.2.2.2 h8_hears⟩
theorem lw_20 (hL : L ≤ 3074) (hi : i + 6 ≤ L) (hA : lwA xs L w h a im tx n cl f1 f2 I J P) (K : lwN nm Z xs L i w h) : lwB nm Z i 988 I J P := by
  unfold lwB
  obtain ⟨⟨hP, s0, e0⟩, hc, hm, hK⟩ := hA
  have hwh := hc.1.1.wh.2
  have k1 := k_offer (v1 := xs (i + 1)) (v2 := xs (i + 2)) (v3 := xs (i + 3)) hP hc
  refine g_aload_n dL_law_988 rfl ?_
  refine g_aload_n dL_law_989 rfl ?_
  refine g_iload_n dL_law_990 rfl ?_
  refine g_iconst (v := nI 1) dL_law_991 (by decide) ?_
  refine n_iadd dL_law_992 (by first | (with_reducible exact nI_add _ _) | rfl) ?_
  refine g_sld dL_law_993 (by first | exact s1 | exact s0) (by omega) (rfl) (by omega) (by first | exact e1 _ | exact e0 _) ?_
  refine g_aload_n dL_law_994 rfl ?_
  refine g_iload_n dL_law_995 rfl ?_
  refine g_iconst (v := nI 2) dL_law_996 (by decide) ?_
  refine n_iadd dL_law_997 (by first | (with_reducible exact nI_add _ _) | rfl) ?_
  refine g_sld dL_law_998 (by first | exact s1 | exact s0) (by omega) (rfl) (by omega) (by first | exact e1 _ | exact e0 _) ?_
  refine g_aload_n dL_law_999 rfl ?_
  refine g_iload_n dL_law_1000 rfl ?_
  refine g_iconst (v := nI 3) dL_law_1001 (by decide) ?_
  refine n_iadd dL_law_1002 (by first | (with_reducible exact nI_add _ _) | rfl) ?_
  refine g_sld dL_law_1003 (by first | exact s1 | exact s0) (by omega) (rfl) (by omega) (by first | exact e1 _ | exact e0 _) ?_
  refine g_callV (k1) okX11_offer lkL_108 rfl (by first | rfl | exact pv_shx) rfl (by omega) (by omega) dL_law_1004 rfl (Nat.le_of_ble_eq_true rfl) (⟨by decide, by decide, by decide, by decide⟩) ?_
  rintro v nx' I1 J1 P1 ⟨rfl, rfl, hP1, p1, hc1, x1⟩
  have s1 : P1 0 0 = some L := by rw [p1]; exact s0
  have e1 : ∀ j, I1 0 j = xs j := fun j => by rw [x1 0 (Or.inl rfl)]; exact e0 j
  have hm1 := hm.mv x1
  have k2 := q_offer (J := J1) (v1 := xs (i + 1)) (v2 := xs (i + 2)) (v3 := xs (i + 3)) hP1 hK.1 hm1
  refine g_aload_n dL_law_1007 rfl ?_
  refine g_aload_n dL_law_1008 rfl ?_
  refine g_iload_n dL_law_1009 rfl ?_
  refine g_iconst (v := nI 1) dL_law_1010 (by decide) ?_
  refine n_iadd dL_law_1011 (by first | (with_reducible exact nI_add _ _) | rfl) ?_
  refine g_sld dL_law_1012 (by first | exact s1 | exact s0) (by omega) (rfl) (by omega) (by first | exact e1 _ | exact e0 _) ?_
  refine g_aload_n dL_law_1013 rfl ?_
  refine g_iload_n dL_law_1014 rfl ?_
  refine g_iconst (v := nI 2) dL_law_1015 (by decide) ?_
  refine n_iadd dL_law_1016 (by first | (with_reducible exact nI_add _ _) | rfl) ?_
  refine g_sld dL_law_1017 (by first | exact s1 | exact s0) (by omega) (rfl) (by omega) (by first | exact e1 _ | exact e0 _) ?_
  refine g_aload_n dL_law_1018 rfl ?_
  refine g_iload_n dL_law_1019 rfl ?_
  refine g_iconst (v := nI 3) dL_law_1020 (by decide) ?_
  refine n_iadd dL_law_1021 (by first | (with_reducible exact nI_add _ _) | rfl) ?_
  refine g_sld dL_law_1022 (by first | exact s1 | exact s0) (by omega) (rfl) (by omega) (by first | exact e1 _ | exact e0 _) ?_
  refine g_callV (k2) okX12_offer lkL_111 rfl (by first | rfl | exact pv_shx) rfl (by omega) (by omega) dL_law_1023 rfl (Nat.le_of_ble_eq_true rfl) (⟨by decide, by decide, by decide, by decide⟩) ?_
  rintro v nx' I2 J2 P2 ⟨rfl, rfl, rfl, hm2, x2⟩
  refine n_icmp_eq 1489 dL_law_1026 (by decide) (by first | ((with_reducible apply cN_eq) <;> omega) | ((with_reducible apply cI_eqn) <;> omega) | exact Iff.rfl) (fun c1026 => ?_) (fun c1026 => by exfalso; first | omega | exact absurd trivial c1026 | exact c1026 | (simp at c1026))
  exact K _ _ _ _ _ _ _ _ _ _ ⟨⟨hP1, s1, fun j => by rw [(x2 0 (by decide)).1]; exact e1 j⟩, hc1.mv x2, hm2, hK.mt hc1.1.2.2.2.2 h8_offer⟩
theorem lw_21 (hL : L ≤ 3074) (hi : i + 6 ≤ L) (hA : lwA xs L w h a im tx n cl f1 f2 I J P) (K : lwN nm Z xs L i w h) : lwB nm Z i 1031 I J P := by
  unfold lwB
  obtain ⟨⟨hP, s0, e0⟩, hc, hm, hK⟩ := hA
  have hwh := hc.1.1.wh.2
  have k1 := k_pull (v1 := xs (i + 1)) hP hc
  refine g_aload_n dL_law_1031 rfl ?_
  refine g_aload_n dL_law_1032 rfl ?_
  refine g_iload_n dL_law_1033 rfl ?_
  refine g_iconst (v := nI 1) dL_law_1034 (by decide) ?_
  refine n_iadd dL_law_1035 (by first | (with_reducible exact nI_add _ _) | rfl) ?_
  refine g_sld dL_law_1036 (by first | exact s1 | exact s0) (by omega) (rfl) (by omega) (by first | exact e1 _ | exact e0 _) ?_
  refine g_callV (k1) okX11_pull lkL_112 rfl (by first | rfl | exact pv_shx) rfl (by omega) (by omega) dL_law_1037 rfl (Nat.le_of_ble_eq_true rfl) (⟨by decide, by decide, by decide, by decide⟩) ?_
  rintro v nx' I1 J1 P1 ⟨rfl, rfl, hP1, p1, hc1, x1⟩
  have s1 : P1 0 0 = some L := by rw [p1]; exact s0
  have e1 : ∀ j, I1 0 j = xs j := fun j => by rw [x1 0 (Or.inl rfl)]; exact e0 j
  have hm1 := hm.mv x1
  have k2 := q_pull (J := J1) (v1 := xs (i + 1)) hP1 hK.1 hm1
  refine g_aload_n dL_law_1040 rfl ?_
  refine g_aload_n dL_law_1041 rfl ?_
  refine g_iload_n dL_law_1042 rfl ?_
  refine g_iconst (v := nI 1) dL_law_1043 (by decide) ?_
  refine n_iadd dL_law_1044 (by first | (with_reducible exact nI_add _ _) | rfl) ?_
  refine g_sld dL_law_1045 (by first | exact s1 | exact s0) (by omega) (rfl) (by omega) (by first | exact e1 _ | exact e0 _) ?_
  refine g_callV (k2) okX12_pull lkL_115 rfl (by first | rfl | exact pv_shx) rfl (by omega) (by omega) dL_law_1046 rfl (Nat.le_of_ble_eq_true rfl) (⟨by decide, by decide, by decide, by decide⟩) ?_
  rintro v nx' I2 J2 P2 ⟨rfl, rfl, rfl, hm2, x2⟩
  refine n_icmp_eq 1489 dL_law_1049 (by decide) (by first | ((with_reducible apply cN_eq) <;> omega) | ((with_reducible apply cI_eqn) <;> omega) | exact Iff.rfl) (fun c1049 => ?_) (fun c1049 => by exfalso; first | omega | exact absurd trivial c1049 | exact c1049 | (simp at c1049))
  exact K _ _ _ _ _ _ _ _ _ _ ⟨⟨hP1, s1, fun j => by rw [(x2 0 (by decide)).1]; exact e1 j⟩, hc1.mv x2, hm2, hK.mt hc1.1.2.2.2.2 h8_pull⟩
theorem lw_22 (hL : L ≤ 3074) (hi : i + 6 ≤ L) (hA : lwA xs L w h a im tx n cl f1 f2 I J P) (K : lwN nm Z xs L i w h) : lwB nm Z i 1054 I J P := by
  unfold lwB
  obtain ⟨⟨hP, s0, e0⟩, hc, hm, hK⟩ := hA
  have hwh := hc.1.1.wh.2
  have k1 := k_gone (v1 := xs (i + 1)) hP hc
  refine g_aload_n dL_law_1054 rfl ?_
  refine g_aload_n dL_law_1055 rfl ?_
  refine g_iload_n dL_law_1056 rfl ?_
  refine g_iconst (v := nI 1) dL_law_1057 (by decide) ?_
  refine n_iadd dL_law_1058 (by first | (with_reducible exact nI_add _ _) | rfl) ?_
  refine g_sld dL_law_1059 (by first | exact s1 | exact s0) (by omega) (rfl) (by omega) (by first | exact e1 _ | exact e0 _) ?_
  refine g_callV (k1) okX11_gone lkL_116 rfl (by first | rfl | exact pv_shx) rfl (by omega) (by omega) dL_law_1060 rfl (Nat.le_of_ble_eq_true rfl) (⟨by decide, by decide, by decide, by decide⟩) ?_
  rintro v nx' I1 J1 P1 ⟨rfl, rfl, hP1, p1, hc1, x1⟩
  have s1 : P1 0 0 = some L := by rw [p1]; exact s0
  have e1 : ∀ j, I1 0 j = xs j := fun j => by rw [x1 0 (Or.inl rfl)]; exact e0 j
  have hm1 := hm.mv x1
  have k2 := q_gone (J := J1) (v1 := xs (i + 1)) hP1 hK.1 hm1
  refine g_aload_n dL_law_1063 rfl ?_
  refine g_aload_n dL_law_1064 rfl ?_
  refine g_iload_n dL_law_1065 rfl ?_
  refine g_iconst (v := nI 1) dL_law_1066 (by decide) ?_
  refine n_iadd dL_law_1067 (by first | (with_reducible exact nI_add _ _) | rfl) ?_
  refine g_sld dL_law_1068 (by first | exact s1 | exact s0) (by omega) (rfl) (by omega) (by first | exact e1 _ | exact e0 _) ?_
  refine g_callV (k2) okX12_gone lkL_119 rfl (by first | rfl | exact pv_shx) rfl (by omega) (by omega) dL_law_1069 rfl (Nat.le_of_ble_eq_true rfl) (⟨by decide, by decide, by decide, by decide⟩) ?_
  rintro v nx' I2 J2 P2 ⟨rfl, rfl, rfl, hm2, x2⟩
  refine n_icmp_eq 1489 dL_law_1072 (by decide) (by first | ((with_reducible apply cN_eq) <;> omega) | ((with_reducible apply cI_eqn) <;> omega) | exact Iff.rfl) (fun c1072 => ?_) (fun c1072 => by exfalso; first | omega | exact absurd trivial c1072 | exact c1072 | (simp at c1072))
  exact K _ _ _ _ _ _ _ _ _ _ ⟨⟨hP1, s1, fun j => by rw [(x2 0 (by decide)).1]; exact e1 j⟩, hc1.mv x2, hm2, hK⟩
theorem lw_23 (hL : L ≤ 3074) (hi : i + 6 ≤ L) (hA : lwA xs L w h a im tx n cl f1 f2 I J P) (K : lwN nm Z xs L i w h) : lwB nm Z i 1077 I J P := by
  unfold lwB
  obtain ⟨⟨hP, s0, e0⟩, hc, hm, hK⟩ := hA
  have hwh := hc.1.1.wh.2
  have k1 := k_weeks (v1 := xs (i + 1)) hP hc
  refine g_aload_n dL_law_1077 rfl ?_
  refine g_aload_n dL_law_1078 rfl ?_
  refine g_iload_n dL_law_1079 rfl ?_
  refine g_iconst (v := nI 1) dL_law_1080 (by decide) ?_
  refine n_iadd dL_law_1081 (by first | (with_reducible exact nI_add _ _) | rfl) ?_
  refine g_sld dL_law_1082 (by first | exact s1 | exact s0) (by omega) (rfl) (by omega) (by first | exact e1 _ | exact e0 _) ?_
  refine g_callV (k1) okX11_weeks lkL_120 rfl (by first | rfl | exact pv_shx) rfl (by omega) (by omega) dL_law_1083 rfl (Nat.le_of_ble_eq_true rfl) (⟨by decide, by decide, by decide, by decide⟩) ?_
  rintro v nx' I1 J1 P1 ⟨rfl, rfl, hP1, p1, hc1, x1⟩
  have s1 : P1 0 0 = some L := by rw [p1]; exact s0
  have e1 : ∀ j, I1 0 j = xs j := fun j => by rw [x1 0 (Or.inl rfl)]; exact e0 j
  have hm1 := hm.mv x1
  have k2 := q_weeks (J := J1) (v1 := xs (i + 1)) hP1 hK.1 hm1
  refine g_aload_n dL_law_1086 rfl ?_
  refine g_aload_n dL_law_1087 rfl ?_
  refine g_iload_n dL_law_1088 rfl ?_
  refine g_iconst (v := nI 1) dL_law_1089 (by decide) ?_
  refine n_iadd dL_law_1090 (by first | (with_reducible exact nI_add _ _) | rfl) ?_
  refine g_sld dL_law_1091 (by first | exact s1 | exact s0) (by omega) (rfl) (by omega) (by first | exact e1 _ | exact e0 _) ?_
  refine g_callV (k2) okX12_weeks lkL_123 rfl (by first | rfl | exact pv_shx) rfl (by omega) (by omega) dL_law_1092 rfl (Nat.le_of_ble_eq_true rfl) (⟨by decide, by decide, by decide, by decide⟩) ?_
  rintro v nx' I2 J2 P2 ⟨rfl, rfl, rfl, hm2, x2⟩
  refine n_icmp_eq 1489 dL_law_1095 (by decide) (by first | ((with_reducible apply cN_eq) <;> omega) | ((with_reducible apply cI_eqn) <;> omega) | exact Iff.rfl) (fun c1095 => ?_) (fun c1095 => by exfalso; first | omega | exact absurd trivial c1095 | exact c1095 | (simp at c1095))
  exact K _ _ _ _ _ _ _ _ _ _ ⟨⟨hP1, s1, fun j => by rw [(x2 0 (by decide)).1]; exact e1 j⟩, hc1.mv x2, hm2, hK.mt hc1.1.2.2.2.2 h8_weeks⟩
theorem lw_24 (hL : L ≤ 3074) (hi : i + 6 ≤ L) (hA : lwA xs L w h a im tx n cl f1 f2 I J P) (K : lwN nm Z xs L i w h) : lwB nm Z i 1100 I J P := by
  unfold lwB
  obtain ⟨⟨hP, s0, e0⟩, hc, hm, hK⟩ := hA
  have hwh := hc.1.1.wh.2
  have k1 := k_feed (b := xs (i + 1)) (c := xs (i + 2)) (d := xs (i + 3)) (e := xs (i + 4)) (g := xs (i + 5)) hP hc
  refine g_aload_n dL_law_1100 rfl ?_
  refine g_aload_n dL_law_1101 rfl ?_
  refine g_iload_n dL_law_1102 rfl ?_
  refine g_iconst (v := nI 1) dL_law_1103 (by decide) ?_
  refine n_iadd dL_law_1104 (by first | (with_reducible exact nI_add _ _) | rfl) ?_
  refine g_sld dL_law_1105 (by first | exact s1 | exact s0) (by omega) (rfl) (by omega) (by first | exact e1 _ | exact e0 _) ?_
  refine g_aload_n dL_law_1106 rfl ?_
  refine g_iload_n dL_law_1107 rfl ?_
  refine g_iconst (v := nI 2) dL_law_1108 (by decide) ?_
  refine n_iadd dL_law_1109 (by first | (with_reducible exact nI_add _ _) | rfl) ?_
  refine g_sld dL_law_1110 (by first | exact s1 | exact s0) (by omega) (rfl) (by omega) (by first | exact e1 _ | exact e0 _) ?_
  refine g_aload_n dL_law_1111 rfl ?_
  refine g_iload_n dL_law_1112 rfl ?_
  refine g_iconst (v := nI 3) dL_law_1113 (by decide) ?_
  refine n_iadd dL_law_1114 (by first | (with_reducible exact nI_add _ _) | rfl) ?_
  refine g_sld dL_law_1115 (by first | exact s1 | exact s0) (by omega) (rfl) (by omega) (by first | exact e1 _ | exact e0 _) ?_
  refine g_aload_n dL_law_1116 rfl ?_
  refine g_iload_n dL_law_1117 rfl ?_
  refine g_iconst (v := nI 4) dL_law_1118 (by decide) ?_
  refine n_iadd dL_law_1119 (by first | (with_reducible exact nI_add _ _) | rfl) ?_
  refine g_sld dL_law_1120 (by first | exact s1 | exact s0) (by omega) (rfl) (by omega) (by first | exact e1 _ | exact e0 _) ?_
  refine g_aload_n dL_law_1121 rfl ?_
  refine g_iload_n dL_law_1122 rfl ?_
  refine g_iconst (v := nI 5) dL_law_1123 (by decide) ?_
  refine n_iadd dL_law_1124 (by first | (with_reducible exact nI_add _ _) | rfl) ?_
  refine g_sld dL_law_1125 (by first | exact s1 | exact s0) (by omega) (rfl) (by omega) (by first | exact e1 _ | exact e0 _) ?_
  refine g_callV (k1) okX11_feed lkL_124 rfl (by first | rfl | exact pv_shx) rfl (by omega) (by omega) dL_law_1126 rfl (Nat.le_of_ble_eq_true rfl) (⟨by decide, by decide, by decide, by decide⟩) ?_
  rintro v nx' I1 J1 P1 ⟨rfl, rfl, hP1, p1, hc1, x1⟩
  have s1 : P1 0 0 = some L := by rw [p1]; exact s0
  have e1 : ∀ j, I1 0 j = xs j := fun j => by rw [x1 0 (Or.inl rfl)]; exact e0 j
  have hm1 := hm.mv x1
  have k2 := q_feed (J := J1) (b := xs (i + 1)) (c := xs (i + 2)) (d := xs (i + 3)) (e := xs (i + 4)) (g := xs (i + 5)) hP1 hm1
  refine g_aload_n dL_law_1129 rfl ?_
  refine g_aload_n dL_law_1130 rfl ?_
  refine g_iload_n dL_law_1131 rfl ?_
  refine g_iconst (v := nI 1) dL_law_1132 (by decide) ?_
  refine n_iadd dL_law_1133 (by first | (with_reducible exact nI_add _ _) | rfl) ?_
  refine g_sld dL_law_1134 (by first | exact s1 | exact s0) (by omega) (rfl) (by omega) (by first | exact e1 _ | exact e0 _) ?_
  refine g_aload_n dL_law_1135 rfl ?_
  refine g_iload_n dL_law_1136 rfl ?_
  refine g_iconst (v := nI 2) dL_law_1137 (by decide) ?_
  refine n_iadd dL_law_1138 (by first | (with_reducible exact nI_add _ _) | rfl) ?_
  refine g_sld dL_law_1139 (by first | exact s1 | exact s0) (by omega) (rfl) (by omega) (by first | exact e1 _ | exact e0 _) ?_
  refine g_aload_n dL_law_1140 rfl ?_
  refine g_iload_n dL_law_1141 rfl ?_
  refine g_iconst (v := nI 3) dL_law_1142 (by decide) ?_
  refine n_iadd dL_law_1143 (by first | (with_reducible exact nI_add _ _) | rfl) ?_
  refine g_sld dL_law_1144 (by first | exact s1 | exact s0) (by omega) (rfl) (by omega) (by first | exact e1 _ | exact e0 _) ?_
  refine g_aload_n dL_law_1145 rfl ?_
  refine g_iload_n dL_law_1146 rfl ?_
  refine g_iconst (v := nI 4) dL_law_1147 (by decide) ?_
  refine n_iadd dL_law_1148 (by first | (with_reducible exact nI_add _ _) | rfl) ?_
  refine g_sld dL_law_1149 (by first | exact s1 | exact s0) (by omega) (rfl) (by omega) (by first | exact e1 _ | exact e0 _) ?_
  refine g_aload_n dL_law_1150 rfl ?_
  refine g_iload_n dL_law_1151 rfl ?_
  refine g_iconst (v := nI 5) dL_law_1152 (by decide) ?_
  refine n_iadd dL_law_1153 (by first | (with_reducible exact nI_add _ _) | rfl) ?_
  refine g_sld dL_law_1154 (by first | exact s1 | exact s0) (by omega) (rfl) (by omega) (by first | exact e1 _ | exact e0 _) ?_
  refine g_callV (k2) okX12_feed lkL_128 rfl (by first | rfl | exact pv_shx) rfl (by omega) (by omega) dL_law_1155 rfl (Nat.le_of_ble_eq_true rfl) (⟨by decide, by decide, by decide, by decide⟩) ?_
  rintro v nx' I2 J2 P2 ⟨rfl, rfl, rfl, hm2, x2⟩
  refine n_icmp_eq 1489 dL_law_1158 (by decide) (by first | ((with_reducible apply cN_eq) <;> omega) | ((with_reducible apply cI_eqn) <;> omega) | exact Iff.rfl) (fun c1158 => ?_) (fun c1158 => by exfalso; first | omega | exact absurd trivial c1158 | exact c1158 | (simp at c1158))
  exact K _ _ _ _ _ _ _ _ _ _ ⟨⟨hP1, s1, fun j => by rw [(x2 0 (by decide)).1]; exact e1 j⟩, hc1.mv x2, hm2, hK⟩
theorem lw_25 (hL : L ≤ 3074) (hi : i + 6 ≤ L) (hA : lwA xs L w h a im tx n cl f1 f2 I J P) (K : lwN nm Z xs L i w h) : lwB nm Z i 1163 I J P := by
  unfold lwB
  obtain ⟨⟨hP, s0, e0⟩, hc, hm, hK⟩ := hA
  have hwh := hc.1.1.wh.2
  have k1 := k_end (b := xs (i + 1)) hP hc
  refine g_aload_n dL_law_1163 rfl ?_
  refine g_aload_n dL_law_1164 rfl ?_
  refine g_iload_n dL_law_1165 rfl ?_
  refine g_iconst (v := nI 1) dL_law_1166 (by decide) ?_
  refine n_iadd dL_law_1167 (by first | (with_reducible exact nI_add _ _) | rfl) ?_
  refine g_sld dL_law_1168 (by first | exact s1 | exact s0) (by omega) (rfl) (by omega) (by first | exact e1 _ | exact e0 _) ?_
  refine g_callV (k1) okX11_end lkL_129 rfl (by first | rfl | exact pv_shx) rfl (by omega) (by omega) dL_law_1169 rfl (Nat.le_of_ble_eq_true rfl) (⟨by decide, by decide, by decide, by decide⟩) ?_
  rintro v nx' I1 J1 P1 ⟨rfl, rfl, hP1, p1, hc1, x1⟩
  have s1 : P1 0 0 = some L := by rw [p1]; exact s0
  have e1 : ∀ j, I1 0 j = xs j := fun j => by rw [x1 0 (Or.inl rfl)]; exact e0 j
  have hm1 := hm.mv x1
  have k2 := q_end (J := J1) (b := xs (i + 1)) hP1 hm1
  refine g_aload_n dL_law_1172 rfl ?_
  refine g_aload_n dL_law_1173 rfl ?_
  refine g_iload_n dL_law_1174 rfl ?_
  refine g_iconst (v := nI 1) dL_law_1175 (by decide) ?_
  refine n_iadd dL_law_1176 (by first | (with_reducible exact nI_add _ _) | rfl) ?_
  refine g_sld dL_law_1177 (by first | exact s1 | exact s0) (by omega) (rfl) (by omega) (by first | exact e1 _ | exact e0 _) ?_
  refine g_callV (k2) okX12_end lkL_132 rfl (by first | rfl | exact pv_shx) rfl (by omega) (by omega) dL_law_1178 rfl (Nat.le_of_ble_eq_true rfl) (⟨by decide, by decide, by decide, by decide⟩) ?_
  rintro v nx' I2 J2 P2 ⟨rfl, rfl, rfl, hm2, x2⟩
  refine n_icmp_eq 1489 dL_law_1181 (by decide) (by first | ((with_reducible apply cN_eq) <;> omega) | ((with_reducible apply cI_eqn) <;> omega) | exact Iff.rfl) (fun c1181 => ?_) (fun c1181 => by exfalso; first | omega | exact absurd trivial c1181 | exact c1181 | (simp at c1181))
  exact K _ _ _ _ _ _ _ _ _ _ ⟨⟨hP1, s1, fun j => by rw [(x2 0 (by decide)).1]; exact e1 j⟩, hc1.mv x2, hm2, hK⟩
theorem lw_26 (hL : L ≤ 3074) (hi : i + 6 ≤ L) (hA : lwA xs L w h a im tx n cl f1 f2 I J P) (K : lwN nm Z xs L i w h) : lwB nm Z i 1186 I J P := by
  unfold lwB
  obtain ⟨⟨hP, s0, e0⟩, hc, hm, hK⟩ := hA
  have hwh := hc.1.1.wh.2
  have hg := hK.1.1.1
  have h8 := hc.1.n89.1
  by_cases q : cnt a 8 = 10
  · skip
    have k1 := k_act10 hP hc q
    refine g_aload_n dL_law_1186 rfl ?_
    refine g_callV (k1) okX11_act lkL_133 rfl (by first | rfl | exact pv_shx) rfl (by omega) (by omega) dL_law_1187 rfl (Nat.le_of_ble_eq_true rfl) (⟨by decide, by decide, by decide, by decide⟩) ?_
    rintro v nx' I1 J1 P1 ⟨rfl, rfl, hP1, p1, hc1, x1⟩
    have s1 : P1 0 0 = some L := by rw [p1]; exact s0
    have e1 : ∀ j, I1 0 j = xs j := fun j => by rw [x1 0 (Or.inl rfl)]; exact e0 j
    have hm1 := hm.mv x1
    have k2 := q_act10 (J := J1) hP1 hg hm1 q
    refine g_aload_n dL_law_1190 rfl ?_
    refine g_callV (k2) okX12_act lkL_137 rfl (by first | rfl | exact pv_shx) rfl (by omega) (by omega) dL_law_1191 rfl (Nat.le_of_ble_eq_true rfl) (⟨by decide, by decide, by decide, by decide⟩) ?_
    rintro v nx' I2 J2 P2 ⟨rfl, rfl, rfl, hm2, x2⟩
    refine n_icmp_eq 1489 dL_law_1194 (by decide) (by first | ((with_reducible apply cN_eq) <;> omega) | ((with_reducible apply cI_eqn) <;> omega) | exact Iff.rfl) (fun c1194 => ?_) (fun c1194 => by exfalso; first | omega | exact absurd trivial c1194 | exact c1194 | (simp at c1194))
    exact K _ _ _ _ _ _ _ _ _ _ ⟨⟨hP1, s1, fun j => by rw [(x2 0 (by decide)).1]; exact e1 j⟩, hc1.mv x2, hm2, hK⟩
  have q9 : cnt a 8 < 10 := by omega
  cases hr : rdAll (tkK tx n) n with
  | error x =>
    obtain ⟨f, kf⟩ := x
    have k1 := k_actE hP hc q9 hr
    refine g_aload_n dL_law_1186 rfl ?_
    refine g_callV (k1) okX11_act lkL_133 rfl (by first | rfl | exact pv_shx) rfl (by omega) (by omega) dL_law_1187 rfl (Nat.le_of_ble_eq_true rfl) (⟨by decide, by decide, by decide, by decide⟩) ?_
    rintro v nx' I1 J1 P1 ⟨rfl, rfl, hP1, p1, hc1, x1⟩
    have s1 : P1 0 0 = some L := by rw [p1]; exact s0
    have e1 : ∀ j, I1 0 j = xs j := fun j => by rw [x1 0 (Or.inl rfl)]; exact e0 j
    have hm1 := hm.mv x1
    have k2 := q_actE (J := J1) hP1 hg hm1 q9 hr
    refine g_aload_n dL_law_1190 rfl ?_
    refine g_callV (k2) okX12_act lkL_137 rfl (by first | rfl | exact pv_shx) rfl (by omega) (by omega) dL_law_1191 rfl (Nat.le_of_ble_eq_true rfl) (⟨by decide, by decide, by decide, by decide⟩) ?_
    rintro v nx' I2 J2 P2 ⟨rfl, rfl, rfl, hm2, x2⟩
    refine n_icmp_eq 1489 dL_law_1194 (by decide) (by first | ((with_reducible apply cN_eq) <;> omega) | ((with_reducible apply cI_eqn) <;> omega) | exact Iff.rfl) (fun c1194 => ?_) (fun c1194 => by exfalso; first | omega | exact absurd trivial c1194 | exact c1194 | (simp at c1194))
    exact K _ _ _ _ _ _ _ _ _ _ ⟨⟨hP1, s1, fun j => by rw [(x2 0 (by decide)).1]; exact e1 j⟩, hc1.mv x2, hm2, hK⟩
  | ok x =>
    obtain ⟨cs, kf⟩ := x
    have k1 := k_actO hP hc q9 hr
    refine g_aload_n dL_law_1186 rfl ?_
    refine g_callV (k1) okX11_act lkL_133 rfl (by first | rfl | exact pv_shx) rfl (by omega) (by omega) dL_law_1187 rfl (Nat.le_of_ble_eq_true rfl) (⟨by decide, by decide, by decide, by decide⟩) ?_
    rintro v nx' I1 J1 P1 ⟨rfl, rfl, hP1, p1, hc1, x1⟩
    have s1 : P1 0 0 = some L := by rw [p1]; exact s0
    have e1 : ∀ j, I1 0 j = xs j := fun j => by rw [x1 0 (Or.inl rfl)]; exact e0 j
    have hm1 := hm.mv x1
    have k2 := q_actO (J := J1) hP1 hg hm1 q9 hr
    refine g_aload_n dL_law_1190 rfl ?_
    refine g_callV (k2) okX12_act lkL_137 rfl (by first | rfl | exact pv_shx) rfl (by omega) (by omega) dL_law_1191 rfl (Nat.le_of_ble_eq_true rfl) (⟨by decide, by decide, by decide, by decide⟩) ?_
    rintro v nx' I2 J2 P2 ⟨rfl, rfl, rfl, hm2, x2⟩
    refine n_icmp_eq 1489 dL_law_1194 (by decide) (by first | ((with_reducible apply cN_eq) <;> omega) | ((with_reducible apply cI_eqn) <;> omega) | exact Iff.rfl) (fun c1194 => ?_) (fun c1194 => by exfalso; first | omega | exact absurd trivial c1194 | exact c1194 | (simp at c1194))
    exact K _ _ _ _ _ _ _ _ _ _ ⟨⟨hP1, s1, fun j => by rw [(x2 0 (by decide)).1]; exact e1 j⟩, hc1.mv x2, hm2, hc1.1.2.2.2.2, hK.2.1, by rw [a8_8 h8]; have := hK.2.2; omega⟩
theorem lw_27 (hL : L ≤ 3074) (hi : i + 6 ≤ L) (hA : lwA xs L w h a im tx n cl f1 f2 I J P) (K : lwN nm Z xs L i w h) : lwB nm Z i 1199 I J P := by
  unfold lwB
  obtain ⟨⟨hP, s0, e0⟩, hc, hm, hK⟩ := hA
  have hwh := hc.1.1.wh.2
  have k1 := k_fault (c := xs (i + 1)) hP hc
  refine g_aload_n dL_law_1199 rfl ?_
  refine g_aload_n dL_law_1200 rfl ?_
  refine g_iload_n dL_law_1201 rfl ?_
  refine g_iconst (v := nI 1) dL_law_1202 (by decide) ?_
  refine n_iadd dL_law_1203 (by first | (with_reducible exact nI_add _ _) | rfl) ?_
  refine g_sld dL_law_1204 (by first | exact s1 | exact s0) (by omega) (rfl) (by omega) (by first | exact e1 _ | exact e0 _) ?_
  refine g_callV (k1) okX11_fault lkL_138 rfl (by first | rfl | exact pv_shx) rfl (by omega) (by omega) dL_law_1205 rfl (Nat.le_of_ble_eq_true rfl) (⟨by decide, by decide, by decide, by decide⟩) ?_
  rintro v nx' I1 J1 P1 ⟨rfl, rfl, hP1, p1, hc1, x1⟩
  have s1 : P1 0 0 = some L := by rw [p1]; exact s0
  have e1 : ∀ j, I1 0 j = xs j := fun j => by rw [x1 0 (Or.inl rfl)]; exact e0 j
  have hm1 := hm.mv x1
  have k2 := q_fault (J := J1) (P := P1) (c := xs (i + 1)) hm1
  refine g_aload_n dL_law_1208 rfl ?_
  refine g_aload_n dL_law_1209 rfl ?_
  refine g_iload_n dL_law_1210 rfl ?_
  refine g_iconst (v := nI 1) dL_law_1211 (by decide) ?_
  refine n_iadd dL_law_1212 (by first | (with_reducible exact nI_add _ _) | rfl) ?_
  refine g_sld dL_law_1213 (by first | exact s1 | exact s0) (by omega) (rfl) (by omega) (by first | exact e1 _ | exact e0 _) ?_
  refine g_callV (k2) okX12_fault lkL_141 rfl (by first | rfl | exact pv_shx) rfl (by omega) (by omega) dL_law_1214 rfl (Nat.le_of_ble_eq_true rfl) (⟨by decide, by decide, by decide, by decide⟩) ?_
  rintro v nx' I2 J2 P2 ⟨rfl, rfl, rfl, hm2, x2⟩
  refine n_icmp_eq 1489 dL_law_1217 (by decide) (by first | ((with_reducible apply cN_eq) <;> omega) | ((with_reducible apply cI_eqn) <;> omega) | exact Iff.rfl) (fun c1217 => ?_) (fun c1217 => by exfalso; first | omega | exact absurd trivial c1217 | exact c1217 | (simp at c1217))
  exact K _ _ _ _ _ _ _ _ _ _ ⟨⟨hP1, s1, fun j => by rw [(x2 0 (by decide)).1]; exact e1 j⟩, hc1.mv x2, hm2, hK⟩
theorem lw_28 (hL : L ≤ 3074) (hi : i + 6 ≤ L) (hA : lwA xs L w h a im tx n cl f1 f2 I J P) (K : lwN nm Z xs L i w h) : lwB nm Z i 1222 I J P := by
  unfold lwB
  obtain ⟨⟨hP, s0, e0⟩, hc, hm, hK⟩ := hA
  have hwh := hc.1.1.wh.2
  have k1 := k_force (v1 := xs (i + 1)) (v2 := xs (i + 2)) (v3 := xs (i + 3)) hP hc
  refine g_aload_n dL_law_1222 rfl ?_
  refine g_aload_n dL_law_1223 rfl ?_
  refine g_iload_n dL_law_1224 rfl ?_
  refine g_iconst (v := nI 1) dL_law_1225 (by decide) ?_
  refine n_iadd dL_law_1226 (by first | (with_reducible exact nI_add _ _) | rfl) ?_
  refine g_sld dL_law_1227 (by first | exact s1 | exact s0) (by omega) (rfl) (by omega) (by first | exact e1 _ | exact e0 _) ?_
  refine g_aload_n dL_law_1228 rfl ?_
  refine g_iload_n dL_law_1229 rfl ?_
  refine g_iconst (v := nI 2) dL_law_1230 (by decide) ?_
  refine n_iadd dL_law_1231 (by first | (with_reducible exact nI_add _ _) | rfl) ?_
  refine g_sld dL_law_1232 (by first | exact s1 | exact s0) (by omega) (rfl) (by omega) (by first | exact e1 _ | exact e0 _) ?_
  refine g_aload_n dL_law_1233 rfl ?_
  refine g_iload_n dL_law_1234 rfl ?_
  refine g_iconst (v := nI 3) dL_law_1235 (by decide) ?_
  refine n_iadd dL_law_1236 (by first | (with_reducible exact nI_add _ _) | rfl) ?_
  refine g_sld dL_law_1237 (by first | exact s1 | exact s0) (by omega) (rfl) (by omega) (by first | exact e1 _ | exact e0 _) ?_
  refine g_callV (k1) okX11_force lkL_142 rfl (by first | rfl | exact pv_shx) rfl (by omega) (by omega) dL_law_1238 rfl (Nat.le_of_ble_eq_true rfl) (⟨by decide, by decide, by decide, by decide⟩) ?_
  rintro v nx' I1 J1 P1 ⟨rfl, rfl, hP1, p1, hc1, x1⟩
  have s1 : P1 0 0 = some L := by rw [p1]; exact s0
  have e1 : ∀ j, I1 0 j = xs j := fun j => by rw [x1 0 (Or.inl rfl)]; exact e0 j
  have hm1 := hm.mv x1
  have k2 := q_force (J := J1) (v1 := xs (i + 1)) (v2 := xs (i + 2)) (v3 := xs (i + 3)) hP1 hK.1 hm1
  refine g_aload_n dL_law_1241 rfl ?_
  refine g_aload_n dL_law_1242 rfl ?_
  refine g_iload_n dL_law_1243 rfl ?_
  refine g_iconst (v := nI 1) dL_law_1244 (by decide) ?_
  refine n_iadd dL_law_1245 (by first | (with_reducible exact nI_add _ _) | rfl) ?_
  refine g_sld dL_law_1246 (by first | exact s1 | exact s0) (by omega) (rfl) (by omega) (by first | exact e1 _ | exact e0 _) ?_
  refine g_aload_n dL_law_1247 rfl ?_
  refine g_iload_n dL_law_1248 rfl ?_
  refine g_iconst (v := nI 2) dL_law_1249 (by decide) ?_
  refine n_iadd dL_law_1250 (by first | (with_reducible exact nI_add _ _) | rfl) ?_
  refine g_sld dL_law_1251 (by first | exact s1 | exact s0) (by omega) (rfl) (by omega) (by first | exact e1 _ | exact e0 _) ?_
  refine g_aload_n dL_law_1252 rfl ?_
  refine g_iload_n dL_law_1253 rfl ?_
  refine g_iconst (v := nI 3) dL_law_1254 (by decide) ?_
  refine n_iadd dL_law_1255 (by first | (with_reducible exact nI_add _ _) | rfl) ?_
  refine g_sld dL_law_1256 (by first | exact s1 | exact s0) (by omega) (rfl) (by omega) (by first | exact e1 _ | exact e0 _) ?_
  refine g_callV (k2) okX12_force lkL_145 rfl (by first | rfl | exact pv_shx) rfl (by omega) (by omega) dL_law_1257 rfl (Nat.le_of_ble_eq_true rfl) (⟨by decide, by decide, by decide, by decide⟩) ?_
  rintro v nx' I2 J2 P2 ⟨rfl, rfl, rfl, hm2, x2⟩
  refine n_icmp_eq 1489 dL_law_1260 (by decide) (by first | ((with_reducible apply cN_eq) <;> omega) | ((with_reducible apply cI_eqn) <;> omega) | exact Iff.rfl) (fun c1260 => ?_) (fun c1260 => by exfalso; first | omega | exact absurd trivial c1260 | exact c1260 | (simp at c1260))
  exact K _ _ _ _ _ _ _ _ _ _ ⟨⟨hP1, s1, fun j => by rw [(x2 0 (by decide)).1]; exact e1 j⟩, hc1.mv x2, hm2, hK.mt hc1.1.2.2.2.2 h8_force⟩
end LC2
