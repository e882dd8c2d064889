/-! the law: its loop, and its beginning -/
section LOP
variable {nm : String} {Z : pvZT} {xs : Nat → Int32} {L i w h n nx k : Nat} {a im : Nat → Int32} {tx : Nat → Nat} {cl : Nat → List pC} {f1 f2 : Int32} {I : pvI} {J : pvJ} {P : pvP}
theorem c_lcell (hL : L ≤ 3074) (hk : k ≤ 1) (s0 : P 0 0 = some L) (e0 : ∀ j, I 0 j = xs j) : pvMet mL_cell 0 0 0 [.ref 0, .int (nI k)] nx I J P (pvpu (.int (if k < L then xs k else nI 0)) nx I J P) := by
  by_cases c : k < L
  · rw [if_pos c]
    refine pvMet.of _ (by decide) rfl (Nat.le_of_ble_eq_true rfl) ?_
    refine g_iload_n dL_cell_0 rfl ?_
    refine g_aload_n dL_cell_1 rfl ?_
    refine g_slen dL_cell_2 (by first | exact s1 | exact s0) ?_
    refine n_icmp_ge 12 dL_cell_3 (by decide) (by first | ((with_reducible apply cN_le) <;> omega) | ((with_reducible apply cI_len) <;> omega) | ((with_reducible apply cI_nle) <;> omega) | (with_reducible exact cI_le)) (fun c3 => by exfalso; first | omega | exact absurd trivial c3 | exact c3 | (simp at c3)) (fun c3 => ?_)
    refine g_aload_n dL_cell_6 rfl ?_
    refine g_iload_n dL_cell_7 rfl ?_
    refine g_sld dL_cell_8 (by first | exact s1 | exact s0) (by omega) (rfl) (by omega) (by first | exact e1 _ | exact e0 _) ?_
    refine g_goto 13 dL_cell_9 (by decide) ?_
    exact g_iret dL_cell_13 rfl (⟨rfl, rfl, rfl, rfl, rfl⟩)
  · rw [if_neg c]
    refine pvMet.of _ (by decide) rfl (Nat.le_of_ble_eq_true rfl) ?_
    refine g_iload_n dL_cell_0 rfl ?_
    refine g_aload_n dL_cell_1 rfl ?_
    refine g_slen dL_cell_2 (by first | exact s1 | exact s0) ?_
    refine n_icmp_ge 12 dL_cell_3 (by decide) (by first | ((with_reducible apply cN_le) <;> omega) | ((with_reducible apply cI_len) <;> omega) | ((with_reducible apply cI_nle) <;> omega) | (with_reducible exact cI_le)) (fun c3 => ?_) (fun c3 => by exfalso; first | omega | exact absurd trivial c3 | exact c3 | (simp at c3))
    refine g_iconst (v := nI 0) dL_cell_12 (by decide) ?_
    exact g_iret dL_cell_13 rfl (⟨rfl, rfl, rfl, rfl, rfl⟩)
theorem lw_cmp (hL : L ≤ 3074) (hi : i ≤ 3080) : (nI L - nI 6 < nI i) ↔ L < i + 6 := by
  rw [cI_lt, nI_toInt (by omega), pk_sub_toInt (by omega) (by omega)]
  omega
theorem inc6 : nI i + Int32.ofInt 6 = nI (i + 6) := nI_add i 6
theorem lw_loop (hL : L ≤ 3074) (hE : ∀ i I J P, pvG (mLw nm) room_1 Z 1495 [.ref 0, .ref 1, .ref 202, .int (nI i)] [] 224 90037 224 I J P) : ∀ q i, L + 6 ≤ i + q → i ≤ 3080 → ∀ a im tx n cl f1 f2 I J P, lwA xs L w h a im tx n cl f1 f2 I J P → pvG (mLw nm) room_1 Z 38 [.ref 0, .ref 1, .ref 202, .int (nI i)] [] 224 90037 224 I J P := by
  intro q
  induction q with
  | zero =>
    intro i h1 h2 a im tx n cl f1 f2 I J P hA
    have s0 := hA.1.2.1
    have ee := hE i I J P
    refine g_iload_n dL_law_38 rfl ?_
    refine g_aload_n dL_law_39 rfl ?_
    refine g_slen dL_law_40 (by first | exact s1 | exact s0) ?_
    refine g_bipush (v := nI 6) dL_law_41 (by decide) ?_
    refine n_isub dL_law_43 (rfl) ?_
    refine n_icmp_gt 1495 dL_law_44 (by decide) (lw_cmp hL h2) (fun c44 => ?_) (fun c44 => by exfalso; first | omega | exact absurd trivial c44 | exact c44 | (simp at c44))
    exact ee
  | succ q ih =>
    intro i h1 h2 a im tx n cl f1 f2 I J P hA
    have s0 := hA.1.2.1
    have e0 := hA.1.2.2
    have ee := hE i I J P
    by_cases hi : i + 6 ≤ L
    · have K : lwN nm Z xs L i w h := by
        intro a im tx n cl f1 f2 I J P hA
        have go := ih (i + 6) (by omega) (by omega) a im tx n cl f1 f2 I J P hA
        refine g_iinc dL_law_1489 rfl (inc6) (show _ < 4 by decide) rfl ?_
        refine g_goto 38 dL_law_1492 (by decide) ?_
        exact go
      have an := and_lo (xs i) (k := 6) (m := nI 63) (by decide)
      refine g_iload_n dL_law_38 rfl ?_
      refine g_aload_n dL_law_39 rfl ?_
      refine g_slen dL_law_40 (by first | exact s1 | exact s0) ?_
      refine g_bipush (v := nI 6) dL_law_41 (by decide) ?_
      refine n_isub dL_law_43 (rfl) ?_
      refine n_icmp_gt 1495 dL_law_44 (by decide) (lw_cmp hL h2) (fun c44 => by exfalso; first | omega | exact absurd trivial c44 | exact c44 | (simp at c44)) (fun c44 => ?_)
      refine g_aload_n dL_law_47 rfl ?_
      refine g_iload_n dL_law_48 rfl ?_
      refine g_sld dL_law_49 (by first | exact s1 | exact s0) (by omega) (rfl) (by omega) (by first | exact e1 _ | exact e0 _) ?_
      refine g_bipush (v := nI 63) dL_law_50 (by decide) ?_
      refine n_iand dL_law_52 (an) ?_
      generalize hk : (xs i).toUInt32.toNat % 2 ^ 6 = k
      by_cases k37 : k < 37
      · have kk : k = 0 ∨ k = 1 ∨ k = 2 ∨ k = 3 ∨ k = 4 ∨ k = 5 ∨ k = 6 ∨ k = 7 ∨ k = 8 ∨ k = 9 ∨ k = 10 ∨ k = 11 ∨ k = 12 ∨ k = 13 ∨ k = 14 ∨ k = 15 ∨ k = 16 ∨ k = 17 ∨ k = 18 ∨ k = 19 ∨ k = 20 ∨ k = 21 ∨ k = 22 ∨ k = 23 ∨ k = 24 ∨ k = 25 ∨ k = 26 ∨ k = 27 ∨ k = 28 ∨ k = 29 ∨ k = 30 ∨ k = 31 ∨ k = 32 ∨ k = 33 ∨ k = 34 ∨ k = 35 ∨ k = 36 := by omega
        obtain rfl | rfl | rfl | rfl | rfl | rfl | rfl | rfl | rfl | rfl | rfl | rfl | rfl | rfl | rfl | rfl | rfl | rfl | rfl | rfl | rfl | rfl | rfl | rfl | rfl | rfl | rfl | rfl | rfl | rfl | rfl | rfl | rfl | rfl | rfl | rfl | rfl := kk
        · refine g_tableIn (off := 163) 216 dL_law_53 (by decide) (by decide) (by decide) (by decide) ?_
          exact lw_0 hL hi hA K
        · refine g_tableIn (off := 206) 259 dL_law_53 (by decide) (by decide) (by decide) (by decide) ?_
          exact lw_1 hL hi hA K
        · refine g_tableIn (off := 249) 302 dL_law_53 (by decide) (by decide) (by decide) (by decide) ?_
          exact lw_2 hL hi hA K
        · refine g_tableIn (off := 272) 325 dL_law_53 (by decide) (by decide) (by decide) (by decide) ?_
          exact lw_3 hL hi hA K
        · refine g_tableIn (off := 295) 348 dL_law_53 (by decide) (by decide) (by decide) (by decide) ?_
          exact lw_4 hL hi hA K
        · refine g_tableIn (off := 328) 381 dL_law_53 (by decide) (by decide) (by decide) (by decide) ?_
          exact lw_5 hL hi hA K
        · refine g_tableIn (off := 351) 404 dL_law_53 (by decide) (by decide) (by decide) (by decide) ?_
          exact lw_6 hL hi hA K
        · refine g_tableIn (off := 404) 457 dL_law_53 (by decide) (by decide) (by decide) (by decide) ?_
          exact lw_7 hL hi hA K
        · refine g_tableIn (off := 437) 490 dL_law_53 (by decide) (by decide) (by decide) (by decide) ?_
          exact lw_8 hL hi hA K
        · refine g_tableIn (off := 490) 543 dL_law_53 (by decide) (by decide) (by decide) (by decide) ?_
          exact lw_9 hL hi hA K
        · refine g_tableIn (off := 523) 576 dL_law_53 (by decide) (by decide) (by decide) (by decide) ?_
          exact lw_10 hL hi hA K
        · refine g_tableIn (off := 566) 619 dL_law_53 (by decide) (by decide) (by decide) (by decide) ?_
          exact lw_11 hL hi hA K
        · refine g_tableIn (off := 599) 652 dL_law_53 (by decide) (by decide) (by decide) (by decide) ?_
          exact lw_12 hL hi hA K
        · refine g_tableIn (off := 658) 711 dL_law_53 (by decide) (by decide) (by decide) (by decide) ?_
          exact lw_13 hL hi hA K
        · refine g_tableIn (off := 691) 744 dL_law_53 (by decide) (by decide) (by decide) (by decide) ?_
          exact lw_14 hL hi hA K
        · refine g_tableIn (off := 734) 787 dL_law_53 (by decide) (by decide) (by decide) (by decide) ?_
          exact lw_15 hL hi hA K
        · refine g_tableIn (off := 757) 810 dL_law_53 (by decide) (by decide) (by decide) (by decide) ?_
          exact lw_16 hL hi hA K
        · refine g_tableIn (off := 800) 853 dL_law_53 (by decide) (by decide) (by decide) (by decide) ?_
          exact lw_17 hL hi hA K
        · refine g_tableIn (off := 859) 912 dL_law_53 (by decide) (by decide) (by decide) (by decide) ?_
          exact lw_18 hL hi hA K
        · refine g_tableIn (off := 902) 955 dL_law_53 (by decide) (by decide) (by decide) (by decide) ?_
          exact lw_19 hL hi hA K
        · refine g_tableIn (off := 935) 988 dL_law_53 (by decide) (by decide) (by decide) (by decide) ?_
          exact lw_20 hL hi hA K
        · refine g_tableIn (off := 978) 1031 dL_law_53 (by decide) (by decide) (by decide) (by decide) ?_
          exact lw_21 hL hi hA K
        · refine g_tableIn (off := 1001) 1054 dL_law_53 (by decide) (by decide) (by decide) (by decide) ?_
          exact lw_22 hL hi hA K
        · refine g_tableIn (off := 1024) 1077 dL_law_53 (by decide) (by decide) (by decide) (by decide) ?_
          exact lw_23 hL hi hA K
        · refine g_tableIn (off := 1047) 1100 dL_law_53 (by decide) (by decide) (by decide) (by decide) ?_
          exact lw_24 hL hi hA K
        · refine g_tableIn (off := 1110) 1163 dL_law_53 (by decide) (by decide) (by decide) (by decide) ?_
          exact lw_25 hL hi hA K
        · refine g_tableIn (off := 1133) 1186 dL_law_53 (by decide) (by decide) (by decide) (by decide) ?_
          exact lw_26 hL hi hA K
        · refine g_tableIn (off := 1146) 1199 dL_law_53 (by decide) (by decide) (by decide) (by decide) ?_
          exact lw_27 hL hi hA K
        · refine g_tableIn (off := 1169) 1222 dL_law_53 (by decide) (by decide) (by decide) (by decide) ?_
          exact lw_28 hL hi hA K
        · refine g_tableIn (off := 1212) 1265 dL_law_53 (by decide) (by decide) (by decide) (by decide) ?_
          exact lw_29 hL hi hA K
        · refine g_tableIn (off := 1255) 1308 dL_law_53 (by decide) (by decide) (by decide) (by decide) ?_
          exact lw_30 hL hi hA K
        · refine g_tableIn (off := 1278) 1331 dL_law_53 (by decide) (by decide) (by decide) (by decide) ?_
          exact lw_31 hL hi hA K
        · refine g_tableIn (off := 1311) 1364 dL_law_53 (by decide) (by decide) (by decide) (by decide) ?_
          exact lw_32 hL hi hA K
        · refine g_tableIn (off := 1344) 1397 dL_law_53 (by decide) (by decide) (by decide) (by decide) ?_
          exact lw_33 hL hi hA K
        · refine g_tableIn (off := 1387) 1440 dL_law_53 (by decide) (by decide) (by decide) (by decide) ?_
          exact lw_34 hL hi hA K
        · refine g_tableIn (off := 1400) 1453 dL_law_53 (by decide) (by decide) (by decide) (by decide) ?_
          exact lw_35 hL hi hA K
        · refine g_tableIn (off := 1413) 1466 dL_law_53 (by decide) (by decide) (by decide) (by decide) ?_
          exact lw_36 hL hi hA K
      · refine g_tableOut 1489 dL_law_53 (Or.inr ?_) (by decide) ?_
        · rw [nI_toInt (by have := Nat.mod_lt (xs i).toUInt32.toNat (show 0 < 2 ^ 6 by decide); omega)]; omega
        · exact K _ _ _ _ _ _ _ _ _ _ hA
    · skip
      refine g_iload_n dL_law_38 rfl ?_
      refine g_aload_n dL_law_39 rfl ?_
      refine g_slen dL_law_40 (by first | exact s1 | exact s0) ?_
      refine g_bipush (v := nI 6) dL_law_41 (by decide) ?_
      refine n_isub dL_law_43 (rfl) ?_
      refine n_icmp_gt 1495 dL_law_44 (by decide) (lw_cmp hL h2) (fun c44 => ?_) (fun c44 => by exfalso; first | omega | exact absurd trivial c44 | exact c44 | (simp at c44))
      exact ee
end LOP
