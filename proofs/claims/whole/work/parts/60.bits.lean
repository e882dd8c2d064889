/-! sets of cells as bits of a long -/
def bN (f : Nat → Bool) : Nat → Nat
  | 0 => 0
  | n + 1 => bN f n + (if f n = true then 2 ^ n else 0)
theorem bN_s {f : Nat → Bool} {n : Nat} : bN f (n + 1) = bN f n + (if f n = true then 2 ^ n else 0) := rfl
theorem bN_lt {f : Nat → Bool} : ∀ n, bN f n < 2 ^ n
  | 0 => Nat.lt_succ_self 0
  | n + 1 => by
    have := bN_lt (f := f) n
    rw [bN_s, Nat.pow_succ]
    split <;> omega
theorem bN_bit {f : Nat → Bool} : ∀ n c, (bN f n).testBit c = (decide (c < n) && f c)
  | 0, c => by simp [bN]
  | n + 1, c => by
    have ih := bN_bit (f := f) n c
    have hlt := bN_lt (f := f) n
    rw [bN_s]
    by_cases hf : f n = true
    · rw [if_pos hf, Nat.add_comm]
      rcases Nat.lt_trichotomy c n with h | h | h
      · rw [Nat.testBit_two_pow_add_gt h, ih]; simp [h, show c < n + 1 by omega]
      · subst h; rw [Nat.testBit_two_pow_add_eq, ih]; simp [hf]
      · rw [Nat.testBit_lt_two_pow (Nat.lt_of_lt_of_le (show 2 ^ n + bN f n < 2 ^ (n + 1) by rw [Nat.pow_succ]; omega) (Nat.pow_le_pow_right (by decide) h))]
        simp [show ¬ c < n + 1 by omega]
    · rw [if_neg hf, Nat.add_zero, ih]
      by_cases h : c < n
      · simp [h, show c < n + 1 by omega]
      · by_cases e : c = n
        · subst e; simp at hf; simp [hf]
        · simp [h, show ¬ c < n + 1 by omega]
def tb (x : Int64) (c : Nat) : Bool := x.toBitVec.getLsbD c
def mk (f : Nat → Bool) : Int64 := lN (bN f 64)
theorem tb_lN {n c : Nat} (hc : c < 64) : tb (lN n) c = n.testBit c := by
  unfold tb
  rw [wb_tb, BitVec.getLsbD_ofNat]
  simp [hc]
theorem tb_mk {f : Nat → Bool} {c : Nat} (hc : c < 64) : tb (mk f) c = f c := by
  unfold mk
  rw [tb_lN hc, bN_bit]
  simp [hc]
theorem tb_ext {x y : Int64} (h : ∀ c, c < 64 → tb x c = tb y c) : x = y := wb_inj (BitVec.eq_of_getLsbD_eq (fun i hi => h i hi))
theorem mk_of {x : Int64} {f : Nat → Bool} (h : ∀ c, c < 64 → tb x c = f c) : x = mk f := tb_ext (fun c hc => by rw [h c hc, tb_mk hc])
theorem mk_cong {f g : Nat → Bool} (h : ∀ c, c < 64 → f c = g c) : mk f = mk g := mk_of (fun c hc => by rw [tb_mk hc, h c hc])
theorem mk_inj {f g : Nat → Bool} (h : mk f = mk g) {c : Nat} (hc : c < 64) : f c = g c := by have h2 := tb_mk (f := f) hc; rw [h, tb_mk hc] at h2; exact h2.symm
theorem tb_and {x y : Int64} {c : Nat} : tb (x &&& y) c = (tb x c && tb y c) := by unfold tb; rw [Int64.toBitVec_and, BitVec.getLsbD_and]
theorem tb_or {x y : Int64} {c : Nat} : tb (x ||| y) c = (tb x c || tb y c) := by unfold tb; rw [Int64.toBitVec_or, BitVec.getLsbD_or]
theorem tb_not {x : Int64} {c : Nat} (hc : c < 64) : tb (x ^^^ (-1)) c = !tb x c := by
  unfold tb
  rw [Int64.toBitVec_xor, BitVec.getLsbD_xor, show ((-1 : Int64)).toBitVec = BitVec.allOnes 64 by decide, BitVec.getLsbD_allOnes]
  simp [hc]
theorem mk_and {f g : Nat → Bool} : mk f &&& mk g = mk (fun c => f c && g c) := mk_of (fun c hc => by rw [tb_and, tb_mk hc, tb_mk hc])
theorem mk_or {f g : Nat → Bool} : mk f ||| mk g = mk (fun c => f c || g c) := mk_of (fun c hc => by rw [tb_or, tb_mk hc, tb_mk hc])
theorem mk_not {f : Nat → Bool} : mk f ^^^ (-1) = mk (fun c => !f c) := mk_of (fun c hc => by rw [tb_not hc, tb_mk hc])
theorem mk_shl {f : Nat → Bool} {k : Nat} (hk : k < 64) : mk f <<< ((nI k).toInt64 &&& 63) = mk (fun c => decide (k ≤ c) && f (c - k)) := by
  unfold mk
  rw [wb_shl _ hk]
  refine mk_of (fun c hc => ?_)
  rw [tb_lN hc, Nat.testBit_mul_two_pow, bN_bit]
  simp [show c - k < 64 by omega]
theorem mk_shr {f : Nat → Bool} {k : Nat} (hk : k < 64) : ((mk f).toUInt64 >>> ((nI k).toInt64.toUInt64 &&& Int64.toUInt64 63)).toInt64 = mk (fun c => decide (c + k < 64) && f (c + k)) := by
  unfold mk
  rw [wb_shr (bN_lt 64) hk]
  refine mk_of (fun c hc => ?_)
  rw [tb_lN hc, Nat.testBit_div_two_pow, bN_bit]
theorem mk_bit {k : Nat} (hk : k < 64) : (1 : Int64) <<< ((nI k).toInt64 &&& 63) = mk (fun c => decide (c = k)) := by
  rw [show (1 : Int64) = lN 1 from rfl, wb_shl _ hk, Nat.one_mul]
  refine mk_of (fun c hc => ?_)
  rw [tb_lN hc, Nat.testBit_two_pow]
  simp [eq_comm]
theorem mk_zero : mk (fun _ => false) = 0 := (mk_of (fun c hc => by rw [show (0 : Int64) = lN 0 from rfl, tb_lN hc]; simp)).symm
theorem mk_eq0 {f : Nat → Bool} : mk f = 0 ↔ ∀ c, c < 64 → f c = false := by
  rw [← mk_zero]
  exact ⟨fun h c hc => mk_inj h hc, fun h => mk_cong h⟩
theorem mk_has {f : Nat → Bool} {k : Nat} (hk : k < 64) : ((mk f).toUInt64 >>> ((nI k).toInt64.toUInt64 &&& Int64.toUInt64 63)).toInt64 &&& 1 = mk (fun c => decide (c = 0) && f k) := by
  rw [mk_shr hk]
  refine mk_of (fun c hc => ?_)
  rw [tb_and, tb_mk hc, show (1 : Int64) = lN 1 from rfl, tb_lN hc]
  by_cases e : c = 0
  · subst e; simp [hk]
  · have : Nat.testBit 1 c = false := by
      rw [show (1 : Nat) = 2 ^ 0 from rfl, Nat.testBit_two_pow]
      simp; omega
    rw [this]
    simp [e]
/-- the lowest of a set, and the set without it -/
def lowG (f : Nat → Bool) (l c : Nat) : Bool := if c < l then true else if c = l then false else f c
theorem bN_no {f : Nat → Bool} : ∀ n, (∀ c, c < n → f c = false) → bN f n = 0
  | 0, _ => rfl
  | n + 1, h => by rw [bN_s, bN_no n (fun c hc => h c (by omega)), if_neg (by rw [h n (by omega)]; decide)]
theorem bN_all {f : Nat → Bool} : ∀ n, (∀ c, c < n → f c = true) → bN f n + 1 = 2 ^ n
  | 0, _ => rfl
  | n + 1, h => by
    have := bN_all n (fun c hc => h c (by omega))
    rw [bN_s, if_pos (h n (by omega)), Nat.pow_succ]; omega
theorem bN_low {f : Nat → Bool} {l : Nat} (hl : f l = true) (h : ∀ c, c < l → f c = false) : ∀ n, l < n → bN f n = bN (lowG f l) n + 1
  | 0, hn => absurd hn (Nat.not_lt_zero l)
  | n + 1, hn => by
    rw [bN_s, bN_s]
    by_cases e : l = n
    · subst e
      have h1 := bN_no l h
      have h2 := bN_all (f := lowG f l) l (fun c hc => by simp [lowG, hc])
      rw [if_pos hl, if_neg (by simp [lowG])]
      omega
    · have := bN_low hl h n (by omega)
      have e2 : lowG f l n = f n := by simp [lowG, show ¬ n < l by omega, show ¬ n = l by omega]
      rw [e2]; omega
theorem mk_sub1 {f : Nat → Bool} {l : Nat} (hl64 : l < 64) (hl : f l = true) (h : ∀ c, c < l → f c = false) : mk f - 1 = mk (lowG f l) := by
  have e := bN_low hl h 64 hl64
  unfold mk
  rw [show (1 : Int64) = lN 1 from rfl, lN_sub (by omega), e, Nat.add_sub_cancel]
theorem tb_neg {x : Int64} {c : Nat} (hc : c < 64) : tb (-x) c = !tb (x - 1) c := by
  unfold tb
  have h : (-x).toBitVec = ~~~ ((x - 1).toBitVec) := by
    rw [Int64.toBitVec_neg, Int64.toBitVec_sub, show ((1 : Int64)).toBitVec = 1#64 from rfl, ← BitVec.not_neg, BitVec.not_not]
  rw [h, BitVec.getLsbD_not]
  simp [hc]
theorem mk_one {f : Nat → Bool} {l : Nat} (hl64 : l < 64) (hl : f l = true) (h : ∀ c, c < l → f c = false) : mk f &&& -(mk f) = mk (fun c => decide (c = l)) := by
  refine mk_of (fun c hc => ?_)
  rw [tb_and, tb_neg hc, mk_sub1 hl64 hl h, tb_mk hc, tb_mk hc]
  unfold lowG
  by_cases h1 : c < l
  · rw [h c h1]; simp; omega
  · by_cases e : c = l
    · subst e; simp [hl]
    · simp [h1, e]
theorem mk_rest {f : Nat → Bool} {l : Nat} (hl64 : l < 64) (hl : f l = true) (h : ∀ c, c < l → f c = false) : mk f &&& (mk f - 1) = mk (fun c => decide (l < c) && f c) := by
  rw [mk_sub1 hl64 hl h, mk_and]
  refine mk_cong (fun c hc => ?_)
  unfold lowG
  by_cases h1 : c < l
  · rw [h c h1]; simp
  · by_cases e : c = l
    · subst e; simp
    · simp [h1, e, show l < c by omega]
theorem sp_ct_lt {l : Nat} : ∀ n, sp_ct (fun c => decide (c < l) = true) n = min n l
  | 0 => by simp [sp_ct]
  | n + 1 => by
    show sp_ct _ n + (if _ then 1 else 0) = _
    rw [sp_ct_lt n]
    by_cases h : n < l
    · rw [if_pos (decide_eq_true h)]; omega
    · rw [if_neg (by simpa using h)]; omega
theorem mk_low1 {l : Nat} (hl64 : l < 64) : mk (fun c => decide (c = l)) - 1 = mk (fun c => decide (c < l)) := by
  rw [mk_sub1 (f := fun c => decide (c = l)) hl64 (by simp) (fun c hc => by simp; omega)]
  refine mk_cong (fun c hc => ?_)
  unfold lowG
  by_cases h1 : c < l
  · simp [h1]
  · by_cases e : c = l
    · simp [e]
    · simp [h1, e]
/-! counting bits -/
def rpB (v : Nat) : Nat → Nat
  | 0 => 0
  | k + 1 => v + 256 * rpB v k
def s1B (b : Nat) : Nat := b - (b / 2 &&& 85)
def s2B (b : Nat) : Nat := (b &&& 51) + (b / 4 &&& 51)
def pcB (b : Nat) : Nat := sp_ct (fun c => b.testBit c = true) 8
def S1 (k n : Nat) : Nat := n - (n / 2 &&& rpB 85 k)
def S2 (k n : Nat) : Nat := (n &&& rpB 51 k) + (n / 4 &&& rpB 51 k)
def S3 (k n : Nat) : Nat := (n + n / 16) &&& rpB 15 k
theorem and_split (a v k : Nat) (hv : v < 256) : a &&& rpB v (k + 1) = (a % 256 &&& v) + 256 * (a / 256 &&& rpB v k) := by
  have h1 := Nat.and_div_two_pow (a := a) (b := rpB v (k + 1)) (n := 8)
  have h2 := Nat.and_mod_two_pow (a := a) (b := rpB v (k + 1)) (n := 8)
  have e : rpB v (k + 1) = v + 256 * rpB v k := rfl
  have e1 : rpB v (k + 1) / 2 ^ 8 = rpB v k := by rw [e]; omega
  have e2 : rpB v (k + 1) % 2 ^ 8 = v := by rw [e]; omega
  rw [e1] at h1
  rw [e2] at h2
  have h3 : (2 : Nat) ^ 8 = 256 := rfl
  rw [h3] at h1 h2
  omega
theorem m1B : ∀ r, r < 512 → r / 2 % 256 &&& 85 = (r % 256) / 2 &&& 85 := by decide +kernel
theorem m2B : ∀ r, r < 1024 → r / 4 % 256 &&& 51 = (r % 256) / 4 &&& 51 := by decide +kernel
theorem byB : ∀ b, b < 256 → s1B b < 256 ∧ s2B (s1B b) < 256 ∧ s2B (s1B b) % 16 ≤ 4 ∧ s2B (s1B b) / 16 ≤ 4 ∧ s2B (s1B b) % 16 + s2B (s1B b) / 16 = pcB b ∧ pcB b ≤ 8 := by decide +kernel
theorem S1_s (k n : Nat) : S1 (k + 1) n = s1B (n % 256) + 256 * S1 k (n / 256) := by
  unfold S1 s1B
  rw [and_split _ _ _ (by decide)]
  have h := m1B (n % 512) (Nat.mod_lt _ (by decide))
  rw [show n % 512 / 2 % 256 = n / 2 % 256 by omega, show n % 512 % 256 = n % 256 by omega] at h
  rw [h, show n / 2 / 256 = n / 256 / 2 by omega]
  have b1 : n % 256 / 2 &&& 85 ≤ n % 256 / 2 := Nat.and_le_left
  have b2 : n / 256 / 2 &&& rpB 85 k ≤ n / 256 / 2 := Nat.and_le_left
  omega
theorem S2_s (k n : Nat) : S2 (k + 1) n = s2B (n % 256) + 256 * S2 k (n / 256) := by
  unfold S2 s2B
  rw [and_split n _ _ (by decide), and_split (n / 4) _ _ (by decide)]
  have h := m2B (n % 1024) (Nat.mod_lt _ (by decide))
  rw [show n % 1024 / 4 % 256 = n / 4 % 256 by omega, show n % 1024 % 256 = n % 256 by omega] at h
  rw [h, show n / 4 / 256 = n / 256 / 4 by omega]
  omega
theorem S2_n (k n : Nat) : S2 k (S1 k n) % 16 ≤ 4 := by
  match k with
  | 0 => unfold S2 rpB; simp
  | k + 1 =>
    obtain ⟨h1, h2, h3, -⟩ := byB (n % 256) (Nat.mod_lt _ (by decide))
    rw [S1_s, S2_s, show (s1B (n % 256) + 256 * S1 k (n / 256)) % 256 = s1B (n % 256) by omega]
    omega
theorem T_s (k n : Nat) : S3 (k + 1) (S2 (k + 1) (S1 (k + 1) n)) = pcB (n % 256) + 256 * S3 k (S2 k (S1 k (n / 256))) := by
  obtain ⟨h1, h2, h3, h4, h5, h6⟩ := byB (n % 256) (Nat.mod_lt _ (by decide))
  have h7 := S2_n k (n / 256)
  rw [S1_s, S2_s, show (s1B (n % 256) + 256 * S1 k (n / 256)) % 256 = s1B (n % 256) by omega, show (s1B (n % 256) + 256 * S1 k (n / 256)) / 256 = S1 k (n / 256) by omega]
  generalize s2B (s1B (n % 256)) = c at *
  generalize S2 k (S1 k (n / 256)) = q at *
  unfold S3
  rw [and_split _ _ _ (by decide), show (15 : Nat) = 2 ^ 4 - 1 from rfl, Nat.and_two_pow_sub_one_eq_mod, show (2 ^ 4 - 1 : Nat) = 15 from rfl]
  rw [show (c + 256 * q + (c + 256 * q) / 16) / 256 = q + q / 16 by omega, show (c + 256 * q + (c + 256 * q) / 16) % 256 % 2 ^ 4 = c % 16 + c / 16 by omega]
  omega
theorem sp_ct_add {p : Nat → Prop} [DecidablePred p] (m : Nat) : ∀ k, sp_ct p (m + k) = sp_ct p m + sp_ct (fun c => p (m + c)) k
  | 0 => rfl
  | k + 1 => by
    show sp_ct p (m + k) + (if p (m + k) then 1 else 0) = sp_ct p m + (sp_ct (fun c => p (m + c)) k + (if p (m + k) then 1 else 0))
    rw [sp_ct_add m k]; omega
theorem ct_byte (n k : Nat) : sp_ct (fun c => n.testBit c = true) (8 + k) = pcB (n % 256) + sp_ct (fun c => (n / 256).testBit c = true) k := by
  rw [sp_ct_add]
  congr 1
  · unfold pcB
    refine sp_ct_cong (fun c hc => ?_)
    rw [show (256 : Nat) = 2 ^ 8 from rfl, Nat.testBit_mod_two_pow]
    simp [hc]
  · refine sp_ct_cong (fun c hc => ?_)
    rw [show (256 : Nat) = 2 ^ 8 from rfl, Nat.testBit_div_two_pow, Nat.add_comm]
theorem pcB_le (n : Nat) : pcB n ≤ 8 := sp_ct_le 8
/-- what the additions leave in the lowest byte -/
theorem pc_end (p0 p1 p2 p3 p4 p5 p6 p7 : Nat) (h0 : p0 ≤ 8) (h1 : p1 ≤ 8) (h2 : p2 ≤ 8) (h3 : p3 ≤ 8) (h4 : p4 ≤ 8) (h5 : p5 ≤ 8) (h6 : p6 ≤ 8) (h7 : p7 ≤ 8) {X x4 x5 x6 : Nat} (hX : X = p0 + 256 * (p1 + 256 * (p2 + 256 * (p3 + 256 * (p4 + 256 * (p5 + 256 * (p6 + 256 * p7))))))) (h4' : x4 = X + X / 256) (h5' : x5 = x4 + x4 / 65536) (h6' : x6 = x5 + x5 / 4294967296) : x6 % 128 = p0 + p1 + p2 + p3 + p4 + p5 + p6 + p7 ∧ x6 < 2 ^ 64 := by
  have d4 : X / 256 = p1 + 256 * (p2 + 256 * (p3 + 256 * (p4 + 256 * (p5 + 256 * (p6 + 256 * (p7)))))) := by omega
  have e4 : x4 = (p0 + p1) + 256 * ((p1 + p2) + 256 * ((p2 + p3) + 256 * ((p3 + p4) + 256 * ((p4 + p5) + 256 * ((p5 + p6) + 256 * ((p6 + p7) + 256 * (p7))))))) := by omega
  clear h4' hX d4
  have d5 : x4 / 65536 = (p2 + p3) + 256 * ((p3 + p4) + 256 * ((p4 + p5) + 256 * ((p5 + p6) + 256 * ((p6 + p7) + 256 * (p7))))) := by omega
  have e5 : x5 = ((p0 + p1) + (p2 + p3)) + 256 * (((p1 + p2) + (p3 + p4)) + 256 * (((p2 + p3) + (p4 + p5)) + 256 * (((p3 + p4) + (p5 + p6)) + 256 * (((p4 + p5) + (p6 + p7)) + 256 * (((p5 + p6) + p7) + 256 * ((p6 + p7) + 256 * (p7))))))) := by omega
  clear h5' e4 d5
  have d6 : x5 / 4294967296 = ((p4 + p5) + (p6 + p7)) + 256 * (((p5 + p6) + p7) + 256 * ((p6 + p7) + 256 * (p7))) := by omega
  have e6 : x6 = (((p0 + p1) + (p2 + p3)) + ((p4 + p5) + (p6 + p7))) + 256 * ((((p1 + p2) + (p3 + p4)) + ((p5 + p6) + p7)) + 256 * ((((p2 + p3) + (p4 + p5)) + (p6 + p7)) + 256 * ((((p3 + p4) + (p5 + p6)) + p7) + 256 * (((p4 + p5) + (p6 + p7)) + 256 * (((p5 + p6) + p7) + 256 * ((p6 + p7) + 256 * (p7))))))) := by omega
  clear h6' e5 d6
  omega
theorem t_bitCountN {nx n : Nat} {I : pvI} {J : pvJ} {P : pvP} (hn : n < 2 ^ 64) : pvMet mJ13_bitCount_95d88 0 0 0 [.long (lN n)] nx I J P (pvpu (.int (nI (sp_ct (fun c => n.testBit c = true) 64))) nx I J P) := by
  have b1 : n / 2 &&& rpB 85 8 ≤ n / 2 := Nat.and_le_left
  have x1 : S1 8 n ≤ n := Nat.sub_le _ _
  have x2 : S2 8 (S1 8 n) ≤ 2 * (S1 8 n) := by
    have h1 : S1 8 n &&& rpB 51 8 ≤ S1 8 n := Nat.and_le_left
    have h2 : S1 8 n / 4 &&& rpB 51 8 ≤ S1 8 n / 4 := Nat.and_le_left
    unfold S2
    omega
  have m51 : rpB 51 8 = 3689348814741910323 := by decide
  have m85 : rpB 85 8 = 6148914691236517205 := by decide
  have m15 : rpB 15 8 = 1085102592571150095 := by decide
  have x2' : S2 8 (S1 8 n) ≤ 2 * 3689348814741910323 := by
    have h1 : S1 8 n &&& rpB 51 8 ≤ rpB 51 8 := Nat.and_le_right
    have h2 : S1 8 n / 4 &&& rpB 51 8 ≤ rpB 51 8 := Nat.and_le_right
    unfold S2
    omega
  have f1 : lN (n / 2) &&& 6148914691236517205 = lN (n / 2 &&& rpB 85 8) := by
    rw [show (6148914691236517205 : Int64) = lN 6148914691236517205 from rfl, wb_and (by omega) (by decide), m85]
  have f2 : lN n - lN (n / 2 &&& rpB 85 8) = lN (S1 8 n) := lN_sub (by omega)
  have f3 : lN (S1 8 n) &&& 3689348814741910323 = lN (S1 8 n &&& rpB 51 8) := by
    rw [show (3689348814741910323 : Int64) = lN 3689348814741910323 from rfl, wb_and (by omega) (by decide), m51]
  have f4 : lN (S1 8 n / 4) &&& 3689348814741910323 = lN (S1 8 n / 4 &&& rpB 51 8) := by
    rw [show (3689348814741910323 : Int64) = lN 3689348814741910323 from rfl, wb_and (by omega) (by decide), m51]
  have f5 : lN (S1 8 n &&& rpB 51 8) + lN (S1 8 n / 4 &&& rpB 51 8) = lN (S2 8 (S1 8 n)) := lN_add _ _
  generalize hy : S2 8 (S1 8 n) = y at *
  have f6 : lN (y + y / 16) &&& 1085102592571150095 = lN (S3 8 y) := by
    rw [show (1085102592571150095 : Int64) = lN 1085102592571150095 from rfl, wb_and (by omega) (by decide)]
    unfold S3
    rw [m15]
  have hT : S3 8 y = pcB (n % 256) + 256 * (pcB (n / 256 % 256) + 256 * (pcB (n / 256 / 256 % 256) + 256 * (pcB (n / 256 / 256 / 256 % 256) + 256 * (pcB (n / 256 / 256 / 256 / 256 % 256) + 256 * (pcB (n / 256 / 256 / 256 / 256 / 256 % 256) + 256 * (pcB (n / 256 / 256 / 256 / 256 / 256 / 256 % 256) + 256 * pcB (n / 256 / 256 / 256 / 256 / 256 / 256 / 256 % 256))))))) := by
    rw [← hy, T_s, T_s, T_s, T_s, T_s, T_s, T_s, T_s]
    unfold S3 rpB
    simp
  have hC : sp_ct (fun c => n.testBit c = true) 64 = pcB (n % 256) + (pcB (n / 256 % 256) + (pcB (n / 256 / 256 % 256) + (pcB (n / 256 / 256 / 256 % 256) + (pcB (n / 256 / 256 / 256 / 256 % 256) + (pcB (n / 256 / 256 / 256 / 256 / 256 % 256) + (pcB (n / 256 / 256 / 256 / 256 / 256 / 256 % 256) + (pcB (n / 256 / 256 / 256 / 256 / 256 / 256 / 256 % 256) + 0))))))) := by
    have h := ct_byte n 56
    rw [h, ct_byte _ 48, ct_byte _ 40, ct_byte _ 32, ct_byte _ 24, ct_byte _ 16, ct_byte _ 8, ct_byte _ 0]
    rfl
  generalize hX : S3 8 y = X at *
  have he := pc_end _ _ _ _ _ _ _ _ (pcB_le (n % 256)) (pcB_le (n / 256 % 256)) (pcB_le (n / 256 / 256 % 256)) (pcB_le (n / 256 / 256 / 256 % 256)) (pcB_le (n / 256 / 256 / 256 / 256 % 256)) (pcB_le (n / 256 / 256 / 256 / 256 / 256 % 256)) (pcB_le (n / 256 / 256 / 256 / 256 / 256 / 256 % 256)) (pcB_le (n / 256 / 256 / 256 / 256 / 256 / 256 / 256 % 256)) hT rfl rfl rfl
  have hfin : nI (X + X / 256 + (X + X / 256) / 65536 + (X + X / 256 + (X + X / 256) / 65536) / 4294967296) &&& nI 127 = nI (sp_ct (fun c => n.testBit c = true) 64) := by
    rw [pk_and _ 7 (by decide), show (nI (X + X / 256 + (X + X / 256) / 65536 + (X + X / 256 + (X + X / 256) / 65536) / 4294967296)).toBitVec.toNat = (X + X / 256 + (X + X / 256) / 65536 + (X + X / 256 + (X + X / 256) / 65536) / 4294967296) % 2 ^ 32 from rfl]
    congr 1
    omega
  have hXl : X < 2 ^ 63 := by rw [hT]; have h0 := pcB_le (n % 256); have h1 := pcB_le (n / 256 % 256); have h2 := pcB_le (n / 256 / 256 % 256); have h3 := pcB_le (n / 256 / 256 / 256 % 256); have h4 := pcB_le (n / 256 / 256 / 256 / 256 % 256); have h5 := pcB_le (n / 256 / 256 / 256 / 256 / 256 % 256); have h6 := pcB_le (n / 256 / 256 / 256 / 256 / 256 / 256 % 256); have h7 := pcB_le (n / 256 / 256 / 256 / 256 / 256 / 256 / 256 % 256); omega
  have g1 : ((lN n).toUInt64 >>> ((nI 1).toInt64.toUInt64 &&& Int64.toUInt64 63)).toInt64 = lN (n / 2) := wb_shr (k := 1) hn (by decide)
  have g2 : ((lN (S1 8 n)).toUInt64 >>> ((nI 2).toInt64.toUInt64 &&& Int64.toUInt64 63)).toInt64 = lN (S1 8 n / 4) := wb_shr (k := 2) (by omega) (by decide)
  have g3 : ((lN y).toUInt64 >>> ((nI 4).toInt64.toUInt64 &&& Int64.toUInt64 63)).toInt64 = lN (y / 16) := wb_shr (k := 4) (by omega) (by decide)
  have g4 : ((lN X).toUInt64 >>> ((nI 8).toInt64.toUInt64 &&& Int64.toUInt64 63)).toInt64 = lN (X / 256) := wb_shr (k := 8) (by omega) (by decide)
  have g5 : ((lN (X + X / 256)).toUInt64 >>> ((nI 16).toInt64.toUInt64 &&& Int64.toUInt64 63)).toInt64 = lN ((X + X / 256) / 65536) := wb_shr (k := 16) (by omega) (by decide)
  have g6 : ((lN (X + X / 256 + (X + X / 256) / 65536)).toUInt64 >>> ((nI 32).toInt64.toUInt64 &&& Int64.toUInt64 63)).toInt64 = lN ((X + X / 256 + (X + X / 256) / 65536) / 4294967296) := wb_shr (k := 32) (by omega) (by decide)
  refine pvMet.of _ (by decide) rfl (Nat.le_of_ble_eq_true rfl) ?_
  refine g_lload_n dJ13_bitCount_95d88_0 rfl ?_
  refine g_lload_n dJ13_bitCount_95d88_1 rfl ?_
  refine g_iconst (v := nI 1) dJ13_bitCount_95d88_2 (by decide) ?_
  refine n_lushr dJ13_bitCount_95d88_3 (g1) ?_
  refine g_ldc2 (v := (6148914691236517205 : Int64)) dJ13_bitCount_95d88_4 kcJ13_314 ?_
  refine n_land dJ13_bitCount_95d88_7 (f1) ?_
  refine n_lsub dJ13_bitCount_95d88_8 (f2) ?_
  refine g_lstore_n dJ13_bitCount_95d88_9 (by decide) rfl ?_
  refine g_lload_n dJ13_bitCount_95d88_10 rfl ?_
  refine g_ldc2 (v := (3689348814741910323 : Int64)) dJ13_bitCount_95d88_11 kcJ13_316 ?_
  refine n_land dJ13_bitCount_95d88_14 (f3) ?_
  refine g_lload_n dJ13_bitCount_95d88_15 rfl ?_
  refine g_iconst (v := nI 2) dJ13_bitCount_95d88_16 (by decide) ?_
  refine n_lushr dJ13_bitCount_95d88_17 (g2) ?_
  refine g_ldc2 (v := (3689348814741910323 : Int64)) dJ13_bitCount_95d88_18 kcJ13_316 ?_
  refine n_land dJ13_bitCount_95d88_21 (f4) ?_
  refine n_ladd dJ13_bitCount_95d88_22 (f5) ?_
  refine g_lstore_n dJ13_bitCount_95d88_23 (by decide) rfl ?_
  refine g_lload_n dJ13_bitCount_95d88_24 rfl ?_
  refine g_lload_n dJ13_bitCount_95d88_25 rfl ?_
  refine g_iconst (v := nI 4) dJ13_bitCount_95d88_26 (by decide) ?_
  refine n_lushr dJ13_bitCount_95d88_27 (g3) ?_
  refine n_ladd dJ13_bitCount_95d88_28 (lN_add _ _) ?_
  refine g_ldc2 (v := (1085102592571150095 : Int64)) dJ13_bitCount_95d88_29 kcJ13_318 ?_
  refine n_land dJ13_bitCount_95d88_32 (f6) ?_
  refine g_lstore_n dJ13_bitCount_95d88_33 (by decide) rfl ?_
  refine g_lload_n dJ13_bitCount_95d88_34 rfl ?_
  refine g_lload_n dJ13_bitCount_95d88_35 rfl ?_
  refine g_bipush (v := nI 8) dJ13_bitCount_95d88_36 (by decide) ?_
  refine n_lushr dJ13_bitCount_95d88_38 (g4) ?_
  refine n_ladd dJ13_bitCount_95d88_39 (lN_add _ _) ?_
  refine g_lstore_n dJ13_bitCount_95d88_40 (by decide) rfl ?_
  refine g_lload_n dJ13_bitCount_95d88_41 rfl ?_
  refine g_lload_n dJ13_bitCount_95d88_42 rfl ?_
  refine g_bipush (v := nI 16) dJ13_bitCount_95d88_43 (by decide) ?_
  refine n_lushr dJ13_bitCount_95d88_45 (g5) ?_
  refine n_ladd dJ13_bitCount_95d88_46 (lN_add _ _) ?_
  refine g_lstore_n dJ13_bitCount_95d88_47 (by decide) rfl ?_
  refine g_lload_n dJ13_bitCount_95d88_48 rfl ?_
  refine g_lload_n dJ13_bitCount_95d88_49 rfl ?_
  refine g_bipush (v := nI 32) dJ13_bitCount_95d88_50 (by decide) ?_
  refine n_lushr dJ13_bitCount_95d88_52 (g6) ?_
  refine n_ladd dJ13_bitCount_95d88_53 (lN_add _ _) ?_
  refine g_lstore_n dJ13_bitCount_95d88_54 (by decide) rfl ?_
  refine g_lload_n dJ13_bitCount_95d88_55 rfl ?_
  refine n_l2i dJ13_bitCount_95d88_56 (lN_i _) ?_
  refine g_bipush (v := nI 127) dJ13_bitCount_95d88_57 (by decide) ?_
  refine n_iand dJ13_bitCount_95d88_59 (hfin) ?_
  exact g_iret dJ13_bitCount_95d88_60 rfl (⟨rfl, rfl, rfl, rfl, rfl⟩)
theorem t_bitCount {nx : Nat} {f : Nat → Bool} {I : pvI} {J : pvJ} {P : pvP} : pvMet mJ13_bitCount_95d88 0 0 0 [.long (mk f)] nx I J P (pvpu (.int (nI (sp_ct (fun c => f c = true) 64))) nx I J P) := by
  have h := t_bitCountN (nx := nx) (I := I) (J := J) (P := P) (bN_lt (f := f) 64)
  rw [sp_ct_cong (p := fun c => (bN f 64).testBit c = true) (q := fun c => f c = true) (fun c hc => by rw [bN_bit]; simp [hc])] at h
  exact h
theorem t_lowest {nx l : Nat} {f : Nat → Bool} {I : pvI} {J : pvJ} {P : pvP} (hl64 : l < 64) (hl : f l = true) (h : ∀ c, c < l → f c = false) : pvMet mX11_lowest 1 0 0 [.long (mk f)] nx I J P (pvpu (.int (nI l)) nx I J P) := by
  have bc := t_bitCount (nx := nx) (f := fun c => decide (c < l)) (I := I) (J := J) (P := P)
  rw [sp_ct_lt, show min 64 l = l by omega] at bc
  refine pvMet.of _ (by decide) rfl (Nat.le_of_ble_eq_true rfl) ?_
  refine g_lload_n dX11_lowest_0 rfl ?_
  refine g_lload_n dX11_lowest_1 rfl ?_
  refine n_lneg dX11_lowest_2 (rfl) ?_
  refine n_land dX11_lowest_3 (mk_one hl64 hl h) ?_
  refine g_lconst (v := 1) dX11_lowest_4 (by decide) ?_
  refine n_lsub dX11_lowest_5 (mk_low1 hl64) ?_
  refine p_callS (bc) okJ13_bitCount_95d88 lkX11_426 rfl dX11_lowest_6 rfl (Nat.le_of_ble_eq_true rfl) (⟨by decide, by decide, by decide, by decide⟩) ?_
  exact g_iret dX11_lowest_9 rfl (⟨rfl, rfl, rfl, rfl, rfl⟩)
theorem t_bit {nx k : Nat} {I : pvI} {J : pvJ} {P : pvP} (hk : k < 64) : pvMet mX11_bit 0 0 0 [.int (nI k)] nx I J P (pvpu (.long (mk (fun c => decide (c = k)))) nx I J P) := by
  refine pvMet.of _ (by decide) rfl (Nat.le_of_ble_eq_true rfl) ?_
  refine g_lconst (v := 1) dX11_bit_0 (by decide) ?_
  refine g_iload_n dX11_bit_1 rfl ?_
  refine n_lshl dX11_bit_2 (mk_bit hk) ?_
  exact g_lret dX11_bit_3 rfl (⟨rfl, rfl, rfl, rfl, rfl⟩)
theorem t_hasM {nx k : Nat} {f : Nat → Bool} {I : pvI} {J : pvJ} {P : pvP} (hk : k < 64) : pvMet mX11_has 0 0 0 [.long (mk f), .int (nI k)] nx I J P (pvpu (.int (if f k = true then 1 else 0)) nx I J P) := by
  have hz : mk (fun c => decide (c = 0) && f k) = 0 ↔ f k = false := by
    rw [mk_eq0]
    constructor
    · intro h; have := h 0 (by decide); simpa using this
    · intro h c hc; rw [h]; simp
  refine pvMet.of _ (by decide) rfl (Nat.le_of_ble_eq_true rfl) ?_
  refine g_lload_n dX11_has_0 rfl ?_
  refine g_iload_n dX11_has_1 rfl ?_
  refine n_lushr dX11_has_2 (rfl) ?_
  refine g_lconst (v := 1) dX11_has_3 (by decide) ?_
  refine n_land dX11_has_4 (mk_has hk) ?_
  refine g_lconst (v := 0) dX11_has_5 (by decide) ?_
  refine g_lcmp dX11_has_6 ?_
  refine n_if_eq 14 dX11_has_7 (by decide) ((lg_cmp_eq _ _).trans hz) (fun c7 => ?_) (fun c7 => ?_)
  · skip
    refine g_iconst (v := nI 0) dX11_has_14 (by decide) ?_
    exact g_zret (by first | exact Or.inl rfl | exact Or.inr rfl | exact cB01 _) dX11_has_15 rfl (⟨by first | (rw [if_neg (by rw [c7]; decide)]; rfl) | (rw [if_pos (by simpa using c7)]; rfl), rfl, rfl, rfl, rfl⟩)
  · skip
    refine g_iconst (v := nI 1) dX11_has_10 (by decide) ?_
    refine g_goto 15 dX11_has_11 (by decide) ?_
    exact g_zret (by first | exact Or.inl rfl | exact Or.inr rfl | exact cB01 _) dX11_has_15 rfl (⟨by first | (rw [if_neg (by rw [c7]; decide)]; rfl) | (rw [if_pos (by simpa using c7)]; rfl), rfl, rfl, rfl, rfl⟩)
