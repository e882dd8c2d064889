/-! rows whose results are named: x + y = v and the like; branches over any equivalent of their condition; reads whose value is known -/
section PVN
variable {M : pvM} {R : Room} {Z : pvZT} {pc : Nat} {ls st : List Value} {kc kn nx : Nat} {I : pvI} {J : pvJ} {P : pvP}
theorem n_iadd {x y v : Int32} (hd : decode M.2.1 pc = .ok (.iadd, 1)) (hv : x + y = v) (k : pvG M R Z (pc + 1) ls (.int v :: st) kc kn nx I J P) : pvG M R Z pc ls (.int y :: .int x :: st) kc kn nx I J P := by subst hv; exact g_iadd hd k
theorem n_isub {x y v : Int32} (hd : decode M.2.1 pc = .ok (.isub, 1)) (hv : x - y = v) (k : pvG M R Z (pc + 1) ls (.int v :: st) kc kn nx I J P) : pvG M R Z pc ls (.int y :: .int x :: st) kc kn nx I J P := by subst hv; exact g_isub hd k
theorem n_imul {x y v : Int32} (hd : decode M.2.1 pc = .ok (.imul, 1)) (hv : x * y = v) (k : pvG M R Z (pc + 1) ls (.int v :: st) kc kn nx I J P) : pvG M R Z pc ls (.int y :: .int x :: st) kc kn nx I J P := by subst hv; exact g_imul hd k
theorem n_iand {x y v : Int32} (hd : decode M.2.1 pc = .ok (.iand, 1)) (hv : x &&& y = v) (k : pvG M R Z (pc + 1) ls (.int v :: st) kc kn nx I J P) : pvG M R Z pc ls (.int y :: .int x :: st) kc kn nx I J P := by subst hv; exact g_iand hd k
theorem n_ior {x y v : Int32} (hd : decode M.2.1 pc = .ok (.ior, 1)) (hv : x ||| y = v) (k : pvG M R Z (pc + 1) ls (.int v :: st) kc kn nx I J P) : pvG M R Z pc ls (.int y :: .int x :: st) kc kn nx I J P := by subst hv; exact g_ior hd k
theorem n_ishl {x y v : Int32} (hd : decode M.2.1 pc = .ok (.ishl, 1)) (hv : x <<< (y &&& 31) = v) (k : pvG M R Z (pc + 1) ls (.int v :: st) kc kn nx I J P) : pvG M R Z pc ls (.int y :: .int x :: st) kc kn nx I J P := by subst hv; exact g_ishl hd k
theorem n_ishr {x y v : Int32} (hd : decode M.2.1 pc = .ok (.ishr, 1)) (hv : x >>> (y &&& 31) = v) (k : pvG M R Z (pc + 1) ls (.int v :: st) kc kn nx I J P) : pvG M R Z pc ls (.int y :: .int x :: st) kc kn nx I J P := by subst hv; exact g_ishr hd k
theorem n_iushr {x y v : Int32} (hd : decode M.2.1 pc = .ok (.iushr, 1)) (hv : (x.toUInt32 >>> (y.toUInt32 &&& Int32.toUInt32 31)).toInt32 = v) (k : pvG M R Z (pc + 1) ls (.int v :: st) kc kn nx I J P) : pvG M R Z pc ls (.int y :: .int x :: st) kc kn nx I J P := by subst hv; exact g_iushr hd k
theorem n_idiv {x y v : Int32} (hd : decode M.2.1 pc = .ok (.idiv, 1)) (hne : ¬ y = 0) (hv : x / y = v) (k : pvG M R Z (pc + 1) ls (.int v :: st) kc kn nx I J P) : pvG M R Z pc ls (.int y :: .int x :: st) kc kn nx I J P := by subst hv; exact g_idiv hd hne k
theorem n_irem {x y v : Int32} (hd : decode M.2.1 pc = .ok (.irem, 1)) (hne : ¬ y = 0) (hv : x - x / y * y = v) (k : pvG M R Z (pc + 1) ls (.int v :: st) kc kn nx I J P) : pvG M R Z pc ls (.int y :: .int x :: st) kc kn nx I J P := by subst hv; exact g_irem hd hne k
theorem n_ineg {x v : Int32} (hd : decode M.2.1 pc = .ok (.ineg, 1)) (hv : -x = v) (k : pvG M R Z (pc + 1) ls (.int v :: st) kc kn nx I J P) : pvG M R Z pc ls (.int x :: st) kc kn nx I J P := by subst hv; exact g_ineg hd k
theorem n_ladd {x y v : Int64} (hd : decode M.2.1 pc = .ok (.ladd, 1)) (hv : x + y = v) (k : pvG M R Z (pc + 1) ls (.long v :: st) kc kn nx I J P) : pvG M R Z pc ls (.long y :: .long x :: st) kc kn nx I J P := by subst hv; exact g_ladd hd k
theorem n_lsub {x y v : Int64} (hd : decode M.2.1 pc = .ok (.lsub, 1)) (hv : x - y = v) (k : pvG M R Z (pc + 1) ls (.long v :: st) kc kn nx I J P) : pvG M R Z pc ls (.long y :: .long x :: st) kc kn nx I J P := by subst hv; exact g_lsub hd k
theorem n_lmul {x y v : Int64} (hd : decode M.2.1 pc = .ok (.lmul, 1)) (hv : x * y = v) (k : pvG M R Z (pc + 1) ls (.long v :: st) kc kn nx I J P) : pvG M R Z pc ls (.long y :: .long x :: st) kc kn nx I J P := by subst hv; exact g_lmul hd k
theorem n_land {x y v : Int64} (hd : decode M.2.1 pc = .ok (.land, 1)) (hv : x &&& y = v) (k : pvG M R Z (pc + 1) ls (.long v :: st) kc kn nx I J P) : pvG M R Z pc ls (.long y :: .long x :: st) kc kn nx I J P := by subst hv; exact g_land hd k
theorem n_lor {x y v : Int64} (hd : decode M.2.1 pc = .ok (.lor, 1)) (hv : x ||| y = v) (k : pvG M R Z (pc + 1) ls (.long v :: st) kc kn nx I J P) : pvG M R Z pc ls (.long y :: .long x :: st) kc kn nx I J P := by subst hv; exact g_lor hd k
theorem n_lxor {x y v : Int64} (hd : decode M.2.1 pc = .ok (.lxor, 1)) (hv : x ^^^ y = v) (k : pvG M R Z (pc + 1) ls (.long v :: st) kc kn nx I J P) : pvG M R Z pc ls (.long y :: .long x :: st) kc kn nx I J P := by subst hv; exact g_lxor hd k
theorem n_lneg {x v : Int64} (hd : decode M.2.1 pc = .ok (.lneg, 1)) (hv : -x = v) (k : pvG M R Z (pc + 1) ls (.long v :: st) kc kn nx I J P) : pvG M R Z pc ls (.long x :: st) kc kn nx I J P := by subst hv; exact g_lneg hd k
theorem n_ldiv {x y v : Int64} (hd : decode M.2.1 pc = .ok (.ldiv, 1)) (hne : ¬ y = 0) (hv : x / y = v) (k : pvG M R Z (pc + 1) ls (.long v :: st) kc kn nx I J P) : pvG M R Z pc ls (.long y :: .long x :: st) kc kn nx I J P := by subst hv; exact g_ldiv hd hne k
theorem n_lshl {x v : Int64} {y : Int32} (hd : decode M.2.1 pc = .ok (.lshl, 1)) (hv : x <<< (y.toInt64 &&& 63) = v) (k : pvG M R Z (pc + 1) ls (.long v :: st) kc kn nx I J P) : pvG M R Z pc ls (.int y :: .long x :: st) kc kn nx I J P := by subst hv; exact g_lshl hd k
theorem n_lushr {x v : Int64} {y : Int32} (hd : decode M.2.1 pc = .ok (.lushr, 1)) (hv : (x.toUInt64 >>> (y.toInt64.toUInt64 &&& Int64.toUInt64 63)).toInt64 = v) (k : pvG M R Z (pc + 1) ls (.long v :: st) kc kn nx I J P) : pvG M R Z pc ls (.int y :: .long x :: st) kc kn nx I J P := by subst hv; exact g_lushr hd k
theorem n_i2l {x : Int32} {v : Int64} (hd : decode M.2.1 pc = .ok (.i2l, 1)) (hv : x.toInt64 = v) (k : pvG M R Z (pc + 1) ls (.long v :: st) kc kn nx I J P) : pvG M R Z pc ls (.int x :: st) kc kn nx I J P := by subst hv; exact g_i2l hd k
theorem n_l2i {x : Int64} {v : Int32} (hd : decode M.2.1 pc = .ok (.l2i, 1)) (hv : x.toInt32 = v) (k : pvG M R Z (pc + 1) ls (.int v :: st) kc kn nx I J P) : pvG M R Z pc ls (.long x :: st) kc kn nx I J P := by subst hv; exact g_l2i hd k
theorem n_icmp_eq {x y : Int32} {off : Int} {q : Prop} (tgt : Nat) (hd : decode M.2.1 pc = .ok (.if_icmp .eq off, 3)) (ht : (pc : Int) + off = (tgt : Int)) (hq : (x = y) ↔ q) (kt : q → pvG M R Z tgt ls st kc kn nx I J P) (kf : ¬ q → pvG M R Z (pc + 3) ls st kc kn nx I J P) : pvG M R Z pc ls (.int y :: .int x :: st) kc kn nx I J P := g_icmp_eq tgt hd ht (fun h => kt (hq.mp h)) (fun h => kf (fun z => h (hq.mpr z)))
theorem n_if_eq {x : Int32} {off : Int} {q : Prop} (tgt : Nat) (hd : decode M.2.1 pc = .ok (.ifCond .eq off, 3)) (ht : (pc : Int) + off = (tgt : Int)) (hq : (x = 0) ↔ q) (kt : q → pvG M R Z tgt ls st kc kn nx I J P) (kf : ¬ q → pvG M R Z (pc + 3) ls st kc kn nx I J P) : pvG M R Z pc ls (.int x :: st) kc kn nx I J P := g_if_eq tgt hd ht (fun h => kt (hq.mp h)) (fun h => kf (fun z => h (hq.mpr z)))
theorem n_icmp_ne {x y : Int32} {off : Int} {q : Prop} (tgt : Nat) (hd : decode M.2.1 pc = .ok (.if_icmp .ne off, 3)) (ht : (pc : Int) + off = (tgt : Int)) (hq : (x = y) ↔ q) (kt : ¬ q → pvG M R Z tgt ls st kc kn nx I J P) (kf : q → pvG M R Z (pc + 3) ls st kc kn nx I J P) : pvG M R Z pc ls (.int y :: .int x :: st) kc kn nx I J P := g_icmp_ne tgt hd ht (fun h => kt (fun z => h (hq.mpr z))) (fun h => kf (hq.mp (by first | exact h | exact Classical.not_not.mp h)))
theorem n_if_ne {x : Int32} {off : Int} {q : Prop} (tgt : Nat) (hd : decode M.2.1 pc = .ok (.ifCond .ne off, 3)) (ht : (pc : Int) + off = (tgt : Int)) (hq : (x = 0) ↔ q) (kt : ¬ q → pvG M R Z tgt ls st kc kn nx I J P) (kf : q → pvG M R Z (pc + 3) ls st kc kn nx I J P) : pvG M R Z pc ls (.int x :: st) kc kn nx I J P := g_if_ne tgt hd ht (fun h => kt (fun z => h (hq.mpr z))) (fun h => kf (hq.mp (by first | exact h | exact Classical.not_not.mp h)))
theorem n_icmp_lt {x y : Int32} {off : Int} {q : Prop} (tgt : Nat) (hd : decode M.2.1 pc = .ok (.if_icmp .lt off, 3)) (ht : (pc : Int) + off = (tgt : Int)) (hq : (x < y) ↔ q) (kt : q → pvG M R Z tgt ls st kc kn nx I J P) (kf : ¬ q → pvG M R Z (pc + 3) ls st kc kn nx I J P) : pvG M R Z pc ls (.int y :: .int x :: st) kc kn nx I J P := g_icmp_lt tgt hd ht (fun h => kt (hq.mp h)) (fun h => kf (fun z => h (hq.mpr z)))
theorem n_if_lt {x : Int32} {off : Int} {q : Prop} (tgt : Nat) (hd : decode M.2.1 pc = .ok (.ifCond .lt off, 3)) (ht : (pc : Int) + off = (tgt : Int)) (hq : (x < 0) ↔ q) (kt : q → pvG M R Z tgt ls st kc kn nx I J P) (kf : ¬ q → pvG M R Z (pc + 3) ls st kc kn nx I J P) : pvG M R Z pc ls (.int x :: st) kc kn nx I J P := g_if_lt tgt hd ht (fun h => kt (hq.mp h)) (fun h => kf (fun z => h (hq.mpr z)))
theorem n_icmp_ge {x y : Int32} {off : Int} {q : Prop} (tgt : Nat) (hd : decode M.2.1 pc = .ok (.if_icmp .ge off, 3)) (ht : (pc : Int) + off = (tgt : Int)) (hq : (y ≤ x) ↔ q) (kt : q → pvG M R Z tgt ls st kc kn nx I J P) (kf : ¬ q → pvG M R Z (pc + 3) ls st kc kn nx I J P) : pvG M R Z pc ls (.int y :: .int x :: st) kc kn nx I J P := g_icmp_ge tgt hd ht (fun h => kt (hq.mp h)) (fun h => kf (fun z => h (hq.mpr z)))
theorem n_if_ge {x : Int32} {off : Int} {q : Prop} (tgt : Nat) (hd : decode M.2.1 pc = .ok (.ifCond .ge off, 3)) (ht : (pc : Int) + off = (tgt : Int)) (hq : (0 ≤ x) ↔ q) (kt : q → pvG M R Z tgt ls st kc kn nx I J P) (kf : ¬ q → pvG M R Z (pc + 3) ls st kc kn nx I J P) : pvG M R Z pc ls (.int x :: st) kc kn nx I J P := g_if_ge tgt hd ht (fun h => kt (hq.mp h)) (fun h => kf (fun z => h (hq.mpr z)))
theorem n_icmp_gt {x y : Int32} {off : Int} {q : Prop} (tgt : Nat) (hd : decode M.2.1 pc = .ok (.if_icmp .gt off, 3)) (ht : (pc : Int) + off = (tgt : Int)) (hq : (y < x) ↔ q) (kt : q → pvG M R Z tgt ls st kc kn nx I J P) (kf : ¬ q → pvG M R Z (pc + 3) ls st kc kn nx I J P) : pvG M R Z pc ls (.int y :: .int x :: st) kc kn nx I J P := g_icmp_gt tgt hd ht (fun h => kt (hq.mp h)) (fun h => kf (fun z => h (hq.mpr z)))
theorem n_if_gt {x : Int32} {off : Int} {q : Prop} (tgt : Nat) (hd : decode M.2.1 pc = .ok (.ifCond .gt off, 3)) (ht : (pc : Int) + off = (tgt : Int)) (hq : (0 < x) ↔ q) (kt : q → pvG M R Z tgt ls st kc kn nx I J P) (kf : ¬ q → pvG M R Z (pc + 3) ls st kc kn nx I J P) : pvG M R Z pc ls (.int x :: st) kc kn nx I J P := g_if_gt tgt hd ht (fun h => kt (hq.mp h)) (fun h => kf (fun z => h (hq.mpr z)))
theorem n_icmp_le {x y : Int32} {off : Int} {q : Prop} (tgt : Nat) (hd : decode M.2.1 pc = .ok (.if_icmp .le off, 3)) (ht : (pc : Int) + off = (tgt : Int)) (hq : (x ≤ y) ↔ q) (kt : q → pvG M R Z tgt ls st kc kn nx I J P) (kf : ¬ q → pvG M R Z (pc + 3) ls st kc kn nx I J P) : pvG M R Z pc ls (.int y :: .int x :: st) kc kn nx I J P := g_icmp_le tgt hd ht (fun h => kt (hq.mp h)) (fun h => kf (fun z => h (hq.mpr z)))
theorem n_if_le {x : Int32} {off : Int} {q : Prop} (tgt : Nat) (hd : decode M.2.1 pc = .ok (.ifCond .le off, 3)) (ht : (pc : Int) + off = (tgt : Int)) (hq : (x ≤ 0) ↔ q) (kt : q → pvG M R Z tgt ls st kc kn nx I J P) (kf : ¬ q → pvG M R Z (pc + 3) ls st kc kn nx I J P) : pvG M R Z pc ls (.int x :: st) kc kn nx I J P := g_if_le tgt hd ht (fun h => kt (hq.mp h)) (fun h => kf (fun z => h (hq.mpr z)))
theorem n_iald {k n ix : Nat} {i v : Int32} (hd : decode M.2.1 pc = .ok (.iaload, 1)) (hsh : pvSH k = (0, n)) (h1 : 1 ≤ k) (h2 : k ≤ nx) (hn : n ≤ 100000) (hix : i = nI ix) (hlt : ix < n) (hv : I k ix = v) (kk : pvG M R Z (pc + 1) ls (.int v :: st) kc kn nx I J P) : pvG M R Z pc ls (.int i :: .ref k :: st) kc kn nx I J P := by subst hv; exact g_iald ix hd hsh h1 h2 hn hix hlt kk
theorem n_zald {k n ix : Nat} {i v : Int32} (hd : decode M.2.1 pc = .ok (.baload, 1)) (hsh : pvSH k = (2, n)) (h1 : 1 ≤ k) (h2 : k ≤ nx) (hn : n ≤ 100000) (hix : i = nI ix) (hlt : ix < n) (hv : I k ix = v) (kk : pvG M R Z (pc + 1) ls (.int v :: st) kc kn nx I J P) : pvG M R Z pc ls (.int i :: .ref k :: st) kc kn nx I J P := by subst hv; exact g_zald ix hd hsh h1 h2 hn hix hlt kk
theorem n_lald {k n ix : Nat} {i : Int32} {v : Int64} (hd : decode M.2.1 pc = .ok (.laload, 1)) (hsh : pvSH k = (1, n)) (h1 : 1 ≤ k) (h2 : k ≤ nx) (hn : n ≤ 100000) (hix : i = nI ix) (hlt : ix < n) (hv : J k ix = v) (kk : pvG M R Z (pc + 1) ls (.long v :: st) kc kn nx I J P) : pvG M R Z pc ls (.int i :: .ref k :: st) kc kn nx I J P := by subst hv; exact g_lald ix hd hsh h1 h2 hn hix hlt kk
theorem n_getI {own : String} {idx c j k n : Nat} {v : Int32} (hd : decode M.2.1 pc = .ok (.getfield idx, 3)) (hF : pvFd own idx c j) (ho : M.1.cls = own) (hsh : pvSH k = (c + 5, n)) (h1 : 1 ≤ k) (h2 : k ≤ nx) (hj : j < n) (hk : pv_kd (pvTy c j) = 0) (hv : I k j = v) (kk : pvG M R Z (pc + 3) ls (.int v :: st) kc kn nx I J P) : pvG M R Z pc ls (.ref k :: st) kc kn nx I J P := by subst hv; exact g_getI hd hF ho hsh h1 h2 hj hk kk
theorem n_getJ {own : String} {idx c j k n : Nat} {v : Int64} (hd : decode M.2.1 pc = .ok (.getfield idx, 3)) (hF : pvFd own idx c j) (ho : M.1.cls = own) (hsh : pvSH k = (c + 5, n)) (h1 : 1 ≤ k) (h2 : k ≤ nx) (hj : j < n) (hk : pv_kd (pvTy c j) = 1) (hv : J k j = v) (kk : pvG M R Z (pc + 3) ls (.long v :: st) kc kn nx I J P) : pvG M R Z pc ls (.ref k :: st) kc kn nx I J P := by subst hv; exact g_getJ hd hF ho hsh h1 h2 hj hk kk
theorem n_iast {k n ix : Nat} {i x : Int32} {I' : pvI} (hd : decode M.2.1 pc = .ok (.iastore, 1)) (hsh : pvSH k = (0, n)) (h1 : 1 ≤ k) (h2 : k ≤ nx) (h3 : 224 ≤ nx) (hn : n ≤ 100000) (hix : i = nI ix) (hlt : ix < n) (hI : pvu I k ix x = I') (kk : pvG M R Z (pc + 1) ls st kc kn nx I' J P) : pvG M R Z pc ls (.int x :: .int i :: .ref k :: st) kc kn nx I J P := by subst hI; exact g_iast ix hd hsh h1 h2 h3 hn hix hlt kk
theorem n_zast {k n ix : Nat} {i x : Int32} {I' : pvI} (hx : x = 0 ∨ x = 1) (hd : decode M.2.1 pc = .ok (.bastore, 1)) (hsh : pvSH k = (2, n)) (h1 : 1 ≤ k) (h2 : k ≤ nx) (h3 : 224 ≤ nx) (hn : n ≤ 100000) (hix : i = nI ix) (hlt : ix < n) (hI : pvu I k ix x = I') (kk : pvG M R Z (pc + 1) ls st kc kn nx I' J P) : pvG M R Z pc ls (.int x :: .int i :: .ref k :: st) kc kn nx I J P := by subst hI; exact g_zast ix hx hd hsh h1 h2 h3 hn hix hlt kk
theorem n_last {k n ix : Nat} {i : Int32} {x : Int64} {J' : pvJ} (hd : decode M.2.1 pc = .ok (.lastore, 1)) (hsh : pvSH k = (1, n)) (h1 : 1 ≤ k) (h2 : k ≤ nx) (h3 : 224 ≤ nx) (hn : n ≤ 100000) (hix : i = nI ix) (hlt : ix < n) (hJ : pvuJ J k ix x = J') (kk : pvG M R Z (pc + 1) ls st kc kn nx I J' P) : pvG M R Z pc ls (.long x :: .int i :: .ref k :: st) kc kn nx I J P := by subst hJ; exact g_last ix hd hsh h1 h2 h3 hn hix hlt kk
theorem n_putI {own : String} {idx c j k n : Nat} {x : Int32} {I' : pvI} (hd : decode M.2.1 pc = .ok (.putfield idx, 3)) (hF : pvFd own idx c j) (ho : M.1.cls = own) (hfin : pvFin c j = true → M.1.name = "<init>" ∧ ∃ C T N, vwCl[c]? = some (C, T, N) ∧ C = own) (hsh : pvSH k = (c + 5, n)) (h1 : 1 ≤ k) (h2 : k ≤ nx) (hj : j < n) (hk : pvTy c j = .int) (hI : pvu I k j x = I') (kk : pvG M R Z (pc + 3) ls st kc kn nx I' J P) : pvG M R Z pc ls (.int x :: .ref k :: st) kc kn nx I J P := by subst hI; exact g_putI hd hF ho hfin hsh h1 h2 hj hk kk
theorem n_putZ {own : String} {idx c j k n : Nat} {x : Int32} {I' : pvI} (hx : x = 0 ∨ x = 1) (hd : decode M.2.1 pc = .ok (.putfield idx, 3)) (hF : pvFd own idx c j) (ho : M.1.cls = own) (hfin : pvFin c j = true → M.1.name = "<init>" ∧ ∃ C T N, vwCl[c]? = some (C, T, N) ∧ C = own) (hsh : pvSH k = (c + 5, n)) (h1 : 1 ≤ k) (h2 : k ≤ nx) (hj : j < n) (hk : pvTy c j = .boolean) (hI : pvu I k j x = I') (kk : pvG M R Z (pc + 3) ls st kc kn nx I' J P) : pvG M R Z pc ls (.int x :: .ref k :: st) kc kn nx I J P := by subst hI; exact g_putZ hx hd hF ho hfin hsh h1 h2 hj hk kk
theorem n_putJ {own : String} {idx c j k n : Nat} {x : Int64} {J' : pvJ} (hd : decode M.2.1 pc = .ok (.putfield idx, 3)) (hF : pvFd own idx c j) (ho : M.1.cls = own) (hfin : pvFin c j = true → M.1.name = "<init>" ∧ ∃ C T N, vwCl[c]? = some (C, T, N) ∧ C = own) (hsh : pvSH k = (c + 5, n)) (h1 : 1 ≤ k) (h2 : k ≤ nx) (hj : j < n) (hk : pvTy c j = .long) (hJ : pvuJ J k j x = J') (kk : pvG M R Z (pc + 3) ls st kc kn nx I J' P) : pvG M R Z pc ls (.long x :: .ref k :: st) kc kn nx I J P := by subst hJ; exact g_putJ hd hF ho hfin hsh h1 h2 hj hk kk
end PVN
/-- whole arrays replaced -/
def pvs (I : pvI) (k : Nat) (f : Nat → Int32) : pvI := fun a => if a = k then f else I a
def pvsJ (J : pvJ) (k : Nat) (f : Nat → Int64) : pvJ := fun a => if a = k then f else J a
theorem pvs_eq {I : pvI} {k : Nat} {f : Nat → Int32} : pvs I k f k = f := by simp [pvs]
theorem pvs_ne {I : pvI} {k a : Nat} {f : Nat → Int32} (h : a ≠ k) : pvs I k f a = I a := by simp [pvs, h]
theorem pvs_pvs {I : pvI} {k : Nat} {f g : Nat → Int32} : pvs (pvs I k f) k g = pvs I k g := by
  funext a
  by_cases h : a = k <;> simp [pvs, h]
theorem pvs_self {I : pvI} {k : Nat} : pvs I k (I k) = I := by
  funext a
  by_cases h : a = k <;> simp [pvs, h]
theorem pvs_comm {I : pvI} {k l : Nat} {f g : Nat → Int32} (h : k ≠ l) : pvs (pvs I k f) l g = pvs (pvs I l g) k f := by
  funext a
  by_cases h1 : a = k
  · subst h1; simp [pvs, h]
  · by_cases h2 : a = l
    · subst h2
      simp [pvs, h1]
    · simp [pvs, h1, h2]
theorem pvu_pvs {I : pvI} {k j : Nat} {x : Int32} : pvu I k j x = pvs I k (upd (I k) j x) := rfl
theorem pvu_s {I : pvI} {k j : Nat} {f : Nat → Int32} {x : Int32} : pvu (pvs I k f) k j x = pvs I k (upd f j x) := by rw [pvu_pvs, pvs_eq, pvs_pvs]
theorem pvu_s2 {I : pvI} {k l j : Nat} {f : Nat → Int32} {x : Int32} (h : k ≠ l) : pvu (pvs I l f) k j x = pvs (pvu I k j x) l f := by rw [pvu_pvs, pvs_ne h, pvu_pvs, pvs_comm (Ne.symm h)]
theorem pvsJ_eq {J : pvJ} {k : Nat} {f : Nat → Int64} : pvsJ J k f k = f := by simp [pvsJ]
theorem pvsJ_ne {J : pvJ} {k a : Nat} {f : Nat → Int64} (h : a ≠ k) : pvsJ J k f a = J a := by simp [pvsJ, h]
theorem pvsJ_pvsJ {J : pvJ} {k : Nat} {f g : Nat → Int64} : pvsJ (pvsJ J k f) k g = pvsJ J k g := by
  funext a
  by_cases h : a = k <;> simp [pvsJ, h]
theorem pvsJ_self {J : pvJ} {k : Nat} : pvsJ J k (J k) = J := by
  funext a
  by_cases h : a = k <;> simp [pvsJ, h]
theorem pvuJ_pvs {J : pvJ} {k j : Nat} {x : Int64} : pvuJ J k j x = pvsJ J k (vp_updL (J k) j x) := rfl
theorem pvuJ_s {J : pvJ} {k j : Nat} {f : Nat → Int64} {x : Int64} : pvuJ (pvsJ J k f) k j x = pvsJ J k (vp_updL f j x) := by rw [pvuJ_pvs, pvsJ_eq, pvsJ_pvsJ]
-- comparisons of ints
theorem cN_lt {a b : Nat} (ha : a < 2 ^ 31) (hb : b < 2 ^ 31) : nI a < nI b ↔ a < b := nI_ltI ha hb
theorem cN_le {a b : Nat} (ha : a < 2 ^ 31) (hb : b < 2 ^ 31) : nI a ≤ nI b ↔ a ≤ b := nI_leI ha hb
theorem cN_eq {a b : Nat} (ha : a < 2 ^ 31) (hb : b < 2 ^ 31) : nI a = nI b ↔ a = b := nI_eq ha hb
theorem cN_lt0 {a : Nat} (ha : a < 2 ^ 31) : nI a < 0 ↔ False := ⟨fun h => absurd h (nI_pos ha), False.elim⟩
theorem cN_ge0 {a : Nat} (ha : a < 2 ^ 31) : 0 ≤ nI a ↔ True := ⟨fun _ => trivial, fun _ => nI_pos' ha⟩
theorem cN_gt0 {a : Nat} (ha : a < 2 ^ 31) : 0 < nI a ↔ 0 < a := cN_lt (a := 0) (by decide) ha
theorem cN_le0 {a : Nat} (ha : a < 2 ^ 31) : nI a ≤ 0 ↔ a = 0 := (cN_le (b := 0) ha (by decide)).trans (by omega)
theorem cN_eq0 {a : Nat} (ha : a < 2 ^ 31) : nI a = 0 ↔ a = 0 := cN_eq (b := 0) ha (by decide)
theorem cI_lt {x y : Int32} : x < y ↔ x.toInt < y.toInt := Int32.lt_iff_toInt_lt
theorem cI_le {x y : Int32} : x ≤ y ↔ x.toInt ≤ y.toInt := Int32.le_iff_toInt_le
theorem cI_ltn {x : Int32} {b : Nat} (hb : b < 2 ^ 31) : x < nI b ↔ x.toInt < b := by rw [cI_lt, nI_toInt hb]
theorem cI_len {x : Int32} {b : Nat} (hb : b < 2 ^ 31) : x ≤ nI b ↔ x.toInt ≤ b := by rw [cI_le, nI_toInt hb]
theorem cI_nlt {x : Int32} {b : Nat} (hb : b < 2 ^ 31) : nI b < x ↔ (b : Int) < x.toInt := by rw [cI_lt, nI_toInt hb]
theorem cI_nle {x : Int32} {b : Nat} (hb : b < 2 ^ 31) : nI b ≤ x ↔ (b : Int) ≤ x.toInt := by rw [cI_le, nI_toInt hb]
theorem cI_lt0 {x : Int32} : x < 0 ↔ x.toInt < 0 := cI_lt
theorem cI_ge0 {x : Int32} : 0 ≤ x ↔ 0 ≤ x.toInt := cI_le
theorem cI_gt0 {x : Int32} : 0 < x ↔ 0 < x.toInt := cI_lt
theorem cI_le0 {x : Int32} : x ≤ 0 ↔ x.toInt ≤ 0 := cI_le
theorem cI_eq {x y : Int32} : x = y ↔ x.toInt = y.toInt := Int32.toInt_inj.symm
theorem cI_eqn {x : Int32} {b : Nat} (hb : b < 2 ^ 31) : x = nI b ↔ x.toInt = b := by rw [cI_eq, nI_toInt hb]
theorem cI_of {x : Int32} {n : Nat} (h0 : 0 ≤ x.toInt) (h : x.toInt < n) (hn : n ≤ 2 ^ 31) : ∃ j : Nat, j < n ∧ x = nI j := by
  refine ⟨x.toInt.toNat, by omega, ?_⟩
  rw [cI_eq, nI_toInt (by omega)]
  omega
theorem cB (c : Prop) [Decidable c] : (if c then (1 : Int32) else 0) = 0 ↔ ¬ c := by
  by_cases h : c <;> simp [h]
theorem cB01 (c : Prop) [Decidable c] : (if c then (1 : Int32) else 0) = 0 ∨ (if c then (1 : Int32) else 0) = 1 := by
  by_cases h : c <;> simp [h]
/-- a call that changes nothing -/
def pvpu (v0 : Value) (nx : Nat) (I : pvI) (J : pvJ) (P : pvP) : pvQT := fun v nx' I' J' P' => v = some v0 ∧ nx' = nx ∧ I' = I ∧ J' = J ∧ P' = P
/-- a method's end that leaves references and size as they are -/
def pvq (P : pvP) (φ : Option Value → pvI → pvJ → Prop) : pvQT := fun v nx' I' J' P' => nx' = 224 ∧ P' = P ∧ φ v I' J'
section PVPU
variable {M : pvM} {R : Room} {Z : pvZT} {pc : Nat} {ls st : List Value} {kc kn nx : Nat} {I : pvI} {J : pvJ} {P : pvP}
theorem p_callV {M2 : pvM} {n d2 idx c nn a : Nat} {vs st0 : List Value} {v0 : Value} (hM : pvMet M2 d2 0 0 (.ref a :: vs) nx I J P (pvpu v0 nx I J P)) (hok : pvOk M2 n) (hlk : pvLV M.1.cls idx M2) (hn : vs.length = n) (hsh : pvSH a = (c + 5, nn)) (hcl : (vwCl[c]?).map (fun q => q.1) = some M2.1.cls) (h1 : 1 ≤ a) (h2 : a ≤ nx)
    (hd : decode M.2.1 pc = .ok (.invokevirtual idx, 3)) (hst : st0 = vs.reverse ++ .ref a :: st) (hcat : (st.map fun v => v.category).sum ≤ 8) (hR : d2 + 1 ≤ R.frames ∧ 8 + (M2.2.2.1 + 11) + 60 * d2 ≤ R.locals ∧ kc + 0 ≤ R.cells ∧ kn + 0 ≤ R.slots)
    (kk : pvG M R Z (pc + 3) ls (v0 :: st) kc kn nx I J P) : pvG M R Z pc ls st0 kc kn nx I J P :=
  g_callV hM hok hlk hn hsh hcl h1 h2 hd hst hcat hR (by rintro v nx' I' J' P' ⟨rfl, rfl, rfl, rfl, rfl⟩; exact kk)
theorem p_callS {M2 : pvM} {n d2 idx : Nat} {vs st0 : List Value} {v0 : Value} (hM : pvMet M2 d2 0 0 vs nx I J P (pvpu v0 nx I J P)) (hok : pvOk M2 n) (hlk : pvLS M.1.cls idx M2) (hn : vs.length = n)
    (hd : decode M.2.1 pc = .ok (.invokestatic idx, 3)) (hst : st0 = vs.reverse ++ st) (hcat : (st.map fun v => v.category).sum ≤ 8) (hR : d2 + 1 ≤ R.frames ∧ 8 + (M2.2.2.1 + 11) + 60 * d2 ≤ R.locals ∧ kc + 0 ≤ R.cells ∧ kn + 0 ≤ R.slots)
    (kk : pvG M R Z (pc + 3) ls (v0 :: st) kc kn nx I J P) : pvG M R Z pc ls st0 kc kn nx I J P :=
  g_callS hM hok hlk hn hd hst hcat hR (by rintro v nx' I' J' P' ⟨rfl, rfl, rfl, rfl, rfl⟩; exact kk)
theorem p_callNS {M2 : pvM} {n d2 idx : Nat} {vs st0 : List Value} {v0 : Value} (hM : pvMet M2 d2 0 0 vs nx I J P (pvpu v0 nx I J P)) (hok : pvOk M2 n) (hlk : pvNS M.1.cls idx M2) (hn : vs.length = n)
    (hd : decode M.2.1 pc = .ok (.invokestatic idx, 3)) (hst : st0 = vs.reverse ++ st) (hcat : (st.map fun v => v.category).sum ≤ 8) (hR : d2 + 1 ≤ R.frames ∧ 8 + (M2.2.2.1 + 11) + 60 * d2 ≤ R.locals ∧ kc + 0 ≤ R.cells ∧ kn + 0 ≤ R.slots)
    (kk : pvG M R Z (pc + 3) ls (v0 :: st) kc kn nx I J P) : pvG M R Z pc ls st0 kc kn nx I J P :=
  g_callNS hM hok hlk hn hd hst hcat hR (by rintro v nx' I' J' P' ⟨rfl, rfl, rfl, rfl, rfl⟩; exact kk)
/-- the same method under another room -/
theorem pv_ixz {z : Nat} (h : z < 2 ^ 31) : ¬ nI z < 0 := nI_pos h
theorem g_copyI {idx ks kd n N : Nat} {R0 : Nat} (hd : decode M.2.1 pc = .ok (.invokestatic idx, 3)) (hlk : Cond.methodLink M.1.cls idx arraycopyName ∈ pv_T) (hnat : Cond.native arraycopyName ∈ pv_T) (hsta : Cond.static arraycopyName ∈ pv_T) (hini : Cond.initialized "java/lang/System" ∈ pv_T)
    (hs : pvSH ks = (0, n)) (hs' : pvSH kd = (0, n)) (h1 : 1 ≤ ks) (h2 : ks ≤ nx) (h3 : 1 ≤ kd) (h4 : kd ≤ nx) (h5 : 224 ≤ nx) (hN : N ≤ n) (hn : n ≤ 100000) (hfr : 1 ≤ R.frames) (hlo : (st.map fun v => v.category).sum + (nativeFrameWords "java/lang/System" "arraycopy" 5 + 11) ≤ R.locals)
    (kk : pvG M R Z (pc + 3) ls st kc kn nx (pvs I kd (va_cpy (I ks) (I kd) 0 0 N)) J P) : pvG M R Z pc ls (.int (nI N) :: .int (nI 0) :: .ref kd :: .int (nI 0) :: .ref ks :: st) kc kn nx I J P := by
  intro X p l e s m args below meth c0 H locs als hC hL
  obtain ⟨c1, c2, c3, c4, c5, c6, c7, c8, c9, c10, c11, c12, c13⟩ := id hC
  have e0 : (nI 0).toNatClampNeg = 0 := nI_clamp (by decide)
  have eN : (nI N).toNatClampNeg = N := nI_clamp (by omega)
  refine va_copyi (a := pvad X kd) (a0 := pvad X ks) (ty := .int) c1 c2 (c3.trans hL.1.symm) c6 (c8 _ hlk) (c8 _ hnat) (c8 _ hsta) (c8 _ hini) c9 c12.2.2.2.2 pvW_D c11 (ks - 1) (kd - 1) 0 0 (f := I ks) (g := I kd) (n0 := n) (n1 := n) (c0 := X.2.2.2.1 0) (c1 := X.2.2.2.1 0) (by rw [pvat h1 h2 c12.2.2.1, pvE_i hs]) (by rw [pvat h3 h4 c12.2.2.1, pvE_i hs']) rfl rfl rfl (nI_pos (by decide)) (nI_pos (by decide)) (nI_pos (by omega)) (by omega) (by omega) (fun i _ => rfl) hfr (by rw [pv_mapcat]; exact hlo) hd (fun H1 locs1 hP hD hS => ?_)
  rw [e0, eN] at hP
  exact kk X p l e s m args below meth c0 H1 locs1 als ⟨c1, c2, c3, c4, c5, c6, c7, c8, c9, c10, hS, c12.put c10 c11 hS (fun h => by omega) h3 h4 hP (by rw [pvE_i hs', pvs_eq]) (fun a h => pvs_ne h) (fun a h => rfl) (fun a h => rfl), c13⟩ hL
theorem g_copyJ {idx ks kd n N : Nat} {R0 : Nat} (hd : decode M.2.1 pc = .ok (.invokestatic idx, 3)) (hlk : Cond.methodLink M.1.cls idx arraycopyName ∈ pv_T) (hnat : Cond.native arraycopyName ∈ pv_T) (hsta : Cond.static arraycopyName ∈ pv_T) (hini : Cond.initialized "java/lang/System" ∈ pv_T)
    (hs : pvSH ks = (1, n)) (hs' : pvSH kd = (1, n)) (h1 : 1 ≤ ks) (h2 : ks ≤ nx) (h3 : 1 ≤ kd) (h4 : kd ≤ nx) (h5 : 224 ≤ nx) (hN : N ≤ n) (hn : n ≤ 100000) (hfr : 1 ≤ R.frames) (hlo : (st.map fun v => v.category).sum + (nativeFrameWords "java/lang/System" "arraycopy" 5 + 11) ≤ R.locals)
    (kk : pvG M R Z (pc + 3) ls st kc kn nx I (pvsJ J kd (va_cpy (J ks) (J kd) 0 0 N)) P) : pvG M R Z pc ls (.int (nI N) :: .int (nI 0) :: .ref kd :: .int (nI 0) :: .ref ks :: st) kc kn nx I J P := by
  intro X p l e s m args below meth c0 H locs als hC hL
  obtain ⟨c1, c2, c3, c4, c5, c6, c7, c8, c9, c10, c11, c12, c13⟩ := id hC
  have e0 : (nI 0).toNatClampNeg = 0 := nI_clamp (by decide)
  have eN : (nI N).toNatClampNeg = N := nI_clamp (by omega)
  refine va_copyl (a := pvad X kd) (a0 := pvad X ks) (ty := .long) c1 c2 (c3.trans hL.1.symm) c6 (c8 _ hlk) (c8 _ hnat) (c8 _ hsta) (c8 _ hini) c9 c12.2.2.2.2 pvW_D c11 (ks - 1) (kd - 1) 1 1 (f := J ks) (g := J kd) (n0 := n) (n1 := n) (c0 := X.2.2.2.1 1) (c1 := X.2.2.2.1 1) (by rw [pvat h1 h2 c12.2.2.1, pvE_l hs]) (by rw [pvat h3 h4 c12.2.2.1, pvE_l hs']) rfl rfl rfl (nI_pos (by decide)) (nI_pos (by decide)) (nI_pos (by omega)) (by omega) (by omega) (fun i _ => rfl) hfr (by rw [pv_mapcat]; exact hlo) hd (fun H1 locs1 hP hD hS => ?_)
  rw [e0, eN] at hP
  exact kk X p l e s m args below meth c0 H1 locs1 als ⟨c1, c2, c3, c4, c5, c6, c7, c8, c9, c10, hS, c12.put c10 c11 hS (fun h => by omega) h3 h4 hP (by rw [pvE_l hs', pvsJ_eq]) (fun a h => rfl) (fun a h => pvsJ_ne h) (fun a h => rfl), c13⟩ hL
end PVPU
/-- the references as the constructors lay them (but for the reader's act, which changes) -/
def pv_wP (b j : Nat) : Nat → Option Nat := fun s => match j, s with
  | 0, 1 => some 2 | 0, 2 => some (b + 1) | 0, 3 => some (b + 6) | 0, 4 => some (b + 17) | 0, 5 => some (b + 24) | 0, 6 => some (b + 36) | 0, 7 => some (b + 40)
  | 1, 0 => some 2 | 1, 1 => some (b + 2) | 1, 2 => some (b + 3) | 1, 3 => some (b + 4) | 1, 4 => some (b + 5)
  | 6, 1 => some (b + 7) | 6, 2 => some (b + 8) | 6, 3 => some (b + 9) | 6, 4 => some (b + 10) | 6, 6 => some (b + 11) | 6, 7 => some (b + 12) | 6, 8 => some (b + 13) | 6, 9 => some (b + 14) | 6, 10 => some (b + 15) | 6, 11 => some (b + 16)
  | 17, 1 => some (b + 18) | 17, 2 => some (b + 19) | 17, 4 => some (b + 20) | 17, 5 => some (b + 21) | 17, 6 => some (b + 22) | 17, 7 => some (b + 23)
  | 24, 1 => some (b + 25) | 24, 2 => some (b + 26) | 24, 3 => some (b + 27) | 24, 4 => some (b + 28) | 24, 5 => some (b + 29) | 24, 7 => some (b + 30) | 24, 8 => some (b + 31) | 24, 9 => some (b + 32) | 24, 10 => some (b + 33) | 24, 11 => some (b + 34) | 24, 12 => some (b + 35)
  | 36, 2 => some (b + 37) | 36, 3 => some (b + 38) | 36, 4 => some (b + 39)
  | 40, 1 => some (b + 41) | 40, 2 => some (b + 42)
  | _, _ => none
def pv_mP (s : Nat) : Option Nat := match s with
  | 2 => some 203 | 3 => some 204 | 4 => some 205 | 5 => some 206 | 6 => some 207 | 7 => some 208 | 8 => some 209 | 9 => some 210 | 10 => some 211 | 11 => some 212 | 12 => some 213 | 13 => some 214 | 14 => some 215 | 15 => some 216 | 16 => some 217
  | 30 => some 218 | 34 => some 219 | 35 => some 220 | 36 => some 221 | 37 => some 222 | 38 => some 223 | 41 => some 224
  | _ => none
def pv_sP (s : Nat) : Option Nat := match s with
  | 0 => some 2 | 1 => some 3 | 2 => some 46 | 3 => some 89 | 4 => some 138 | 5 => some 144 | 6 => some 148 | 7 => some 199 | 8 => some 200 | 9 => some 201
  | _ => none
def pv_tP (s : Nat) : Option Nat := match s with
  | 0 => some 145 | 4 => some 146 | 5 => some 147
  | _ => none
def pvPP (k j : Nat) : Option Nat :=
  if k = 202 then pv_mP j else if k = 1 then pv_sP j else if k = 144 then pv_tP j else if k < 3 then none else if k < 46 then pv_wP 3 (k - 3) j else if k < 89 then pv_wP 46 (k - 46) j
  else if k = 89 then (if j < 8 then some (90 + 6 * j) else none) else if k < 144 then (if (k - 90) % 6 = 0 ∧ 10 ≤ j ∧ j ≤ 14 then some (k + (j - 9)) else none)
  else if k = 148 then (if j < 10 then some (149 + 5 * j) else none) else if k < 199 then (if (k - 149) % 5 = 0 ∧ 149 ≤ k ∧ 2 ≤ j ∧ j ≤ 5 then some (k + (j - 1)) else none) else none
def pvOkP (P : pvP) : Prop := ∀ k j a, pvPP k j = some a → P k j = some a
