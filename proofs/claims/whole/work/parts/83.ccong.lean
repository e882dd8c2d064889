/-! class: what a fire depends on -/
theorem bfs_cong {n : Nat} {ho op op' : Nat → Bool} {adj : Nat → Nat → Bool} (hop : ∀ c, c < n → op' c = op c) (hadj : ∀ x c, x < n → adj x c = true → c < n) : ∀ j, bfs n ho op' adj j = bfs n ho op adj j
  | 0 => rfl
  | j + 1 => by
    have ih := bfs_cong (ho := ho) hop hadj j
    have key : ∀ c, (op' c && !(bfs n ho op adj j).2 c && anyB (fun x => (bfs n ho op adj j).1 x && adj x c) n) = (op c && !(bfs n ho op adj j).2 c && anyB (fun x => (bfs n ho op adj j).1 x && adj x c) n) := fun c => by
      by_cases hc : c < n
      · rw [hop c hc]
      · have : anyB (fun x => (bfs n ho op adj j).1 x && adj x c) n = false := Bool.eq_false_iff.mpr (fun z => by
          obtain ⟨x, x1, x2⟩ := anyB_iff.mp z
          rw [Bool.and_eq_true] at x2
          exact hc (hadj x c x1 x2.2))
        rw [this, Bool.and_false, Bool.and_false]
    show ((fun c => op' c && !(bfs n ho op' adj j).2 c && anyB (fun x => (bfs n ho op' adj j).1 x && adj x c) n), fun c => (bfs n ho op' adj j).2 c || (op' c && !(bfs n ho op' adj j).2 c && anyB (fun x => (bfs n ho op' adj j).1 x && adj x c) n)) = _
    rw [ih]
    show _ = ((fun c => op c && !(bfs n ho op adj j).2 c && anyB (fun x => (bfs n ho op adj j).1 x && adj x c) n), fun c => (bfs n ho op adj j).2 c || (op c && !(bfs n ho op adj j).2 c && anyB (fun x => (bfs n ho op adj j).1 x && adj x c) n))
    simp only [key]
theorem adj_lt {w h x c : Nat} (hw : 0 < w) (hx : x < w * h) (z : adjB w h x c = true) : c < w * h := by
  obtain ⟨d, -, d2⟩ := anyB_iff.mp z
  exact sp_nb_lt hw hx (of_decide_eq_true d2)
section CNG
variable {w h : Nat} {a a' : Nat → Int32} {wl m : Nat} {wo : Option Nat}
theorem auF_cong {op op' : Nat → Bool} (hw : 0 < w) (h13 : cnt a' 13 = cnt a 13) (hho : hoB a' m wo = hoB a m wo) (hop : ∀ c, c < w * h → op' c = op c) {c : Nat} (hc : c < w * h) : auF w h a' m wo op' c = auF w h a m wo op c := by
  have e : ∀ j, airL w h a' m wo op' j = airL w h a m wo op j := fun j => by
    show bfs (w * h) (hoB a' m wo) op' (adjB w h) j = bfs (w * h) (hoB a m wo) op (adjB w h) j
    rw [hho]
    exact bfs_cong hop (fun x c hx z => adj_lt hw hx z) j
  unfold auF
  rw [h13, e, e, hop c hc]
  congr 2
  apply anyB_cong
  intro d hd
  cases hn : sp_nb w h c d with
  | none => rfl
  | some x => simp only [hop x (sp_nb_lt hw hc hn)]
/-- the same ground, rules and state -/
def sGr (w h : Nat) (a a' : Nat → Int32) : Prop := (∀ c, c < w * h → cnt a' (20 + c) = cnt a (20 + c)) ∧ (∀ c, c < 64 → cnt a' (84 + c) = cnt a (84 + c)) ∧ cnt a' 11 = cnt a 11 ∧ cnt a' 12 = cnt a 12 ∧ cnt a' 13 = cnt a 13
theorem cutb_cong (hcut : ∀ j, j < m → cutw w h a' j = cutw w h a j) : cutb w h a' m = cutb w h a m := by
  induction m with
  | zero => rfl
  | succ m ih =>
    funext c
    show (cutb w h a' m c || cutw w h a' m c) = (cutb w h a m c || cutw w h a m c)
    rw [ih (fun j hj => hcut j (by omega)), hcut m (by omega)]
theorem cuB_cong (hcut : ∀ j, j < m → cutw w h a' j = cutw w h a j) : cuB w h a' m = cuB w h a m := by
  funext c
  unfold cuB
  rw [cutb_cong hcut]
theorem fair_cong {b : fS} (hw : 0 < w) (hg : sGr w h a a') (hwh : w * h ≤ 64) (hcut : ∀ j, j ≤ m → cutw w h a' j = cutw w h a j) (hfl : ∀ c, c < 64 → flw a' wl (m + 1) c = flw a wl (m + 1) c) (hho : hoB a' m wo = hoB a m wo) {c : Nat} (hc : c < w * h) : fair w h a' wl wo m b c = fair w h a wl wo m b c := by
  unfold fair
  refine auF_cong hw hg.2.2.2.2 hho (fun x hx => ?_) hc
  unfold opF
  apply decide_eq_decide.mpr
  show (b.1 x = 2 ∨ (cnt a' (20 + x) = 3 ∧ cuB w h a' (m + 1) x = 0 ∧ (if x < 64 then flw a' wl (m + 1) x else 0) < 20)) ↔ (b.1 x = 2 ∨ (cnt a (20 + x) = 3 ∧ cuB w h a (m + 1) x = 0 ∧ (if x < 64 then flw a wl (m + 1) x else 0) < 20))
  rw [cuB_cong (fun j hj => hcut j (by omega)), hg.1 x hx, if_pos (show x < 64 by omega), if_pos (show x < 64 by omega), hfl x (by omega)]
theorem fburn_cong {b : fS} (hw : 0 < w) (hg : sGr w h a a') (hwh : w * h ≤ 64) (hcut : ∀ j, j ≤ m → cutw w h a' j = cutw w h a j) (hfl : ∀ c, c < 64 → flw a' wl (m + 1) c = flw a wl (m + 1) c) (hho : hoB a' m wo = hoB a m wo) : fburn w h a' wl wo m b = fburn w h a wl wo m b := by
  have hf : ∀ c, c < w * h → fair w h a' wl wo m b c = fair w h a wl wo m b c := fun c hc => fair_cong hw hg hwh hcut hfl hho hc
  have hbo : ∀ c, c < w * h → boX a' (fair w h a' wl wo m b) c = boX a (fair w h a wl wo m b) c := fun c hc => by
    unfold boX
    rw [hf c hc, hg.2.2.2.1]
  have fc : ∀ {f g s : Nat → Nat}, (∀ c, c < w * h → f c = g c) → filN f s (w * h) = filN g s (w * h) := fun {f g s} hz => by
    funext c
    unfold filN
    split
    · rename_i hc; exact hz c hc
    · rfl
  have hht : ∀ c, c < w * h → htB w h (fair w h a' wl wo m b) b.1 b.2.1 b.2.2 c = htB w h (fair w h a wl wo m b) b.1 b.2.1 b.2.2 c := fun c hc => by
    unfold htB
    rw [hf c hc]
  unfold fburn
  rw [fc (f := stB w h a' (fair w h a' wl wo m b) b.1 b.2.1 b.2.2) (g := stB w h a (fair w h a wl wo m b) b.1 b.2.1 b.2.2) (fun c hc => by
    unfold stB
    rw [hbo c hc, hht c hc, hf c hc, hg.2.2.1]), fc (f := lfB a' (fair w h a' wl wo m b) b.1 b.2.1) (g := lfB a (fair w h a wl wo m b) b.1 b.2.1) (fun c hc => by
    unfold lfB
    rw [hbo c hc]), fc hht]
theorem fbeg_cong {s : Nat} {r : fS} (hs : cnt a' (260 + 2 * s) = cnt a (260 + 2 * s) ∧ cnt a' (260 + 2 * s + 1) = cnt a (260 + 2 * s + 1)) (hcut : ∀ j, j ≤ m → cutw w h a' j = cutw w h a j) : fbeg w h a' s m r = fbeg w h a s m r := by
  unfold fbeg nw1
  rw [hcut m (Nat.le_refl m), cuB_cong (fun j hj => hcut j (by omega)), hs.1, hs.2]
theorem fraw_cong {s : Nat} (hw : 0 < w) (hwh : w * h ≤ 64) (hg : sGr w h a a') (hs : cnt a' (260 + 2 * s) = cnt a (260 + 2 * s) ∧ cnt a' (260 + 2 * s + 1) = cnt a (260 + 2 * s + 1)) : ∀ m, (∀ j, j < m → cutw w h a' j = cutw w h a j) → (∀ j, j < m → ∀ c, c < 64 → flw a' wl (j + 1) c = flw a wl (j + 1) c) → (∀ j, j < m → hoB a' j wo = hoB a j wo) → fraw w h a' wl wo s m = fraw w h a wl wo s m
  | 0, _, _, _ => by
    show ((fun _ => 0, fun c => if c < 64 then cnt a' (84 + c) else 0, fun _ => 0) : fS) = (fun _ => 0, fun c => if c < 64 then cnt a (84 + c) else 0, fun _ => 0)
    have : (fun c => if c < 64 then cnt a' (84 + c) else 0) = (fun c => if c < 64 then cnt a (84 + c) else 0) := by
      funext c
      split
      · rename_i hc; exact hg.2.1 c hc
      · rfl
    rw [this]
  | m + 1, h1, h2, h3 => by
    show fburn w h a' wl wo m (fbeg w h a' s m (fraw w h a' wl wo s m)) = fburn w h a wl wo m (fbeg w h a s m (fraw w h a wl wo s m))
    rw [fraw_cong hw hwh hg hs m (fun j hj => h1 j (by omega)) (fun j hj => h2 j (by omega)) (fun j hj => h3 j (by omega)), fbeg_cong hs (fun j hj => h1 j (by omega)), fburn_cong hw hg hwh (fun j hj => h1 j (by omega)) (h2 m (by omega)) (h3 m (by omega))]
theorem fwk_cong {s : Nat} (hw : 0 < w) (hwh : w * h ≤ 64) (hg : sGr w h a a') (hs : cnt a' (260 + 2 * s) = cnt a (260 + 2 * s) ∧ cnt a' (260 + 2 * s + 1) = cnt a (260 + 2 * s + 1)) (h1 : ∀ j, j ≤ m → cutw w h a' j = cutw w h a j) (h2 : ∀ j, j < m → ∀ c, c < 64 → flw a' wl (j + 1) c = flw a wl (j + 1) c) (h3 : ∀ j, j < m → hoB a' j wo = hoB a j wo) : fwk w h a' wl wo s m = fwk w h a wl wo s m ∧ metB w h a' wl wo s m = metB w h a wl wo s m := by
  have e := fraw_cong (s := s) hw hwh hg hs m (fun j hj => h1 j (by omega)) h2 h3
  refine ⟨?_, ?_⟩
  · unfold fwk
    rw [e, fbeg_cong hs h1]
  · unfold metB nw1
    rw [e, cuB_cong (fun j hj => h1 j (by omega)), hs.1, hs.2]
end CNG
