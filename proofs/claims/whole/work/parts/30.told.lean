/-! what is told: names, numbers left out, factors, nothing; the class's cells -/
def OKC (v : Mem) : Prop := OK3 v ∧ WT (gC v) (tC v) ∧ (t_x (tC v) = -1000 ∨ (0 ≤ t_x (tC v) ∧ t_x (tC v) < g_r (gC v)))
def nmG (g : Cfg) (lo hi : Int) : Cfg := (g_n g + 1, g_r g, g_a g, g_f g, fun n k => if n = g_n g then decide (lo + 32 ≤ k ∧ k ≤ hi + 32) else g_i g n k)
def lvG (g : Cfg) (n z : Int) : Cfg := (g_n g, g_r g, g_a g, g_f g, cS (g_i g) n (z + 32))
/-- (row 12 + r is no row: the cells of its names are those of r's factors) -/
def fcG (g : Cfg) (r : Nat) (n f : Int) : Cfg := (g_n g, g_r g, fun q j => if q = 12 + r ∧ j = n then f else g_a g q j, fun q x => if q = r ∧ x = n then f else g_f g q x, g_i g)
def clG (g : Cfg) : Cfg := (0, 0, g_a g, g_f g, g_i g)
theorem KC.kr {v : Mem} (h : KC v) : KR v := h.2
theorem bA_all {v w : Mem} {g : Cfg} (hg : gC w = g) (hI : IC w) (h7 : SpOk w 7) (h19 : SpOk w 19) (hK : KR w) (ht : tC w = tC v) : gC (bA w) = g ∧ tC (bA w) = anT g (tC v) ∧ OKC (bA w) := by
  have e1 : gC (bA w) = g := by rw [bA_Fr.g, hg]
  have e2 : tC (bA w) = anT g (tC v) := by rw [bA_t, hg, ht]
  refine ⟨e1, e2, bA_ok hI h7 h19 hK, ?_, ?_⟩
  · rw [e1, e2]
    apply WT_an
    rw [← hg]
    exact hI.1.2
  · rw [e2]; exact Or.inl rfl
theorem clear_C {v : Mem} (h : OKC v) : gC (bA (wI (wI v 1 0 0) 10 0 0)) = clG (gC v) ∧ tC (bA (wI (wI v 1 0 0) 10 0 0)) = anT (clG (gC v)) (tC v) ∧ OKC (bA (wI (wI v 1 0 0) 10 0 0)) := by
  obtain ⟨⟨hI, hJ, hK, hN⟩, hW, hX⟩ := h
  have c1 : ∀ i, i ≠ 1 → i ≠ 10 → (wI (wI v 1 0 0) 10 0 0).1 i = v.1 i := fun i q1 q2 => by rw [wI_c q2, wI_c q1]
  have a1 : (wI (wI v 1 0 0) 10 0 0).1 1 0 = 0 := by rw [wI_c (by decide), wI_s]
  have a10 : (wI (wI v 1 0 0) 10 0 0).1 10 0 = 0 := wI_s
  have hg : gC (wI (wI v 1 0 0) 10 0 0) = clG (gC v) := by
    unfold gC clG
    rw [a1, a10]
    have e1 : (fun (r : Nat) (j : Int) => (wI (wI v 1 0 0) 10 0 0).1 (40 + r) j) = fun r j => v.1 (40 + r) j := by funext r; rw [c1 (40 + r) (by omega) (by omega)]
    have e2 : (fun (r : Nat) (j : Int) => (wI (wI v 1 0 0) 10 0 0).1 (52 + r) j) = fun r j => v.1 (52 + r) j := by funext r; rw [c1 (52 + r) (by omega) (by omega)]
    rw [e1, e2]
    rfl
  refine bA_all hg ⟨by omega, by omega, fun r hr => ?_, fun r x q => by omega, ?_, fun n q1 q2 => by omega, fun n q1 q2 => by omega, fun r x q1 q2 => by rw [c1 _ (by omega) (by omega)]; exact hI.2.2.2.2.2.2.2 r x q1 q2⟩ ?_ ?_ ?_ ?_
  · exact (hI.2.2.1 r hr).cg (c1 _ (by omega) (by omega)) (c1 _ (by omega) (by omega))
  · intro x; rw [c1 (4 + 1) (by decide) (by decide), c1 (4 + 2) (by decide) (by decide)]; exact hI.2.2.2.2.1 x
  · intro x; rw [c1 (7 + 1) (by decide) (by decide), c1 (7 + 2) (by decide) (by decide)]; exact hJ.1 x
  · intro x; rw [c1 (19 + 1) (by decide) (by decide), c1 (19 + 2) (by decide) (by decide)]; exact hJ.2.1 x
  · unfold KR; rw [c1 13 (by decide) (by decide), c1 14 (by decide) (by decide), c1 15 (by decide) (by decide), c1 17 (by decide) (by decide)]; exact hK.kr
  · unfold tC; rw [c1 12 (by decide) (by decide), c1 13 (by decide) (by decide), c1 14 (by decide) (by decide), c1 15 (by decide) (by decide), c1 16 (by decide) (by decide), c1 17 (by decide) (by decide), c1 18 (by decide) (by decide)]; rfl
theorem factor_C {v : Mem} (h : OKC v) {r : Nat} {n f : Int} (hr : (r : Int) < v.1 10 0) (hn : 0 ≤ n ∧ n < v.1 1 0) (hf : -9 ≤ f ∧ f ≤ 9) (hk : v.1 (40 + r) 0 ≤ 1 ∨ 8 ≤ v.1 (40 + r) 0) (ha : v.1 (40 + r) 1 ≠ n) : gC (bA (wI v (52 + r) n f)) = fcG (gC v) r n f ∧ tC (bA (wI v (52 + r) n f)) = anT (fcG (gC v) r n f) (tC v) ∧ OKC (bA (wI v (52 + r) n f)) := by
  obtain ⟨⟨hI, hJ, hK, hN⟩, hW, hX⟩ := h
  obtain ⟨i1, i2, i3, i4, i5, i6, i7⟩ := id hI
  have hr12 : r < 12 := by omega
  have c1 : ∀ i, i ≠ 52 + r → (wI v (52 + r) n f).1 i = v.1 i := fun i q => wI_c q
  have hfe : ∀ (q : Nat) (x : Int), (wI v (52 + r) n f).1 (52 + q) x = if q = r ∧ x = n then f else v.1 (52 + q) x := by
    intro q x
    by_cases e : q = r
    · subst e
      by_cases e2 : x = n
      · subst e2; rw [wI_s, if_pos ⟨rfl, rfl⟩]
      · rw [wI_n e2, if_neg (fun z => e2 z.2)]
    · rw [wI_c (by omega), if_neg (fun z => e z.1)]
  have hg : gC (wI v (52 + r) n f) = fcG (gC v) r n f := by
    unfold gC fcG
    rw [c1 1 (by omega), c1 10 (by omega)]
    have e1 : (fun (q : Nat) (j : Int) => (wI v (52 + r) n f).1 (40 + q) j) = fun q j => if q = 12 + r ∧ j = n then f else v.1 (40 + q) j := by
      funext q j
      by_cases e : q = 12 + r
      · subst e
        rw [show 40 + (12 + r) = 52 + r by omega]
        by_cases e2 : j = n
        · subst e2; rw [wI_s, if_pos ⟨rfl, rfl⟩]
        · rw [wI_n e2, if_neg (fun z => e2 z.2)]
      · rw [wI_c (by omega), if_neg (fun z => e z.1)]
    have e2 : (fun (q : Nat) (j : Int) => (wI v (52 + r) n f).1 (52 + q) j) = fun q x => if q = r ∧ x = n then f else v.1 (52 + q) x := by funext q x; exact hfe q x
    rw [e1, e2]
    rfl
  have hrow : ∀ q : Nat, q < 12 → (wI v (52 + r) n f).1 (40 + q) = v.1 (40 + q) := fun q hq => wI_c (by omega)
  refine bA_all hg ⟨?_, ?_, fun q hq => ?_, fun q x q1 q2 q3 => ?_, ?_, ?_, ?_, ?_⟩ ?_ ?_ ?_ ?_
  · rw [c1 1 (by omega)]; exact i1
  · rw [c1 10 (by omega)]; exact i2
  · have hb := i3 q hq
    unfold RwOk at hb ⊢
    rw [hrow q hq]
    by_cases e : q = r
    · subst e
      obtain ⟨k0, a0, b0, c0, R0, f0, kA, kB, kC, kD, kE⟩ := hb
      refine ⟨k0, a0, b0, c0, R0, fun x => ?_, kA, kB, kC, fun q1 => ?_, fun q1 q2 => by omega⟩
      · rw [hfe]
        have := f0 x
        split <;> omega
      · have := kD q1
        rw [hfe, if_neg (by omega)]
        exact this
    · rw [wI_c (by omega)]; exact hb
  · rw [c1 10 (by omega)] at q1
    rw [c1 1 (by omega)]
    by_cases e : q = r ∧ x = n
    · omega
    · apply i4 q x q1 _ q3
      have q2' : x = (wI v (52 + r) n f).1 (40 + q) 1 ∨ x = (wI v (52 + r) n f).1 (40 + q) 2 ∨ x = (wI v (52 + r) n f).1 (40 + q) 3 ∨ (wI v (52 + r) n f).1 (52 + q) x ≠ 0 := q2
      rw [hrow q (by omega), hfe, if_neg e] at q2'
      exact q2'
  · intro x; rw [c1 (4 + 1) (by omega), c1 (4 + 2) (by omega)]; exact i5 x
  · rw [hg, c1 1 (by omega), c1 5 (by omega), c1 6 (by omega)]; exact i6
  · rw [hg, c1 1 (by omega)]; exact i7.1
  · intro q x q1 q2; rw [hfe, if_neg (by omega)]; exact i7.2 q x q1 q2
  · intro x; rw [c1 (7 + 1) (by omega), c1 (7 + 2) (by omega)]; exact hJ.1 x
  · intro x; rw [c1 (19 + 1) (by omega), c1 (19 + 2) (by omega)]; exact hJ.2.1 x
  · unfold KR; rw [c1 13 (by omega), c1 14 (by omega), c1 15 (by omega), c1 17 (by omega)]; exact hK.kr
  · unfold tC; rw [c1 12 (by omega), c1 13 (by omega), c1 14 (by omega), c1 15 (by omega), c1 16 (by omega), c1 17 (by omega), c1 18 (by omega)]; rfl
/-- a FIRST set is laid anew -/
theorem first_C {v : Mem} {n : Int} {W : Int64} (hn : 0 ≤ n ∧ n < 8) (hW : uW W ≠ 0) (hI : IC v) (hJ : JC v) (hK : KC v) (hc : v.1 1 0 = n ∨ n < v.1 1 0) {w : Mem} (hw : w = fitM (wL v 2 n W) 4 n W) :
    (∀ i, i ≠ 5 → i ≠ 6 → w.1 i = v.1 i) ∧ (∀ i, i ≠ 2 → w.2 i = v.2 i) ∧ (∀ a, w.2 2 a = if a = n then W else v.2 2 a) ∧ SpOk w 4 ∧ (∀ x, x ≠ n → w.1 5 x = v.1 5 x ∧ w.1 6 x = v.1 6 x) ∧ w.1 5 n = SL (hbZ W) ∧ w.1 6 n = SM (hbZ W) := by
  have o : ∀ i, i ≠ 5 → i ≠ 6 → w.1 i = v.1 i := fun i q1 q2 => by rw [hw, fit_oth (by omega) (by omega)]; rfl
  have e2 : w.2 = (wL v 2 n W).2 := by rw [hw, fit_2]
  have q := fun x => fit_lo (v := wL v 2 n W) (si := 4) (n := n) hW (x := x)
  rw [← hw] at q
  refine ⟨o, fun i hi => ?_, fun a => ?_, ?_, fun x hx => ?_, ?_, ?_⟩
  · rw [e2]; exact u2_r hi
  · rw [e2]
    by_cases e : a = n
    · subst e; rw [if_pos rfl]; exact u2_s
    · rw [if_neg e]; exact u2_n (fun z => e z.2)
  · rw [hw]; exact fit_ok hI.2.2.2.2.1
  · have := q x
    rw [if_neg hx, if_neg hx] at this
    exact this
  · rw [SL_Z]; have := (q n).1; rw [if_pos rfl] at this; exact this
  · rw [SM_Z]; have := (q n).2; rw [if_pos rfl] at this; exact this
theorem leave_C {v : Mem} (h : OKC v) {n z : Int} (hn : 0 ≤ n ∧ n < v.1 1 0) (hz : -32 ≤ z ∧ z ≤ 31) (hne : uW (clr (v.2 2 n) (z + 32)) ≠ 0) {w : Mem} (hw : w = fitM (wL v 2 n (clr (v.2 2 n) (z + 32))) 4 n (clr (v.2 2 n) (z + 32))) : gC (bA w) = lvG (gC v) n z ∧ tC (bA w) = anT (lvG (gC v) n z) (tC v) ∧ OKC (bA w) := by
  obtain ⟨⟨hI, hJ, hK, hN⟩, hW, hX⟩ := h
  obtain ⟨i1, i2, i3, i4, i5, i6, i7⟩ := id hI
  obtain ⟨o1, o2, o3, o4, o5, o6, o7⟩ := first_C (n := n) (by omega) hne hI hJ hK (Or.inr hn.2) hw
  have hi : (fun (a k : Int) => hbZ (w.2 2 a) k) = cS (g_i (gC v)) n (z + 32) := by
    funext a k
    rw [o3 a]
    show _ = if a = n ∧ k = z + 32 then false else hbZ (v.2 2 a) k
    by_cases e : a = n
    · subst e
      rw [if_pos rfl, hbZ_clr (by omega)]
      by_cases e2 : k = z + 32
      · rw [if_pos e2, if_pos ⟨rfl, e2⟩]
      · rw [if_neg e2, if_neg (fun q => e2 q.2)]
    · rw [if_neg e, if_neg (fun q => e q.1)]
  have hg : gC w = lvG (gC v) n z := by
    unfold gC lvG
    rw [o1 1 (by decide) (by decide), o1 10 (by decide) (by decide), hi]
    have e1 : (fun (r : Nat) (j : Int) => w.1 (40 + r) j) = fun r j => v.1 (40 + r) j := by funext r; rw [o1 (40 + r) (by omega) (by omega)]
    have e2 : (fun (r : Nat) (j : Int) => w.1 (52 + r) j) = fun r j => v.1 (52 + r) j := by funext r; rw [o1 (52 + r) (by omega) (by omega)]
    rw [e1, e2]
    rfl
  have hgi : ∀ a, g_i (gC w) a = if a = n then hbZ (clr (v.2 2 n) (z + 32)) else g_i (gC v) a := by
    intro a
    show (fun k => hbZ (w.2 2 a) k) = _
    rw [o3 a]
    by_cases e : a = n
    · rw [if_pos e, if_pos e]
    · rw [if_neg e, if_neg e]; rfl
  refine bA_all hg ⟨?_, ?_, fun q hq => ?_, ?_, o4, fun a q1 q2 => ?_, fun a q1 q2 => ?_, fun r x q1 q2 => ?_⟩ ?_ ?_ ?_ ?_
  · rw [o1 1 (by decide) (by decide)]; exact i1
  · rw [o1 10 (by decide) (by decide)]; exact i2
  · exact (i3 q hq).cg (o1 _ (by omega) (by omega)) (o1 _ (by omega) (by omega))
  · rw [hg, o1 1 (by decide) (by decide), o1 10 (by decide) (by decide)]; exact i4
  · rw [o1 1 (by decide) (by decide)] at q2
    rw [hgi a]
    by_cases e : a = n
    · subst e; rw [if_pos rfl, o6, o7]; exact ⟨rfl, rfl⟩
    · rw [if_neg e, (o5 a e).1, (o5 a e).2]; exact i6 a q1 q2
  · rw [o1 1 (by decide) (by decide)] at q2
    rw [hgi a]
    by_cases e : a = n
    · rw [if_pos e]; exact fun q => hne (emp_Z.mp q)
    · rw [if_neg e]; exact i7.1 a q1 q2
  · rw [o1 _ (by omega) (by omega)]; exact i7.2 r x q1 q2
  · intro x; rw [o1 (7 + 1) (by decide) (by decide), o1 (7 + 2) (by decide) (by decide)]; exact hJ.1 x
  · intro x; rw [o1 (19 + 1) (by decide) (by decide), o1 (19 + 2) (by decide) (by decide)]; exact hJ.2.1 x
  · unfold KR; rw [o1 13 (by decide) (by decide), o1 14 (by decide) (by decide), o1 15 (by decide) (by decide), o1 17 (by decide) (by decide)]; exact hK.kr
  · unfold tC; rw [o1 12 (by decide) (by decide), o1 13 (by decide) (by decide), o1 14 (by decide) (by decide), o1 15 (by decide) (by decide), o1 16 (by decide) (by decide), o1 17 (by decide) (by decide), o1 18 (by decide) (by decide), o2 3 (by decide)]
theorem name_C {v : Mem} (h : OKC v) {lo hi : Int} (h1 : -32 ≤ lo ∧ lo ≤ 31) (h2 : -32 ≤ hi ∧ hi ≤ 31) (h3 : lo ≤ hi) (h8 : v.1 1 0 < 8) {w : Mem} (hw : w = wI (fitM (wL v 2 (v.1 1 0) (rgW lo hi)) 4 (v.1 1 0) (rgW lo hi)) 1 0 (v.1 1 0 + 1)) : gC (bA w) = nmG (gC v) lo hi ∧ tC (bA w) = anT (nmG (gC v) lo hi) (tC v) ∧ OKC (bA w) := by
  obtain ⟨⟨hI, hJ, hK, hN⟩, hW, hX⟩ := h
  obtain ⟨i1, i2, i3, i4, i5, i6, i7⟩ := id hI
  have hne : uW (rgW lo hi) ≠ 0 := by
    intro q
    have q1 := hb_0 q (lo + 32)
    rw [hb_rgW h1 h2 (by omega)] at q1
    have : decide (lo + 32 ≤ lo + 32 ∧ lo + 32 ≤ hi + 32) = true := by rw [decide_eq_true_iff]; omega
    rw [this] at q1; cases q1
  have hZ : ∀ k, hbZ (rgW lo hi) k = decide (lo + 32 ≤ k ∧ k ≤ hi + 32) := by
    intro k
    by_cases hk : 0 ≤ k ∧ k < 64
    · rw [hbZ_in hk, hb_rgW h1 h2 hk]
    · unfold hbZ
      rw [if_neg hk]
      symm
      rw [decide_eq_false_iff_not]
      omega
  generalize hx : fitM (wL v 2 (v.1 1 0) (rgW lo hi)) 4 (v.1 1 0) (rgW lo hi) = x at hw
  obtain ⟨o1, o2, o3, o4, o5, o6, o7⟩ := first_C (n := v.1 1 0) (W := rgW lo hi) (by omega) hne hI hJ hK (Or.inl rfl) hx.symm
  have w1 : w.1 1 0 = v.1 1 0 + 1 := by rw [hw, wI_s]
  have c1 : ∀ i, i ≠ 1 → w.1 i = x.1 i := fun i hi => by rw [hw, wI_c hi]
  have c2 : w.2 = x.2 := by rw [hw]; rfl
  have hg : gC w = nmG (gC v) lo hi := by
    unfold gC nmG
    rw [w1, c1 10 (by decide), o1 10 (by decide) (by decide)]
    have e1 : (fun (r : Nat) (j : Int) => w.1 (40 + r) j) = fun r j => v.1 (40 + r) j := by funext r; rw [c1 _ (by omega), o1 (40 + r) (by omega) (by omega)]
    have e2 : (fun (r : Nat) (j : Int) => w.1 (52 + r) j) = fun r j => v.1 (52 + r) j := by funext r; rw [c1 _ (by omega), o1 (52 + r) (by omega) (by omega)]
    have e3 : (fun (a k : Int) => hbZ (w.2 2 a) k) = fun n k => if n = v.1 1 0 then decide (lo + 32 ≤ k ∧ k ≤ hi + 32) else hbZ (v.2 2 n) k := by
      funext a k
      rw [c2, o3 a]
      by_cases e : a = v.1 1 0
      · rw [if_pos e, if_pos e]; exact hZ k
      · rw [if_neg e, if_neg e]
    rw [e1, e2, e3]
  have hgi : ∀ a, g_i (gC w) a = if a = v.1 1 0 then hbZ (rgW lo hi) else g_i (gC v) a := by
    intro a
    show (fun k => hbZ (w.2 2 a) k) = _
    rw [c2, o3 a]
    by_cases e : a = v.1 1 0
    · rw [if_pos e, if_pos e]
    · rw [if_neg e, if_neg e]; rfl
  refine bA_all hg ⟨?_, ?_, fun q hq => ?_, ?_, ?_, fun a q1 q2 => ?_, fun a q1 q2 => ?_, fun r x q1 q2 => ?_⟩ ?_ ?_ ?_ ?_
  · rw [w1]; omega
  · rw [c1 10 (by decide), o1 10 (by decide) (by decide)]; exact i2
  · exact (i3 q hq).cg ((c1 _ (by omega)).trans (o1 _ (by omega) (by omega))) ((c1 _ (by omega)).trans (o1 _ (by omega) (by omega)))
  · rw [hg, w1, c1 10 (by decide), o1 10 (by decide) (by decide)]
    intro r x q1 q2 q3
    have := i4 r x q1 q2 q3
    omega
  · intro y; rw [c1 (4 + 1) (by decide), c1 (4 + 2) (by decide)]; exact o4 y
  · rw [w1] at q2
    rw [hgi a, c1 5 (by decide), c1 6 (by decide)]
    by_cases e : a = v.1 1 0
    · subst e; rw [if_pos rfl, o6, o7]; exact ⟨rfl, rfl⟩
    · rw [if_neg e, (o5 a e).1, (o5 a e).2]; exact i6 a q1 (by omega)
  · rw [w1] at q2
    rw [hgi a]
    by_cases e : a = v.1 1 0
    · rw [if_pos e]; exact fun q => hne (emp_Z.mp q)
    · rw [if_neg e]; exact i7.1 a q1 (by omega)
  · rw [c1 _ (by omega), o1 _ (by omega) (by omega)]; exact i7.2 r x q1 q2
  · intro y; rw [c1 (7 + 1) (by decide), c1 (7 + 2) (by decide), o1 (7 + 1) (by decide) (by decide), o1 (7 + 2) (by decide) (by decide)]; exact hJ.1 y
  · intro y; rw [c1 (19 + 1) (by decide), c1 (19 + 2) (by decide), o1 (19 + 1) (by decide) (by decide), o1 (19 + 2) (by decide) (by decide)]; exact hJ.2.1 y
  · unfold KR; rw [c1 13 (by decide), c1 14 (by decide), c1 15 (by decide), c1 17 (by decide), o1 13 (by decide) (by decide), o1 14 (by decide) (by decide), o1 15 (by decide) (by decide), o1 17 (by decide) (by decide)]; exact hK.kr
  · unfold tC; rw [c1 12 (by decide), c1 13 (by decide), c1 14 (by decide), c1 15 (by decide), c1 16 (by decide), c1 17 (by decide), c1 18 (by decide), c2, o1 12 (by decide) (by decide), o1 13 (by decide) (by decide), o1 14 (by decide) (by decide), o1 15 (by decide) (by decide), o1 16 (by decide) (by decide), o1 17 (by decide) (by decide), o1 18 (by decide) (by decide), o2 3 (by decide)]
