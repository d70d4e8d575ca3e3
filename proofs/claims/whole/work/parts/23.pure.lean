/-! the rounds, as numbers and functions -/
noncomputable def tf (P : Prop) : Bool := @decide P (Classical.propDecidable P)
theorem tf_t {P : Prop} : tf P = true ↔ P := by unfold tf; exact @decide_eq_true_iff P (Classical.propDecidable P)
theorem tf_p {P : Prop} (h : P) : tf P = true := tf_t.mpr h
theorem tf_n {P : Prop} (h : ¬ P) : tf P = false := by
  cases e : tf P with
  | false => rfl
  | true => exact absurd (tf_t.mp e) h
/-- which of a, b, c a row's kind has -/
def NmOk (k a b c : Int) : Prop := (0 ≤ k ∧ k ≤ 9) ∧ (2 ≤ k → 0 ≤ a) ∧ (2 ≤ k → k ≤ 7 → 0 ≤ b) ∧ ((k = 2 ∨ k = 3 ∨ k = 5 ∨ k = 6) → 0 ≤ c)
theorem sm_zn {g g' : Int → Int} (h : ∀ x, 0 ≤ x → g x = g' x) (k : Nat) : sm g k = sm g' k := sm_c k (fun j _ => h j (by omega))
theorem Cn_cc {k a b c R : Int} {f lo hi lo' hi' : Int → Int} (hN : NmOk k a b c) (h : ∀ x, 0 ≤ x → (x = a ∨ x = b ∨ x = c ∨ f x ≠ 0) → lo x = lo' x ∧ hi x = hi' x) : Cn k a b c R f lo hi → Cn k a b c R f lo' hi' := by
  obtain ⟨hk, nA, nB, nC⟩ := hN
  have ha : 2 ≤ k → lo a = lo' a ∧ hi a = hi' a := fun q => h a (nA q) (Or.inl rfl)
  have hb : 2 ≤ k → k ≤ 7 → lo b = lo' b ∧ hi b = hi' b := fun q q2 => h b (nB q q2) (Or.inr (Or.inl rfl))
  have hc : (k = 2 ∨ k = 3 ∨ k = 5 ∨ k = 6) → lo c = lo' c ∧ hi c = hi' c := fun q => h c (nC q) (Or.inr (Or.inr (Or.inl rfl)))
  have hl : lsum f lo hi 8 = lsum f lo' hi' 8 := by
    unfold lsum
    apply sm_zn
    intro x hx
    by_cases h0 : f x = 0
    · simp [h0]
    · have := h x hx (Or.inr (Or.inr (Or.inr h0)))
      rw [this.1, this.2]
  have hl1 : lsum (fun i => -f i) lo hi 8 = lsum (fun i => -f i) lo' hi' 8 := by
    unfold lsum
    apply sm_zn
    intro x hx
    by_cases h0 : f x = 0
    · simp [h0]
    · have := h x hx (Or.inr (Or.inr (Or.inr h0)))
      rw [this.1, this.2]
  have hx : cmax f lo hi R 8 = cmax f lo' hi' R 8 := by
    unfold cmax
    apply sm_zn
    intro x hx
    by_cases h0 : f x = 0
    · simp [h0]
    · have := h x hx (Or.inr (Or.inr (Or.inr h0)))
      rw [this.1, this.2]
  have hm : cmin f lo hi R 8 = cmin f lo' hi' R 8 := by
    unfold cmin
    apply sm_zn
    intro x hx
    by_cases h0 : f x = 0
    · simp [h0]
    · have := h x hx (Or.inr (Or.inr (Or.inr h0)))
      rw [this.1, this.2]
  unfold Cn
  rw [hl, hl1, hx, hm]
  rintro ⟨c0, c1, c2, c3, c4, c5, c6, c7, c8, c9⟩
  refine ⟨c0, c1, fun q => ?_, fun q => ?_, fun q => ?_, fun q => ?_, fun q => ?_, fun q => ?_, fun q => ?_, fun q => ?_⟩
  · rw [← (ha (by omega)).1, ← (ha (by omega)).2, ← (hb (by omega) (by omega)).1, ← (hb (by omega) (by omega)).2, ← (hc (by omega)).1, ← (hc (by omega)).2]; exact c2 q
  · rw [← (ha (by omega)).1, ← (ha (by omega)).2, ← (hb (by omega) (by omega)).1, ← (hb (by omega) (by omega)).2, ← (hc (by omega)).1, ← (hc (by omega)).2]; exact c3 q
  · rw [← (ha (by omega)).1, ← (ha (by omega)).2, ← (hb (by omega) (by omega)).1, ← (hb (by omega) (by omega)).2]; exact c4 q
  · rw [← (ha (by omega)).1, ← (ha (by omega)).2, ← (hb (by omega) (by omega)).1, ← (hb (by omega) (by omega)).2, ← (hc (by omega)).1, ← (hc (by omega)).2]; exact c5 q
  · rw [← (ha (by omega)).1, ← (ha (by omega)).2, ← (hb (by omega) (by omega)).1, ← (hb (by omega) (by omega)).2, ← (hc (by omega)).1, ← (hc (by omega)).2]; exact c6 q
  · rw [← (ha (by omega)).1, ← (ha (by omega)).2, ← (hb (by omega) (by omega)).1, ← (hb (by omega) (by omega)).2]; exact c7 q
  · rw [← (ha (by omega)).1, ← (ha (by omega)).2]; exact c8 q
  · rw [← (ha (by omega)).1, ← (ha (by omega)).2]; exact c9 q
theorem Cn_c {k a b c R : Int} {f lo hi lo' hi' : Int → Int} (hN : NmOk k a b c) (h : ∀ x, 0 ≤ x → (x = a ∨ x = b ∨ x = c ∨ f x ≠ 0) → lo x = lo' x ∧ hi x = hi' x) : Cn k a b c R f lo hi ↔ Cn k a b c R f lo' hi' := ⟨Cn_cc hN h, Cn_cc hN (fun x h0 h1 => ⟨(h x h0 h1).1.symm, (h x h0 h1).2.symm⟩)⟩
/-- names, rows; of a row KIND, a, b, c, RIGHT; its FACTORS; FIRST -/
abbrev Cfg : Type := Int × Int × (Nat → Int → Int) × (Nat → Int → Int) × (Int → Int → Bool)
abbrev g_n (g : Cfg) : Int := g.1
abbrev g_r (g : Cfg) : Int := g.2.1
abbrev g_a (g : Cfg) : Nat → Int → Int := g.2.2.1
abbrev g_f (g : Cfg) : Nat → Int → Int := g.2.2.2.1
abbrev g_i (g : Cfg) : Int → Int → Bool := g.2.2.2.2
def CnR (g : Cfg) (r : Nat) (lo hi : Int → Int) : Prop := Cn (g_a g r 0) (g_a g r 1) (g_a g r 2) (g_a g r 3) (g_a g r 4) (g_f g r) lo hi
def AbR (g : Cfg) (r : Nat) (n : Int) : Prop := n = g_a g r 1 ∨ n = g_a g r 2 ∨ n = g_a g r 3 ∨ g_f g r n ≠ 0
def NmR (g : Cfg) (r : Nat) : Prop := NmOk (g_a g r 0) (g_a g r 1) (g_a g r 2) (g_a g r 3)
theorem CnR_c {g : Cfg} {r : Nat} {lo hi lo' hi' : Int → Int} (hN : NmR g r) (h : ∀ x, 0 ≤ x → AbR g r x → lo x = lo' x ∧ hi x = hi' x) : CnR g r lo hi ↔ CnR g r lo' hi' := Cn_c hN h
/-- the SETS now, how many STEPS, their row, name, number, ROUND, parts; the CLASH, the ROUND -/
abbrev TT : Type := (Int → Int → Bool) × Int × (Int → Int) × (Int → Int) × (Int → Int) × (Int → Int) × (Int → Int) × Int × Int
abbrev t_s (t : TT) : Int → Int → Bool := t.1
abbrev t_c (t : TT) : Int := t.2.1
abbrev t_r (t : TT) : Int → Int := t.2.2.1
abbrev t_n (t : TT) : Int → Int := t.2.2.2.1
abbrev t_z (t : TT) : Int → Int := t.2.2.2.2.1
abbrev t_o (t : TT) : Int → Int := t.2.2.2.2.2.1
abbrev t_p (t : TT) : Int → Int := t.2.2.2.2.2.2.1
abbrev t_x (t : TT) : Int := t.2.2.2.2.2.2.2.1
abbrev t_d (t : TT) : Int := t.2.2.2.2.2.2.2.2
def lS (s : Int → Int → Bool) : Int → Int := fun n => SL (s n)
def hS (s : Int → Int → Bool) : Int → Int := fun n => SM (s n)
def cS (s : Int → Int → Bool) (n k : Int) : Int → Int → Bool := fun a b => if a = n ∧ b = k then false else s a b
abbrev Tr : Type := (Int → Int) × (Int → Int) × Int
/-- one bound is left out, if the number is impossible still -/
noncomputable def elS (g : Cfg) (r : Nat) (n z : Int) (cl ch fl fh : Int → Int) (o : Int) (mo : Bool) (w : Int) (t : Tr) : Tr :=
  if tf (o ≠ n ∧ AbR g r o) = true then
    if mo = true then
      (if tf (CnR g r (up t.1 n z) (up (up t.2.1 o (fh o)) n z)) = true then (t.1, up (up t.2.1 o (fh o)) o (ch o), t.2.2 + w) else (t.1, up t.2.1 o (fh o), t.2.2))
    else
      (if tf (CnR g r (up (up t.1 o (fl o)) n z) (up t.2.1 n z)) = true then (up (up t.1 o (fl o)) o (cl o), t.2.1, t.2.2 + w) else (up t.1 o (fl o), t.2.1, t.2.2))
  else t
/-- the parts, from the last one on: of the last name MOST, then LEAST, and so on -/
noncomputable def elN (g : Cfg) (r : Nat) (n z : Int) (cl ch fl fh : Int → Int) (t : Tr) : Nat → Tr
  | 0 => t
  | j + 1 => elS g r n z cl ch fl fh ((2 * g_n g - 1 - (j : Int)) / 2) (decide ((2 * g_n g - 1 - (j : Int)) % 2 = 1)) (2 ^ (2 * g_n g - 1 - (j : Int)).toNat) (elN g r n z cl ch fl fh t j)
noncomputable def reaS (g : Cfg) (r : Nat) (n z : Int) (s : Int → Int → Bool) : Int := (elN g r n z (lS s) (hS s) (lS (g_i g)) (hS (g_i g)) (lS s, hS s, 0) (2 * g_n g).toNat).2.2
/-- a number is looked at, and TAKEN if it is impossible -/
noncomputable def tkS (g : Cfg) (r : Nat) (n z : Int) (t : TT) : TT :=
  if t_s t n (z + 32) = true ∧ tf (CnR g r (up (lS (t_s t)) n z) (up (hS (t_s t)) n z)) = false then
    (cS (t_s t) n (z + 32), t_c t + 1, up (t_r t) (t_c t) r, up (t_n t) (t_c t) n, up (t_z t) (t_c t) z, up (t_o t) (t_c t) (t_d t), up (t_p t) (t_c t) (reaS g r n z (t_s t)), t_x t, t_d t)
  else t
noncomputable def sfS (g : Cfg) (r : Nat) (n : Int) (t : TT) : Nat → TT
  | 0 => t
  | j + 1 => tkS g r n ((j : Int) - 32) (sfS g r n t j)
def emp (s : Int → Bool) : Prop := ∀ k, 0 ≤ k → k < 64 → s k = false
def setX (t : TT) (x : Int) : TT := (t_s t, t_c t, t_r t, t_n t, t_z t, t_o t, t_p t, x, t_d t)
def setD (t : TT) (d : Int) : TT := (t_s t, t_c t, t_r t, t_n t, t_z t, t_o t, t_p t, t_x t, d)
noncomputable def siS (g : Cfg) (r : Nat) (n : Int) (t : TT) : TT :=
  if tf (emp (t_s (sfS g r n t 64) n)) = true then setX (sfS g r n t 64) r else sfS g r n t 64
noncomputable def rwS (g : Cfg) (r : Nat) (t : TT) : Nat → TT
  | 0 => t
  | j + 1 => if t_x (rwS g r t j) = -1000 ∧ tf (AbR g r (j : Int)) = true then siS g r (j : Int) (rwS g r t j) else rwS g r t j
noncomputable def rdS (g : Cfg) (ord : Int) (t : TT) : Nat → TT
  | 0 => t
  | j + 1 => if t_x (rdS g ord t j) = -1000 then rwS g (if ord = 1 then (g_r g - 1 - (j : Int)).toNat else j) (rdS g ord t j) (g_n g).toNat else rdS g ord t j
noncomputable def onS (g : Cfg) (ord : Int) (t : TT) : TT := rdS g ord (setD t (t_d t + 1)) (g_r g).toNat
noncomputable def rnS (g : Cfg) (ord : Int) : Nat → Int → TT → Int × TT
  | 0, d, t => (d, t)
  | m + 1, d, t => if t_x t = -1000 then (if t_c (onS g ord t) = t_c t then (d + 1, onS g ord t) else rnS g ord m (d + 1) (onS g ord t)) else (d, t)
/-! of the class's cells -/
def hbZ (w : Int64) (k : Int) : Bool := if 0 ≤ k ∧ k < 64 then hb w k else false
theorem hbZ_in {w : Int64} {k : Int} (h : 0 ≤ k ∧ k < 64) : hbZ w k = hb w k := by unfold hbZ; rw [if_pos h]
theorem hbZ_clr {w : Int64} {k j : Int} (hk : 0 ≤ k ∧ k < 64) : hbZ (clr w k) j = if j = k then false else hbZ w j := by
  unfold hbZ
  by_cases hj : 0 ≤ j ∧ j < 64
  · rw [if_pos hj, if_pos hj, hb_clr hk hj]
    by_cases e : j = k
    · simp [e]
    · simp [e]
  · rw [if_neg hj, if_neg hj]
    simp
theorem SL_Z {w : Int64} : SL (hbZ w) = SL (hb w) := SL_c (fun k h1 h2 => hbZ_in ⟨h1, h2⟩)
theorem SM_Z {w : Int64} : SM (hbZ w) = SM (hb w) := SM_c (fun k h1 h2 => hbZ_in ⟨h1, h2⟩)
theorem emp_Z {w : Int64} : emp (hbZ w) ↔ uW w = 0 := by
  constructor
  · intro h
    apply Classical.byContradiction
    intro q
    obtain ⟨k, h1, h2, h3⟩ := hb_ex q
    have h4 := h k h1 h2
    rw [hbZ_in ⟨h1, h2⟩, h3] at h4
    cases h4
  · intro h k h1 h2
    rw [hbZ_in ⟨h1, h2⟩]
    exact hb_0 h k
def gC (v : Mem) : Cfg := (v.1 1 0, v.1 10 0, fun r j => v.1 (40 + r) j, fun r x => v.1 (52 + r) x, fun n k => hbZ (v.2 2 n) k)
def tC (v : Mem) : TT := (fun n k => hbZ (v.2 3 n) k, v.1 12 0, v.1 13, v.1 14, v.1 15, v.1 16, v.1 17, v.1 18 0, v.1 18 1)
/-- the cells that the rounds change -/
def Fr (v u : Mem) : Prop := (∀ i : Nat, ¬ (i = 8 ∨ i = 9 ∨ (12 ≤ i ∧ i ≤ 18) ∨ i = 20 ∨ i = 21) → u.1 i = v.1 i) ∧ ∀ i : Nat, i ≠ 3 → u.2 i = v.2 i
theorem Fr.rf {v : Mem} : Fr v v := ⟨fun _ _ => rfl, fun _ _ => rfl⟩
theorem Fr.tr {u v w : Mem} (h1 : Fr u v) (h2 : Fr v w) : Fr u w := ⟨fun i hi => (h2.1 i hi).trans (h1.1 i hi), fun i hi => (h2.2 i hi).trans (h1.2 i hi)⟩
theorem Fr.g {v u : Mem} (h : Fr v u) : gC u = gC v := by
  unfold gC
  rw [h.1 1 (by omega), h.1 10 (by omega)]
  have e1 : (fun (r : Nat) (j : Int) => u.1 (40 + r) j) = fun r j => v.1 (40 + r) j := by funext r; rw [h.1 (40 + r) (by omega)]
  have e2 : (fun (r : Nat) (j : Int) => u.1 (52 + r) j) = fun r j => v.1 (52 + r) j := by funext r; rw [h.1 (52 + r) (by omega)]
  rw [e1, e2, h.2 2 (by omega)]
/-- what holds of the class's cells between calls, and in the rounds -/
def IC (v : Mem) : Prop := (0 ≤ v.1 1 0 ∧ v.1 1 0 ≤ 8) ∧ (0 ≤ v.1 10 0 ∧ v.1 10 0 ≤ 12) ∧ (∀ r, r < 12 → RwOk v r) ∧ (∀ (r : Nat) (x : Int), (r : Int) < v.1 10 0 → AbR (gC v) r x → 0 ≤ x → x < v.1 1 0) ∧ SpOk v 4 ∧ (∀ n, 0 ≤ n → n < v.1 1 0 → v.1 5 n = SL (g_i (gC v) n) ∧ v.1 6 n = SM (g_i (gC v) n)) ∧ (∀ n, 0 ≤ n → n < v.1 1 0 → ¬ emp (g_i (gC v) n)) ∧ ∀ (r : Nat) (x : Int), r < 12 → ¬ (0 ≤ x ∧ x < 8) → v.1 (52 + r) x = 0
def JC (v : Mem) : Prop := SpOk v 7 ∧ SpOk v 19 ∧ (∀ n, 0 ≤ n → n < v.1 1 0 → ¬ emp (t_s (tC v) n) → v.1 8 n = SL (t_s (tC v) n) ∧ v.1 9 n = SM (t_s (tC v) n)) ∧ (∀ n k, 0 ≤ n → n < v.1 1 0 → t_s (tC v) n k = true → g_i (gC v) n k = true)
def tot (s : Int → Int → Bool) : Int := sm (fun n => sm (fun k => if s n k = true then 1 else 0) 64) 8
/-- what holds of the STEPS -/
def KC (v : Mem) : Prop := (0 ≤ v.1 12 0 ∧ v.1 12 0 + tot (t_s (tC v)) ≤ 512) ∧ (∀ x, 0 ≤ v.1 13 x ∧ v.1 13 x < 12) ∧ (∀ x, 0 ≤ v.1 14 x ∧ v.1 14 x < 8) ∧ (∀ x, -32 ≤ v.1 15 x ∧ v.1 15 x ≤ 31) ∧ (∀ x, 0 ≤ v.1 17 x ∧ v.1 17 x < 65536)
theorem RwOk.nm {v : Mem} {r : Nat} (h : RwOk v r) : NmR (gC v) r := by
  obtain ⟨k0, a0, b0, c0, R0, f0, kA, kB, kC, kD, kE⟩ := h
  show NmOk (v.1 (40 + r) 0) (v.1 (40 + r) 1) (v.1 (40 + r) 2) (v.1 (40 + r) 3)
  unfold NmOk
  omega
theorem RwOk.cg {v u : Mem} {r : Nat} (h : RwOk v r) (h1 : u.1 (40 + r) = v.1 (40 + r)) (h2 : u.1 (52 + r) = v.1 (52 + r)) : RwOk u r := by
  unfold RwOk at *
  rw [h1, h2]
  exact h
theorem SL_mono {S T : Int → Bool} (hne : ∃ k, 0 ≤ k ∧ k < 64 ∧ S k = true) (h : ∀ k, S k = true → T k = true) : SL T ≤ SL S ∧ SM S ≤ SM T ∧ SL S ≤ SM S ∧ -32 ≤ SL T ∧ SM T ≤ 31 := by
  obtain ⟨a, a1, a2, a3, a4, a5⟩ := SL_sp hne
  obtain ⟨b, b1, b2, b3, b4, b5⟩ := SM_sp hne
  have hneT : ∃ k, 0 ≤ k ∧ k < 64 ∧ T k = true := ⟨a, a1, a2, h a a3⟩
  obtain ⟨c, c1, c2, c3, c4, c5⟩ := SL_sp hneT
  obtain ⟨d, d1, d2, d3, d4, d5⟩ := SM_sp hneT
  have e1 : c ≤ a := by
    apply Int.not_lt.mp
    intro q
    have := c4 a a1 q
    rw [h a a3] at this; cases this
  have e2 : b ≤ d := by
    apply Int.not_lt.mp
    intro q
    have := d4 b q b2
    rw [h b b3] at this; cases this
  have e3 : a ≤ b := by
    apply Int.not_lt.mp
    intro q
    have := a4 b b1 q
    rw [b3] at this; cases this
  omega
theorem nemp {S : Int → Bool} (h : ¬ emp S) : ∃ k, 0 ≤ k ∧ k < 64 ∧ S k = true := by
  apply Classical.byContradiction
  intro q
  apply h
  intro k h1 h2
  cases e : S k with
  | false => rfl
  | true => exact absurd ⟨k, h1, h2, e⟩ q
theorem Fr.ic {v u : Mem} (h : Fr v u) (hi : IC v) : IC u := by
  unfold IC SpOk at *
  rw [h.g, h.1 1 (by omega), h.1 10 (by omega), h.1 (4 + 1) (by omega), h.1 (4 + 2) (by omega)]
  refine ⟨hi.1, hi.2.1, fun r hr => ?_, hi.2.2.2.1, hi.2.2.2.2.1, hi.2.2.2.2.2.1, hi.2.2.2.2.2.2.1, fun r x q1 q2 => ?_⟩
  · have := hi.2.2.1 r hr
    unfold RwOk at *
    rw [h.1 (40 + r) (by omega), h.1 (52 + r) (by omega)]
    exact this
  · rw [h.1 (52 + r) (by omega)]; exact hi.2.2.2.2.2.2.2 r x q1 q2
