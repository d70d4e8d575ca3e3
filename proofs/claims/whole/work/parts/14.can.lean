/-! whether a row can hold, each name anywhere between two bounds -/
def up (f : Int → Int) (n z : Int) : Int → Int := fun x => if x = n then z else f x
theorem up_s {f : Int → Int} {n z : Int} : up f n z n = z := by simp [up]
theorem up_n {f : Int → Int} {n z x : Int} (h : x ≠ n) : up f n z x = f x := by simp [up, h]
def lsum (f lo hi : Int → Int) (n : Nat) : Int := sm (fun i => if 0 < f i then f i * lo i else f i * hi i) n
def cmin (f lo hi : Int → Int) (R : Int) (n : Nat) : Int := sm (fun i => if f i ≠ 0 ∧ lo i = R ∧ hi i = R then 1 else 0) n
def cmax (f lo hi : Int → Int) (R : Int) (n : Nat) : Int := sm (fun i => if f i ≠ 0 ∧ lo i ≤ R ∧ R ≤ hi i then 1 else 0) n
def Cn (k a b c R : Int) (f lo hi : Int → Int) : Prop :=
  (k = 0 → lsum f lo hi 8 ≤ R) ∧
  (k = 1 → lsum f lo hi 8 ≤ R ∧ lsum (fun i => -f i) lo hi 8 ≤ -R) ∧
  (k = 2 → ∃ x y, lo b ≤ x ∧ x ≤ hi b ∧ lo c ≤ y ∧ y ≤ hi c ∧ lo a ≤ x * y ∧ x * y ≤ hi a) ∧
  (k = 3 → ∃ x y, lo b ≤ x ∧ x ≤ hi b ∧ lo c ≤ y ∧ y ≤ hi c ∧ y ≠ 0 ∧ lo a ≤ fd x y ∧ fd x y ≤ hi a) ∧
  (k = 4 → ∃ x y, lo a ≤ x ∧ x ≤ hi a ∧ lo b ≤ y ∧ y ≤ hi b ∧ ((0 ≤ y ∧ x = y) ∨ (y < 0 ∧ x = -y))) ∧
  (k = 5 → ∃ x y, lo b ≤ x ∧ x ≤ hi b ∧ lo c ≤ y ∧ y ≤ hi c ∧ lo a ≤ max x y ∧ max x y ≤ hi a) ∧
  (k = 6 → ∃ x y, lo b ≤ x ∧ x ≤ hi b ∧ lo c ≤ y ∧ y ≤ hi c ∧ lo a ≤ min x y ∧ min x y ≤ hi a) ∧
  (k = 7 → ∃ x y, lo a ≤ x ∧ x ≤ hi a ∧ lo b ≤ y ∧ y ≤ hi b ∧ x ≠ y + R) ∧
  (k = 8 → lo a ≠ 1 ∨ hi a ≠ 1 ∨ lsum f lo hi 8 ≤ R) ∧
  (k = 9 → lo a ≤ cmax f lo hi R 8 ∧ cmin f lo hi R 8 ≤ hi a)
theorem cn_0 {k a b c R : Int} {f lo hi : Int → Int} (h : k = 0) : Cn k a b c R f lo hi ↔ lsum f lo hi 8 ≤ R := by
  subst h; simp [Cn]
theorem cn_1 {k a b c R : Int} {f lo hi : Int → Int} (h : k = 1) : Cn k a b c R f lo hi ↔ lsum f lo hi 8 ≤ R ∧ lsum (fun i => -f i) lo hi 8 ≤ -R := by
  subst h; simp [Cn]
theorem cn_2 {k a b c R : Int} {f lo hi : Int → Int} (h : k = 2) : Cn k a b c R f lo hi ↔ ∃ x y, lo b ≤ x ∧ x ≤ hi b ∧ lo c ≤ y ∧ y ≤ hi c ∧ lo a ≤ x * y ∧ x * y ≤ hi a := by
  subst h; simp [Cn]
theorem cn_3 {k a b c R : Int} {f lo hi : Int → Int} (h : k = 3) : Cn k a b c R f lo hi ↔ ∃ x y, lo b ≤ x ∧ x ≤ hi b ∧ lo c ≤ y ∧ y ≤ hi c ∧ y ≠ 0 ∧ lo a ≤ fd x y ∧ fd x y ≤ hi a := by
  subst h; simp [Cn]
theorem cn_4 {k a b c R : Int} {f lo hi : Int → Int} (h : k = 4) : Cn k a b c R f lo hi ↔ ∃ x y, lo a ≤ x ∧ x ≤ hi a ∧ lo b ≤ y ∧ y ≤ hi b ∧ ((0 ≤ y ∧ x = y) ∨ (y < 0 ∧ x = -y)) := by
  subst h; simp [Cn]
theorem cn_5 {k a b c R : Int} {f lo hi : Int → Int} (h : k = 5) : Cn k a b c R f lo hi ↔ ∃ x y, lo b ≤ x ∧ x ≤ hi b ∧ lo c ≤ y ∧ y ≤ hi c ∧ lo a ≤ max x y ∧ max x y ≤ hi a := by
  subst h; simp [Cn]
theorem cn_6 {k a b c R : Int} {f lo hi : Int → Int} (h : k = 6) : Cn k a b c R f lo hi ↔ ∃ x y, lo b ≤ x ∧ x ≤ hi b ∧ lo c ≤ y ∧ y ≤ hi c ∧ lo a ≤ min x y ∧ min x y ≤ hi a := by
  subst h; simp [Cn]
theorem cn_7 {k a b c R : Int} {f lo hi : Int → Int} (h : k = 7) : Cn k a b c R f lo hi ↔ ∃ x y, lo a ≤ x ∧ x ≤ hi a ∧ lo b ≤ y ∧ y ≤ hi b ∧ x ≠ y + R := by
  subst h; simp [Cn]
theorem cn_8 {k a b c R : Int} {f lo hi : Int → Int} (h : k = 8) : Cn k a b c R f lo hi ↔ lo a ≠ 1 ∨ hi a ≠ 1 ∨ lsum f lo hi 8 ≤ R := by
  subst h; simp [Cn]
theorem cn_9 {k a b c R : Int} {f lo hi : Int → Int} (h : k = 9) : Cn k a b c R f lo hi ↔ lo a ≤ cmax f lo hi R 8 ∧ cmin f lo hi R 8 ≤ hi a := by
  subst h; simp [Cn]
theorem sm_take {g : Int → Int} {n : Int} : ∀ k : Nat, 0 ≤ n → sm g k = sm (fun i => if i = n then 0 else g i) k + (if n < k then g n else 0)
  | 0, h => by
    simp only [sm]
    rw [if_neg (by omega)]
    rfl
  | k + 1, h => by
    have ih := sm_take (g := g) k h
    simp only [sm]
    by_cases hk : (k : Int) = n
    · rw [if_pos hk, if_pos (by omega)]
      rw [if_neg (by omega)] at ih
      rw [hk]
      omega
    · rw [if_neg hk]
      by_cases hn : n < (k : Int)
      · rw [if_pos hn] at ih
        rw [if_pos (by omega)]
        omega
      · rw [if_neg hn] at ih
        rw [if_neg (by omega)]
        omega
theorem sm_put {g h : Int → Int} {n : Int} (hn : 0 ≤ n ∧ n < 8) (hg : ∀ j : Int, j ≠ n → g j = h j) (h0 : h n = 0) : sm g 8 = g n + sm h 8 := by
  have e1 := sm_take (g := g) 8 hn.1
  have e2 := sm_take (g := h) 8 hn.1
  rw [if_pos (by omega)] at e1 e2
  have e3 : sm (fun i => if i = n then 0 else g i) 8 = sm (fun i => if i = n then 0 else h i) 8 := by
    apply sm_c
    intro j _
    by_cases hj : (j : Int) = n
    · simp only [if_pos hj]
    · simp only [if_neg hj]
      exact hg _ hj
  omega
