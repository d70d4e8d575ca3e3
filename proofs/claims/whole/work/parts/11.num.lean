/-! numbers: division rounded down, products, signs -/
theorem mulR {a b : Int} (ha : -40 ≤ a ∧ a ≤ 40) (hb : -40 ≤ b ∧ b ≤ 40) : -1600 ≤ a * b ∧ a * b ≤ 1600 := by
  rcases Int.le_total 0 b with h | h
  · have h1 : a * b ≤ 40 * b := Int.mul_le_mul_of_nonneg_right ha.2 h
    have h2 : (-40) * b ≤ a * b := Int.mul_le_mul_of_nonneg_right ha.1 h
    omega
  · have h1 : 40 * b ≤ a * b := Int.mul_le_mul_of_nonpos_right ha.2 h
    have h2 : a * b ≤ (-40) * b := Int.mul_le_mul_of_nonpos_right ha.1 h
    omega
def fd (a b : Int) : Int := if 0 < b then a / b else (-a) / (-b)
theorem fd_iff {a b q : Int} (hb : b ≠ 0) : fd a b = q ↔ (0 < b ∧ q * b ≤ a ∧ a < q * b + b) ∨ (b < 0 ∧ q * b + b < a ∧ a ≤ q * b) := by
  unfold fd
  by_cases h : 0 < b
  · rw [if_pos h]
    have e1 := Int.le_ediv_iff_mul_le (a := q) (b := a) h
    have e2 := Int.ediv_le_iff_le_mul (x := a) (y := q) h
    omega
  · rw [if_neg h]
    have hb' : 0 < -b := by omega
    have e1 := Int.le_ediv_iff_mul_le (a := q) (b := -a) hb'
    have e2 := Int.ediv_le_iff_le_mul (x := -a) (y := q) hb'
    rw [Int.mul_neg] at e1 e2
    omega
theorem fd_sp {a b : Int} (hb : b ≠ 0) : (0 < b ∧ fd a b * b ≤ a ∧ a < fd a b * b + b) ∨ (b < 0 ∧ fd a b * b + b < a ∧ a ≤ fd a b * b) := (fd_iff hb).mp rfl
theorem tmod_sg {a b : Int} (hb : b ≠ 0) : (0 ≤ a → 0 ≤ a.tmod b) ∧ (a ≤ 0 → a.tmod b ≤ 0) ∧ (0 < b → -b < a.tmod b ∧ a.tmod b < b) ∧ (b < 0 → b < a.tmod b ∧ a.tmod b < -b) := by
  refine ⟨fun h => ?_, fun h => ?_, fun h => ⟨Int.lt_tmod_of_pos a h, Int.tmod_lt_of_pos a h⟩, fun h => ?_⟩
  · rw [Int.tmod_eq_emod_of_nonneg h]; exact Int.emod_nonneg a hb
  · have h1 : (-a).tmod b = -(a.tmod b) := Int.neg_tmod a b
    have h2 : (0 : Int) ≤ (-a).tmod b := by rw [Int.tmod_eq_emod_of_nonneg (by omega)]; exact Int.emod_nonneg _ hb
    omega
  · have h1 : a.tmod (-b) = a.tmod b := Int.tmod_neg a b
    have h2 := Int.lt_tmod_of_pos a (b := -b) (by omega)
    have h3 := Int.tmod_lt_of_pos a (b := -b) (by omega)
    omega
theorem fd_java {a b : Int} (hb : b ≠ 0) : fd a b = if ((a < 0 ∧ 0 < b) ∨ (0 ≤ a ∧ b < 0)) ∧ a.tdiv b * b ≠ a then a.tdiv b - 1 else a.tdiv b := by
  have h0 := Int.tdiv_mul_add_tmod a b
  obtain ⟨h1, h2, h3, h4⟩ := tmod_sg (a := a) hb
  by_cases h : ((a < 0 ∧ 0 < b) ∨ (0 ≤ a ∧ b < 0)) ∧ a.tdiv b * b ≠ a
  · rw [if_pos h, fd_iff hb, Int.sub_mul, Int.one_mul]
    omega
  · rw [if_neg h, fd_iff hb]
    omega
theorem tdiv_rg {a b : Int} (ha : -1000000 ≤ a ∧ a ≤ 1000000) (hb : -1000000 ≤ b ∧ b ≤ 1000000) (h0 : b ≠ 0) : -2000000 ≤ a.tdiv b * b ∧ a.tdiv b * b ≤ 2000000 := by
  have h0 := Int.tdiv_mul_add_tmod a b
  obtain ⟨h1, h2, h3, h4⟩ := tmod_sg (a := a) (b := b) (by assumption)
  omega
theorem fd_rg {a b : Int} (ha : -1000000 ≤ a ∧ a ≤ 1000000) (h0 : b ≠ 0) : -1000001 ≤ fd a b ∧ fd a b ≤ 1000001 := by
  have h := fd_sp (a := a) h0
  rcases h with ⟨hb, h1, h2⟩ | ⟨hb, h1, h2⟩
  · constructor
    · apply Int.not_lt.mp
      intro h3
      have h4 : fd a b * b ≤ (-1000002) * b := Int.mul_le_mul_of_nonneg_right (by omega) (by omega)
      omega
    · apply Int.not_lt.mp
      intro h3
      have h4 : 1000002 * b ≤ fd a b * b := Int.mul_le_mul_of_nonneg_right (by omega) (by omega)
      omega
  · constructor
    · apply Int.not_lt.mp
      intro h3
      have h4 : (-1000002) * b ≤ fd a b * b := Int.mul_le_mul_of_nonpos_right (by omega) (by omega)
      omega
    · apply Int.not_lt.mp
      intro h3
      have h4 : fd a b * b ≤ 1000002 * b := Int.mul_le_mul_of_nonpos_right (by omega) (by omega)
      omega
theorem xsgn {a b : Int} (ha : -2147483648 ≤ a ∧ a ≤ 2147483647) (hb : -2147483648 ≤ b ∧ b ≤ 2147483647) : (iI a ^^^ iI b).toInt < 0 ↔ (a < 0 ∧ 0 ≤ b) ∨ (0 ≤ a ∧ b < 0) := by
  have e : ∀ x : Int32, x.toBitVec.msb = decide (x.toInt < 0) := fun x => BitVec.msb_eq_toInt
  have h1 := e (iI a ^^^ iI b)
  have h2 : (iI a ^^^ iI b).toBitVec = (iI a).toBitVec ^^^ (iI b).toBitVec := rfl
  rw [h2, BitVec.msb_xor, e, e, iI_toInt ha, iI_toInt hb] at h1
  by_cases ha0 : a < 0 <;> by_cases hb0 : b < 0 <;> simp [ha0, hb0] at h1 <;> omega
theorem pd {p x y : Int} (hx : x ≠ 0) (h : x * y = p) : p.tmod x = 0 ∧ p.tdiv x = y := by
  subst h
  exact ⟨Int.mul_tmod_right x y, Int.mul_tdiv_cancel_left y hx⟩
theorem pd' {p x : Int} (h : p.tmod x = 0) : x * p.tdiv x = p := by
  have := Int.mul_tdiv_add_tmod p x
  omega
/-- n times y is at most h, at least l -/
theorem mulHi {n y h : Int} (hn : 0 < n) : n * y ≤ h ↔ y ≤ fd h n := by
  unfold fd
  rw [if_pos hn, Int.le_ediv_iff_mul_le hn, Int.mul_comm]
theorem mulLo {n y l : Int} (hn : 0 < n) : l ≤ n * y ↔ -fd (-l) n ≤ y := by
  have h := mulHi (n := n) (y := -y) (h := -l) hn
  rw [Int.mul_neg] at h
  omega
theorem fd_mono {x y z : Int} (hx : x ≠ 0) (h : y ≤ z) : (0 < x → fd y x ≤ fd z x) ∧ (x < 0 → fd z x ≤ fd y x) := by
  refine ⟨fun hp => ?_, fun hp => ?_⟩
  · unfold fd
    rw [if_pos hp, if_pos hp]
    exact Int.ediv_le_ediv hp h
  · unfold fd
    rw [if_neg (by omega), if_neg (by omega)]
    exact Int.ediv_le_ediv (by omega) (by omega)
/-- every number between the quotients of the ends is one of a number between the ends -/
theorem fd_all {x l h q : Int} (hx : x ≠ 0) (hlh : l ≤ h) (h1 : fd l x ≤ q ∨ fd h x ≤ q) (h2 : q ≤ fd l x ∨ q ≤ fd h x) : ∃ y, l ≤ y ∧ y ≤ h ∧ fd y x = q := by
  obtain ⟨m1, m2⟩ := fd_mono hx hlh
  rcases Int.lt_or_gt_of_ne hx with hn | hp
  · have m := m2 hn
    have s1 := fd_sp (a := l) hx
    have s2 := fd_sp (a := h) hx
    have g1 : fd l x * x ≤ q * x := Int.mul_le_mul_of_nonpos_right (by omega) (by omega)
    have g2 : q * x ≤ fd h x * x := Int.mul_le_mul_of_nonpos_right (by omega) (by omega)
    refine ⟨max l (q * x + x + 1), by omega, by omega, (fd_iff hx).mpr (Or.inr ⟨hn, by omega, by omega⟩)⟩
  · have m := m1 hp
    have s1 := fd_sp (a := l) hx
    have s2 := fd_sp (a := h) hx
    have g1 : fd l x * x ≤ q * x := Int.mul_le_mul_of_nonneg_right (by omega) (by omega)
    have g2 : q * x ≤ fd h x * x := Int.mul_le_mul_of_nonneg_right (by omega) (by omega)
    refine ⟨max l (q * x), by omega, by omega, (fd_iff hx).mpr (Or.inl ⟨hp, by omega, by omega⟩)⟩
