theorem wb_tb (n : Nat) : (lN n).toBitVec = BitVec.ofNat 64 n := rfl
theorem wb_inj {a b : Int64} (h : a.toBitVec = b.toBitVec) : a = b := Int64.toBitVec_inj.mp h
theorem wb_tn {n : Nat} (h : n < 2 ^ 64) : (lN n).toBitVec.toNat = n := by rw [wb_tb, BitVec.toNat_ofNat, Nat.mod_eq_of_lt h]
theorem wb_of (x : Int64) : ∃ n, n < 2 ^ 64 ∧ x = lN n := ⟨x.toBitVec.toNat, x.toBitVec.isLt, wb_inj (by rw [wb_tb]; simp)⟩
theorem wb_of32 (x : Int32) : ∃ n, n < 2 ^ 32 ∧ x = nI n := ⟨x.toBitVec.toNat, x.toBitVec.isLt, Int32.toBitVec_inj.mp (by show _ = BitVec.ofNat 32 _; simp)⟩
theorem wb_c : ∀ k, k < 64 → ((nI k).toInt64 &&& 63) = lN k := by decide +kernel
theorem wb_cu : ∀ k, k < 64 → ((nI k).toInt64.toUInt64 &&& Int64.toUInt64 63) = UInt64.ofNat k := by decide +kernel
theorem wb_sm : ∀ k, k < 64 → (BitVec.ofNat 64 k).smod 64 = BitVec.ofNat 64 k := by decide +kernel
theorem wb_pw {a b : Nat} (h : a ≤ b) : 2 ^ b = 2 ^ a * 2 ^ (b - a) := by rw [← Nat.pow_add]; congr 1; omega
theorem wb_lt2 {a b : Nat} (h : a < b) : 2 ^ a < 2 ^ b := Nat.pow_lt_pow_right (by decide) h
theorem wb_mod (n : Nat) : lN n = lN (n % 2 ^ 64) := wb_inj (by rw [wb_tb, wb_tb]; apply BitVec.eq_of_toNat_eq; rw [BitVec.toNat_ofNat, BitVec.toNat_ofNat, Nat.mod_mod])
theorem wb_shr {n k : Nat} (hn : n < 2 ^ 64) (hk : k < 64) : ((lN n).toUInt64 >>> ((nI k).toInt64.toUInt64 &&& Int64.toUInt64 63)).toInt64 = lN (n / 2 ^ k) := by
  rw [wb_cu k hk]
  apply wb_inj
  apply BitVec.eq_of_toNat_eq
  show ((lN n).toUInt64 >>> UInt64.ofNat k).toNat = (BitVec.ofNat 64 _).toNat
  have h1 : (UInt64.ofNat k).toNat = k := by
    show (BitVec.ofNat 64 k).toNat = k
    rw [BitVec.toNat_ofNat, Nat.mod_eq_of_lt (by omega)]
  have h2 : (lN n).toUInt64.toNat = n := wb_tn hn
  rw [UInt64.toNat_shiftRight, h1, h2, Nat.mod_eq_of_lt hk, Nat.shiftRight_eq_div_pow, BitVec.toNat_ofNat, Nat.mod_eq_of_lt (Nat.lt_of_le_of_lt (Nat.div_le_self _ _) hn)]
theorem wb_shl (n : Nat) {k : Nat} (hk : k < 64) : lN n <<< ((nI k).toInt64 &&& 63) = lN (n * 2 ^ k) := by
  rw [wb_c k hk]
  apply wb_inj
  rw [Int64.toBitVec_shiftLeft, wb_tb, wb_tb, wb_tb, wb_sm k hk]
  apply BitVec.eq_of_toNat_eq
  rw [BitVec.shiftLeft_eq', BitVec.toNat_shiftLeft, BitVec.toNat_ofNat, BitVec.toNat_ofNat, BitVec.toNat_ofNat, Nat.mod_eq_of_lt (show k < 2 ^ 64 by omega), Nat.shiftLeft_eq, Nat.mul_mod, Nat.mod_mod, ← Nat.mul_mod]
theorem wb_and {a b : Nat} (ha : a < 2 ^ 64) (hb : b < 2 ^ 64) : lN a &&& lN b = lN (a &&& b) := by
  apply wb_inj
  rw [Int64.toBitVec_and, wb_tb, wb_tb, wb_tb]
  apply BitVec.eq_of_toNat_eq
  rw [BitVec.toNat_and, BitVec.toNat_ofNat, BitVec.toNat_ofNat, BitVec.toNat_ofNat, Nat.mod_eq_of_lt ha, Nat.mod_eq_of_lt hb, Nat.mod_eq_of_lt (Nat.and_lt_two_pow _ hb)]
theorem wb_or {a b : Nat} (ha : a < 2 ^ 64) (hb : b < 2 ^ 64) : lN a ||| lN b = lN (a ||| b) := by
  apply wb_inj
  rw [Int64.toBitVec_or, wb_tb, wb_tb, wb_tb]
  apply BitVec.eq_of_toNat_eq
  rw [BitVec.toNat_or, BitVec.toNat_ofNat, BitVec.toNat_ofNat, BitVec.toNat_ofNat, Nat.mod_eq_of_lt ha, Nat.mod_eq_of_lt hb, Nat.mod_eq_of_lt (Nat.or_lt_two_pow ha hb)]
theorem wb_mask {n k : Nat} (hn : n < 2 ^ 64) (hk : k < 64) : lN n &&& lN (2 ^ k - 1) = lN (n % 2 ^ k) := by
  rw [wb_and hn (by have := wb_lt2 hk; omega), Nat.and_two_pow_sub_one_eq_mod]
theorem wb_a1 {n : Nat} (hn : n < 2 ^ 64) : lN n &&& 1 = lN (n % 2) := wb_mask (k := 1) hn (by decide)
/-! numbers by their bits; the ones counted -/
theorem land_split {k a b c d : Nat} (ha : a < 2 ^ k) (hc : c < 2 ^ k) : (2 ^ k * b + a) &&& (2 ^ k * d + c) = 2 ^ k * (b &&& d) + (a &&& c) := by
  apply Nat.eq_of_testBit_eq
  intro j
  rw [Nat.testBit_and, Nat.testBit_two_pow_mul_add _ ha, Nat.testBit_two_pow_mul_add _ hc, Nat.testBit_two_pow_mul_add _ (Nat.lt_of_le_of_lt Nat.and_le_left ha)]
  by_cases h : j < k
  · simp only [if_pos h, Nat.testBit_and]
  · simp only [if_neg h, Nat.testBit_and]
def pN : Nat → Nat → Nat
  | 0, _ => 0
  | n + 1, x => x % 2 + pN n (x / 2)
theorem pN_snoc : ∀ (n x : Nat), pN (n + 1) x = pN n x + x / 2 ^ n % 2
  | 0, x => by simp [pN]
  | n + 1, x => by
    have ih := pN_snoc n (x / 2)
    show x % 2 + pN (n + 1) (x / 2) = (x % 2 + pN n (x / 2)) + x / 2 ^ (n + 1) % 2
    rw [ih, Nat.div_div_eq_div_mul, show 2 * 2 ^ n = 2 ^ (n + 1) by rw [Nat.pow_succ, Nat.mul_comm]]
    omega
theorem pN_le : ∀ (n x : Nat), pN n x ≤ n
  | 0, _ => Nat.le_refl _
  | n + 1, x => by
    have := pN_le n (x / 2)
    simp only [pN]
    omega
def m1 : Nat → Nat
  | 0 => 0
  | n + 1 => 4 * m1 n + 1
def p1 : Nat → Nat → Nat
  | 0, _ => 0
  | n + 1, x => 4 * p1 n (x / 4) + x / 2 % 2
def d1 : Nat → Nat → Nat
  | 0, _ => 0
  | n + 1, x => 4 * d1 n (x / 4) + (x % 2 + x / 2 % 2)
theorem sw_p : ∀ (n x : Nat), x / 2 &&& m1 n = p1 n x
  | 0, x => by simp [m1, p1]
  | n + 1, x => by
    have ih := sw_p n (x / 4)
    have h := land_split (k := 2) (a := x / 2 % 4) (b := x / 8) (c := 1) (d := m1 n) (by omega) (by omega)
    simp only [m1, p1]
    rw [show x / 2 = 2 ^ 2 * (x / 8) + x / 2 % 4 by omega, show 4 * m1 n + 1 = 2 ^ 2 * m1 n + 1 by omega, h, show x / 8 = x / 4 / 2 by omega, ih, Nat.and_one_is_mod]
    omega
theorem sw_1 : ∀ (n x : Nat), x < 4 ^ n → p1 n x ≤ x ∧ x - p1 n x = d1 n x
  | 0, x, h => by
    have : x = 0 := by simpa using h
    subst this
    simp [p1, d1]
  | n + 1, x, h => by
    have ih := sw_1 n (x / 4) (by rw [Nat.pow_succ] at h; omega)
    simp only [p1, d1]
    omega
def m2 : Nat → Nat
  | 0 => 0
  | n + 1 => 16 * m2 n + 3
def d2 : Nat → Nat → Nat
  | 0, _ => 0
  | n + 1, x => 16 * d2 n (x / 16) + pN 4 x
theorem sw_2 : ∀ (n x : Nat), (d1 (2 * n) x &&& m2 n) + (d1 (2 * n) x / 4 &&& m2 n) = d2 n x
  | 0, x => by simp [m2, d1, d2]
  | n + 1, x => by
    have ih := sw_2 n (x / 16)
    have e : d1 (2 * (n + 1)) x = 16 * d1 (2 * n) (x / 16) + (4 * (x / 4 % 2 + x / 4 / 2 % 2) + (x % 2 + x / 2 % 2)) := by
      show 4 * (4 * d1 (2 * n) (x / 4 / 4) + (x / 4 % 2 + x / 4 / 2 % 2)) + (x % 2 + x / 2 % 2) = _
      rw [show x / 4 / 4 = x / 16 by omega]
      omega
    have ep : pN 4 x = x % 2 + x / 2 % 2 + (x / 4 % 2 + x / 4 / 2 % 2) := by
      simp only [pN]
      omega
    rw [e]
    simp only [m2, d2]
    rw [ep, ← ih]
    generalize d1 (2 * n) (x / 16) = y
    have ht0 : x % 2 + x / 2 % 2 < 4 := by omega
    have ht1 : x / 4 % 2 + x / 4 / 2 % 2 < 4 := by omega
    generalize x % 2 + x / 2 % 2 = t0 at ht0 ⊢
    generalize x / 4 % 2 + x / 4 / 2 % 2 = t1 at ht1 ⊢
    have h1 := land_split (k := 4) (a := 4 * t1 + t0) (b := y) (c := 3) (d := m2 n) (by omega) (by omega)
    have h2 := land_split (k := 4) (a := t1 + 4 * (y % 4)) (b := y / 4) (c := 3) (d := m2 n) (by omega) (by omega)
    have h3 : (4 * t1 + t0) &&& 3 = t0 := by rw [show (3 : Nat) = 2 ^ 2 - 1 by rfl, Nat.and_two_pow_sub_one_eq_mod]; omega
    have h4 : (t1 + 4 * (y % 4)) &&& 3 = t1 := by rw [show (3 : Nat) = 2 ^ 2 - 1 by rfl, Nat.and_two_pow_sub_one_eq_mod]; omega
    rw [h3] at h1
    rw [h4] at h2
    rw [show (16 * y + (4 * t1 + t0)) / 4 = 2 ^ 4 * (y / 4) + (t1 + 4 * (y % 4)) by omega, show 16 * y + (4 * t1 + t0) = 2 ^ 4 * y + (4 * t1 + t0) by omega, show 16 * m2 n + 3 = 2 ^ 4 * m2 n + 3 by omega, h1, h2]
    omega
def m3 : Nat → Nat
  | 0 => 0
  | n + 1 => 256 * m3 n + 15
def d3 : Nat → Nat → Nat
  | 0, _ => 0
  | n + 1, x => 256 * d3 n (x / 256) + pN 8 x
theorem d2_lo (n x : Nat) : d2 n x % 16 ≤ 4 := by
  cases n with
  | zero => simp [d2]
  | succ n =>
    have := pN_le 4 x
    simp only [d2]
    omega
theorem sw_3 : ∀ (n x : Nat), (d2 (2 * n) x + d2 (2 * n) x / 16) &&& m3 n = d3 n x
  | 0, x => by simp [m3, d2, d3]
  | n + 1, x => by
    have ih := sw_3 n (x / 256)
    have e : d2 (2 * (n + 1)) x = 256 * d2 (2 * n) (x / 256) + (16 * pN 4 (x / 16) + pN 4 x) := by
      show 16 * (16 * d2 (2 * n) (x / 16 / 16) + pN 4 (x / 16)) + pN 4 x = _
      rw [show x / 16 / 16 = x / 256 by omega]
      omega
    have ep : pN 8 x = pN 4 x + pN 4 (x / 16) := by
      simp only [pN]
      omega
    have hlo := d2_lo (2 * n) (x / 256)
    rw [e]
    simp only [m3, d3]
    rw [ep, ← ih]
    generalize d2 (2 * n) (x / 256) = y at hlo ⊢
    have h0 := pN_le 4 x
    have h1 := pN_le 4 (x / 16)
    generalize pN 4 x = s0 at h0 ⊢
    generalize pN 4 (x / 16) = s1 at h1 ⊢
    have h2 := land_split (k := 8) (a := s0 + s1 + 16 * (s1 + y % 16)) (b := y + y / 16) (c := 15) (d := m3 n) (by omega) (by omega)
    have h3 : (s0 + s1 + 16 * (s1 + y % 16)) &&& 15 = s0 + s1 := by rw [show (15 : Nat) = 2 ^ 4 - 1 by rfl, Nat.and_two_pow_sub_one_eq_mod]; omega
    rw [h3] at h2
    rw [show 256 * y + (16 * s1 + s0) + (256 * y + (16 * s1 + s0)) / 16 = 2 ^ 8 * (y + y / 16) + (s0 + s1 + 16 * (s1 + y % 16)) by omega, show 256 * m3 n + 15 = 2 ^ 8 * m3 n + 15 by omega, h2]
theorem pN_8 (n x : Nat) : pN (8 + n) x = pN 8 x + pN n (x / 256) := by
  rw [show 8 + n = n + 8 by omega]
  simp only [pN]
  rw [show x / 2 / 2 / 2 / 2 / 2 / 2 / 2 / 2 = x / 256 by omega]
  omega
theorem sw_4 (x : Nat) : ∃ y0 y1 y2 y3 y4 y5 y6 y7 : Nat, y0 ≤ 8 ∧ y1 ≤ 8 ∧ y2 ≤ 8 ∧ y3 ≤ 8 ∧ y4 ≤ 8 ∧ y5 ≤ 8 ∧ y6 ≤ 8 ∧ y7 ≤ 8 ∧ d3 8 x = y0 + 256 * (y1 + 256 * (y2 + 256 * (y3 + 256 * (y4 + 256 * (y5 + 256 * (y6 + 256 * y7)))))) ∧ pN 64 x = y0 + y1 + y2 + y3 + y4 + y5 + y6 + y7 := by
  refine ⟨pN 8 x, pN 8 (x / 256), pN 8 (x / 256 / 256), pN 8 (x / 256 / 256 / 256), pN 8 (x / 256 / 256 / 256 / 256), pN 8 (x / 256 / 256 / 256 / 256 / 256), pN 8 (x / 256 / 256 / 256 / 256 / 256 / 256), pN 8 (x / 256 / 256 / 256 / 256 / 256 / 256 / 256), pN_le _ _, pN_le _ _, pN_le _ _, pN_le _ _, pN_le _ _, pN_le _ _, pN_le _ _, pN_le _ _, ?_, ?_⟩
  · simp only [d3]
    omega
  · have e : pN 64 x = pN 8 x + pN 56 (x / 256) := pN_8 56 x
    have e1 : pN 56 (x / 256) = pN 8 (x / 256) + pN 48 (x / 256 / 256) := pN_8 48 (x / 256)
    have e2 : pN 48 (x / 256 / 256) = pN 8 (x / 256 / 256) + pN 40 (x / 256 / 256 / 256) := pN_8 40 (x / 256 / 256)
    have e3 : pN 40 (x / 256 / 256 / 256) = pN 8 (x / 256 / 256 / 256) + pN 32 (x / 256 / 256 / 256 / 256) := pN_8 32 (x / 256 / 256 / 256)
    have e4 : pN 32 (x / 256 / 256 / 256 / 256) = pN 8 (x / 256 / 256 / 256 / 256) + pN 24 (x / 256 / 256 / 256 / 256 / 256) := pN_8 24 (x / 256 / 256 / 256 / 256)
    have e5 : pN 24 (x / 256 / 256 / 256 / 256 / 256) = pN 8 (x / 256 / 256 / 256 / 256 / 256) + pN 16 (x / 256 / 256 / 256 / 256 / 256 / 256) := pN_8 16 (x / 256 / 256 / 256 / 256 / 256)
    have e6 : pN 16 (x / 256 / 256 / 256 / 256 / 256 / 256) = pN 8 (x / 256 / 256 / 256 / 256 / 256 / 256) + pN 8 (x / 256 / 256 / 256 / 256 / 256 / 256 / 256) := pN_8 8 (x / 256 / 256 / 256 / 256 / 256 / 256)
    omega
theorem sw_4i (x : Nat) : ∃ y0 y1 y2 y3 : Nat, y0 ≤ 8 ∧ y1 ≤ 8 ∧ y2 ≤ 8 ∧ y3 ≤ 8 ∧ d3 4 x = y0 + 256 * (y1 + 256 * (y2 + 256 * y3)) ∧ pN 32 x = y0 + y1 + y2 + y3 := by
  refine ⟨pN 8 x, pN 8 (x / 256), pN 8 (x / 256 / 256), pN 8 (x / 256 / 256 / 256), pN_le _ _, pN_le _ _, pN_le _ _, pN_le _ _, ?_, ?_⟩
  · simp only [d3]
    omega
  · have e : pN 32 x = pN 8 x + pN 24 (x / 256) := pN_8 24 x
    have e1 : pN 24 (x / 256) = pN 8 (x / 256) + pN 16 (x / 256 / 256) := pN_8 16 (x / 256)
    have e2 : pN 16 (x / 256 / 256) = pN 8 (x / 256 / 256) + pN 8 (x / 256 / 256 / 256) := pN_8 8 (x / 256 / 256)
    omega
theorem pN_sm (x : Nat) : ∀ n : Nat, sm (fun k => if x.testBit k.toNat = true then 1 else 0) n = (pN n x : Int)
  | 0 => rfl
  | n + 1 => by
    rw [pN_snoc]
    simp only [sm]
    rw [pN_sm x n, Int.toNat_natCast, Nat.testBit_eq_decide_div_mod_eq]
    by_cases h : x / 2 ^ n % 2 = 1
    · simp [h]
    · have : x / 2 ^ n % 2 = 0 := by omega
      simp [this]
