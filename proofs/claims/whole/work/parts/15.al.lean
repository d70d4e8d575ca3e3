/-! one name's number fixed: what the row asks of the others -/
theorem bz.iff {z : Int} {P Q : Prop} (h : bz z P) (e : P ↔ Q) : bz z Q := h.elim (fun q => Or.inl ⟨q.1, e.mp q.2⟩) (fun q => Or.inr ⟨q.1, fun x => q.2 (e.mpr x)⟩)
def eoP (k R : Int) (f lo hi : Int → Int) (n mb : Int) : Int → Int := fun o => if o = n ∨ f o = 0 then 0 else if k = 9 then (if (mb = 1 ∧ lo o ≤ R ∧ R ≤ hi o) ∨ (mb = 0 ∧ lo o = R ∧ hi o = R) then 1 else 0) else f o * (if (mb = 1 ∧ 0 < f o) ∨ (mb = 0 ∧ f o < 0) then hi o else lo o)
theorem sm_neg {g h : Int → Int} (e : ∀ x, g x = -h x) : ∀ k : Nat, sm g k = -sm h k
  | 0 => rfl
  | k + 1 => by
    simp only [sm]
    rw [sm_neg e k, e]
    omega
section Al
variable {k a b c R : Int} {f lo hi : Int → Int} {n z : Int}
theorem ls_up (hk : k ≠ 9) (hn : 0 ≤ n ∧ n < 8) : lsum f (up lo n z) (up hi n z) 8 = f n * z + sm (eoP k R f lo hi n 0) 8 := by
  unfold lsum
  rw [sm_put (h := eoP k R f lo hi n 0) hn]
  · simp only [up_s]
    rw [ite_self]
  · intro j hj
    simp only [up_n hj]
    by_cases h0 : f j = 0
    · simp [eoP, h0]
    · by_cases h1 : 0 < f j
      · have h2 : ¬ f j < 0 := by omega
        simp [eoP, hk, hj, h0, h1, h2]
      · have h2 : f j < 0 := by omega
        simp [eoP, hk, hj, h0, h1, h2]
  · simp [eoP]
theorem ls_up1 (hk : k ≠ 9) (hn : 0 ≤ n ∧ n < 8) : lsum (fun i => -f i) (up lo n z) (up hi n z) 8 = -(f n * z + sm (eoP k R f lo hi n 1) 8) := by
  unfold lsum
  rw [sm_put (h := fun i => -eoP k R f lo hi n 1 i) hn]
  · simp only [up_s]
    rw [ite_self, sm_neg (h := eoP k R f lo hi n 1) (fun x => rfl), Int.neg_mul]
    omega
  · intro j hj
    simp only [up_n hj]
    by_cases h0 : f j = 0
    · simp [eoP, h0]
    · by_cases h1 : 0 < f j
      · have h2 : ¬ f j < 0 := by omega
        simp [eoP, hk, hj, h0, h1, h2, Int.neg_mul]
      · have h2 : f j < 0 := by omega
        simp [eoP, hk, hj, h0, h1, h2, Int.neg_mul]
  · simp [eoP]
theorem cx_up (hk : k = 9) (hn : 0 ≤ n ∧ n < 8) : cmax f (up lo n z) (up hi n z) R 8 = (if f n ≠ 0 ∧ z = R then 1 else 0) + sm (eoP k R f lo hi n 1) 8 := by
  unfold cmax
  rw [sm_put (h := eoP k R f lo hi n 1) hn]
  · simp only [up_s]
    congr 1
    by_cases h : f n ≠ 0 ∧ z = R
    · rw [if_pos h, if_pos (by omega)]
    · rw [if_neg h, if_neg (by omega)]
  · intro j hj
    simp only [up_n hj]
    by_cases h0 : f j = 0
    · simp [eoP, h0]
    · by_cases h1 : lo j ≤ R ∧ R ≤ hi j
      · simp [eoP, hk, hj, h0, h1]
      · simp [eoP, hk, hj, h0, h1]
  · simp [eoP]
theorem cm_up (hk : k = 9) (hn : 0 ≤ n ∧ n < 8) : cmin f (up lo n z) (up hi n z) R 8 = (if f n ≠ 0 ∧ z = R then 1 else 0) + sm (eoP k R f lo hi n 0) 8 := by
  unfold cmin
  rw [sm_put (h := eoP k R f lo hi n 0) hn]
  · simp only [up_s]
    congr 1
    by_cases h : f n ≠ 0 ∧ z = R
    · rw [if_pos h, if_pos (by omega)]
    · rw [if_neg h, if_neg (by omega)]
  · intro j hj
    simp only [up_n hj]
    by_cases h0 : f j = 0
    · simp [eoP, h0]
    · by_cases h1 : lo j = R ∧ hi j = R
      · simp [eoP, hk, hj, h0, h1]
      · simp [eoP, hk, hj, h0, h1]
  · simp [eoP]
theorem al_0 (hk : k = 0) (hn : 0 ≤ n ∧ n < 8) : f n * z + sm (eoP k R f lo hi n 0) 8 ≤ R ↔ Cn k a b c R f (up lo n z) (up hi n z) := by
  rw [cn_0 hk, ls_up (k := k) (R := R) (by omega) hn]
theorem al_1 (hk : k = 1) (hn : 0 ≤ n ∧ n < 8) : (f n * z + sm (eoP k R f lo hi n 0) 8 ≤ R ∧ R ≤ f n * z + sm (eoP k R f lo hi n 1) 8) ↔ Cn k a b c R f (up lo n z) (up hi n z) := by
  rw [cn_1 hk, ls_up (k := k) (R := R) (by omega) hn, ls_up1 (k := k) (R := R) (by omega) hn]
  omega
theorem al_2a (hk : k = 2) (hn : n = a) (h1 : a ≠ b) (h2 : a ≠ c) : (∃ x y, lo b ≤ x ∧ x ≤ hi b ∧ lo c ≤ y ∧ y ≤ hi c ∧ x * y = z) ↔ Cn k a b c R f (up lo n z) (up hi n z) := by
  subst hn
  rw [cn_2 hk]
  simp only [up_s, up_n h1.symm, up_n h2.symm]
  constructor
  · rintro ⟨x, y, q1, q2, q3, q4, q5⟩
    exact ⟨x, y, q1, q2, q3, q4, by omega, by omega⟩
  · rintro ⟨x, y, q1, q2, q3, q4, q5, q6⟩
    exact ⟨x, y, q1, q2, q3, q4, by omega⟩
theorem al_2b (hk : k = 2) (hn : n = b) (h1 : a ≠ b) (h2 : b ≠ c) : (∃ y, lo c ≤ y ∧ y ≤ hi c ∧ lo a ≤ z * y ∧ z * y ≤ hi a) ↔ Cn k a b c R f (up lo n z) (up hi n z) := by
  subst hn
  rw [cn_2 hk]
  simp only [up_s, up_n h1, up_n h2.symm]
  constructor
  · rintro ⟨y, q1, q2, q3, q4⟩
    exact ⟨z, y, by omega, by omega, q1, q2, q3, q4⟩
  · rintro ⟨x, y, q1, q2, q3, q4, q5, q6⟩
    obtain rfl : x = z := by omega
    exact ⟨y, q3, q4, q5, q6⟩
theorem al_2c (hk : k = 2) (hn : n = c) (h1 : a ≠ c) (h2 : b ≠ c) : (∃ y, lo b ≤ y ∧ y ≤ hi b ∧ lo a ≤ z * y ∧ z * y ≤ hi a) ↔ Cn k a b c R f (up lo n z) (up hi n z) := by
  subst hn
  rw [cn_2 hk]
  simp only [up_s, up_n h1, up_n h2]
  constructor
  · rintro ⟨y, q1, q2, q3, q4⟩
    exact ⟨y, z, q1, q2, by omega, by omega, by rw [Int.mul_comm]; exact q3, by rw [Int.mul_comm]; exact q4⟩
  · rintro ⟨y, x, q1, q2, q3, q4, q5, q6⟩
    obtain rfl : x = z := by omega
    exact ⟨y, q1, q2, by rw [Int.mul_comm]; exact q5, by rw [Int.mul_comm]; exact q6⟩
theorem al_3a (hk : k = 3) (hn : n = a) (h1 : a ≠ b) (h2 : a ≠ c) : (∃ x y, lo c ≤ x ∧ x ≤ hi c ∧ lo b ≤ y ∧ y ≤ hi b ∧ x ≠ 0 ∧ fd y x = z) ↔ Cn k a b c R f (up lo n z) (up hi n z) := by
  subst hn
  rw [cn_3 hk]
  simp only [up_s, up_n h1.symm, up_n h2.symm]
  constructor
  · rintro ⟨x, y, q1, q2, q3, q4, q5, q6⟩
    exact ⟨y, x, q3, q4, q1, q2, q5, by omega, by omega⟩
  · rintro ⟨y, x, q3, q4, q1, q2, q5, q6, q7⟩
    exact ⟨x, y, q1, q2, q3, q4, q5, by omega⟩
theorem al_3b (hk : k = 3) (hn : n = b) (h1 : a ≠ b) (h2 : b ≠ c) : (∃ x, lo c ≤ x ∧ x ≤ hi c ∧ x ≠ 0 ∧ lo a ≤ fd z x ∧ fd z x ≤ hi a) ↔ Cn k a b c R f (up lo n z) (up hi n z) := by
  subst hn
  rw [cn_3 hk]
  simp only [up_s, up_n h1, up_n h2.symm]
  constructor
  · rintro ⟨x, q1, q2, q3, q4, q5⟩
    exact ⟨z, x, by omega, by omega, q1, q2, q3, q4, q5⟩
  · rintro ⟨y, x, q1, q2, q3, q4, q5, q6, q7⟩
    obtain rfl : y = z := by omega
    exact ⟨x, q3, q4, q5, q6, q7⟩
theorem al_3c (hk : k = 3) (hn : n = c) (h1 : a ≠ c) (h2 : b ≠ c) : (z ≠ 0 ∧ ∃ y, lo b ≤ y ∧ y ≤ hi b ∧ lo a ≤ fd y z ∧ fd y z ≤ hi a) ↔ Cn k a b c R f (up lo n z) (up hi n z) := by
  subst hn
  rw [cn_3 hk]
  simp only [up_s, up_n h1, up_n h2]
  constructor
  · rintro ⟨q0, y, q1, q2, q3, q4⟩
    exact ⟨y, z, q1, q2, by omega, by omega, q0, q3, q4⟩
  · rintro ⟨y, x, q1, q2, q3, q4, q5, q6, q7⟩
    obtain rfl : x = z := by omega
    exact ⟨q5, y, q1, q2, q6, q7⟩
theorem al_4a (hk : k = 4) (hn : n = a) (h1 : a ≠ b) : (0 ≤ z ∧ ((lo b ≤ z ∧ z ≤ hi b) ∨ (lo b ≤ -z ∧ -z ≤ hi b))) ↔ Cn k a b c R f (up lo n z) (up hi n z) := by
  subst hn
  rw [cn_4 hk]
  simp only [up_s, up_n h1.symm]
  constructor
  · rintro ⟨q0, q1 | q1⟩
    · exact ⟨z, z, by omega, by omega, q1.1, q1.2, Or.inl ⟨q0, rfl⟩⟩
    · by_cases hz : z = 0
      · exact ⟨z, z, by omega, by omega, by omega, by omega, Or.inl ⟨q0, rfl⟩⟩
      · exact ⟨z, -z, by omega, by omega, q1.1, q1.2, by omega⟩
  · rintro ⟨x, y, q1, q2, q3, q4, q5⟩
    omega
theorem al_4b (hk : k = 4) (hn : n = b) (h1 : a ≠ b) {w : Int} (hw : (0 ≤ z ∧ w = z) ∨ (z < 0 ∧ w = -z)) : (lo a ≤ w ∧ w ≤ hi a) ↔ Cn k a b c R f (up lo n z) (up hi n z) := by
  subst hn
  rw [cn_4 hk]
  simp only [up_s, up_n h1]
  constructor
  · rintro ⟨q1, q2⟩
    exact ⟨w, z, q1, q2, by omega, by omega, hw⟩
  · rintro ⟨x, y, q1, q2, q3, q4, q5⟩
    omega
theorem al_5a (hk : k = 5) (hn : n = a) (h1 : a ≠ b) (h2 : a ≠ c) (hb : lo b ≤ hi b) (hc : lo c ≤ hi c) : ((lo b ≤ z ∧ z ≤ hi b ∧ lo c ≤ z) ∨ (lo c ≤ z ∧ z ≤ hi c ∧ lo b ≤ z)) ↔ Cn k a b c R f (up lo n z) (up hi n z) := by
  subst hn
  rw [cn_5 hk]
  simp only [up_s, up_n h1.symm, up_n h2.symm]
  constructor
  · rintro (⟨q1, q2, q3⟩ | ⟨q1, q2, q3⟩)
    · exact ⟨z, lo c, q1, q2, by omega, hc, by omega, by omega⟩
    · exact ⟨lo b, z, by omega, hb, q1, q2, by omega, by omega⟩
  · rintro ⟨x, y, q1, q2, q3, q4, q5, q6⟩
    omega
theorem al_5b (hk : k = 5) (hn : n = b) (h1 : a ≠ b) (h2 : b ≠ c) (ha : lo a ≤ hi a) (hc : lo c ≤ hi c) : (lo a ≤ max z (hi c) ∧ max z (lo c) ≤ hi a) ↔ Cn k a b c R f (up lo n z) (up hi n z) := by
  subst hn
  rw [cn_5 hk]
  simp only [up_s, up_n h1, up_n h2.symm]
  constructor
  · rintro ⟨q1, q2⟩
    exact ⟨z, min (hi c) (max (lo c) (lo a)), by omega, by omega, by omega, by omega, by omega, by omega⟩
  · rintro ⟨x, y, q1, q2, q3, q4, q5, q6⟩
    omega
theorem al_5c (hk : k = 5) (hn : n = c) (h1 : a ≠ c) (h2 : b ≠ c) (ha : lo a ≤ hi a) (hb : lo b ≤ hi b) : (lo a ≤ max z (hi b) ∧ max z (lo b) ≤ hi a) ↔ Cn k a b c R f (up lo n z) (up hi n z) := by
  subst hn
  rw [cn_5 hk]
  simp only [up_s, up_n h1, up_n h2]
  constructor
  · rintro ⟨q1, q2⟩
    exact ⟨min (hi b) (max (lo b) (lo a)), z, by omega, by omega, by omega, by omega, by omega, by omega⟩
  · rintro ⟨x, y, q1, q2, q3, q4, q5, q6⟩
    omega
theorem al_6a (hk : k = 6) (hn : n = a) (h1 : a ≠ b) (h2 : a ≠ c) (hb : lo b ≤ hi b) (hc : lo c ≤ hi c) : ((lo b ≤ z ∧ z ≤ hi b ∧ hi c ≥ z) ∨ (lo c ≤ z ∧ z ≤ hi c ∧ hi b ≥ z)) ↔ Cn k a b c R f (up lo n z) (up hi n z) := by
  subst hn
  rw [cn_6 hk]
  simp only [up_s, up_n h1.symm, up_n h2.symm]
  constructor
  · rintro (⟨q1, q2, q3⟩ | ⟨q1, q2, q3⟩)
    · exact ⟨z, hi c, q1, q2, by omega, by omega, by omega, by omega⟩
    · exact ⟨hi b, z, by omega, by omega, q1, q2, by omega, by omega⟩
  · rintro ⟨x, y, q1, q2, q3, q4, q5, q6⟩
    omega
theorem al_6b (hk : k = 6) (hn : n = b) (h1 : a ≠ b) (h2 : b ≠ c) (ha : lo a ≤ hi a) (hc : lo c ≤ hi c) : (lo a ≤ min z (hi c) ∧ min z (lo c) ≤ hi a) ↔ Cn k a b c R f (up lo n z) (up hi n z) := by
  subst hn
  rw [cn_6 hk]
  simp only [up_s, up_n h1, up_n h2.symm]
  constructor
  · rintro ⟨q1, q2⟩
    exact ⟨z, max (lo c) (min (hi c) (hi a)), by omega, by omega, by omega, by omega, by omega, by omega⟩
  · rintro ⟨x, y, q1, q2, q3, q4, q5, q6⟩
    omega
theorem al_6c (hk : k = 6) (hn : n = c) (h1 : a ≠ c) (h2 : b ≠ c) (ha : lo a ≤ hi a) (hb : lo b ≤ hi b) : (lo a ≤ min z (hi b) ∧ min z (lo b) ≤ hi a) ↔ Cn k a b c R f (up lo n z) (up hi n z) := by
  subst hn
  rw [cn_6 hk]
  simp only [up_s, up_n h1, up_n h2]
  constructor
  · rintro ⟨q1, q2⟩
    exact ⟨max (lo b) (min (hi b) (hi a)), z, by omega, by omega, by omega, by omega, by omega, by omega⟩
  · rintro ⟨x, y, q1, q2, q3, q4, q5, q6⟩
    omega
theorem al_7a (hk : k = 7) (hn : n = a) (h1 : a ≠ b) (hb : lo b ≤ hi b) : ¬ (lo b = z - R ∧ hi b = z - R) ↔ Cn k a b c R f (up lo n z) (up hi n z) := by
  subst hn
  rw [cn_7 hk]
  simp only [up_s, up_n h1.symm]
  constructor
  · intro q
    by_cases h : lo b = z - R
    · exact ⟨z, hi b, by omega, by omega, by omega, by omega, by omega⟩
    · exact ⟨z, lo b, by omega, by omega, by omega, by omega, by omega⟩
  · rintro ⟨x, y, q1, q2, q3, q4, q5⟩
    omega
theorem al_7b (hk : k = 7) (hn : n = b) (h1 : a ≠ b) (ha : lo a ≤ hi a) : ¬ (lo a = z + R ∧ hi a = z + R) ↔ Cn k a b c R f (up lo n z) (up hi n z) := by
  subst hn
  rw [cn_7 hk]
  simp only [up_s, up_n h1]
  constructor
  · intro q
    by_cases h : lo a = z + R
    · exact ⟨hi a, z, by omega, by omega, by omega, by omega, by omega⟩
    · exact ⟨lo a, z, by omega, by omega, by omega, by omega, by omega⟩
  · rintro ⟨x, y, q1, q2, q3, q4, q5⟩
    omega
theorem al_8 (hk : k = 8) (hn : 0 ≤ n ∧ n < 8) : ((n = a ∧ z ≠ 1) ∨ (n ≠ a ∧ ¬ (lo a = 1 ∧ hi a = 1)) ∨ f n * z + sm (eoP k R f lo hi n 0) 8 ≤ R) ↔ Cn k a b c R f (up lo n z) (up hi n z) := by
  rw [cn_8 hk, ls_up (k := k) (R := R) (by omega) hn]
  by_cases h : n = a
  · subst h
    rw [up_s, up_s]
    omega
  · rw [up_n (Ne.symm h), up_n (Ne.symm h)]
    omega
theorem al_9 (hk : k = 9) (hn : 0 ≤ n ∧ n < 8) (hf : f a = 0) (hab : n = a ∨ f n ≠ 0) : ((n = a → sm (eoP k R f lo hi n 0) 8 ≤ z ∧ z ≤ sm (eoP k R f lo hi n 1) 8) ∧ (n ≠ a → z = R → lo a ≤ sm (eoP k R f lo hi n 1) 8 + 1 ∧ sm (eoP k R f lo hi n 0) 8 + 1 ≤ hi a) ∧ (n ≠ a → z ≠ R → lo a ≤ sm (eoP k R f lo hi n 1) 8 ∧ sm (eoP k R f lo hi n 0) 8 ≤ hi a)) ↔ Cn k a b c R f (up lo n z) (up hi n z) := by
  rw [cn_9 hk, cx_up (k := k) hk hn, cm_up (k := k) hk hn]
  by_cases h : n = a
  · subst h
    rw [up_s, up_s, if_neg (by omega)]
    omega
  · rw [up_n (Ne.symm h), up_n (Ne.symm h)]
    by_cases hz : z = R
    · rw [if_pos (by omega)]
      omega
    · rw [if_neg (by omega)]
      omega
end Al
