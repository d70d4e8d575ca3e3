/-! least and greatest of a set; sets as longs -/
theorem wI_s {v : Mem} {i : Nat} {x z : Int} : (wI v i x z).1 i x = z := u2_s
theorem wL_s {v : Mem} {i : Nat} {x : Int} {z : Int64} : (wL v i x z).2 i x = z := u2_s
def lsF (S : Int → Bool) : Nat → Int
  | 0 => -1000
  | j + 1 => if S (63 - (j : Int)) = true then 31 - (j : Int) else lsF S j
def msF (S : Int → Bool) : Nat → Int
  | 0 => -1000
  | j + 1 => if S (j : Int) = true then (j : Int) - 32 else msF S j
def SL (S : Int → Bool) : Int := lsF S 64
def SM (S : Int → Bool) : Int := msF S 64
theorem lsF_of {S : Int → Bool} {t : Int} (ht : 0 ≤ t ∧ t < 64) (h1 : S t = true) (h2 : ∀ j, 0 ≤ j → j < t → S j = false) : ∀ n : Nat, n ≤ 64 → 64 - (n : Int) ≤ t → lsF S n = t - 32
  | 0, _, h => by omega
  | n + 1, hn, h => by
    simp only [lsF]
    by_cases hk : 63 - (n : Int) = t
    · rw [hk, if_pos h1]
      omega
    · rw [h2 _ (by omega) (by omega), if_neg (by simp)]
      exact lsF_of ht h1 h2 n (by omega) (by omega)
theorem msF_of {S : Int → Bool} {t : Int} (ht : 0 ≤ t ∧ t < 64) (h1 : S t = true) (h2 : ∀ j, t < j → j < 64 → S j = false) : ∀ n : Nat, n ≤ 64 → t < (n : Int) → msF S n = t - 32
  | 0, _, h => by omega
  | n + 1, hn, h => by
    simp only [msF]
    by_cases hk : (n : Int) = t
    · rw [hk, if_pos h1]
    · rw [h2 _ (by omega) (by omega), if_neg (by simp)]
      exact msF_of ht h1 h2 n (by omega) (by omega)
theorem SL_of {S : Int → Bool} {t : Int} (ht : 0 ≤ t ∧ t < 64) (h1 : S t = true) (h2 : ∀ j, 0 ≤ j → j < t → S j = false) : SL S = t - 32 := lsF_of ht h1 h2 64 (by omega) (by omega)
theorem SM_of {S : Int → Bool} {t : Int} (ht : 0 ≤ t ∧ t < 64) (h1 : S t = true) (h2 : ∀ j, t < j → j < 64 → S j = false) : SM S = t - 32 := msF_of ht h1 h2 64 (by omega) (by omega)
theorem lsF_c {S T : Int → Bool} (h : ∀ k, 0 ≤ k → k < 64 → S k = T k) : ∀ n : Nat, n ≤ 64 → lsF S n = lsF T n
  | 0, _ => rfl
  | n + 1, hn => by
    simp only [lsF]
    rw [h _ (by omega) (by omega), lsF_c h n (by omega)]
theorem msF_c {S T : Int → Bool} (h : ∀ k, 0 ≤ k → k < 64 → S k = T k) : ∀ n : Nat, n ≤ 64 → msF S n = msF T n
  | 0, _ => rfl
  | n + 1, hn => by
    simp only [msF]
    rw [h _ (by omega) (by omega), msF_c h n (by omega)]
theorem SL_c {S T : Int → Bool} (h : ∀ k, 0 ≤ k → k < 64 → S k = T k) : SL S = SL T := lsF_c h 64 (by omega)
theorem SM_c {S T : Int → Bool} (h : ∀ k, 0 ≤ k → k < 64 → S k = T k) : SM S = SM T := msF_c h 64 (by omega)
theorem SL_sp {S : Int → Bool} (h : ∃ k, 0 ≤ k ∧ k < 64 ∧ S k = true) : ∃ t, 0 ≤ t ∧ t < 64 ∧ S t = true ∧ (∀ j, 0 ≤ j → j < t → S j = false) ∧ SL S = t - 32 := by
  obtain ⟨k, hk, hk2, hk3⟩ := h
  obtain ⟨t, ht, hlow⟩ := pk_least (fun j : Nat => S (j : Int) = true) ⟨k.toNat, by rw [Int.toNat_of_nonneg hk]; exact hk3⟩
  have htk : (t : Int) ≤ k := by
    apply Int.not_lt.mp
    intro q
    have := hlow k.toNat (by omega)
    rw [Int.toNat_of_nonneg hk] at this
    exact this hk3
  have hl2 : ∀ j, 0 ≤ j → j < (t : Int) → S j = false := by
    intro j hj hj2
    have := hlow j.toNat (by omega)
    rw [Int.toNat_of_nonneg hj] at this
    simpa using this
  exact ⟨t, by omega, by omega, ht, hl2, SL_of ⟨by omega, by omega⟩ ht hl2⟩
theorem SM_sp {S : Int → Bool} (h : ∃ k, 0 ≤ k ∧ k < 64 ∧ S k = true) : ∃ t, 0 ≤ t ∧ t < 64 ∧ S t = true ∧ (∀ j, t < j → j < 64 → S j = false) ∧ SM S = t - 32 := by
  obtain ⟨k, hk, hk2, hk3⟩ := h
  obtain ⟨t, ht, hlow⟩ := pk_least (fun j : Nat => 0 ≤ 63 - (j : Int) ∧ S (63 - (j : Int)) = true) ⟨(63 - k).toNat, by rw [Int.toNat_of_nonneg (by omega)]; exact ⟨by omega, by rw [show 63 - (63 - k) = k by omega]; exact hk3⟩⟩
  have hl2 : ∀ j, 63 - (t : Int) < j → j < 64 → S j = false := by
    intro j hj hj2
    have := hlow (63 - j).toNat (by omega)
    rw [Int.toNat_of_nonneg (by omega), show 63 - (63 - j) = j by omega] at this
    have h3 : ¬ S j = true := fun q => this ⟨by omega, q⟩
    simpa using h3
  exact ⟨63 - t, by omega, by omega, ht.2, hl2, SM_of ⟨by omega, by omega⟩ ht.2 hl2⟩
theorem uW_0 {w : Int64} : uW w = 0 ↔ w = 0 := ⟨fun h => uW_inj (h.trans rfl), fun h => by rw [h]; rfl⟩
theorem hb_ex {w : Int64} (h : uW w ≠ 0) : ∃ k, 0 ≤ k ∧ k < 64 ∧ hb w k = true := by
  obtain ⟨i, hi⟩ := Nat.exists_testBit_of_ne_zero h
  have : i < 64 := by
    apply Nat.lt_of_not_le
    intro q
    have h2 := Nat.testBit_lt_two_pow (x := uW w) (i := i) (Nat.lt_of_lt_of_le (uW_lt w) (Nat.pow_le_pow_right (by decide) q))
    rw [h2] at hi; cases hi
  exact ⟨i, by omega, by omega, by unfold hb; rw [Int.toNat_natCast]; exact hi⟩
theorem hb_0 {w : Int64} (h : uW w = 0) (k : Int) : hb w k = false := by unfold hb; rw [h]; exact Nat.zero_testBit _
def bt (k : Int) : Int64 := lN (2 ^ k.toNat)
theorem uW_bt {k : Int} (h : 0 ≤ k ∧ k < 64) : uW (bt k) = 2 ^ k.toNat := uW_lN (Nat.pow_lt_pow_right (by decide) (by omega))
theorem hb_bt {k j : Int} (h : 0 ≤ k ∧ k < 64) (hj : 0 ≤ j) : hb (bt k) j = decide (j = k) := by
  unfold hb
  rw [uW_bt h, Nat.testBit_two_pow]
  by_cases e : j = k
  · subst e; simp
  · simp [e, show ¬ k.toNat = j.toNat by omega]
theorem hb_and {a b : Int64} {k : Int} : hb (a &&& b) k = (hb a k && hb b k) := by
  unfold hb
  rw [uW_and, Nat.testBit_and]
theorem uW_m1 : uW (-1) = 2 ^ 64 - 1 := by decide +kernel
theorem uW_xor (a b : Int64) : uW (a ^^^ b) = uW a ^^^ uW b := by
  show (a ^^^ b).toBitVec.toNat = _
  rw [Int64.toBitVec_xor, BitVec.toNat_xor]
  rfl
theorem hb_not {a : Int64} {k : Int} (h : 0 ≤ k ∧ k < 64) : hb (a ^^^ (-1)) k = !hb a k := by
  unfold hb
  rw [uW_xor, uW_m1, Nat.testBit_xor, Nat.testBit_two_pow_sub_one]
  simp [show k.toNat < 64 by omega]
def clr (w : Int64) (k : Int) : Int64 := w &&& (bt k ^^^ (-1))
theorem hb_clr {w : Int64} {k j : Int} (hk : 0 ≤ k ∧ k < 64) (hj : 0 ≤ j ∧ j < 64) : hb (clr w k) j = (hb w j && !decide (j = k)) := by
  unfold clr
  rw [hb_and, hb_not hj, hb_bt hk hj.1]
theorem hb_ext {a b : Int64} (h : ∀ k, 0 ≤ k → k < 64 → hb a k = hb b k) : a = b := by
  apply uW_inj
  apply Nat.eq_of_testBit_eq
  intro i
  by_cases hi : i < 64
  · have := h i (by omega) (by omega)
    unfold hb at this
    rwa [Int.toNat_natCast] at this
  · rw [Nat.testBit_lt_two_pow (Nat.lt_of_lt_of_le (uW_lt a) (Nat.pow_le_pow_right (by decide) (by omega))), Nat.testBit_lt_two_pow (Nat.lt_of_lt_of_le (uW_lt b) (Nat.pow_le_pow_right (by decide) (by omega)))]
theorem and_bt0 {w : Int64} {k : Int} (hk : 0 ≤ k ∧ k < 64) : w &&& bt k = 0 ↔ hb w k = false := by
  constructor
  · intro h
    have h2 : hb (w &&& bt k) k = false := by rw [h]; exact hb_0 rfl k
    rw [hb_and, hb_bt hk hk.1] at h2
    simpa using h2
  · intro h
    apply hb_ext
    intro j h1 h2
    rw [hb_and, hb_bt hk h1, hb_0 (w := 0) rfl]
    by_cases e : j = k
    · subst e; simp [h]
    · simp [e]
theorem lgc0 {a b : Int64} : (lg_cmp a b).toInt = 0 ↔ a = b := by
  unfold lg_cmp
  by_cases h : a = b
  · subst h
    simp
  · by_cases h2 : b < a
    · simp [h, h2]
    · simp [h, h2]
theorem shl_bt {z : Int} (h : -32 ≤ z ∧ z ≤ 31) : (1 : Int64) <<< ((iI (z - (-32))).toInt64 &&& 63) = bt (z + 32) := by
  have e := wb_shl 1 (k := (z + 32).toNat) (by omega)
  rw [← iI_nI, Int.toNat_of_nonneg (by omega), Nat.one_mul] at e
  rw [show z - (-32) = z + 32 by omega]
  exact e
def rgW (lo hi : Int) : Int64 := ((-1 : Int64).toUInt64 >>> ((iI (31 - hi)).toInt64.toUInt64 &&& Int64.toUInt64 63)).toInt64 &&& ((-1 : Int64) <<< ((iI (lo - (-32))).toInt64 &&& 63))
theorem hb_rgW {lo hi k : Int} (h1 : -32 ≤ lo ∧ lo ≤ 31) (h2 : -32 ≤ hi ∧ hi ≤ 31) (hk : 0 ≤ k ∧ k < 64) : hb (rgW lo hi) k = decide (lo + 32 ≤ k ∧ k ≤ hi + 32) := by
  unfold rgW
  rw [hb_and]
  have e1 := uW_shr (-1) (31 - hi).toNat (by omega)
  rw [Int.toNat_of_nonneg (by omega), uW_m1] at e1
  have e2 := wb_shl (2 ^ 64 - 1) (k := (lo + 32).toNat) (by omega)
  rw [← iI_nI, Int.toNat_of_nonneg (by omega), ← uW_m1, ← lN_uW] at e2
  rw [show lo - (-32) = lo + 32 by omega, e2]
  have e3 : uW (lN (uW (-1) * 2 ^ (lo + 32).toNat)) = (uW (-1) * 2 ^ (lo + 32).toNat) % 2 ^ 64 := by
    show (BitVec.ofNat 64 _).toNat = _
    rw [BitVec.toNat_ofNat]
  unfold hb
  rw [e1, e3, Nat.testBit_div_two_pow, Nat.testBit_mod_two_pow, Nat.testBit_mul_two_pow, uW_m1, Nat.testBit_two_pow_sub_one, Nat.testBit_two_pow_sub_one]
  by_cases a1 : lo + 32 ≤ k <;> by_cases a2 : k ≤ hi + 32
  · simp [a1, a2, show k.toNat + (31 - hi).toNat < 64 by omega, show k.toNat < 64 by omega, show (lo + 32).toNat ≤ k.toNat by omega]; omega
  · simp [a1, a2, show ¬ k.toNat + (31 - hi).toNat < 64 by omega]
  · simp [a1, a2, show ¬ (lo + 32).toNat ≤ k.toNat by omega]
  · simp [a1, a2, show ¬ (lo + 32).toNat ≤ k.toNat by omega]
def fitM (v : Mem) (si : Nat) (n : Int) (w : Int64) : Mem := if uW w = 0 then v else wI (wI v (si + 1) n (SL (hb w))) (si + 2) n (SM (hb w))

set_option maxRecDepth 100000 in
set_option maxHeartbeats 4000000 in
theorem c_bitOf (l : Launch) {G : GT} (hG : gok G) (v : Mem) (z : Int) (hz : -32 ≤ z ∧ z ≤ 31) : CC l G nX7_bitOf 0 [.int (iI z)] v (qL G (fun r u => u = v ∧ r = bt (z + 32))) := by
  refine m_start (lv := [some (.int (iI z))]) hG (by decide +kernel) rfl (Nat.le_of_ble_eq_true rfl) ?_
  intro X hL h hR
  subst hL
  show M X G 1 v 0 [some (.int (iI z))] []
  refine m_lconst h dX7_bitOf_0 (z := 1) rfl ?_
  refine m_iload_n h dX7_bitOf_1 rfl rfl ?_
  refine m_bipush h dX7_bitOf_2 (by decide) ?_
  refine m_isub h dX7_bitOf_4 ?_
  refine m_lshl h dX7_bitOf_5 (c := bt (z + 32)) (shl_bt hz) ?_
  refine m_lret h hR rfl dX7_bitOf_6 ?_
  exact ⟨rfl, rfl⟩

set_option maxRecDepth 100000 in
set_option maxHeartbeats 4000000 in
theorem c_hasBit (l : Launch) {G : GT} (hG : gok G) (v : Mem) (w : Int64) (z : Int) (hz : -32 ≤ z ∧ z ≤ 31) : CC l G nX7_hasBit 1 [.long w, .int (iI z)] v (qI G (fun r u => u = v ∧ bz r (hb w (z + 32) = true))) := by
  refine m_start (lv := [some (.long w), none, some (.int (iI z))]) hG (by decide +kernel) rfl (Nat.le_of_ble_eq_true rfl) ?_
  intro X hL h hR
  subst hL
  show M X G 3 v 0 [some (.long w), none, some (.int (iI z))] []
  refine m_lload_n h dX7_hasBit_0 rfl rfl ?_
  refine m_iload_n h dX7_hasBit_1 rfl rfl ?_
  refine m_sL h (c_bitOf _ hG _ z (by omega)) moX7_bitOf stX7_bitOf lk_X7_70 dX7_hasBit_2 (by decide) rfl rfl (Nat.le_of_ble_eq_true rfl) (fun r1 u2 p3 => ?_)
  obtain ⟨hu9, er⟩ := p3
  rw [hu9, er]
  refine m_land h dX7_hasBit_5 (c := w &&& (bt (z + 32))) rfl ?_
  refine m_lconst h dX7_hasBit_6 (z := 0) rfl ?_
  refine m_lcmp h dX7_hasBit_7 (c := (lg_cmp (w &&& bt (z + 32)) 0).toInt) (iI_of _) ?_
  refine m_if_eq h dX7_hasBit_8 (tgt := 15) (by decide) (iI_rg _) (fun c4 => ?_) (fun c4 => ?_)
  · skip
    refine m_iconst h dX7_hasBit_15 ?_
    refine m_zret h hR rfl dX7_hasBit_16 (by omega) ?_
    have q1 := lgc0 (a := w &&& bt (z + 32)) (b := 0)
    have q2 := and_bt0 (w := w) (k := z + 32) (by omega)
    rw [q2] at q1
    exact ⟨rfl, bz0 (by rw [q1.mp (by assumption)]; simp)⟩
  · skip
    refine m_iconst h dX7_hasBit_11 ?_
    refine m_goto h dX7_hasBit_12 (tgt := 16) (by decide) ?_
    refine m_zret h hR rfl dX7_hasBit_16 (by omega) ?_
    have q1 := lgc0 (a := w &&& bt (z + 32)) (b := 0)
    have q2 := and_bt0 (w := w) (k := z + 32) (by omega)
    rw [q2] at q1
    exact ⟨rfl, bz1 (by have q3 := mt q1.mpr (by assumption); simpa using q3)⟩

set_option maxRecDepth 100000 in
set_option maxHeartbeats 4000000 in
theorem c_isNumber (l : Launch) {G : GT} (hG : gok G) (v : Mem) (z : Int) (hz : -2147483648 ≤ z ∧ z ≤ 2147483647) : CC l G nX7_isNumber 0 [.int (iI z)] v (qI G (fun r u => u = v ∧ bz r (-32 ≤ z ∧ z ≤ 31))) := by
  refine m_start (lv := [some (.int (iI z))]) hG (by decide +kernel) rfl (Nat.le_of_ble_eq_true rfl) ?_
  intro X hL h hR
  subst hL
  show M X G 1 v 0 [some (.int (iI z))] []
  refine m_iload_n h dX7_isNumber_0 rfl rfl ?_
  refine m_bipush h dX7_isNumber_1 (by decide) ?_
  refine m_icmp_lt h dX7_isNumber_3 (tgt := 16) (by decide) (by omega) (by omega) (fun c1 => ?_) (fun c1 => ?_)
  · skip
    refine m_iconst h dX7_isNumber_16 ?_
    refine m_zret h hR rfl dX7_isNumber_17 (by omega) ?_
    exact ⟨rfl, bz0 (by omega)⟩
  · skip
    refine m_iload_n h dX7_isNumber_6 rfl rfl ?_
    refine m_bipush h dX7_isNumber_7 (by decide) ?_
    refine m_icmp_gt h dX7_isNumber_9 (tgt := 16) (by decide) (by omega) (by omega) (fun c2 => ?_) (fun c2 => ?_)
    · skip
      refine m_iconst h dX7_isNumber_16 ?_
      refine m_zret h hR rfl dX7_isNumber_17 (by omega) ?_
      exact ⟨rfl, bz0 (by omega)⟩
    · skip
      refine m_iconst h dX7_isNumber_12 ?_
      refine m_goto h dX7_isNumber_13 (tgt := 17) (by decide) ?_
      refine m_zret h hR rfl dX7_isNumber_17 (by omega) ?_
      exact ⟨rfl, bz1 (by omega)⟩

set_option maxRecDepth 100000 in
set_option maxHeartbeats 4000000 in
theorem c_leastOf (l : Launch) {G : GT} (hG : gok G) (v : Mem) (w : Int64) (h0 : uW w ≠ 0) : CC l G nX7_leastOf 2 [.long w] v (qI G (fun r u => u = v ∧ r = SL (hb w))) := by
  refine m_start (lv := [some (.long w), none]) hG (by decide +kernel) rfl (Nat.le_of_ble_eq_true rfl) ?_
  intro X hL h hR
  subst hL
  show M X G 2 v 0 [some (.long w), none] []
  refine m_bipush h dX7_leastOf_0 (by decide) ?_
  refine m_lload_n h dX7_leastOf_2 rfl rfl ?_
  refine m_sI h (c_lntz _ hG _ w h0) moJ13_numberOfTrailingZeros_95d88 stJ13_numberOfTrailingZeros_95d88 lk_X7_189 dX7_leastOf_3 (by decide) rfl rfl (Nat.le_of_ble_eq_true rfl) (fun r1 u2 p3 => ?_)
  obtain ⟨hu9, t, ht, er, e1, e2⟩ := p3
  rw [hu9]
  refine m_iadd h dX7_leastOf_6 ?_
  refine m_iret h hR rfl dX7_leastOf_7 ?_
  refine ⟨rfl, ?_⟩
  rw [SL_of (t := t) ⟨by omega, by omega⟩ (by unfold hb; rw [Int.toNat_natCast]; exact e1) (fun j q1 q2 => by unfold hb; exact e2 _ (by omega))]
  omega

set_option maxRecDepth 100000 in
set_option maxHeartbeats 4000000 in
theorem c_mostOf (l : Launch) {G : GT} (hG : gok G) (v : Mem) (w : Int64) (h0 : uW w ≠ 0) : CC l G nX7_mostOf 2 [.long w] v (qI G (fun r u => u = v ∧ r = SM (hb w))) := by
  refine m_start (lv := [some (.long w), none]) hG (by decide +kernel) rfl (Nat.le_of_ble_eq_true rfl) ?_
  intro X hL h hR
  subst hL
  show M X G 2 v 0 [some (.long w), none] []
  refine m_bipush h dX7_mostOf_0 (by decide) ?_
  refine m_lload_n h dX7_mostOf_2 rfl rfl ?_
  refine m_sI h (c_lnlz _ hG _ w h0) moJ13_numberOfLeadingZeros_95d88 stJ13_numberOfLeadingZeros_95d88 lk_X7_192 dX7_mostOf_3 (by decide) rfl rfl (Nat.le_of_ble_eq_true rfl) (fun r1 u2 p3 => ?_)
  obtain ⟨hu9, t, ht, er, e1, e2⟩ := p3
  rw [hu9]
  refine m_isub h dX7_mostOf_6 ?_
  refine m_iret h hR rfl dX7_mostOf_7 ?_
  refine ⟨rfl, ?_⟩
  have q := hiBit e1 e2
  rw [SM_of (t := t) ⟨by omega, by omega⟩ (by unfold hb; rw [Int.toNat_natCast]; exact q.1) (fun j q1 q2 => by unfold hb; exact q.2 _ (by omega))]
  omega

set_option maxRecDepth 100000 in
set_option maxHeartbeats 4000000 in
theorem c_fit (l : Launch) {G : GT} (hG : gok G) {si : Nat} (hsp : isSp si) (v : Mem) (n : Int) (hn : 0 ≤ n ∧ n < 8) (w : Int64) : CC l G nX5_fit 3 [.ref (G.2.1 si), .int (iI n), .long w] v (qV G (fun u => u = fitM v si n w)) := by
  refine m_start (lv := [some (.ref (G.2.1 si)), some (.int (iI n)), some (.long w), none]) hG (by decide +kernel) rfl (Nat.le_of_ble_eq_true rfl) ?_
  intro X hL h hR
  subst hL
  have q0 : (lg_cmp w 0).toInt = 0 ↔ uW w = 0 := lgc0.trans uW_0.symm
  show M X G 4 v 0 [some (.ref (G.2.1 si)), some (.int (iI n)), some (.long w), none] []
  refine m_lload_n h dX5_fit_0 rfl rfl ?_
  refine m_lconst h dX5_fit_1 (z := 0) rfl ?_
  refine m_lcmp h dX5_fit_2 (c := (lg_cmp w 0).toInt) (iI_of _) ?_
  refine m_if_eq h dX5_fit_3 (tgt := 26) (by decide) (iI_rg _) (fun c1 => ?_) (fun c1 => ?_)
  · skip
    refine m_vret h hR rfl dX5_fit_26 ?_
    unfold fitM
    rw [if_pos (q0.mp (by assumption))]
  · skip
    refine m_aload_n h dX5_fit_6 rfl rfl ?_
    refine m_get h fo_X5_9 (isSp_lt hsp) (cE_sp hsp) rfl dX5_fit_7 ?_
    refine m_iload_n h dX5_fit_10 rfl rfl ?_
    refine m_lload_n h dX5_fit_11 rfl rfl ?_
    refine m_nI h (c_leastOf _ hG _ w (by omega)) moX7_leastOf stX7_leastOf lk_X5_18 dX5_fit_12 (by decide) rfl rfl (Nat.le_of_ble_eq_true rfl) (fun r2 u3 p4 => ?_)
    obtain ⟨hu9, er⟩ := p4
    rw [hu9, er]
    refine m_iast h (ar_sp1 hsp) (by omega) (by omega) dX5_fit_15 ?_
    refine m_aload_n h dX5_fit_16 rfl rfl ?_
    refine m_get h fo_X5_15 (isSp_lt hsp) (cE_sp hsp) rfl dX5_fit_17 ?_
    refine m_iload_n h dX5_fit_20 rfl rfl ?_
    refine m_lload_n h dX5_fit_21 rfl rfl ?_
    refine m_nI h (c_mostOf _ hG _ w (by omega)) moX7_mostOf stX7_mostOf lk_X5_22 dX5_fit_22 (by decide) rfl rfl (Nat.le_of_ble_eq_true rfl) (fun r5 u6 p7 => ?_)
    obtain ⟨hu9, er⟩ := p7
    rw [hu9, er]
    refine m_iast h (ar_sp2 hsp) (by omega) (by omega) dX5_fit_25 ?_
    refine m_vret h hR rfl dX5_fit_26 ?_
    unfold fitM
    rw [if_neg (by omega)]
