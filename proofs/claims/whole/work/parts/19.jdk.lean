/-! sets as the bits of a long -/
def uW (w : Int64) : Nat := w.toBitVec.toNat
def hb (w : Int64) (k : Int) : Bool := (uW w).testBit k.toNat
theorem uW_lt (w : Int64) : uW w < 2 ^ 64 := w.toBitVec.isLt
theorem uW_lN {n : Nat} (h : n < 2 ^ 64) : uW (lN n) = n := wb_tn h
theorem lN_uW (w : Int64) : w = lN (uW w) := by
  obtain ⟨n, hn, rfl⟩ := wb_of w
  rw [uW_lN hn]
theorem uW_inj {a b : Int64} (h : uW a = uW b) : a = b := by rw [lN_uW a, lN_uW b, h]
theorem iI_nI (n : Nat) : iI (n : Int) = nI n := Int32.ofInt_eq_ofNat
theorem ush_iI {z : Int} {s : Nat} (h : 0 ≤ z ∧ z ≤ 2147483647) (hs : s < 32) : ((iI z).toUInt32 >>> ((iI s).toUInt32 &&& Int32.toUInt32 31)).toInt32 = iI (z / 2 ^ s) := by
  obtain ⟨n, rfl⟩ : ∃ n : Nat, z = n := ⟨z.toNat, by omega⟩
  rw [iI_nI, iI_nI, pk_ushrN (by omega) (nI s) s]
  · rw [← iI_nI]
    congr 1
  · revert s
    decide +kernel
theorem hiBit {n t : Nat} (h1 : 2 ^ t ≤ n) (h2 : n < 2 ^ (t + 1)) : n.testBit t = true ∧ ∀ j, t < j → n.testBit j = false := by
  constructor
  · rw [Nat.testBit_eq_decide_div_mod_eq]
    have e1 : 1 ≤ n / 2 ^ t := (Nat.le_div_iff_mul_le (Nat.two_pow_pos t)).mpr (by omega)
    have e2 : n / 2 ^ t < 2 := (Nat.div_lt_iff_lt_mul (Nat.two_pow_pos t)).mpr (by rw [Nat.pow_succ] at h2; omega)
    rw [show n / 2 ^ t = 1 by omega]
    rfl
  · intro j hj
    apply Nat.testBit_lt_two_pow
    exact Nat.lt_of_lt_of_le h2 (Nat.pow_le_pow_right (by decide) hj)
theorem l2i_bv (w : Int64) : w.toInt32.toBitVec = w.toBitVec.signExtend 32 := rfl
theorem l2i_nat (w : Int64) : w.toInt32.toBitVec.toNat = uW w % 2 ^ 32 := by
  rw [l2i_bv, BitVec.signExtend_eq_setWidth_of_le _ (by decide), BitVec.toNat_setWidth]
  rfl
theorem iI_bv {z : Int} (h : 0 ≤ z ∧ z ≤ 2147483647) : (iI z).toBitVec.toNat = z.toNat := by
  obtain ⟨n, rfl⟩ : ∃ n : Nat, z = n := ⟨z.toNat, by omega⟩
  rw [iI_nI, pk_tn (by omega)]
  omega
theorem i32_neg {x : Int32} : x.toInt < 0 ↔ 2 ^ 31 ≤ x.toBitVec.toNat := by
  have h := BitVec.toInt_eq_toNat_cond x.toBitVec
  have h2 := x.toBitVec.isLt
  show x.toBitVec.toInt < 0 ↔ _
  rw [h]
  split <;> omega
theorem i32_pos {x : Int32} (h : 0 ≤ x.toInt) : x.toBitVec.toNat = x.toInt.toNat := by
  have h1 := BitVec.toInt_eq_toNat_cond x.toBitVec
  have h2 := x.toBitVec.isLt
  have h3 : x.toInt = x.toBitVec.toInt := rfl
  rw [h3] at h ⊢
  rw [h1] at h ⊢
  split at h
  · split <;> omega
  · omega

section Jdk
variable {X : CX} {G : GT} {nL : Nat} {cc : ByteArray} {own : String} {D : Nat} {v : Mem} {pc : Nat} {lv : List (Option Value)} {st : List Value}
theorem m_ldcK (h : Ok X G nL cc own D) {index : Nat} {z : Int32} (hw : Cond.constant own index z ∈ gw) (hd : decode cc pc = .ok (.ldc_w index, 3)) {n : Int} (hz : z = iI n) (k : M X G nL v (pc + 3) lv (.int (iI n) :: st)) : M X G nL v pc lv st := by
  subst hz
  exact m_ldcw h hw hd k
theorem m_iushrI (h : Ok X G nL cc own D) {a p q : Int} {s : Nat} (hd : decode cc pc = .ok (.iushr, 1)) (ha : 0 ≤ a ∧ a ≤ 2147483647) (hs : s < 32) (hp : (2 : Int) ^ s = p) (hq : a / p = q) (k : M X G nL v (pc + 1) lv (.int (iI q) :: st)) : M X G nL v pc lv (.int (iI (s : Int)) :: .int (iI a) :: st) := by
  subst hp; subst hq
  exact m_iushrR h hd (ush_iI ha hs) k
end Jdk
theorem loBit {n : Nat} (h0 : n ≠ 0) (h : n < 2 ^ 32) : ∃ t : Nat, t < 32 ∧ n.testBit t = true ∧ (∀ j, j < t → n.testBit j = false) ∧ (nI n ^^^ nI 4294967295) &&& (nI n - 1) = nI (2 ^ t - 1) := by
  have hex : ∃ k, n.testBit k = true := by
    obtain ⟨i, hi⟩ := Nat.exists_testBit_of_ne_zero h0
    exact ⟨i, hi⟩
  obtain ⟨t, ht, hlow⟩ := pk_least (fun k => n.testBit k = true) hex
  have hlow : ∀ j, j < t → n.testBit j = false := fun j hj => by simpa using hlow j hj
  have ht32 : t < 32 := by
    apply Nat.lt_of_not_le
    intro q
    have := Nat.testBit_lt_two_pow (x := n) (i := t) (Nat.lt_of_lt_of_le h (Nat.pow_le_pow_right (by decide) q))
    rw [this] at ht
    cases ht
  have hmod : n % 2 ^ (t + 1) = 2 ^ t := by
    apply Nat.eq_of_testBit_eq
    intro i
    rw [Nat.testBit_mod_two_pow, Nat.testBit_two_pow]
    by_cases h1 : i < t + 1
    · by_cases h2 : i = t
      · subst h2; simp [ht]
      · rw [hlow i (by omega)]
        simp [show ¬ t = i by omega]
    · simp [h1, show ¬ t = i by omega]
  have hn : n = 2 ^ (t + 1) * (n / 2 ^ (t + 1)) + 2 ^ t := by
    have := Nat.div_add_mod n (2 ^ (t + 1))
    omega
  have hpos := Nat.two_pow_pos t
  have hpl : 2 ^ t < 2 ^ (t + 1) := wb_lt2 (by omega)
  have hn1 : n - 1 = 2 ^ (t + 1) * (n / 2 ^ (t + 1)) + (2 ^ t - 1) := by omega
  have hle : 2 ^ t ≤ 2 ^ 31 := Nat.pow_le_pow_right (by decide) (by omega)
  refine ⟨t, ht32, ht, hlow, ?_⟩
  apply Int32.toBitVec_inj.mp
  apply BitVec.eq_of_toNat_eq
  have e1 : (nI n - 1).toBitVec.toNat = n - 1 := by
    have e0 : nI n - 1 = nI (n - 1) := by
      have := nI_pred (n - 1)
      rwa [show n - 1 + 1 = n by omega] at this
    rw [e0, pk_tn (by omega)]
  rw [Int32.toBitVec_and, Int32.toBitVec_xor, BitVec.toNat_and, BitVec.toNat_xor, pk_tn h, pk_tn (by decide), e1, pk_tn (by omega)]
  apply Nat.eq_of_testBit_eq
  intro i
  rw [Nat.testBit_and, Nat.testBit_xor, Nat.testBit_two_pow_sub_one, show (4294967295 : Nat) = 2 ^ 32 - 1 by rfl, Nat.testBit_two_pow_sub_one, hn1, Nat.testBit_two_pow_mul_add _ (show 2 ^ t - 1 < 2 ^ (t + 1) by omega), Nat.testBit_two_pow_sub_one]
  by_cases h1 : i < t
  · rw [hlow i h1]
    simp [h1, show i < 32 by omega, show i < t + 1 by omega]
  · by_cases h2 : i = t
    · subst h2
      simp
    · have e2 : n.testBit i = (n / 2 ^ (t + 1)).testBit (i - (t + 1)) := by
        rw [hn, Nat.testBit_two_pow_mul_add _ hpl, if_neg (by omega)]
        congr 1
        rw [← hn]
      rw [e2]
      simp only [h1, show ¬ i < t + 1 by omega, if_false, decide_false]
      by_cases h3 : i < 32
      · simp [h3]
      · have e3 : n.testBit i = false := Nat.testBit_lt_two_pow (Nat.lt_of_lt_of_le h (Nat.pow_le_pow_right (by decide) (by omega)))
        rw [e2] at e3
        simp [e3]
theorem shr32 (w : Int64) : (w.toUInt64 >>> ((iI 32).toInt64.toUInt64 &&& Int64.toUInt64 63)).toInt64 = lN (uW w / 2 ^ 32) := by
  have h := wb_shr (n := uW w) (k := 32) (uW_lt w) (by decide)
  rw [← lN_uW w] at h
  exact h
theorem lo32 {w : Int64} : w.toInt32.toInt ≠ 0 ↔ uW w % 2 ^ 32 ≠ 0 := by
  rw [← l2i_nat w]
  constructor
  · intro h q
    apply h
    have : w.toInt32 = 0 := Int32.toBitVec_inj.mp (BitVec.eq_of_toNat_eq (by rw [q]; rfl))
    rw [this]; rfl
  · intro h q
    apply h
    have : w.toInt32 = 0 := Int32.toInt_inj.mp (q.trans rfl)
    rw [this]; rfl
set_option maxRecDepth 100000 in
set_option maxHeartbeats 4000000 in
theorem c_inlz (l : Launch) {G : GT} (hG : gok G) (v : Mem) (z : Int) (hz : -2147483648 ≤ z ∧ z ≤ 2147483647) (h0 : z ≠ 0) : CC l G nJ6_numberOfLeadingZeros_0f7a4 0 [.int (iI z)] v (qI G (fun r u => u = v ∧ ∃ t : Nat, t < 32 ∧ r = 31 - t ∧ 2 ^ t ≤ (iI z).toBitVec.toNat ∧ (iI z).toBitVec.toNat < 2 ^ (t + 1))) := by
  refine m_startF (lv := [some (.int (iI z)), none]) hG (by decide +kernel) rfl (Nat.le_of_ble_eq_true rfl) ?_
  intro X hL h hR
  subst hL
  have hlt := (iI z).toBitVec.isLt
  have hg := i32_neg (x := iI z)
  have hps := i32_pos (x := iI z)
  rw [iI_toInt hz] at hg hps
  show M X G 2 v 0 [some (.int (iI z)), none] []
  refine m_iload_n h dJ6_numberOfLeadingZeros_0f7a4_0 rfl rfl ?_
  refine m_if_gt h dJ6_numberOfLeadingZeros_0f7a4_1 (tgt := 15) (by decide) (by omega) (fun c1 => ?_) (fun c1 => ?_)
  · skip
    refine m_bipush h dJ6_numberOfLeadingZeros_0f7a4_15 (by decide) ?_
    refine m_istore_n h dJ6_numberOfLeadingZeros_0f7a4_17 rfl (by decide) rfl ?_
    refine m_iload_n h dJ6_numberOfLeadingZeros_0f7a4_18 rfl rfl ?_
    refine m_ldcK h kt_J6_264 dJ6_numberOfLeadingZeros_0f7a4_19 (n := 65536) rfl ?_
    refine m_icmp_lt h dJ6_numberOfLeadingZeros_0f7a4_22 (tgt := 33) (by decide) (by omega) (by omega) (fun c2 => ?_) (fun c2 => ?_)
    · skip
      refine m_iload_n h dJ6_numberOfLeadingZeros_0f7a4_33 rfl rfl ?_
      refine m_sipush h dJ6_numberOfLeadingZeros_0f7a4_34 (by decide) ?_
      refine m_icmp_lt h dJ6_numberOfLeadingZeros_0f7a4_37 (tgt := 48) (by decide) (by omega) (by omega) (fun c3 => ?_) (fun c3 => ?_)
      · skip
        refine m_iload_n h dJ6_numberOfLeadingZeros_0f7a4_48 rfl rfl ?_
        refine m_bipush h dJ6_numberOfLeadingZeros_0f7a4_49 (by decide) ?_
        refine m_icmp_lt h dJ6_numberOfLeadingZeros_0f7a4_51 (tgt := 61) (by decide) (by omega) (by omega) (fun c4 => ?_) (fun c4 => ?_)
        · skip
          refine m_iload_n h dJ6_numberOfLeadingZeros_0f7a4_61 rfl rfl ?_
          refine m_iconst h dJ6_numberOfLeadingZeros_0f7a4_62 ?_
          refine m_icmp_lt h dJ6_numberOfLeadingZeros_0f7a4_63 (tgt := 73) (by decide) (by omega) (by omega) (fun c5 => ?_) (fun c5 => ?_)
          · skip
            refine m_iload_n h dJ6_numberOfLeadingZeros_0f7a4_73 rfl rfl ?_
            refine m_iload_n h dJ6_numberOfLeadingZeros_0f7a4_74 rfl rfl ?_
            refine m_iconst h dJ6_numberOfLeadingZeros_0f7a4_75 ?_
            refine m_iushrI h dJ6_numberOfLeadingZeros_0f7a4_76 (s := 1) (p := 2) (q := z / 2) (by omega) (by decide) (by decide) (by first | rfl | decide) ?_
            refine m_isub h dJ6_numberOfLeadingZeros_0f7a4_77 ?_
            refine m_iret h hR rfl dJ6_numberOfLeadingZeros_0f7a4_78 ?_
            have hbv := hps (by omega)
            rcases (show z / 2 = 0 ∨ z / 2 = 1 by omega) with q | q
            · exact ⟨rfl, 0, by omega, by omega, by rw [hbv]; omega, by rw [hbv]; omega⟩
            · exact ⟨rfl, 1, by omega, by omega, by rw [hbv]; omega, by rw [hbv]; omega⟩
          · skip
            refine m_iinc h dJ6_numberOfLeadingZeros_0f7a4_66 rfl (by decide) rfl ?_
            refine m_iload_n h dJ6_numberOfLeadingZeros_0f7a4_69 rfl rfl ?_
            refine m_iconst h dJ6_numberOfLeadingZeros_0f7a4_70 ?_
            refine m_iushrI h dJ6_numberOfLeadingZeros_0f7a4_71 (s := 2) (p := 4) (q := z / 4) (by omega) (by decide) (by decide) (by first | rfl | decide) ?_
            refine m_istore_n h dJ6_numberOfLeadingZeros_0f7a4_72 rfl (by decide) rfl ?_
            refine m_iload_n h dJ6_numberOfLeadingZeros_0f7a4_73 rfl rfl ?_
            refine m_iload_n h dJ6_numberOfLeadingZeros_0f7a4_74 rfl rfl ?_
            refine m_iconst h dJ6_numberOfLeadingZeros_0f7a4_75 ?_
            refine m_iushrI h dJ6_numberOfLeadingZeros_0f7a4_76 (s := 1) (p := 2) (q := (z / 4) / 2) (by omega) (by decide) (by decide) (by first | rfl | decide) ?_
            refine m_isub h dJ6_numberOfLeadingZeros_0f7a4_77 ?_
            refine m_iret h hR rfl dJ6_numberOfLeadingZeros_0f7a4_78 ?_
            have hbv := hps (by omega)
            rcases (show (z / 4) / 2 = 0 ∨ (z / 4) / 2 = 1 by omega) with q | q
            · exact ⟨rfl, 2, by omega, by omega, by rw [hbv]; omega, by rw [hbv]; omega⟩
            · exact ⟨rfl, 3, by omega, by omega, by rw [hbv]; omega, by rw [hbv]; omega⟩
        · skip
          refine m_iinc h dJ6_numberOfLeadingZeros_0f7a4_54 rfl (by decide) rfl ?_
          refine m_iload_n h dJ6_numberOfLeadingZeros_0f7a4_57 rfl rfl ?_
          refine m_iconst h dJ6_numberOfLeadingZeros_0f7a4_58 ?_
          refine m_iushrI h dJ6_numberOfLeadingZeros_0f7a4_59 (s := 4) (p := 16) (q := z / 16) (by omega) (by decide) (by decide) (by first | rfl | decide) ?_
          refine m_istore_n h dJ6_numberOfLeadingZeros_0f7a4_60 rfl (by decide) rfl ?_
          refine m_iload_n h dJ6_numberOfLeadingZeros_0f7a4_61 rfl rfl ?_
          refine m_iconst h dJ6_numberOfLeadingZeros_0f7a4_62 ?_
          refine m_icmp_lt h dJ6_numberOfLeadingZeros_0f7a4_63 (tgt := 73) (by decide) (by omega) (by omega) (fun c6 => ?_) (fun c6 => ?_)
          · skip
            refine m_iload_n h dJ6_numberOfLeadingZeros_0f7a4_73 rfl rfl ?_
            refine m_iload_n h dJ6_numberOfLeadingZeros_0f7a4_74 rfl rfl ?_
            refine m_iconst h dJ6_numberOfLeadingZeros_0f7a4_75 ?_
            refine m_iushrI h dJ6_numberOfLeadingZeros_0f7a4_76 (s := 1) (p := 2) (q := (z / 16) / 2) (by omega) (by decide) (by decide) (by first | rfl | decide) ?_
            refine m_isub h dJ6_numberOfLeadingZeros_0f7a4_77 ?_
            refine m_iret h hR rfl dJ6_numberOfLeadingZeros_0f7a4_78 ?_
            have hbv := hps (by omega)
            rcases (show (z / 16) / 2 = 0 ∨ (z / 16) / 2 = 1 by omega) with q | q
            · exact ⟨rfl, 4, by omega, by omega, by rw [hbv]; omega, by rw [hbv]; omega⟩
            · exact ⟨rfl, 5, by omega, by omega, by rw [hbv]; omega, by rw [hbv]; omega⟩
          · skip
            refine m_iinc h dJ6_numberOfLeadingZeros_0f7a4_66 rfl (by decide) rfl ?_
            refine m_iload_n h dJ6_numberOfLeadingZeros_0f7a4_69 rfl rfl ?_
            refine m_iconst h dJ6_numberOfLeadingZeros_0f7a4_70 ?_
            refine m_iushrI h dJ6_numberOfLeadingZeros_0f7a4_71 (s := 2) (p := 4) (q := (z / 16) / 4) (by omega) (by decide) (by decide) (by first | rfl | decide) ?_
            refine m_istore_n h dJ6_numberOfLeadingZeros_0f7a4_72 rfl (by decide) rfl ?_
            refine m_iload_n h dJ6_numberOfLeadingZeros_0f7a4_73 rfl rfl ?_
            refine m_iload_n h dJ6_numberOfLeadingZeros_0f7a4_74 rfl rfl ?_
            refine m_iconst h dJ6_numberOfLeadingZeros_0f7a4_75 ?_
            refine m_iushrI h dJ6_numberOfLeadingZeros_0f7a4_76 (s := 1) (p := 2) (q := ((z / 16) / 4) / 2) (by omega) (by decide) (by decide) (by first | rfl | decide) ?_
            refine m_isub h dJ6_numberOfLeadingZeros_0f7a4_77 ?_
            refine m_iret h hR rfl dJ6_numberOfLeadingZeros_0f7a4_78 ?_
            have hbv := hps (by omega)
            rcases (show ((z / 16) / 4) / 2 = 0 ∨ ((z / 16) / 4) / 2 = 1 by omega) with q | q
            · exact ⟨rfl, 6, by omega, by omega, by rw [hbv]; omega, by rw [hbv]; omega⟩
            · exact ⟨rfl, 7, by omega, by omega, by rw [hbv]; omega, by rw [hbv]; omega⟩
      · skip
        refine m_iinc h dJ6_numberOfLeadingZeros_0f7a4_40 rfl (by decide) rfl ?_
        refine m_iload_n h dJ6_numberOfLeadingZeros_0f7a4_43 rfl rfl ?_
        refine m_bipush h dJ6_numberOfLeadingZeros_0f7a4_44 (by decide) ?_
        refine m_iushrI h dJ6_numberOfLeadingZeros_0f7a4_46 (s := 8) (p := 256) (q := z / 256) (by omega) (by decide) (by decide) (by first | rfl | decide) ?_
        refine m_istore_n h dJ6_numberOfLeadingZeros_0f7a4_47 rfl (by decide) rfl ?_
        refine m_iload_n h dJ6_numberOfLeadingZeros_0f7a4_48 rfl rfl ?_
        refine m_bipush h dJ6_numberOfLeadingZeros_0f7a4_49 (by decide) ?_
        refine m_icmp_lt h dJ6_numberOfLeadingZeros_0f7a4_51 (tgt := 61) (by decide) (by omega) (by omega) (fun c7 => ?_) (fun c7 => ?_)
        · skip
          refine m_iload_n h dJ6_numberOfLeadingZeros_0f7a4_61 rfl rfl ?_
          refine m_iconst h dJ6_numberOfLeadingZeros_0f7a4_62 ?_
          refine m_icmp_lt h dJ6_numberOfLeadingZeros_0f7a4_63 (tgt := 73) (by decide) (by omega) (by omega) (fun c8 => ?_) (fun c8 => ?_)
          · skip
            refine m_iload_n h dJ6_numberOfLeadingZeros_0f7a4_73 rfl rfl ?_
            refine m_iload_n h dJ6_numberOfLeadingZeros_0f7a4_74 rfl rfl ?_
            refine m_iconst h dJ6_numberOfLeadingZeros_0f7a4_75 ?_
            refine m_iushrI h dJ6_numberOfLeadingZeros_0f7a4_76 (s := 1) (p := 2) (q := (z / 256) / 2) (by omega) (by decide) (by decide) (by first | rfl | decide) ?_
            refine m_isub h dJ6_numberOfLeadingZeros_0f7a4_77 ?_
            refine m_iret h hR rfl dJ6_numberOfLeadingZeros_0f7a4_78 ?_
            have hbv := hps (by omega)
            rcases (show (z / 256) / 2 = 0 ∨ (z / 256) / 2 = 1 by omega) with q | q
            · exact ⟨rfl, 8, by omega, by omega, by rw [hbv]; omega, by rw [hbv]; omega⟩
            · exact ⟨rfl, 9, by omega, by omega, by rw [hbv]; omega, by rw [hbv]; omega⟩
          · skip
            refine m_iinc h dJ6_numberOfLeadingZeros_0f7a4_66 rfl (by decide) rfl ?_
            refine m_iload_n h dJ6_numberOfLeadingZeros_0f7a4_69 rfl rfl ?_
            refine m_iconst h dJ6_numberOfLeadingZeros_0f7a4_70 ?_
            refine m_iushrI h dJ6_numberOfLeadingZeros_0f7a4_71 (s := 2) (p := 4) (q := (z / 256) / 4) (by omega) (by decide) (by decide) (by first | rfl | decide) ?_
            refine m_istore_n h dJ6_numberOfLeadingZeros_0f7a4_72 rfl (by decide) rfl ?_
            refine m_iload_n h dJ6_numberOfLeadingZeros_0f7a4_73 rfl rfl ?_
            refine m_iload_n h dJ6_numberOfLeadingZeros_0f7a4_74 rfl rfl ?_
            refine m_iconst h dJ6_numberOfLeadingZeros_0f7a4_75 ?_
            refine m_iushrI h dJ6_numberOfLeadingZeros_0f7a4_76 (s := 1) (p := 2) (q := ((z / 256) / 4) / 2) (by omega) (by decide) (by decide) (by first | rfl | decide) ?_
            refine m_isub h dJ6_numberOfLeadingZeros_0f7a4_77 ?_
            refine m_iret h hR rfl dJ6_numberOfLeadingZeros_0f7a4_78 ?_
            have hbv := hps (by omega)
            rcases (show ((z / 256) / 4) / 2 = 0 ∨ ((z / 256) / 4) / 2 = 1 by omega) with q | q
            · exact ⟨rfl, 10, by omega, by omega, by rw [hbv]; omega, by rw [hbv]; omega⟩
            · exact ⟨rfl, 11, by omega, by omega, by rw [hbv]; omega, by rw [hbv]; omega⟩
        · skip
          refine m_iinc h dJ6_numberOfLeadingZeros_0f7a4_54 rfl (by decide) rfl ?_
          refine m_iload_n h dJ6_numberOfLeadingZeros_0f7a4_57 rfl rfl ?_
          refine m_iconst h dJ6_numberOfLeadingZeros_0f7a4_58 ?_
          refine m_iushrI h dJ6_numberOfLeadingZeros_0f7a4_59 (s := 4) (p := 16) (q := (z / 256) / 16) (by omega) (by decide) (by decide) (by first | rfl | decide) ?_
          refine m_istore_n h dJ6_numberOfLeadingZeros_0f7a4_60 rfl (by decide) rfl ?_
          refine m_iload_n h dJ6_numberOfLeadingZeros_0f7a4_61 rfl rfl ?_
          refine m_iconst h dJ6_numberOfLeadingZeros_0f7a4_62 ?_
          refine m_icmp_lt h dJ6_numberOfLeadingZeros_0f7a4_63 (tgt := 73) (by decide) (by omega) (by omega) (fun c9 => ?_) (fun c9 => ?_)
          · skip
            refine m_iload_n h dJ6_numberOfLeadingZeros_0f7a4_73 rfl rfl ?_
            refine m_iload_n h dJ6_numberOfLeadingZeros_0f7a4_74 rfl rfl ?_
            refine m_iconst h dJ6_numberOfLeadingZeros_0f7a4_75 ?_
            refine m_iushrI h dJ6_numberOfLeadingZeros_0f7a4_76 (s := 1) (p := 2) (q := ((z / 256) / 16) / 2) (by omega) (by decide) (by decide) (by first | rfl | decide) ?_
            refine m_isub h dJ6_numberOfLeadingZeros_0f7a4_77 ?_
            refine m_iret h hR rfl dJ6_numberOfLeadingZeros_0f7a4_78 ?_
            have hbv := hps (by omega)
            rcases (show ((z / 256) / 16) / 2 = 0 ∨ ((z / 256) / 16) / 2 = 1 by omega) with q | q
            · exact ⟨rfl, 12, by omega, by omega, by rw [hbv]; omega, by rw [hbv]; omega⟩
            · exact ⟨rfl, 13, by omega, by omega, by rw [hbv]; omega, by rw [hbv]; omega⟩
          · skip
            refine m_iinc h dJ6_numberOfLeadingZeros_0f7a4_66 rfl (by decide) rfl ?_
            refine m_iload_n h dJ6_numberOfLeadingZeros_0f7a4_69 rfl rfl ?_
            refine m_iconst h dJ6_numberOfLeadingZeros_0f7a4_70 ?_
            refine m_iushrI h dJ6_numberOfLeadingZeros_0f7a4_71 (s := 2) (p := 4) (q := ((z / 256) / 16) / 4) (by omega) (by decide) (by decide) (by first | rfl | decide) ?_
            refine m_istore_n h dJ6_numberOfLeadingZeros_0f7a4_72 rfl (by decide) rfl ?_
            refine m_iload_n h dJ6_numberOfLeadingZeros_0f7a4_73 rfl rfl ?_
            refine m_iload_n h dJ6_numberOfLeadingZeros_0f7a4_74 rfl rfl ?_
            refine m_iconst h dJ6_numberOfLeadingZeros_0f7a4_75 ?_
            refine m_iushrI h dJ6_numberOfLeadingZeros_0f7a4_76 (s := 1) (p := 2) (q := (((z / 256) / 16) / 4) / 2) (by omega) (by decide) (by decide) (by first | rfl | decide) ?_
            refine m_isub h dJ6_numberOfLeadingZeros_0f7a4_77 ?_
            refine m_iret h hR rfl dJ6_numberOfLeadingZeros_0f7a4_78 ?_
            have hbv := hps (by omega)
            rcases (show (((z / 256) / 16) / 4) / 2 = 0 ∨ (((z / 256) / 16) / 4) / 2 = 1 by omega) with q | q
            · exact ⟨rfl, 14, by omega, by omega, by rw [hbv]; omega, by rw [hbv]; omega⟩
            · exact ⟨rfl, 15, by omega, by omega, by rw [hbv]; omega, by rw [hbv]; omega⟩
    · skip
      refine m_iinc h dJ6_numberOfLeadingZeros_0f7a4_25 rfl (by decide) rfl ?_
      refine m_iload_n h dJ6_numberOfLeadingZeros_0f7a4_28 rfl rfl ?_
      refine m_bipush h dJ6_numberOfLeadingZeros_0f7a4_29 (by decide) ?_
      refine m_iushrI h dJ6_numberOfLeadingZeros_0f7a4_31 (s := 16) (p := 65536) (q := z / 65536) (by omega) (by decide) (by decide) (by first | rfl | decide) ?_
      refine m_istore_n h dJ6_numberOfLeadingZeros_0f7a4_32 rfl (by decide) rfl ?_
      refine m_iload_n h dJ6_numberOfLeadingZeros_0f7a4_33 rfl rfl ?_
      refine m_sipush h dJ6_numberOfLeadingZeros_0f7a4_34 (by decide) ?_
      refine m_icmp_lt h dJ6_numberOfLeadingZeros_0f7a4_37 (tgt := 48) (by decide) (by omega) (by omega) (fun c10 => ?_) (fun c10 => ?_)
      · skip
        refine m_iload_n h dJ6_numberOfLeadingZeros_0f7a4_48 rfl rfl ?_
        refine m_bipush h dJ6_numberOfLeadingZeros_0f7a4_49 (by decide) ?_
        refine m_icmp_lt h dJ6_numberOfLeadingZeros_0f7a4_51 (tgt := 61) (by decide) (by omega) (by omega) (fun c11 => ?_) (fun c11 => ?_)
        · skip
          refine m_iload_n h dJ6_numberOfLeadingZeros_0f7a4_61 rfl rfl ?_
          refine m_iconst h dJ6_numberOfLeadingZeros_0f7a4_62 ?_
          refine m_icmp_lt h dJ6_numberOfLeadingZeros_0f7a4_63 (tgt := 73) (by decide) (by omega) (by omega) (fun c12 => ?_) (fun c12 => ?_)
          · skip
            refine m_iload_n h dJ6_numberOfLeadingZeros_0f7a4_73 rfl rfl ?_
            refine m_iload_n h dJ6_numberOfLeadingZeros_0f7a4_74 rfl rfl ?_
            refine m_iconst h dJ6_numberOfLeadingZeros_0f7a4_75 ?_
            refine m_iushrI h dJ6_numberOfLeadingZeros_0f7a4_76 (s := 1) (p := 2) (q := (z / 65536) / 2) (by omega) (by decide) (by decide) (by first | rfl | decide) ?_
            refine m_isub h dJ6_numberOfLeadingZeros_0f7a4_77 ?_
            refine m_iret h hR rfl dJ6_numberOfLeadingZeros_0f7a4_78 ?_
            have hbv := hps (by omega)
            rcases (show (z / 65536) / 2 = 0 ∨ (z / 65536) / 2 = 1 by omega) with q | q
            · exact ⟨rfl, 16, by omega, by omega, by rw [hbv]; omega, by rw [hbv]; omega⟩
            · exact ⟨rfl, 17, by omega, by omega, by rw [hbv]; omega, by rw [hbv]; omega⟩
          · skip
            refine m_iinc h dJ6_numberOfLeadingZeros_0f7a4_66 rfl (by decide) rfl ?_
            refine m_iload_n h dJ6_numberOfLeadingZeros_0f7a4_69 rfl rfl ?_
            refine m_iconst h dJ6_numberOfLeadingZeros_0f7a4_70 ?_
            refine m_iushrI h dJ6_numberOfLeadingZeros_0f7a4_71 (s := 2) (p := 4) (q := (z / 65536) / 4) (by omega) (by decide) (by decide) (by first | rfl | decide) ?_
            refine m_istore_n h dJ6_numberOfLeadingZeros_0f7a4_72 rfl (by decide) rfl ?_
            refine m_iload_n h dJ6_numberOfLeadingZeros_0f7a4_73 rfl rfl ?_
            refine m_iload_n h dJ6_numberOfLeadingZeros_0f7a4_74 rfl rfl ?_
            refine m_iconst h dJ6_numberOfLeadingZeros_0f7a4_75 ?_
            refine m_iushrI h dJ6_numberOfLeadingZeros_0f7a4_76 (s := 1) (p := 2) (q := ((z / 65536) / 4) / 2) (by omega) (by decide) (by decide) (by first | rfl | decide) ?_
            refine m_isub h dJ6_numberOfLeadingZeros_0f7a4_77 ?_
            refine m_iret h hR rfl dJ6_numberOfLeadingZeros_0f7a4_78 ?_
            have hbv := hps (by omega)
            rcases (show ((z / 65536) / 4) / 2 = 0 ∨ ((z / 65536) / 4) / 2 = 1 by omega) with q | q
            · exact ⟨rfl, 18, by omega, by omega, by rw [hbv]; omega, by rw [hbv]; omega⟩
            · exact ⟨rfl, 19, by omega, by omega, by rw [hbv]; omega, by rw [hbv]; omega⟩
        · skip
          refine m_iinc h dJ6_numberOfLeadingZeros_0f7a4_54 rfl (by decide) rfl ?_
          refine m_iload_n h dJ6_numberOfLeadingZeros_0f7a4_57 rfl rfl ?_
          refine m_iconst h dJ6_numberOfLeadingZeros_0f7a4_58 ?_
          refine m_iushrI h dJ6_numberOfLeadingZeros_0f7a4_59 (s := 4) (p := 16) (q := (z / 65536) / 16) (by omega) (by decide) (by decide) (by first | rfl | decide) ?_
          refine m_istore_n h dJ6_numberOfLeadingZeros_0f7a4_60 rfl (by decide) rfl ?_
          refine m_iload_n h dJ6_numberOfLeadingZeros_0f7a4_61 rfl rfl ?_
          refine m_iconst h dJ6_numberOfLeadingZeros_0f7a4_62 ?_
          refine m_icmp_lt h dJ6_numberOfLeadingZeros_0f7a4_63 (tgt := 73) (by decide) (by omega) (by omega) (fun c13 => ?_) (fun c13 => ?_)
          · skip
            refine m_iload_n h dJ6_numberOfLeadingZeros_0f7a4_73 rfl rfl ?_
            refine m_iload_n h dJ6_numberOfLeadingZeros_0f7a4_74 rfl rfl ?_
            refine m_iconst h dJ6_numberOfLeadingZeros_0f7a4_75 ?_
            refine m_iushrI h dJ6_numberOfLeadingZeros_0f7a4_76 (s := 1) (p := 2) (q := ((z / 65536) / 16) / 2) (by omega) (by decide) (by decide) (by first | rfl | decide) ?_
            refine m_isub h dJ6_numberOfLeadingZeros_0f7a4_77 ?_
            refine m_iret h hR rfl dJ6_numberOfLeadingZeros_0f7a4_78 ?_
            have hbv := hps (by omega)
            rcases (show ((z / 65536) / 16) / 2 = 0 ∨ ((z / 65536) / 16) / 2 = 1 by omega) with q | q
            · exact ⟨rfl, 20, by omega, by omega, by rw [hbv]; omega, by rw [hbv]; omega⟩
            · exact ⟨rfl, 21, by omega, by omega, by rw [hbv]; omega, by rw [hbv]; omega⟩
          · skip
            refine m_iinc h dJ6_numberOfLeadingZeros_0f7a4_66 rfl (by decide) rfl ?_
            refine m_iload_n h dJ6_numberOfLeadingZeros_0f7a4_69 rfl rfl ?_
            refine m_iconst h dJ6_numberOfLeadingZeros_0f7a4_70 ?_
            refine m_iushrI h dJ6_numberOfLeadingZeros_0f7a4_71 (s := 2) (p := 4) (q := ((z / 65536) / 16) / 4) (by omega) (by decide) (by decide) (by first | rfl | decide) ?_
            refine m_istore_n h dJ6_numberOfLeadingZeros_0f7a4_72 rfl (by decide) rfl ?_
            refine m_iload_n h dJ6_numberOfLeadingZeros_0f7a4_73 rfl rfl ?_
            refine m_iload_n h dJ6_numberOfLeadingZeros_0f7a4_74 rfl rfl ?_
            refine m_iconst h dJ6_numberOfLeadingZeros_0f7a4_75 ?_
            refine m_iushrI h dJ6_numberOfLeadingZeros_0f7a4_76 (s := 1) (p := 2) (q := (((z / 65536) / 16) / 4) / 2) (by omega) (by decide) (by decide) (by first | rfl | decide) ?_
            refine m_isub h dJ6_numberOfLeadingZeros_0f7a4_77 ?_
            refine m_iret h hR rfl dJ6_numberOfLeadingZeros_0f7a4_78 ?_
            have hbv := hps (by omega)
            rcases (show (((z / 65536) / 16) / 4) / 2 = 0 ∨ (((z / 65536) / 16) / 4) / 2 = 1 by omega) with q | q
            · exact ⟨rfl, 22, by omega, by omega, by rw [hbv]; omega, by rw [hbv]; omega⟩
            · exact ⟨rfl, 23, by omega, by omega, by rw [hbv]; omega, by rw [hbv]; omega⟩
      · skip
        refine m_iinc h dJ6_numberOfLeadingZeros_0f7a4_40 rfl (by decide) rfl ?_
        refine m_iload_n h dJ6_numberOfLeadingZeros_0f7a4_43 rfl rfl ?_
        refine m_bipush h dJ6_numberOfLeadingZeros_0f7a4_44 (by decide) ?_
        refine m_iushrI h dJ6_numberOfLeadingZeros_0f7a4_46 (s := 8) (p := 256) (q := (z / 65536) / 256) (by omega) (by decide) (by decide) (by first | rfl | decide) ?_
        refine m_istore_n h dJ6_numberOfLeadingZeros_0f7a4_47 rfl (by decide) rfl ?_
        refine m_iload_n h dJ6_numberOfLeadingZeros_0f7a4_48 rfl rfl ?_
        refine m_bipush h dJ6_numberOfLeadingZeros_0f7a4_49 (by decide) ?_
        refine m_icmp_lt h dJ6_numberOfLeadingZeros_0f7a4_51 (tgt := 61) (by decide) (by omega) (by omega) (fun c14 => ?_) (fun c14 => ?_)
        · skip
          refine m_iload_n h dJ6_numberOfLeadingZeros_0f7a4_61 rfl rfl ?_
          refine m_iconst h dJ6_numberOfLeadingZeros_0f7a4_62 ?_
          refine m_icmp_lt h dJ6_numberOfLeadingZeros_0f7a4_63 (tgt := 73) (by decide) (by omega) (by omega) (fun c15 => ?_) (fun c15 => ?_)
          · skip
            refine m_iload_n h dJ6_numberOfLeadingZeros_0f7a4_73 rfl rfl ?_
            refine m_iload_n h dJ6_numberOfLeadingZeros_0f7a4_74 rfl rfl ?_
            refine m_iconst h dJ6_numberOfLeadingZeros_0f7a4_75 ?_
            refine m_iushrI h dJ6_numberOfLeadingZeros_0f7a4_76 (s := 1) (p := 2) (q := ((z / 65536) / 256) / 2) (by omega) (by decide) (by decide) (by first | rfl | decide) ?_
            refine m_isub h dJ6_numberOfLeadingZeros_0f7a4_77 ?_
            refine m_iret h hR rfl dJ6_numberOfLeadingZeros_0f7a4_78 ?_
            have hbv := hps (by omega)
            rcases (show ((z / 65536) / 256) / 2 = 0 ∨ ((z / 65536) / 256) / 2 = 1 by omega) with q | q
            · exact ⟨rfl, 24, by omega, by omega, by rw [hbv]; omega, by rw [hbv]; omega⟩
            · exact ⟨rfl, 25, by omega, by omega, by rw [hbv]; omega, by rw [hbv]; omega⟩
          · skip
            refine m_iinc h dJ6_numberOfLeadingZeros_0f7a4_66 rfl (by decide) rfl ?_
            refine m_iload_n h dJ6_numberOfLeadingZeros_0f7a4_69 rfl rfl ?_
            refine m_iconst h dJ6_numberOfLeadingZeros_0f7a4_70 ?_
            refine m_iushrI h dJ6_numberOfLeadingZeros_0f7a4_71 (s := 2) (p := 4) (q := ((z / 65536) / 256) / 4) (by omega) (by decide) (by decide) (by first | rfl | decide) ?_
            refine m_istore_n h dJ6_numberOfLeadingZeros_0f7a4_72 rfl (by decide) rfl ?_
            refine m_iload_n h dJ6_numberOfLeadingZeros_0f7a4_73 rfl rfl ?_
            refine m_iload_n h dJ6_numberOfLeadingZeros_0f7a4_74 rfl rfl ?_
            refine m_iconst h dJ6_numberOfLeadingZeros_0f7a4_75 ?_
            refine m_iushrI h dJ6_numberOfLeadingZeros_0f7a4_76 (s := 1) (p := 2) (q := (((z / 65536) / 256) / 4) / 2) (by omega) (by decide) (by decide) (by first | rfl | decide) ?_
            refine m_isub h dJ6_numberOfLeadingZeros_0f7a4_77 ?_
            refine m_iret h hR rfl dJ6_numberOfLeadingZeros_0f7a4_78 ?_
            have hbv := hps (by omega)
            rcases (show (((z / 65536) / 256) / 4) / 2 = 0 ∨ (((z / 65536) / 256) / 4) / 2 = 1 by omega) with q | q
            · exact ⟨rfl, 26, by omega, by omega, by rw [hbv]; omega, by rw [hbv]; omega⟩
            · exact ⟨rfl, 27, by omega, by omega, by rw [hbv]; omega, by rw [hbv]; omega⟩
        · skip
          refine m_iinc h dJ6_numberOfLeadingZeros_0f7a4_54 rfl (by decide) rfl ?_
          refine m_iload_n h dJ6_numberOfLeadingZeros_0f7a4_57 rfl rfl ?_
          refine m_iconst h dJ6_numberOfLeadingZeros_0f7a4_58 ?_
          refine m_iushrI h dJ6_numberOfLeadingZeros_0f7a4_59 (s := 4) (p := 16) (q := ((z / 65536) / 256) / 16) (by omega) (by decide) (by decide) (by first | rfl | decide) ?_
          refine m_istore_n h dJ6_numberOfLeadingZeros_0f7a4_60 rfl (by decide) rfl ?_
          refine m_iload_n h dJ6_numberOfLeadingZeros_0f7a4_61 rfl rfl ?_
          refine m_iconst h dJ6_numberOfLeadingZeros_0f7a4_62 ?_
          refine m_icmp_lt h dJ6_numberOfLeadingZeros_0f7a4_63 (tgt := 73) (by decide) (by omega) (by omega) (fun c16 => ?_) (fun c16 => ?_)
          · skip
            refine m_iload_n h dJ6_numberOfLeadingZeros_0f7a4_73 rfl rfl ?_
            refine m_iload_n h dJ6_numberOfLeadingZeros_0f7a4_74 rfl rfl ?_
            refine m_iconst h dJ6_numberOfLeadingZeros_0f7a4_75 ?_
            refine m_iushrI h dJ6_numberOfLeadingZeros_0f7a4_76 (s := 1) (p := 2) (q := (((z / 65536) / 256) / 16) / 2) (by omega) (by decide) (by decide) (by first | rfl | decide) ?_
            refine m_isub h dJ6_numberOfLeadingZeros_0f7a4_77 ?_
            refine m_iret h hR rfl dJ6_numberOfLeadingZeros_0f7a4_78 ?_
            have hbv := hps (by omega)
            rcases (show (((z / 65536) / 256) / 16) / 2 = 0 ∨ (((z / 65536) / 256) / 16) / 2 = 1 by omega) with q | q
            · exact ⟨rfl, 28, by omega, by omega, by rw [hbv]; omega, by rw [hbv]; omega⟩
            · exact ⟨rfl, 29, by omega, by omega, by rw [hbv]; omega, by rw [hbv]; omega⟩
          · skip
            refine m_iinc h dJ6_numberOfLeadingZeros_0f7a4_66 rfl (by decide) rfl ?_
            refine m_iload_n h dJ6_numberOfLeadingZeros_0f7a4_69 rfl rfl ?_
            refine m_iconst h dJ6_numberOfLeadingZeros_0f7a4_70 ?_
            refine m_iushrI h dJ6_numberOfLeadingZeros_0f7a4_71 (s := 2) (p := 4) (q := (((z / 65536) / 256) / 16) / 4) (by omega) (by decide) (by decide) (by first | rfl | decide) ?_
            refine m_istore_n h dJ6_numberOfLeadingZeros_0f7a4_72 rfl (by decide) rfl ?_
            refine m_iload_n h dJ6_numberOfLeadingZeros_0f7a4_73 rfl rfl ?_
            refine m_iload_n h dJ6_numberOfLeadingZeros_0f7a4_74 rfl rfl ?_
            refine m_iconst h dJ6_numberOfLeadingZeros_0f7a4_75 ?_
            refine m_iushrI h dJ6_numberOfLeadingZeros_0f7a4_76 (s := 1) (p := 2) (q := ((((z / 65536) / 256) / 16) / 4) / 2) (by omega) (by decide) (by decide) (by first | rfl | decide) ?_
            refine m_isub h dJ6_numberOfLeadingZeros_0f7a4_77 ?_
            refine m_iret h hR rfl dJ6_numberOfLeadingZeros_0f7a4_78 ?_
            have hbv := hps (by omega)
            rcases (show ((((z / 65536) / 256) / 16) / 4) / 2 = 0 ∨ ((((z / 65536) / 256) / 16) / 4) / 2 = 1 by omega) with q | q
            · exact ⟨rfl, 30, by omega, by omega, by rw [hbv]; omega, by rw [hbv]; omega⟩
            · exact ⟨rfl, 31, by omega, by omega, by rw [hbv]; omega, by rw [hbv]; omega⟩
  · skip
    refine m_iload_n h dJ6_numberOfLeadingZeros_0f7a4_4 rfl rfl ?_
    refine m_if_ne h dJ6_numberOfLeadingZeros_0f7a4_5 (tgt := 13) (by decide) (by omega) (fun c17 => ?_) (fun c17 => ?_)
    · skip
      refine m_iconst h dJ6_numberOfLeadingZeros_0f7a4_13 ?_
      refine m_iret h hR rfl dJ6_numberOfLeadingZeros_0f7a4_14 ?_
      refine ⟨rfl, 31, by omega, by omega, ?_, ?_⟩
      · exact hg.mp (by omega)
      · exact hlt
    · skip
      omega

set_option maxRecDepth 100000 in
set_option maxHeartbeats 4000000 in
theorem c_intz (l : Launch) {G : GT} (hG : gok G) (v : Mem) (z : Int) (hz : -2147483648 ≤ z ∧ z ≤ 2147483647) (h0 : z ≠ 0) : CC l G nJ6_numberOfTrailingZeros_0f7a4 0 [.int (iI z)] v (qI G (fun r u => u = v ∧ ∃ t : Nat, t < 32 ∧ r = t ∧ (iI z).toBitVec.toNat.testBit t = true ∧ ∀ j, j < t → (iI z).toBitVec.toNat.testBit j = false)) := by
  refine m_startF (lv := [some (.int (iI z)), none]) hG (by decide +kernel) rfl (Nat.le_of_ble_eq_true rfl) ?_
  intro X hL h hR
  subst hL
  have hn0 : (iI z).toBitVec.toNat ≠ 0 := by
    intro q
    have q1 : iI z = 0 := Int32.toBitVec_inj.mp (BitVec.eq_of_toNat_eq (by rw [q]; rfl))
    have q2 := congrArg Int32.toInt q1
    rw [iI_toInt hz] at q2
    exact h0 q2
  have hlt := (iI z).toBitVec.isLt
  obtain ⟨t, ht32, ht, hlow, hmask⟩ := loBit hn0 hlt
  have hnz : nI (iI z).toBitVec.toNat = iI z := Int32.toBitVec_inj.mp (BitVec.eq_of_toNat_eq (by rw [pk_tn hlt]))
  rw [hnz] at hmask
  show M X G 2 v 0 [some (.int (iI z)), none] []
  refine m_iload_n h dJ6_numberOfTrailingZeros_0f7a4_0 rfl rfl ?_
  refine m_iconst h dJ6_numberOfTrailingZeros_0f7a4_1 ?_
  refine m_ixorR h dJ6_numberOfTrailingZeros_0f7a4_2 rfl ?_
  refine m_iload_n h dJ6_numberOfTrailingZeros_0f7a4_3 rfl rfl ?_
  refine m_iconst h dJ6_numberOfTrailingZeros_0f7a4_4 ?_
  refine m_isubR h dJ6_numberOfTrailingZeros_0f7a4_5 rfl ?_
  refine m_iandR h dJ6_numberOfTrailingZeros_0f7a4_6 (c := nI (2 ^ t - 1)) hmask ?_
  refine m_istore_n h dJ6_numberOfTrailingZeros_0f7a4_7 rfl (by decide) rfl ?_
  have hcases : t = 0 ∨ t = 1 ∨ t = 2 ∨ t = 3 ∨ t = 4 ∨ t = 5 ∨ t = 6 ∨ t = 7 ∨ t = 8 ∨ t = 9 ∨ t = 10 ∨ t = 11 ∨ t = 12 ∨ t = 13 ∨ t = 14 ∨ t = 15 ∨ t = 16 ∨ t = 17 ∨ t = 18 ∨ t = 19 ∨ t = 20 ∨ t = 21 ∨ t = 22 ∨ t = 23 ∨ t = 24 ∨ t = 25 ∨ t = 26 ∨ t = 27 ∨ t = 28 ∨ t = 29 ∨ t = 30 ∨ t = 31 := by omega
  clear hmask ht32
  rcases hcases with rfl | rfl | rfl | rfl | rfl | rfl | rfl | rfl | rfl | rfl | rfl | rfl | rfl | rfl | rfl | rfl | rfl | rfl | rfl | rfl | rfl | rfl | rfl | rfl | rfl | rfl | rfl | rfl | rfl | rfl | rfl | rfl
  · skip
    show M X G 2 v 8 [some (.int (iI 0)), none] []
    refine m_iload_n h dJ6_numberOfTrailingZeros_0f7a4_8 rfl rfl ?_
    refine m_if_gt h dJ6_numberOfTrailingZeros_0f7a4_9 (tgt := 17) (by decide) (by omega) (fun c1 => ?_) (fun c1 => ?_)
    · skip
      omega
    · skip
      refine m_iload_n h dJ6_numberOfTrailingZeros_0f7a4_12 rfl rfl ?_
      refine m_bipush h dJ6_numberOfTrailingZeros_0f7a4_13 (by decide) ?_
      refine m_iand h dJ6_numberOfTrailingZeros_0f7a4_15 (c := 0) (by decide) ?_
      refine m_iret h hR rfl dJ6_numberOfTrailingZeros_0f7a4_16 ?_
      exact ⟨rfl, 0, by decide, by omega, ht, hlow⟩
  · skip
    show M X G 2 v 8 [some (.int (iI 1)), none] []
    refine m_iload_n h dJ6_numberOfTrailingZeros_0f7a4_8 rfl rfl ?_
    refine m_if_gt h dJ6_numberOfTrailingZeros_0f7a4_9 (tgt := 17) (by decide) (by omega) (fun c2 => ?_) (fun c2 => ?_)
    · skip
      refine m_iconst h dJ6_numberOfTrailingZeros_0f7a4_17 ?_
      refine m_istore_n h dJ6_numberOfTrailingZeros_0f7a4_18 rfl (by decide) rfl ?_
      refine m_iload_n h dJ6_numberOfTrailingZeros_0f7a4_19 rfl rfl ?_
      refine m_ldcK h kt_J6_264 dJ6_numberOfTrailingZeros_0f7a4_20 (n := 65536) rfl ?_
      refine m_icmp_le h dJ6_numberOfTrailingZeros_0f7a4_23 (tgt := 34) (by decide) (by omega) (by omega) (fun c3 => ?_) (fun c3 => ?_)
      · skip
        refine m_iload_n h dJ6_numberOfTrailingZeros_0f7a4_34 rfl rfl ?_
        refine m_sipush h dJ6_numberOfTrailingZeros_0f7a4_35 (by decide) ?_
        refine m_icmp_le h dJ6_numberOfTrailingZeros_0f7a4_38 (tgt := 49) (by decide) (by omega) (by omega) (fun c4 => ?_) (fun c4 => ?_)
        · skip
          refine m_iload_n h dJ6_numberOfTrailingZeros_0f7a4_49 rfl rfl ?_
          refine m_bipush h dJ6_numberOfTrailingZeros_0f7a4_50 (by decide) ?_
          refine m_icmp_le h dJ6_numberOfTrailingZeros_0f7a4_52 (tgt := 62) (by decide) (by omega) (by omega) (fun c5 => ?_) (fun c5 => ?_)
          · skip
            refine m_iload_n h dJ6_numberOfTrailingZeros_0f7a4_62 rfl rfl ?_
            refine m_iconst h dJ6_numberOfTrailingZeros_0f7a4_63 ?_
            refine m_icmp_le h dJ6_numberOfTrailingZeros_0f7a4_64 (tgt := 74) (by decide) (by omega) (by omega) (fun c6 => ?_) (fun c6 => ?_)
            · skip
              refine m_iload_n h dJ6_numberOfTrailingZeros_0f7a4_74 rfl rfl ?_
              refine m_iload_n h dJ6_numberOfTrailingZeros_0f7a4_75 rfl rfl ?_
              refine m_iconst h dJ6_numberOfTrailingZeros_0f7a4_76 ?_
              refine m_iushrI h dJ6_numberOfTrailingZeros_0f7a4_77 (s := 1) (p := 2) (q := 0) (by omega) (by decide) (by decide) (by first | rfl | decide) ?_
              refine m_iadd h dJ6_numberOfTrailingZeros_0f7a4_78 ?_
              refine m_iret h hR rfl dJ6_numberOfTrailingZeros_0f7a4_79 ?_
              exact ⟨rfl, 1, by decide, by omega, ht, hlow⟩
            · skip
              omega
          · skip
            omega
        · skip
          omega
      · skip
        omega
    · skip
      omega
  · skip
    show M X G 2 v 8 [some (.int (iI 3)), none] []
    refine m_iload_n h dJ6_numberOfTrailingZeros_0f7a4_8 rfl rfl ?_
    refine m_if_gt h dJ6_numberOfTrailingZeros_0f7a4_9 (tgt := 17) (by decide) (by omega) (fun c7 => ?_) (fun c7 => ?_)
    · skip
      refine m_iconst h dJ6_numberOfTrailingZeros_0f7a4_17 ?_
      refine m_istore_n h dJ6_numberOfTrailingZeros_0f7a4_18 rfl (by decide) rfl ?_
      refine m_iload_n h dJ6_numberOfTrailingZeros_0f7a4_19 rfl rfl ?_
      refine m_ldcK h kt_J6_264 dJ6_numberOfTrailingZeros_0f7a4_20 (n := 65536) rfl ?_
      refine m_icmp_le h dJ6_numberOfTrailingZeros_0f7a4_23 (tgt := 34) (by decide) (by omega) (by omega) (fun c8 => ?_) (fun c8 => ?_)
      · skip
        refine m_iload_n h dJ6_numberOfTrailingZeros_0f7a4_34 rfl rfl ?_
        refine m_sipush h dJ6_numberOfTrailingZeros_0f7a4_35 (by decide) ?_
        refine m_icmp_le h dJ6_numberOfTrailingZeros_0f7a4_38 (tgt := 49) (by decide) (by omega) (by omega) (fun c9 => ?_) (fun c9 => ?_)
        · skip
          refine m_iload_n h dJ6_numberOfTrailingZeros_0f7a4_49 rfl rfl ?_
          refine m_bipush h dJ6_numberOfTrailingZeros_0f7a4_50 (by decide) ?_
          refine m_icmp_le h dJ6_numberOfTrailingZeros_0f7a4_52 (tgt := 62) (by decide) (by omega) (by omega) (fun c10 => ?_) (fun c10 => ?_)
          · skip
            refine m_iload_n h dJ6_numberOfTrailingZeros_0f7a4_62 rfl rfl ?_
            refine m_iconst h dJ6_numberOfTrailingZeros_0f7a4_63 ?_
            refine m_icmp_le h dJ6_numberOfTrailingZeros_0f7a4_64 (tgt := 74) (by decide) (by omega) (by omega) (fun c11 => ?_) (fun c11 => ?_)
            · skip
              refine m_iload_n h dJ6_numberOfTrailingZeros_0f7a4_74 rfl rfl ?_
              refine m_iload_n h dJ6_numberOfTrailingZeros_0f7a4_75 rfl rfl ?_
              refine m_iconst h dJ6_numberOfTrailingZeros_0f7a4_76 ?_
              refine m_iushrI h dJ6_numberOfTrailingZeros_0f7a4_77 (s := 1) (p := 2) (q := 1) (by omega) (by decide) (by decide) (by first | rfl | decide) ?_
              refine m_iadd h dJ6_numberOfTrailingZeros_0f7a4_78 ?_
              refine m_iret h hR rfl dJ6_numberOfTrailingZeros_0f7a4_79 ?_
              exact ⟨rfl, 2, by decide, by omega, ht, hlow⟩
            · skip
              omega
          · skip
            omega
        · skip
          omega
      · skip
        omega
    · skip
      omega
  · skip
    show M X G 2 v 8 [some (.int (iI 7)), none] []
    refine m_iload_n h dJ6_numberOfTrailingZeros_0f7a4_8 rfl rfl ?_
    refine m_if_gt h dJ6_numberOfTrailingZeros_0f7a4_9 (tgt := 17) (by decide) (by omega) (fun c12 => ?_) (fun c12 => ?_)
    · skip
      refine m_iconst h dJ6_numberOfTrailingZeros_0f7a4_17 ?_
      refine m_istore_n h dJ6_numberOfTrailingZeros_0f7a4_18 rfl (by decide) rfl ?_
      refine m_iload_n h dJ6_numberOfTrailingZeros_0f7a4_19 rfl rfl ?_
      refine m_ldcK h kt_J6_264 dJ6_numberOfTrailingZeros_0f7a4_20 (n := 65536) rfl ?_
      refine m_icmp_le h dJ6_numberOfTrailingZeros_0f7a4_23 (tgt := 34) (by decide) (by omega) (by omega) (fun c13 => ?_) (fun c13 => ?_)
      · skip
        refine m_iload_n h dJ6_numberOfTrailingZeros_0f7a4_34 rfl rfl ?_
        refine m_sipush h dJ6_numberOfTrailingZeros_0f7a4_35 (by decide) ?_
        refine m_icmp_le h dJ6_numberOfTrailingZeros_0f7a4_38 (tgt := 49) (by decide) (by omega) (by omega) (fun c14 => ?_) (fun c14 => ?_)
        · skip
          refine m_iload_n h dJ6_numberOfTrailingZeros_0f7a4_49 rfl rfl ?_
          refine m_bipush h dJ6_numberOfTrailingZeros_0f7a4_50 (by decide) ?_
          refine m_icmp_le h dJ6_numberOfTrailingZeros_0f7a4_52 (tgt := 62) (by decide) (by omega) (by omega) (fun c15 => ?_) (fun c15 => ?_)
          · skip
            refine m_iload_n h dJ6_numberOfTrailingZeros_0f7a4_62 rfl rfl ?_
            refine m_iconst h dJ6_numberOfTrailingZeros_0f7a4_63 ?_
            refine m_icmp_le h dJ6_numberOfTrailingZeros_0f7a4_64 (tgt := 74) (by decide) (by omega) (by omega) (fun c16 => ?_) (fun c16 => ?_)
            · skip
              omega
            · skip
              refine m_iinc h dJ6_numberOfTrailingZeros_0f7a4_67 rfl (by decide) rfl ?_
              refine m_iload_n h dJ6_numberOfTrailingZeros_0f7a4_70 rfl rfl ?_
              refine m_iconst h dJ6_numberOfTrailingZeros_0f7a4_71 ?_
              refine m_iushrI h dJ6_numberOfTrailingZeros_0f7a4_72 (s := 2) (p := 4) (q := 1) (by omega) (by decide) (by decide) (by first | rfl | decide) ?_
              refine m_istore_n h dJ6_numberOfTrailingZeros_0f7a4_73 rfl (by decide) rfl ?_
              refine m_iload_n h dJ6_numberOfTrailingZeros_0f7a4_74 rfl rfl ?_
              refine m_iload_n h dJ6_numberOfTrailingZeros_0f7a4_75 rfl rfl ?_
              refine m_iconst h dJ6_numberOfTrailingZeros_0f7a4_76 ?_
              refine m_iushrI h dJ6_numberOfTrailingZeros_0f7a4_77 (s := 1) (p := 2) (q := 0) (by omega) (by decide) (by decide) (by first | rfl | decide) ?_
              refine m_iadd h dJ6_numberOfTrailingZeros_0f7a4_78 ?_
              refine m_iret h hR rfl dJ6_numberOfTrailingZeros_0f7a4_79 ?_
              exact ⟨rfl, 3, by decide, by omega, ht, hlow⟩
          · skip
            omega
        · skip
          omega
      · skip
        omega
    · skip
      omega
  · skip
    show M X G 2 v 8 [some (.int (iI 15)), none] []
    refine m_iload_n h dJ6_numberOfTrailingZeros_0f7a4_8 rfl rfl ?_
    refine m_if_gt h dJ6_numberOfTrailingZeros_0f7a4_9 (tgt := 17) (by decide) (by omega) (fun c17 => ?_) (fun c17 => ?_)
    · skip
      refine m_iconst h dJ6_numberOfTrailingZeros_0f7a4_17 ?_
      refine m_istore_n h dJ6_numberOfTrailingZeros_0f7a4_18 rfl (by decide) rfl ?_
      refine m_iload_n h dJ6_numberOfTrailingZeros_0f7a4_19 rfl rfl ?_
      refine m_ldcK h kt_J6_264 dJ6_numberOfTrailingZeros_0f7a4_20 (n := 65536) rfl ?_
      refine m_icmp_le h dJ6_numberOfTrailingZeros_0f7a4_23 (tgt := 34) (by decide) (by omega) (by omega) (fun c18 => ?_) (fun c18 => ?_)
      · skip
        refine m_iload_n h dJ6_numberOfTrailingZeros_0f7a4_34 rfl rfl ?_
        refine m_sipush h dJ6_numberOfTrailingZeros_0f7a4_35 (by decide) ?_
        refine m_icmp_le h dJ6_numberOfTrailingZeros_0f7a4_38 (tgt := 49) (by decide) (by omega) (by omega) (fun c19 => ?_) (fun c19 => ?_)
        · skip
          refine m_iload_n h dJ6_numberOfTrailingZeros_0f7a4_49 rfl rfl ?_
          refine m_bipush h dJ6_numberOfTrailingZeros_0f7a4_50 (by decide) ?_
          refine m_icmp_le h dJ6_numberOfTrailingZeros_0f7a4_52 (tgt := 62) (by decide) (by omega) (by omega) (fun c20 => ?_) (fun c20 => ?_)
          · skip
            refine m_iload_n h dJ6_numberOfTrailingZeros_0f7a4_62 rfl rfl ?_
            refine m_iconst h dJ6_numberOfTrailingZeros_0f7a4_63 ?_
            refine m_icmp_le h dJ6_numberOfTrailingZeros_0f7a4_64 (tgt := 74) (by decide) (by omega) (by omega) (fun c21 => ?_) (fun c21 => ?_)
            · skip
              omega
            · skip
              refine m_iinc h dJ6_numberOfTrailingZeros_0f7a4_67 rfl (by decide) rfl ?_
              refine m_iload_n h dJ6_numberOfTrailingZeros_0f7a4_70 rfl rfl ?_
              refine m_iconst h dJ6_numberOfTrailingZeros_0f7a4_71 ?_
              refine m_iushrI h dJ6_numberOfTrailingZeros_0f7a4_72 (s := 2) (p := 4) (q := 3) (by omega) (by decide) (by decide) (by first | rfl | decide) ?_
              refine m_istore_n h dJ6_numberOfTrailingZeros_0f7a4_73 rfl (by decide) rfl ?_
              refine m_iload_n h dJ6_numberOfTrailingZeros_0f7a4_74 rfl rfl ?_
              refine m_iload_n h dJ6_numberOfTrailingZeros_0f7a4_75 rfl rfl ?_
              refine m_iconst h dJ6_numberOfTrailingZeros_0f7a4_76 ?_
              refine m_iushrI h dJ6_numberOfTrailingZeros_0f7a4_77 (s := 1) (p := 2) (q := 1) (by omega) (by decide) (by decide) (by first | rfl | decide) ?_
              refine m_iadd h dJ6_numberOfTrailingZeros_0f7a4_78 ?_
              refine m_iret h hR rfl dJ6_numberOfTrailingZeros_0f7a4_79 ?_
              exact ⟨rfl, 4, by decide, by omega, ht, hlow⟩
          · skip
            omega
        · skip
          omega
      · skip
        omega
    · skip
      omega
  · skip
    show M X G 2 v 8 [some (.int (iI 31)), none] []
    refine m_iload_n h dJ6_numberOfTrailingZeros_0f7a4_8 rfl rfl ?_
    refine m_if_gt h dJ6_numberOfTrailingZeros_0f7a4_9 (tgt := 17) (by decide) (by omega) (fun c22 => ?_) (fun c22 => ?_)
    · skip
      refine m_iconst h dJ6_numberOfTrailingZeros_0f7a4_17 ?_
      refine m_istore_n h dJ6_numberOfTrailingZeros_0f7a4_18 rfl (by decide) rfl ?_
      refine m_iload_n h dJ6_numberOfTrailingZeros_0f7a4_19 rfl rfl ?_
      refine m_ldcK h kt_J6_264 dJ6_numberOfTrailingZeros_0f7a4_20 (n := 65536) rfl ?_
      refine m_icmp_le h dJ6_numberOfTrailingZeros_0f7a4_23 (tgt := 34) (by decide) (by omega) (by omega) (fun c23 => ?_) (fun c23 => ?_)
      · skip
        refine m_iload_n h dJ6_numberOfTrailingZeros_0f7a4_34 rfl rfl ?_
        refine m_sipush h dJ6_numberOfTrailingZeros_0f7a4_35 (by decide) ?_
        refine m_icmp_le h dJ6_numberOfTrailingZeros_0f7a4_38 (tgt := 49) (by decide) (by omega) (by omega) (fun c24 => ?_) (fun c24 => ?_)
        · skip
          refine m_iload_n h dJ6_numberOfTrailingZeros_0f7a4_49 rfl rfl ?_
          refine m_bipush h dJ6_numberOfTrailingZeros_0f7a4_50 (by decide) ?_
          refine m_icmp_le h dJ6_numberOfTrailingZeros_0f7a4_52 (tgt := 62) (by decide) (by omega) (by omega) (fun c25 => ?_) (fun c25 => ?_)
          · skip
            omega
          · skip
            refine m_iinc h dJ6_numberOfTrailingZeros_0f7a4_55 rfl (by decide) rfl ?_
            refine m_iload_n h dJ6_numberOfTrailingZeros_0f7a4_58 rfl rfl ?_
            refine m_iconst h dJ6_numberOfTrailingZeros_0f7a4_59 ?_
            refine m_iushrI h dJ6_numberOfTrailingZeros_0f7a4_60 (s := 4) (p := 16) (q := 1) (by omega) (by decide) (by decide) (by first | rfl | decide) ?_
            refine m_istore_n h dJ6_numberOfTrailingZeros_0f7a4_61 rfl (by decide) rfl ?_
            refine m_iload_n h dJ6_numberOfTrailingZeros_0f7a4_62 rfl rfl ?_
            refine m_iconst h dJ6_numberOfTrailingZeros_0f7a4_63 ?_
            refine m_icmp_le h dJ6_numberOfTrailingZeros_0f7a4_64 (tgt := 74) (by decide) (by omega) (by omega) (fun c26 => ?_) (fun c26 => ?_)
            · skip
              refine m_iload_n h dJ6_numberOfTrailingZeros_0f7a4_74 rfl rfl ?_
              refine m_iload_n h dJ6_numberOfTrailingZeros_0f7a4_75 rfl rfl ?_
              refine m_iconst h dJ6_numberOfTrailingZeros_0f7a4_76 ?_
              refine m_iushrI h dJ6_numberOfTrailingZeros_0f7a4_77 (s := 1) (p := 2) (q := 0) (by omega) (by decide) (by decide) (by first | rfl | decide) ?_
              refine m_iadd h dJ6_numberOfTrailingZeros_0f7a4_78 ?_
              refine m_iret h hR rfl dJ6_numberOfTrailingZeros_0f7a4_79 ?_
              exact ⟨rfl, 5, by decide, by omega, ht, hlow⟩
            · skip
              omega
        · skip
          omega
      · skip
        omega
    · skip
      omega
  · skip
    show M X G 2 v 8 [some (.int (iI 63)), none] []
    refine m_iload_n h dJ6_numberOfTrailingZeros_0f7a4_8 rfl rfl ?_
    refine m_if_gt h dJ6_numberOfTrailingZeros_0f7a4_9 (tgt := 17) (by decide) (by omega) (fun c27 => ?_) (fun c27 => ?_)
    · skip
      refine m_iconst h dJ6_numberOfTrailingZeros_0f7a4_17 ?_
      refine m_istore_n h dJ6_numberOfTrailingZeros_0f7a4_18 rfl (by decide) rfl ?_
      refine m_iload_n h dJ6_numberOfTrailingZeros_0f7a4_19 rfl rfl ?_
      refine m_ldcK h kt_J6_264 dJ6_numberOfTrailingZeros_0f7a4_20 (n := 65536) rfl ?_
      refine m_icmp_le h dJ6_numberOfTrailingZeros_0f7a4_23 (tgt := 34) (by decide) (by omega) (by omega) (fun c28 => ?_) (fun c28 => ?_)
      · skip
        refine m_iload_n h dJ6_numberOfTrailingZeros_0f7a4_34 rfl rfl ?_
        refine m_sipush h dJ6_numberOfTrailingZeros_0f7a4_35 (by decide) ?_
        refine m_icmp_le h dJ6_numberOfTrailingZeros_0f7a4_38 (tgt := 49) (by decide) (by omega) (by omega) (fun c29 => ?_) (fun c29 => ?_)
        · skip
          refine m_iload_n h dJ6_numberOfTrailingZeros_0f7a4_49 rfl rfl ?_
          refine m_bipush h dJ6_numberOfTrailingZeros_0f7a4_50 (by decide) ?_
          refine m_icmp_le h dJ6_numberOfTrailingZeros_0f7a4_52 (tgt := 62) (by decide) (by omega) (by omega) (fun c30 => ?_) (fun c30 => ?_)
          · skip
            omega
          · skip
            refine m_iinc h dJ6_numberOfTrailingZeros_0f7a4_55 rfl (by decide) rfl ?_
            refine m_iload_n h dJ6_numberOfTrailingZeros_0f7a4_58 rfl rfl ?_
            refine m_iconst h dJ6_numberOfTrailingZeros_0f7a4_59 ?_
            refine m_iushrI h dJ6_numberOfTrailingZeros_0f7a4_60 (s := 4) (p := 16) (q := 3) (by omega) (by decide) (by decide) (by first | rfl | decide) ?_
            refine m_istore_n h dJ6_numberOfTrailingZeros_0f7a4_61 rfl (by decide) rfl ?_
            refine m_iload_n h dJ6_numberOfTrailingZeros_0f7a4_62 rfl rfl ?_
            refine m_iconst h dJ6_numberOfTrailingZeros_0f7a4_63 ?_
            refine m_icmp_le h dJ6_numberOfTrailingZeros_0f7a4_64 (tgt := 74) (by decide) (by omega) (by omega) (fun c31 => ?_) (fun c31 => ?_)
            · skip
              refine m_iload_n h dJ6_numberOfTrailingZeros_0f7a4_74 rfl rfl ?_
              refine m_iload_n h dJ6_numberOfTrailingZeros_0f7a4_75 rfl rfl ?_
              refine m_iconst h dJ6_numberOfTrailingZeros_0f7a4_76 ?_
              refine m_iushrI h dJ6_numberOfTrailingZeros_0f7a4_77 (s := 1) (p := 2) (q := 1) (by omega) (by decide) (by decide) (by first | rfl | decide) ?_
              refine m_iadd h dJ6_numberOfTrailingZeros_0f7a4_78 ?_
              refine m_iret h hR rfl dJ6_numberOfTrailingZeros_0f7a4_79 ?_
              exact ⟨rfl, 6, by decide, by omega, ht, hlow⟩
            · skip
              omega
        · skip
          omega
      · skip
        omega
    · skip
      omega
  · skip
    show M X G 2 v 8 [some (.int (iI 127)), none] []
    refine m_iload_n h dJ6_numberOfTrailingZeros_0f7a4_8 rfl rfl ?_
    refine m_if_gt h dJ6_numberOfTrailingZeros_0f7a4_9 (tgt := 17) (by decide) (by omega) (fun c32 => ?_) (fun c32 => ?_)
    · skip
      refine m_iconst h dJ6_numberOfTrailingZeros_0f7a4_17 ?_
      refine m_istore_n h dJ6_numberOfTrailingZeros_0f7a4_18 rfl (by decide) rfl ?_
      refine m_iload_n h dJ6_numberOfTrailingZeros_0f7a4_19 rfl rfl ?_
      refine m_ldcK h kt_J6_264 dJ6_numberOfTrailingZeros_0f7a4_20 (n := 65536) rfl ?_
      refine m_icmp_le h dJ6_numberOfTrailingZeros_0f7a4_23 (tgt := 34) (by decide) (by omega) (by omega) (fun c33 => ?_) (fun c33 => ?_)
      · skip
        refine m_iload_n h dJ6_numberOfTrailingZeros_0f7a4_34 rfl rfl ?_
        refine m_sipush h dJ6_numberOfTrailingZeros_0f7a4_35 (by decide) ?_
        refine m_icmp_le h dJ6_numberOfTrailingZeros_0f7a4_38 (tgt := 49) (by decide) (by omega) (by omega) (fun c34 => ?_) (fun c34 => ?_)
        · skip
          refine m_iload_n h dJ6_numberOfTrailingZeros_0f7a4_49 rfl rfl ?_
          refine m_bipush h dJ6_numberOfTrailingZeros_0f7a4_50 (by decide) ?_
          refine m_icmp_le h dJ6_numberOfTrailingZeros_0f7a4_52 (tgt := 62) (by decide) (by omega) (by omega) (fun c35 => ?_) (fun c35 => ?_)
          · skip
            omega
          · skip
            refine m_iinc h dJ6_numberOfTrailingZeros_0f7a4_55 rfl (by decide) rfl ?_
            refine m_iload_n h dJ6_numberOfTrailingZeros_0f7a4_58 rfl rfl ?_
            refine m_iconst h dJ6_numberOfTrailingZeros_0f7a4_59 ?_
            refine m_iushrI h dJ6_numberOfTrailingZeros_0f7a4_60 (s := 4) (p := 16) (q := 7) (by omega) (by decide) (by decide) (by first | rfl | decide) ?_
            refine m_istore_n h dJ6_numberOfTrailingZeros_0f7a4_61 rfl (by decide) rfl ?_
            refine m_iload_n h dJ6_numberOfTrailingZeros_0f7a4_62 rfl rfl ?_
            refine m_iconst h dJ6_numberOfTrailingZeros_0f7a4_63 ?_
            refine m_icmp_le h dJ6_numberOfTrailingZeros_0f7a4_64 (tgt := 74) (by decide) (by omega) (by omega) (fun c36 => ?_) (fun c36 => ?_)
            · skip
              omega
            · skip
              refine m_iinc h dJ6_numberOfTrailingZeros_0f7a4_67 rfl (by decide) rfl ?_
              refine m_iload_n h dJ6_numberOfTrailingZeros_0f7a4_70 rfl rfl ?_
              refine m_iconst h dJ6_numberOfTrailingZeros_0f7a4_71 ?_
              refine m_iushrI h dJ6_numberOfTrailingZeros_0f7a4_72 (s := 2) (p := 4) (q := 1) (by omega) (by decide) (by decide) (by first | rfl | decide) ?_
              refine m_istore_n h dJ6_numberOfTrailingZeros_0f7a4_73 rfl (by decide) rfl ?_
              refine m_iload_n h dJ6_numberOfTrailingZeros_0f7a4_74 rfl rfl ?_
              refine m_iload_n h dJ6_numberOfTrailingZeros_0f7a4_75 rfl rfl ?_
              refine m_iconst h dJ6_numberOfTrailingZeros_0f7a4_76 ?_
              refine m_iushrI h dJ6_numberOfTrailingZeros_0f7a4_77 (s := 1) (p := 2) (q := 0) (by omega) (by decide) (by decide) (by first | rfl | decide) ?_
              refine m_iadd h dJ6_numberOfTrailingZeros_0f7a4_78 ?_
              refine m_iret h hR rfl dJ6_numberOfTrailingZeros_0f7a4_79 ?_
              exact ⟨rfl, 7, by decide, by omega, ht, hlow⟩
        · skip
          omega
      · skip
        omega
    · skip
      omega
  · skip
    show M X G 2 v 8 [some (.int (iI 255)), none] []
    refine m_iload_n h dJ6_numberOfTrailingZeros_0f7a4_8 rfl rfl ?_
    refine m_if_gt h dJ6_numberOfTrailingZeros_0f7a4_9 (tgt := 17) (by decide) (by omega) (fun c37 => ?_) (fun c37 => ?_)
    · skip
      refine m_iconst h dJ6_numberOfTrailingZeros_0f7a4_17 ?_
      refine m_istore_n h dJ6_numberOfTrailingZeros_0f7a4_18 rfl (by decide) rfl ?_
      refine m_iload_n h dJ6_numberOfTrailingZeros_0f7a4_19 rfl rfl ?_
      refine m_ldcK h kt_J6_264 dJ6_numberOfTrailingZeros_0f7a4_20 (n := 65536) rfl ?_
      refine m_icmp_le h dJ6_numberOfTrailingZeros_0f7a4_23 (tgt := 34) (by decide) (by omega) (by omega) (fun c38 => ?_) (fun c38 => ?_)
      · skip
        refine m_iload_n h dJ6_numberOfTrailingZeros_0f7a4_34 rfl rfl ?_
        refine m_sipush h dJ6_numberOfTrailingZeros_0f7a4_35 (by decide) ?_
        refine m_icmp_le h dJ6_numberOfTrailingZeros_0f7a4_38 (tgt := 49) (by decide) (by omega) (by omega) (fun c39 => ?_) (fun c39 => ?_)
        · skip
          refine m_iload_n h dJ6_numberOfTrailingZeros_0f7a4_49 rfl rfl ?_
          refine m_bipush h dJ6_numberOfTrailingZeros_0f7a4_50 (by decide) ?_
          refine m_icmp_le h dJ6_numberOfTrailingZeros_0f7a4_52 (tgt := 62) (by decide) (by omega) (by omega) (fun c40 => ?_) (fun c40 => ?_)
          · skip
            omega
          · skip
            refine m_iinc h dJ6_numberOfTrailingZeros_0f7a4_55 rfl (by decide) rfl ?_
            refine m_iload_n h dJ6_numberOfTrailingZeros_0f7a4_58 rfl rfl ?_
            refine m_iconst h dJ6_numberOfTrailingZeros_0f7a4_59 ?_
            refine m_iushrI h dJ6_numberOfTrailingZeros_0f7a4_60 (s := 4) (p := 16) (q := 15) (by omega) (by decide) (by decide) (by first | rfl | decide) ?_
            refine m_istore_n h dJ6_numberOfTrailingZeros_0f7a4_61 rfl (by decide) rfl ?_
            refine m_iload_n h dJ6_numberOfTrailingZeros_0f7a4_62 rfl rfl ?_
            refine m_iconst h dJ6_numberOfTrailingZeros_0f7a4_63 ?_
            refine m_icmp_le h dJ6_numberOfTrailingZeros_0f7a4_64 (tgt := 74) (by decide) (by omega) (by omega) (fun c41 => ?_) (fun c41 => ?_)
            · skip
              omega
            · skip
              refine m_iinc h dJ6_numberOfTrailingZeros_0f7a4_67 rfl (by decide) rfl ?_
              refine m_iload_n h dJ6_numberOfTrailingZeros_0f7a4_70 rfl rfl ?_
              refine m_iconst h dJ6_numberOfTrailingZeros_0f7a4_71 ?_
              refine m_iushrI h dJ6_numberOfTrailingZeros_0f7a4_72 (s := 2) (p := 4) (q := 3) (by omega) (by decide) (by decide) (by first | rfl | decide) ?_
              refine m_istore_n h dJ6_numberOfTrailingZeros_0f7a4_73 rfl (by decide) rfl ?_
              refine m_iload_n h dJ6_numberOfTrailingZeros_0f7a4_74 rfl rfl ?_
              refine m_iload_n h dJ6_numberOfTrailingZeros_0f7a4_75 rfl rfl ?_
              refine m_iconst h dJ6_numberOfTrailingZeros_0f7a4_76 ?_
              refine m_iushrI h dJ6_numberOfTrailingZeros_0f7a4_77 (s := 1) (p := 2) (q := 1) (by omega) (by decide) (by decide) (by first | rfl | decide) ?_
              refine m_iadd h dJ6_numberOfTrailingZeros_0f7a4_78 ?_
              refine m_iret h hR rfl dJ6_numberOfTrailingZeros_0f7a4_79 ?_
              exact ⟨rfl, 8, by decide, by omega, ht, hlow⟩
        · skip
          omega
      · skip
        omega
    · skip
      omega
  · skip
    show M X G 2 v 8 [some (.int (iI 511)), none] []
    refine m_iload_n h dJ6_numberOfTrailingZeros_0f7a4_8 rfl rfl ?_
    refine m_if_gt h dJ6_numberOfTrailingZeros_0f7a4_9 (tgt := 17) (by decide) (by omega) (fun c42 => ?_) (fun c42 => ?_)
    · skip
      refine m_iconst h dJ6_numberOfTrailingZeros_0f7a4_17 ?_
      refine m_istore_n h dJ6_numberOfTrailingZeros_0f7a4_18 rfl (by decide) rfl ?_
      refine m_iload_n h dJ6_numberOfTrailingZeros_0f7a4_19 rfl rfl ?_
      refine m_ldcK h kt_J6_264 dJ6_numberOfTrailingZeros_0f7a4_20 (n := 65536) rfl ?_
      refine m_icmp_le h dJ6_numberOfTrailingZeros_0f7a4_23 (tgt := 34) (by decide) (by omega) (by omega) (fun c43 => ?_) (fun c43 => ?_)
      · skip
        refine m_iload_n h dJ6_numberOfTrailingZeros_0f7a4_34 rfl rfl ?_
        refine m_sipush h dJ6_numberOfTrailingZeros_0f7a4_35 (by decide) ?_
        refine m_icmp_le h dJ6_numberOfTrailingZeros_0f7a4_38 (tgt := 49) (by decide) (by omega) (by omega) (fun c44 => ?_) (fun c44 => ?_)
        · skip
          omega
        · skip
          refine m_iinc h dJ6_numberOfTrailingZeros_0f7a4_41 rfl (by decide) rfl ?_
          refine m_iload_n h dJ6_numberOfTrailingZeros_0f7a4_44 rfl rfl ?_
          refine m_bipush h dJ6_numberOfTrailingZeros_0f7a4_45 (by decide) ?_
          refine m_iushrI h dJ6_numberOfTrailingZeros_0f7a4_47 (s := 8) (p := 256) (q := 1) (by omega) (by decide) (by decide) (by first | rfl | decide) ?_
          refine m_istore_n h dJ6_numberOfTrailingZeros_0f7a4_48 rfl (by decide) rfl ?_
          refine m_iload_n h dJ6_numberOfTrailingZeros_0f7a4_49 rfl rfl ?_
          refine m_bipush h dJ6_numberOfTrailingZeros_0f7a4_50 (by decide) ?_
          refine m_icmp_le h dJ6_numberOfTrailingZeros_0f7a4_52 (tgt := 62) (by decide) (by omega) (by omega) (fun c45 => ?_) (fun c45 => ?_)
          · skip
            refine m_iload_n h dJ6_numberOfTrailingZeros_0f7a4_62 rfl rfl ?_
            refine m_iconst h dJ6_numberOfTrailingZeros_0f7a4_63 ?_
            refine m_icmp_le h dJ6_numberOfTrailingZeros_0f7a4_64 (tgt := 74) (by decide) (by omega) (by omega) (fun c46 => ?_) (fun c46 => ?_)
            · skip
              refine m_iload_n h dJ6_numberOfTrailingZeros_0f7a4_74 rfl rfl ?_
              refine m_iload_n h dJ6_numberOfTrailingZeros_0f7a4_75 rfl rfl ?_
              refine m_iconst h dJ6_numberOfTrailingZeros_0f7a4_76 ?_
              refine m_iushrI h dJ6_numberOfTrailingZeros_0f7a4_77 (s := 1) (p := 2) (q := 0) (by omega) (by decide) (by decide) (by first | rfl | decide) ?_
              refine m_iadd h dJ6_numberOfTrailingZeros_0f7a4_78 ?_
              refine m_iret h hR rfl dJ6_numberOfTrailingZeros_0f7a4_79 ?_
              exact ⟨rfl, 9, by decide, by omega, ht, hlow⟩
            · skip
              omega
          · skip
            omega
      · skip
        omega
    · skip
      omega
  · skip
    show M X G 2 v 8 [some (.int (iI 1023)), none] []
    refine m_iload_n h dJ6_numberOfTrailingZeros_0f7a4_8 rfl rfl ?_
    refine m_if_gt h dJ6_numberOfTrailingZeros_0f7a4_9 (tgt := 17) (by decide) (by omega) (fun c47 => ?_) (fun c47 => ?_)
    · skip
      refine m_iconst h dJ6_numberOfTrailingZeros_0f7a4_17 ?_
      refine m_istore_n h dJ6_numberOfTrailingZeros_0f7a4_18 rfl (by decide) rfl ?_
      refine m_iload_n h dJ6_numberOfTrailingZeros_0f7a4_19 rfl rfl ?_
      refine m_ldcK h kt_J6_264 dJ6_numberOfTrailingZeros_0f7a4_20 (n := 65536) rfl ?_
      refine m_icmp_le h dJ6_numberOfTrailingZeros_0f7a4_23 (tgt := 34) (by decide) (by omega) (by omega) (fun c48 => ?_) (fun c48 => ?_)
      · skip
        refine m_iload_n h dJ6_numberOfTrailingZeros_0f7a4_34 rfl rfl ?_
        refine m_sipush h dJ6_numberOfTrailingZeros_0f7a4_35 (by decide) ?_
        refine m_icmp_le h dJ6_numberOfTrailingZeros_0f7a4_38 (tgt := 49) (by decide) (by omega) (by omega) (fun c49 => ?_) (fun c49 => ?_)
        · skip
          omega
        · skip
          refine m_iinc h dJ6_numberOfTrailingZeros_0f7a4_41 rfl (by decide) rfl ?_
          refine m_iload_n h dJ6_numberOfTrailingZeros_0f7a4_44 rfl rfl ?_
          refine m_bipush h dJ6_numberOfTrailingZeros_0f7a4_45 (by decide) ?_
          refine m_iushrI h dJ6_numberOfTrailingZeros_0f7a4_47 (s := 8) (p := 256) (q := 3) (by omega) (by decide) (by decide) (by first | rfl | decide) ?_
          refine m_istore_n h dJ6_numberOfTrailingZeros_0f7a4_48 rfl (by decide) rfl ?_
          refine m_iload_n h dJ6_numberOfTrailingZeros_0f7a4_49 rfl rfl ?_
          refine m_bipush h dJ6_numberOfTrailingZeros_0f7a4_50 (by decide) ?_
          refine m_icmp_le h dJ6_numberOfTrailingZeros_0f7a4_52 (tgt := 62) (by decide) (by omega) (by omega) (fun c50 => ?_) (fun c50 => ?_)
          · skip
            refine m_iload_n h dJ6_numberOfTrailingZeros_0f7a4_62 rfl rfl ?_
            refine m_iconst h dJ6_numberOfTrailingZeros_0f7a4_63 ?_
            refine m_icmp_le h dJ6_numberOfTrailingZeros_0f7a4_64 (tgt := 74) (by decide) (by omega) (by omega) (fun c51 => ?_) (fun c51 => ?_)
            · skip
              refine m_iload_n h dJ6_numberOfTrailingZeros_0f7a4_74 rfl rfl ?_
              refine m_iload_n h dJ6_numberOfTrailingZeros_0f7a4_75 rfl rfl ?_
              refine m_iconst h dJ6_numberOfTrailingZeros_0f7a4_76 ?_
              refine m_iushrI h dJ6_numberOfTrailingZeros_0f7a4_77 (s := 1) (p := 2) (q := 1) (by omega) (by decide) (by decide) (by first | rfl | decide) ?_
              refine m_iadd h dJ6_numberOfTrailingZeros_0f7a4_78 ?_
              refine m_iret h hR rfl dJ6_numberOfTrailingZeros_0f7a4_79 ?_
              exact ⟨rfl, 10, by decide, by omega, ht, hlow⟩
            · skip
              omega
          · skip
            omega
      · skip
        omega
    · skip
      omega
  · skip
    show M X G 2 v 8 [some (.int (iI 2047)), none] []
    refine m_iload_n h dJ6_numberOfTrailingZeros_0f7a4_8 rfl rfl ?_
    refine m_if_gt h dJ6_numberOfTrailingZeros_0f7a4_9 (tgt := 17) (by decide) (by omega) (fun c52 => ?_) (fun c52 => ?_)
    · skip
      refine m_iconst h dJ6_numberOfTrailingZeros_0f7a4_17 ?_
      refine m_istore_n h dJ6_numberOfTrailingZeros_0f7a4_18 rfl (by decide) rfl ?_
      refine m_iload_n h dJ6_numberOfTrailingZeros_0f7a4_19 rfl rfl ?_
      refine m_ldcK h kt_J6_264 dJ6_numberOfTrailingZeros_0f7a4_20 (n := 65536) rfl ?_
      refine m_icmp_le h dJ6_numberOfTrailingZeros_0f7a4_23 (tgt := 34) (by decide) (by omega) (by omega) (fun c53 => ?_) (fun c53 => ?_)
      · skip
        refine m_iload_n h dJ6_numberOfTrailingZeros_0f7a4_34 rfl rfl ?_
        refine m_sipush h dJ6_numberOfTrailingZeros_0f7a4_35 (by decide) ?_
        refine m_icmp_le h dJ6_numberOfTrailingZeros_0f7a4_38 (tgt := 49) (by decide) (by omega) (by omega) (fun c54 => ?_) (fun c54 => ?_)
        · skip
          omega
        · skip
          refine m_iinc h dJ6_numberOfTrailingZeros_0f7a4_41 rfl (by decide) rfl ?_
          refine m_iload_n h dJ6_numberOfTrailingZeros_0f7a4_44 rfl rfl ?_
          refine m_bipush h dJ6_numberOfTrailingZeros_0f7a4_45 (by decide) ?_
          refine m_iushrI h dJ6_numberOfTrailingZeros_0f7a4_47 (s := 8) (p := 256) (q := 7) (by omega) (by decide) (by decide) (by first | rfl | decide) ?_
          refine m_istore_n h dJ6_numberOfTrailingZeros_0f7a4_48 rfl (by decide) rfl ?_
          refine m_iload_n h dJ6_numberOfTrailingZeros_0f7a4_49 rfl rfl ?_
          refine m_bipush h dJ6_numberOfTrailingZeros_0f7a4_50 (by decide) ?_
          refine m_icmp_le h dJ6_numberOfTrailingZeros_0f7a4_52 (tgt := 62) (by decide) (by omega) (by omega) (fun c55 => ?_) (fun c55 => ?_)
          · skip
            refine m_iload_n h dJ6_numberOfTrailingZeros_0f7a4_62 rfl rfl ?_
            refine m_iconst h dJ6_numberOfTrailingZeros_0f7a4_63 ?_
            refine m_icmp_le h dJ6_numberOfTrailingZeros_0f7a4_64 (tgt := 74) (by decide) (by omega) (by omega) (fun c56 => ?_) (fun c56 => ?_)
            · skip
              omega
            · skip
              refine m_iinc h dJ6_numberOfTrailingZeros_0f7a4_67 rfl (by decide) rfl ?_
              refine m_iload_n h dJ6_numberOfTrailingZeros_0f7a4_70 rfl rfl ?_
              refine m_iconst h dJ6_numberOfTrailingZeros_0f7a4_71 ?_
              refine m_iushrI h dJ6_numberOfTrailingZeros_0f7a4_72 (s := 2) (p := 4) (q := 1) (by omega) (by decide) (by decide) (by first | rfl | decide) ?_
              refine m_istore_n h dJ6_numberOfTrailingZeros_0f7a4_73 rfl (by decide) rfl ?_
              refine m_iload_n h dJ6_numberOfTrailingZeros_0f7a4_74 rfl rfl ?_
              refine m_iload_n h dJ6_numberOfTrailingZeros_0f7a4_75 rfl rfl ?_
              refine m_iconst h dJ6_numberOfTrailingZeros_0f7a4_76 ?_
              refine m_iushrI h dJ6_numberOfTrailingZeros_0f7a4_77 (s := 1) (p := 2) (q := 0) (by omega) (by decide) (by decide) (by first | rfl | decide) ?_
              refine m_iadd h dJ6_numberOfTrailingZeros_0f7a4_78 ?_
              refine m_iret h hR rfl dJ6_numberOfTrailingZeros_0f7a4_79 ?_
              exact ⟨rfl, 11, by decide, by omega, ht, hlow⟩
          · skip
            omega
      · skip
        omega
    · skip
      omega
  · skip
    show M X G 2 v 8 [some (.int (iI 4095)), none] []
    refine m_iload_n h dJ6_numberOfTrailingZeros_0f7a4_8 rfl rfl ?_
    refine m_if_gt h dJ6_numberOfTrailingZeros_0f7a4_9 (tgt := 17) (by decide) (by omega) (fun c57 => ?_) (fun c57 => ?_)
    · skip
      refine m_iconst h dJ6_numberOfTrailingZeros_0f7a4_17 ?_
      refine m_istore_n h dJ6_numberOfTrailingZeros_0f7a4_18 rfl (by decide) rfl ?_
      refine m_iload_n h dJ6_numberOfTrailingZeros_0f7a4_19 rfl rfl ?_
      refine m_ldcK h kt_J6_264 dJ6_numberOfTrailingZeros_0f7a4_20 (n := 65536) rfl ?_
      refine m_icmp_le h dJ6_numberOfTrailingZeros_0f7a4_23 (tgt := 34) (by decide) (by omega) (by omega) (fun c58 => ?_) (fun c58 => ?_)
      · skip
        refine m_iload_n h dJ6_numberOfTrailingZeros_0f7a4_34 rfl rfl ?_
        refine m_sipush h dJ6_numberOfTrailingZeros_0f7a4_35 (by decide) ?_
        refine m_icmp_le h dJ6_numberOfTrailingZeros_0f7a4_38 (tgt := 49) (by decide) (by omega) (by omega) (fun c59 => ?_) (fun c59 => ?_)
        · skip
          omega
        · skip
          refine m_iinc h dJ6_numberOfTrailingZeros_0f7a4_41 rfl (by decide) rfl ?_
          refine m_iload_n h dJ6_numberOfTrailingZeros_0f7a4_44 rfl rfl ?_
          refine m_bipush h dJ6_numberOfTrailingZeros_0f7a4_45 (by decide) ?_
          refine m_iushrI h dJ6_numberOfTrailingZeros_0f7a4_47 (s := 8) (p := 256) (q := 15) (by omega) (by decide) (by decide) (by first | rfl | decide) ?_
          refine m_istore_n h dJ6_numberOfTrailingZeros_0f7a4_48 rfl (by decide) rfl ?_
          refine m_iload_n h dJ6_numberOfTrailingZeros_0f7a4_49 rfl rfl ?_
          refine m_bipush h dJ6_numberOfTrailingZeros_0f7a4_50 (by decide) ?_
          refine m_icmp_le h dJ6_numberOfTrailingZeros_0f7a4_52 (tgt := 62) (by decide) (by omega) (by omega) (fun c60 => ?_) (fun c60 => ?_)
          · skip
            refine m_iload_n h dJ6_numberOfTrailingZeros_0f7a4_62 rfl rfl ?_
            refine m_iconst h dJ6_numberOfTrailingZeros_0f7a4_63 ?_
            refine m_icmp_le h dJ6_numberOfTrailingZeros_0f7a4_64 (tgt := 74) (by decide) (by omega) (by omega) (fun c61 => ?_) (fun c61 => ?_)
            · skip
              omega
            · skip
              refine m_iinc h dJ6_numberOfTrailingZeros_0f7a4_67 rfl (by decide) rfl ?_
              refine m_iload_n h dJ6_numberOfTrailingZeros_0f7a4_70 rfl rfl ?_
              refine m_iconst h dJ6_numberOfTrailingZeros_0f7a4_71 ?_
              refine m_iushrI h dJ6_numberOfTrailingZeros_0f7a4_72 (s := 2) (p := 4) (q := 3) (by omega) (by decide) (by decide) (by first | rfl | decide) ?_
              refine m_istore_n h dJ6_numberOfTrailingZeros_0f7a4_73 rfl (by decide) rfl ?_
              refine m_iload_n h dJ6_numberOfTrailingZeros_0f7a4_74 rfl rfl ?_
              refine m_iload_n h dJ6_numberOfTrailingZeros_0f7a4_75 rfl rfl ?_
              refine m_iconst h dJ6_numberOfTrailingZeros_0f7a4_76 ?_
              refine m_iushrI h dJ6_numberOfTrailingZeros_0f7a4_77 (s := 1) (p := 2) (q := 1) (by omega) (by decide) (by decide) (by first | rfl | decide) ?_
              refine m_iadd h dJ6_numberOfTrailingZeros_0f7a4_78 ?_
              refine m_iret h hR rfl dJ6_numberOfTrailingZeros_0f7a4_79 ?_
              exact ⟨rfl, 12, by decide, by omega, ht, hlow⟩
          · skip
            omega
      · skip
        omega
    · skip
      omega
  · skip
    show M X G 2 v 8 [some (.int (iI 8191)), none] []
    refine m_iload_n h dJ6_numberOfTrailingZeros_0f7a4_8 rfl rfl ?_
    refine m_if_gt h dJ6_numberOfTrailingZeros_0f7a4_9 (tgt := 17) (by decide) (by omega) (fun c62 => ?_) (fun c62 => ?_)
    · skip
      refine m_iconst h dJ6_numberOfTrailingZeros_0f7a4_17 ?_
      refine m_istore_n h dJ6_numberOfTrailingZeros_0f7a4_18 rfl (by decide) rfl ?_
      refine m_iload_n h dJ6_numberOfTrailingZeros_0f7a4_19 rfl rfl ?_
      refine m_ldcK h kt_J6_264 dJ6_numberOfTrailingZeros_0f7a4_20 (n := 65536) rfl ?_
      refine m_icmp_le h dJ6_numberOfTrailingZeros_0f7a4_23 (tgt := 34) (by decide) (by omega) (by omega) (fun c63 => ?_) (fun c63 => ?_)
      · skip
        refine m_iload_n h dJ6_numberOfTrailingZeros_0f7a4_34 rfl rfl ?_
        refine m_sipush h dJ6_numberOfTrailingZeros_0f7a4_35 (by decide) ?_
        refine m_icmp_le h dJ6_numberOfTrailingZeros_0f7a4_38 (tgt := 49) (by decide) (by omega) (by omega) (fun c64 => ?_) (fun c64 => ?_)
        · skip
          omega
        · skip
          refine m_iinc h dJ6_numberOfTrailingZeros_0f7a4_41 rfl (by decide) rfl ?_
          refine m_iload_n h dJ6_numberOfTrailingZeros_0f7a4_44 rfl rfl ?_
          refine m_bipush h dJ6_numberOfTrailingZeros_0f7a4_45 (by decide) ?_
          refine m_iushrI h dJ6_numberOfTrailingZeros_0f7a4_47 (s := 8) (p := 256) (q := 31) (by omega) (by decide) (by decide) (by first | rfl | decide) ?_
          refine m_istore_n h dJ6_numberOfTrailingZeros_0f7a4_48 rfl (by decide) rfl ?_
          refine m_iload_n h dJ6_numberOfTrailingZeros_0f7a4_49 rfl rfl ?_
          refine m_bipush h dJ6_numberOfTrailingZeros_0f7a4_50 (by decide) ?_
          refine m_icmp_le h dJ6_numberOfTrailingZeros_0f7a4_52 (tgt := 62) (by decide) (by omega) (by omega) (fun c65 => ?_) (fun c65 => ?_)
          · skip
            omega
          · skip
            refine m_iinc h dJ6_numberOfTrailingZeros_0f7a4_55 rfl (by decide) rfl ?_
            refine m_iload_n h dJ6_numberOfTrailingZeros_0f7a4_58 rfl rfl ?_
            refine m_iconst h dJ6_numberOfTrailingZeros_0f7a4_59 ?_
            refine m_iushrI h dJ6_numberOfTrailingZeros_0f7a4_60 (s := 4) (p := 16) (q := 1) (by omega) (by decide) (by decide) (by first | rfl | decide) ?_
            refine m_istore_n h dJ6_numberOfTrailingZeros_0f7a4_61 rfl (by decide) rfl ?_
            refine m_iload_n h dJ6_numberOfTrailingZeros_0f7a4_62 rfl rfl ?_
            refine m_iconst h dJ6_numberOfTrailingZeros_0f7a4_63 ?_
            refine m_icmp_le h dJ6_numberOfTrailingZeros_0f7a4_64 (tgt := 74) (by decide) (by omega) (by omega) (fun c66 => ?_) (fun c66 => ?_)
            · skip
              refine m_iload_n h dJ6_numberOfTrailingZeros_0f7a4_74 rfl rfl ?_
              refine m_iload_n h dJ6_numberOfTrailingZeros_0f7a4_75 rfl rfl ?_
              refine m_iconst h dJ6_numberOfTrailingZeros_0f7a4_76 ?_
              refine m_iushrI h dJ6_numberOfTrailingZeros_0f7a4_77 (s := 1) (p := 2) (q := 0) (by omega) (by decide) (by decide) (by first | rfl | decide) ?_
              refine m_iadd h dJ6_numberOfTrailingZeros_0f7a4_78 ?_
              refine m_iret h hR rfl dJ6_numberOfTrailingZeros_0f7a4_79 ?_
              exact ⟨rfl, 13, by decide, by omega, ht, hlow⟩
            · skip
              omega
      · skip
        omega
    · skip
      omega
  · skip
    show M X G 2 v 8 [some (.int (iI 16383)), none] []
    refine m_iload_n h dJ6_numberOfTrailingZeros_0f7a4_8 rfl rfl ?_
    refine m_if_gt h dJ6_numberOfTrailingZeros_0f7a4_9 (tgt := 17) (by decide) (by omega) (fun c67 => ?_) (fun c67 => ?_)
    · skip
      refine m_iconst h dJ6_numberOfTrailingZeros_0f7a4_17 ?_
      refine m_istore_n h dJ6_numberOfTrailingZeros_0f7a4_18 rfl (by decide) rfl ?_
      refine m_iload_n h dJ6_numberOfTrailingZeros_0f7a4_19 rfl rfl ?_
      refine m_ldcK h kt_J6_264 dJ6_numberOfTrailingZeros_0f7a4_20 (n := 65536) rfl ?_
      refine m_icmp_le h dJ6_numberOfTrailingZeros_0f7a4_23 (tgt := 34) (by decide) (by omega) (by omega) (fun c68 => ?_) (fun c68 => ?_)
      · skip
        refine m_iload_n h dJ6_numberOfTrailingZeros_0f7a4_34 rfl rfl ?_
        refine m_sipush h dJ6_numberOfTrailingZeros_0f7a4_35 (by decide) ?_
        refine m_icmp_le h dJ6_numberOfTrailingZeros_0f7a4_38 (tgt := 49) (by decide) (by omega) (by omega) (fun c69 => ?_) (fun c69 => ?_)
        · skip
          omega
        · skip
          refine m_iinc h dJ6_numberOfTrailingZeros_0f7a4_41 rfl (by decide) rfl ?_
          refine m_iload_n h dJ6_numberOfTrailingZeros_0f7a4_44 rfl rfl ?_
          refine m_bipush h dJ6_numberOfTrailingZeros_0f7a4_45 (by decide) ?_
          refine m_iushrI h dJ6_numberOfTrailingZeros_0f7a4_47 (s := 8) (p := 256) (q := 63) (by omega) (by decide) (by decide) (by first | rfl | decide) ?_
          refine m_istore_n h dJ6_numberOfTrailingZeros_0f7a4_48 rfl (by decide) rfl ?_
          refine m_iload_n h dJ6_numberOfTrailingZeros_0f7a4_49 rfl rfl ?_
          refine m_bipush h dJ6_numberOfTrailingZeros_0f7a4_50 (by decide) ?_
          refine m_icmp_le h dJ6_numberOfTrailingZeros_0f7a4_52 (tgt := 62) (by decide) (by omega) (by omega) (fun c70 => ?_) (fun c70 => ?_)
          · skip
            omega
          · skip
            refine m_iinc h dJ6_numberOfTrailingZeros_0f7a4_55 rfl (by decide) rfl ?_
            refine m_iload_n h dJ6_numberOfTrailingZeros_0f7a4_58 rfl rfl ?_
            refine m_iconst h dJ6_numberOfTrailingZeros_0f7a4_59 ?_
            refine m_iushrI h dJ6_numberOfTrailingZeros_0f7a4_60 (s := 4) (p := 16) (q := 3) (by omega) (by decide) (by decide) (by first | rfl | decide) ?_
            refine m_istore_n h dJ6_numberOfTrailingZeros_0f7a4_61 rfl (by decide) rfl ?_
            refine m_iload_n h dJ6_numberOfTrailingZeros_0f7a4_62 rfl rfl ?_
            refine m_iconst h dJ6_numberOfTrailingZeros_0f7a4_63 ?_
            refine m_icmp_le h dJ6_numberOfTrailingZeros_0f7a4_64 (tgt := 74) (by decide) (by omega) (by omega) (fun c71 => ?_) (fun c71 => ?_)
            · skip
              refine m_iload_n h dJ6_numberOfTrailingZeros_0f7a4_74 rfl rfl ?_
              refine m_iload_n h dJ6_numberOfTrailingZeros_0f7a4_75 rfl rfl ?_
              refine m_iconst h dJ6_numberOfTrailingZeros_0f7a4_76 ?_
              refine m_iushrI h dJ6_numberOfTrailingZeros_0f7a4_77 (s := 1) (p := 2) (q := 1) (by omega) (by decide) (by decide) (by first | rfl | decide) ?_
              refine m_iadd h dJ6_numberOfTrailingZeros_0f7a4_78 ?_
              refine m_iret h hR rfl dJ6_numberOfTrailingZeros_0f7a4_79 ?_
              exact ⟨rfl, 14, by decide, by omega, ht, hlow⟩
            · skip
              omega
      · skip
        omega
    · skip
      omega
  · skip
    show M X G 2 v 8 [some (.int (iI 32767)), none] []
    refine m_iload_n h dJ6_numberOfTrailingZeros_0f7a4_8 rfl rfl ?_
    refine m_if_gt h dJ6_numberOfTrailingZeros_0f7a4_9 (tgt := 17) (by decide) (by omega) (fun c72 => ?_) (fun c72 => ?_)
    · skip
      refine m_iconst h dJ6_numberOfTrailingZeros_0f7a4_17 ?_
      refine m_istore_n h dJ6_numberOfTrailingZeros_0f7a4_18 rfl (by decide) rfl ?_
      refine m_iload_n h dJ6_numberOfTrailingZeros_0f7a4_19 rfl rfl ?_
      refine m_ldcK h kt_J6_264 dJ6_numberOfTrailingZeros_0f7a4_20 (n := 65536) rfl ?_
      refine m_icmp_le h dJ6_numberOfTrailingZeros_0f7a4_23 (tgt := 34) (by decide) (by omega) (by omega) (fun c73 => ?_) (fun c73 => ?_)
      · skip
        refine m_iload_n h dJ6_numberOfTrailingZeros_0f7a4_34 rfl rfl ?_
        refine m_sipush h dJ6_numberOfTrailingZeros_0f7a4_35 (by decide) ?_
        refine m_icmp_le h dJ6_numberOfTrailingZeros_0f7a4_38 (tgt := 49) (by decide) (by omega) (by omega) (fun c74 => ?_) (fun c74 => ?_)
        · skip
          omega
        · skip
          refine m_iinc h dJ6_numberOfTrailingZeros_0f7a4_41 rfl (by decide) rfl ?_
          refine m_iload_n h dJ6_numberOfTrailingZeros_0f7a4_44 rfl rfl ?_
          refine m_bipush h dJ6_numberOfTrailingZeros_0f7a4_45 (by decide) ?_
          refine m_iushrI h dJ6_numberOfTrailingZeros_0f7a4_47 (s := 8) (p := 256) (q := 127) (by omega) (by decide) (by decide) (by first | rfl | decide) ?_
          refine m_istore_n h dJ6_numberOfTrailingZeros_0f7a4_48 rfl (by decide) rfl ?_
          refine m_iload_n h dJ6_numberOfTrailingZeros_0f7a4_49 rfl rfl ?_
          refine m_bipush h dJ6_numberOfTrailingZeros_0f7a4_50 (by decide) ?_
          refine m_icmp_le h dJ6_numberOfTrailingZeros_0f7a4_52 (tgt := 62) (by decide) (by omega) (by omega) (fun c75 => ?_) (fun c75 => ?_)
          · skip
            omega
          · skip
            refine m_iinc h dJ6_numberOfTrailingZeros_0f7a4_55 rfl (by decide) rfl ?_
            refine m_iload_n h dJ6_numberOfTrailingZeros_0f7a4_58 rfl rfl ?_
            refine m_iconst h dJ6_numberOfTrailingZeros_0f7a4_59 ?_
            refine m_iushrI h dJ6_numberOfTrailingZeros_0f7a4_60 (s := 4) (p := 16) (q := 7) (by omega) (by decide) (by decide) (by first | rfl | decide) ?_
            refine m_istore_n h dJ6_numberOfTrailingZeros_0f7a4_61 rfl (by decide) rfl ?_
            refine m_iload_n h dJ6_numberOfTrailingZeros_0f7a4_62 rfl rfl ?_
            refine m_iconst h dJ6_numberOfTrailingZeros_0f7a4_63 ?_
            refine m_icmp_le h dJ6_numberOfTrailingZeros_0f7a4_64 (tgt := 74) (by decide) (by omega) (by omega) (fun c76 => ?_) (fun c76 => ?_)
            · skip
              omega
            · skip
              refine m_iinc h dJ6_numberOfTrailingZeros_0f7a4_67 rfl (by decide) rfl ?_
              refine m_iload_n h dJ6_numberOfTrailingZeros_0f7a4_70 rfl rfl ?_
              refine m_iconst h dJ6_numberOfTrailingZeros_0f7a4_71 ?_
              refine m_iushrI h dJ6_numberOfTrailingZeros_0f7a4_72 (s := 2) (p := 4) (q := 1) (by omega) (by decide) (by decide) (by first | rfl | decide) ?_
              refine m_istore_n h dJ6_numberOfTrailingZeros_0f7a4_73 rfl (by decide) rfl ?_
              refine m_iload_n h dJ6_numberOfTrailingZeros_0f7a4_74 rfl rfl ?_
              refine m_iload_n h dJ6_numberOfTrailingZeros_0f7a4_75 rfl rfl ?_
              refine m_iconst h dJ6_numberOfTrailingZeros_0f7a4_76 ?_
              refine m_iushrI h dJ6_numberOfTrailingZeros_0f7a4_77 (s := 1) (p := 2) (q := 0) (by omega) (by decide) (by decide) (by first | rfl | decide) ?_
              refine m_iadd h dJ6_numberOfTrailingZeros_0f7a4_78 ?_
              refine m_iret h hR rfl dJ6_numberOfTrailingZeros_0f7a4_79 ?_
              exact ⟨rfl, 15, by decide, by omega, ht, hlow⟩
      · skip
        omega
    · skip
      omega
  · skip
    show M X G 2 v 8 [some (.int (iI 65535)), none] []
    refine m_iload_n h dJ6_numberOfTrailingZeros_0f7a4_8 rfl rfl ?_
    refine m_if_gt h dJ6_numberOfTrailingZeros_0f7a4_9 (tgt := 17) (by decide) (by omega) (fun c77 => ?_) (fun c77 => ?_)
    · skip
      refine m_iconst h dJ6_numberOfTrailingZeros_0f7a4_17 ?_
      refine m_istore_n h dJ6_numberOfTrailingZeros_0f7a4_18 rfl (by decide) rfl ?_
      refine m_iload_n h dJ6_numberOfTrailingZeros_0f7a4_19 rfl rfl ?_
      refine m_ldcK h kt_J6_264 dJ6_numberOfTrailingZeros_0f7a4_20 (n := 65536) rfl ?_
      refine m_icmp_le h dJ6_numberOfTrailingZeros_0f7a4_23 (tgt := 34) (by decide) (by omega) (by omega) (fun c78 => ?_) (fun c78 => ?_)
      · skip
        refine m_iload_n h dJ6_numberOfTrailingZeros_0f7a4_34 rfl rfl ?_
        refine m_sipush h dJ6_numberOfTrailingZeros_0f7a4_35 (by decide) ?_
        refine m_icmp_le h dJ6_numberOfTrailingZeros_0f7a4_38 (tgt := 49) (by decide) (by omega) (by omega) (fun c79 => ?_) (fun c79 => ?_)
        · skip
          omega
        · skip
          refine m_iinc h dJ6_numberOfTrailingZeros_0f7a4_41 rfl (by decide) rfl ?_
          refine m_iload_n h dJ6_numberOfTrailingZeros_0f7a4_44 rfl rfl ?_
          refine m_bipush h dJ6_numberOfTrailingZeros_0f7a4_45 (by decide) ?_
          refine m_iushrI h dJ6_numberOfTrailingZeros_0f7a4_47 (s := 8) (p := 256) (q := 255) (by omega) (by decide) (by decide) (by first | rfl | decide) ?_
          refine m_istore_n h dJ6_numberOfTrailingZeros_0f7a4_48 rfl (by decide) rfl ?_
          refine m_iload_n h dJ6_numberOfTrailingZeros_0f7a4_49 rfl rfl ?_
          refine m_bipush h dJ6_numberOfTrailingZeros_0f7a4_50 (by decide) ?_
          refine m_icmp_le h dJ6_numberOfTrailingZeros_0f7a4_52 (tgt := 62) (by decide) (by omega) (by omega) (fun c80 => ?_) (fun c80 => ?_)
          · skip
            omega
          · skip
            refine m_iinc h dJ6_numberOfTrailingZeros_0f7a4_55 rfl (by decide) rfl ?_
            refine m_iload_n h dJ6_numberOfTrailingZeros_0f7a4_58 rfl rfl ?_
            refine m_iconst h dJ6_numberOfTrailingZeros_0f7a4_59 ?_
            refine m_iushrI h dJ6_numberOfTrailingZeros_0f7a4_60 (s := 4) (p := 16) (q := 15) (by omega) (by decide) (by decide) (by first | rfl | decide) ?_
            refine m_istore_n h dJ6_numberOfTrailingZeros_0f7a4_61 rfl (by decide) rfl ?_
            refine m_iload_n h dJ6_numberOfTrailingZeros_0f7a4_62 rfl rfl ?_
            refine m_iconst h dJ6_numberOfTrailingZeros_0f7a4_63 ?_
            refine m_icmp_le h dJ6_numberOfTrailingZeros_0f7a4_64 (tgt := 74) (by decide) (by omega) (by omega) (fun c81 => ?_) (fun c81 => ?_)
            · skip
              omega
            · skip
              refine m_iinc h dJ6_numberOfTrailingZeros_0f7a4_67 rfl (by decide) rfl ?_
              refine m_iload_n h dJ6_numberOfTrailingZeros_0f7a4_70 rfl rfl ?_
              refine m_iconst h dJ6_numberOfTrailingZeros_0f7a4_71 ?_
              refine m_iushrI h dJ6_numberOfTrailingZeros_0f7a4_72 (s := 2) (p := 4) (q := 3) (by omega) (by decide) (by decide) (by first | rfl | decide) ?_
              refine m_istore_n h dJ6_numberOfTrailingZeros_0f7a4_73 rfl (by decide) rfl ?_
              refine m_iload_n h dJ6_numberOfTrailingZeros_0f7a4_74 rfl rfl ?_
              refine m_iload_n h dJ6_numberOfTrailingZeros_0f7a4_75 rfl rfl ?_
              refine m_iconst h dJ6_numberOfTrailingZeros_0f7a4_76 ?_
              refine m_iushrI h dJ6_numberOfTrailingZeros_0f7a4_77 (s := 1) (p := 2) (q := 1) (by omega) (by decide) (by decide) (by first | rfl | decide) ?_
              refine m_iadd h dJ6_numberOfTrailingZeros_0f7a4_78 ?_
              refine m_iret h hR rfl dJ6_numberOfTrailingZeros_0f7a4_79 ?_
              exact ⟨rfl, 16, by decide, by omega, ht, hlow⟩
      · skip
        omega
    · skip
      omega
  · skip
    show M X G 2 v 8 [some (.int (iI 131071)), none] []
    refine m_iload_n h dJ6_numberOfTrailingZeros_0f7a4_8 rfl rfl ?_
    refine m_if_gt h dJ6_numberOfTrailingZeros_0f7a4_9 (tgt := 17) (by decide) (by omega) (fun c82 => ?_) (fun c82 => ?_)
    · skip
      refine m_iconst h dJ6_numberOfTrailingZeros_0f7a4_17 ?_
      refine m_istore_n h dJ6_numberOfTrailingZeros_0f7a4_18 rfl (by decide) rfl ?_
      refine m_iload_n h dJ6_numberOfTrailingZeros_0f7a4_19 rfl rfl ?_
      refine m_ldcK h kt_J6_264 dJ6_numberOfTrailingZeros_0f7a4_20 (n := 65536) rfl ?_
      refine m_icmp_le h dJ6_numberOfTrailingZeros_0f7a4_23 (tgt := 34) (by decide) (by omega) (by omega) (fun c83 => ?_) (fun c83 => ?_)
      · skip
        omega
      · skip
        refine m_iinc h dJ6_numberOfTrailingZeros_0f7a4_26 rfl (by decide) rfl ?_
        refine m_iload_n h dJ6_numberOfTrailingZeros_0f7a4_29 rfl rfl ?_
        refine m_bipush h dJ6_numberOfTrailingZeros_0f7a4_30 (by decide) ?_
        refine m_iushrI h dJ6_numberOfTrailingZeros_0f7a4_32 (s := 16) (p := 65536) (q := 1) (by omega) (by decide) (by decide) (by first | rfl | decide) ?_
        refine m_istore_n h dJ6_numberOfTrailingZeros_0f7a4_33 rfl (by decide) rfl ?_
        refine m_iload_n h dJ6_numberOfTrailingZeros_0f7a4_34 rfl rfl ?_
        refine m_sipush h dJ6_numberOfTrailingZeros_0f7a4_35 (by decide) ?_
        refine m_icmp_le h dJ6_numberOfTrailingZeros_0f7a4_38 (tgt := 49) (by decide) (by omega) (by omega) (fun c84 => ?_) (fun c84 => ?_)
        · skip
          refine m_iload_n h dJ6_numberOfTrailingZeros_0f7a4_49 rfl rfl ?_
          refine m_bipush h dJ6_numberOfTrailingZeros_0f7a4_50 (by decide) ?_
          refine m_icmp_le h dJ6_numberOfTrailingZeros_0f7a4_52 (tgt := 62) (by decide) (by omega) (by omega) (fun c85 => ?_) (fun c85 => ?_)
          · skip
            refine m_iload_n h dJ6_numberOfTrailingZeros_0f7a4_62 rfl rfl ?_
            refine m_iconst h dJ6_numberOfTrailingZeros_0f7a4_63 ?_
            refine m_icmp_le h dJ6_numberOfTrailingZeros_0f7a4_64 (tgt := 74) (by decide) (by omega) (by omega) (fun c86 => ?_) (fun c86 => ?_)
            · skip
              refine m_iload_n h dJ6_numberOfTrailingZeros_0f7a4_74 rfl rfl ?_
              refine m_iload_n h dJ6_numberOfTrailingZeros_0f7a4_75 rfl rfl ?_
              refine m_iconst h dJ6_numberOfTrailingZeros_0f7a4_76 ?_
              refine m_iushrI h dJ6_numberOfTrailingZeros_0f7a4_77 (s := 1) (p := 2) (q := 0) (by omega) (by decide) (by decide) (by first | rfl | decide) ?_
              refine m_iadd h dJ6_numberOfTrailingZeros_0f7a4_78 ?_
              refine m_iret h hR rfl dJ6_numberOfTrailingZeros_0f7a4_79 ?_
              exact ⟨rfl, 17, by decide, by omega, ht, hlow⟩
            · skip
              omega
          · skip
            omega
        · skip
          omega
    · skip
      omega
  · skip
    show M X G 2 v 8 [some (.int (iI 262143)), none] []
    refine m_iload_n h dJ6_numberOfTrailingZeros_0f7a4_8 rfl rfl ?_
    refine m_if_gt h dJ6_numberOfTrailingZeros_0f7a4_9 (tgt := 17) (by decide) (by omega) (fun c87 => ?_) (fun c87 => ?_)
    · skip
      refine m_iconst h dJ6_numberOfTrailingZeros_0f7a4_17 ?_
      refine m_istore_n h dJ6_numberOfTrailingZeros_0f7a4_18 rfl (by decide) rfl ?_
      refine m_iload_n h dJ6_numberOfTrailingZeros_0f7a4_19 rfl rfl ?_
      refine m_ldcK h kt_J6_264 dJ6_numberOfTrailingZeros_0f7a4_20 (n := 65536) rfl ?_
      refine m_icmp_le h dJ6_numberOfTrailingZeros_0f7a4_23 (tgt := 34) (by decide) (by omega) (by omega) (fun c88 => ?_) (fun c88 => ?_)
      · skip
        omega
      · skip
        refine m_iinc h dJ6_numberOfTrailingZeros_0f7a4_26 rfl (by decide) rfl ?_
        refine m_iload_n h dJ6_numberOfTrailingZeros_0f7a4_29 rfl rfl ?_
        refine m_bipush h dJ6_numberOfTrailingZeros_0f7a4_30 (by decide) ?_
        refine m_iushrI h dJ6_numberOfTrailingZeros_0f7a4_32 (s := 16) (p := 65536) (q := 3) (by omega) (by decide) (by decide) (by first | rfl | decide) ?_
        refine m_istore_n h dJ6_numberOfTrailingZeros_0f7a4_33 rfl (by decide) rfl ?_
        refine m_iload_n h dJ6_numberOfTrailingZeros_0f7a4_34 rfl rfl ?_
        refine m_sipush h dJ6_numberOfTrailingZeros_0f7a4_35 (by decide) ?_
        refine m_icmp_le h dJ6_numberOfTrailingZeros_0f7a4_38 (tgt := 49) (by decide) (by omega) (by omega) (fun c89 => ?_) (fun c89 => ?_)
        · skip
          refine m_iload_n h dJ6_numberOfTrailingZeros_0f7a4_49 rfl rfl ?_
          refine m_bipush h dJ6_numberOfTrailingZeros_0f7a4_50 (by decide) ?_
          refine m_icmp_le h dJ6_numberOfTrailingZeros_0f7a4_52 (tgt := 62) (by decide) (by omega) (by omega) (fun c90 => ?_) (fun c90 => ?_)
          · skip
            refine m_iload_n h dJ6_numberOfTrailingZeros_0f7a4_62 rfl rfl ?_
            refine m_iconst h dJ6_numberOfTrailingZeros_0f7a4_63 ?_
            refine m_icmp_le h dJ6_numberOfTrailingZeros_0f7a4_64 (tgt := 74) (by decide) (by omega) (by omega) (fun c91 => ?_) (fun c91 => ?_)
            · skip
              refine m_iload_n h dJ6_numberOfTrailingZeros_0f7a4_74 rfl rfl ?_
              refine m_iload_n h dJ6_numberOfTrailingZeros_0f7a4_75 rfl rfl ?_
              refine m_iconst h dJ6_numberOfTrailingZeros_0f7a4_76 ?_
              refine m_iushrI h dJ6_numberOfTrailingZeros_0f7a4_77 (s := 1) (p := 2) (q := 1) (by omega) (by decide) (by decide) (by first | rfl | decide) ?_
              refine m_iadd h dJ6_numberOfTrailingZeros_0f7a4_78 ?_
              refine m_iret h hR rfl dJ6_numberOfTrailingZeros_0f7a4_79 ?_
              exact ⟨rfl, 18, by decide, by omega, ht, hlow⟩
            · skip
              omega
          · skip
            omega
        · skip
          omega
    · skip
      omega
  · skip
    show M X G 2 v 8 [some (.int (iI 524287)), none] []
    refine m_iload_n h dJ6_numberOfTrailingZeros_0f7a4_8 rfl rfl ?_
    refine m_if_gt h dJ6_numberOfTrailingZeros_0f7a4_9 (tgt := 17) (by decide) (by omega) (fun c92 => ?_) (fun c92 => ?_)
    · skip
      refine m_iconst h dJ6_numberOfTrailingZeros_0f7a4_17 ?_
      refine m_istore_n h dJ6_numberOfTrailingZeros_0f7a4_18 rfl (by decide) rfl ?_
      refine m_iload_n h dJ6_numberOfTrailingZeros_0f7a4_19 rfl rfl ?_
      refine m_ldcK h kt_J6_264 dJ6_numberOfTrailingZeros_0f7a4_20 (n := 65536) rfl ?_
      refine m_icmp_le h dJ6_numberOfTrailingZeros_0f7a4_23 (tgt := 34) (by decide) (by omega) (by omega) (fun c93 => ?_) (fun c93 => ?_)
      · skip
        omega
      · skip
        refine m_iinc h dJ6_numberOfTrailingZeros_0f7a4_26 rfl (by decide) rfl ?_
        refine m_iload_n h dJ6_numberOfTrailingZeros_0f7a4_29 rfl rfl ?_
        refine m_bipush h dJ6_numberOfTrailingZeros_0f7a4_30 (by decide) ?_
        refine m_iushrI h dJ6_numberOfTrailingZeros_0f7a4_32 (s := 16) (p := 65536) (q := 7) (by omega) (by decide) (by decide) (by first | rfl | decide) ?_
        refine m_istore_n h dJ6_numberOfTrailingZeros_0f7a4_33 rfl (by decide) rfl ?_
        refine m_iload_n h dJ6_numberOfTrailingZeros_0f7a4_34 rfl rfl ?_
        refine m_sipush h dJ6_numberOfTrailingZeros_0f7a4_35 (by decide) ?_
        refine m_icmp_le h dJ6_numberOfTrailingZeros_0f7a4_38 (tgt := 49) (by decide) (by omega) (by omega) (fun c94 => ?_) (fun c94 => ?_)
        · skip
          refine m_iload_n h dJ6_numberOfTrailingZeros_0f7a4_49 rfl rfl ?_
          refine m_bipush h dJ6_numberOfTrailingZeros_0f7a4_50 (by decide) ?_
          refine m_icmp_le h dJ6_numberOfTrailingZeros_0f7a4_52 (tgt := 62) (by decide) (by omega) (by omega) (fun c95 => ?_) (fun c95 => ?_)
          · skip
            refine m_iload_n h dJ6_numberOfTrailingZeros_0f7a4_62 rfl rfl ?_
            refine m_iconst h dJ6_numberOfTrailingZeros_0f7a4_63 ?_
            refine m_icmp_le h dJ6_numberOfTrailingZeros_0f7a4_64 (tgt := 74) (by decide) (by omega) (by omega) (fun c96 => ?_) (fun c96 => ?_)
            · skip
              omega
            · skip
              refine m_iinc h dJ6_numberOfTrailingZeros_0f7a4_67 rfl (by decide) rfl ?_
              refine m_iload_n h dJ6_numberOfTrailingZeros_0f7a4_70 rfl rfl ?_
              refine m_iconst h dJ6_numberOfTrailingZeros_0f7a4_71 ?_
              refine m_iushrI h dJ6_numberOfTrailingZeros_0f7a4_72 (s := 2) (p := 4) (q := 1) (by omega) (by decide) (by decide) (by first | rfl | decide) ?_
              refine m_istore_n h dJ6_numberOfTrailingZeros_0f7a4_73 rfl (by decide) rfl ?_
              refine m_iload_n h dJ6_numberOfTrailingZeros_0f7a4_74 rfl rfl ?_
              refine m_iload_n h dJ6_numberOfTrailingZeros_0f7a4_75 rfl rfl ?_
              refine m_iconst h dJ6_numberOfTrailingZeros_0f7a4_76 ?_
              refine m_iushrI h dJ6_numberOfTrailingZeros_0f7a4_77 (s := 1) (p := 2) (q := 0) (by omega) (by decide) (by decide) (by first | rfl | decide) ?_
              refine m_iadd h dJ6_numberOfTrailingZeros_0f7a4_78 ?_
              refine m_iret h hR rfl dJ6_numberOfTrailingZeros_0f7a4_79 ?_
              exact ⟨rfl, 19, by decide, by omega, ht, hlow⟩
          · skip
            omega
        · skip
          omega
    · skip
      omega
  · skip
    show M X G 2 v 8 [some (.int (iI 1048575)), none] []
    refine m_iload_n h dJ6_numberOfTrailingZeros_0f7a4_8 rfl rfl ?_
    refine m_if_gt h dJ6_numberOfTrailingZeros_0f7a4_9 (tgt := 17) (by decide) (by omega) (fun c97 => ?_) (fun c97 => ?_)
    · skip
      refine m_iconst h dJ6_numberOfTrailingZeros_0f7a4_17 ?_
      refine m_istore_n h dJ6_numberOfTrailingZeros_0f7a4_18 rfl (by decide) rfl ?_
      refine m_iload_n h dJ6_numberOfTrailingZeros_0f7a4_19 rfl rfl ?_
      refine m_ldcK h kt_J6_264 dJ6_numberOfTrailingZeros_0f7a4_20 (n := 65536) rfl ?_
      refine m_icmp_le h dJ6_numberOfTrailingZeros_0f7a4_23 (tgt := 34) (by decide) (by omega) (by omega) (fun c98 => ?_) (fun c98 => ?_)
      · skip
        omega
      · skip
        refine m_iinc h dJ6_numberOfTrailingZeros_0f7a4_26 rfl (by decide) rfl ?_
        refine m_iload_n h dJ6_numberOfTrailingZeros_0f7a4_29 rfl rfl ?_
        refine m_bipush h dJ6_numberOfTrailingZeros_0f7a4_30 (by decide) ?_
        refine m_iushrI h dJ6_numberOfTrailingZeros_0f7a4_32 (s := 16) (p := 65536) (q := 15) (by omega) (by decide) (by decide) (by first | rfl | decide) ?_
        refine m_istore_n h dJ6_numberOfTrailingZeros_0f7a4_33 rfl (by decide) rfl ?_
        refine m_iload_n h dJ6_numberOfTrailingZeros_0f7a4_34 rfl rfl ?_
        refine m_sipush h dJ6_numberOfTrailingZeros_0f7a4_35 (by decide) ?_
        refine m_icmp_le h dJ6_numberOfTrailingZeros_0f7a4_38 (tgt := 49) (by decide) (by omega) (by omega) (fun c99 => ?_) (fun c99 => ?_)
        · skip
          refine m_iload_n h dJ6_numberOfTrailingZeros_0f7a4_49 rfl rfl ?_
          refine m_bipush h dJ6_numberOfTrailingZeros_0f7a4_50 (by decide) ?_
          refine m_icmp_le h dJ6_numberOfTrailingZeros_0f7a4_52 (tgt := 62) (by decide) (by omega) (by omega) (fun c100 => ?_) (fun c100 => ?_)
          · skip
            refine m_iload_n h dJ6_numberOfTrailingZeros_0f7a4_62 rfl rfl ?_
            refine m_iconst h dJ6_numberOfTrailingZeros_0f7a4_63 ?_
            refine m_icmp_le h dJ6_numberOfTrailingZeros_0f7a4_64 (tgt := 74) (by decide) (by omega) (by omega) (fun c101 => ?_) (fun c101 => ?_)
            · skip
              omega
            · skip
              refine m_iinc h dJ6_numberOfTrailingZeros_0f7a4_67 rfl (by decide) rfl ?_
              refine m_iload_n h dJ6_numberOfTrailingZeros_0f7a4_70 rfl rfl ?_
              refine m_iconst h dJ6_numberOfTrailingZeros_0f7a4_71 ?_
              refine m_iushrI h dJ6_numberOfTrailingZeros_0f7a4_72 (s := 2) (p := 4) (q := 3) (by omega) (by decide) (by decide) (by first | rfl | decide) ?_
              refine m_istore_n h dJ6_numberOfTrailingZeros_0f7a4_73 rfl (by decide) rfl ?_
              refine m_iload_n h dJ6_numberOfTrailingZeros_0f7a4_74 rfl rfl ?_
              refine m_iload_n h dJ6_numberOfTrailingZeros_0f7a4_75 rfl rfl ?_
              refine m_iconst h dJ6_numberOfTrailingZeros_0f7a4_76 ?_
              refine m_iushrI h dJ6_numberOfTrailingZeros_0f7a4_77 (s := 1) (p := 2) (q := 1) (by omega) (by decide) (by decide) (by first | rfl | decide) ?_
              refine m_iadd h dJ6_numberOfTrailingZeros_0f7a4_78 ?_
              refine m_iret h hR rfl dJ6_numberOfTrailingZeros_0f7a4_79 ?_
              exact ⟨rfl, 20, by decide, by omega, ht, hlow⟩
          · skip
            omega
        · skip
          omega
    · skip
      omega
  · skip
    show M X G 2 v 8 [some (.int (iI 2097151)), none] []
    refine m_iload_n h dJ6_numberOfTrailingZeros_0f7a4_8 rfl rfl ?_
    refine m_if_gt h dJ6_numberOfTrailingZeros_0f7a4_9 (tgt := 17) (by decide) (by omega) (fun c102 => ?_) (fun c102 => ?_)
    · skip
      refine m_iconst h dJ6_numberOfTrailingZeros_0f7a4_17 ?_
      refine m_istore_n h dJ6_numberOfTrailingZeros_0f7a4_18 rfl (by decide) rfl ?_
      refine m_iload_n h dJ6_numberOfTrailingZeros_0f7a4_19 rfl rfl ?_
      refine m_ldcK h kt_J6_264 dJ6_numberOfTrailingZeros_0f7a4_20 (n := 65536) rfl ?_
      refine m_icmp_le h dJ6_numberOfTrailingZeros_0f7a4_23 (tgt := 34) (by decide) (by omega) (by omega) (fun c103 => ?_) (fun c103 => ?_)
      · skip
        omega
      · skip
        refine m_iinc h dJ6_numberOfTrailingZeros_0f7a4_26 rfl (by decide) rfl ?_
        refine m_iload_n h dJ6_numberOfTrailingZeros_0f7a4_29 rfl rfl ?_
        refine m_bipush h dJ6_numberOfTrailingZeros_0f7a4_30 (by decide) ?_
        refine m_iushrI h dJ6_numberOfTrailingZeros_0f7a4_32 (s := 16) (p := 65536) (q := 31) (by omega) (by decide) (by decide) (by first | rfl | decide) ?_
        refine m_istore_n h dJ6_numberOfTrailingZeros_0f7a4_33 rfl (by decide) rfl ?_
        refine m_iload_n h dJ6_numberOfTrailingZeros_0f7a4_34 rfl rfl ?_
        refine m_sipush h dJ6_numberOfTrailingZeros_0f7a4_35 (by decide) ?_
        refine m_icmp_le h dJ6_numberOfTrailingZeros_0f7a4_38 (tgt := 49) (by decide) (by omega) (by omega) (fun c104 => ?_) (fun c104 => ?_)
        · skip
          refine m_iload_n h dJ6_numberOfTrailingZeros_0f7a4_49 rfl rfl ?_
          refine m_bipush h dJ6_numberOfTrailingZeros_0f7a4_50 (by decide) ?_
          refine m_icmp_le h dJ6_numberOfTrailingZeros_0f7a4_52 (tgt := 62) (by decide) (by omega) (by omega) (fun c105 => ?_) (fun c105 => ?_)
          · skip
            omega
          · skip
            refine m_iinc h dJ6_numberOfTrailingZeros_0f7a4_55 rfl (by decide) rfl ?_
            refine m_iload_n h dJ6_numberOfTrailingZeros_0f7a4_58 rfl rfl ?_
            refine m_iconst h dJ6_numberOfTrailingZeros_0f7a4_59 ?_
            refine m_iushrI h dJ6_numberOfTrailingZeros_0f7a4_60 (s := 4) (p := 16) (q := 1) (by omega) (by decide) (by decide) (by first | rfl | decide) ?_
            refine m_istore_n h dJ6_numberOfTrailingZeros_0f7a4_61 rfl (by decide) rfl ?_
            refine m_iload_n h dJ6_numberOfTrailingZeros_0f7a4_62 rfl rfl ?_
            refine m_iconst h dJ6_numberOfTrailingZeros_0f7a4_63 ?_
            refine m_icmp_le h dJ6_numberOfTrailingZeros_0f7a4_64 (tgt := 74) (by decide) (by omega) (by omega) (fun c106 => ?_) (fun c106 => ?_)
            · skip
              refine m_iload_n h dJ6_numberOfTrailingZeros_0f7a4_74 rfl rfl ?_
              refine m_iload_n h dJ6_numberOfTrailingZeros_0f7a4_75 rfl rfl ?_
              refine m_iconst h dJ6_numberOfTrailingZeros_0f7a4_76 ?_
              refine m_iushrI h dJ6_numberOfTrailingZeros_0f7a4_77 (s := 1) (p := 2) (q := 0) (by omega) (by decide) (by decide) (by first | rfl | decide) ?_
              refine m_iadd h dJ6_numberOfTrailingZeros_0f7a4_78 ?_
              refine m_iret h hR rfl dJ6_numberOfTrailingZeros_0f7a4_79 ?_
              exact ⟨rfl, 21, by decide, by omega, ht, hlow⟩
            · skip
              omega
        · skip
          omega
    · skip
      omega
  · skip
    show M X G 2 v 8 [some (.int (iI 4194303)), none] []
    refine m_iload_n h dJ6_numberOfTrailingZeros_0f7a4_8 rfl rfl ?_
    refine m_if_gt h dJ6_numberOfTrailingZeros_0f7a4_9 (tgt := 17) (by decide) (by omega) (fun c107 => ?_) (fun c107 => ?_)
    · skip
      refine m_iconst h dJ6_numberOfTrailingZeros_0f7a4_17 ?_
      refine m_istore_n h dJ6_numberOfTrailingZeros_0f7a4_18 rfl (by decide) rfl ?_
      refine m_iload_n h dJ6_numberOfTrailingZeros_0f7a4_19 rfl rfl ?_
      refine m_ldcK h kt_J6_264 dJ6_numberOfTrailingZeros_0f7a4_20 (n := 65536) rfl ?_
      refine m_icmp_le h dJ6_numberOfTrailingZeros_0f7a4_23 (tgt := 34) (by decide) (by omega) (by omega) (fun c108 => ?_) (fun c108 => ?_)
      · skip
        omega
      · skip
        refine m_iinc h dJ6_numberOfTrailingZeros_0f7a4_26 rfl (by decide) rfl ?_
        refine m_iload_n h dJ6_numberOfTrailingZeros_0f7a4_29 rfl rfl ?_
        refine m_bipush h dJ6_numberOfTrailingZeros_0f7a4_30 (by decide) ?_
        refine m_iushrI h dJ6_numberOfTrailingZeros_0f7a4_32 (s := 16) (p := 65536) (q := 63) (by omega) (by decide) (by decide) (by first | rfl | decide) ?_
        refine m_istore_n h dJ6_numberOfTrailingZeros_0f7a4_33 rfl (by decide) rfl ?_
        refine m_iload_n h dJ6_numberOfTrailingZeros_0f7a4_34 rfl rfl ?_
        refine m_sipush h dJ6_numberOfTrailingZeros_0f7a4_35 (by decide) ?_
        refine m_icmp_le h dJ6_numberOfTrailingZeros_0f7a4_38 (tgt := 49) (by decide) (by omega) (by omega) (fun c109 => ?_) (fun c109 => ?_)
        · skip
          refine m_iload_n h dJ6_numberOfTrailingZeros_0f7a4_49 rfl rfl ?_
          refine m_bipush h dJ6_numberOfTrailingZeros_0f7a4_50 (by decide) ?_
          refine m_icmp_le h dJ6_numberOfTrailingZeros_0f7a4_52 (tgt := 62) (by decide) (by omega) (by omega) (fun c110 => ?_) (fun c110 => ?_)
          · skip
            omega
          · skip
            refine m_iinc h dJ6_numberOfTrailingZeros_0f7a4_55 rfl (by decide) rfl ?_
            refine m_iload_n h dJ6_numberOfTrailingZeros_0f7a4_58 rfl rfl ?_
            refine m_iconst h dJ6_numberOfTrailingZeros_0f7a4_59 ?_
            refine m_iushrI h dJ6_numberOfTrailingZeros_0f7a4_60 (s := 4) (p := 16) (q := 3) (by omega) (by decide) (by decide) (by first | rfl | decide) ?_
            refine m_istore_n h dJ6_numberOfTrailingZeros_0f7a4_61 rfl (by decide) rfl ?_
            refine m_iload_n h dJ6_numberOfTrailingZeros_0f7a4_62 rfl rfl ?_
            refine m_iconst h dJ6_numberOfTrailingZeros_0f7a4_63 ?_
            refine m_icmp_le h dJ6_numberOfTrailingZeros_0f7a4_64 (tgt := 74) (by decide) (by omega) (by omega) (fun c111 => ?_) (fun c111 => ?_)
            · skip
              refine m_iload_n h dJ6_numberOfTrailingZeros_0f7a4_74 rfl rfl ?_
              refine m_iload_n h dJ6_numberOfTrailingZeros_0f7a4_75 rfl rfl ?_
              refine m_iconst h dJ6_numberOfTrailingZeros_0f7a4_76 ?_
              refine m_iushrI h dJ6_numberOfTrailingZeros_0f7a4_77 (s := 1) (p := 2) (q := 1) (by omega) (by decide) (by decide) (by first | rfl | decide) ?_
              refine m_iadd h dJ6_numberOfTrailingZeros_0f7a4_78 ?_
              refine m_iret h hR rfl dJ6_numberOfTrailingZeros_0f7a4_79 ?_
              exact ⟨rfl, 22, by decide, by omega, ht, hlow⟩
            · skip
              omega
        · skip
          omega
    · skip
      omega
  · skip
    show M X G 2 v 8 [some (.int (iI 8388607)), none] []
    refine m_iload_n h dJ6_numberOfTrailingZeros_0f7a4_8 rfl rfl ?_
    refine m_if_gt h dJ6_numberOfTrailingZeros_0f7a4_9 (tgt := 17) (by decide) (by omega) (fun c112 => ?_) (fun c112 => ?_)
    · skip
      refine m_iconst h dJ6_numberOfTrailingZeros_0f7a4_17 ?_
      refine m_istore_n h dJ6_numberOfTrailingZeros_0f7a4_18 rfl (by decide) rfl ?_
      refine m_iload_n h dJ6_numberOfTrailingZeros_0f7a4_19 rfl rfl ?_
      refine m_ldcK h kt_J6_264 dJ6_numberOfTrailingZeros_0f7a4_20 (n := 65536) rfl ?_
      refine m_icmp_le h dJ6_numberOfTrailingZeros_0f7a4_23 (tgt := 34) (by decide) (by omega) (by omega) (fun c113 => ?_) (fun c113 => ?_)
      · skip
        omega
      · skip
        refine m_iinc h dJ6_numberOfTrailingZeros_0f7a4_26 rfl (by decide) rfl ?_
        refine m_iload_n h dJ6_numberOfTrailingZeros_0f7a4_29 rfl rfl ?_
        refine m_bipush h dJ6_numberOfTrailingZeros_0f7a4_30 (by decide) ?_
        refine m_iushrI h dJ6_numberOfTrailingZeros_0f7a4_32 (s := 16) (p := 65536) (q := 127) (by omega) (by decide) (by decide) (by first | rfl | decide) ?_
        refine m_istore_n h dJ6_numberOfTrailingZeros_0f7a4_33 rfl (by decide) rfl ?_
        refine m_iload_n h dJ6_numberOfTrailingZeros_0f7a4_34 rfl rfl ?_
        refine m_sipush h dJ6_numberOfTrailingZeros_0f7a4_35 (by decide) ?_
        refine m_icmp_le h dJ6_numberOfTrailingZeros_0f7a4_38 (tgt := 49) (by decide) (by omega) (by omega) (fun c114 => ?_) (fun c114 => ?_)
        · skip
          refine m_iload_n h dJ6_numberOfTrailingZeros_0f7a4_49 rfl rfl ?_
          refine m_bipush h dJ6_numberOfTrailingZeros_0f7a4_50 (by decide) ?_
          refine m_icmp_le h dJ6_numberOfTrailingZeros_0f7a4_52 (tgt := 62) (by decide) (by omega) (by omega) (fun c115 => ?_) (fun c115 => ?_)
          · skip
            omega
          · skip
            refine m_iinc h dJ6_numberOfTrailingZeros_0f7a4_55 rfl (by decide) rfl ?_
            refine m_iload_n h dJ6_numberOfTrailingZeros_0f7a4_58 rfl rfl ?_
            refine m_iconst h dJ6_numberOfTrailingZeros_0f7a4_59 ?_
            refine m_iushrI h dJ6_numberOfTrailingZeros_0f7a4_60 (s := 4) (p := 16) (q := 7) (by omega) (by decide) (by decide) (by first | rfl | decide) ?_
            refine m_istore_n h dJ6_numberOfTrailingZeros_0f7a4_61 rfl (by decide) rfl ?_
            refine m_iload_n h dJ6_numberOfTrailingZeros_0f7a4_62 rfl rfl ?_
            refine m_iconst h dJ6_numberOfTrailingZeros_0f7a4_63 ?_
            refine m_icmp_le h dJ6_numberOfTrailingZeros_0f7a4_64 (tgt := 74) (by decide) (by omega) (by omega) (fun c116 => ?_) (fun c116 => ?_)
            · skip
              omega
            · skip
              refine m_iinc h dJ6_numberOfTrailingZeros_0f7a4_67 rfl (by decide) rfl ?_
              refine m_iload_n h dJ6_numberOfTrailingZeros_0f7a4_70 rfl rfl ?_
              refine m_iconst h dJ6_numberOfTrailingZeros_0f7a4_71 ?_
              refine m_iushrI h dJ6_numberOfTrailingZeros_0f7a4_72 (s := 2) (p := 4) (q := 1) (by omega) (by decide) (by decide) (by first | rfl | decide) ?_
              refine m_istore_n h dJ6_numberOfTrailingZeros_0f7a4_73 rfl (by decide) rfl ?_
              refine m_iload_n h dJ6_numberOfTrailingZeros_0f7a4_74 rfl rfl ?_
              refine m_iload_n h dJ6_numberOfTrailingZeros_0f7a4_75 rfl rfl ?_
              refine m_iconst h dJ6_numberOfTrailingZeros_0f7a4_76 ?_
              refine m_iushrI h dJ6_numberOfTrailingZeros_0f7a4_77 (s := 1) (p := 2) (q := 0) (by omega) (by decide) (by decide) (by first | rfl | decide) ?_
              refine m_iadd h dJ6_numberOfTrailingZeros_0f7a4_78 ?_
              refine m_iret h hR rfl dJ6_numberOfTrailingZeros_0f7a4_79 ?_
              exact ⟨rfl, 23, by decide, by omega, ht, hlow⟩
        · skip
          omega
    · skip
      omega
  · skip
    show M X G 2 v 8 [some (.int (iI 16777215)), none] []
    refine m_iload_n h dJ6_numberOfTrailingZeros_0f7a4_8 rfl rfl ?_
    refine m_if_gt h dJ6_numberOfTrailingZeros_0f7a4_9 (tgt := 17) (by decide) (by omega) (fun c117 => ?_) (fun c117 => ?_)
    · skip
      refine m_iconst h dJ6_numberOfTrailingZeros_0f7a4_17 ?_
      refine m_istore_n h dJ6_numberOfTrailingZeros_0f7a4_18 rfl (by decide) rfl ?_
      refine m_iload_n h dJ6_numberOfTrailingZeros_0f7a4_19 rfl rfl ?_
      refine m_ldcK h kt_J6_264 dJ6_numberOfTrailingZeros_0f7a4_20 (n := 65536) rfl ?_
      refine m_icmp_le h dJ6_numberOfTrailingZeros_0f7a4_23 (tgt := 34) (by decide) (by omega) (by omega) (fun c118 => ?_) (fun c118 => ?_)
      · skip
        omega
      · skip
        refine m_iinc h dJ6_numberOfTrailingZeros_0f7a4_26 rfl (by decide) rfl ?_
        refine m_iload_n h dJ6_numberOfTrailingZeros_0f7a4_29 rfl rfl ?_
        refine m_bipush h dJ6_numberOfTrailingZeros_0f7a4_30 (by decide) ?_
        refine m_iushrI h dJ6_numberOfTrailingZeros_0f7a4_32 (s := 16) (p := 65536) (q := 255) (by omega) (by decide) (by decide) (by first | rfl | decide) ?_
        refine m_istore_n h dJ6_numberOfTrailingZeros_0f7a4_33 rfl (by decide) rfl ?_
        refine m_iload_n h dJ6_numberOfTrailingZeros_0f7a4_34 rfl rfl ?_
        refine m_sipush h dJ6_numberOfTrailingZeros_0f7a4_35 (by decide) ?_
        refine m_icmp_le h dJ6_numberOfTrailingZeros_0f7a4_38 (tgt := 49) (by decide) (by omega) (by omega) (fun c119 => ?_) (fun c119 => ?_)
        · skip
          refine m_iload_n h dJ6_numberOfTrailingZeros_0f7a4_49 rfl rfl ?_
          refine m_bipush h dJ6_numberOfTrailingZeros_0f7a4_50 (by decide) ?_
          refine m_icmp_le h dJ6_numberOfTrailingZeros_0f7a4_52 (tgt := 62) (by decide) (by omega) (by omega) (fun c120 => ?_) (fun c120 => ?_)
          · skip
            omega
          · skip
            refine m_iinc h dJ6_numberOfTrailingZeros_0f7a4_55 rfl (by decide) rfl ?_
            refine m_iload_n h dJ6_numberOfTrailingZeros_0f7a4_58 rfl rfl ?_
            refine m_iconst h dJ6_numberOfTrailingZeros_0f7a4_59 ?_
            refine m_iushrI h dJ6_numberOfTrailingZeros_0f7a4_60 (s := 4) (p := 16) (q := 15) (by omega) (by decide) (by decide) (by first | rfl | decide) ?_
            refine m_istore_n h dJ6_numberOfTrailingZeros_0f7a4_61 rfl (by decide) rfl ?_
            refine m_iload_n h dJ6_numberOfTrailingZeros_0f7a4_62 rfl rfl ?_
            refine m_iconst h dJ6_numberOfTrailingZeros_0f7a4_63 ?_
            refine m_icmp_le h dJ6_numberOfTrailingZeros_0f7a4_64 (tgt := 74) (by decide) (by omega) (by omega) (fun c121 => ?_) (fun c121 => ?_)
            · skip
              omega
            · skip
              refine m_iinc h dJ6_numberOfTrailingZeros_0f7a4_67 rfl (by decide) rfl ?_
              refine m_iload_n h dJ6_numberOfTrailingZeros_0f7a4_70 rfl rfl ?_
              refine m_iconst h dJ6_numberOfTrailingZeros_0f7a4_71 ?_
              refine m_iushrI h dJ6_numberOfTrailingZeros_0f7a4_72 (s := 2) (p := 4) (q := 3) (by omega) (by decide) (by decide) (by first | rfl | decide) ?_
              refine m_istore_n h dJ6_numberOfTrailingZeros_0f7a4_73 rfl (by decide) rfl ?_
              refine m_iload_n h dJ6_numberOfTrailingZeros_0f7a4_74 rfl rfl ?_
              refine m_iload_n h dJ6_numberOfTrailingZeros_0f7a4_75 rfl rfl ?_
              refine m_iconst h dJ6_numberOfTrailingZeros_0f7a4_76 ?_
              refine m_iushrI h dJ6_numberOfTrailingZeros_0f7a4_77 (s := 1) (p := 2) (q := 1) (by omega) (by decide) (by decide) (by first | rfl | decide) ?_
              refine m_iadd h dJ6_numberOfTrailingZeros_0f7a4_78 ?_
              refine m_iret h hR rfl dJ6_numberOfTrailingZeros_0f7a4_79 ?_
              exact ⟨rfl, 24, by decide, by omega, ht, hlow⟩
        · skip
          omega
    · skip
      omega
  · skip
    show M X G 2 v 8 [some (.int (iI 33554431)), none] []
    refine m_iload_n h dJ6_numberOfTrailingZeros_0f7a4_8 rfl rfl ?_
    refine m_if_gt h dJ6_numberOfTrailingZeros_0f7a4_9 (tgt := 17) (by decide) (by omega) (fun c122 => ?_) (fun c122 => ?_)
    · skip
      refine m_iconst h dJ6_numberOfTrailingZeros_0f7a4_17 ?_
      refine m_istore_n h dJ6_numberOfTrailingZeros_0f7a4_18 rfl (by decide) rfl ?_
      refine m_iload_n h dJ6_numberOfTrailingZeros_0f7a4_19 rfl rfl ?_
      refine m_ldcK h kt_J6_264 dJ6_numberOfTrailingZeros_0f7a4_20 (n := 65536) rfl ?_
      refine m_icmp_le h dJ6_numberOfTrailingZeros_0f7a4_23 (tgt := 34) (by decide) (by omega) (by omega) (fun c123 => ?_) (fun c123 => ?_)
      · skip
        omega
      · skip
        refine m_iinc h dJ6_numberOfTrailingZeros_0f7a4_26 rfl (by decide) rfl ?_
        refine m_iload_n h dJ6_numberOfTrailingZeros_0f7a4_29 rfl rfl ?_
        refine m_bipush h dJ6_numberOfTrailingZeros_0f7a4_30 (by decide) ?_
        refine m_iushrI h dJ6_numberOfTrailingZeros_0f7a4_32 (s := 16) (p := 65536) (q := 511) (by omega) (by decide) (by decide) (by first | rfl | decide) ?_
        refine m_istore_n h dJ6_numberOfTrailingZeros_0f7a4_33 rfl (by decide) rfl ?_
        refine m_iload_n h dJ6_numberOfTrailingZeros_0f7a4_34 rfl rfl ?_
        refine m_sipush h dJ6_numberOfTrailingZeros_0f7a4_35 (by decide) ?_
        refine m_icmp_le h dJ6_numberOfTrailingZeros_0f7a4_38 (tgt := 49) (by decide) (by omega) (by omega) (fun c124 => ?_) (fun c124 => ?_)
        · skip
          omega
        · skip
          refine m_iinc h dJ6_numberOfTrailingZeros_0f7a4_41 rfl (by decide) rfl ?_
          refine m_iload_n h dJ6_numberOfTrailingZeros_0f7a4_44 rfl rfl ?_
          refine m_bipush h dJ6_numberOfTrailingZeros_0f7a4_45 (by decide) ?_
          refine m_iushrI h dJ6_numberOfTrailingZeros_0f7a4_47 (s := 8) (p := 256) (q := 1) (by omega) (by decide) (by decide) (by first | rfl | decide) ?_
          refine m_istore_n h dJ6_numberOfTrailingZeros_0f7a4_48 rfl (by decide) rfl ?_
          refine m_iload_n h dJ6_numberOfTrailingZeros_0f7a4_49 rfl rfl ?_
          refine m_bipush h dJ6_numberOfTrailingZeros_0f7a4_50 (by decide) ?_
          refine m_icmp_le h dJ6_numberOfTrailingZeros_0f7a4_52 (tgt := 62) (by decide) (by omega) (by omega) (fun c125 => ?_) (fun c125 => ?_)
          · skip
            refine m_iload_n h dJ6_numberOfTrailingZeros_0f7a4_62 rfl rfl ?_
            refine m_iconst h dJ6_numberOfTrailingZeros_0f7a4_63 ?_
            refine m_icmp_le h dJ6_numberOfTrailingZeros_0f7a4_64 (tgt := 74) (by decide) (by omega) (by omega) (fun c126 => ?_) (fun c126 => ?_)
            · skip
              refine m_iload_n h dJ6_numberOfTrailingZeros_0f7a4_74 rfl rfl ?_
              refine m_iload_n h dJ6_numberOfTrailingZeros_0f7a4_75 rfl rfl ?_
              refine m_iconst h dJ6_numberOfTrailingZeros_0f7a4_76 ?_
              refine m_iushrI h dJ6_numberOfTrailingZeros_0f7a4_77 (s := 1) (p := 2) (q := 0) (by omega) (by decide) (by decide) (by first | rfl | decide) ?_
              refine m_iadd h dJ6_numberOfTrailingZeros_0f7a4_78 ?_
              refine m_iret h hR rfl dJ6_numberOfTrailingZeros_0f7a4_79 ?_
              exact ⟨rfl, 25, by decide, by omega, ht, hlow⟩
            · skip
              omega
          · skip
            omega
    · skip
      omega
  · skip
    show M X G 2 v 8 [some (.int (iI 67108863)), none] []
    refine m_iload_n h dJ6_numberOfTrailingZeros_0f7a4_8 rfl rfl ?_
    refine m_if_gt h dJ6_numberOfTrailingZeros_0f7a4_9 (tgt := 17) (by decide) (by omega) (fun c127 => ?_) (fun c127 => ?_)
    · skip
      refine m_iconst h dJ6_numberOfTrailingZeros_0f7a4_17 ?_
      refine m_istore_n h dJ6_numberOfTrailingZeros_0f7a4_18 rfl (by decide) rfl ?_
      refine m_iload_n h dJ6_numberOfTrailingZeros_0f7a4_19 rfl rfl ?_
      refine m_ldcK h kt_J6_264 dJ6_numberOfTrailingZeros_0f7a4_20 (n := 65536) rfl ?_
      refine m_icmp_le h dJ6_numberOfTrailingZeros_0f7a4_23 (tgt := 34) (by decide) (by omega) (by omega) (fun c128 => ?_) (fun c128 => ?_)
      · skip
        omega
      · skip
        refine m_iinc h dJ6_numberOfTrailingZeros_0f7a4_26 rfl (by decide) rfl ?_
        refine m_iload_n h dJ6_numberOfTrailingZeros_0f7a4_29 rfl rfl ?_
        refine m_bipush h dJ6_numberOfTrailingZeros_0f7a4_30 (by decide) ?_
        refine m_iushrI h dJ6_numberOfTrailingZeros_0f7a4_32 (s := 16) (p := 65536) (q := 1023) (by omega) (by decide) (by decide) (by first | rfl | decide) ?_
        refine m_istore_n h dJ6_numberOfTrailingZeros_0f7a4_33 rfl (by decide) rfl ?_
        refine m_iload_n h dJ6_numberOfTrailingZeros_0f7a4_34 rfl rfl ?_
        refine m_sipush h dJ6_numberOfTrailingZeros_0f7a4_35 (by decide) ?_
        refine m_icmp_le h dJ6_numberOfTrailingZeros_0f7a4_38 (tgt := 49) (by decide) (by omega) (by omega) (fun c129 => ?_) (fun c129 => ?_)
        · skip
          omega
        · skip
          refine m_iinc h dJ6_numberOfTrailingZeros_0f7a4_41 rfl (by decide) rfl ?_
          refine m_iload_n h dJ6_numberOfTrailingZeros_0f7a4_44 rfl rfl ?_
          refine m_bipush h dJ6_numberOfTrailingZeros_0f7a4_45 (by decide) ?_
          refine m_iushrI h dJ6_numberOfTrailingZeros_0f7a4_47 (s := 8) (p := 256) (q := 3) (by omega) (by decide) (by decide) (by first | rfl | decide) ?_
          refine m_istore_n h dJ6_numberOfTrailingZeros_0f7a4_48 rfl (by decide) rfl ?_
          refine m_iload_n h dJ6_numberOfTrailingZeros_0f7a4_49 rfl rfl ?_
          refine m_bipush h dJ6_numberOfTrailingZeros_0f7a4_50 (by decide) ?_
          refine m_icmp_le h dJ6_numberOfTrailingZeros_0f7a4_52 (tgt := 62) (by decide) (by omega) (by omega) (fun c130 => ?_) (fun c130 => ?_)
          · skip
            refine m_iload_n h dJ6_numberOfTrailingZeros_0f7a4_62 rfl rfl ?_
            refine m_iconst h dJ6_numberOfTrailingZeros_0f7a4_63 ?_
            refine m_icmp_le h dJ6_numberOfTrailingZeros_0f7a4_64 (tgt := 74) (by decide) (by omega) (by omega) (fun c131 => ?_) (fun c131 => ?_)
            · skip
              refine m_iload_n h dJ6_numberOfTrailingZeros_0f7a4_74 rfl rfl ?_
              refine m_iload_n h dJ6_numberOfTrailingZeros_0f7a4_75 rfl rfl ?_
              refine m_iconst h dJ6_numberOfTrailingZeros_0f7a4_76 ?_
              refine m_iushrI h dJ6_numberOfTrailingZeros_0f7a4_77 (s := 1) (p := 2) (q := 1) (by omega) (by decide) (by decide) (by first | rfl | decide) ?_
              refine m_iadd h dJ6_numberOfTrailingZeros_0f7a4_78 ?_
              refine m_iret h hR rfl dJ6_numberOfTrailingZeros_0f7a4_79 ?_
              exact ⟨rfl, 26, by decide, by omega, ht, hlow⟩
            · skip
              omega
          · skip
            omega
    · skip
      omega
  · skip
    show M X G 2 v 8 [some (.int (iI 134217727)), none] []
    refine m_iload_n h dJ6_numberOfTrailingZeros_0f7a4_8 rfl rfl ?_
    refine m_if_gt h dJ6_numberOfTrailingZeros_0f7a4_9 (tgt := 17) (by decide) (by omega) (fun c132 => ?_) (fun c132 => ?_)
    · skip
      refine m_iconst h dJ6_numberOfTrailingZeros_0f7a4_17 ?_
      refine m_istore_n h dJ6_numberOfTrailingZeros_0f7a4_18 rfl (by decide) rfl ?_
      refine m_iload_n h dJ6_numberOfTrailingZeros_0f7a4_19 rfl rfl ?_
      refine m_ldcK h kt_J6_264 dJ6_numberOfTrailingZeros_0f7a4_20 (n := 65536) rfl ?_
      refine m_icmp_le h dJ6_numberOfTrailingZeros_0f7a4_23 (tgt := 34) (by decide) (by omega) (by omega) (fun c133 => ?_) (fun c133 => ?_)
      · skip
        omega
      · skip
        refine m_iinc h dJ6_numberOfTrailingZeros_0f7a4_26 rfl (by decide) rfl ?_
        refine m_iload_n h dJ6_numberOfTrailingZeros_0f7a4_29 rfl rfl ?_
        refine m_bipush h dJ6_numberOfTrailingZeros_0f7a4_30 (by decide) ?_
        refine m_iushrI h dJ6_numberOfTrailingZeros_0f7a4_32 (s := 16) (p := 65536) (q := 2047) (by omega) (by decide) (by decide) (by first | rfl | decide) ?_
        refine m_istore_n h dJ6_numberOfTrailingZeros_0f7a4_33 rfl (by decide) rfl ?_
        refine m_iload_n h dJ6_numberOfTrailingZeros_0f7a4_34 rfl rfl ?_
        refine m_sipush h dJ6_numberOfTrailingZeros_0f7a4_35 (by decide) ?_
        refine m_icmp_le h dJ6_numberOfTrailingZeros_0f7a4_38 (tgt := 49) (by decide) (by omega) (by omega) (fun c134 => ?_) (fun c134 => ?_)
        · skip
          omega
        · skip
          refine m_iinc h dJ6_numberOfTrailingZeros_0f7a4_41 rfl (by decide) rfl ?_
          refine m_iload_n h dJ6_numberOfTrailingZeros_0f7a4_44 rfl rfl ?_
          refine m_bipush h dJ6_numberOfTrailingZeros_0f7a4_45 (by decide) ?_
          refine m_iushrI h dJ6_numberOfTrailingZeros_0f7a4_47 (s := 8) (p := 256) (q := 7) (by omega) (by decide) (by decide) (by first | rfl | decide) ?_
          refine m_istore_n h dJ6_numberOfTrailingZeros_0f7a4_48 rfl (by decide) rfl ?_
          refine m_iload_n h dJ6_numberOfTrailingZeros_0f7a4_49 rfl rfl ?_
          refine m_bipush h dJ6_numberOfTrailingZeros_0f7a4_50 (by decide) ?_
          refine m_icmp_le h dJ6_numberOfTrailingZeros_0f7a4_52 (tgt := 62) (by decide) (by omega) (by omega) (fun c135 => ?_) (fun c135 => ?_)
          · skip
            refine m_iload_n h dJ6_numberOfTrailingZeros_0f7a4_62 rfl rfl ?_
            refine m_iconst h dJ6_numberOfTrailingZeros_0f7a4_63 ?_
            refine m_icmp_le h dJ6_numberOfTrailingZeros_0f7a4_64 (tgt := 74) (by decide) (by omega) (by omega) (fun c136 => ?_) (fun c136 => ?_)
            · skip
              omega
            · skip
              refine m_iinc h dJ6_numberOfTrailingZeros_0f7a4_67 rfl (by decide) rfl ?_
              refine m_iload_n h dJ6_numberOfTrailingZeros_0f7a4_70 rfl rfl ?_
              refine m_iconst h dJ6_numberOfTrailingZeros_0f7a4_71 ?_
              refine m_iushrI h dJ6_numberOfTrailingZeros_0f7a4_72 (s := 2) (p := 4) (q := 1) (by omega) (by decide) (by decide) (by first | rfl | decide) ?_
              refine m_istore_n h dJ6_numberOfTrailingZeros_0f7a4_73 rfl (by decide) rfl ?_
              refine m_iload_n h dJ6_numberOfTrailingZeros_0f7a4_74 rfl rfl ?_
              refine m_iload_n h dJ6_numberOfTrailingZeros_0f7a4_75 rfl rfl ?_
              refine m_iconst h dJ6_numberOfTrailingZeros_0f7a4_76 ?_
              refine m_iushrI h dJ6_numberOfTrailingZeros_0f7a4_77 (s := 1) (p := 2) (q := 0) (by omega) (by decide) (by decide) (by first | rfl | decide) ?_
              refine m_iadd h dJ6_numberOfTrailingZeros_0f7a4_78 ?_
              refine m_iret h hR rfl dJ6_numberOfTrailingZeros_0f7a4_79 ?_
              exact ⟨rfl, 27, by decide, by omega, ht, hlow⟩
          · skip
            omega
    · skip
      omega
  · skip
    show M X G 2 v 8 [some (.int (iI 268435455)), none] []
    refine m_iload_n h dJ6_numberOfTrailingZeros_0f7a4_8 rfl rfl ?_
    refine m_if_gt h dJ6_numberOfTrailingZeros_0f7a4_9 (tgt := 17) (by decide) (by omega) (fun c137 => ?_) (fun c137 => ?_)
    · skip
      refine m_iconst h dJ6_numberOfTrailingZeros_0f7a4_17 ?_
      refine m_istore_n h dJ6_numberOfTrailingZeros_0f7a4_18 rfl (by decide) rfl ?_
      refine m_iload_n h dJ6_numberOfTrailingZeros_0f7a4_19 rfl rfl ?_
      refine m_ldcK h kt_J6_264 dJ6_numberOfTrailingZeros_0f7a4_20 (n := 65536) rfl ?_
      refine m_icmp_le h dJ6_numberOfTrailingZeros_0f7a4_23 (tgt := 34) (by decide) (by omega) (by omega) (fun c138 => ?_) (fun c138 => ?_)
      · skip
        omega
      · skip
        refine m_iinc h dJ6_numberOfTrailingZeros_0f7a4_26 rfl (by decide) rfl ?_
        refine m_iload_n h dJ6_numberOfTrailingZeros_0f7a4_29 rfl rfl ?_
        refine m_bipush h dJ6_numberOfTrailingZeros_0f7a4_30 (by decide) ?_
        refine m_iushrI h dJ6_numberOfTrailingZeros_0f7a4_32 (s := 16) (p := 65536) (q := 4095) (by omega) (by decide) (by decide) (by first | rfl | decide) ?_
        refine m_istore_n h dJ6_numberOfTrailingZeros_0f7a4_33 rfl (by decide) rfl ?_
        refine m_iload_n h dJ6_numberOfTrailingZeros_0f7a4_34 rfl rfl ?_
        refine m_sipush h dJ6_numberOfTrailingZeros_0f7a4_35 (by decide) ?_
        refine m_icmp_le h dJ6_numberOfTrailingZeros_0f7a4_38 (tgt := 49) (by decide) (by omega) (by omega) (fun c139 => ?_) (fun c139 => ?_)
        · skip
          omega
        · skip
          refine m_iinc h dJ6_numberOfTrailingZeros_0f7a4_41 rfl (by decide) rfl ?_
          refine m_iload_n h dJ6_numberOfTrailingZeros_0f7a4_44 rfl rfl ?_
          refine m_bipush h dJ6_numberOfTrailingZeros_0f7a4_45 (by decide) ?_
          refine m_iushrI h dJ6_numberOfTrailingZeros_0f7a4_47 (s := 8) (p := 256) (q := 15) (by omega) (by decide) (by decide) (by first | rfl | decide) ?_
          refine m_istore_n h dJ6_numberOfTrailingZeros_0f7a4_48 rfl (by decide) rfl ?_
          refine m_iload_n h dJ6_numberOfTrailingZeros_0f7a4_49 rfl rfl ?_
          refine m_bipush h dJ6_numberOfTrailingZeros_0f7a4_50 (by decide) ?_
          refine m_icmp_le h dJ6_numberOfTrailingZeros_0f7a4_52 (tgt := 62) (by decide) (by omega) (by omega) (fun c140 => ?_) (fun c140 => ?_)
          · skip
            refine m_iload_n h dJ6_numberOfTrailingZeros_0f7a4_62 rfl rfl ?_
            refine m_iconst h dJ6_numberOfTrailingZeros_0f7a4_63 ?_
            refine m_icmp_le h dJ6_numberOfTrailingZeros_0f7a4_64 (tgt := 74) (by decide) (by omega) (by omega) (fun c141 => ?_) (fun c141 => ?_)
            · skip
              omega
            · skip
              refine m_iinc h dJ6_numberOfTrailingZeros_0f7a4_67 rfl (by decide) rfl ?_
              refine m_iload_n h dJ6_numberOfTrailingZeros_0f7a4_70 rfl rfl ?_
              refine m_iconst h dJ6_numberOfTrailingZeros_0f7a4_71 ?_
              refine m_iushrI h dJ6_numberOfTrailingZeros_0f7a4_72 (s := 2) (p := 4) (q := 3) (by omega) (by decide) (by decide) (by first | rfl | decide) ?_
              refine m_istore_n h dJ6_numberOfTrailingZeros_0f7a4_73 rfl (by decide) rfl ?_
              refine m_iload_n h dJ6_numberOfTrailingZeros_0f7a4_74 rfl rfl ?_
              refine m_iload_n h dJ6_numberOfTrailingZeros_0f7a4_75 rfl rfl ?_
              refine m_iconst h dJ6_numberOfTrailingZeros_0f7a4_76 ?_
              refine m_iushrI h dJ6_numberOfTrailingZeros_0f7a4_77 (s := 1) (p := 2) (q := 1) (by omega) (by decide) (by decide) (by first | rfl | decide) ?_
              refine m_iadd h dJ6_numberOfTrailingZeros_0f7a4_78 ?_
              refine m_iret h hR rfl dJ6_numberOfTrailingZeros_0f7a4_79 ?_
              exact ⟨rfl, 28, by decide, by omega, ht, hlow⟩
          · skip
            omega
    · skip
      omega
  · skip
    show M X G 2 v 8 [some (.int (iI 536870911)), none] []
    refine m_iload_n h dJ6_numberOfTrailingZeros_0f7a4_8 rfl rfl ?_
    refine m_if_gt h dJ6_numberOfTrailingZeros_0f7a4_9 (tgt := 17) (by decide) (by omega) (fun c142 => ?_) (fun c142 => ?_)
    · skip
      refine m_iconst h dJ6_numberOfTrailingZeros_0f7a4_17 ?_
      refine m_istore_n h dJ6_numberOfTrailingZeros_0f7a4_18 rfl (by decide) rfl ?_
      refine m_iload_n h dJ6_numberOfTrailingZeros_0f7a4_19 rfl rfl ?_
      refine m_ldcK h kt_J6_264 dJ6_numberOfTrailingZeros_0f7a4_20 (n := 65536) rfl ?_
      refine m_icmp_le h dJ6_numberOfTrailingZeros_0f7a4_23 (tgt := 34) (by decide) (by omega) (by omega) (fun c143 => ?_) (fun c143 => ?_)
      · skip
        omega
      · skip
        refine m_iinc h dJ6_numberOfTrailingZeros_0f7a4_26 rfl (by decide) rfl ?_
        refine m_iload_n h dJ6_numberOfTrailingZeros_0f7a4_29 rfl rfl ?_
        refine m_bipush h dJ6_numberOfTrailingZeros_0f7a4_30 (by decide) ?_
        refine m_iushrI h dJ6_numberOfTrailingZeros_0f7a4_32 (s := 16) (p := 65536) (q := 8191) (by omega) (by decide) (by decide) (by first | rfl | decide) ?_
        refine m_istore_n h dJ6_numberOfTrailingZeros_0f7a4_33 rfl (by decide) rfl ?_
        refine m_iload_n h dJ6_numberOfTrailingZeros_0f7a4_34 rfl rfl ?_
        refine m_sipush h dJ6_numberOfTrailingZeros_0f7a4_35 (by decide) ?_
        refine m_icmp_le h dJ6_numberOfTrailingZeros_0f7a4_38 (tgt := 49) (by decide) (by omega) (by omega) (fun c144 => ?_) (fun c144 => ?_)
        · skip
          omega
        · skip
          refine m_iinc h dJ6_numberOfTrailingZeros_0f7a4_41 rfl (by decide) rfl ?_
          refine m_iload_n h dJ6_numberOfTrailingZeros_0f7a4_44 rfl rfl ?_
          refine m_bipush h dJ6_numberOfTrailingZeros_0f7a4_45 (by decide) ?_
          refine m_iushrI h dJ6_numberOfTrailingZeros_0f7a4_47 (s := 8) (p := 256) (q := 31) (by omega) (by decide) (by decide) (by first | rfl | decide) ?_
          refine m_istore_n h dJ6_numberOfTrailingZeros_0f7a4_48 rfl (by decide) rfl ?_
          refine m_iload_n h dJ6_numberOfTrailingZeros_0f7a4_49 rfl rfl ?_
          refine m_bipush h dJ6_numberOfTrailingZeros_0f7a4_50 (by decide) ?_
          refine m_icmp_le h dJ6_numberOfTrailingZeros_0f7a4_52 (tgt := 62) (by decide) (by omega) (by omega) (fun c145 => ?_) (fun c145 => ?_)
          · skip
            omega
          · skip
            refine m_iinc h dJ6_numberOfTrailingZeros_0f7a4_55 rfl (by decide) rfl ?_
            refine m_iload_n h dJ6_numberOfTrailingZeros_0f7a4_58 rfl rfl ?_
            refine m_iconst h dJ6_numberOfTrailingZeros_0f7a4_59 ?_
            refine m_iushrI h dJ6_numberOfTrailingZeros_0f7a4_60 (s := 4) (p := 16) (q := 1) (by omega) (by decide) (by decide) (by first | rfl | decide) ?_
            refine m_istore_n h dJ6_numberOfTrailingZeros_0f7a4_61 rfl (by decide) rfl ?_
            refine m_iload_n h dJ6_numberOfTrailingZeros_0f7a4_62 rfl rfl ?_
            refine m_iconst h dJ6_numberOfTrailingZeros_0f7a4_63 ?_
            refine m_icmp_le h dJ6_numberOfTrailingZeros_0f7a4_64 (tgt := 74) (by decide) (by omega) (by omega) (fun c146 => ?_) (fun c146 => ?_)
            · skip
              refine m_iload_n h dJ6_numberOfTrailingZeros_0f7a4_74 rfl rfl ?_
              refine m_iload_n h dJ6_numberOfTrailingZeros_0f7a4_75 rfl rfl ?_
              refine m_iconst h dJ6_numberOfTrailingZeros_0f7a4_76 ?_
              refine m_iushrI h dJ6_numberOfTrailingZeros_0f7a4_77 (s := 1) (p := 2) (q := 0) (by omega) (by decide) (by decide) (by first | rfl | decide) ?_
              refine m_iadd h dJ6_numberOfTrailingZeros_0f7a4_78 ?_
              refine m_iret h hR rfl dJ6_numberOfTrailingZeros_0f7a4_79 ?_
              exact ⟨rfl, 29, by decide, by omega, ht, hlow⟩
            · skip
              omega
    · skip
      omega
  · skip
    show M X G 2 v 8 [some (.int (iI 1073741823)), none] []
    refine m_iload_n h dJ6_numberOfTrailingZeros_0f7a4_8 rfl rfl ?_
    refine m_if_gt h dJ6_numberOfTrailingZeros_0f7a4_9 (tgt := 17) (by decide) (by omega) (fun c147 => ?_) (fun c147 => ?_)
    · skip
      refine m_iconst h dJ6_numberOfTrailingZeros_0f7a4_17 ?_
      refine m_istore_n h dJ6_numberOfTrailingZeros_0f7a4_18 rfl (by decide) rfl ?_
      refine m_iload_n h dJ6_numberOfTrailingZeros_0f7a4_19 rfl rfl ?_
      refine m_ldcK h kt_J6_264 dJ6_numberOfTrailingZeros_0f7a4_20 (n := 65536) rfl ?_
      refine m_icmp_le h dJ6_numberOfTrailingZeros_0f7a4_23 (tgt := 34) (by decide) (by omega) (by omega) (fun c148 => ?_) (fun c148 => ?_)
      · skip
        omega
      · skip
        refine m_iinc h dJ6_numberOfTrailingZeros_0f7a4_26 rfl (by decide) rfl ?_
        refine m_iload_n h dJ6_numberOfTrailingZeros_0f7a4_29 rfl rfl ?_
        refine m_bipush h dJ6_numberOfTrailingZeros_0f7a4_30 (by decide) ?_
        refine m_iushrI h dJ6_numberOfTrailingZeros_0f7a4_32 (s := 16) (p := 65536) (q := 16383) (by omega) (by decide) (by decide) (by first | rfl | decide) ?_
        refine m_istore_n h dJ6_numberOfTrailingZeros_0f7a4_33 rfl (by decide) rfl ?_
        refine m_iload_n h dJ6_numberOfTrailingZeros_0f7a4_34 rfl rfl ?_
        refine m_sipush h dJ6_numberOfTrailingZeros_0f7a4_35 (by decide) ?_
        refine m_icmp_le h dJ6_numberOfTrailingZeros_0f7a4_38 (tgt := 49) (by decide) (by omega) (by omega) (fun c149 => ?_) (fun c149 => ?_)
        · skip
          omega
        · skip
          refine m_iinc h dJ6_numberOfTrailingZeros_0f7a4_41 rfl (by decide) rfl ?_
          refine m_iload_n h dJ6_numberOfTrailingZeros_0f7a4_44 rfl rfl ?_
          refine m_bipush h dJ6_numberOfTrailingZeros_0f7a4_45 (by decide) ?_
          refine m_iushrI h dJ6_numberOfTrailingZeros_0f7a4_47 (s := 8) (p := 256) (q := 63) (by omega) (by decide) (by decide) (by first | rfl | decide) ?_
          refine m_istore_n h dJ6_numberOfTrailingZeros_0f7a4_48 rfl (by decide) rfl ?_
          refine m_iload_n h dJ6_numberOfTrailingZeros_0f7a4_49 rfl rfl ?_
          refine m_bipush h dJ6_numberOfTrailingZeros_0f7a4_50 (by decide) ?_
          refine m_icmp_le h dJ6_numberOfTrailingZeros_0f7a4_52 (tgt := 62) (by decide) (by omega) (by omega) (fun c150 => ?_) (fun c150 => ?_)
          · skip
            omega
          · skip
            refine m_iinc h dJ6_numberOfTrailingZeros_0f7a4_55 rfl (by decide) rfl ?_
            refine m_iload_n h dJ6_numberOfTrailingZeros_0f7a4_58 rfl rfl ?_
            refine m_iconst h dJ6_numberOfTrailingZeros_0f7a4_59 ?_
            refine m_iushrI h dJ6_numberOfTrailingZeros_0f7a4_60 (s := 4) (p := 16) (q := 3) (by omega) (by decide) (by decide) (by first | rfl | decide) ?_
            refine m_istore_n h dJ6_numberOfTrailingZeros_0f7a4_61 rfl (by decide) rfl ?_
            refine m_iload_n h dJ6_numberOfTrailingZeros_0f7a4_62 rfl rfl ?_
            refine m_iconst h dJ6_numberOfTrailingZeros_0f7a4_63 ?_
            refine m_icmp_le h dJ6_numberOfTrailingZeros_0f7a4_64 (tgt := 74) (by decide) (by omega) (by omega) (fun c151 => ?_) (fun c151 => ?_)
            · skip
              refine m_iload_n h dJ6_numberOfTrailingZeros_0f7a4_74 rfl rfl ?_
              refine m_iload_n h dJ6_numberOfTrailingZeros_0f7a4_75 rfl rfl ?_
              refine m_iconst h dJ6_numberOfTrailingZeros_0f7a4_76 ?_
              refine m_iushrI h dJ6_numberOfTrailingZeros_0f7a4_77 (s := 1) (p := 2) (q := 1) (by omega) (by decide) (by decide) (by first | rfl | decide) ?_
              refine m_iadd h dJ6_numberOfTrailingZeros_0f7a4_78 ?_
              refine m_iret h hR rfl dJ6_numberOfTrailingZeros_0f7a4_79 ?_
              exact ⟨rfl, 30, by decide, by omega, ht, hlow⟩
            · skip
              omega
    · skip
      omega
  · skip
    show M X G 2 v 8 [some (.int (iI 2147483647)), none] []
    refine m_iload_n h dJ6_numberOfTrailingZeros_0f7a4_8 rfl rfl ?_
    refine m_if_gt h dJ6_numberOfTrailingZeros_0f7a4_9 (tgt := 17) (by decide) (by omega) (fun c152 => ?_) (fun c152 => ?_)
    · skip
      refine m_iconst h dJ6_numberOfTrailingZeros_0f7a4_17 ?_
      refine m_istore_n h dJ6_numberOfTrailingZeros_0f7a4_18 rfl (by decide) rfl ?_
      refine m_iload_n h dJ6_numberOfTrailingZeros_0f7a4_19 rfl rfl ?_
      refine m_ldcK h kt_J6_264 dJ6_numberOfTrailingZeros_0f7a4_20 (n := 65536) rfl ?_
      refine m_icmp_le h dJ6_numberOfTrailingZeros_0f7a4_23 (tgt := 34) (by decide) (by omega) (by omega) (fun c153 => ?_) (fun c153 => ?_)
      · skip
        omega
      · skip
        refine m_iinc h dJ6_numberOfTrailingZeros_0f7a4_26 rfl (by decide) rfl ?_
        refine m_iload_n h dJ6_numberOfTrailingZeros_0f7a4_29 rfl rfl ?_
        refine m_bipush h dJ6_numberOfTrailingZeros_0f7a4_30 (by decide) ?_
        refine m_iushrI h dJ6_numberOfTrailingZeros_0f7a4_32 (s := 16) (p := 65536) (q := 32767) (by omega) (by decide) (by decide) (by first | rfl | decide) ?_
        refine m_istore_n h dJ6_numberOfTrailingZeros_0f7a4_33 rfl (by decide) rfl ?_
        refine m_iload_n h dJ6_numberOfTrailingZeros_0f7a4_34 rfl rfl ?_
        refine m_sipush h dJ6_numberOfTrailingZeros_0f7a4_35 (by decide) ?_
        refine m_icmp_le h dJ6_numberOfTrailingZeros_0f7a4_38 (tgt := 49) (by decide) (by omega) (by omega) (fun c154 => ?_) (fun c154 => ?_)
        · skip
          omega
        · skip
          refine m_iinc h dJ6_numberOfTrailingZeros_0f7a4_41 rfl (by decide) rfl ?_
          refine m_iload_n h dJ6_numberOfTrailingZeros_0f7a4_44 rfl rfl ?_
          refine m_bipush h dJ6_numberOfTrailingZeros_0f7a4_45 (by decide) ?_
          refine m_iushrI h dJ6_numberOfTrailingZeros_0f7a4_47 (s := 8) (p := 256) (q := 127) (by omega) (by decide) (by decide) (by first | rfl | decide) ?_
          refine m_istore_n h dJ6_numberOfTrailingZeros_0f7a4_48 rfl (by decide) rfl ?_
          refine m_iload_n h dJ6_numberOfTrailingZeros_0f7a4_49 rfl rfl ?_
          refine m_bipush h dJ6_numberOfTrailingZeros_0f7a4_50 (by decide) ?_
          refine m_icmp_le h dJ6_numberOfTrailingZeros_0f7a4_52 (tgt := 62) (by decide) (by omega) (by omega) (fun c155 => ?_) (fun c155 => ?_)
          · skip
            omega
          · skip
            refine m_iinc h dJ6_numberOfTrailingZeros_0f7a4_55 rfl (by decide) rfl ?_
            refine m_iload_n h dJ6_numberOfTrailingZeros_0f7a4_58 rfl rfl ?_
            refine m_iconst h dJ6_numberOfTrailingZeros_0f7a4_59 ?_
            refine m_iushrI h dJ6_numberOfTrailingZeros_0f7a4_60 (s := 4) (p := 16) (q := 7) (by omega) (by decide) (by decide) (by first | rfl | decide) ?_
            refine m_istore_n h dJ6_numberOfTrailingZeros_0f7a4_61 rfl (by decide) rfl ?_
            refine m_iload_n h dJ6_numberOfTrailingZeros_0f7a4_62 rfl rfl ?_
            refine m_iconst h dJ6_numberOfTrailingZeros_0f7a4_63 ?_
            refine m_icmp_le h dJ6_numberOfTrailingZeros_0f7a4_64 (tgt := 74) (by decide) (by omega) (by omega) (fun c156 => ?_) (fun c156 => ?_)
            · skip
              omega
            · skip
              refine m_iinc h dJ6_numberOfTrailingZeros_0f7a4_67 rfl (by decide) rfl ?_
              refine m_iload_n h dJ6_numberOfTrailingZeros_0f7a4_70 rfl rfl ?_
              refine m_iconst h dJ6_numberOfTrailingZeros_0f7a4_71 ?_
              refine m_iushrI h dJ6_numberOfTrailingZeros_0f7a4_72 (s := 2) (p := 4) (q := 1) (by omega) (by decide) (by decide) (by first | rfl | decide) ?_
              refine m_istore_n h dJ6_numberOfTrailingZeros_0f7a4_73 rfl (by decide) rfl ?_
              refine m_iload_n h dJ6_numberOfTrailingZeros_0f7a4_74 rfl rfl ?_
              refine m_iload_n h dJ6_numberOfTrailingZeros_0f7a4_75 rfl rfl ?_
              refine m_iconst h dJ6_numberOfTrailingZeros_0f7a4_76 ?_
              refine m_iushrI h dJ6_numberOfTrailingZeros_0f7a4_77 (s := 1) (p := 2) (q := 0) (by omega) (by decide) (by decide) (by first | rfl | decide) ?_
              refine m_iadd h dJ6_numberOfTrailingZeros_0f7a4_78 ?_
              refine m_iret h hR rfl dJ6_numberOfTrailingZeros_0f7a4_79 ?_
              exact ⟨rfl, 31, by decide, by omega, ht, hlow⟩
    · skip
      omega

set_option maxRecDepth 100000 in
set_option maxHeartbeats 4000000 in
theorem c_lntz (l : Launch) {G : GT} (hG : gok G) (v : Mem) (w : Int64) (h0 : uW w ≠ 0) : CC l G nJ13_numberOfTrailingZeros_95d88 1 [.long w] v (qI G (fun r u => u = v ∧ ∃ t : Nat, t < 64 ∧ r = t ∧ (uW w).testBit t = true ∧ ∀ j, j < t → (uW w).testBit j = false)) := by
  refine m_startF (lv := [some (.long w), none, none]) hG (by decide +kernel) rfl (Nat.le_of_ble_eq_true rfl) ?_
  intro X hL h hR
  subst hL
  have hw := uW_lt w
  have hl0 := lo32 (w := w)
  have hh0 := lo32 (w := lN (uW w / 2 ^ 32))
  have hhe : uW (lN (uW w / 2 ^ 32)) = uW w / 2 ^ 32 := uW_lN (by omega)
  rw [hhe] at hh0
  have hln : (iI w.toInt32.toInt).toBitVec.toNat = uW w % 2 ^ 32 := by rw [← iI_of, l2i_nat]
  have hhn : (iI (lN (uW w / 2 ^ 32)).toInt32.toInt).toBitVec.toNat = uW w / 2 ^ 32 := by
    rw [← iI_of, l2i_nat, hhe]
    omega
  have hlr := iI_rg w.toInt32
  have hhr := iI_rg (lN (uW w / 2 ^ 32)).toInt32
  show M X G 3 v 0 [some (.long w), none, none] []
  refine m_lload_n h dJ13_numberOfTrailingZeros_95d88_0 rfl rfl ?_
  refine m_l2i h dJ13_numberOfTrailingZeros_95d88_1 (c := iI ((w).toInt32.toInt)) (iI_of _) ?_
  refine m_istore_n h dJ13_numberOfTrailingZeros_95d88_2 rfl (by decide) rfl ?_
  refine m_iload_n h dJ13_numberOfTrailingZeros_95d88_3 rfl rfl ?_
  refine m_if_ne h dJ13_numberOfTrailingZeros_95d88_4 (tgt := 21) (by decide) hlr (fun c1 => ?_) (fun c1 => ?_)
  · skip
    refine m_iload_n h dJ13_numberOfTrailingZeros_95d88_21 rfl rfl ?_
    refine m_sI h (c_intz _ hG _ ((w).toInt32.toInt) (iI_rg _) (by omega)) moJ6_numberOfTrailingZeros_0f7a4 stJ6_numberOfTrailingZeros_0f7a4 lk_J13_311 dJ13_numberOfTrailingZeros_95d88_22 (by decide) rfl rfl (Nat.le_of_ble_eq_true rfl) (fun r2 u3 p4 => ?_)
    obtain ⟨hu9, t, ht, er, e1, e2⟩ := p4
    rw [hu9]
    refine m_iret h hR rfl dJ13_numberOfTrailingZeros_95d88_25 ?_
    refine ⟨rfl, t, by omega, by omega, ?_, ?_⟩
    · rw [hln, Nat.testBit_mod_two_pow] at e1
      simpa [ht] using e1
    · intro j hj
      have q1 := e2 j hj
      rw [hln, Nat.testBit_mod_two_pow] at q1
      simpa [show j < 32 by omega] using q1
  · skip
    refine m_bipush h dJ13_numberOfTrailingZeros_95d88_7 (by decide) ?_
    refine m_lload_n h dJ13_numberOfTrailingZeros_95d88_9 rfl rfl ?_
    refine m_bipush h dJ13_numberOfTrailingZeros_95d88_10 (by decide) ?_
    refine m_lushr h dJ13_numberOfTrailingZeros_95d88_12 (c := lN (uW w / 2 ^ 32)) (shr32 w) ?_
    refine m_l2i h dJ13_numberOfTrailingZeros_95d88_13 (c := iI ((lN (uW w / 2 ^ 32)).toInt32.toInt)) (iI_of _) ?_
    refine m_sI h (c_intz _ hG _ ((lN (uW w / 2 ^ 32)).toInt32.toInt) (iI_rg _) (by omega)) moJ6_numberOfTrailingZeros_0f7a4 stJ6_numberOfTrailingZeros_0f7a4 lk_J13_311 dJ13_numberOfTrailingZeros_95d88_14 (by decide) rfl rfl (Nat.le_of_ble_eq_true rfl) (fun r5 u6 p7 => ?_)
    obtain ⟨hu9, t, ht, er, e1, e2⟩ := p7
    rw [hu9]
    refine m_iadd h dJ13_numberOfTrailingZeros_95d88_17 ?_
    refine m_goto h dJ13_numberOfTrailingZeros_95d88_18 (tgt := 25) (by decide) ?_
    refine m_iret h hR rfl dJ13_numberOfTrailingZeros_95d88_25 ?_
    refine ⟨rfl, t + 32, by omega, by omega, ?_, ?_⟩
    · rw [hhn] at e1
      rw [← Nat.testBit_div_two_pow]; exact e1
    · intro j hj
      rw [hhn] at e2
      by_cases hj2 : j < 32
      · have q1 : (uW w % 2 ^ 32).testBit j = false := by rw [show uW w % 2 ^ 32 = 0 by omega]; exact Nat.zero_testBit j
        rw [Nat.testBit_mod_two_pow] at q1
        simpa [hj2] using q1
      · have q1 := e2 (j - 32) (by omega)
        rw [Nat.testBit_div_two_pow, show j - 32 + 32 = j by omega] at q1
        exact q1

set_option maxRecDepth 100000 in
set_option maxHeartbeats 4000000 in
theorem c_lnlz (l : Launch) {G : GT} (hG : gok G) (v : Mem) (w : Int64) (h0 : uW w ≠ 0) : CC l G nJ13_numberOfLeadingZeros_95d88 1 [.long w] v (qI G (fun r u => u = v ∧ ∃ t : Nat, t < 64 ∧ r = 63 - t ∧ 2 ^ t ≤ uW w ∧ uW w < 2 ^ (t + 1))) := by
  refine m_startF (lv := [some (.long w), none, none]) hG (by decide +kernel) rfl (Nat.le_of_ble_eq_true rfl) ?_
  intro X hL h hR
  subst hL
  have hw := uW_lt w
  have hl0 := lo32 (w := w)
  have hh0 := lo32 (w := lN (uW w / 2 ^ 32))
  have hhe : uW (lN (uW w / 2 ^ 32)) = uW w / 2 ^ 32 := uW_lN (by omega)
  rw [hhe] at hh0
  have hln : (iI w.toInt32.toInt).toBitVec.toNat = uW w % 2 ^ 32 := by rw [← iI_of, l2i_nat]
  have hhn : (iI (lN (uW w / 2 ^ 32)).toInt32.toInt).toBitVec.toNat = uW w / 2 ^ 32 := by
    rw [← iI_of, l2i_nat, hhe]
    omega
  have hlr := iI_rg w.toInt32
  have hhr := iI_rg (lN (uW w / 2 ^ 32)).toInt32
  show M X G 3 v 0 [some (.long w), none, none] []
  refine m_lload_n h dJ13_numberOfLeadingZeros_95d88_0 rfl rfl ?_
  refine m_bipush h dJ13_numberOfLeadingZeros_95d88_1 (by decide) ?_
  refine m_lushr h dJ13_numberOfLeadingZeros_95d88_3 (c := lN (uW w / 2 ^ 32)) (shr32 w) ?_
  refine m_l2i h dJ13_numberOfLeadingZeros_95d88_4 (c := iI ((lN (uW w / 2 ^ 32)).toInt32.toInt)) (iI_of _) ?_
  refine m_istore_n h dJ13_numberOfLeadingZeros_95d88_5 rfl (by decide) rfl ?_
  refine m_iload_n h dJ13_numberOfLeadingZeros_95d88_6 rfl rfl ?_
  refine m_if_ne h dJ13_numberOfLeadingZeros_95d88_7 (tgt := 21) (by decide) hhr (fun c1 => ?_) (fun c1 => ?_)
  · skip
    refine m_iload_n h dJ13_numberOfLeadingZeros_95d88_21 rfl rfl ?_
    refine m_sI h (c_inlz _ hG _ ((lN (uW w / 2 ^ 32)).toInt32.toInt) (iI_rg _) (by omega)) moJ6_numberOfLeadingZeros_0f7a4 stJ6_numberOfLeadingZeros_0f7a4 lk_J13_308 dJ13_numberOfLeadingZeros_95d88_22 (by decide) rfl rfl (Nat.le_of_ble_eq_true rfl) (fun r2 u3 p4 => ?_)
    obtain ⟨hu9, t, ht, er, e1, e2⟩ := p4
    rw [hu9]
    refine m_iret h hR rfl dJ13_numberOfLeadingZeros_95d88_25 ?_
    refine ⟨rfl, t + 32, by omega, by omega, ?_, ?_⟩
    · rw [hhn] at e1
      rw [Nat.pow_add]
      have := (Nat.le_div_iff_mul_le (Nat.two_pow_pos 32)).mp e1
      exact this
    · rw [hhn] at e2
      rw [show t + 32 + 1 = (t + 1) + 32 by omega, Nat.pow_add]
      exact (Nat.div_lt_iff_lt_mul (Nat.two_pow_pos 32)).mp e2
  · skip
    refine m_bipush h dJ13_numberOfLeadingZeros_95d88_10 (by decide) ?_
    refine m_lload_n h dJ13_numberOfLeadingZeros_95d88_12 rfl rfl ?_
    refine m_l2i h dJ13_numberOfLeadingZeros_95d88_13 (c := iI ((w).toInt32.toInt)) (iI_of _) ?_
    refine m_sI h (c_inlz _ hG _ ((w).toInt32.toInt) (iI_rg _) (by omega)) moJ6_numberOfLeadingZeros_0f7a4 stJ6_numberOfLeadingZeros_0f7a4 lk_J13_308 dJ13_numberOfLeadingZeros_95d88_14 (by decide) rfl rfl (Nat.le_of_ble_eq_true rfl) (fun r5 u6 p7 => ?_)
    obtain ⟨hu9, t, ht, er, e1, e2⟩ := p7
    rw [hu9]
    refine m_iadd h dJ13_numberOfLeadingZeros_95d88_17 ?_
    refine m_goto h dJ13_numberOfLeadingZeros_95d88_18 (tgt := 25) (by decide) ?_
    refine m_iret h hR rfl dJ13_numberOfLeadingZeros_95d88_25 ?_
    refine ⟨rfl, t, by omega, by omega, ?_, ?_⟩
    · rw [hln] at e1; omega
    · rw [hln] at e2; omega
