/-! the ones of a long, of an int -/
theorem uW_and (a b : Int64) : uW (a &&& b) = uW a &&& uW b := by
  show (a &&& b).toBitVec.toNat = _
  rw [Int64.toBitVec_and, BitVec.toNat_and]
  rfl
theorem uW_add {a b : Int64} (h : uW a + uW b < 2 ^ 64) : uW (a + b) = uW a + uW b := by
  show (a + b).toBitVec.toNat = _
  rw [Int64.toBitVec_add, BitVec.toNat_add]
  exact Nat.mod_eq_of_lt h
theorem uW_sub {a b : Int64} (h : uW b ≤ uW a) : uW (a - b) = uW a - uW b := by
  show (a - b).toBitVec.toNat = _
  rw [Int64.toBitVec_sub, BitVec.toNat_sub_of_le]
  · rfl
  · exact h
theorem uW_shr (a : Int64) (k : Nat) (hk : k < 64) : uW ((a.toUInt64 >>> ((iI (k : Int)).toInt64.toUInt64 &&& Int64.toUInt64 63)).toInt64) = uW a / 2 ^ k := by
  have h := wb_shr (n := uW a) (k := k) (uW_lt a) hk
  rw [← lN_uW a, ← iI_nI] at h
  rw [h, uW_lN (Nat.lt_of_le_of_lt (Nat.div_le_self _ _) (uW_lt a))]
def uI (a : Int32) : Nat := a.toBitVec.toNat
theorem uI_lt (a : Int32) : uI a < 2 ^ 32 := a.toBitVec.isLt
theorem uI_and (a b : Int32) : uI (a &&& b) = uI a &&& uI b := by
  show (a &&& b).toBitVec.toNat = _
  rw [Int32.toBitVec_and, BitVec.toNat_and]
  rfl
theorem uI_add {a b : Int32} (h : uI a + uI b < 2 ^ 32) : uI (a + b) = uI a + uI b := by
  show (a + b).toBitVec.toNat = _
  rw [Int32.toBitVec_add, BitVec.toNat_add]
  exact Nat.mod_eq_of_lt h
theorem uI_sub {a b : Int32} (h : uI b ≤ uI a) : uI (a - b) = uI a - uI b := by
  show (a - b).toBitVec.toNat = _
  rw [Int32.toBitVec_sub, BitVec.toNat_sub_of_le]
  · rfl
  · exact h
theorem uI_of (a : Int32) : a = nI (uI a) := Int32.toBitVec_inj.mp (BitVec.eq_of_toNat_eq (by rw [pk_tn (uI_lt a)]; rfl))
theorem uI_shr (a : Int32) (k : Nat) (hk : k < 32) : uI ((a.toUInt32 >>> ((iI (k : Int)).toUInt32 &&& Int32.toUInt32 31)).toInt32) = uI a / 2 ^ k := by
  have h := pk_ushrN (n := uI a) (uI_lt a) (nI k) k (by revert k; decide +kernel)
  rw [← uI_of a, ← iI_nI] at h
  rw [h]
  exact pk_tn (Nat.lt_of_le_of_lt (Nat.div_le_self _ _) (uI_lt a))
theorem uI_eq {a : Int32} {n : Nat} (h : uI a = n) : a = iI (n : Int) := by rw [iI_nI, ← h]; exact uI_of a
theorem d2_lt (n x : Nat) : d2 n x < 16 ^ n := by
  induction n generalizing x with
  | zero => simp [d2]
  | succ n ih =>
    have h1 := ih (x / 16)
    have h2 := pN_le 4 x
    simp only [d2]
    rw [Nat.pow_succ]
    omega
theorem fold8 {y0 y1 y2 y3 y4 y5 y6 y7 T1 T2 T3 T4 T5 T6 c d e f : Nat} (b0 : y0 ≤ 8) (b1 : y1 ≤ 8) (b2 : y2 ≤ 8) (b3 : y3 ≤ 8) (b4 : y4 ≤ 8) (b5 : y5 ≤ 8) (b6 : y6 ≤ 8) (b7 : y7 ≤ 8) (hc : c = y0 + 256 * T1) (t1 : T1 = y1 + 256 * T2) (t2 : T2 = y2 + 256 * T3) (t3 : T3 = y3 + 256 * T4) (t4 : T4 = y4 + 256 * T5) (t5 : T5 = y5 + 256 * T6) (t6 : T6 = y6 + 256 * y7) (hd : d = c + c / 256) (he : e = d + d / 65536) (hf : f = e + e / 4294967296) : f % 2 ^ 32 % 2 ^ 7 = y0 + y1 + y2 + y3 + y4 + y5 + y6 + y7 := by
  have h1 : c / 256 = T1 := by clear hd he hf t1 t2 t3 t4 t5 t6; omega
  have h2 : d = (y0 + y1) + 256 * (y1 + y2) + 65536 * (T2 + T3) := by clear he hf t3 t4 t5 t6; omega
  have h3 : d / 65536 = T2 + T3 := by clear hd he hf t1 t2 t3 t4 t5 t6 hc h1; omega
  have h4 : e = (y0 + y1 + y2 + y3) + 256 * (y1 + y2 + y3 + y4) + 65536 * (T2 + T3 + T4 + T5) := by clear hd hf t5 t6 hc h1; omega
  have h5 : T2 + T3 + T4 + T5 = (y2 + y3 + y4 + y5) + 256 * (y3 + y4 + y5 + y6) + 65536 * (T4 + T5 + T6 + y7) := by clear hd he hf hc h1 h2 h3 h4; omega
  have h6 : e / 4294967296 = T4 + T5 + T6 + y7 := by clear hd he hf t1 t2 t3 t4 t5 t6 hc h1 h2 h3; omega
  have h7 : T4 + T5 + T6 + y7 = (y4 + y5 + y6 + y7) + 256 * (T5 + T6 + y7) := by clear hd he hf hc h1 h2 h3 h4 h5 h6; omega
  have h8 : f = (y0 + y1 + y2 + y3 + y4 + y5 + y6 + y7) + 256 * ((y1 + y2 + y3 + y4) + 256 * (T2 + T3 + T4 + T5) + (T5 + T6 + y7)) := by clear hd he hc h1 h2 h3 h5 t1 t2 t3 t4 t5 t6; omega
  clear hd he hf t1 t2 t3 t4 t5 t6 hc h1 h2 h3 h4 h5 h6 h7
  omega
theorem fold4 {y0 y1 y2 y3 T1 T2 c d e : Nat} (b0 : y0 ≤ 8) (b1 : y1 ≤ 8) (b2 : y2 ≤ 8) (b3 : y3 ≤ 8) (hc : c = y0 + 256 * T1) (t1 : T1 = y1 + 256 * T2) (t2 : T2 = y2 + 256 * y3) (hd : d = c + c / 256) (he : e = d + d / 65536) : e % 2 ^ 6 = y0 + y1 + y2 + y3 := by
  have h1 : c / 256 = T1 := by clear hd he t1 t2; omega
  have h2 : d = (y0 + y1) + 256 * (y1 + y2) + 65536 * (T2 + y3) := by clear he; omega
  have h3 : d / 65536 = T2 + y3 := by clear hd he t1 t2 hc h1; omega
  clear hd hc h1 t1
  omega
theorem bc_long (w xa xb xc xd xe xf : Int64) (hA : w - ((w.toUInt64 >>> ((iI 1).toInt64.toUInt64 &&& Int64.toUInt64 63)).toInt64 &&& 6148914691236517205) = xa)
    (hB : (xa &&& 3689348814741910323) + ((xa.toUInt64 >>> ((iI 2).toInt64.toUInt64 &&& Int64.toUInt64 63)).toInt64 &&& 3689348814741910323) = xb)
    (hC : (xb + (xb.toUInt64 >>> ((iI 4).toInt64.toUInt64 &&& Int64.toUInt64 63)).toInt64) &&& 1085102592571150095 = xc)
    (hD : xc + (xc.toUInt64 >>> ((iI 8).toInt64.toUInt64 &&& Int64.toUInt64 63)).toInt64 = xd)
    (hE : xd + (xd.toUInt64 >>> ((iI 16).toInt64.toUInt64 &&& Int64.toUInt64 63)).toInt64 = xe)
    (hF : xe + (xe.toUInt64 >>> ((iI 32).toInt64.toUInt64 &&& Int64.toUInt64 63)).toInt64 = xf) : xf.toInt32 &&& iI 127 = iI (pN 64 (uW w) : Int) := by
  have k1 : uW 6148914691236517205 = m1 32 := by decide +kernel
  have k2 : uW 3689348814741910323 = m2 16 := by decide +kernel
  have k3 : uW 1085102592571150095 = m3 8 := by decide +kernel
  have s1 := sw_1 32 (uW w) (by have := uW_lt w; omega)
  have a1 : uW xa = d1 32 (uW w) := by
    have q := uW_shr w 1 (by decide)
    have q2 : uW ((w.toUInt64 >>> ((iI 1).toInt64.toUInt64 &&& Int64.toUInt64 63)).toInt64 &&& 6148914691236517205) = p1 32 (uW w) := by
      rw [uW_and, k1, ← sw_p 32 (uW w)]
      congr 1
    rw [← hA, uW_sub (by rw [q2]; exact s1.1), q2]
    exact s1.2
  have a2 : uW xb = d2 16 (uW w) := by
    have q : uW ((xa.toUInt64 >>> ((iI 2).toInt64.toUInt64 &&& Int64.toUInt64 63)).toInt64) = uW xa / 4 := uW_shr xa 2 (by decide)
    have q2 := sw_2 16 (uW w)
    have q3 := d2_lt 16 (uW w)
    rw [← hB, uW_add, uW_and, uW_and, k2, q, a1]
    · exact q2
    · rw [uW_and, uW_and, k2, q, a1]
      rw [show 2 * 16 = 32 by rfl] at q2
      rw [q2]
      exact q3
  have a3 : uW xc = d3 8 (uW w) := by
    have q : uW ((xb.toUInt64 >>> ((iI 4).toInt64.toUInt64 &&& Int64.toUInt64 63)).toInt64) = uW xb / 16 := uW_shr xb 4 (by decide)
    have q2 := sw_3 8 (uW w)
    have e4 : d2 16 (uW w) * 15 ≤ 4 * (16 ^ 16 - 1) := by
      have : ∀ n x, d2 n x * 15 ≤ 4 * (16 ^ n - 1) := by
        intro n
        induction n with
        | zero => intro x; simp [d2]
        | succ n ih =>
          intro x
          have h1 := ih (x / 16)
          have h2 := pN_le 4 x
          have h3 := Nat.one_le_two_pow (n := 4 * n)
          have h4 : (16 : Nat) ^ n = 2 ^ (4 * n) := by rw [Nat.pow_mul]
          simp only [d2]
          rw [Nat.pow_succ]
          omega
      exact this 16 (uW w)
    rw [← hC, uW_and, uW_add, k3, q, a2]
    · exact q2
    · rw [q, a2]
      omega
  obtain ⟨y0, y1, y2, y3, y4, y5, y6, y7, b0, b1, b2, b3, b4, b5, b6, b7, ed, ep⟩ := sw_4 (uW w)
  have a4 : uW xd = uW xc + uW xc / 256 := by
    have q : uW ((xc.toUInt64 >>> ((iI 8).toInt64.toUInt64 &&& Int64.toUInt64 63)).toInt64) = uW xc / 256 := uW_shr xc 8 (by decide)
    rw [← hD, uW_add, q]
    rw [q]
    omega
  have a5 : uW xe = uW xd + uW xd / 65536 := by
    have q : uW ((xd.toUInt64 >>> ((iI 16).toInt64.toUInt64 &&& Int64.toUInt64 63)).toInt64) = uW xd / 65536 := uW_shr xd 16 (by decide)
    rw [← hE, uW_add, q]
    rw [q]
    omega
  have a6 : uW xf = uW xe + uW xe / 4294967296 := by
    have q : uW ((xe.toUInt64 >>> ((iI 32).toInt64.toUInt64 &&& Int64.toUInt64 63)).toInt64) = uW xe / 4294967296 := uW_shr xe 32 (by decide)
    rw [← hF, uW_add, q]
    rw [q]
    omega
  apply uI_eq
  rw [uI_and]
  have q1 : uI xf.toInt32 = uW xf % 2 ^ 32 := l2i_nat xf
  have q2 : uI (iI 127) = 2 ^ 7 - 1 := rfl
  rw [q1, q2, Nat.and_two_pow_sub_one_eq_mod, ep]
  exact fold8 b0 b1 b2 b3 b4 b5 b6 b7 (a3.trans ed) rfl rfl rfl rfl rfl rfl a4 a5 a6
theorem bc_int (w xa xb xc xd xe : Int32) (hA : w - ((w.toUInt32 >>> ((iI 1).toUInt32 &&& Int32.toUInt32 31)).toInt32 &&& 1431655765) = xa)
    (hB : (xa &&& 858993459) + ((xa.toUInt32 >>> ((iI 2).toUInt32 &&& Int32.toUInt32 31)).toInt32 &&& 858993459) = xb)
    (hC : (xb + (xb.toUInt32 >>> ((iI 4).toUInt32 &&& Int32.toUInt32 31)).toInt32) &&& 252645135 = xc)
    (hD : xc + (xc.toUInt32 >>> ((iI 8).toUInt32 &&& Int32.toUInt32 31)).toInt32 = xd)
    (hE : xd + (xd.toUInt32 >>> ((iI 16).toUInt32 &&& Int32.toUInt32 31)).toInt32 = xe) : xe &&& iI 63 = iI (pN 32 (uI w) : Int) := by
  have k1 : uI 1431655765 = m1 16 := by decide +kernel
  have k2 : uI 858993459 = m2 8 := by decide +kernel
  have k3 : uI 252645135 = m3 4 := by decide +kernel
  have s1 := sw_1 16 (uI w) (by have := uI_lt w; omega)
  have a1 : uI xa = d1 16 (uI w) := by
    have q := uI_shr w 1 (by decide)
    have q2 : uI ((w.toUInt32 >>> ((iI 1).toUInt32 &&& Int32.toUInt32 31)).toInt32 &&& 1431655765) = p1 16 (uI w) := by
      rw [uI_and, k1, ← sw_p 16 (uI w)]
      congr 1
    rw [← hA, uI_sub (by rw [q2]; exact s1.1), q2]
    exact s1.2
  have a2 : uI xb = d2 8 (uI w) := by
    have q : uI ((xa.toUInt32 >>> ((iI 2).toUInt32 &&& Int32.toUInt32 31)).toInt32) = uI xa / 4 := uI_shr xa 2 (by decide)
    have q2 := sw_2 8 (uI w)
    have q3 := d2_lt 8 (uI w)
    rw [← hB, uI_add, uI_and, uI_and, k2, q, a1]
    · exact q2
    · rw [uI_and, uI_and, k2, q, a1]
      rw [show 2 * 8 = 16 by rfl] at q2
      rw [q2]
      exact q3
  have a3 : uI xc = d3 4 (uI w) := by
    have q : uI ((xb.toUInt32 >>> ((iI 4).toUInt32 &&& Int32.toUInt32 31)).toInt32) = uI xb / 16 := uI_shr xb 4 (by decide)
    have q2 := sw_3 4 (uI w)
    have e4 : d2 8 (uI w) * 15 ≤ 4 * (16 ^ 8 - 1) := by
      have : ∀ n x, d2 n x * 15 ≤ 4 * (16 ^ n - 1) := by
        intro n
        induction n with
        | zero => intro x; simp [d2]
        | succ n ih =>
          intro x
          have h1 := ih (x / 16)
          have h2 := pN_le 4 x
          have h3 := Nat.one_le_two_pow (n := 4 * n)
          have h4 : (16 : Nat) ^ n = 2 ^ (4 * n) := by rw [Nat.pow_mul]
          simp only [d2]
          rw [Nat.pow_succ]
          omega
      exact this 8 (uI w)
    rw [← hC, uI_and, uI_add, k3, q, a2]
    · exact q2
    · rw [q, a2]
      omega
  obtain ⟨y0, y1, y2, y3, b0, b1, b2, b3, ed, ep⟩ := sw_4i (uI w)
  have a4 : uI xd = uI xc + uI xc / 256 := by
    have q : uI ((xc.toUInt32 >>> ((iI 8).toUInt32 &&& Int32.toUInt32 31)).toInt32) = uI xc / 256 := uI_shr xc 8 (by decide)
    rw [← hD, uI_add, q]
    rw [q]
    omega
  have a5 : uI xe = uI xd + uI xd / 65536 := by
    have q : uI ((xd.toUInt32 >>> ((iI 16).toUInt32 &&& Int32.toUInt32 31)).toInt32) = uI xd / 65536 := uI_shr xd 16 (by decide)
    rw [← hE, uI_add, q]
    rw [q]
    omega
  apply uI_eq
  rw [uI_and]
  have q2 : uI (iI 63) = 2 ^ 6 - 1 := rfl
  rw [q2, Nat.and_two_pow_sub_one_eq_mod, ep]
  exact fold4 b0 b1 b2 b3 (a3.trans ed) rfl rfl a4 a5

set_option maxRecDepth 100000 in
set_option maxHeartbeats 4000000 in
theorem c_lbc (l : Launch) {G : GT} (hG : gok G) (v : Mem) (w : Int64) : CC l G nJ13_bitCount_95d88 0 [.long w] v (qI G (fun r u => u = v ∧ r = (pN 64 (uW w) : Int))) := by
  refine m_startF (lv := [some (.long w), none]) hG (by decide +kernel) rfl (Nat.le_of_ble_eq_true rfl) ?_
  intro X hL h hR
  subst hL
  show M X G 2 v 0 [some (.long w), none] []
  refine m_lload_n h dJ13_bitCount_95d88_0 rfl rfl ?_
  refine m_lload_n h dJ13_bitCount_95d88_1 rfl rfl ?_
  refine m_iconst h dJ13_bitCount_95d88_2 ?_
  refine m_lushr h dJ13_bitCount_95d88_3 (c := (w.toUInt64 >>> ((iI 1).toInt64.toUInt64 &&& Int64.toUInt64 63)).toInt64) rfl ?_
  refine m_ldc2 h kt_J13_314 dJ13_bitCount_95d88_4 ?_
  refine m_land h dJ13_bitCount_95d88_7 (c := ((w.toUInt64 >>> ((iI 1).toInt64.toUInt64 &&& Int64.toUInt64 63)).toInt64) &&& 6148914691236517205) rfl ?_
  refine m_lsub h dJ13_bitCount_95d88_8 (c := w - (((w.toUInt64 >>> ((iI 1).toInt64.toUInt64 &&& Int64.toUInt64 63)).toInt64) &&& 6148914691236517205)) rfl ?_
  generalize hA : w - (((w.toUInt64 >>> ((iI 1).toInt64.toUInt64 &&& Int64.toUInt64 63)).toInt64) &&& 6148914691236517205) = xa
  refine m_lstore_n h dJ13_bitCount_95d88_9 rfl (by decide) rfl ?_
  refine m_lload_n h dJ13_bitCount_95d88_10 rfl rfl ?_
  refine m_ldc2 h kt_J13_316 dJ13_bitCount_95d88_11 ?_
  refine m_land h dJ13_bitCount_95d88_14 (c := xa &&& 3689348814741910323) rfl ?_
  refine m_lload_n h dJ13_bitCount_95d88_15 rfl rfl ?_
  refine m_iconst h dJ13_bitCount_95d88_16 ?_
  refine m_lushr h dJ13_bitCount_95d88_17 (c := (xa.toUInt64 >>> ((iI 2).toInt64.toUInt64 &&& Int64.toUInt64 63)).toInt64) rfl ?_
  refine m_ldc2 h kt_J13_316 dJ13_bitCount_95d88_18 ?_
  refine m_land h dJ13_bitCount_95d88_21 (c := ((xa.toUInt64 >>> ((iI 2).toInt64.toUInt64 &&& Int64.toUInt64 63)).toInt64) &&& 3689348814741910323) rfl ?_
  refine m_ladd h dJ13_bitCount_95d88_22 (c := (xa &&& 3689348814741910323) + (((xa.toUInt64 >>> ((iI 2).toInt64.toUInt64 &&& Int64.toUInt64 63)).toInt64) &&& 3689348814741910323)) rfl ?_
  generalize hB : (xa &&& 3689348814741910323) + (((xa.toUInt64 >>> ((iI 2).toInt64.toUInt64 &&& Int64.toUInt64 63)).toInt64) &&& 3689348814741910323) = xb
  refine m_lstore_n h dJ13_bitCount_95d88_23 rfl (by decide) rfl ?_
  refine m_lload_n h dJ13_bitCount_95d88_24 rfl rfl ?_
  refine m_lload_n h dJ13_bitCount_95d88_25 rfl rfl ?_
  refine m_iconst h dJ13_bitCount_95d88_26 ?_
  refine m_lushr h dJ13_bitCount_95d88_27 (c := (xb.toUInt64 >>> ((iI 4).toInt64.toUInt64 &&& Int64.toUInt64 63)).toInt64) rfl ?_
  refine m_ladd h dJ13_bitCount_95d88_28 (c := xb + ((xb.toUInt64 >>> ((iI 4).toInt64.toUInt64 &&& Int64.toUInt64 63)).toInt64)) rfl ?_
  refine m_ldc2 h kt_J13_318 dJ13_bitCount_95d88_29 ?_
  refine m_land h dJ13_bitCount_95d88_32 (c := (xb + ((xb.toUInt64 >>> ((iI 4).toInt64.toUInt64 &&& Int64.toUInt64 63)).toInt64)) &&& 1085102592571150095) rfl ?_
  generalize hC : (xb + ((xb.toUInt64 >>> ((iI 4).toInt64.toUInt64 &&& Int64.toUInt64 63)).toInt64)) &&& 1085102592571150095 = xc
  refine m_lstore_n h dJ13_bitCount_95d88_33 rfl (by decide) rfl ?_
  refine m_lload_n h dJ13_bitCount_95d88_34 rfl rfl ?_
  refine m_lload_n h dJ13_bitCount_95d88_35 rfl rfl ?_
  refine m_bipush h dJ13_bitCount_95d88_36 (by decide) ?_
  refine m_lushr h dJ13_bitCount_95d88_38 (c := (xc.toUInt64 >>> ((iI 8).toInt64.toUInt64 &&& Int64.toUInt64 63)).toInt64) rfl ?_
  refine m_ladd h dJ13_bitCount_95d88_39 (c := xc + ((xc.toUInt64 >>> ((iI 8).toInt64.toUInt64 &&& Int64.toUInt64 63)).toInt64)) rfl ?_
  generalize hD : xc + ((xc.toUInt64 >>> ((iI 8).toInt64.toUInt64 &&& Int64.toUInt64 63)).toInt64) = xd
  refine m_lstore_n h dJ13_bitCount_95d88_40 rfl (by decide) rfl ?_
  refine m_lload_n h dJ13_bitCount_95d88_41 rfl rfl ?_
  refine m_lload_n h dJ13_bitCount_95d88_42 rfl rfl ?_
  refine m_bipush h dJ13_bitCount_95d88_43 (by decide) ?_
  refine m_lushr h dJ13_bitCount_95d88_45 (c := (xd.toUInt64 >>> ((iI 16).toInt64.toUInt64 &&& Int64.toUInt64 63)).toInt64) rfl ?_
  refine m_ladd h dJ13_bitCount_95d88_46 (c := xd + ((xd.toUInt64 >>> ((iI 16).toInt64.toUInt64 &&& Int64.toUInt64 63)).toInt64)) rfl ?_
  generalize hE : xd + ((xd.toUInt64 >>> ((iI 16).toInt64.toUInt64 &&& Int64.toUInt64 63)).toInt64) = xe
  refine m_lstore_n h dJ13_bitCount_95d88_47 rfl (by decide) rfl ?_
  refine m_lload_n h dJ13_bitCount_95d88_48 rfl rfl ?_
  refine m_lload_n h dJ13_bitCount_95d88_49 rfl rfl ?_
  refine m_bipush h dJ13_bitCount_95d88_50 (by decide) ?_
  refine m_lushr h dJ13_bitCount_95d88_52 (c := (xe.toUInt64 >>> ((iI 32).toInt64.toUInt64 &&& Int64.toUInt64 63)).toInt64) rfl ?_
  refine m_ladd h dJ13_bitCount_95d88_53 (c := xe + ((xe.toUInt64 >>> ((iI 32).toInt64.toUInt64 &&& Int64.toUInt64 63)).toInt64)) rfl ?_
  generalize hF : xe + ((xe.toUInt64 >>> ((iI 32).toInt64.toUInt64 &&& Int64.toUInt64 63)).toInt64) = xf
  refine m_lstore_n h dJ13_bitCount_95d88_54 rfl (by decide) rfl ?_
  refine m_lload_n h dJ13_bitCount_95d88_55 rfl rfl ?_
  refine m_l2i h dJ13_bitCount_95d88_56 (c := xf.toInt32) rfl ?_
  refine m_bipush h dJ13_bitCount_95d88_57 (by decide) ?_
  refine m_iandR h dJ13_bitCount_95d88_59 rfl ?_
  rw [bc_long w xa xb xc xd xe xf hA hB hC hD hE hF]
  refine m_iret h hR rfl dJ13_bitCount_95d88_60 ?_
  exact ⟨rfl, rfl⟩

set_option maxRecDepth 100000 in
set_option maxHeartbeats 4000000 in
theorem c_ibc (l : Launch) {G : GT} (hG : gok G) (v : Mem) (w : Int32) : CC l G nJ6_bitCount_0f7a4 0 [.int w] v (qI G (fun r u => u = v ∧ r = (pN 32 (uI w) : Int))) := by
  refine m_startF (lv := [some (.int w)]) hG (by decide +kernel) rfl (Nat.le_of_ble_eq_true rfl) ?_
  intro X hL h hR
  subst hL
  show M X G 1 v 0 [some (.int w)] []
  refine m_iload_n h dJ6_bitCount_0f7a4_0 rfl rfl ?_
  refine m_iload_n h dJ6_bitCount_0f7a4_1 rfl rfl ?_
  refine m_iconst h dJ6_bitCount_0f7a4_2 ?_
  refine m_iushrR h dJ6_bitCount_0f7a4_3 rfl ?_
  refine m_ldcw h kt_J6_265 dJ6_bitCount_0f7a4_4 ?_
  refine m_iandR h dJ6_bitCount_0f7a4_7 rfl ?_
  refine m_isubR h dJ6_bitCount_0f7a4_8 rfl ?_
  generalize hA : w - (((w.toUInt32 >>> ((iI 1).toUInt32 &&& Int32.toUInt32 31)).toInt32) &&& 1431655765) = xa
  refine m_istore_n h dJ6_bitCount_0f7a4_9 rfl (by decide) rfl ?_
  refine m_iload_n h dJ6_bitCount_0f7a4_10 rfl rfl ?_
  refine m_ldcw h kt_J6_266 dJ6_bitCount_0f7a4_11 ?_
  refine m_iandR h dJ6_bitCount_0f7a4_14 rfl ?_
  refine m_iload_n h dJ6_bitCount_0f7a4_15 rfl rfl ?_
  refine m_iconst h dJ6_bitCount_0f7a4_16 ?_
  refine m_iushrR h dJ6_bitCount_0f7a4_17 rfl ?_
  refine m_ldcw h kt_J6_266 dJ6_bitCount_0f7a4_18 ?_
  refine m_iandR h dJ6_bitCount_0f7a4_21 rfl ?_
  refine m_iaddR h dJ6_bitCount_0f7a4_22 rfl ?_
  generalize hB : (xa &&& 858993459) + (((xa.toUInt32 >>> ((iI 2).toUInt32 &&& Int32.toUInt32 31)).toInt32) &&& 858993459) = xb
  refine m_istore_n h dJ6_bitCount_0f7a4_23 rfl (by decide) rfl ?_
  refine m_iload_n h dJ6_bitCount_0f7a4_24 rfl rfl ?_
  refine m_iload_n h dJ6_bitCount_0f7a4_25 rfl rfl ?_
  refine m_iconst h dJ6_bitCount_0f7a4_26 ?_
  refine m_iushrR h dJ6_bitCount_0f7a4_27 rfl ?_
  refine m_iaddR h dJ6_bitCount_0f7a4_28 rfl ?_
  refine m_ldcw h kt_J6_267 dJ6_bitCount_0f7a4_29 ?_
  refine m_iandR h dJ6_bitCount_0f7a4_32 rfl ?_
  generalize hC : (xb + ((xb.toUInt32 >>> ((iI 4).toUInt32 &&& Int32.toUInt32 31)).toInt32)) &&& 252645135 = xc
  refine m_istore_n h dJ6_bitCount_0f7a4_33 rfl (by decide) rfl ?_
  refine m_iload_n h dJ6_bitCount_0f7a4_34 rfl rfl ?_
  refine m_iload_n h dJ6_bitCount_0f7a4_35 rfl rfl ?_
  refine m_bipush h dJ6_bitCount_0f7a4_36 (by decide) ?_
  refine m_iushrR h dJ6_bitCount_0f7a4_38 rfl ?_
  refine m_iaddR h dJ6_bitCount_0f7a4_39 rfl ?_
  generalize hD : xc + ((xc.toUInt32 >>> ((iI 8).toUInt32 &&& Int32.toUInt32 31)).toInt32) = xd
  refine m_istore_n h dJ6_bitCount_0f7a4_40 rfl (by decide) rfl ?_
  refine m_iload_n h dJ6_bitCount_0f7a4_41 rfl rfl ?_
  refine m_iload_n h dJ6_bitCount_0f7a4_42 rfl rfl ?_
  refine m_bipush h dJ6_bitCount_0f7a4_43 (by decide) ?_
  refine m_iushrR h dJ6_bitCount_0f7a4_45 rfl ?_
  refine m_iaddR h dJ6_bitCount_0f7a4_46 rfl ?_
  generalize hE : xd + ((xd.toUInt32 >>> ((iI 16).toUInt32 &&& Int32.toUInt32 31)).toInt32) = xe
  refine m_istore_n h dJ6_bitCount_0f7a4_47 rfl (by decide) rfl ?_
  refine m_iload_n h dJ6_bitCount_0f7a4_48 rfl rfl ?_
  refine m_bipush h dJ6_bitCount_0f7a4_49 (by decide) ?_
  refine m_iandR h dJ6_bitCount_0f7a4_51 rfl ?_
  rw [bc_int w xa xb xc xd xe hA hB hC hD hE]
  refine m_iret h hR rfl dJ6_bitCount_0f7a4_52 ?_
  exact ⟨rfl, rfl⟩
