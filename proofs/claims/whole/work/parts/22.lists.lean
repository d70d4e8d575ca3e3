/-! Sets, StepList, and what LinearReach asks of itself -/
def pq (v : Mem) : Nat → Nat
  | 0 => 1
  | k + 1 => pq v k * pN 64 (uW (v.2 3 (k : Int)))
def wo (v : Mem) (w : Int64) (n : Int) : Nat → Int64
  | 0 => w
  | k + 1 => if v.1 14 (k : Int) = n then clr (wo v w n k) (v.1 15 (k : Int) + 32) else wo v w n k
def pb (z : Int) (k : Int) : Bool := z.toNat.testBit k.toNat
def ind (P : Int → Bool) : Int → Int := fun k => if P k = true then 1 else 0
def Kth (P : Int → Bool) (k r : Int) : Prop := ∃ t : Nat, t < 16 ∧ r = t ∧ P t = true ∧ sm (ind P) t = k
def adS (v : Mem) (ro n z rd pt : Int) : Mem := wI (wI (wI (wI (wI (wI v 13 (v.1 12 0) ro) 14 (v.1 12 0) n) 15 (v.1 12 0) z) 16 (v.1 12 0) rd) 17 (v.1 12 0) pt) 12 0 (v.1 12 0 + 1)
theorem i2l_n (n : Nat) (h : n < 2 ^ 31) : (iI (n : Int)).toInt64 = lN n := by rw [iI_nI]; exact nI_l h
theorem shr_b {z : Int} {k : Nat} (hz : 0 ≤ z ∧ z < 65536) (hk : k < 16) : iI z >>> (iI (k : Int) &&& 31) = iI (z / 2 ^ k) := by
  obtain ⟨n, rfl⟩ : ∃ n : Nat, z = n := ⟨z.toNat, by omega⟩
  rw [iI_nI, iI_nI, pk_shrN (k := k) (by omega) (nI k &&& 31) (by have : k < 32 := by omega
                                                                  revert this; revert k; decide +kernel), ← iI_nI]
  congr 1
theorem and_1 {z : Int} (hz : 0 ≤ z ∧ z < 65536) : iI z &&& iI 1 = iI (z % 2) := by
  obtain ⟨n, rfl⟩ : ∃ n : Nat, z = n := ⟨z.toNat, by omega⟩
  rw [iI_nI, pk_andN (k := 1) (by omega) rfl, ← iI_nI]
  congr 1
theorem pb_div {z : Int} {k : Nat} (hz : 0 ≤ z) : z / 2 ^ k % 2 = 1 ↔ pb z k = true := by
  obtain ⟨n, rfl⟩ : ∃ n : Nat, z = n := ⟨z.toNat, by omega⟩
  unfold pb
  rw [Nat.testBit_eq_decide_div_mod_eq, Int.toNat_natCast, Int.toNat_natCast, decide_eq_true_iff]
  constructor
  · intro h; exact_mod_cast h
  · intro h; exact_mod_cast h

set_option maxRecDepth 100000 in
set_option maxHeartbeats 4000000 in
theorem c_sadd (l : Launch) {G : GT} (hG : gok G) (v : Mem) (lo hi : Int) (h1 : -32 ≤ lo ∧ lo ≤ 31) (h2 : -32 ≤ hi ∧ hi ≤ 31) (hc : 0 ≤ v.1 1 0 ∧ v.1 1 0 < 8) : CC l G nX3_add 4 [.ref (G.2.1 1), .int (iI lo), .int (iI hi)] v (qV G (fun u => u = wI (fitM (wL v 2 (v.1 1 0) (rgW lo hi)) 4 (v.1 1 0) (rgW lo hi)) 1 0 (v.1 1 0 + 1))) := by
  refine m_start (lv := [some (.ref (G.2.1 1)), some (.int (iI lo)), some (.int (iI hi)), none, none, none, none]) hG (by decide +kernel) rfl (Nat.le_of_ble_eq_true rfl) ?_
  intro X hL h hR
  subst hL
  show M X G 7 v 0 [some (.ref (G.2.1 1)), some (.int (iI lo)), some (.int (iI hi)), none, none, none, none] []
  refine m_ldc2 h kt_X3_32 dX3_add_0 ?_
  refine m_bipush h dX3_add_3 (by decide) ?_
  refine m_iload_n h dX3_add_5 rfl rfl ?_
  refine m_isub h dX3_add_6 ?_
  refine m_lushr h dX3_add_7 (c := ((-1 : Int64).toUInt64 >>> ((iI (31 - hi)).toInt64.toUInt64 &&& Int64.toUInt64 63)).toInt64) rfl ?_
  refine m_lstore_n h dX3_add_8 rfl (by decide) rfl ?_
  refine m_ldc2 h kt_X3_32 dX3_add_9 ?_
  refine m_iload_n h dX3_add_12 rfl rfl ?_
  refine m_bipush h dX3_add_13 (by decide) ?_
  refine m_isub h dX3_add_15 ?_
  refine m_lshl h dX3_add_16 (c := (-1 : Int64) <<< ((iI (lo - (-32))).toInt64 &&& 63)) rfl ?_
  refine m_lstore h dX3_add_17 (by decide) rfl ?_
  refine m_aload_n h dX3_add_19 rfl rfl ?_
  refine m_get h fo_X3_15 (by decide) rfl rfl dX3_add_20 ?_
  refine m_aload_n h dX3_add_23 rfl rfl ?_
  refine m_get h fo_X3_9 (by decide) rfl rfl dX3_add_24 ?_
  refine m_lload_n h dX3_add_27 rfl rfl ?_
  refine m_lload h dX3_add_28 rfl ?_
  refine m_land h dX3_add_30 (c := rgW lo hi) rfl ?_
  refine m_last h (ar_2 G) (by omega) (by omega) dX3_add_31 ?_
  refine m_aload_n h dX3_add_32 rfl rfl ?_
  refine m_get h fo_X3_25 (by decide) rfl rfl dX3_add_33 ?_
  refine m_aload_n h dX3_add_36 rfl rfl ?_
  refine m_get h fo_X3_9 (by decide) rfl rfl dX3_add_37 ?_
  show M X G 7 (wL v 2 (v.1 1 0) (rgW lo hi)) 40 [some (.ref (G.2.1 1)), some (.int (iI lo)), some (.int (iI hi)), some (.long (((-1 : Int64).toUInt64 >>> ((iI (31 - hi)).toInt64.toUInt64 &&& Int64.toUInt64 63)).toInt64)), none, some (.long ((-1 : Int64) <<< ((iI (lo - (-32))).toInt64 &&& 63))), none] [.int (iI (v.1 1 0)), .ref (G.2.1 4)]
  refine m_aload_n h dX3_add_40 rfl rfl ?_
  refine m_get h fo_X3_15 (by decide) rfl rfl dX3_add_41 ?_
  refine m_aload_n h dX3_add_44 rfl rfl ?_
  refine m_get h fo_X3_9 (by decide) rfl rfl dX3_add_45 ?_
  show M X G 7 (wL v 2 (v.1 1 0) (rgW lo hi)) 48 [some (.ref (G.2.1 1)), some (.int (iI lo)), some (.int (iI hi)), some (.long (((-1 : Int64).toUInt64 >>> ((iI (31 - hi)).toInt64.toUInt64 &&& Int64.toUInt64 63)).toInt64)), none, some (.long ((-1 : Int64) <<< ((iI (lo - (-32))).toInt64 &&& 63))), none] [.int (iI (v.1 1 0)), .ref (G.2.1 2), .int (iI (v.1 1 0)), .ref (G.2.1 4)]
  refine m_lald h (ar_2 G) (by omega) (by omega) dX3_add_48 ?_
  rw [wL_s]
  show M X G 7 (wL v 2 (v.1 1 0) (rgW lo hi)) 49 [some (.ref (G.2.1 1)), some (.int (iI lo)), some (.int (iI hi)), some (.long (((-1 : Int64).toUInt64 >>> ((iI (31 - hi)).toInt64.toUInt64 &&& Int64.toUInt64 63)).toInt64)), none, some (.long ((-1 : Int64) <<< ((iI (lo - (-32))).toInt64 &&& 63))), none] [.long (rgW lo hi), .int (iI (v.1 1 0)), .ref (G.2.1 4)]
  refine m_vV h (c_fit _ hG (Or.inl rfl) _ (v.1 1 0) (by omega) (rgW lo hi)) moX5_fit voX5_fit lk_X3_34 dX3_add_49 (by decide) (by decide) rfl rfl rfl (Nat.le_of_ble_eq_true rfl) (fun u2 p3 => ?_)
  subst p3
  have ef : (fitM (wL v 2 (v.1 1 0) (rgW lo hi)) 4 (v.1 1 0) (rgW lo hi)).1 1 0 = v.1 1 0 := by
    unfold fitM
    split
    · rfl
    · rfl
  refine m_aload_n h dX3_add_52 rfl rfl ?_
  refine m_dup h dX3_add_53 rfl ?_
  refine m_get h fo_X3_9 (by decide) rfl rfl dX3_add_54 ?_
  show M X G 7 (fitM (wL v 2 (v.1 1 0) (rgW lo hi)) 4 (v.1 1 0) (rgW lo hi)) 57 [some (.ref (G.2.1 1)), some (.int (iI lo)), some (.int (iI hi)), some (.long (((-1 : Int64).toUInt64 >>> ((iI (31 - hi)).toInt64.toUInt64 &&& Int64.toUInt64 63)).toInt64)), none, some (.long ((-1 : Int64) <<< ((iI (lo - (-32))).toInt64 &&& 63))), none] [.int (iI ((fitM (wL v 2 (v.1 1 0) (rgW lo hi)) 4 (v.1 1 0) (rgW lo hi)).1 1 0)), .ref (G.2.1 1)]
  rw [ef]
  refine m_iconst h dX3_add_57 ?_
  refine m_iadd h dX3_add_58 ?_
  refine m_putJ h fw_X3_9 (by decide) rfl (Nat.le_of_ble_eq_true rfl) (kz := 0) rfl rfl dX3_add_59 ?_
  refine m_vret h hR rfl dX3_add_62 ?_
  rfl

set_option maxRecDepth 100000 in
set_option maxHeartbeats 4000000 in
theorem c_leaveOut (l : Launch) {G : GT} (hG : gok G) (v : Mem) (n z : Int) (hn : 0 ≤ n ∧ n < 8) (hz : -32 ≤ z ∧ z ≤ 31) : CC l G nX3_leaveOut 4 [.ref (G.2.1 1), .int (iI n), .int (iI z)] v (qV G (fun u => u = fitM (wL v 2 n (clr (v.2 2 n) (z + 32))) 4 n (clr (v.2 2 n) (z + 32)))) := by
  refine m_start (lv := [some (.ref (G.2.1 1)), some (.int (iI n)), some (.int (iI z))]) hG (by decide +kernel) rfl (Nat.le_of_ble_eq_true rfl) ?_
  intro X hL h hR
  subst hL
  show M X G 3 v 0 [some (.ref (G.2.1 1)), some (.int (iI n)), some (.int (iI z))] []
  refine m_aload_n h dX3_leaveOut_0 rfl rfl ?_
  refine m_get h fo_X3_15 (by decide) rfl rfl dX3_leaveOut_1 ?_
  refine m_iload_n h dX3_leaveOut_4 rfl rfl ?_
  refine m_dup2 h dX3_leaveOut_5 rfl rfl ?_
  refine m_lald h (ar_2 G) (by omega) (by omega) dX3_leaveOut_6 ?_
  refine m_iload_n h dX3_leaveOut_7 rfl rfl ?_
  refine m_nL h (c_bitOf _ hG _ z (by omega)) moX7_bitOf stX7_bitOf lk_X3_38 dX3_leaveOut_8 (by decide) rfl rfl (Nat.le_of_ble_eq_true rfl) (fun r1 u2 p3 => ?_)
  obtain ⟨hu9, er⟩ := p3
  rw [hu9, er]
  refine m_ldc2 h kt_X3_32 dX3_leaveOut_11 ?_
  refine m_lxor h dX3_leaveOut_14 (c := (bt (z + 32)) ^^^ (-1 : Int64)) rfl ?_
  refine m_land h dX3_leaveOut_15 (c := clr (v.2 2 n) (z + 32)) rfl ?_
  refine m_last h (ar_2 G) (by omega) (by omega) dX3_leaveOut_16 ?_
  refine m_aload_n h dX3_leaveOut_17 rfl rfl ?_
  refine m_get h fo_X3_25 (by decide) rfl rfl dX3_leaveOut_18 ?_
  refine m_iload_n h dX3_leaveOut_21 rfl rfl ?_
  refine m_aload_n h dX3_leaveOut_22 rfl rfl ?_
  refine m_get h fo_X3_15 (by decide) rfl rfl dX3_leaveOut_23 ?_
  refine m_iload_n h dX3_leaveOut_26 rfl rfl ?_
  refine m_lald h (ar_2 G) (by omega) (by omega) dX3_leaveOut_27 ?_
  rw [wL_s]
  show M X G 3 (wL v 2 n (clr (v.2 2 n) (z + 32))) 28 [some (.ref (G.2.1 1)), some (.int (iI n)), some (.int (iI z))] [.long (clr (v.2 2 n) (z + 32)), .int (iI n), .ref (G.2.1 4)]
  refine m_vV h (c_fit _ hG (Or.inl rfl) _ n (by omega) (clr (v.2 2 n) (z + 32))) moX5_fit voX5_fit lk_X3_34 dX3_leaveOut_28 (by decide) (by decide) rfl rfl rfl (Nat.le_of_ble_eq_true rfl) (fun u5 p6 => ?_)
  subst p6
  refine m_vret h hR rfl dX3_leaveOut_31 ?_
  rfl

set_option maxRecDepth 100000 in
set_option maxHeartbeats 4000000 in
theorem c_takeOut (l : Launch) {G : GT} (hG : gok G) (v : Mem) (n z : Int) (hn : 0 ≤ n ∧ n < 8) (hz : -32 ≤ z ∧ z ≤ 31) : CC l G nX3_takeOut 4 [.ref (G.2.1 1), .int (iI n), .int (iI z)] v (qV G (fun u => u = fitM (wL v 3 n (clr (v.2 3 n) (z + 32))) 7 n (clr (v.2 3 n) (z + 32)))) := by
  refine m_start (lv := [some (.ref (G.2.1 1)), some (.int (iI n)), some (.int (iI z))]) hG (by decide +kernel) rfl (Nat.le_of_ble_eq_true rfl) ?_
  intro X hL h hR
  subst hL
  show M X G 3 v 0 [some (.ref (G.2.1 1)), some (.int (iI n)), some (.int (iI z))] []
  refine m_aload_n h dX3_takeOut_0 rfl rfl ?_
  refine m_get h fo_X3_19 (by decide) rfl rfl dX3_takeOut_1 ?_
  refine m_iload_n h dX3_takeOut_4 rfl rfl ?_
  refine m_dup2 h dX3_takeOut_5 rfl rfl ?_
  refine m_lald h (ar_3 G) (by omega) (by omega) dX3_takeOut_6 ?_
  refine m_iload_n h dX3_takeOut_7 rfl rfl ?_
  refine m_nL h (c_bitOf _ hG _ z (by omega)) moX7_bitOf stX7_bitOf lk_X3_38 dX3_takeOut_8 (by decide) rfl rfl (Nat.le_of_ble_eq_true rfl) (fun r1 u2 p3 => ?_)
  obtain ⟨hu9, er⟩ := p3
  rw [hu9, er]
  refine m_ldc2 h kt_X3_32 dX3_takeOut_11 ?_
  refine m_lxor h dX3_takeOut_14 (c := (bt (z + 32)) ^^^ (-1 : Int64)) rfl ?_
  refine m_land h dX3_takeOut_15 (c := clr (v.2 3 n) (z + 32)) rfl ?_
  refine m_last h (ar_3 G) (by omega) (by omega) dX3_takeOut_16 ?_
  refine m_aload_n h dX3_takeOut_17 rfl rfl ?_
  refine m_get h fo_X3_29 (by decide) rfl rfl dX3_takeOut_18 ?_
  refine m_iload_n h dX3_takeOut_21 rfl rfl ?_
  refine m_aload_n h dX3_takeOut_22 rfl rfl ?_
  refine m_get h fo_X3_19 (by decide) rfl rfl dX3_takeOut_23 ?_
  refine m_iload_n h dX3_takeOut_26 rfl rfl ?_
  refine m_lald h (ar_3 G) (by omega) (by omega) dX3_takeOut_27 ?_
  rw [wL_s]
  show M X G 3 (wL v 3 n (clr (v.2 3 n) (z + 32))) 28 [some (.ref (G.2.1 1)), some (.int (iI n)), some (.int (iI z))] [.long (clr (v.2 3 n) (z + 32)), .int (iI n), .ref (G.2.1 7)]
  refine m_vV h (c_fit _ hG (Or.inr (Or.inl rfl)) _ n (by omega) (clr (v.2 3 n) (z + 32))) moX5_fit voX5_fit lk_X3_34 dX3_takeOut_28 (by decide) (by decide) rfl rfl rfl (Nat.le_of_ble_eq_true rfl) (fun u5 p6 => ?_)
  subst p6
  refine m_vret h hR rfl dX3_takeOut_31 ?_
  rfl

set_option maxRecDepth 100000 in
set_option maxHeartbeats 4000000 in
theorem c_restore (l : Launch) {G : GT} (hG : gok G) (v : Mem) : CC l G nX3_restore 2 [.ref (G.2.1 1)] v (qV G (fun u => u = cpI (cpI (cpL v 2 3 8) 5 8 8) 6 9 8)) := by
  refine m_start (lv := [some (.ref (G.2.1 1))]) hG (by decide +kernel) rfl (Nat.le_of_ble_eq_true rfl) ?_
  intro X hL h hR
  subst hL
  show M X G 1 v 0 [some (.ref (G.2.1 1))] []
  refine m_aload_n h dX3_restore_0 rfl rfl ?_
  refine m_get h fo_X3_15 (by decide) rfl rfl dX3_restore_1 ?_
  refine m_iconst h dX3_restore_4 ?_
  refine m_aload_n h dX3_restore_5 rfl rfl ?_
  refine m_get h fo_X3_19 (by decide) rfl rfl dX3_restore_6 ?_
  refine m_iconst h dX3_restore_9 ?_
  refine m_bipush h dX3_restore_10 (by decide) ?_
  refine m_copyL h lk_X3_42 dX3_restore_12 (by decide) (Nat.le_of_ble_eq_true rfl) (ar_2 G) (ar_3 G) rfl ?_
  refine m_aload_n h dX3_restore_15 rfl rfl ?_
  refine m_get h fo_X3_29 (by decide) rfl rfl dX3_restore_16 ?_
  refine m_aload_n h dX3_restore_19 rfl rfl ?_
  refine m_get h fo_X3_25 (by decide) rfl rfl dX3_restore_20 ?_
  refine m_vV h (c_copy _ hG (Or.inr (Or.inl rfl)) (Or.inl rfl) _) moX5_copy voX5_copy lk_X3_48 dX3_restore_23 (by decide) (by decide) rfl rfl rfl (Nat.le_of_ble_eq_true rfl) (fun u2 p3 => ?_)
  subst p3
  refine m_vret h hR rfl dX3_restore_26 ?_
  rfl

set_option maxRecDepth 100000 in
set_option maxHeartbeats 4000000 in
theorem c_choices (l : Launch) {G : GT} (hG : gok G) (v : Mem) (c : Nat) (hc : v.1 1 0 = c) (hc8 : c ≤ 8) : CC l G nX3_choices 1 [.ref (G.2.1 1)] v (qL G (fun r u => u = v ∧ r = lN (pq v c))) := by
  refine m_start (lv := [some (.ref (G.2.1 1)), none, none, none]) hG (by decide +kernel) rfl (Nat.le_of_ble_eq_true rfl) ?_
  intro X hL h hR
  subst hL
  show M X G 4 v 0 [some (.ref (G.2.1 1)), none, none, none] []
  refine m_lconst h dX3_choices_0 (z := 1) rfl ?_
  refine m_lstore_n h dX3_choices_1 rfl (by decide) rfl ?_
  refine m_iconst h dX3_choices_2 ?_
  refine m_istore_n h dX3_choices_3 rfl (by decide) rfl ?_
  have lp4 : ∀ (fuel : Nat) (k : Nat), k ≤ c → 8 - k < fuel → M X G 4 v 4 [some (.ref (G.2.1 1)), some (.long (lN (pq v k))), none, some (.int (iI (k : Int)))] [] := by
    intro fuel
    induction fuel with
    | zero => intro k hy0 hy1; exfalso; omega
    | succ fuel ih =>
      intro k hy0 hy1
      refine m_iload_n h dX3_choices_4 rfl rfl ?_
      refine m_aload_n h dX3_choices_5 rfl rfl ?_
      refine m_get h fo_X3_9 (by decide) rfl rfl dX3_choices_6 ?_
      refine m_icmp_ge h dX3_choices_9 (tgt := 31) (by decide) (by omega) (by omega) (fun c1 => ?_) (fun c1 => ?_)
      · skip
        refine m_lload_n h dX3_choices_31 rfl rfl ?_
        refine m_lret h hR rfl dX3_choices_32 ?_
        exact ⟨rfl, by rw [show k = c by omega]⟩
      · skip
        refine m_lload_n h dX3_choices_12 rfl rfl ?_
        refine m_aload_n h dX3_choices_13 rfl rfl ?_
        refine m_get h fo_X3_19 (by decide) rfl rfl dX3_choices_14 ?_
        refine m_iload_n h dX3_choices_17 rfl rfl ?_
        refine m_lald h (ar_3 G) (by omega) (by omega) dX3_choices_18 ?_
        refine m_sI h (c_lbc _ hG _ _) moJ13_bitCount_95d88 stJ13_bitCount_95d88 lk_X3_52 dX3_choices_19 (by decide) rfl rfl (Nat.le_of_ble_eq_true rfl) (fun r2 u3 p4 => ?_)
        obtain ⟨hu9, er⟩ := p4
        rw [hu9, er]
        refine m_i2l h dX3_choices_22 (c := lN (pN 64 (uW (v.2 3 (k : Int))))) (i2l_n _ (by have := pN_le 64 (uW (v.2 3 (k : Int))); omega)) ?_
        refine m_lmul h dX3_choices_23 (c := lN (pq v (k + 1))) (lN_mul _ _) ?_
        refine m_lstore_n h dX3_choices_24 rfl (by decide) rfl ?_
        refine m_iinc h dX3_choices_25 rfl (by decide) rfl ?_
        refine m_goto h dX3_choices_28 (tgt := 4) (by decide) ?_
        exact ih (k + 1) (by omega) (by omega)
  exact lp4 9 0 (by omega) (by omega)

set_option maxRecDepth 100000 in
set_option maxHeartbeats 4000000 in
theorem c_stepAdd (l : Launch) {G : GT} (hG : gok G) (v : Mem) (ro n z rd pt : Int) (hc : 0 ≤ v.1 12 0 ∧ v.1 12 0 < 512) : CC l G nX6_add 0 [.ref (G.2.1 12), .int (iI ro), .int (iI n), .int (iI z), .int (iI rd), .int (iI pt)] v (qV G (fun u => u = adS v ro n z rd pt)) := by
  refine m_start (lv := [some (.ref (G.2.1 12)), some (.int (iI ro)), some (.int (iI n)), some (.int (iI z)), some (.int (iI rd)), some (.int (iI pt))]) hG (by decide +kernel) rfl (Nat.le_of_ble_eq_true rfl) ?_
  intro X hL h hR
  subst hL
  show M X G 6 v 0 [some (.ref (G.2.1 12)), some (.int (iI ro)), some (.int (iI n)), some (.int (iI z)), some (.int (iI rd)), some (.int (iI pt))] []
  refine m_aload_n h dX6_add_0 rfl rfl ?_
  refine m_get h fo_X6_9 (by decide) rfl rfl dX6_add_1 ?_
  refine m_sipush h dX6_add_4 (by decide) ?_
  refine m_icmp_ge h dX6_add_7 (tgt := 72) (by decide) (by omega) (by omega) (fun c1 => ?_) (fun c1 => ?_)
  · skip
    omega
  · skip
    refine m_aload_n h dX6_add_10 rfl rfl ?_
    refine m_get h fo_X6_15 (by decide) rfl rfl dX6_add_11 ?_
    refine m_aload_n h dX6_add_14 rfl rfl ?_
    refine m_get h fo_X6_9 (by decide) rfl rfl dX6_add_15 ?_
    refine m_iload_n h dX6_add_18 rfl rfl ?_
    refine m_iast h (ar_13 G) (by omega) (by omega) dX6_add_19 ?_
    refine m_aload_n h dX6_add_20 rfl rfl ?_
    refine m_get h fo_X6_19 (by decide) rfl rfl dX6_add_21 ?_
    refine m_aload_n h dX6_add_24 rfl rfl ?_
    refine m_get h fo_X6_9 (by decide) rfl rfl dX6_add_25 ?_
    show M X G 6 (wI v 13 (v.1 12 0) ro) 28 [some (.ref (G.2.1 12)), some (.int (iI ro)), some (.int (iI n)), some (.int (iI z)), some (.int (iI rd)), some (.int (iI pt))] [.int (iI (v.1 12 0)), .ref (G.2.1 14)]
    refine m_iload_n h dX6_add_28 rfl rfl ?_
    refine m_iast h (ar_14 G) (by omega) (by omega) dX6_add_29 ?_
    refine m_aload_n h dX6_add_30 rfl rfl ?_
    refine m_get h fo_X6_22 (by decide) rfl rfl dX6_add_31 ?_
    refine m_aload_n h dX6_add_34 rfl rfl ?_
    refine m_get h fo_X6_9 (by decide) rfl rfl dX6_add_35 ?_
    show M X G 6 (wI (wI v 13 (v.1 12 0) ro) 14 (v.1 12 0) n) 38 [some (.ref (G.2.1 12)), some (.int (iI ro)), some (.int (iI n)), some (.int (iI z)), some (.int (iI rd)), some (.int (iI pt))] [.int (iI (v.1 12 0)), .ref (G.2.1 15)]
    refine m_iload_n h dX6_add_38 rfl rfl ?_
    refine m_iast h (ar_15 G) (by omega) (by omega) dX6_add_39 ?_
    refine m_aload_n h dX6_add_40 rfl rfl ?_
    refine m_get h fo_X6_25 (by decide) rfl rfl dX6_add_41 ?_
    refine m_aload_n h dX6_add_44 rfl rfl ?_
    refine m_get h fo_X6_9 (by decide) rfl rfl dX6_add_45 ?_
    show M X G 6 (wI (wI (wI v 13 (v.1 12 0) ro) 14 (v.1 12 0) n) 15 (v.1 12 0) z) 48 [some (.ref (G.2.1 12)), some (.int (iI ro)), some (.int (iI n)), some (.int (iI z)), some (.int (iI rd)), some (.int (iI pt))] [.int (iI (v.1 12 0)), .ref (G.2.1 16)]
    refine m_iload h dX6_add_48 rfl ?_
    refine m_iast h (ar_16 G) (by omega) (by omega) dX6_add_50 ?_
    refine m_aload_n h dX6_add_51 rfl rfl ?_
    refine m_get h fo_X6_28 (by decide) rfl rfl dX6_add_52 ?_
    refine m_aload_n h dX6_add_55 rfl rfl ?_
    refine m_get h fo_X6_9 (by decide) rfl rfl dX6_add_56 ?_
    show M X G 6 (wI (wI (wI (wI v 13 (v.1 12 0) ro) 14 (v.1 12 0) n) 15 (v.1 12 0) z) 16 (v.1 12 0) rd) 59 [some (.ref (G.2.1 12)), some (.int (iI ro)), some (.int (iI n)), some (.int (iI z)), some (.int (iI rd)), some (.int (iI pt))] [.int (iI (v.1 12 0)), .ref (G.2.1 17)]
    refine m_iload h dX6_add_59 rfl ?_
    refine m_iast h (ar_17 G) (by omega) (by omega) dX6_add_61 ?_
    refine m_aload_n h dX6_add_62 rfl rfl ?_
    refine m_dup h dX6_add_63 rfl ?_
    refine m_get h fo_X6_9 (by decide) rfl rfl dX6_add_64 ?_
    show M X G 6 (wI (wI (wI (wI (wI v 13 (v.1 12 0) ro) 14 (v.1 12 0) n) 15 (v.1 12 0) z) 16 (v.1 12 0) rd) 17 (v.1 12 0) pt) 67 [some (.ref (G.2.1 12)), some (.int (iI ro)), some (.int (iI n)), some (.int (iI z)), some (.int (iI rd)), some (.int (iI pt))] [.int (iI (v.1 12 0)), .ref (G.2.1 12)]
    refine m_iconst h dX6_add_67 ?_
    refine m_iadd h dX6_add_68 ?_
    refine m_putJ h fw_X6_9 (by decide) rfl (Nat.le_of_ble_eq_true rfl) (kz := 0) rfl rfl dX6_add_69 ?_
    refine m_vret h hR rfl dX6_add_72 ?_
    rfl

set_option maxRecDepth 100000 in
set_option maxHeartbeats 4000000 in
theorem c_partAt (l : Launch) {G : GT} (hG : gok G) (v : Mem) (i k : Int) (hi : 0 ≤ i ∧ i < 512) (hk : -2147483648 ≤ k ∧ k ≤ 2147483647) (hp : 0 ≤ v.1 17 i ∧ v.1 17 i < 65536) : CC l G nX6_partAt 0 [.ref (G.2.1 12), .int (iI i), .int (iI k)] v (qI G (fun r u => u = v ∧ ((r = -1001 ∧ (k < 0 ∨ sm (ind (pb (v.1 17 i))) 16 ≤ k)) ∨ Kth (pb (v.1 17 i)) k r))) := by
  refine m_start (lv := [some (.ref (G.2.1 12)), some (.int (iI i)), some (.int (iI k)), none, none]) hG (by decide +kernel) rfl (Nat.le_of_ble_eq_true rfl) ?_
  intro X hL h hR
  subst hL
  show M X G 5 v 0 [some (.ref (G.2.1 12)), some (.int (iI i)), some (.int (iI k)), none, none] []
  refine m_iconst h dX6_partAt_0 ?_
  refine m_istore_n h dX6_partAt_1 rfl (by decide) rfl ?_
  refine m_iconst h dX6_partAt_2 ?_
  refine m_istore h dX6_partAt_3 (by decide) rfl ?_
  have lp5 : ∀ (fuel : Nat) (b : Nat), b ≤ 16 → 16 - b < fuel → (k < 0 ∨ sm (ind (pb (v.1 17 i))) b ≤ k) → M X G 5 v 5 [some (.ref (G.2.1 12)), some (.int (iI i)), some (.int (iI k)), some (.int (iI (sm (ind (pb (v.1 17 i))) b))), some (.int (iI (b : Int)))] [] := by
    intro fuel
    induction fuel with
    | zero => intro b hy0 hy1 hy2; exfalso; omega
    | succ fuel ih =>
      intro b hy0 hy1 hy2
      have hs0 := sm_b (g := ind (pb (v.1 17 i))) (B := 1) (fun x => by unfold ind; split <;> omega) b
      have hpd := pb_div (z := v.1 17 i) (k := b) (by omega)
      have hdv : 0 ≤ v.1 17 i / 2 ^ b ∧ v.1 17 i / 2 ^ b ≤ v.1 17 i := ⟨Int.ediv_nonneg (by omega) (Int.le_of_lt (Int.pow_pos (by decide))), Int.ediv_le_self _ (by omega)⟩
      have hsn : sm (ind (pb (v.1 17 i))) (b + 1) = sm (ind (pb (v.1 17 i))) b + ind (pb (v.1 17 i)) b := rfl
      refine m_iload h dX6_partAt_5 rfl ?_
      refine m_bipush h dX6_partAt_7 (by decide) ?_
      refine m_icmp_ge h dX6_partAt_9 (tgt := 44) (by decide) (by omega) (by omega) (fun c1 => ?_) (fun c1 => ?_)
      · skip
        refine m_sipush h dX6_partAt_44 (by decide) ?_
        refine m_iret h hR rfl dX6_partAt_47 ?_
        have hb16 : b = 16 := by omega
        subst hb16
        exact ⟨rfl, Or.inl ⟨rfl, hy2⟩⟩
      · skip
        refine m_aload_n h dX6_partAt_12 rfl rfl ?_
        refine m_get h fo_X6_28 (by decide) rfl rfl dX6_partAt_13 ?_
        refine m_iload_n h dX6_partAt_16 rfl rfl ?_
        refine m_iald h (ar_17 G) (by omega) (by omega) dX6_partAt_17 ?_
        refine m_iload h dX6_partAt_18 rfl ?_
        refine m_ishr h dX6_partAt_20 (c := v.1 17 i / 2 ^ b) (shr_b (by omega) (by omega)) ?_
        refine m_iconst h dX6_partAt_21 ?_
        refine m_iand h dX6_partAt_22 (c := v.1 17 i / 2 ^ b % 2) (and_1 (by omega)) ?_
        refine m_iconst h dX6_partAt_23 ?_
        refine m_icmp_ne h dX6_partAt_24 (tgt := 38) (by decide) (by omega) (by omega) (fun c2 => ?_) (fun c2 => ?_)
        · skip
          refine m_iinc h dX6_partAt_38 rfl (by decide) rfl ?_
          refine m_goto h dX6_partAt_41 (tgt := 5) (by decide) ?_
          have e : sm (ind (pb (v.1 17 i))) (b + 1) = sm (ind (pb (v.1 17 i))) b := by
            rw [hsn]
            unfold ind
            rw [if_neg (fun q => by have := hpd.mpr q; omega)]
            omega
          rw [← e]
          exact ih (b + 1) (by omega) (by omega) (by omega)
        · skip
          refine m_iload_n h dX6_partAt_27 rfl rfl ?_
          refine m_iload_n h dX6_partAt_28 rfl rfl ?_
          refine m_icmp_ne h dX6_partAt_29 (tgt := 35) (by decide) (by omega) (by omega) (fun c3 => ?_) (fun c3 => ?_)
          · skip
            refine m_iinc h dX6_partAt_35 rfl (by decide) rfl ?_
            refine m_iinc h dX6_partAt_38 rfl (by decide) rfl ?_
            refine m_goto h dX6_partAt_41 (tgt := 5) (by decide) ?_
            have e : sm (ind (pb (v.1 17 i))) (b + 1) = sm (ind (pb (v.1 17 i))) b + 1 := by
              rw [hsn]
              unfold ind
              rw [if_pos (hpd.mp (by omega))]
            rw [← e]
            exact ih (b + 1) (by omega) (by omega) (by omega)
          · skip
            refine m_iload h dX6_partAt_32 rfl ?_
            refine m_iret h hR rfl dX6_partAt_34 ?_
            exact ⟨rfl, Or.inr ⟨b, by omega, rfl, hpd.mp (by omega), by omega⟩⟩
  exact lp5 20 0 (by omega) (by omega) (by show k < 0 ∨ (0 : Int) ≤ k; omega)

set_option maxRecDepth 100000 in
set_option maxHeartbeats 4000000 in
theorem c_without (l : Launch) {G : GT} (hG : gok G) (v : Mem) (w : Int64) (n : Int) (c : Nat) (hc : c ≤ 512) (hn : 0 ≤ n ∧ n < 8) (hnm : ∀ x, 0 ≤ v.1 14 x ∧ v.1 14 x < 8) (hnu : ∀ x, -32 ≤ v.1 15 x ∧ v.1 15 x ≤ 31) : CC l G nX6_without 1 [.ref (G.2.1 12), .long w, .int (iI n), .int (iI (c : Int))] v (qL G (fun r u => u = v ∧ r = wo v w n c)) := by
  refine m_start (lv := [some (.ref (G.2.1 12)), some (.long w), none, some (.int (iI n)), some (.int (iI (c : Int))), none, none, none]) hG (by decide +kernel) rfl (Nat.le_of_ble_eq_true rfl) ?_
  intro X hL h hR
  subst hL
  show M X G 8 v 0 [some (.ref (G.2.1 12)), some (.long w), none, some (.int (iI n)), some (.int (iI (c : Int))), none, none, none] []
  refine m_lload_n h dX6_without_0 rfl rfl ?_
  refine m_lstore h dX6_without_1 (by decide) rfl ?_
  refine m_iconst h dX6_without_3 ?_
  refine m_istore h dX6_without_4 (by decide) rfl ?_
  have lp6 : ∀ (fuel : Nat) (k : Nat), k ≤ c → c - k < fuel → M X G 8 v 6 [some (.ref (G.2.1 12)), some (.long w), none, some (.int (iI n)), some (.int (iI (c : Int))), some (.long (wo v w n k)), none, some (.int (iI (k : Int)))] [] := by
    intro fuel
    induction fuel with
    | zero => intro k hy0 hy1; exfalso; omega
    | succ fuel ih =>
      intro k hy0 hy1
      have q1 := hnm k
      have q2 := hnu k
      refine m_iload h dX6_without_6 rfl ?_
      refine m_iload h dX6_without_8 rfl ?_
      refine m_icmp_ge h dX6_without_10 (tgt := 49) (by decide) (by omega) (by omega) (fun c1 => ?_) (fun c1 => ?_)
      · skip
        refine m_lload h dX6_without_49 rfl ?_
        refine m_lret h hR rfl dX6_without_51 ?_
        exact ⟨rfl, by rw [show k = c by omega]⟩
      · skip
        refine m_aload_n h dX6_without_13 rfl rfl ?_
        refine m_get h fo_X6_19 (by decide) rfl rfl dX6_without_14 ?_
        refine m_iload h dX6_without_17 rfl ?_
        refine m_iald h (ar_14 G) (by omega) (by omega) dX6_without_19 ?_
        refine m_iload_n h dX6_without_20 rfl rfl ?_
        refine m_icmp_ne h dX6_without_21 (tgt := 43) (by decide) (by omega) (by omega) (fun c2 => ?_) (fun c2 => ?_)
        · skip
          refine m_iinc h dX6_without_43 rfl (by decide) rfl ?_
          refine m_goto h dX6_without_46 (tgt := 6) (by decide) ?_
          have e : wo v w n (k + 1) = wo v w n k := by
            show (if v.1 14 (k : Int) = n then _ else _) = _
            rw [if_neg (by omega)]
          rw [← e]
          exact ih (k + 1) (by omega) (by omega)
        · skip
          refine m_lload h dX6_without_24 rfl ?_
          refine m_aload_n h dX6_without_26 rfl rfl ?_
          refine m_get h fo_X6_22 (by decide) rfl rfl dX6_without_27 ?_
          refine m_iload h dX6_without_30 rfl ?_
          refine m_iald h (ar_15 G) (by omega) (by omega) dX6_without_32 ?_
          refine m_nL h (c_bitOf _ hG _ (v.1 15 (k : Int)) (by omega)) moX7_bitOf stX7_bitOf lk_X6_31 dX6_without_33 (by decide) rfl rfl (Nat.le_of_ble_eq_true rfl) (fun r3 u4 p5 => ?_)
          obtain ⟨hu9, er⟩ := p5
          rw [hu9, er]
          refine m_ldc2 h kt_X6_35 dX6_without_36 ?_
          refine m_lxor h dX6_without_39 (c := (bt (v.1 15 (k : Int) + 32)) ^^^ (-1 : Int64)) rfl ?_
          refine m_land h dX6_without_40 (c := clr (wo v w n k) (v.1 15 (k : Int) + 32)) rfl ?_
          refine m_lstore h dX6_without_41 (by decide) rfl ?_
          refine m_iinc h dX6_without_43 rfl (by decide) rfl ?_
          refine m_goto h dX6_without_46 (tgt := 6) (by decide) ?_
          have e : wo v w n (k + 1) = clr (wo v w n k) (v.1 15 (k : Int) + 32) := by
            show (if v.1 14 (k : Int) = n then _ else _) = _
            rw [if_pos (by omega)]
          rw [← e]
          exact ih (k + 1) (by omega) (by omega)
  exact lp6 (c + 1) 0 (by omega) (by omega)

set_option maxRecDepth 100000 in
set_option maxHeartbeats 4000000 in
theorem c_forget (l : Launch) {G : GT} (hG : gok G) (v : Mem) : CC l G nX4_forget 0 [.ref (G.2.1 18)] v (qV G (fun u => u = wI (wI v 18 0 (-1000)) 18 1 0)) := by
  refine m_start (lv := [some (.ref (G.2.1 18))]) hG (by decide +kernel) rfl (Nat.le_of_ble_eq_true rfl) ?_
  intro X hL h hR
  subst hL
  show M X G 1 v 0 [some (.ref (G.2.1 18))] []
  refine m_aload_n h dX4_forget_0 rfl rfl ?_
  refine m_sipush h dX4_forget_1 (by decide) ?_
  refine m_putJ h fw_X4_9 (by decide) rfl (Nat.le_of_ble_eq_true rfl) (kz := 0) rfl rfl dX4_forget_4 ?_
  refine m_aload_n h dX4_forget_7 rfl rfl ?_
  refine m_iconst h dX4_forget_8 ?_
  refine m_putJ h fw_X4_15 (by decide) rfl (Nat.le_of_ble_eq_true rfl) (kz := 1) rfl rfl dX4_forget_9 ?_
  refine m_vret h hR rfl dX4_forget_12 ?_
  rfl

set_option maxRecDepth 100000 in
set_option maxHeartbeats 4000000 in
theorem c_isName (l : Launch) {G : GT} (hG : gok G) (v : Mem) (z : Int) (hz : -2147483648 ≤ z ∧ z ≤ 2147483647) (hc : 0 ≤ v.1 1 0 ∧ v.1 1 0 ≤ 512) : CC l G nX7_isName 0 [.ref (G.2.1 0), .int (iI z)] v (qI G (fun r u => u = v ∧ bz r (0 ≤ z ∧ z < v.1 1 0))) := by
  refine m_start (lv := [some (.ref (G.2.1 0)), some (.int (iI z))]) hG (by decide +kernel) rfl (Nat.le_of_ble_eq_true rfl) ?_
  intro X hL h hR
  subst hL
  show M X G 2 v 0 [some (.ref (G.2.1 0)), some (.int (iI z))] []
  refine m_iload_n h dX7_isName_0 rfl rfl ?_
  refine m_if_lt h dX7_isName_1 (tgt := 19) (by decide) (by omega) (fun c1 => ?_) (fun c1 => ?_)
  · skip
    refine m_iconst h dX7_isName_19 ?_
    refine m_zret h hR rfl dX7_isName_20 (by omega) ?_
    exact ⟨rfl, bz0 (by omega)⟩
  · skip
    refine m_iload_n h dX7_isName_4 rfl rfl ?_
    refine m_aload_n h dX7_isName_5 rfl rfl ?_
    refine m_get h fo_X7_10 (by decide) rfl rfl dX7_isName_6 ?_
    refine m_get h fo_X7_52 (by decide) rfl rfl dX7_isName_9 ?_
    refine m_icmp_ge h dX7_isName_12 (tgt := 19) (by decide) (by omega) (by omega) (fun c2 => ?_) (fun c2 => ?_)
    · skip
      refine m_iconst h dX7_isName_19 ?_
      refine m_zret h hR rfl dX7_isName_20 (by omega) ?_
      exact ⟨rfl, bz0 (by omega)⟩
    · skip
      refine m_iconst h dX7_isName_15 ?_
      refine m_goto h dX7_isName_16 (tgt := 20) (by decide) ?_
      refine m_zret h hR rfl dX7_isName_20 (by omega) ?_
      exact ⟨rfl, bz1 (by omega)⟩

set_option maxRecDepth 100000 in
set_option maxHeartbeats 4000000 in
theorem c_isRow (l : Launch) {G : GT} (hG : gok G) (v : Mem) (z : Int) (hz : -2147483648 ≤ z ∧ z ≤ 2147483647) (hc : 0 ≤ v.1 10 0 ∧ v.1 10 0 ≤ 512) : CC l G nX7_isRow 0 [.ref (G.2.1 0), .int (iI z)] v (qI G (fun r u => u = v ∧ bz r (0 ≤ z ∧ z < v.1 10 0))) := by
  refine m_start (lv := [some (.ref (G.2.1 0)), some (.int (iI z))]) hG (by decide +kernel) rfl (Nat.le_of_ble_eq_true rfl) ?_
  intro X hL h hR
  subst hL
  show M X G 2 v 0 [some (.ref (G.2.1 0)), some (.int (iI z))] []
  refine m_iload_n h dX7_isRow_0 rfl rfl ?_
  refine m_if_lt h dX7_isRow_1 (tgt := 19) (by decide) (by omega) (fun c1 => ?_) (fun c1 => ?_)
  · skip
    refine m_iconst h dX7_isRow_19 ?_
    refine m_zret h hR rfl dX7_isRow_20 (by omega) ?_
    exact ⟨rfl, bz0 (by omega)⟩
  · skip
    refine m_iload_n h dX7_isRow_4 rfl rfl ?_
    refine m_aload_n h dX7_isRow_5 rfl rfl ?_
    refine m_get h fo_X7_19 (by decide) rfl rfl dX7_isRow_6 ?_
    refine m_get h fo_X7_89 (by decide) rfl rfl dX7_isRow_9 ?_
    refine m_icmp_ge h dX7_isRow_12 (tgt := 19) (by decide) (by omega) (by omega) (fun c2 => ?_) (fun c2 => ?_)
    · skip
      refine m_iconst h dX7_isRow_19 ?_
      refine m_zret h hR rfl dX7_isRow_20 (by omega) ?_
      exact ⟨rfl, bz0 (by omega)⟩
    · skip
      refine m_iconst h dX7_isRow_15 ?_
      refine m_goto h dX7_isRow_16 (tgt := 20) (by decide) ?_
      refine m_zret h hR rfl dX7_isRow_20 (by omega) ?_
      exact ⟨rfl, bz1 (by omega)⟩

set_option maxRecDepth 100000 in
set_option maxHeartbeats 4000000 in
theorem c_isStep (l : Launch) {G : GT} (hG : gok G) (v : Mem) (z : Int) (hz : -2147483648 ≤ z ∧ z ≤ 2147483647) (hc : 0 ≤ v.1 12 0 ∧ v.1 12 0 ≤ 512) : CC l G nX7_isStep 0 [.ref (G.2.1 0), .int (iI z)] v (qI G (fun r u => u = v ∧ bz r (0 ≤ z ∧ z < v.1 12 0))) := by
  refine m_start (lv := [some (.ref (G.2.1 0)), some (.int (iI z))]) hG (by decide +kernel) rfl (Nat.le_of_ble_eq_true rfl) ?_
  intro X hL h hR
  subst hL
  show M X G 2 v 0 [some (.ref (G.2.1 0)), some (.int (iI z))] []
  refine m_iload_n h dX7_isStep_0 rfl rfl ?_
  refine m_if_lt h dX7_isStep_1 (tgt := 19) (by decide) (by omega) (fun c1 => ?_) (fun c1 => ?_)
  · skip
    refine m_iconst h dX7_isStep_19 ?_
    refine m_zret h hR rfl dX7_isStep_20 (by omega) ?_
    exact ⟨rfl, bz0 (by omega)⟩
  · skip
    refine m_iload_n h dX7_isStep_4 rfl rfl ?_
    refine m_aload_n h dX7_isStep_5 rfl rfl ?_
    refine m_get h fo_X7_26 (by decide) rfl rfl dX7_isStep_6 ?_
    refine m_get h fo_X7_119 (by decide) rfl rfl dX7_isStep_9 ?_
    refine m_icmp_ge h dX7_isStep_12 (tgt := 19) (by decide) (by omega) (by omega) (fun c2 => ?_) (fun c2 => ?_)
    · skip
      refine m_iconst h dX7_isStep_19 ?_
      refine m_zret h hR rfl dX7_isStep_20 (by omega) ?_
      exact ⟨rfl, bz0 (by omega)⟩
    · skip
      refine m_iconst h dX7_isStep_15 ?_
      refine m_goto h dX7_isStep_16 (tgt := 20) (by decide) ?_
      refine m_zret h hR rfl dX7_isStep_20 (by omega) ?_
      exact ⟨rfl, bz1 (by omega)⟩

set_option maxRecDepth 100000 in
set_option maxHeartbeats 4000000 in
theorem c_beginAnew (l : Launch) {G : GT} (hG : gok G) (v : Mem) : CC l G nX7_beginAnew 3 [.ref (G.2.1 0)] v (qV G (fun u => u = wI (wI (wI (cpI (cpI (cpL v 2 3 8) 5 8 8) 6 9 8) 12 0 0) 18 0 (-1000)) 18 1 0)) := by
  refine m_start (lv := [some (.ref (G.2.1 0))]) hG (by decide +kernel) rfl (Nat.le_of_ble_eq_true rfl) ?_
  intro X hL h hR
  subst hL
  show M X G 1 v 0 [some (.ref (G.2.1 0))] []
  refine m_aload_n h dX7_beginAnew_0 rfl rfl ?_
  refine m_get h fo_X7_10 (by decide) rfl rfl dX7_beginAnew_1 ?_
  refine m_vV h (c_restore _ hG _) moX3_restore voX3_restore lk_X7_183 dX7_beginAnew_4 (by decide) (by decide) rfl rfl rfl (Nat.le_of_ble_eq_true rfl) (fun u2 p3 => ?_)
  subst p3
  refine m_aload_n h dX7_beginAnew_7 rfl rfl ?_
  refine m_get h fo_X7_26 (by decide) rfl rfl dX7_beginAnew_8 ?_
  refine m_iconst h dX7_beginAnew_11 ?_
  refine m_putJ h fw_X7_119 (by decide) rfl (Nat.le_of_ble_eq_true rfl) (kz := 0) rfl rfl dX7_beginAnew_12 ?_
  refine m_aload_n h dX7_beginAnew_15 rfl rfl ?_
  refine m_get h fo_X7_35 (by decide) rfl rfl dX7_beginAnew_16 ?_
  refine m_vV h (c_forget _ hG _) moX4_forget voX4_forget lk_X7_186 dX7_beginAnew_19 (by decide) (by decide) rfl rfl rfl (Nat.le_of_ble_eq_true rfl) (fun u5 p6 => ?_)
  subst p6
  refine m_vret h hR rfl dX7_beginAnew_22 ?_
  rfl
