/-! rows: the rest -/
def zf (m : Mem) (i : Nat) (k : Int) : Mem := (fun a x => if a = i ∧ 0 ≤ x ∧ x < k then 0 else m.1 a x, m.2)
theorem zf_0 (m : Mem) (i : Nat) : zf m i 0 = m := by
  apply mem_ext
  · intro a x
    simp only [zf]
    rw [if_neg (by omega)]
  · intro a x; rfl
theorem zf_s (m : Mem) (i : Nat) {k : Int} (hk : 0 ≤ k) : wI (zf m i k) i k 0 = zf m i (k + 1) := by
  apply mem_ext
  · intro a x
    simp only [zf, wI, u2]
    by_cases h1 : a = i ∧ x = k
    · rw [if_pos h1, if_pos (by omega)]
    · rw [if_neg h1]
      by_cases h2 : a = i ∧ 0 ≤ x ∧ x < k
      · rw [if_pos h2, if_pos (by omega)]
      · rw [if_neg h2, if_neg (by omega)]
  · intro a x; rfl
def LastN (P : Int → Prop) (k w : Int) : Prop := (-1 ≤ w ∧ w < k) ∧ (0 ≤ w → P w) ∧ ∀ j, 0 ≤ j → w < j → j < k → ¬ P j
def Ab (v : Mem) (r : Nat) (n : Int) : Prop := n = v.1 (40 + r) 1 ∨ n = v.1 (40 + r) 2 ∨ n = v.1 (40 + r) 3 ∨ v.1 (52 + r) n ≠ 0
theorem eoP_b {k R : Int} {f lo hi : Int → Int} {n mb : Int} (hf : ∀ x, -9 ≤ f x ∧ f x ≤ 9) (hl : ∀ x, -32 ≤ lo x ∧ lo x ≤ 31) (hh : ∀ x, -32 ≤ hi x ∧ hi x ≤ 31) : -12800 ≤ sm (eoP k R f lo hi n mb) 8 ∧ sm (eoP k R f lo hi n mb) 8 ≤ 12800 := by
  have h := sm_b (g := eoP k R f lo hi n mb) (B := 1600) (fun x => by
    have h1 := hf x
    have h2 := hl x
    have h3 := hh x
    have h4 := mulR (a := f x) (b := lo x) (by omega) (by omega)
    have h5 := mulR (a := f x) (b := hi x) (by omega) (by omega)
    unfold eoP
    (repeat' split) <;> omega) 8
  omega
theorem eoP_c {R : Int} {f lo hi : Int → Int} {n : Int} (hl : ∀ x, lo x ≤ hi x) : ∀ k : Nat, 0 ≤ sm (eoP 9 R f lo hi n 0) k ∧ sm (eoP 9 R f lo hi n 0) k ≤ sm (eoP 9 R f lo hi n 1) k ∧ sm (eoP 9 R f lo hi n 1) k ≤ k
  | 0 => by simp [sm]
  | k + 1 => by
    have ih := eoP_c (R := R) (f := f) (n := n) hl k
    have h2 : 0 ≤ eoP 9 R f lo hi n 0 k ∧ eoP 9 R f lo hi n 0 k ≤ eoP 9 R f lo hi n 1 k ∧ eoP 9 R f lo hi n 1 k ≤ 1 := by
      have := hl k
      by_cases h0 : (k : Int) = n ∨ f k = 0
      · simp [eoP, h0]
      · by_cases h1 : lo k ≤ R ∧ R ≤ hi k
        · by_cases h3 : lo k = R ∧ hi k = R
          · simp [eoP, h0, h1, h3]
          · simp [eoP, h0, h1, h3]
        · by_cases h3 : lo k = R ∧ hi k = R
          · omega
          · simp [eoP, h0, h1, h3]
    simp only [sm]
    omega
theorem pt_ls {f x : Int → Int} : lsum f x x 8 = sm (fun n => f n * x n) 8 := by
  unfold lsum
  apply sm_c
  intro j _
  exact ite_self _
theorem pt_l1 {f x : Int → Int} : lsum (fun i => -f i) x x 8 = -sm (fun n => f n * x n) 8 := by
  unfold lsum
  apply sm_neg
  intro j
  rw [ite_self, Int.neg_mul]
theorem pt_cx {f x : Int → Int} {R : Int} : cmax f x x R 8 = sm (fun n => if f n ≠ 0 ∧ x n = R then 1 else 0) 8 := by
  unfold cmax
  apply sm_c
  intro j _
  by_cases h : f j ≠ 0 ∧ x j = R
  · rw [if_pos h, if_pos (by omega)]
  · rw [if_neg h, if_neg (by omega)]
theorem pt_cm {f x : Int → Int} {R : Int} : cmin f x x R 8 = sm (fun n => if f n ≠ 0 ∧ x n = R then 1 else 0) 8 := by
  unfold cmin
  apply sm_c
  intro j _
  by_cases h : f j ≠ 0 ∧ x j = R
  · rw [if_pos h, if_pos (by omega)]
  · rw [if_neg h, if_neg (by omega)]
section Pt
variable {k a b c R : Int} {f x : Int → Int}
theorem pt_0 (h : k = 0) : sm (fun n => f n * x n) 8 ≤ R ↔ Cn k a b c R f x x := by rw [cn_0 h, pt_ls]
theorem pt_1 (h : k = 1) : sm (fun n => f n * x n) 8 = R ↔ Cn k a b c R f x x := by rw [cn_1 h, pt_ls, pt_l1]; omega
theorem pt_2 (h : k = 2) : x a = x b * x c ↔ Cn k a b c R f x x := by
  rw [cn_2 h]
  constructor
  · intro q
    exact ⟨x b, x c, by omega, by omega, by omega, by omega, by omega, by omega⟩
  · rintro ⟨p, q, q1, q2, q3, q4, q5, q6⟩
    obtain rfl : p = x b := by omega
    obtain rfl : q = x c := by omega
    omega
theorem pt_3 (h : k = 3) : (x c ≠ 0 ∧ x a = fd (x b) (x c)) ↔ Cn k a b c R f x x := by
  rw [cn_3 h]
  constructor
  · rintro ⟨q0, q⟩
    exact ⟨x b, x c, by omega, by omega, by omega, by omega, q0, by omega, by omega⟩
  · rintro ⟨p, q, q1, q2, q3, q4, q5, q6, q7⟩
    obtain rfl : p = x b := by omega
    obtain rfl : q = x c := by omega
    exact ⟨q5, by omega⟩
theorem pt_4 (h : k = 4) : ((0 ≤ x b ∧ x a = x b) ∨ (x b < 0 ∧ x a = -x b)) ↔ Cn k a b c R f x x := by
  rw [cn_4 h]
  constructor
  · intro q
    exact ⟨x a, x b, by omega, by omega, by omega, by omega, q⟩
  · rintro ⟨p, q, q1, q2, q3, q4, q5⟩
    omega
theorem pt_5 (h : k = 5) : x a = max (x b) (x c) ↔ Cn k a b c R f x x := by
  rw [cn_5 h]
  constructor
  · intro q
    exact ⟨x b, x c, by omega, by omega, by omega, by omega, by omega, by omega⟩
  · rintro ⟨p, q, q1, q2, q3, q4, q5⟩
    omega
theorem pt_6 (h : k = 6) : x a = min (x b) (x c) ↔ Cn k a b c R f x x := by
  rw [cn_6 h]
  constructor
  · intro q
    exact ⟨x b, x c, by omega, by omega, by omega, by omega, by omega, by omega⟩
  · rintro ⟨p, q, q1, q2, q3, q4, q5⟩
    omega
theorem pt_7 (h : k = 7) : x a ≠ x b + R ↔ Cn k a b c R f x x := by
  rw [cn_7 h]
  constructor
  · intro q
    exact ⟨x a, x b, by omega, by omega, by omega, by omega, q⟩
  · rintro ⟨p, q, q1, q2, q3, q4, q5⟩
    omega
theorem pt_8 (h : k = 8) : (x a ≠ 1 ∨ sm (fun n => f n * x n) 8 ≤ R) ↔ Cn k a b c R f x x := by rw [cn_8 h, pt_ls]; omega
theorem pt_9 (h : k = 9) : x a = sm (fun n => if f n ≠ 0 ∧ x n = R then 1 else 0) 8 ↔ Cn k a b c R f x x := by rw [cn_9 h, pt_cx, pt_cm]; omega
end Pt

set_option maxRecDepth 100000 in
set_option maxHeartbeats 4000000 in
theorem c_become (l : Launch) {G : GT} (hG : gok G) (v : Mem) {r : Nat} (hr : r < 12) (kd rt : Int) : CC l G nX1_become 0 [.ref (G.2.1 (40 + r)), .int (iI kd), .int (iI rt)] v (qV G (fun u => u = zf (wI (wI v (40 + r) 0 kd) (40 + r) 4 rt) (52 + r) 8)) := by
  refine m_start (lv := [some (.ref (G.2.1 (40 + r))), some (.int (iI kd)), some (.int (iI rt)), none]) hG (by decide +kernel) rfl (Nat.le_of_ble_eq_true rfl) ?_
  intro X hL h hR
  subst hL
  show M X G 4 v 0 [some (.ref (G.2.1 (40 + r))), some (.int (iI kd)), some (.int (iI rt)), none] []
  refine m_aload_n h dX1_become_0 rfl rfl ?_
  refine m_iload_n h dX1_become_1 rfl rfl ?_
  refine m_putJ h fw_X1_9 (by omega) (cE_row G _ hr) (Nat.le_of_ble_eq_true rfl) (kz := 0) rfl (cE_rowp0 G _ hr) dX1_become_2 ?_
  refine m_aload_n h dX1_become_5 rfl rfl ?_
  refine m_iload_n h dX1_become_6 rfl rfl ?_
  refine m_putJ h fw_X1_24 (by omega) (cE_row G _ hr) (Nat.le_of_ble_eq_true rfl) (kz := 4) rfl (cE_rowp4 G _ hr) dX1_become_7 ?_
  refine m_iconst h dX1_become_10 ?_
  refine m_istore_n h dX1_become_11 rfl (by decide) rfl ?_
  have lp12 : ∀ (fuel : Nat) (k : Nat), k ≤ 8 → 8 - k < fuel → M X G 4 (zf (wI (wI v (40 + r) 0 kd) (40 + r) 4 rt) (52 + r) (k : Int)) 12 [some (.ref (G.2.1 (40 + r))), some (.int (iI kd)), some (.int (iI rt)), some (.int (iI (k : Int)))] [] := by
    intro fuel
    induction fuel with
    | zero => intro k hy0 hy1; exfalso; omega
    | succ fuel ih =>
      intro k hy0 hy1
      refine m_iload_n h dX1_become_12 rfl rfl ?_
      refine m_bipush h dX1_become_13 (by decide) ?_
      refine m_icmp_ge h dX1_become_15 (tgt := 31) (by decide) (by omega) (by omega) (fun c1 => ?_) (fun c1 => ?_)
      · skip
        refine m_vret h hR rfl dX1_become_31 ?_
        rw [show (k : Int) = 8 by omega]
      · skip
        refine m_aload_n h dX1_become_18 rfl rfl ?_
        refine m_get h fo_X1_27 (by omega) (cE_row G _ hr) rfl dX1_become_19 ?_
        refine m_iload_n h dX1_become_22 rfl rfl ?_
        refine m_iconst h dX1_become_23 ?_
        refine m_iast h (ar_fac G hr) (by omega) (by omega) dX1_become_24 ?_
        refine m_iinc h dX1_become_25 rfl (by decide) rfl ?_
        refine m_goto h dX1_become_28 (tgt := 12) (by decide) ?_
        have hdummy := trivial
        rw [zf_s _ _ (by omega)]
        exact ih (k + 1) (by omega) (by omega)
  rw [← zf_0 (wI (wI v (40 + r) 0 kd) (40 + r) 4 rt) (52 + r)]
  exact lp12 9 0 (by omega) (by omega)

set_option maxRecDepth 100000 in
set_option maxHeartbeats 4000000 in
theorem c_endOfOthers (l : Launch) {G : GT} (hG : gok G) (v : Mem) {r : Nat} (hr : r < 12) (hrw : RwOk v r) {si : Nat} (hsp : isSp si) (hm : SpOk v si) (n mb : Int) (hn : 0 ≤ n ∧ n < 8) (hmb : mb = 0 ∨ mb = 1) : CC l G nX1_endOfOthers 1 [.ref (G.2.1 (40 + r)), .int (iI n), .ref (G.2.1 si), .int (iI mb)] v (qI G (fun z u => u = v ∧ z = sm (eoP (v.1 (40 + r) 0) (v.1 (40 + r) 4) (v.1 (52 + r)) (v.1 (si + 1)) (v.1 (si + 2)) n mb) 8)) := by
  refine m_start (lv := [some (.ref (G.2.1 (40 + r))), some (.int (iI n)), some (.ref (G.2.1 si)), some (.int (iI mb)), none, none, none, none]) hG (by decide +kernel) rfl (Nat.le_of_ble_eq_true rfl) ?_
  intro X hL h hR
  subst hL
  obtain ⟨k0, a0, b0, c0, R0, f0, kA, kB, kC, kD, kE⟩ := hrw
  show M X G 8 v 0 [some (.ref (G.2.1 (40 + r))), some (.int (iI n)), some (.ref (G.2.1 si)), some (.int (iI mb)), none, none, none, none] []
  refine m_iconst h dX1_endOfOthers_0 ?_
  refine m_istore h dX1_endOfOthers_1 (by decide) rfl ?_
  refine m_iconst h dX1_endOfOthers_3 ?_
  refine m_istore h dX1_endOfOthers_4 (by decide) rfl ?_
  have lp6 : ∀ (fuel : Nat) (k : Nat), k ≤ 8 → 8 - k < fuel → M X G 8 v 6 [some (.ref (G.2.1 (40 + r))), some (.int (iI n)), some (.ref (G.2.1 si)), some (.int (iI mb)), some (.int (iI (sm (eoP (v.1 (40 + r) 0) (v.1 (40 + r) 4) (v.1 (52 + r)) (v.1 (si + 1)) (v.1 (si + 2)) n mb) k))), some (.int (iI (k : Int))), none, none] [] := by
    intro fuel
    induction fuel with
    | zero => intro k hy0 hy1; exfalso; omega
    | succ fuel ih =>
      intro k hy0 hy1
      have f1 := f0 k
      have m1 := hm k
      refine m_iload h dX1_endOfOthers_6 rfl ?_
      refine m_bipush h dX1_endOfOthers_8 (by decide) ?_
      refine m_icmp_ge h dX1_endOfOthers_10 (tgt := 149) (by decide) (by omega) (by omega) (fun c1 => ?_) (fun c1 => ?_)
      · skip
        refine m_iload h dX1_endOfOthers_149 rfl ?_
        refine m_iret h hR rfl dX1_endOfOthers_151 ?_
        exact ⟨rfl, by rw [show k = 8 by omega]⟩
      · skip
        refine m_aload_n h dX1_endOfOthers_13 rfl rfl ?_
        refine m_get h fo_X1_27 (by omega) (cE_row G _ hr) rfl dX1_endOfOthers_14 ?_
        refine m_iload h dX1_endOfOthers_17 rfl ?_
        refine m_iald h (ar_fac G hr) (by omega) (by omega) dX1_endOfOthers_19 ?_
        refine m_istore h dX1_endOfOthers_20 (by decide) rfl ?_
        refine m_iload h dX1_endOfOthers_22 rfl ?_
        refine m_iload_n h dX1_endOfOthers_24 rfl rfl ?_
        refine m_icmp_eq h dX1_endOfOthers_25 (tgt := 143) (by decide) (by omega) (by omega) (fun c2 => ?_) (fun c2 => ?_)
        · skip
          refine m_iinc h dX1_endOfOthers_143 rfl (by decide) rfl ?_
          refine m_goto h dX1_endOfOthers_146 (tgt := 6) (by decide) ?_
          refine m_kill 6 ?_
          have e2 : (eoP (v.1 (40 + r) 0) (v.1 (40 + r) 4) (v.1 (52 + r)) (v.1 (si + 1)) (v.1 (si + 2)) n mb) (k : Int) = 0 := by
            unfold eoP
            (repeat' split) <;> omega
          have e3 : sm (eoP (v.1 (40 + r) 0) (v.1 (40 + r) 4) (v.1 (52 + r)) (v.1 (si + 1)) (v.1 (si + 2)) n mb) (k + 1) = sm (eoP (v.1 (40 + r) 0) (v.1 (40 + r) 4) (v.1 (52 + r)) (v.1 (si + 1)) (v.1 (si + 2)) n mb) k + (eoP (v.1 (40 + r) 0) (v.1 (40 + r) 4) (v.1 (52 + r)) (v.1 (si + 1)) (v.1 (si + 2)) n mb) (k : Int) := rfl
          have e4 : sm (eoP (v.1 (40 + r) 0) (v.1 (40 + r) 4) (v.1 (52 + r)) (v.1 (si + 1)) (v.1 (si + 2)) n mb) (k + 1) = sm (eoP (v.1 (40 + r) 0) (v.1 (40 + r) 4) (v.1 (52 + r)) (v.1 (si + 1)) (v.1 (si + 2)) n mb) k := by omega
          rw [← e4]
          exact ih (k + 1) (by omega) (by omega)
        · skip
          refine m_iload h dX1_endOfOthers_28 rfl ?_
          refine m_if_ne h dX1_endOfOthers_30 (tgt := 36) (by decide) (by omega) (fun c3 => ?_) (fun c3 => ?_)
          · skip
            refine m_aload_n h dX1_endOfOthers_36 rfl rfl ?_
            refine m_get h fo_X1_9 (by omega) (cE_row G _ hr) rfl dX1_endOfOthers_37 ?_
            refine m_bipush h dX1_endOfOthers_40 (by decide) ?_
            refine m_icmp_ne h dX1_endOfOthers_42 (tgt := 92) (by decide) (by omega) (by omega) (fun c4 => ?_) (fun c4 => ?_)
            · skip
              refine m_iload_n h dX1_endOfOthers_92 rfl rfl ?_
              refine m_iload h dX1_endOfOthers_93 rfl ?_
              refine m_if_le h dX1_endOfOthers_95 (tgt := 102) (by decide) (by omega) (fun c5 => ?_) (fun c5 => ?_)
              · skip
                refine m_iconst h dX1_endOfOthers_102 ?_
                refine m_icmp_ne h dX1_endOfOthers_103 (tgt := 110) (by decide) (by omega) (by omega) (fun c6 => ?_) (fun c6 => ?_)
                · skip
                  refine m_iconst h dX1_endOfOthers_110 ?_
                  refine m_istore h dX1_endOfOthers_111 (by decide) rfl ?_
                  refine m_iload h dX1_endOfOthers_113 rfl ?_
                  refine m_iload h dX1_endOfOthers_115 rfl ?_
                  refine m_iload h dX1_endOfOthers_117 rfl ?_
                  refine m_if_eq h dX1_endOfOthers_119 (tgt := 132) (by decide) (by omega) (fun c7 => ?_) (fun c7 => ?_)
                  · skip
                    refine m_aload_n h dX1_endOfOthers_132 rfl rfl ?_
                    refine m_get h fo_X1_103 (isSp_lt hsp) (cE_sp hsp) rfl dX1_endOfOthers_133 ?_
                    refine m_iload h dX1_endOfOthers_136 rfl ?_
                    refine m_iald h (ar_sp1 hsp) (by omega) (by omega) dX1_endOfOthers_138 ?_
                    refine m_imul h dX1_endOfOthers_139 ?_
                    refine m_iadd h dX1_endOfOthers_140 ?_
                    refine m_istore h dX1_endOfOthers_141 (by decide) rfl ?_
                    refine m_iinc h dX1_endOfOthers_143 rfl (by decide) rfl ?_
                    refine m_goto h dX1_endOfOthers_146 (tgt := 6) (by decide) ?_
                    refine m_kill 6 ?_
                    refine m_kill 7 ?_
                    have e2 : (eoP (v.1 (40 + r) 0) (v.1 (40 + r) 4) (v.1 (52 + r)) (v.1 (si + 1)) (v.1 (si + 2)) n mb) (k : Int) = ((v.1 (52 + r) (k : Int)) * (v.1 (si + 1) (k : Int))) := by
                      unfold eoP
                      (repeat' split) <;> omega
                    have e3 : sm (eoP (v.1 (40 + r) 0) (v.1 (40 + r) 4) (v.1 (52 + r)) (v.1 (si + 1)) (v.1 (si + 2)) n mb) (k + 1) = sm (eoP (v.1 (40 + r) 0) (v.1 (40 + r) 4) (v.1 (52 + r)) (v.1 (si + 1)) (v.1 (si + 2)) n mb) k + (eoP (v.1 (40 + r) 0) (v.1 (40 + r) 4) (v.1 (52 + r)) (v.1 (si + 1)) (v.1 (si + 2)) n mb) (k : Int) := rfl
                    have e4 : sm (eoP (v.1 (40 + r) 0) (v.1 (40 + r) 4) (v.1 (52 + r)) (v.1 (si + 1)) (v.1 (si + 2)) n mb) (k + 1) = (sm (eoP (v.1 (40 + r) 0) (v.1 (40 + r) 4) (v.1 (52 + r)) (v.1 (si + 1)) (v.1 (si + 2)) n mb) k) + ((v.1 (52 + r) (k : Int)) * (v.1 (si + 1) (k : Int))) := by omega
                    rw [← e4]
                    exact ih (k + 1) (by omega) (by omega)
                  · skip
                    omega
                · skip
                  refine m_iconst h dX1_endOfOthers_106 ?_
                  refine m_goto h dX1_endOfOthers_107 (tgt := 111) (by decide) ?_
                  refine m_istore h dX1_endOfOthers_111 (by decide) rfl ?_
                  refine m_iload h dX1_endOfOthers_113 rfl ?_
                  refine m_iload h dX1_endOfOthers_115 rfl ?_
                  refine m_iload h dX1_endOfOthers_117 rfl ?_
                  refine m_if_eq h dX1_endOfOthers_119 (tgt := 132) (by decide) (by omega) (fun c8 => ?_) (fun c8 => ?_)
                  · skip
                    omega
                  · skip
                    refine m_aload_n h dX1_endOfOthers_122 rfl rfl ?_
                    refine m_get h fo_X1_100 (isSp_lt hsp) (cE_sp hsp) rfl dX1_endOfOthers_123 ?_
                    refine m_iload h dX1_endOfOthers_126 rfl ?_
                    refine m_iald h (ar_sp2 hsp) (by omega) (by omega) dX1_endOfOthers_128 ?_
                    refine m_goto h dX1_endOfOthers_129 (tgt := 139) (by decide) ?_
                    refine m_imul h dX1_endOfOthers_139 ?_
                    refine m_iadd h dX1_endOfOthers_140 ?_
                    refine m_istore h dX1_endOfOthers_141 (by decide) rfl ?_
                    refine m_iinc h dX1_endOfOthers_143 rfl (by decide) rfl ?_
                    refine m_goto h dX1_endOfOthers_146 (tgt := 6) (by decide) ?_
                    refine m_kill 6 ?_
                    refine m_kill 7 ?_
                    have e2 : (eoP (v.1 (40 + r) 0) (v.1 (40 + r) 4) (v.1 (52 + r)) (v.1 (si + 1)) (v.1 (si + 2)) n mb) (k : Int) = ((v.1 (52 + r) (k : Int)) * (v.1 (si + 2) (k : Int))) := by
                      unfold eoP
                      (repeat' split) <;> omega
                    have e3 : sm (eoP (v.1 (40 + r) 0) (v.1 (40 + r) 4) (v.1 (52 + r)) (v.1 (si + 1)) (v.1 (si + 2)) n mb) (k + 1) = sm (eoP (v.1 (40 + r) 0) (v.1 (40 + r) 4) (v.1 (52 + r)) (v.1 (si + 1)) (v.1 (si + 2)) n mb) k + (eoP (v.1 (40 + r) 0) (v.1 (40 + r) 4) (v.1 (52 + r)) (v.1 (si + 1)) (v.1 (si + 2)) n mb) (k : Int) := rfl
                    have e4 : sm (eoP (v.1 (40 + r) 0) (v.1 (40 + r) 4) (v.1 (52 + r)) (v.1 (si + 1)) (v.1 (si + 2)) n mb) (k + 1) = (sm (eoP (v.1 (40 + r) 0) (v.1 (40 + r) 4) (v.1 (52 + r)) (v.1 (si + 1)) (v.1 (si + 2)) n mb) k) + ((v.1 (52 + r) (k : Int)) * (v.1 (si + 2) (k : Int))) := by omega
                    rw [← e4]
                    exact ih (k + 1) (by omega) (by omega)
              · skip
                refine m_iconst h dX1_endOfOthers_98 ?_
                refine m_goto h dX1_endOfOthers_99 (tgt := 103) (by decide) ?_
                refine m_icmp_ne h dX1_endOfOthers_103 (tgt := 110) (by decide) (by omega) (by omega) (fun c9 => ?_) (fun c9 => ?_)
                · skip
                  refine m_iconst h dX1_endOfOthers_110 ?_
                  refine m_istore h dX1_endOfOthers_111 (by decide) rfl ?_
                  refine m_iload h dX1_endOfOthers_113 rfl ?_
                  refine m_iload h dX1_endOfOthers_115 rfl ?_
                  refine m_iload h dX1_endOfOthers_117 rfl ?_
                  refine m_if_eq h dX1_endOfOthers_119 (tgt := 132) (by decide) (by omega) (fun c10 => ?_) (fun c10 => ?_)
                  · skip
                    refine m_aload_n h dX1_endOfOthers_132 rfl rfl ?_
                    refine m_get h fo_X1_103 (isSp_lt hsp) (cE_sp hsp) rfl dX1_endOfOthers_133 ?_
                    refine m_iload h dX1_endOfOthers_136 rfl ?_
                    refine m_iald h (ar_sp1 hsp) (by omega) (by omega) dX1_endOfOthers_138 ?_
                    refine m_imul h dX1_endOfOthers_139 ?_
                    refine m_iadd h dX1_endOfOthers_140 ?_
                    refine m_istore h dX1_endOfOthers_141 (by decide) rfl ?_
                    refine m_iinc h dX1_endOfOthers_143 rfl (by decide) rfl ?_
                    refine m_goto h dX1_endOfOthers_146 (tgt := 6) (by decide) ?_
                    refine m_kill 6 ?_
                    refine m_kill 7 ?_
                    have e2 : (eoP (v.1 (40 + r) 0) (v.1 (40 + r) 4) (v.1 (52 + r)) (v.1 (si + 1)) (v.1 (si + 2)) n mb) (k : Int) = ((v.1 (52 + r) (k : Int)) * (v.1 (si + 1) (k : Int))) := by
                      unfold eoP
                      (repeat' split) <;> omega
                    have e3 : sm (eoP (v.1 (40 + r) 0) (v.1 (40 + r) 4) (v.1 (52 + r)) (v.1 (si + 1)) (v.1 (si + 2)) n mb) (k + 1) = sm (eoP (v.1 (40 + r) 0) (v.1 (40 + r) 4) (v.1 (52 + r)) (v.1 (si + 1)) (v.1 (si + 2)) n mb) k + (eoP (v.1 (40 + r) 0) (v.1 (40 + r) 4) (v.1 (52 + r)) (v.1 (si + 1)) (v.1 (si + 2)) n mb) (k : Int) := rfl
                    have e4 : sm (eoP (v.1 (40 + r) 0) (v.1 (40 + r) 4) (v.1 (52 + r)) (v.1 (si + 1)) (v.1 (si + 2)) n mb) (k + 1) = (sm (eoP (v.1 (40 + r) 0) (v.1 (40 + r) 4) (v.1 (52 + r)) (v.1 (si + 1)) (v.1 (si + 2)) n mb) k) + ((v.1 (52 + r) (k : Int)) * (v.1 (si + 1) (k : Int))) := by omega
                    rw [← e4]
                    exact ih (k + 1) (by omega) (by omega)
                  · skip
                    omega
                · skip
                  refine m_iconst h dX1_endOfOthers_106 ?_
                  refine m_goto h dX1_endOfOthers_107 (tgt := 111) (by decide) ?_
                  refine m_istore h dX1_endOfOthers_111 (by decide) rfl ?_
                  refine m_iload h dX1_endOfOthers_113 rfl ?_
                  refine m_iload h dX1_endOfOthers_115 rfl ?_
                  refine m_iload h dX1_endOfOthers_117 rfl ?_
                  refine m_if_eq h dX1_endOfOthers_119 (tgt := 132) (by decide) (by omega) (fun c11 => ?_) (fun c11 => ?_)
                  · skip
                    omega
                  · skip
                    refine m_aload_n h dX1_endOfOthers_122 rfl rfl ?_
                    refine m_get h fo_X1_100 (isSp_lt hsp) (cE_sp hsp) rfl dX1_endOfOthers_123 ?_
                    refine m_iload h dX1_endOfOthers_126 rfl ?_
                    refine m_iald h (ar_sp2 hsp) (by omega) (by omega) dX1_endOfOthers_128 ?_
                    refine m_goto h dX1_endOfOthers_129 (tgt := 139) (by decide) ?_
                    refine m_imul h dX1_endOfOthers_139 ?_
                    refine m_iadd h dX1_endOfOthers_140 ?_
                    refine m_istore h dX1_endOfOthers_141 (by decide) rfl ?_
                    refine m_iinc h dX1_endOfOthers_143 rfl (by decide) rfl ?_
                    refine m_goto h dX1_endOfOthers_146 (tgt := 6) (by decide) ?_
                    refine m_kill 6 ?_
                    refine m_kill 7 ?_
                    have e2 : (eoP (v.1 (40 + r) 0) (v.1 (40 + r) 4) (v.1 (52 + r)) (v.1 (si + 1)) (v.1 (si + 2)) n mb) (k : Int) = ((v.1 (52 + r) (k : Int)) * (v.1 (si + 2) (k : Int))) := by
                      unfold eoP
                      (repeat' split) <;> omega
                    have e3 : sm (eoP (v.1 (40 + r) 0) (v.1 (40 + r) 4) (v.1 (52 + r)) (v.1 (si + 1)) (v.1 (si + 2)) n mb) (k + 1) = sm (eoP (v.1 (40 + r) 0) (v.1 (40 + r) 4) (v.1 (52 + r)) (v.1 (si + 1)) (v.1 (si + 2)) n mb) k + (eoP (v.1 (40 + r) 0) (v.1 (40 + r) 4) (v.1 (52 + r)) (v.1 (si + 1)) (v.1 (si + 2)) n mb) (k : Int) := rfl
                    have e4 : sm (eoP (v.1 (40 + r) 0) (v.1 (40 + r) 4) (v.1 (52 + r)) (v.1 (si + 1)) (v.1 (si + 2)) n mb) (k + 1) = (sm (eoP (v.1 (40 + r) 0) (v.1 (40 + r) 4) (v.1 (52 + r)) (v.1 (si + 1)) (v.1 (si + 2)) n mb) k) + ((v.1 (52 + r) (k : Int)) * (v.1 (si + 2) (k : Int))) := by omega
                    rw [← e4]
                    exact ih (k + 1) (by omega) (by omega)
            · skip
              refine m_iload_n h dX1_endOfOthers_45 rfl rfl ?_
              refine m_if_eq h dX1_endOfOthers_46 (tgt := 62) (by decide) (by omega) (fun c12 => ?_) (fun c12 => ?_)
              · skip
                refine m_aload_n h dX1_endOfOthers_62 rfl rfl ?_
                refine m_iload h dX1_endOfOthers_63 rfl ?_
                refine m_aload_n h dX1_endOfOthers_65 rfl rfl ?_
                refine m_get h fo_X1_24 (by omega) (cE_row G _ hr) rfl dX1_endOfOthers_66 ?_
                refine m_vI h (c_onl _ hG hsp _ (k : Int) (v.1 (40 + r) 4) (by omega) (by omega) hm) moX5_isOnly voX5_isOnly lk_X1_93 dX1_endOfOthers_69 (by decide) (isSp_lt hsp) (cE_sp hsp) rfl rfl (Nat.le_of_ble_eq_true rfl) (fun r13 u14 p15 => ?_)
                obtain ⟨hu9, hb⟩ := p15
                rw [hu9]
                have hbi := hb.in
                unfold bz at hb
                refine m_istore h dX1_endOfOthers_72 (by decide) rfl ?_
                refine m_iload h dX1_endOfOthers_74 rfl ?_
                refine m_iload h dX1_endOfOthers_76 rfl ?_
                refine m_if_eq h dX1_endOfOthers_78 (tgt := 85) (by decide) (by omega) (fun c16 => ?_) (fun c16 => ?_)
                · skip
                  refine m_iconst h dX1_endOfOthers_85 ?_
                  refine m_iadd h dX1_endOfOthers_86 ?_
                  refine m_istore h dX1_endOfOthers_87 (by decide) rfl ?_
                  refine m_goto h dX1_endOfOthers_89 (tgt := 143) (by decide) ?_
                  refine m_iinc h dX1_endOfOthers_143 rfl (by decide) rfl ?_
                  refine m_goto h dX1_endOfOthers_146 (tgt := 6) (by decide) ?_
                  refine m_kill 6 ?_
                  refine m_kill 7 ?_
                  have e2 : (eoP (v.1 (40 + r) 0) (v.1 (40 + r) 4) (v.1 (52 + r)) (v.1 (si + 1)) (v.1 (si + 2)) n mb) (k : Int) = 0 := by
                    unfold eoP
                    (repeat' split) <;> omega
                  have e3 : sm (eoP (v.1 (40 + r) 0) (v.1 (40 + r) 4) (v.1 (52 + r)) (v.1 (si + 1)) (v.1 (si + 2)) n mb) (k + 1) = sm (eoP (v.1 (40 + r) 0) (v.1 (40 + r) 4) (v.1 (52 + r)) (v.1 (si + 1)) (v.1 (si + 2)) n mb) k + (eoP (v.1 (40 + r) 0) (v.1 (40 + r) 4) (v.1 (52 + r)) (v.1 (si + 1)) (v.1 (si + 2)) n mb) (k : Int) := rfl
                  have e4 : sm (eoP (v.1 (40 + r) 0) (v.1 (40 + r) 4) (v.1 (52 + r)) (v.1 (si + 1)) (v.1 (si + 2)) n mb) (k + 1) = (sm (eoP (v.1 (40 + r) 0) (v.1 (40 + r) 4) (v.1 (52 + r)) (v.1 (si + 1)) (v.1 (si + 2)) n mb) k) + 0 := by omega
                  rw [← e4]
                  exact ih (k + 1) (by omega) (by omega)
                · skip
                  refine m_iconst h dX1_endOfOthers_81 ?_
                  refine m_goto h dX1_endOfOthers_82 (tgt := 86) (by decide) ?_
                  refine m_iadd h dX1_endOfOthers_86 ?_
                  refine m_istore h dX1_endOfOthers_87 (by decide) rfl ?_
                  refine m_goto h dX1_endOfOthers_89 (tgt := 143) (by decide) ?_
                  refine m_iinc h dX1_endOfOthers_143 rfl (by decide) rfl ?_
                  refine m_goto h dX1_endOfOthers_146 (tgt := 6) (by decide) ?_
                  refine m_kill 6 ?_
                  refine m_kill 7 ?_
                  have e2 : (eoP (v.1 (40 + r) 0) (v.1 (40 + r) 4) (v.1 (52 + r)) (v.1 (si + 1)) (v.1 (si + 2)) n mb) (k : Int) = 1 := by
                    unfold eoP
                    (repeat' split) <;> omega
                  have e3 : sm (eoP (v.1 (40 + r) 0) (v.1 (40 + r) 4) (v.1 (52 + r)) (v.1 (si + 1)) (v.1 (si + 2)) n mb) (k + 1) = sm (eoP (v.1 (40 + r) 0) (v.1 (40 + r) 4) (v.1 (52 + r)) (v.1 (si + 1)) (v.1 (si + 2)) n mb) k + (eoP (v.1 (40 + r) 0) (v.1 (40 + r) 4) (v.1 (52 + r)) (v.1 (si + 1)) (v.1 (si + 2)) n mb) (k : Int) := rfl
                  have e4 : sm (eoP (v.1 (40 + r) 0) (v.1 (40 + r) 4) (v.1 (52 + r)) (v.1 (si + 1)) (v.1 (si + 2)) n mb) (k + 1) = (sm (eoP (v.1 (40 + r) 0) (v.1 (40 + r) 4) (v.1 (52 + r)) (v.1 (si + 1)) (v.1 (si + 2)) n mb) k) + 1 := by omega
                  rw [← e4]
                  exact ih (k + 1) (by omega) (by omega)
              · skip
                refine m_aload_n h dX1_endOfOthers_49 rfl rfl ?_
                refine m_iload h dX1_endOfOthers_50 rfl ?_
                refine m_aload_n h dX1_endOfOthers_52 rfl rfl ?_
                refine m_get h fo_X1_24 (by omega) (cE_row G _ hr) rfl dX1_endOfOthers_53 ?_
                refine m_vI h (c_cov _ hG hsp _ (k : Int) (v.1 (40 + r) 4) (by omega) (by omega) hm) moX5_covers voX5_covers lk_X1_75 dX1_endOfOthers_56 (by decide) (isSp_lt hsp) (cE_sp hsp) rfl rfl (Nat.le_of_ble_eq_true rfl) (fun r17 u18 p19 => ?_)
                obtain ⟨hu9, hb⟩ := p19
                rw [hu9]
                have hbi := hb.in
                unfold bz at hb
                refine m_goto h dX1_endOfOthers_59 (tgt := 72) (by decide) ?_
                refine m_istore h dX1_endOfOthers_72 (by decide) rfl ?_
                refine m_iload h dX1_endOfOthers_74 rfl ?_
                refine m_iload h dX1_endOfOthers_76 rfl ?_
                refine m_if_eq h dX1_endOfOthers_78 (tgt := 85) (by decide) (by omega) (fun c20 => ?_) (fun c20 => ?_)
                · skip
                  refine m_iconst h dX1_endOfOthers_85 ?_
                  refine m_iadd h dX1_endOfOthers_86 ?_
                  refine m_istore h dX1_endOfOthers_87 (by decide) rfl ?_
                  refine m_goto h dX1_endOfOthers_89 (tgt := 143) (by decide) ?_
                  refine m_iinc h dX1_endOfOthers_143 rfl (by decide) rfl ?_
                  refine m_goto h dX1_endOfOthers_146 (tgt := 6) (by decide) ?_
                  refine m_kill 6 ?_
                  refine m_kill 7 ?_
                  have e2 : (eoP (v.1 (40 + r) 0) (v.1 (40 + r) 4) (v.1 (52 + r)) (v.1 (si + 1)) (v.1 (si + 2)) n mb) (k : Int) = 0 := by
                    unfold eoP
                    (repeat' split) <;> omega
                  have e3 : sm (eoP (v.1 (40 + r) 0) (v.1 (40 + r) 4) (v.1 (52 + r)) (v.1 (si + 1)) (v.1 (si + 2)) n mb) (k + 1) = sm (eoP (v.1 (40 + r) 0) (v.1 (40 + r) 4) (v.1 (52 + r)) (v.1 (si + 1)) (v.1 (si + 2)) n mb) k + (eoP (v.1 (40 + r) 0) (v.1 (40 + r) 4) (v.1 (52 + r)) (v.1 (si + 1)) (v.1 (si + 2)) n mb) (k : Int) := rfl
                  have e4 : sm (eoP (v.1 (40 + r) 0) (v.1 (40 + r) 4) (v.1 (52 + r)) (v.1 (si + 1)) (v.1 (si + 2)) n mb) (k + 1) = (sm (eoP (v.1 (40 + r) 0) (v.1 (40 + r) 4) (v.1 (52 + r)) (v.1 (si + 1)) (v.1 (si + 2)) n mb) k) + 0 := by omega
                  rw [← e4]
                  exact ih (k + 1) (by omega) (by omega)
                · skip
                  refine m_iconst h dX1_endOfOthers_81 ?_
                  refine m_goto h dX1_endOfOthers_82 (tgt := 86) (by decide) ?_
                  refine m_iadd h dX1_endOfOthers_86 ?_
                  refine m_istore h dX1_endOfOthers_87 (by decide) rfl ?_
                  refine m_goto h dX1_endOfOthers_89 (tgt := 143) (by decide) ?_
                  refine m_iinc h dX1_endOfOthers_143 rfl (by decide) rfl ?_
                  refine m_goto h dX1_endOfOthers_146 (tgt := 6) (by decide) ?_
                  refine m_kill 6 ?_
                  refine m_kill 7 ?_
                  have e2 : (eoP (v.1 (40 + r) 0) (v.1 (40 + r) 4) (v.1 (52 + r)) (v.1 (si + 1)) (v.1 (si + 2)) n mb) (k : Int) = 1 := by
                    unfold eoP
                    (repeat' split) <;> omega
                  have e3 : sm (eoP (v.1 (40 + r) 0) (v.1 (40 + r) 4) (v.1 (52 + r)) (v.1 (si + 1)) (v.1 (si + 2)) n mb) (k + 1) = sm (eoP (v.1 (40 + r) 0) (v.1 (40 + r) 4) (v.1 (52 + r)) (v.1 (si + 1)) (v.1 (si + 2)) n mb) k + (eoP (v.1 (40 + r) 0) (v.1 (40 + r) 4) (v.1 (52 + r)) (v.1 (si + 1)) (v.1 (si + 2)) n mb) (k : Int) := rfl
                  have e4 : sm (eoP (v.1 (40 + r) 0) (v.1 (40 + r) 4) (v.1 (52 + r)) (v.1 (si + 1)) (v.1 (si + 2)) n mb) (k + 1) = (sm (eoP (v.1 (40 + r) 0) (v.1 (40 + r) 4) (v.1 (52 + r)) (v.1 (si + 1)) (v.1 (si + 2)) n mb) k) + 1 := by omega
                  rw [← e4]
                  exact ih (k + 1) (by omega) (by omega)
          · skip
            refine m_goto h dX1_endOfOthers_33 (tgt := 143) (by decide) ?_
            refine m_iinc h dX1_endOfOthers_143 rfl (by decide) rfl ?_
            refine m_goto h dX1_endOfOthers_146 (tgt := 6) (by decide) ?_
            refine m_kill 6 ?_
            have e2 : (eoP (v.1 (40 + r) 0) (v.1 (40 + r) 4) (v.1 (52 + r)) (v.1 (si + 1)) (v.1 (si + 2)) n mb) (k : Int) = 0 := by
              unfold eoP
              (repeat' split) <;> omega
            have e3 : sm (eoP (v.1 (40 + r) 0) (v.1 (40 + r) 4) (v.1 (52 + r)) (v.1 (si + 1)) (v.1 (si + 2)) n mb) (k + 1) = sm (eoP (v.1 (40 + r) 0) (v.1 (40 + r) 4) (v.1 (52 + r)) (v.1 (si + 1)) (v.1 (si + 2)) n mb) k + (eoP (v.1 (40 + r) 0) (v.1 (40 + r) 4) (v.1 (52 + r)) (v.1 (si + 1)) (v.1 (si + 2)) n mb) (k : Int) := rfl
            have e4 : sm (eoP (v.1 (40 + r) 0) (v.1 (40 + r) 4) (v.1 (52 + r)) (v.1 (si + 1)) (v.1 (si + 2)) n mb) (k + 1) = sm (eoP (v.1 (40 + r) 0) (v.1 (40 + r) 4) (v.1 (52 + r)) (v.1 (si + 1)) (v.1 (si + 2)) n mb) k := by omega
            rw [← e4]
            exact ih (k + 1) (by omega) (by omega)
  exact lp6 9 0 (by omega) (by omega)

set_option maxRecDepth 100000 in
set_option maxHeartbeats 4000000 in
theorem c_lastName (l : Launch) {G : GT} (hG : gok G) (v : Mem) {r : Nat} (hr : r < 12) (hrw : RwOk v r) : CC l G nX1_lastName 1 [.ref (G.2.1 (40 + r))] v (qI G (fun z u => u = v ∧ LastN (Ab v r) 8 z)) := by
  refine m_start (lv := [some (.ref (G.2.1 (40 + r))), none, none]) hG (by decide +kernel) rfl (Nat.le_of_ble_eq_true rfl) ?_
  intro X hL h hR
  subst hL
  show M X G 3 v 0 [some (.ref (G.2.1 (40 + r))), none, none] []
  refine m_iconst h dX1_lastName_0 ?_
  refine m_istore_n h dX1_lastName_1 rfl (by decide) rfl ?_
  refine m_iconst h dX1_lastName_2 ?_
  refine m_istore_n h dX1_lastName_3 rfl (by decide) rfl ?_
  have lp4 : ∀ (fuel : Nat) (k : Nat) (w : Int), k ≤ 8 → 8 - k < fuel → LastN (Ab v r) k w → M X G 3 v 4 [some (.ref (G.2.1 (40 + r))), some (.int (iI w)), some (.int (iI (k : Int)))] [] := by
    intro fuel
    induction fuel with
    | zero => intro k w hy0 hy1 hy2; exfalso; omega
    | succ fuel ih =>
      intro k w hy0 hy1 hy2
      refine m_iload_n h dX1_lastName_4 rfl rfl ?_
      refine m_bipush h dX1_lastName_5 (by decide) ?_
      refine m_icmp_ge h dX1_lastName_7 (tgt := 26) (by decide) (by omega) (by omega) (fun c1 => ?_) (fun c1 => ?_)
      · skip
        refine m_iload_n h dX1_lastName_26 rfl rfl ?_
        refine m_iret h hR rfl dX1_lastName_27 ?_
        exact ⟨rfl, by rw [show (8 : Int) = k by omega]; exact hy2⟩
      · skip
        refine m_aload_n h dX1_lastName_10 rfl rfl ?_
        refine m_iload_n h dX1_lastName_11 rfl rfl ?_
        refine m_vI h (c_isAbout _ hG _ hr hrw (k : Int) (by omega)) moX1_isAbout voX1_isAbout lk_X1_31 dX1_lastName_12 (by decide) (by omega) (cE_row G _ hr) rfl rfl (Nat.le_of_ble_eq_true rfl) (fun r2 u3 p4 => ?_)
        obtain ⟨hu9, hb⟩ := p4
        rw [hu9]
        have hbi := hb.in
        refine m_if_eq h dX1_lastName_15 (tgt := 20) (by decide) (by omega) (fun c5 => ?_) (fun c5 => ?_)
        · skip
          refine m_iinc h dX1_lastName_20 rfl (by decide) rfl ?_
          refine m_goto h dX1_lastName_23 (tgt := 4) (by decide) ?_
          refine ih (k + 1) w (by omega) (by omega) ⟨by have := hy2.1; omega, hy2.2.1, fun j q1 q2 q3 => ?_⟩
          by_cases hj : j < k
          · exact hy2.2.2 j q1 q2 hj
          · obtain rfl : j = k := by omega
            exact hb.no (by assumption)
        · skip
          refine m_iload_n h dX1_lastName_18 rfl rfl ?_
          refine m_istore_n h dX1_lastName_19 rfl (by decide) rfl ?_
          refine m_iinc h dX1_lastName_20 rfl (by decide) rfl ?_
          refine m_goto h dX1_lastName_23 (tgt := 4) (by decide) ?_
          exact ih (k + 1) k (by omega) (by omega) ⟨by omega, fun _ => hb.yes (by assumption), fun j q1 q2 q3 => by omega⟩
  exact lp4 9 0 (-1) (by omega) (by omega) ⟨by omega, fun q => by omega, fun j q1 q2 q3 => by omega⟩

set_option maxRecDepth 100000 in
set_option maxHeartbeats 4000000 in
theorem c_holds (l : Launch) {G : GT} (hG : gok G) (v : Mem) {r : Nat} (hr : r < 12) (hrw : RwOk v r) (hch : ∀ x, -32 ≤ v.1 23 x ∧ v.1 23 x ≤ 31) : CC l G nX1_holds 1 [.ref (G.2.1 (40 + r)), .ref (G.2.1 23)] v (qI G (fun z u => u = v ∧ bz z (Cn (v.1 (40 + r) 0) (v.1 (40 + r) 1) (v.1 (40 + r) 2) (v.1 (40 + r) 3) (v.1 (40 + r) 4) (v.1 (52 + r)) (v.1 23) (v.1 23)))) := by
  refine m_start (lv := [some (.ref (G.2.1 (40 + r))), some (.ref (G.2.1 23))]) hG (by decide +kernel) rfl (Nat.le_of_ble_eq_true rfl) ?_
  intro X hL h hR
  subst hL
  have hrw0 := hrw
  obtain ⟨k0, a0, b0, c0, R0, f0, kA, kB, kC, kD, kE⟩ := hrw
  have q1 := hch (v.1 (40 + r) 1)
  have q2 := hch (v.1 (40 + r) 2)
  have q3 := hch (v.1 (40 + r) 3)
  have g2 := mulR (a := v.1 23 (v.1 (40 + r) 2)) (b := v.1 23 (v.1 (40 + r) 3)) (by omega) (by omega)
  show M X G 2 v 0 [some (.ref (G.2.1 (40 + r))), some (.ref (G.2.1 23))] []
  refine m_aload_n h dX1_holds_0 rfl rfl ?_
  refine m_get h fo_X1_9 (by omega) (cE_row G _ hr) rfl dX1_holds_1 ?_
  rcases (show v.1 (40 + r) 0 = 0 ∨ v.1 (40 + r) 0 = 1 ∨ v.1 (40 + r) 0 = 2 ∨ v.1 (40 + r) 0 = 3 ∨ v.1 (40 + r) 0 = 4 ∨ v.1 (40 + r) 0 = 5 ∨ v.1 (40 + r) 0 = 6 ∨ v.1 (40 + r) 0 = 7 ∨ v.1 (40 + r) 0 = 8 ∨ (v.1 (40 + r) 0 < 0 ∨ 8 < v.1 (40 + r) 0) by omega) with sw1 | sw1 | sw1 | sw1 | sw1 | sw1 | sw1 | sw1 | sw1 | sw1
  · skip
    refine m_tsIn h dX1_holds_4 (off := 52) (tgt := 56) (by omega) (by omega) (by omega) (by rw [sw1]; rfl) (by decide) ?_
    refine m_aload_n h dX1_holds_56 rfl rfl ?_
    refine m_aload_n h dX1_holds_57 rfl rfl ?_
    refine m_vI h (c_sumOf _ hG _ hr hrw0 hch) moX1_sumOf voX1_sumOf lk_X1_35 dX1_holds_58 (by decide) (by omega) (cE_row G _ hr) rfl rfl (Nat.le_of_ble_eq_true rfl) (fun r2 u3 p4 => ?_)
    obtain ⟨hu9, es⟩ := p4
    rw [hu9]
    have gs := sm_b (g := fun n => v.1 (52 + r) n * v.1 23 n) (B := 1600) (fun x => mulR (a := v.1 (52 + r) x) (b := v.1 23 x) (by have := f0 x; omega) (by have := hch x; omega)) 8
    rw [← es] at gs
    refine m_aload_n h dX1_holds_61 rfl rfl ?_
    refine m_get h fo_X1_24 (by omega) (cE_row G _ hr) rfl dX1_holds_62 ?_
    refine m_icmp_gt h dX1_holds_65 (tgt := 72) (by decide) (by omega) (by omega) (fun c5 => ?_) (fun c5 => ?_)
    · skip
      refine m_iconst h dX1_holds_72 ?_
      refine m_zret h hR rfl dX1_holds_73 (by omega) ?_
      refine ⟨rfl, bz.iff ?_ (pt_0 (by omega))⟩
      rw [← es]
      exact bz0 (by omega)
    · skip
      refine m_iconst h dX1_holds_68 ?_
      refine m_goto h dX1_holds_69 (tgt := 73) (by decide) ?_
      refine m_zret h hR rfl dX1_holds_73 (by omega) ?_
      refine ⟨rfl, bz.iff ?_ (pt_0 (by omega))⟩
      rw [← es]
      exact bz1 (by omega)
  · skip
    refine m_tsIn h dX1_holds_4 (off := 70) (tgt := 74) (by omega) (by omega) (by omega) (by rw [sw1]; rfl) (by decide) ?_
    refine m_aload_n h dX1_holds_74 rfl rfl ?_
    refine m_aload_n h dX1_holds_75 rfl rfl ?_
    refine m_vI h (c_sumOf _ hG _ hr hrw0 hch) moX1_sumOf voX1_sumOf lk_X1_35 dX1_holds_76 (by decide) (by omega) (cE_row G _ hr) rfl rfl (Nat.le_of_ble_eq_true rfl) (fun r6 u7 p8 => ?_)
    obtain ⟨hu9, es⟩ := p8
    rw [hu9]
    have gs := sm_b (g := fun n => v.1 (52 + r) n * v.1 23 n) (B := 1600) (fun x => mulR (a := v.1 (52 + r) x) (b := v.1 23 x) (by have := f0 x; omega) (by have := hch x; omega)) 8
    rw [← es] at gs
    refine m_aload_n h dX1_holds_79 rfl rfl ?_
    refine m_get h fo_X1_24 (by omega) (cE_row G _ hr) rfl dX1_holds_80 ?_
    refine m_icmp_ne h dX1_holds_83 (tgt := 90) (by decide) (by omega) (by omega) (fun c9 => ?_) (fun c9 => ?_)
    · skip
      refine m_iconst h dX1_holds_90 ?_
      refine m_zret h hR rfl dX1_holds_91 (by omega) ?_
      refine ⟨rfl, bz.iff ?_ (pt_1 (by omega))⟩
      rw [← es]
      exact bz0 (by omega)
    · skip
      refine m_iconst h dX1_holds_86 ?_
      refine m_goto h dX1_holds_87 (tgt := 91) (by decide) ?_
      refine m_zret h hR rfl dX1_holds_91 (by omega) ?_
      refine ⟨rfl, bz.iff ?_ (pt_1 (by omega))⟩
      rw [← es]
      exact bz1 (by omega)
  · skip
    refine m_tsIn h dX1_holds_4 (off := 88) (tgt := 92) (by omega) (by omega) (by omega) (by rw [sw1]; rfl) (by decide) ?_
    refine m_aload_n h dX1_holds_92 rfl rfl ?_
    refine m_aload_n h dX1_holds_93 rfl rfl ?_
    refine m_get h fo_X1_15 (by omega) (cE_row G _ hr) rfl dX1_holds_94 ?_
    refine m_iald h (ar_23 G) (by omega) (by omega) dX1_holds_97 ?_
    refine m_aload_n h dX1_holds_98 rfl rfl ?_
    refine m_aload_n h dX1_holds_99 rfl rfl ?_
    refine m_get h fo_X1_18 (by omega) (cE_row G _ hr) rfl dX1_holds_100 ?_
    refine m_iald h (ar_23 G) (by omega) (by omega) dX1_holds_103 ?_
    refine m_aload_n h dX1_holds_104 rfl rfl ?_
    refine m_aload_n h dX1_holds_105 rfl rfl ?_
    refine m_get h fo_X1_21 (by omega) (cE_row G _ hr) rfl dX1_holds_106 ?_
    refine m_iald h (ar_23 G) (by omega) (by omega) dX1_holds_109 ?_
    refine m_imul h dX1_holds_110 ?_
    refine m_icmp_ne h dX1_holds_111 (tgt := 118) (by decide) (by omega) (by omega) (fun c10 => ?_) (fun c10 => ?_)
    · skip
      refine m_iconst h dX1_holds_118 ?_
      refine m_zret h hR rfl dX1_holds_119 (by omega) ?_
      refine ⟨rfl, bz.iff ?_ (pt_2 (by omega))⟩
      exact bz0 (by omega)
    · skip
      refine m_iconst h dX1_holds_114 ?_
      refine m_goto h dX1_holds_115 (tgt := 119) (by decide) ?_
      refine m_zret h hR rfl dX1_holds_119 (by omega) ?_
      refine ⟨rfl, bz.iff ?_ (pt_2 (by omega))⟩
      exact bz1 (by omega)
  · skip
    refine m_tsIn h dX1_holds_4 (off := 116) (tgt := 120) (by omega) (by omega) (by omega) (by rw [sw1]; rfl) (by decide) ?_
    refine m_aload_n h dX1_holds_120 rfl rfl ?_
    refine m_aload_n h dX1_holds_121 rfl rfl ?_
    refine m_get h fo_X1_21 (by omega) (cE_row G _ hr) rfl dX1_holds_122 ?_
    refine m_iald h (ar_23 G) (by omega) (by omega) dX1_holds_125 ?_
    refine m_if_eq h dX1_holds_126 (tgt := 157) (by decide) (by omega) (fun c11 => ?_) (fun c11 => ?_)
    · skip
      refine m_iconst h dX1_holds_157 ?_
      refine m_zret h hR rfl dX1_holds_158 (by omega) ?_
      refine ⟨rfl, bz.iff ?_ (pt_3 (by omega))⟩
      first | (rw [← ep]; exact bz0 (by omega)) | exact bz0 (by omega)
    · skip
      refine m_aload_n h dX1_holds_129 rfl rfl ?_
      refine m_aload_n h dX1_holds_130 rfl rfl ?_
      refine m_get h fo_X1_15 (by omega) (cE_row G _ hr) rfl dX1_holds_131 ?_
      refine m_iald h (ar_23 G) (by omega) (by omega) dX1_holds_134 ?_
      refine m_aload_n h dX1_holds_135 rfl rfl ?_
      refine m_aload_n h dX1_holds_136 rfl rfl ?_
      refine m_get h fo_X1_18 (by omega) (cE_row G _ hr) rfl dX1_holds_137 ?_
      refine m_iald h (ar_23 G) (by omega) (by omega) dX1_holds_140 ?_
      refine m_aload_n h dX1_holds_141 rfl rfl ?_
      refine m_aload_n h dX1_holds_142 rfl rfl ?_
      refine m_get h fo_X1_21 (by omega) (cE_row G _ hr) rfl dX1_holds_143 ?_
      refine m_iald h (ar_23 G) (by omega) (by omega) dX1_holds_146 ?_
      refine m_sI h (c_floorDiv _ hG _ (v.1 23 (v.1 (40 + r) 2)) (v.1 23 (v.1 (40 + r) 3)) (by omega) (by omega) (by omega)) moJ9_floorDiv_7cf53 stJ9_floorDiv_7cf53 lk_X1_39 dX1_holds_147 (by decide) rfl rfl (Nat.le_of_ble_eq_true rfl) (fun r12 u13 p14 => ?_)
      obtain ⟨hu9, ep⟩ := p14
      rw [hu9]
      have gp := fd_rg (a := v.1 23 (v.1 (40 + r) 2)) (b := v.1 23 (v.1 (40 + r) 3)) (by omega) (by omega)
      rw [← ep] at gp
      refine m_icmp_ne h dX1_holds_150 (tgt := 157) (by decide) (by omega) (by omega) (fun c15 => ?_) (fun c15 => ?_)
      · skip
        refine m_iconst h dX1_holds_157 ?_
        refine m_zret h hR rfl dX1_holds_158 (by omega) ?_
        refine ⟨rfl, bz.iff ?_ (pt_3 (by omega))⟩
        first | (rw [← ep]; exact bz0 (by omega)) | exact bz0 (by omega)
      · skip
        refine m_iconst h dX1_holds_153 ?_
        refine m_goto h dX1_holds_154 (tgt := 158) (by decide) ?_
        refine m_zret h hR rfl dX1_holds_158 (by omega) ?_
        refine ⟨rfl, bz.iff ?_ (pt_3 (by omega))⟩
        first | (rw [← ep]; exact bz1 (by omega)) | exact bz0 (by omega)
  · skip
    refine m_tsIn h dX1_holds_4 (off := 155) (tgt := 159) (by omega) (by omega) (by omega) (by rw [sw1]; rfl) (by decide) ?_
    refine m_aload_n h dX1_holds_159 rfl rfl ?_
    refine m_aload_n h dX1_holds_160 rfl rfl ?_
    refine m_get h fo_X1_15 (by omega) (cE_row G _ hr) rfl dX1_holds_161 ?_
    refine m_iald h (ar_23 G) (by omega) (by omega) dX1_holds_164 ?_
    refine m_aload_n h dX1_holds_165 rfl rfl ?_
    refine m_aload_n h dX1_holds_166 rfl rfl ?_
    refine m_get h fo_X1_18 (by omega) (cE_row G _ hr) rfl dX1_holds_167 ?_
    refine m_iald h (ar_23 G) (by omega) (by omega) dX1_holds_170 ?_
    refine m_abs h lk_X1_45 dX1_holds_171 (by decide) (Nat.le_of_ble_eq_true rfl) (by omega) ?_
    generalize hdv : (if 0 ≤ v.1 23 (v.1 (40 + r) 2) then v.1 23 (v.1 (40 + r) 2) else -(v.1 23 (v.1 (40 + r) 2))) = dv
    have hd2 : (0 ≤ v.1 23 (v.1 (40 + r) 2) ∧ dv = v.1 23 (v.1 (40 + r) 2)) ∨ (v.1 23 (v.1 (40 + r) 2) < 0 ∧ dv = -v.1 23 (v.1 (40 + r) 2)) := by
      split at hdv <;> omega
    refine m_icmp_ne h dX1_holds_174 (tgt := 181) (by decide) (by omega) (by omega) (fun c16 => ?_) (fun c16 => ?_)
    · skip
      refine m_iconst h dX1_holds_181 ?_
      refine m_zret h hR rfl dX1_holds_182 (by omega) ?_
      refine ⟨rfl, bz.iff ?_ (pt_4 (by omega))⟩
      exact bz0 (by omega)
    · skip
      refine m_iconst h dX1_holds_177 ?_
      refine m_goto h dX1_holds_178 (tgt := 182) (by decide) ?_
      refine m_zret h hR rfl dX1_holds_182 (by omega) ?_
      refine ⟨rfl, bz.iff ?_ (pt_4 (by omega))⟩
      exact bz1 (by omega)
  · skip
    refine m_tsIn h dX1_holds_4 (off := 179) (tgt := 183) (by omega) (by omega) (by omega) (by rw [sw1]; rfl) (by decide) ?_
    refine m_aload_n h dX1_holds_183 rfl rfl ?_
    refine m_aload_n h dX1_holds_184 rfl rfl ?_
    refine m_get h fo_X1_15 (by omega) (cE_row G _ hr) rfl dX1_holds_185 ?_
    refine m_iald h (ar_23 G) (by omega) (by omega) dX1_holds_188 ?_
    refine m_aload_n h dX1_holds_189 rfl rfl ?_
    refine m_aload_n h dX1_holds_190 rfl rfl ?_
    refine m_get h fo_X1_18 (by omega) (cE_row G _ hr) rfl dX1_holds_191 ?_
    refine m_iald h (ar_23 G) (by omega) (by omega) dX1_holds_194 ?_
    refine m_aload_n h dX1_holds_195 rfl rfl ?_
    refine m_aload_n h dX1_holds_196 rfl rfl ?_
    refine m_get h fo_X1_21 (by omega) (cE_row G _ hr) rfl dX1_holds_197 ?_
    refine m_iald h (ar_23 G) (by omega) (by omega) dX1_holds_200 ?_
    refine m_max h lk_X1_49 dX1_holds_201 (by decide) (Nat.le_of_ble_eq_true rfl) (by omega) (by omega) ?_
    refine m_icmp_ne h dX1_holds_204 (tgt := 211) (by decide) (by omega) (by omega) (fun c17 => ?_) (fun c17 => ?_)
    · skip
      refine m_iconst h dX1_holds_211 ?_
      refine m_zret h hR rfl dX1_holds_212 (by omega) ?_
      refine ⟨rfl, bz.iff ?_ (pt_5 (by omega))⟩
      exact bz0 (by omega)
    · skip
      refine m_iconst h dX1_holds_207 ?_
      refine m_goto h dX1_holds_208 (tgt := 212) (by decide) ?_
      refine m_zret h hR rfl dX1_holds_212 (by omega) ?_
      refine ⟨rfl, bz.iff ?_ (pt_5 (by omega))⟩
      exact bz1 (by omega)
  · skip
    refine m_tsIn h dX1_holds_4 (off := 209) (tgt := 213) (by omega) (by omega) (by omega) (by rw [sw1]; rfl) (by decide) ?_
    refine m_aload_n h dX1_holds_213 rfl rfl ?_
    refine m_aload_n h dX1_holds_214 rfl rfl ?_
    refine m_get h fo_X1_15 (by omega) (cE_row G _ hr) rfl dX1_holds_215 ?_
    refine m_iald h (ar_23 G) (by omega) (by omega) dX1_holds_218 ?_
    refine m_aload_n h dX1_holds_219 rfl rfl ?_
    refine m_aload_n h dX1_holds_220 rfl rfl ?_
    refine m_get h fo_X1_18 (by omega) (cE_row G _ hr) rfl dX1_holds_221 ?_
    refine m_iald h (ar_23 G) (by omega) (by omega) dX1_holds_224 ?_
    refine m_aload_n h dX1_holds_225 rfl rfl ?_
    refine m_aload_n h dX1_holds_226 rfl rfl ?_
    refine m_get h fo_X1_21 (by omega) (cE_row G _ hr) rfl dX1_holds_227 ?_
    refine m_iald h (ar_23 G) (by omega) (by omega) dX1_holds_230 ?_
    refine m_min h lk_X1_52 dX1_holds_231 (by decide) (Nat.le_of_ble_eq_true rfl) (by omega) (by omega) ?_
    refine m_icmp_ne h dX1_holds_234 (tgt := 241) (by decide) (by omega) (by omega) (fun c18 => ?_) (fun c18 => ?_)
    · skip
      refine m_iconst h dX1_holds_241 ?_
      refine m_zret h hR rfl dX1_holds_242 (by omega) ?_
      refine ⟨rfl, bz.iff ?_ (pt_6 (by omega))⟩
      exact bz0 (by omega)
    · skip
      refine m_iconst h dX1_holds_237 ?_
      refine m_goto h dX1_holds_238 (tgt := 242) (by decide) ?_
      refine m_zret h hR rfl dX1_holds_242 (by omega) ?_
      refine ⟨rfl, bz.iff ?_ (pt_6 (by omega))⟩
      exact bz1 (by omega)
  · skip
    refine m_tsIn h dX1_holds_4 (off := 239) (tgt := 243) (by omega) (by omega) (by omega) (by rw [sw1]; rfl) (by decide) ?_
    refine m_aload_n h dX1_holds_243 rfl rfl ?_
    refine m_aload_n h dX1_holds_244 rfl rfl ?_
    refine m_get h fo_X1_15 (by omega) (cE_row G _ hr) rfl dX1_holds_245 ?_
    refine m_iald h (ar_23 G) (by omega) (by omega) dX1_holds_248 ?_
    refine m_aload_n h dX1_holds_249 rfl rfl ?_
    refine m_aload_n h dX1_holds_250 rfl rfl ?_
    refine m_get h fo_X1_18 (by omega) (cE_row G _ hr) rfl dX1_holds_251 ?_
    refine m_iald h (ar_23 G) (by omega) (by omega) dX1_holds_254 ?_
    refine m_aload_n h dX1_holds_255 rfl rfl ?_
    refine m_get h fo_X1_24 (by omega) (cE_row G _ hr) rfl dX1_holds_256 ?_
    refine m_iadd h dX1_holds_259 ?_
    refine m_icmp_eq h dX1_holds_260 (tgt := 267) (by decide) (by omega) (by omega) (fun c19 => ?_) (fun c19 => ?_)
    · skip
      refine m_iconst h dX1_holds_267 ?_
      refine m_zret h hR rfl dX1_holds_268 (by omega) ?_
      refine ⟨rfl, bz.iff ?_ (pt_7 (by omega))⟩
      exact bz0 (by omega)
    · skip
      refine m_iconst h dX1_holds_263 ?_
      refine m_goto h dX1_holds_264 (tgt := 268) (by decide) ?_
      refine m_zret h hR rfl dX1_holds_268 (by omega) ?_
      refine ⟨rfl, bz.iff ?_ (pt_7 (by omega))⟩
      exact bz1 (by omega)
  · skip
    refine m_tsIn h dX1_holds_4 (off := 265) (tgt := 269) (by omega) (by omega) (by omega) (by rw [sw1]; rfl) (by decide) ?_
    refine m_aload_n h dX1_holds_269 rfl rfl ?_
    refine m_aload_n h dX1_holds_270 rfl rfl ?_
    refine m_get h fo_X1_15 (by omega) (cE_row G _ hr) rfl dX1_holds_271 ?_
    refine m_iald h (ar_23 G) (by omega) (by omega) dX1_holds_274 ?_
    refine m_iconst h dX1_holds_275 ?_
    refine m_icmp_ne h dX1_holds_276 (tgt := 291) (by decide) (by omega) (by omega) (fun c20 => ?_) (fun c20 => ?_)
    · skip
      refine m_iconst h dX1_holds_291 ?_
      refine m_goto h dX1_holds_292 (tgt := 296) (by decide) ?_
      refine m_zret h hR rfl dX1_holds_296 (by omega) ?_
      refine ⟨rfl, bz.iff ?_ (pt_8 (by omega))⟩
      first | (rw [← es]; exact bz1 (by omega)) | exact bz1 (Or.inl (by assumption))
    · skip
      refine m_aload_n h dX1_holds_279 rfl rfl ?_
      refine m_aload_n h dX1_holds_280 rfl rfl ?_
      refine m_vI h (c_sumOf _ hG _ hr hrw0 hch) moX1_sumOf voX1_sumOf lk_X1_35 dX1_holds_281 (by decide) (by omega) (cE_row G _ hr) rfl rfl (Nat.le_of_ble_eq_true rfl) (fun r21 u22 p23 => ?_)
      obtain ⟨hu9, es⟩ := p23
      rw [hu9]
      have gs := sm_b (g := fun n => v.1 (52 + r) n * v.1 23 n) (B := 1600) (fun x => mulR (a := v.1 (52 + r) x) (b := v.1 23 x) (by have := f0 x; omega) (by have := hch x; omega)) 8
      rw [← es] at gs
      refine m_aload_n h dX1_holds_284 rfl rfl ?_
      refine m_get h fo_X1_24 (by omega) (cE_row G _ hr) rfl dX1_holds_285 ?_
      refine m_icmp_gt h dX1_holds_288 (tgt := 295) (by decide) (by omega) (by omega) (fun c24 => ?_) (fun c24 => ?_)
      · skip
        refine m_iconst h dX1_holds_295 ?_
        refine m_zret h hR rfl dX1_holds_296 (by omega) ?_
        refine ⟨rfl, bz.iff ?_ (pt_8 (by omega))⟩
        first | (rw [← es]; exact bz0 (by omega)) | exact bz1 (Or.inl (by assumption))
      · skip
        refine m_iconst h dX1_holds_291 ?_
        refine m_goto h dX1_holds_292 (tgt := 296) (by decide) ?_
        refine m_zret h hR rfl dX1_holds_296 (by omega) ?_
        refine ⟨rfl, bz.iff ?_ (pt_8 (by omega))⟩
        first | (rw [← es]; exact bz1 (by omega)) | exact bz1 (Or.inl (by assumption))
  · skip
    refine m_tsOut h dX1_holds_4 (tgt := 297) (by omega) (by omega) (by decide) ?_
    refine m_aload_n h dX1_holds_297 rfl rfl ?_
    refine m_aload_n h dX1_holds_298 rfl rfl ?_
    refine m_get h fo_X1_15 (by omega) (cE_row G _ hr) rfl dX1_holds_299 ?_
    refine m_iald h (ar_23 G) (by omega) (by omega) dX1_holds_302 ?_
    refine m_aload_n h dX1_holds_303 rfl rfl ?_
    refine m_aload_n h dX1_holds_304 rfl rfl ?_
    refine m_vI h (c_countOf _ hG _ hr hrw0 hch) moX1_countOf voX1_countOf lk_X1_55 dX1_holds_305 (by decide) (by omega) (cE_row G _ hr) rfl rfl (Nat.le_of_ble_eq_true rfl) (fun r25 u26 p27 => ?_)
    obtain ⟨hu9, es⟩ := p27
    rw [hu9]
    have gs := sm_b (g := fun n => if v.1 (52 + r) n ≠ 0 ∧ v.1 23 n = v.1 (40 + r) 4 then 1 else 0) (B := 1) (fun x => by split <;> omega) 8
    rw [← es] at gs
    refine m_icmp_ne h dX1_holds_308 (tgt := 315) (by decide) (by omega) (by omega) (fun c28 => ?_) (fun c28 => ?_)
    · skip
      refine m_iconst h dX1_holds_315 ?_
      refine m_zret h hR rfl dX1_holds_316 (by omega) ?_
      refine ⟨rfl, bz.iff ?_ (pt_9 (by omega))⟩
      rw [← es]
      exact bz0 (by omega)
    · skip
      refine m_iconst h dX1_holds_311 ?_
      refine m_goto h dX1_holds_312 (tgt := 316) (by decide) ?_
      refine m_zret h hR rfl dX1_holds_316 (by omega) ?_
      refine ⟨rfl, bz.iff ?_ (pt_9 (by omega))⟩
      rw [← es]
      exact bz1 (by omega)
