set_option maxRecDepth 100000 in
set_option maxHeartbeats 4000000 in
theorem c_findReason (l : Launch) {G : GT} (hG : gok G) (v : Mem) {r : Nat} (hr : r < 12) (hrw : RwOk v r) (hF : SPF v) (h7 : SpOk v 7) (h19 : SpOk v 19) (n z : Int) (hn : 0 ≤ n ∧ n < v.1 1 0) (hc8 : v.1 1 0 ≤ 8) (hz : -32 ≤ z ∧ z ≤ 31) (hab : AbR (gC v) r n) (hlt : ∀ x, AbR (gC v) r x → 0 ≤ x → x < v.1 1 0) : CC l G nX4_findReason 4 [.ref (G.2.1 18), .ref (G.2.1 (40 + r)), .int (iI n), .int (iI z)] v (qI G (fun w u => w = reaS (gC v) r n z (t_s (tC v)) ∧ (0 ≤ w ∧ w < 65536) ∧ u.2 = v.2 ∧ (∀ i, i ≠ 20 → i ≠ 21 → u.1 i = v.1 i) ∧ SpOk u 19)) := by
  refine m_start (lv := [some (.ref (G.2.1 18)), some (.ref (G.2.1 (40 + r))), some (.int (iI n)), some (.int (iI z)), none, none, none, none, none]) hG (by decide +kernel) rfl (Nat.le_of_ble_eq_true rfl) ?_
  intro X hL h hR
  subst hL
  show M X G 9 v 0 [some (.ref (G.2.1 18)), some (.ref (G.2.1 (40 + r))), some (.int (iI n)), some (.int (iI z)), none, none, none, none, none] []
  refine m_iconst h dX4_findReason_0 ?_
  refine m_istore h dX4_findReason_1 (by decide) rfl ?_
  refine m_aload_n h dX4_findReason_3 rfl rfl ?_
  refine m_get h fo_X4_21 (by decide) rfl rfl dX4_findReason_4 ?_
  refine m_aload_n h dX4_findReason_7 rfl rfl ?_
  refine m_get h fo_X4_25 (by decide) rfl rfl dX4_findReason_8 ?_
  refine m_get h fo_X4_59 (by decide) rfl rfl dX4_findReason_11 ?_
  refine m_vV h (c_copy _ hG (si := 19) (sj := 7) (Or.inr (Or.inr rfl)) (Or.inr (Or.inl rfl)) _) moX5_copy voX5_copy lk_X4_98 dX4_findReason_14 (by decide) (by decide) rfl rfl rfl (Nat.le_of_ble_eq_true rfl) (fun u2 p3 => ?_)
  subst p3
  refine m_iconst h dX4_findReason_17 ?_
  refine m_aload_n h dX4_findReason_18 rfl rfl ?_
  refine m_get h fo_X4_25 (by decide) rfl rfl dX4_findReason_19 ?_
  refine m_get h fo_X4_42 (by decide) rfl rfl dX4_findReason_22 ?_
  show M X G 9 (cpI (cpI v (7 + 1) (19 + 1) 8) (7 + 2) (19 + 2) 8) 25 [some (.ref (G.2.1 18)), some (.ref (G.2.1 (40 + r))), some (.int (iI n)), some (.int (iI z)), some (.int (iI 0)), none, none, none, none] [.int (iI ((cpI (cpI v (7 + 1) (19 + 1) 8) (7 + 2) (19 + 2) 8).1 1 0)), .int (iI 2)]
  refine m_imul h dX4_findReason_25 ?_
  refine m_iconst h dX4_findReason_26 ?_
  refine m_isub h dX4_findReason_27 ?_
  refine m_istore h dX4_findReason_28 (by decide) rfl ?_
  have lp30 : ∀ (fuel : Nat) (j : Nat) (p : Int) (u : Mem), p = 2 * v.1 1 0 - 1 - j → -1 ≤ p → (p + 1).toNat < fuel → FRa v u → FRb v r n u (elV v r n z j).1 (elV v r n z j).2.1 → M X G 9 u 30 [some (.ref (G.2.1 18)), some (.ref (G.2.1 (40 + r))), some (.int (iI n)), some (.int (iI z)), some (.int (iI ((elV v r n z j).2.2))), some (.int (iI p)), none, none, none] [] := by
    intro fuel
    induction fuel with
    | zero => intro j p u hp1 hp2 hfu hA hB; exfalso; omega
    | succ fuel ih =>
      intro j p u hp1 hp2 hfu hA hB
      have huc : ∀ i, i ≠ 20 → i ≠ 21 → u.1 i = v.1 i := hA.2.1
      have eA : u.1 (40 + r) = v.1 (40 + r) := huc _ (by omega) (by omega)
      have eF : u.1 (52 + r) = v.1 (52 + r) := huc _ (by omega) (by omega)
      have e1c : u.1 1 = v.1 1 := huc _ (by omega) (by omega)
      have hrwu : RwOk u r := hrw.cg eA eF
      refine m_iload h dX4_findReason_30 rfl ?_
      refine m_if_lt h dX4_findReason_32 (tgt := 147) (by decide) (by omega) (fun c4 => ?_) (fun c4 => ?_)
      · skip
        refine m_iload h dX4_findReason_147 rfl ?_
        refine m_iret h hR rfl dX4_findReason_149 ?_
        have hj : j = (2 * g_n (gC v)).toNat := by show j = (2 * v.1 1 0).toNat; omega
        have hre : (elV v r n z j).2.2 = reaS (gC v) r n z (t_s (tC v)) := by rw [hj]; rfl
        refine ⟨hre, ?_, hA.1, hA.2.1, hA.2.2.1⟩
        obtain ⟨c, q0, q1, q2⟩ : ∃ c : Int, 0 ≤ c ∧ (elV v r n z j).2.2 = 2 ^ (j - j) * c ∧ 2 ^ (j - j) * (c + 1) ≤ 2 ^ j := elN_b (T := j) rfl (by show 2 * v.1 1 0 = _; omega) j (by omega)
        rw [Nat.sub_self] at q1 q2
        have q3 : (2 : Nat) ^ j ≤ 2 ^ 16 := Nat.pow_le_pow_right (by decide) (by omega)
        have q4 : ((2 ^ j : Nat) : Int) = (2 : Int) ^ j := by rw [Int.natCast_pow]; rfl
        omega
      · skip
        obtain ⟨o, b, hb01, rfl⟩ : ∃ o b : Int, (b = 0 ∨ b = 1) ∧ p = 2 * o + b := ⟨p / 2, p % 2, by omega, by omega⟩
        have e1 : (2 * o + b).tdiv 2 = o := by rw [Int.tdiv_eq_ediv_of_nonneg (by omega)]; omega
        have ho : 0 ≤ o ∧ o < v.1 1 0 := by omega
        have eo : (2 * g_n (gC v) - 1 - (j : Int)) / 2 = o := by show (2 * v.1 1 0 - 1 - (j : Int)) / 2 = o; omega
        have em : (2 * g_n (gC v) - 1 - (j : Int)) = 2 * o + b := by show 2 * v.1 1 0 - 1 - (j : Int) = 2 * o + b; omega
        have es : elV v r n z (j + 1) = elS (gC v) r n z (lS (t_s (tC v))) (hS (t_s (tC v))) (lS (g_i (gC v))) (hS (g_i (gC v))) o (decide ((2 * o + b) % 2 = 1)) (2 ^ (2 * o + b).toNat) (elV v r n z j) := by
          show elS _ _ _ _ _ _ _ _ _ _ _ _ = _
          rw [eo, em]
          rfl
        have hmd : decide ((2 * o + b) % 2 = 1) = decide (b = 1) := by
          rcases hb01 with q | q <;> subst q <;> simp <;> omega
        rw [hmd] at es
        have hF1 := (hF o ho.1 ho.2)
        refine m_iload h dX4_findReason_35 rfl ?_
        refine m_iconst h dX4_findReason_37 ?_
        refine m_idiv h dX4_findReason_38 (by omega) (by omega) (by omega) ?_
        rw [e1]
        refine m_istore h dX4_findReason_39 (by decide) rfl ?_
        refine m_iload h dX4_findReason_41 rfl ?_
        refine m_iload_n h dX4_findReason_43 rfl rfl ?_
        refine m_icmp_eq h dX4_findReason_44 (tgt := 141) (by decide) (by omega) (by omega) (fun c5 => ?_) (fun c5 => ?_)
        · skip
          refine m_iinc h dX4_findReason_141 rfl (by decide) rfl ?_
          refine m_goto h dX4_findReason_144 (tgt := 30) (by decide) ?_
          refine m_kill 6 ?_
          have en : elV v r n z (j + 1) = elV v r n z j := by
            rw [es]
            apply elS_no
            first | (intro q; omega) | (intro q; exact hb.no (by omega) q.2)
          rw [← en]
          exact ih (j + 1) (2 * o + b + -1) u (by omega) (by omega) (by omega) hA (by rw [en]; exact hB)
        · skip
          refine m_aload_n h dX4_findReason_47 rfl rfl ?_
          refine m_iload h dX4_findReason_48 rfl ?_
          refine m_vI h (c_isAbout _ hG _ hr hrwu o (by omega)) moX1_isAbout voX1_isAbout lk_X4_49 dX4_findReason_50 (by decide) (by omega) (cE_row G _ hr) rfl rfl (Nat.le_of_ble_eq_true rfl) (fun r6 u7 p8 => ?_)
          obtain ⟨hu9, hb⟩ := p8
          rw [hu9]
          rw [eA, eF] at hb
          have hb : bz r6 (AbR (gC v) r o) := hb
          have hbi := hb.in
          refine m_if_ne h dX4_findReason_53 (tgt := 59) (by decide) (by omega) (fun c9 => ?_) (fun c9 => ?_)
          · skip
            refine m_aload_n h dX4_findReason_59 rfl rfl ?_
            refine m_get h fo_X4_21 (by decide) rfl rfl dX4_findReason_60 ?_
            refine m_iload h dX4_findReason_63 rfl ?_
            refine m_aload_n h dX4_findReason_65 rfl rfl ?_
            refine m_get h fo_X4_25 (by decide) rfl rfl dX4_findReason_66 ?_
            refine m_get h fo_X4_102 (by decide) rfl rfl dX4_findReason_69 ?_
            refine m_vV h (c_copyPart _ hG (si := 19) (sj := 4) (Or.inr (Or.inr rfl)) (Or.inl rfl) u o b (by omega) hb01) moX5_copyPart voX5_copyPart lk_X4_105 dX4_findReason_72 (by decide) (by decide) rfl rfl rfl (Nat.le_of_ble_eq_true rfl) (fun u1 p12 => ?_)
            have hu1 : u1 = if decide (b = 1) = true then wI u 21 o (v.1 6 o) else wI u 20 o (v.1 5 o) := by
              rw [p12]
              rw [show u.1 (4 + 2) o = v.1 6 o from by rw [huc (4 + 2) (by omega) (by omega)], show u.1 (4 + 1) o = v.1 5 o from by rw [huc (4 + 1) (by omega) (by omega)]]
              by_cases hb1 : b = 1
              · rw [if_pos hb1, if_pos (by simp [hb1])]
              · rw [if_neg hb1, if_neg (by simp [hb1])]
            have hA1 : FRa v u1 := by
              have q := hA.put hF ho (decide (b = 1)) (z := if decide (b = 1) = true then v.1 6 o else v.1 5 o) ⟨fun e => by rw [if_pos e]; exact Or.inr rfl, fun e => by rw [if_neg (by rw [e]; simp)]; exact Or.inr rfl⟩
              rw [hu1]
              by_cases hb1 : b = 1
              · simp only [hb1, decide_true, if_true] at q ⊢; exact q
              · simp only [hb1, decide_false, Bool.false_eq_true, if_false] at q ⊢; exact q
            have hB1 : FRb v r n u1 (if decide (b = 1) = true then (elV v r n z j).1 else up (elV v r n z j).1 o (lS (g_i (gC v)) o)) (if decide (b = 1) = true then up (elV v r n z j).2.1 o (hS (g_i (gC v)) o) else (elV v r n z j).2.1) := by
              have q := hB.put (o := o) (z := if decide (b = 1) = true then v.1 6 o else v.1 5 o) (decide (b = 1))
              rw [hu1]
              by_cases hb1 : b = 1
              · simp only [hb1, decide_true, if_true] at q ⊢; rw [hF1.1.2.1] at q ⊢; exact q
              · simp only [hb1, decide_false, Bool.false_eq_true, if_false] at q ⊢; rw [hF1.1.1] at q ⊢; exact q
            have huc1 : ∀ i, i ≠ 20 → i ≠ 21 → u1.1 i = v.1 i := hA1.2.1
            have eA1 : u1.1 (40 + r) = v.1 (40 + r) := huc1 _ (by omega) (by omega)
            have eF1 : u1.1 (52 + r) = v.1 (52 + r) := huc1 _ (by omega) (by omega)
            have hrw1 : RwOk u1 r := hrw.cg eA1 eF1
            refine m_aload_n h dX4_findReason_75 rfl rfl ?_
            refine m_iload_n h dX4_findReason_76 rfl rfl ?_
            refine m_aload_n h dX4_findReason_77 rfl rfl ?_
            refine m_get h fo_X4_21 (by decide) rfl rfl dX4_findReason_78 ?_
            refine m_iconst h dX4_findReason_81 ?_
            refine m_vI h (c_endOfOthers _ hG _ hr hrw1 (si := 19) (Or.inr (Or.inr rfl)) hA1.2.2.1 n 0 (by omega) (by omega)) moX1_endOfOthers voX1_endOfOthers lk_X4_62 dX4_findReason_82 (by decide) (by omega) (cE_row G _ hr) rfl rfl (Nat.le_of_ble_eq_true rfl) (fun p1 u14 p15 => ?_)
            obtain ⟨hu9, ep1⟩ := p15
            rw [hu9]
            refine m_istore h dX4_findReason_85 (by decide) rfl ?_
            refine m_aload_n h dX4_findReason_87 rfl rfl ?_
            refine m_iload_n h dX4_findReason_88 rfl rfl ?_
            refine m_aload_n h dX4_findReason_89 rfl rfl ?_
            refine m_get h fo_X4_21 (by decide) rfl rfl dX4_findReason_90 ?_
            refine m_iconst h dX4_findReason_93 ?_
            refine m_vI h (c_endOfOthers _ hG _ hr hrw1 (si := 19) (Or.inr (Or.inr rfl)) hA1.2.2.1 n 1 (by omega) (by omega)) moX1_endOfOthers voX1_endOfOthers lk_X4_62 dX4_findReason_94 (by decide) (by omega) (cE_row G _ hr) rfl rfl (Nat.le_of_ble_eq_true rfl) (fun p2 u17 p18 => ?_)
            obtain ⟨hu9, ep2⟩ := p18
            rw [hu9]
            refine m_istore h dX4_findReason_97 (by decide) rfl ?_
            refine m_aload_n h dX4_findReason_99 rfl rfl ?_
            refine m_iload_n h dX4_findReason_100 rfl rfl ?_
            refine m_iload_n h dX4_findReason_101 rfl rfl ?_
            refine m_aload_n h dX4_findReason_102 rfl rfl ?_
            refine m_get h fo_X4_21 (by decide) rfl rfl dX4_findReason_103 ?_
            refine m_iload h dX4_findReason_106 rfl ?_
            refine m_iload h dX4_findReason_108 rfl ?_
            refine m_vI h (c_allows _ hG _ hr hrw1 (si := 19) (Or.inr (Or.inr rfl)) hA1.2.2.1 n (by omega) z hz p1 p2 ep1 ep2 (by unfold Ab; rw [eA1, eF1]; exact hab)) moX1_allows voX1_allows lk_X4_81 dX4_findReason_110 (by decide) (by omega) (cE_row G _ hr) rfl rfl (Nat.le_of_ble_eq_true rfl) (fun r19 u20 p21 => ?_)
            obtain ⟨hu9, hc⟩ := p21
            rw [hu9]
            rw [eA1, eF1] at hc
            have hc := hc.iff (hB1.cn hrw.nm hlt (z := z))
            have hci := hc.in
            refine m_if_eq h dX4_findReason_113 (tgt := 141) (by decide) (by omega) (fun c22 => ?_) (fun c22 => ?_)
            · skip
              refine m_iinc h dX4_findReason_141 rfl (by decide) rfl ?_
              refine m_goto h dX4_findReason_144 (tgt := 30) (by decide) ?_
              refine m_kill 6 ?_
              refine m_kill 7 ?_
              refine m_kill 8 ?_
              have en := es.trans (elS_out (mo := decide (b = 1)) ⟨by omega, hb.yes (by omega)⟩ (fun q => hc.no (by omega) q))
              rw [show (elV v r n z j).2.2 = (elV v r n z (j + 1)).2.2 by rw [en]]
              exact ih (j + 1) (2 * o + b + -1) u1 (by omega) (by omega) (by omega) hA1 (by rw [en]; exact hB1)
            · skip
              refine m_aload_n h dX4_findReason_116 rfl rfl ?_
              refine m_get h fo_X4_21 (by decide) rfl rfl dX4_findReason_117 ?_
              refine m_iload h dX4_findReason_120 rfl ?_
              refine m_aload_n h dX4_findReason_122 rfl rfl ?_
              refine m_get h fo_X4_25 (by decide) rfl rfl dX4_findReason_123 ?_
              refine m_get h fo_X4_59 (by decide) rfl rfl dX4_findReason_126 ?_
              refine m_vV h (c_copyPart _ hG (si := 19) (sj := 7) (Or.inr (Or.inr rfl)) (Or.inr (Or.inl rfl)) u1 o b (by omega) hb01) moX5_copyPart voX5_copyPart lk_X4_105 dX4_findReason_129 (by decide) (by decide) rfl rfl rfl (Nat.le_of_ble_eq_true rfl) (fun u2 p25 => ?_)
              have hu2 : u2 = if decide (b = 1) = true then wI u1 21 o (v.1 9 o) else wI u1 20 o (v.1 8 o) := by
                rw [p25]
                rw [show u1.1 (7 + 2) o = v.1 9 o from by rw [huc1 (7 + 2) (by omega) (by omega)], show u1.1 (7 + 1) o = v.1 8 o from by rw [huc1 (7 + 1) (by omega) (by omega)]]
                by_cases hb1 : b = 1
                · rw [if_pos hb1, if_pos (by simp [hb1])]
                · rw [if_neg hb1, if_neg (by simp [hb1])]
              have hA2 : FRa v u2 := by
                have q := hA1.put hF ho (decide (b = 1)) (z := if decide (b = 1) = true then v.1 9 o else v.1 8 o) ⟨fun e => by rw [if_pos e]; exact Or.inl rfl, fun e => by rw [if_neg (by rw [e]; simp)]; exact Or.inl rfl⟩
                rw [hu2]
                by_cases hb1 : b = 1
                · simp only [hb1, decide_true, if_true] at q ⊢; exact q
                · simp only [hb1, decide_false, Bool.false_eq_true, if_false] at q ⊢; exact q
              have hB2 : FRb v r n u2 (if decide (b = 1) = true then (elV v r n z j).1 else up (up (elV v r n z j).1 o (lS (g_i (gC v)) o)) o (lS (t_s (tC v)) o)) (if decide (b = 1) = true then up (up (elV v r n z j).2.1 o (hS (g_i (gC v)) o)) o (hS (t_s (tC v)) o) else (elV v r n z j).2.1) := by
                have q := hB1.put (o := o) (z := if decide (b = 1) = true then v.1 9 o else v.1 8 o) (decide (b = 1))
                rw [hu2]
                by_cases hb1 : b = 1
                · simp only [hb1, decide_true, if_true] at q ⊢; rw [hF1.1.2.2.2] at q ⊢; exact q
                · simp only [hb1, decide_false, Bool.false_eq_true, if_false] at q ⊢; rw [hF1.1.2.2.1] at q ⊢; exact q
              obtain ⟨T, hT⟩ : ∃ T : Nat, 2 * g_n (gC v) = (T : Int) := ⟨(2 * v.1 1 0).toNat, by show 2 * v.1 1 0 = _; omega⟩
              have hT2 : 2 * v.1 1 0 = (T : Int) := hT
              have hbb : ∃ c : Int, 0 ≤ c ∧ (elV v r n z j).2.2 = 2 ^ (T - j) * c ∧ 2 ^ (T - j) * (c + 1) ≤ 2 ^ T := elN_b rfl hT j (by omega)
              have hpT : (2 * o + b).toNat + 1 = T - j := by omega
              have hT16 : (2 : Int) ^ T ≤ 65536 := by
                have q1 : T ≤ 16 := by omega
                have q2 : (2 : Nat) ^ T ≤ 2 ^ 16 := Nat.pow_le_pow_right (by decide) q1
                have q3 : ((2 ^ T : Nat) : Int) = (2 : Int) ^ T := by rw [Int.natCast_pow]; rfl
                omega
              refine m_iload h dX4_findReason_132 rfl ?_
              refine m_iconst h dX4_findReason_134 ?_
              refine m_iload h dX4_findReason_135 rfl ?_
              have hpe : (2 * o + b) = (((2 * o + b).toNat : Nat) : Int) := by omega
              refine m_ishl h dX4_findReason_137 (c := 2 ^ (2 * o + b).toNat) (by rw [hpe]; exact shl_p (by omega)) ?_
              refine m_ior h dX4_findReason_138 (c := (elV v r n z j).2.2 + 2 ^ (2 * o + b).toNat) (by obtain ⟨c, q0, q1, q2⟩ := hbb; exact or_add (c := c) q0 (by rw [hpT]; exact q1) (by rw [Int.mul_add] at q2; have q3 : (0 : Int) < 2 ^ (T - j) := Int.pow_pos (by decide); omega) (by omega)) ?_
              refine m_istore h dX4_findReason_139 (by decide) rfl ?_
              refine m_iinc h dX4_findReason_141 rfl (by decide) rfl ?_
              refine m_goto h dX4_findReason_144 (tgt := 30) (by decide) ?_
              refine m_kill 6 ?_
              refine m_kill 7 ?_
              refine m_kill 8 ?_
              have en := es.trans (elS_keep (mo := decide (b = 1)) ⟨by omega, hb.yes (by omega)⟩ (hc.yes (by omega)))
              rw [show (elV v r n z j).2.2 + 2 ^ (2 * o + b).toNat = (elV v r n z (j + 1)).2.2 by rw [en]]
              exact ih (j + 1) (2 * o + b + -1) u2 (by omega) (by omega) (by omega) hA2 (by
                rw [en]
                intro x q1 q2 q3 q4
                have := hB2 x q1 q2 q3 q4
                by_cases hb1 : b = 1
                · simp only [hb1, decide_true, if_true] at this ⊢
                  exact this
                · simp only [hb1, decide_false, Bool.false_eq_true, if_false] at this ⊢
                  exact this)
          · skip
            refine m_goto h dX4_findReason_56 (tgt := 141) (by decide) ?_
            refine m_iinc h dX4_findReason_141 rfl (by decide) rfl ?_
            refine m_goto h dX4_findReason_144 (tgt := 30) (by decide) ?_
            refine m_kill 6 ?_
            have en : elV v r n z (j + 1) = elV v r n z j := by
              rw [es]
              apply elS_no
              first | (intro q; omega) | (intro q; exact hb.no (by omega) q.2)
            rw [← en]
            exact ih (j + 1) (2 * o + b + -1) u (by omega) (by omega) (by omega) hA (by rw [en]; exact hB)
  refine lp30 20 0 (2 * v.1 1 0 - 1) _ (by omega) (by omega) (by omega) ?_ ?_
  · refine ⟨rfl, fun i q1 q2 => ?_, fun x => ?_, fun x q1 q2 => ?_⟩
    · funext y
      simp only [cpI]
      rw [if_neg (by omega), if_neg (by omega)]
    · have a := h7 x
      have c := h19 x
      simp only [cpI]
      by_cases hx : 0 ≤ x ∧ x < 8
      · simp [hx]; exact a
      · simp [hx]; exact c
    · simp only [cpI]
      simp [show 0 ≤ x ∧ x < 8 by omega]
  · intro x q1 q2 q3 q4
    have := (hF x q1 q2).1
    show (cpI (cpI v 8 20 8) 9 21 8).1 20 x = lS (t_s (tC v)) x ∧ (cpI (cpI v 8 20 8) 9 21 8).1 21 x = hS (t_s (tC v)) x
    rw [← this.2.2.1, ← this.2.2.2]
    simp only [cpI]
    simp [show 0 ≤ x ∧ x < 8 by omega]
