/-! the model's cells stay -/
def Fr8 (v u : Mem) : Prop := ∀ i : Nat, 23 ≤ i → i ≤ 39 → u.1 i = v.1 i
theorem Fr8.tr {u v w : Mem} (h1 : Fr8 u v) (h2 : Fr8 v w) : Fr8 u w := fun i a b => (h2 i a b).trans (h1 i a b)
theorem Fr.fr8 {v u : Mem} (h : Fr v u) : Fr8 v u := fun i a b => h.1 i (by omega)
theorem Fr8_bA {v w : Mem} (h : Fr8 v w) : Fr8 v (bA w) := h.tr bA_Fr.fr8
theorem Fr8_first {v : Mem} {n : Int} {W : Int64} : Fr8 v (fitM (wL v 2 n W) 4 n W) := fun i a b => by rw [fit_oth (by omega) (by omega)]; rfl
theorem Fr8_1 {v : Mem} {x : Int} : Fr8 v (wI v 1 0 x) := fun i a b => wI_c (by omega)
set_option maxRecDepth 100000 in
set_option maxHeartbeats 4000000 in
theorem c_told (l : Launch) {G : GT} (hG : gok G) (v : Mem) (hC : OKC v) (i : Int) (hi : -2147483648 ≤ i ∧ i ≤ 2147483647) (k : Int) (hk : -2147483648 ≤ k ∧ k ≤ 2147483647) : CC l G nX7_told 3 [.ref (G.2.1 0), .int (iI i), .int (iI k)] v (qI G (fun r u => u = v ∧ A_told (gC v) (tC v) i k r)) := by
  refine m_start (lv := [some (.ref (G.2.1 0)), some (.int (iI i)), some (.int (iI k)), none, none, none, none]) hG (by decide +kernel) rfl (Nat.le_of_ble_eq_true rfl) ?_
  intro X hL h hR
  subst hL
  obtain ⟨⟨hI, hJ, hK, hNE⟩, hW, hX⟩ := id hC
  have hc8 := hI.1
  have hc12 := hI.2.1
  have hkc := hK.1
  have htn := tot_nn (t_s (tC v))
  show M X G 7 v 0 [some (.ref (G.2.1 0)), some (.int (iI i)), some (.int (iI k)), none, none, none, none] []
  refine m_aload_n h dX7_told_0 rfl rfl ?_
  refine m_iload_n h dX7_told_1 rfl rfl ?_
  refine m_iload_n h dX7_told_2 rfl rfl ?_
  refine m_vI h (c_part _ hG _ hC i hi k hk) moX7_part voX7_part lk_X7_166 dX7_told_3 (by decide) (by decide) rfl rfl rfl (Nat.le_of_ble_eq_true rfl) (fun q u2 p3 => ?_)
  obtain ⟨hu9, hap⟩ := p3
  rw [hu9]
  have hqr : q = -1001 ∨ (0 ≤ q ∧ q < 16) := by
    rcases hap with ⟨-, e⟩ | ⟨-, t, t1, t2, -⟩
    · exact Or.inl e
    · right; omega
  refine m_istore_n h dX7_told_6 rfl (by decide) rfl ?_
  refine m_iload_n h dX7_told_7 rfl rfl ?_
  refine m_iconst h dX7_told_8 ?_
  refine m_idiv h dX7_told_9 (by omega) (by omega) (by omega) ?_
  refine m_istore h dX7_told_10 (by decide) rfl ?_
  refine m_iload_n h dX7_told_12 rfl rfl ?_
  refine m_if_lt h dX7_told_13 (tgt := 25) (by decide) (by omega) (fun c4 => ?_) (fun c4 => ?_)
  · skip
    refine m_sipush h dX7_told_25 (by decide) ?_
    refine m_iret h hR rfl dX7_told_28 ?_
    refine ⟨rfl, Or.inl ⟨?_, rfl⟩⟩
    rcases hap with ⟨e, -⟩ | ⟨-, t, t1, t2, -⟩
    · exact e
    · exfalso; omega
  · skip
    obtain ⟨hpt9, er⟩ : isPt (tC v) i k ∧ Kth (pb (t_p (tC v) i)) k q := by
      rcases hap with ⟨-, e⟩ | e
      · exfalso; omega
      · exact e
    have hst : 0 ≤ i ∧ i < v.1 12 0 := hpt9.1
    obtain ⟨ic, rfl⟩ : ∃ ic : Nat, i = (ic : Int) := ⟨i.toNat, by omega⟩
    have hq16 : 0 ≤ q ∧ q < 16 := by obtain ⟨t, t1, t2, -⟩ := er; omega
    have hqd : q.tdiv 2 = q / 2 := Int.tdiv_eq_ediv_of_nonneg (by omega)
    have hqm : q.tmod 2 = q % 2 := Int.tmod_eq_emod_of_nonneg (by omega)
    have hwi := hW.2.2 ic hst.2
    have hqn : q / 2 < v.1 1 0 := by
      apply Int.not_le.mp
      intro hle
      obtain ⟨t, t1, t2, t3, -⟩ := er
      have q1 : (t_p (tC v) (ic : Int)).toNat < 2 ^ (2 * v.1 1 0).toNat := by
        have a1 := hwi.2.1
        have a2 : t_p (tC v) (ic : Int) < 2 ^ (2 * v.1 1 0).toNat := hwi.2.2
        have a3 : ((2 ^ (2 * v.1 1 0).toNat : Nat) : Int) = (2 : Int) ^ (2 * v.1 1 0).toNat := by rw [Int.natCast_pow]; rfl
        omega
      have q2 := Nat.testBit_lt_two_pow (x := (t_p (tC v) (ic : Int)).toNat) (i := t) (Nat.lt_of_lt_of_le q1 (Nat.pow_le_pow_right (by decide) (by omega)))
      have q3 : (v.1 17 (ic : Int)).toNat.testBit t = true := by
        have : pb (v.1 17 (ic : Int)) t = true := t3
        unfold pb at this; rwa [Int.toNat_natCast] at this
      have q4 : (v.1 17 (ic : Int)).toNat.testBit t = false := q2
      rw [q4] at q3; cases q3
    rw [hqd]
    refine m_aload_n h dX7_told_16 rfl rfl ?_
    refine m_iload h dX7_told_17 rfl ?_
    refine m_vI h (c_isName _ hG _ (q / 2) (by omega) (by omega)) moX7_isName voX7_isName lk_X7_63 dX7_told_19 (by decide) (by decide) rfl rfl rfl (Nat.le_of_ble_eq_true rfl) (fun r5 u6 p7 => ?_)
    obtain ⟨hu9, hb2⟩ := p7
    rw [hu9]
    have hb2i := hb2.in
    refine m_if_ne h dX7_told_22 (tgt := 29) (by decide) (by omega) (fun c8 => ?_) (fun c8 => ?_)
    · skip
      refine m_aload_n h dX7_told_29 rfl rfl ?_
      refine m_get h fo_X7_26 (by decide) rfl rfl dX7_told_30 ?_
      refine m_aload_n h dX7_told_33 rfl rfl ?_
      refine m_get h fo_X7_10 (by decide) rfl rfl dX7_told_34 ?_
      refine m_get h fo_X7_66 (by decide) rfl rfl dX7_told_37 ?_
      refine m_iload h dX7_told_40 rfl ?_
      refine m_lald h (ar_2 G) (by omega) (by omega) dX7_told_42 ?_
      refine m_iload h dX7_told_43 rfl ?_
      refine m_iload_n h dX7_told_45 rfl rfl ?_
      refine m_vL h (c_without _ hG _ (v.2 2 (q / 2)) (q / 2) ic (by omega) (by omega) hK.2.2.1 hK.2.2.2.1) moX6_without voX6_without lk_X7_169 dX7_told_46 (by decide) (by decide) rfl rfl rfl (Nat.le_of_ble_eq_true rfl) (fun ws u10 p11 => ?_)
      obtain ⟨hu9, ew⟩ := p11
      rw [hu9]
      have hZw : hbZ ws = woS (g_i (gC v) (q / 2)) (t_n (tC v)) (t_z (tC v)) (q / 2) ic := by rw [ew]; exact hbZ_wo hK.2.2.2.1 ic
      have hws0 : uW ws ≠ 0 := by
        intro q0
        have := hwi.1 (q / 2) (by omega) hqn
        rw [← hZw] at this
        exact this (emp_Z.mpr q0)
      refine m_lstore h dX7_told_49 (by decide) rfl ?_
      refine m_iload_n h dX7_told_51 rfl rfl ?_
      refine m_iconst h dX7_told_52 ?_
      refine m_irem h dX7_told_53 (by omega) (by omega) (by omega) ?_
      rw [hqm]
      refine m_iconst h dX7_told_54 ?_
      refine m_icmp_ne h dX7_told_55 (tgt := 66) (by decide) (by omega) (by omega) (fun c12 => ?_) (fun c12 => ?_)
      · skip
        refine m_lload h dX7_told_66 rfl ?_
        refine m_sI h (c_leastOf _ hG _ ws hws0) moX7_leastOf stX7_leastOf lk_X7_131 dX7_told_68 (by decide) rfl rfl (Nat.le_of_ble_eq_true rfl) (fun r13 u14 p15 => ?_)
        obtain ⟨hu9, em⟩ := p15
        rw [hu9]
        refine m_iret h hR rfl dX7_told_71 ?_
        refine ⟨rfl, Or.inr ⟨hpt9, q, er, ?_⟩⟩
        first
          | (rw [if_pos (by omega), em, ← SM_Z, hZw, Int.toNat_natCast])
          | (rw [if_neg (by omega), em, ← SL_Z, hZw, Int.toNat_natCast])
      · skip
        refine m_lload h dX7_told_58 rfl ?_
        refine m_sI h (c_mostOf _ hG _ ws hws0) moX7_mostOf stX7_mostOf lk_X7_127 dX7_told_60 (by decide) rfl rfl (Nat.le_of_ble_eq_true rfl) (fun r16 u17 p18 => ?_)
        obtain ⟨hu9, em⟩ := p18
        rw [hu9]
        refine m_goto h dX7_told_63 (tgt := 71) (by decide) ?_
        refine m_iret h hR rfl dX7_told_71 ?_
        refine ⟨rfl, Or.inr ⟨hpt9, q, er, ?_⟩⟩
        first
          | (rw [if_pos (by omega), em, ← SM_Z, hZw, Int.toNat_natCast])
          | (rw [if_neg (by omega), em, ← SL_Z, hZw, Int.toNat_natCast])
    · skip
      exact absurd (show 0 ≤ q / 2 ∧ q / 2 < v.1 1 0 by omega) (hb2.no (by omega))

set_option maxRecDepth 100000 in
set_option maxHeartbeats 4000000 in
theorem c_run (l : Launch) {G : GT} (hG : gok G) (v : Mem) (hC : OKC v) (od : Int) (hod : -2147483648 ≤ od ∧ od ≤ 2147483647) (m : Int) (hm : -2147483648 ≤ m ∧ m ≤ 2147483647) : CC l G nX7_run 7 [.ref (G.2.1 0), .int (iI od), .int (iI m)] v (qI G (fun r u => (¬ ((0 ≤ od ∧ od ≤ 1) ∧ 1 ≤ m ∧ m ≤ 200) ∧ r = -1001 ∧ u = v) ∨ (((0 ≤ od ∧ od ≤ 1) ∧ 1 ≤ m ∧ m ≤ 200) ∧ r = (if t_x (rnS (gC v) od m.toNat 0 (tC v)).2 = -1000 then (rnS (gC v) od m.toNat 0 (tC v)).1 else 0) ∧ tC u = (rnS (gC v) od m.toNat 0 (tC v)).2 ∧ Fr v u ∧ JC u ∧ KC u))) := by
  refine m_start (lv := [some (.ref (G.2.1 0)), some (.int (iI od)), some (.int (iI m)), none, none, none]) hG (by decide +kernel) rfl (Nat.le_of_ble_eq_true rfl) ?_
  intro X hL h hR
  subst hL
  obtain ⟨⟨hI, hJ, hK, hNE⟩, hW, hX⟩ := id hC
  have hc8 := hI.1
  have hc12 := hI.2.1
  have hkc := hK.1
  have htn := tot_nn (t_s (tC v))
  show M X G 6 v 0 [some (.ref (G.2.1 0)), some (.int (iI od)), some (.int (iI m)), none, none, none] []
  refine m_iload_n h dX7_run_0 rfl rfl ?_
  refine m_if_lt h dX7_run_1 (tgt := 21) (by decide) (by omega) (fun c1 => ?_) (fun c1 => ?_)
  · skip
    refine m_sipush h dX7_run_21 (by decide) ?_
    refine m_iret h hR rfl dX7_run_24 ?_
    exact Or.inl ⟨by omega, rfl, rfl⟩
  · skip
    refine m_iload_n h dX7_run_4 rfl rfl ?_
    refine m_iconst h dX7_run_5 ?_
    refine m_icmp_gt h dX7_run_6 (tgt := 21) (by decide) (by omega) (by omega) (fun c2 => ?_) (fun c2 => ?_)
    · skip
      refine m_sipush h dX7_run_21 (by decide) ?_
      refine m_iret h hR rfl dX7_run_24 ?_
      exact Or.inl ⟨by omega, rfl, rfl⟩
    · skip
      refine m_iload_n h dX7_run_9 rfl rfl ?_
      refine m_iconst h dX7_run_10 ?_
      refine m_icmp_lt h dX7_run_11 (tgt := 21) (by decide) (by omega) (by omega) (fun c3 => ?_) (fun c3 => ?_)
      · skip
        refine m_sipush h dX7_run_21 (by decide) ?_
        refine m_iret h hR rfl dX7_run_24 ?_
        exact Or.inl ⟨by omega, rfl, rfl⟩
      · skip
        refine m_iload_n h dX7_run_14 rfl rfl ?_
        refine m_sipush h dX7_run_15 (by decide) ?_
        refine m_icmp_le h dX7_run_18 (tgt := 25) (by decide) (by omega) (by omega) (fun c4 => ?_) (fun c4 => ?_)
        · skip
          refine m_iconst h dX7_run_25 ?_
          refine m_istore_n h dX7_run_26 rfl (by decide) rfl ?_
          refine m_iconst h dX7_run_27 ?_
          refine m_istore h dX7_run_28 (by decide) rfl ?_
          have lp30 : ∀ (fuel : Nat) (u : Mem) (d : Int) (rs : Int), (0 ≤ d ∧ d ≤ m) → (rs = 0 ∨ rs = 1) → (m - d).toNat < fuel → rnS (gC v) od m.toNat 0 (tC v) = (if rs = 1 then (d, tC u) else rnS (gC v) od (m - d).toNat d (tC u)) → Fr v u → JC u → KC u → NE (gC v) (tC u) → XR (gC v) (tC u) → M X G 6 u 30 [some (.ref (G.2.1 0)), some (.int (iI od)), some (.int (iI m)), some (.int (iI d)), some (.int (iI rs)), none] [] := by
            intro fuel
            induction fuel with
            | zero => intro u d rs hd hrs hfu hRN hFu hJu hKu hNEu hXu; exfalso; omega
            | succ fuel ih =>
              intro u d rs hd hrs hfu hRN hFu hJu hKu hNEu hXu
              have hcu : gC u = gC v := hFu.g
              have hIu : IC u := hFu.ic hI
              have hxr : -1000 ≤ u.1 18 0 ∧ u.1 18 0 ≤ 12 := by
                have q : u.1 18 0 = -1000 ∨ (0 ≤ u.1 18 0 ∧ u.1 18 0 < v.1 10 0) := hXu
                omega
              have hkr := hKu.1
              have htu := tot_nn (t_s (tC u))
              refine m_iload_n h dX7_run_30 rfl rfl ?_
              refine m_iload_n h dX7_run_31 rfl rfl ?_
              refine m_icmp_ge h dX7_run_32 (tgt := 104) (by decide) (by omega) (by omega) (fun c5 => ?_) (fun c5 => ?_)
              · skip
                refine m_aload_n h dX7_run_104 rfl rfl ?_
                refine m_get h fo_X7_35 (by decide) rfl rfl dX7_run_105 ?_
                refine m_get h fo_X7_116 (by decide) rfl rfl dX7_run_108 ?_
                refine m_sipush h dX7_run_111 (by decide) ?_
                refine m_icmp_ne h dX7_run_114 (tgt := 121) (by decide) (by omega) (by omega) (fun c6 => ?_) (fun c6 => ?_)
                · skip
                  refine m_iconst h dX7_run_121 ?_
                  refine m_iret h hR rfl dX7_run_122 ?_
                  have hfin : rnS (gC v) od m.toNat 0 (tC v) = (d, tC u) := by
                    rw [hRN]
                    by_cases q1 : rs = 1
                    · rw [if_pos q1]
                    · rw [if_neg q1]
                      by_cases q2 : m ≤ d
                      · rw [show (m - d).toNat = 0 by omega]; rfl
                      · apply rnS_stop
                        show u.1 18 0 ≠ -1000
                        omega
                  refine Or.inr ⟨by omega, ?_, by rw [hfin], hFu, hJu, hKu⟩
                  rw [hfin]
                  rw [if_neg (by show ¬ u.1 18 0 = -1000; omega)]
                · skip
                  refine m_iload_n h dX7_run_117 rfl rfl ?_
                  refine m_goto h dX7_run_118 (tgt := 122) (by decide) ?_
                  refine m_iret h hR rfl dX7_run_122 ?_
                  have hfin : rnS (gC v) od m.toNat 0 (tC v) = (d, tC u) := by
                    rw [hRN]
                    by_cases q1 : rs = 1
                    · rw [if_pos q1]
                    · rw [if_neg q1]
                      by_cases q2 : m ≤ d
                      · rw [show (m - d).toNat = 0 by omega]; rfl
                      · apply rnS_stop
                        show u.1 18 0 ≠ -1000
                        omega
                  refine Or.inr ⟨by omega, ?_, by rw [hfin], hFu, hJu, hKu⟩
                  rw [hfin]
                  rw [if_pos (by show u.1 18 0 = -1000; omega)]
              · skip
                refine m_iload h dX7_run_35 rfl ?_
                refine m_if_ne h dX7_run_37 (tgt := 104) (by decide) (by omega) (fun c7 => ?_) (fun c7 => ?_)
                · skip
                  refine m_aload_n h dX7_run_104 rfl rfl ?_
                  refine m_get h fo_X7_35 (by decide) rfl rfl dX7_run_105 ?_
                  refine m_get h fo_X7_116 (by decide) rfl rfl dX7_run_108 ?_
                  refine m_sipush h dX7_run_111 (by decide) ?_
                  refine m_icmp_ne h dX7_run_114 (tgt := 121) (by decide) (by omega) (by omega) (fun c8 => ?_) (fun c8 => ?_)
                  · skip
                    refine m_iconst h dX7_run_121 ?_
                    refine m_iret h hR rfl dX7_run_122 ?_
                    have hfin : rnS (gC v) od m.toNat 0 (tC v) = (d, tC u) := by
                      rw [hRN]
                      by_cases q1 : rs = 1
                      · rw [if_pos q1]
                      · rw [if_neg q1]
                        by_cases q2 : m ≤ d
                        · rw [show (m - d).toNat = 0 by omega]; rfl
                        · apply rnS_stop
                          show u.1 18 0 ≠ -1000
                          omega
                    refine Or.inr ⟨by omega, ?_, by rw [hfin], hFu, hJu, hKu⟩
                    rw [hfin]
                    rw [if_neg (by show ¬ u.1 18 0 = -1000; omega)]
                  · skip
                    refine m_iload_n h dX7_run_117 rfl rfl ?_
                    refine m_goto h dX7_run_118 (tgt := 122) (by decide) ?_
                    refine m_iret h hR rfl dX7_run_122 ?_
                    have hfin : rnS (gC v) od m.toNat 0 (tC v) = (d, tC u) := by
                      rw [hRN]
                      by_cases q1 : rs = 1
                      · rw [if_pos q1]
                      · rw [if_neg q1]
                        by_cases q2 : m ≤ d
                        · rw [show (m - d).toNat = 0 by omega]; rfl
                        · apply rnS_stop
                          show u.1 18 0 ≠ -1000
                          omega
                    refine Or.inr ⟨by omega, ?_, by rw [hfin], hFu, hJu, hKu⟩
                    rw [hfin]
                    rw [if_pos (by show u.1 18 0 = -1000; omega)]
                · skip
                  refine m_aload_n h dX7_run_40 rfl rfl ?_
                  refine m_get h fo_X7_35 (by decide) rfl rfl dX7_run_41 ?_
                  refine m_get h fo_X7_116 (by decide) rfl rfl dX7_run_44 ?_
                  refine m_sipush h dX7_run_47 (by decide) ?_
                  refine m_icmp_ne h dX7_run_50 (tgt := 104) (by decide) (by omega) (by omega) (fun c9 => ?_) (fun c9 => ?_)
                  · skip
                    refine m_aload_n h dX7_run_104 rfl rfl ?_
                    refine m_get h fo_X7_35 (by decide) rfl rfl dX7_run_105 ?_
                    refine m_get h fo_X7_116 (by decide) rfl rfl dX7_run_108 ?_
                    refine m_sipush h dX7_run_111 (by decide) ?_
                    refine m_icmp_ne h dX7_run_114 (tgt := 121) (by decide) (by omega) (by omega) (fun c10 => ?_) (fun c10 => ?_)
                    · skip
                      refine m_iconst h dX7_run_121 ?_
                      refine m_iret h hR rfl dX7_run_122 ?_
                      have hfin : rnS (gC v) od m.toNat 0 (tC v) = (d, tC u) := by
                        rw [hRN]
                        by_cases q1 : rs = 1
                        · rw [if_pos q1]
                        · rw [if_neg q1]
                          by_cases q2 : m ≤ d
                          · rw [show (m - d).toNat = 0 by omega]; rfl
                          · apply rnS_stop
                            show u.1 18 0 ≠ -1000
                            omega
                      refine Or.inr ⟨by omega, ?_, by rw [hfin], hFu, hJu, hKu⟩
                      rw [hfin]
                      rw [if_neg (by show ¬ u.1 18 0 = -1000; omega)]
                    · skip
                      refine m_iload_n h dX7_run_117 rfl rfl ?_
                      refine m_goto h dX7_run_118 (tgt := 122) (by decide) ?_
                      refine m_iret h hR rfl dX7_run_122 ?_
                      have hfin : rnS (gC v) od m.toNat 0 (tC v) = (d, tC u) := by
                        rw [hRN]
                        by_cases q1 : rs = 1
                        · rw [if_pos q1]
                        · rw [if_neg q1]
                          by_cases q2 : m ≤ d
                          · rw [show (m - d).toNat = 0 by omega]; rfl
                          · apply rnS_stop
                            show u.1 18 0 ≠ -1000
                            omega
                      refine Or.inr ⟨by omega, ?_, by rw [hfin], hFu, hJu, hKu⟩
                      rw [hfin]
                      rw [if_pos (by show u.1 18 0 = -1000; omega)]
                  · skip
                    refine m_aload_n h dX7_run_53 rfl rfl ?_
                    refine m_get h fo_X7_26 (by decide) rfl rfl dX7_run_54 ?_
                    refine m_get h fo_X7_119 (by decide) rfl rfl dX7_run_57 ?_
                    refine m_istore h dX7_run_60 (by decide) rfl ?_
                    refine m_aload_n h dX7_run_62 rfl rfl ?_
                    refine m_get h fo_X7_35 (by decide) rfl rfl dX7_run_63 ?_
                    refine m_iload_n h dX7_run_66 rfl rfl ?_
                    refine m_iconst h dX7_run_67 ?_
                    refine m_icmp_ne h dX7_run_68 (tgt := 75) (by decide) (by omega) (by omega) (fun c11 => ?_) (fun c11 => ?_)
                    · skip
                      refine m_iconst h dX7_run_75 ?_
                      refine m_vV h (c_doOne _ hG u ⟨hIu, hJu, hKu, by rw [hcu]; exact hNEu⟩ (by omega) 0 (by omega)) moX4_doOne voX4_doOne lk_X7_120 dX7_run_76 (by decide) (by decide) rfl rfl rfl (Nat.le_of_ble_eq_true rfl) (fun u1 p14 => ?_)
                      obtain ⟨hs1, hs2, hs3, hs4⟩ := p14
                      rw [hcu, show (0 : Int) = od by omega] at hs1
                      have hxu : t_x (tC u) = -1000 := by show u.1 18 0 = -1000; omega
                      have hNE1 : NE (gC v) (tC u1) := by rw [hs1]; exact rdS_ne (t := setD (tC u) (t_d (tC u) + 1)) hNEu _
                      have hX1 : XR (gC v) (tC u1) := by rw [hs1]; exact onS_x (by show 0 ≤ v.1 10 0; omega) hXu
                      have hk1 := hs4.1
                      have ht1 := tot_nn (t_s (tC u1))
                      refine m_aload_n h dX7_run_79 rfl rfl ?_
                      refine m_get h fo_X7_26 (by decide) rfl rfl dX7_run_80 ?_
                      refine m_get h fo_X7_119 (by decide) rfl rfl dX7_run_83 ?_
                      refine m_iload h dX7_run_86 rfl ?_
                      refine m_icmp_ne h dX7_run_88 (tgt := 95) (by decide) (by omega) (by omega) (fun c15 => ?_) (fun c15 => ?_)
                      · skip
                        refine m_iconst h dX7_run_95 ?_
                        refine m_istore h dX7_run_96 (by decide) rfl ?_
                        refine m_iinc h dX7_run_98 rfl (by decide) rfl ?_
                        refine m_goto h dX7_run_101 (tgt := 30) (by decide) ?_
                        refine m_kill 5 ?_
                        exact ih u1 (d + 1) 0 (by omega) (by omega) (by omega) (by
                          rw [if_neg (by omega), hRN, if_neg (by omega), show (m - d).toNat = (m - (d + 1)).toNat + 1 by omega]
                          simp only [rnS]
                          rw [if_pos hxu, ← hs1, if_neg (by show ¬ u1.1 12 0 = u.1 12 0; omega)]) (hFu.tr hs2) hs3 hs4 hNE1 hX1
                      · skip
                        refine m_iconst h dX7_run_91 ?_
                        refine m_goto h dX7_run_92 (tgt := 96) (by decide) ?_
                        refine m_istore h dX7_run_96 (by decide) rfl ?_
                        refine m_iinc h dX7_run_98 rfl (by decide) rfl ?_
                        refine m_goto h dX7_run_101 (tgt := 30) (by decide) ?_
                        refine m_kill 5 ?_
                        exact ih u1 (d + 1) 1 (by omega) (by omega) (by omega) (by
                          rw [if_pos rfl, hRN, if_neg (by omega), show (m - d).toNat = (m - (d + 1)).toNat + 1 by omega]
                          simp only [rnS]
                          rw [if_pos hxu, ← hs1, if_pos (by show u1.1 12 0 = u.1 12 0; omega)]) (hFu.tr hs2) hs3 hs4 hNE1 hX1
                    · skip
                      refine m_iconst h dX7_run_71 ?_
                      refine m_goto h dX7_run_72 (tgt := 76) (by decide) ?_
                      refine m_vV h (c_doOne _ hG u ⟨hIu, hJu, hKu, by rw [hcu]; exact hNEu⟩ (by omega) 1 (by omega)) moX4_doOne voX4_doOne lk_X7_120 dX7_run_76 (by decide) (by decide) rfl rfl rfl (Nat.le_of_ble_eq_true rfl) (fun u1 p18 => ?_)
                      obtain ⟨hs1, hs2, hs3, hs4⟩ := p18
                      rw [hcu, show (1 : Int) = od by omega] at hs1
                      have hxu : t_x (tC u) = -1000 := by show u.1 18 0 = -1000; omega
                      have hNE1 : NE (gC v) (tC u1) := by rw [hs1]; exact rdS_ne (t := setD (tC u) (t_d (tC u) + 1)) hNEu _
                      have hX1 : XR (gC v) (tC u1) := by rw [hs1]; exact onS_x (by show 0 ≤ v.1 10 0; omega) hXu
                      have hk1 := hs4.1
                      have ht1 := tot_nn (t_s (tC u1))
                      refine m_aload_n h dX7_run_79 rfl rfl ?_
                      refine m_get h fo_X7_26 (by decide) rfl rfl dX7_run_80 ?_
                      refine m_get h fo_X7_119 (by decide) rfl rfl dX7_run_83 ?_
                      refine m_iload h dX7_run_86 rfl ?_
                      refine m_icmp_ne h dX7_run_88 (tgt := 95) (by decide) (by omega) (by omega) (fun c19 => ?_) (fun c19 => ?_)
                      · skip
                        refine m_iconst h dX7_run_95 ?_
                        refine m_istore h dX7_run_96 (by decide) rfl ?_
                        refine m_iinc h dX7_run_98 rfl (by decide) rfl ?_
                        refine m_goto h dX7_run_101 (tgt := 30) (by decide) ?_
                        refine m_kill 5 ?_
                        exact ih u1 (d + 1) 0 (by omega) (by omega) (by omega) (by
                          rw [if_neg (by omega), hRN, if_neg (by omega), show (m - d).toNat = (m - (d + 1)).toNat + 1 by omega]
                          simp only [rnS]
                          rw [if_pos hxu, ← hs1, if_neg (by show ¬ u1.1 12 0 = u.1 12 0; omega)]) (hFu.tr hs2) hs3 hs4 hNE1 hX1
                      · skip
                        refine m_iconst h dX7_run_91 ?_
                        refine m_goto h dX7_run_92 (tgt := 96) (by decide) ?_
                        refine m_istore h dX7_run_96 (by decide) rfl ?_
                        refine m_iinc h dX7_run_98 rfl (by decide) rfl ?_
                        refine m_goto h dX7_run_101 (tgt := 30) (by decide) ?_
                        refine m_kill 5 ?_
                        exact ih u1 (d + 1) 1 (by omega) (by omega) (by omega) (by
                          rw [if_pos rfl, hRN, if_neg (by omega), show (m - d).toNat = (m - (d + 1)).toNat + 1 by omega]
                          simp only [rnS]
                          rw [if_pos hxu, ← hs1, if_pos (by show u1.1 12 0 = u.1 12 0; omega)]) (hFu.tr hs2) hs3 hs4 hNE1 hX1
          exact lp30 400 v 0 0 (by omega) (by omega) (by omega) (by rw [if_neg (by omega), Int.sub_zero]) Fr.rf hJ hK hNE hX
        · skip
          refine m_sipush h dX7_run_21 (by decide) ?_
          refine m_iret h hR rfl dX7_run_24 ?_
          exact Or.inl ⟨by omega, rfl, rfl⟩

set_option maxRecDepth 100000 in
set_option maxHeartbeats 4000000 in
theorem c_clear (l : Launch) {G : GT} (hG : gok G) (v : Mem) (hC : OKC v) : CC l G nX7_clear 4 [.ref (G.2.1 0)] v (qI G (fun r u => r = g_n (gC v) ∧ gC u = clG (gC v) ∧ tC u = anT (clG (gC v)) (tC v) ∧ OKC u ∧ u = bA (wI (wI v 1 0 0) 10 0 0))) := by
  refine m_start (lv := [some (.ref (G.2.1 0)), none]) hG (by decide +kernel) rfl (Nat.le_of_ble_eq_true rfl) ?_
  intro X hL h hR
  subst hL
  show M X G 2 v 0 [some (.ref (G.2.1 0)), none] []
  refine m_aload_n h dX7_clear_0 rfl rfl ?_
  refine m_get h fo_X7_10 (by decide) rfl rfl dX7_clear_1 ?_
  refine m_get h fo_X7_52 (by decide) rfl rfl dX7_clear_4 ?_
  refine m_istore_n h dX7_clear_7 rfl (by decide) rfl ?_
  refine m_aload_n h dX7_clear_8 rfl rfl ?_
  refine m_get h fo_X7_10 (by decide) rfl rfl dX7_clear_9 ?_
  refine m_iconst h dX7_clear_12 ?_
  refine m_putJ h fw_X7_52 (by decide) rfl (Nat.le_of_ble_eq_true rfl) (kz := 0) rfl rfl dX7_clear_13 ?_
  refine m_aload_n h dX7_clear_16 rfl rfl ?_
  refine m_get h fo_X7_19 (by decide) rfl rfl dX7_clear_17 ?_
  refine m_iconst h dX7_clear_20 ?_
  refine m_putJ h fw_X7_89 (by decide) rfl (Nat.le_of_ble_eq_true rfl) (kz := 0) rfl rfl dX7_clear_21 ?_
  refine m_aload_n h dX7_clear_24 rfl rfl ?_
  refine m_vV h (c_beginAnew _ hG _) moX7_beginAnew voX7_beginAnew lk_X7_60 dX7_clear_25 (by decide) (by decide) rfl rfl rfl (Nat.le_of_ble_eq_true rfl) (fun u2 p3 => ?_)
  subst p3
  refine m_iload_n h dX7_clear_28 rfl rfl ?_
  refine m_iret h hR rfl dX7_clear_29 ?_
  obtain ⟨q1, q2, q3⟩ := clear_C hC
  exact ⟨rfl, q1, q2, q3, rfl⟩

set_option maxRecDepth 100000 in
set_option maxHeartbeats 4000000 in
theorem c_factor (l : Launch) {G : GT} (hG : gok G) (v : Mem) (hC : OKC v) (rr : Int) (hrr : -2147483648 ≤ rr ∧ rr ≤ 2147483647) (n : Int) (hn : -2147483648 ≤ n ∧ n ≤ 2147483647) (f : Int) (hf : -2147483648 ≤ f ∧ f ≤ 2147483647) : CC l G nX7_factor 4 [.ref (G.2.1 0), .int (iI rr), .int (iI n), .int (iI f)] v (qI G (fun r u => (¬ ((0 ≤ rr ∧ rr < g_r (gC v)) ∧ isNm (gC v) n ∧ -9 ≤ f ∧ f ≤ 9) ∧ r = -1001 ∧ u = v) ∨ (((0 ≤ rr ∧ rr < g_r (gC v)) ∧ isNm (gC v) n ∧ -9 ≤ f ∧ f ≤ 9) ∧ ((((2 ≤ g_a (gC v) rr.toNat 0 ∧ g_a (gC v) rr.toNat 0 ≤ 7) ∨ g_a (gC v) rr.toNat 1 = n) ∧ r = -1002 ∧ u = v) ∨
  (¬ ((2 ≤ g_a (gC v) rr.toNat 0 ∧ g_a (gC v) rr.toNat 0 ≤ 7) ∨ g_a (gC v) rr.toNat 1 = n) ∧ r = g_f (gC v) rr.toNat n ∧ gC u = fcG (gC v) rr.toNat n f ∧ tC u = anT (fcG (gC v) rr.toNat n f) (tC v) ∧ OKC u ∧ u = bA (wI v (52 + rr.toNat) n f)))))) := by
  refine m_start (lv := [some (.ref (G.2.1 0)), some (.int (iI rr)), some (.int (iI n)), some (.int (iI f)), none, none]) hG (by decide +kernel) rfl (Nat.le_of_ble_eq_true rfl) ?_
  intro X hL h hR
  subst hL
  obtain ⟨⟨hI, hJ, hK, hNE⟩, hW, hX⟩ := id hC
  have hc8 := hI.1
  have hc12 := hI.2.1
  have hkc := hK.1
  have htn := tot_nn (t_s (tC v))
  show M X G 6 v 0 [some (.ref (G.2.1 0)), some (.int (iI rr)), some (.int (iI n)), some (.int (iI f)), none, none] []
  refine m_aload_n h dX7_factor_0 rfl rfl ?_
  refine m_iload_n h dX7_factor_1 rfl rfl ?_
  refine m_vI h (c_isRow _ hG _ rr (by omega) (by omega)) moX7_isRow voX7_isRow lk_X7_103 dX7_factor_2 (by decide) (by decide) rfl rfl rfl (Nat.le_of_ble_eq_true rfl) (fun r1 u2 p3 => ?_)
  obtain ⟨hu9, hb1⟩ := p3
  rw [hu9]
  have hb1i := hb1.in
  refine m_if_eq h dX7_factor_5 (tgt := 28) (by decide) (by omega) (fun c4 => ?_) (fun c4 => ?_)
  · skip
    refine m_sipush h dX7_factor_28 (by decide) ?_
    refine m_iret h hR rfl dX7_factor_31 ?_
    refine Or.inl ⟨fun q => ?_, rfl, rfl⟩
    obtain ⟨q1, q2, q3, q4⟩ := q
    first
      | exact hb1.no (by omega) q1
      | exact hb2.no (by omega) q2
      | omega
  · skip
    refine m_aload_n h dX7_factor_8 rfl rfl ?_
    refine m_iload_n h dX7_factor_9 rfl rfl ?_
    refine m_vI h (c_isName _ hG _ n (by omega) (by omega)) moX7_isName voX7_isName lk_X7_63 dX7_factor_10 (by decide) (by decide) rfl rfl rfl (Nat.le_of_ble_eq_true rfl) (fun r5 u6 p7 => ?_)
    obtain ⟨hu9, hb2⟩ := p7
    rw [hu9]
    have hb2i := hb2.in
    refine m_if_eq h dX7_factor_13 (tgt := 28) (by decide) (by omega) (fun c8 => ?_) (fun c8 => ?_)
    · skip
      refine m_sipush h dX7_factor_28 (by decide) ?_
      refine m_iret h hR rfl dX7_factor_31 ?_
      refine Or.inl ⟨fun q => ?_, rfl, rfl⟩
      obtain ⟨q1, q2, q3, q4⟩ := q
      first
        | exact hb1.no (by omega) q1
        | exact hb2.no (by omega) q2
        | omega
    · skip
      refine m_iload_n h dX7_factor_16 rfl rfl ?_
      refine m_bipush h dX7_factor_17 (by decide) ?_
      refine m_icmp_lt h dX7_factor_19 (tgt := 28) (by decide) (by omega) (by omega) (fun c9 => ?_) (fun c9 => ?_)
      · skip
        refine m_sipush h dX7_factor_28 (by decide) ?_
        refine m_iret h hR rfl dX7_factor_31 ?_
        refine Or.inl ⟨fun q => ?_, rfl, rfl⟩
        obtain ⟨q1, q2, q3, q4⟩ := q
        first
          | exact hb1.no (by omega) q1
          | exact hb2.no (by omega) q2
          | omega
      · skip
        refine m_iload_n h dX7_factor_22 rfl rfl ?_
        refine m_bipush h dX7_factor_23 (by decide) ?_
        refine m_icmp_le h dX7_factor_25 (tgt := 32) (by decide) (by omega) (by omega) (fun c10 => ?_) (fun c10 => ?_)
        · skip
          have hrr := hb1.yes (by omega)
          have hnm : 0 ≤ n ∧ n < v.1 1 0 := hb2.yes (by omega)
          obtain ⟨rn, rfl⟩ : ∃ rn : Nat, rr = (rn : Int) := ⟨rr.toNat, by omega⟩
          have hrn : rn < 12 := by omega
          have hrw := hI.2.2.1 rn hrn
          have hrw2 := hrw.2.1
          have hrw0 := hrw.1
          have hcond : (0 ≤ (rn : Int) ∧ (rn : Int) < g_r (gC v)) ∧ isNm (gC v) n ∧ -9 ≤ f ∧ f ≤ 9 := ⟨hrr, hnm, by omega, by omega⟩
          refine m_aload_n h dX7_factor_32 rfl rfl ?_
          refine m_get h fo_X7_19 (by decide) rfl rfl dX7_factor_33 ?_
          refine m_get h fo_X7_90 (by decide) rfl rfl dX7_factor_36 ?_
          refine m_iload_n h dX7_factor_39 rfl rfl ?_
          refine m_aald h rn (by omega) (by omega) dX7_factor_40 ?_
          refine m_astore h dX7_factor_41 (by decide) rfl ?_
          refine m_aload h dX7_factor_43 rfl ?_
          refine m_vI h (c_hasFactors _ hG _ hrn hrw) moX1_hasFactors voX1_hasFactors lk_X7_106 dX7_factor_45 (by decide) (by omega) (cE_row G _ hrn) rfl rfl (Nat.le_of_ble_eq_true rfl) (fun r11 u12 p13 => ?_)
          obtain ⟨hu9, hb3⟩ := p13
          rw [hu9]
          have hb3i := hb3.in
          refine m_if_eq h dX7_factor_48 (tgt := 60) (by decide) (by omega) (fun c14 => ?_) (fun c14 => ?_)
          · skip
            refine m_sipush h dX7_factor_60 (by decide) ?_
            refine m_iret h hR rfl dX7_factor_63 ?_
            refine Or.inr ⟨hcond, Or.inl ⟨?_, rfl, rfl⟩⟩
            rw [Int.toNat_natCast]
            show (2 ≤ v.1 (40 + rn) 0 ∧ v.1 (40 + rn) 0 ≤ 7) ∨ v.1 (40 + rn) 1 = n
            first
              | (have := hb3.no (by omega); omega)
              | omega
          · skip
            refine m_aload h dX7_factor_51 rfl ?_
            refine m_get h fo_X7_110 (by omega) (cE_row G _ hrn) rfl dX7_factor_53 ?_
            refine m_iload_n h dX7_factor_56 rfl rfl ?_
            refine m_icmp_ne h dX7_factor_57 (tgt := 64) (by decide) (by omega) (by omega) (fun c15 => ?_) (fun c15 => ?_)
            · skip
              refine m_aload h dX7_factor_64 rfl ?_
              refine m_get h fo_X7_113 (by omega) (cE_row G _ hrn) rfl dX7_factor_66 ?_
              refine m_iload_n h dX7_factor_69 rfl rfl ?_
              refine m_iald h (ar_fac G hrn) (by omega) (by omega) dX7_factor_70 ?_
              refine m_istore h dX7_factor_71 (by decide) rfl ?_
              refine m_aload h dX7_factor_73 rfl ?_
              refine m_get h fo_X7_113 (by omega) (cE_row G _ hrn) rfl dX7_factor_75 ?_
              refine m_iload_n h dX7_factor_78 rfl rfl ?_
              refine m_iload_n h dX7_factor_79 rfl rfl ?_
              refine m_iast h (ar_fac G hrn) (by omega) (by omega) dX7_factor_80 ?_
              refine m_aload_n h dX7_factor_81 rfl rfl ?_
              refine m_vV h (c_beginAnew _ hG _) moX7_beginAnew voX7_beginAnew lk_X7_60 dX7_factor_82 (by decide) (by decide) rfl rfl rfl (Nat.le_of_ble_eq_true rfl) (fun u17 p18 => ?_)
              subst p18
              refine m_iload h dX7_factor_85 rfl ?_
              refine m_iret h hR rfl dX7_factor_87 ?_
              refine Or.inr ⟨hcond, Or.inr ⟨?_, ?_, ?_⟩⟩
              · rw [Int.toNat_natCast]
                show ¬ ((2 ≤ v.1 (40 + rn) 0 ∧ v.1 (40 + rn) 0 ≤ 7) ∨ v.1 (40 + rn) 1 = n)
                have := hb3.yes (by omega)
                omega
              · rw [Int.toNat_natCast]; rfl
              · rw [Int.toNat_natCast]
                obtain ⟨q1, q2, q3⟩ := factor_C hC (r := rn) (n := n) (f := f) hrr.2 hnm (by omega) (by have := hb3.yes (by omega); omega) (by omega)
                exact ⟨q1, q2, q3, rfl⟩
            · skip
              refine m_sipush h dX7_factor_60 (by decide) ?_
              refine m_iret h hR rfl dX7_factor_63 ?_
              refine Or.inr ⟨hcond, Or.inl ⟨?_, rfl, rfl⟩⟩
              rw [Int.toNat_natCast]
              show (2 ≤ v.1 (40 + rn) 0 ∧ v.1 (40 + rn) 0 ≤ 7) ∨ v.1 (40 + rn) 1 = n
              first
                | (have := hb3.no (by omega); omega)
                | omega
        · skip
          refine m_sipush h dX7_factor_28 (by decide) ?_
          refine m_iret h hR rfl dX7_factor_31 ?_
          refine Or.inl ⟨fun q => ?_, rfl, rfl⟩
          obtain ⟨q1, q2, q3, q4⟩ := q
          first
            | exact hb1.no (by omega) q1
            | exact hb2.no (by omega) q2
            | omega

set_option maxRecDepth 100000 in
set_option maxHeartbeats 4000000 in
theorem c_leave (l : Launch) {G : GT} (hG : gok G) (v : Mem) (hC : OKC v) (n : Int) (hn : -2147483648 ≤ n ∧ n ≤ 2147483647) (z : Int) (hz : -2147483648 ≤ z ∧ z ≤ 2147483647) : CC l G nX7_leave 5 [.ref (G.2.1 0), .int (iI n), .int (iI z)] v (qI G (fun r u => (¬ (isNm (gC v) n ∧ -32 ≤ z ∧ z ≤ 31) ∧ r = -1001 ∧ u = v) ∨ ((isNm (gC v) n ∧ -32 ≤ z ∧ z ≤ 31) ∧ (((∀ k, g_i (gC v) n k = decide (k = z + 32)) ∧ r = -1002 ∧ u = v) ∨ (¬ (∀ k, g_i (gC v) n k = decide (k = z + 32)) ∧ bz r (g_i (gC v) n (z + 32) = true) ∧ gC u = lvG (gC v) n z ∧ tC u = anT (lvG (gC v) n z) (tC v) ∧ OKC u ∧ Fr8 v u))))) := by
  refine m_start (lv := [some (.ref (G.2.1 0)), some (.int (iI n)), some (.int (iI z)), none, none]) hG (by decide +kernel) rfl (Nat.le_of_ble_eq_true rfl) ?_
  intro X hL h hR
  subst hL
  obtain ⟨⟨hI, hJ, hK, hNE⟩, hW, hX⟩ := id hC
  have hc8 := hI.1
  have hc12 := hI.2.1
  have hkc := hK.1
  have htn := tot_nn (t_s (tC v))
  show M X G 5 v 0 [some (.ref (G.2.1 0)), some (.int (iI n)), some (.int (iI z)), none, none] []
  refine m_aload_n h dX7_leave_0 rfl rfl ?_
  refine m_iload_n h dX7_leave_1 rfl rfl ?_
  refine m_vI h (c_isName _ hG _ n (by omega) (by omega)) moX7_isName voX7_isName lk_X7_63 dX7_leave_2 (by decide) (by decide) rfl rfl rfl (Nat.le_of_ble_eq_true rfl) (fun r1 u2 p3 => ?_)
  obtain ⟨hu9, hb1⟩ := p3
  rw [hu9]
  have hb1i := hb1.in
  refine m_if_eq h dX7_leave_5 (tgt := 15) (by decide) (by omega) (fun c4 => ?_) (fun c4 => ?_)
  · skip
    refine m_sipush h dX7_leave_15 (by decide) ?_
    refine m_iret h hR rfl dX7_leave_18 ?_
    refine Or.inl ⟨fun q => ?_, rfl, rfl⟩
    obtain ⟨q1, q2⟩ := q
    first | exact hb1.no (by omega) q1 | exact hb2.no (by omega) q2
  · skip
    refine m_iload_n h dX7_leave_8 rfl rfl ?_
    refine m_sI h (c_isNumber _ hG _ z (by omega)) moX7_isNumber stX7_isNumber lk_X7_48 dX7_leave_9 (by decide) rfl rfl (Nat.le_of_ble_eq_true rfl) (fun r5 u6 p7 => ?_)
    obtain ⟨hu9, hb2⟩ := p7
    rw [hu9]
    have hb2i := hb2.in
    refine m_if_ne h dX7_leave_12 (tgt := 19) (by decide) (by omega) (fun c8 => ?_) (fun c8 => ?_)
    · skip
      have hnm : 0 ≤ n ∧ n < v.1 1 0 := hb1.yes (by omega)
      have hzn := hb2.yes (by omega)
      have hlg : (lg_cmp (v.2 2 n) (bt (z + 32))).toInt = 0 ↔ v.2 2 n = bt (z + 32) := lgc0
      have hsg : v.2 2 n = bt (z + 32) ↔ ∀ k, g_i (gC v) n k = decide (k = z + 32) := by
        constructor
        · intro e k
          show hbZ (v.2 2 n) k = _
          rw [e]
          unfold hbZ
          by_cases hk : 0 ≤ k ∧ k < 64
          · rw [if_pos hk, hb_bt (by omega) hk.1]
          · rw [if_neg hk]; symm; rw [decide_eq_false_iff_not]; omega
        · intro e
          apply hb_ext
          intro k k1 k2
          rw [hb_bt (by omega) k1, ← e k]
          show _ = hbZ (v.2 2 n) k
          rw [hbZ_in ⟨k1, k2⟩]
      have hcond : isNm (gC v) n ∧ -32 ≤ z ∧ z ≤ 31 := ⟨hnm, hzn⟩
      refine m_aload_n h dX7_leave_19 rfl rfl ?_
      refine m_get h fo_X7_10 (by decide) rfl rfl dX7_leave_20 ?_
      refine m_get h fo_X7_66 (by decide) rfl rfl dX7_leave_23 ?_
      refine m_iload_n h dX7_leave_26 rfl rfl ?_
      refine m_lald h (ar_2 G) (by omega) (by omega) dX7_leave_27 ?_
      refine m_lstore_n h dX7_leave_28 rfl (by decide) rfl ?_
      refine m_lload_n h dX7_leave_29 rfl rfl ?_
      refine m_iload_n h dX7_leave_30 rfl rfl ?_
      refine m_sL h (c_bitOf _ hG _ z (hb2.yes (by omega))) moX7_bitOf stX7_bitOf lk_X7_70 dX7_leave_31 (by decide) rfl rfl (Nat.le_of_ble_eq_true rfl) (fun r9 u10 p11 => ?_)
      obtain ⟨hu9, er⟩ := p11
      rw [hu9, er]
      refine m_lcmp h dX7_leave_34 (c := (lg_cmp (v.2 2 n) (bt (z + 32))).toInt) (iI_of _) ?_
      refine m_if_ne h dX7_leave_35 (tgt := 42) (by decide) (iI_rg _) (fun c12 => ?_) (fun c12 => ?_)
      · skip
        refine m_aload_n h dX7_leave_42 rfl rfl ?_
        refine m_get h fo_X7_10 (by decide) rfl rfl dX7_leave_43 ?_
        refine m_iload_n h dX7_leave_46 rfl rfl ?_
        refine m_iload_n h dX7_leave_47 rfl rfl ?_
        refine m_vV h (c_leaveOut _ hG _ n z (by omega) (by omega)) moX3_leaveOut voX3_leaveOut lk_X7_74 dX7_leave_48 (by decide) (by decide) rfl rfl rfl (Nat.le_of_ble_eq_true rfl) (fun u14 p15 => ?_)
        subst p15
        refine m_aload_n h dX7_leave_51 rfl rfl ?_
        refine m_vV h (c_beginAnew _ hG _) moX7_beginAnew voX7_beginAnew lk_X7_60 dX7_leave_52 (by decide) (by decide) rfl rfl rfl (Nat.le_of_ble_eq_true rfl) (fun u17 p18 => ?_)
        subst p18
        refine m_lload_n h dX7_leave_55 rfl rfl ?_
        refine m_iload_n h dX7_leave_56 rfl rfl ?_
        refine m_sI h (c_hasBit _ hG _ (v.2 2 n) z (by omega)) moX7_hasBit stX7_hasBit lk_X7_77 dX7_leave_57 (by decide) rfl rfl (Nat.le_of_ble_eq_true rfl) (fun r19 u20 p21 => ?_)
        obtain ⟨hu9, hb3⟩ := p21
        rw [hu9]
        have hb3i := hb3.in
        refine m_if_eq h dX7_leave_60 (tgt := 67) (by decide) (by omega) (fun c22 => ?_) (fun c22 => ?_)
        · skip
          refine m_iconst h dX7_leave_67 ?_
          refine m_iret h hR rfl dX7_leave_68 ?_
          have hns : ¬ v.2 2 n = bt (z + 32) := fun q => by have := hlg.mpr q; omega
          have hne : uW (clr (v.2 2 n) (z + 32)) ≠ 0 := by
            intro q0
            apply hns
            have hnem := hI.2.2.2.2.2.2.1 n hnm.1 hnm.2
            have hall : ∀ k, 0 ≤ k → k < 64 → k ≠ z + 32 → hb (v.2 2 n) k = false := by
              intro k k1 k2 k3
              have q1 := hb_0 q0 k
              rw [hb_clr (by omega) ⟨k1, k2⟩] at q1
              simpa [k3] using q1
            apply hb_ext
            intro k k1 k2
            rw [hb_bt (by omega) k1]
            by_cases e : k = z + 32
            · subst e
              simp only [decide_true]
              obtain ⟨j, j1, j2, j3⟩ := nemp hnem
              have j4 : hb (v.2 2 n) j = true := by
                have : hbZ (v.2 2 n) j = true := j3
                rwa [hbZ_in ⟨j1, j2⟩] at this
              by_cases e2 : j = z + 32
              · rw [← e2]; exact j4
              · rw [hall j j1 j2 e2] at j4; cases j4
            · rw [hall k k1 k2 e]; simp [e]
          obtain ⟨q1, q2, q3⟩ := leave_C hC hnm hzn hne rfl
          have hgz : g_i (gC v) n (z + 32) = hb (v.2 2 n) (z + 32) := hbZ_in (by omega)
          refine Or.inr ⟨hcond, Or.inr ⟨fun q => hns (hsg.mpr q), ?_, q1, q2, q3, ?_⟩⟩
          · rw [hgz]
            exact bz0 (hb3.no (by omega))
          · exact Fr8_bA (Fr8_first (n := n) (W := clr (v.2 2 n) (z + 32)))
        · skip
          refine m_iconst h dX7_leave_63 ?_
          refine m_goto h dX7_leave_64 (tgt := 68) (by decide) ?_
          refine m_iret h hR rfl dX7_leave_68 ?_
          have hns : ¬ v.2 2 n = bt (z + 32) := fun q => by have := hlg.mpr q; omega
          have hne : uW (clr (v.2 2 n) (z + 32)) ≠ 0 := by
            intro q0
            apply hns
            have hnem := hI.2.2.2.2.2.2.1 n hnm.1 hnm.2
            have hall : ∀ k, 0 ≤ k → k < 64 → k ≠ z + 32 → hb (v.2 2 n) k = false := by
              intro k k1 k2 k3
              have q1 := hb_0 q0 k
              rw [hb_clr (by omega) ⟨k1, k2⟩] at q1
              simpa [k3] using q1
            apply hb_ext
            intro k k1 k2
            rw [hb_bt (by omega) k1]
            by_cases e : k = z + 32
            · subst e
              simp only [decide_true]
              obtain ⟨j, j1, j2, j3⟩ := nemp hnem
              have j4 : hb (v.2 2 n) j = true := by
                have : hbZ (v.2 2 n) j = true := j3
                rwa [hbZ_in ⟨j1, j2⟩] at this
              by_cases e2 : j = z + 32
              · rw [← e2]; exact j4
              · rw [hall j j1 j2 e2] at j4; cases j4
            · rw [hall k k1 k2 e]; simp [e]
          obtain ⟨q1, q2, q3⟩ := leave_C hC hnm hzn hne rfl
          have hgz : g_i (gC v) n (z + 32) = hb (v.2 2 n) (z + 32) := hbZ_in (by omega)
          refine Or.inr ⟨hcond, Or.inr ⟨fun q => hns (hsg.mpr q), ?_, q1, q2, q3, ?_⟩⟩
          · rw [hgz]
            exact bz1 (hb3.yes (by omega))
          · exact Fr8_bA (Fr8_first (n := n) (W := clr (v.2 2 n) (z + 32)))
      · skip
        refine m_sipush h dX7_leave_38 (by decide) ?_
        refine m_iret h hR rfl dX7_leave_41 ?_
        exact Or.inr ⟨hcond, Or.inl ⟨hsg.mp (hlg.mp (by assumption)), rfl, rfl⟩⟩
    · skip
      refine m_sipush h dX7_leave_15 (by decide) ?_
      refine m_iret h hR rfl dX7_leave_18 ?_
      refine Or.inl ⟨fun q => ?_, rfl, rfl⟩
      obtain ⟨q1, q2⟩ := q
      first | exact hb1.no (by omega) q1 | exact hb2.no (by omega) q2

set_option maxRecDepth 100000 in
set_option maxHeartbeats 4000000 in
theorem c_name (l : Launch) {G : GT} (hG : gok G) (v : Mem) (hC : OKC v) (lo : Int) (hlo : -2147483648 ≤ lo ∧ lo ≤ 2147483647) (hi : Int) (hhi : -2147483648 ≤ hi ∧ hi ≤ 2147483647) : CC l G nX7_name 5 [.ref (G.2.1 0), .int (iI lo), .int (iI hi)] v (qI G (fun r u => (¬ ((-32 ≤ lo ∧ lo ≤ 31) ∧ (-32 ≤ hi ∧ hi ≤ 31) ∧ lo ≤ hi) ∧ r = -1001 ∧ u = v) ∨ (((-32 ≤ lo ∧ lo ≤ 31) ∧ (-32 ≤ hi ∧ hi ≤ 31) ∧ lo ≤ hi) ∧ ((g_n (gC v) = 8 ∧ r = -1003 ∧ u = v) ∨ (g_n (gC v) < 8 ∧ r = g_n (gC v) ∧ gC u = nmG (gC v) lo hi ∧ tC u = anT (nmG (gC v) lo hi) (tC v) ∧ OKC u ∧ Fr8 v u))))) := by
  refine m_start (lv := [some (.ref (G.2.1 0)), some (.int (iI lo)), some (.int (iI hi))]) hG (by decide +kernel) rfl (Nat.le_of_ble_eq_true rfl) ?_
  intro X hL h hR
  subst hL
  obtain ⟨⟨hI, hJ, hK, hNE⟩, hW, hX⟩ := id hC
  have hc8 := hI.1
  have hc12 := hI.2.1
  have hkc := hK.1
  have htn := tot_nn (t_s (tC v))
  show M X G 3 v 0 [some (.ref (G.2.1 0)), some (.int (iI lo)), some (.int (iI hi))] []
  refine m_iload_n h dX7_name_0 rfl rfl ?_
  refine m_sI h (c_isNumber _ hG _ lo (by omega)) moX7_isNumber stX7_isNumber lk_X7_48 dX7_name_1 (by decide) rfl rfl (Nat.le_of_ble_eq_true rfl) (fun r1 u2 p3 => ?_)
  obtain ⟨hu9, hb1⟩ := p3
  rw [hu9]
  have hb1i := hb1.in
  refine m_if_eq h dX7_name_4 (tgt := 19) (by decide) (by omega) (fun c4 => ?_) (fun c4 => ?_)
  · skip
    refine m_sipush h dX7_name_19 (by decide) ?_
    refine m_iret h hR rfl dX7_name_22 ?_
    refine Or.inl ⟨fun q => ?_, rfl, rfl⟩
    obtain ⟨q1, q2, q3⟩ := q
    first | exact hb1.no (by omega) q1 | exact hb2.no (by omega) q2 | omega
  · skip
    refine m_iload_n h dX7_name_7 rfl rfl ?_
    refine m_sI h (c_isNumber _ hG _ hi (by omega)) moX7_isNumber stX7_isNumber lk_X7_48 dX7_name_8 (by decide) rfl rfl (Nat.le_of_ble_eq_true rfl) (fun r5 u6 p7 => ?_)
    obtain ⟨hu9, hb2⟩ := p7
    rw [hu9]
    have hb2i := hb2.in
    refine m_if_eq h dX7_name_11 (tgt := 19) (by decide) (by omega) (fun c8 => ?_) (fun c8 => ?_)
    · skip
      refine m_sipush h dX7_name_19 (by decide) ?_
      refine m_iret h hR rfl dX7_name_22 ?_
      refine Or.inl ⟨fun q => ?_, rfl, rfl⟩
      obtain ⟨q1, q2, q3⟩ := q
      first | exact hb1.no (by omega) q1 | exact hb2.no (by omega) q2 | omega
    · skip
      refine m_iload_n h dX7_name_14 rfl rfl ?_
      refine m_iload_n h dX7_name_15 rfl rfl ?_
      refine m_icmp_le h dX7_name_16 (tgt := 23) (by decide) (by omega) (by omega) (fun c9 => ?_) (fun c9 => ?_)
      · skip
        have hl1 := hb1.yes (by omega)
        have hh1 := hb2.yes (by omega)
        have hcond : (-32 ≤ lo ∧ lo ≤ 31) ∧ (-32 ≤ hi ∧ hi ≤ 31) ∧ lo ≤ hi := ⟨hl1, hh1, by omega⟩
        refine m_aload_n h dX7_name_23 rfl rfl ?_
        refine m_get h fo_X7_10 (by decide) rfl rfl dX7_name_24 ?_
        refine m_get h fo_X7_52 (by decide) rfl rfl dX7_name_27 ?_
        refine m_bipush h dX7_name_30 (by decide) ?_
        refine m_icmp_lt h dX7_name_32 (tgt := 39) (by decide) (by omega) (by omega) (fun c10 => ?_) (fun c10 => ?_)
        · skip
          refine m_aload_n h dX7_name_39 rfl rfl ?_
          refine m_get h fo_X7_10 (by decide) rfl rfl dX7_name_40 ?_
          refine m_iload_n h dX7_name_43 rfl rfl ?_
          refine m_iload_n h dX7_name_44 rfl rfl ?_
          refine m_vV h (c_sadd _ hG _ lo hi (hb1.yes (by omega)) (hb2.yes (by omega)) (by omega)) moX3_add voX3_add lk_X7_56 dX7_name_45 (by decide) (by decide) rfl rfl rfl (Nat.le_of_ble_eq_true rfl) (fun u12 p13 => ?_)
          subst p13
          refine m_aload_n h dX7_name_48 rfl rfl ?_
          refine m_vV h (c_beginAnew _ hG _) moX7_beginAnew voX7_beginAnew lk_X7_60 dX7_name_49 (by decide) (by decide) rfl rfl rfl (Nat.le_of_ble_eq_true rfl) (fun u15 p16 => ?_)
          subst p16
          obtain ⟨q1, q2, q3⟩ := name_C hC hl1 hh1 (by omega) (by omega) rfl
          have hcn : (bA (wI (fitM (wL v 2 (v.1 1 0) (rgW lo hi)) 4 (v.1 1 0) (rgW lo hi)) 1 0 (v.1 1 0 + 1))).1 1 0 = v.1 1 0 + 1 := congrArg g_n q1
          refine m_aload_n h dX7_name_52 rfl rfl ?_
          refine m_get h fo_X7_10 (by decide) rfl rfl dX7_name_53 ?_
          refine m_get h fo_X7_52 (by decide) rfl rfl dX7_name_56 ?_
          show M X G 3 (bA (wI (fitM (wL v 2 (v.1 1 0) (rgW lo hi)) 4 (v.1 1 0) (rgW lo hi)) 1 0 (v.1 1 0 + 1))) 59 [some (.ref (G.2.1 0)), some (.int (iI lo)), some (.int (iI hi))] [.int (iI ((bA (wI (fitM (wL v 2 (v.1 1 0) (rgW lo hi)) 4 (v.1 1 0) (rgW lo hi)) 1 0 (v.1 1 0 + 1))).1 1 0))]
          rw [hcn]
          refine m_iconst h dX7_name_59 ?_
          refine m_isub h dX7_name_60 ?_
          refine m_iret h hR rfl dX7_name_61 ?_
          refine Or.inr ⟨hcond, Or.inr ⟨by show v.1 1 0 < 8; omega, by show v.1 1 0 + 1 - 1 = v.1 1 0; omega, q1, q2, q3, ?_⟩⟩
          exact Fr8_bA (Fr8.tr (Fr8_first (n := v.1 1 0) (W := rgW lo hi)) Fr8_1)
        · skip
          refine m_sipush h dX7_name_35 (by decide) ?_
          refine m_iret h hR rfl dX7_name_38 ?_
          exact Or.inr ⟨hcond, Or.inl ⟨by show v.1 1 0 = 8; omega, rfl, rfl⟩⟩
      · skip
        refine m_sipush h dX7_name_19 (by decide) ?_
        refine m_iret h hR rfl dX7_name_22 ?_
        refine Or.inl ⟨fun q => ?_, rfl, rfl⟩
        obtain ⟨q1, q2, q3⟩ := q
        first | exact hb1.no (by omega) q1 | exact hb2.no (by omega) q2 | omega
