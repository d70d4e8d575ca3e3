set_option maxRecDepth 100000 in
set_option maxHeartbeats 4000000 in
theorem c_sift (l : Launch) {G : GT} (hG : gok G) (v : Mem) {r : Nat} (hO : OK3 v) (hx : v.1 18 0 = -1000) (hrc : (r : Int) < v.1 10 0) (n : Int) (hn : 0 ≤ n ∧ n < v.1 1 0) (hab : AbR (gC v) r n) : CC l G nX4_sift 5 [.ref (G.2.1 18), .int (iI (r : Int)), .int (iI n)] v (qV G (fun u => tC u = siS (gC v) r n (tC v) ∧ Fr v u ∧ JC u ∧ KC u)) := by
  refine m_start (lv := [some (.ref (G.2.1 18)), some (.int (iI (r : Int))), some (.int (iI n)), none, none, none, none, none, none]) hG (by decide +kernel) rfl (Nat.le_of_ble_eq_true rfl) ?_
  intro X hL h hR
  subst hL
  obtain ⟨hI, hJ, hK, hNE⟩ := hO
  have hr : r < 12 := by have := hI.2.1; omega
  have hc8 := hI.1
  have hrw := hI.2.2.1 r hr
  have hne := hNE hx
  have hF0 := SPF_of hI hJ hne
  have hlt := hI.2.2.2.1 r
  have hs0 := hF0 n hn.1 hn.2
  have hlt' : ∀ x, AbR (gC v) r x → 0 ≤ x → x < v.1 1 0 := fun x q1 q2 => hlt x hrc q1 q2
  show M X G 9 v 0 [some (.ref (G.2.1 18)), some (.int (iI (r : Int))), some (.int (iI n)), none, none, none, none, none, none] []
  refine m_aload_n h dX4_sift_0 rfl rfl ?_
  refine m_get h fo_X4_29 (by decide) rfl rfl dX4_sift_1 ?_
  refine m_get h fo_X4_45 (by decide) rfl rfl dX4_sift_4 ?_
  refine m_iload_n h dX4_sift_7 rfl rfl ?_
  refine m_aald h r (by omega) (by omega) dX4_sift_8 ?_
  refine m_astore_n h dX4_sift_9 rfl (by decide) rfl ?_
  refine m_aload_n h dX4_sift_10 rfl rfl ?_
  refine m_get h fo_X4_25 (by decide) rfl rfl dX4_sift_11 ?_
  refine m_get h fo_X4_59 (by decide) rfl rfl dX4_sift_14 ?_
  refine m_astore h dX4_sift_17 (by decide) rfl ?_
  refine m_aload_n h dX4_sift_19 rfl rfl ?_
  refine m_iload_n h dX4_sift_20 rfl rfl ?_
  refine m_aload h dX4_sift_21 rfl ?_
  refine m_iconst h dX4_sift_23 ?_
  refine m_vI h (c_endOfOthers _ hG _ hr hrw (si := 7) (Or.inr (Or.inl rfl)) hJ.1 n 0 (by omega) (by omega)) moX1_endOfOthers voX1_endOfOthers lk_X4_62 dX4_sift_24 (by decide) (by omega) (cE_row G _ hr) rfl rfl (Nat.le_of_ble_eq_true rfl) (fun p1 u2 p3 => ?_)
  obtain ⟨hu9, ep1⟩ := p3
  rw [hu9]
  refine m_istore h dX4_sift_27 (by decide) rfl ?_
  refine m_aload_n h dX4_sift_29 rfl rfl ?_
  refine m_iload_n h dX4_sift_30 rfl rfl ?_
  refine m_aload h dX4_sift_31 rfl ?_
  refine m_iconst h dX4_sift_33 ?_
  refine m_vI h (c_endOfOthers _ hG _ hr hrw (si := 7) (Or.inr (Or.inl rfl)) hJ.1 n 1 (by omega) (by omega)) moX1_endOfOthers voX1_endOfOthers lk_X4_62 dX4_sift_34 (by decide) (by omega) (cE_row G _ hr) rfl rfl (Nat.le_of_ble_eq_true rfl) (fun p2 u5 p6 => ?_)
  obtain ⟨hu9, ep2⟩ := p6
  rw [hu9]
  refine m_istore h dX4_sift_37 (by decide) rfl ?_
  refine m_aload h dX4_sift_39 rfl ?_
  refine m_get h fo_X4_66 (by decide) rfl rfl dX4_sift_41 ?_
  refine m_iload_n h dX4_sift_44 rfl rfl ?_
  refine m_iald h (ar_9 G) (by omega) (by omega) dX4_sift_45 ?_
  refine m_istore h dX4_sift_46 (by decide) rfl ?_
  refine m_aload h dX4_sift_48 rfl ?_
  refine m_get h fo_X4_70 (by decide) rfl rfl dX4_sift_50 ?_
  refine m_iload_n h dX4_sift_53 rfl rfl ?_
  refine m_iald h (ar_8 G) (by omega) (by omega) dX4_sift_54 ?_
  refine m_istore h dX4_sift_55 (by decide) rfl ?_
  have lp57 : ∀ (fuel : Nat) (z : Int) (u : Mem), v.1 8 n ≤ z → z ≤ v.1 9 n + 1 → (33 - z).toNat < fuel → tC u = sfS (gC v) r n (tC v) (z + 32).toNat → Fr v u → JC u → KC u → M X G 9 u 57 [some (.ref (G.2.1 18)), some (.int (iI (r : Int))), some (.int (iI n)), some (.ref (G.2.1 (40 + r))), some (.ref (G.2.1 7)), some (.int (iI p1)), some (.int (iI p2)), some (.int (iI (v.1 9 n))), some (.int (iI z))] [] := by
    intro fuel
    induction fuel with
    | zero => intro z u hz1 hz2 hfu hT hFr hJu hKu; exfalso; omega
    | succ fuel ih =>
      intro z u hz1 hz2 hfu hT hFr hJu hKu
      have hcu : gC u = gC v := hFr.g
      have e1c : u.1 1 = v.1 1 := hFr.1 1 (by omega)
      have eA : u.1 (40 + r) = v.1 (40 + r) := hFr.1 _ (by omega)
      have eF : u.1 (52 + r) = v.1 (52 + r) := hFr.1 _ (by omega)
      have hIu : IC u := hFr.ic hI
      have hrwu : RwOk u r := hrw.cg eA eF
      have hso := sfS_o (g := gC v) (r := r) (n := n) (t := tC v) (z + 32).toNat
      rw [← hT] at hso
      have hneu : ∀ x, 0 ≤ x → x < v.1 1 0 → x ≠ n → ¬ emp (t_s (tC u) x) := fun x q1 q2 q3 => by rw [hso.1 x q3]; exact hne x q1 q2
      have hspu : ∀ x, 0 ≤ x → x < v.1 1 0 → x ≠ n → u.1 8 x = SL (t_s (tC u) x) ∧ u.1 9 x = SM (t_s (tC u) x) := fun x q1 q2 q3 => hJu.2.2.1 x q1 (by rw [e1c]; exact q2) (hneu x q1 q2 q3)
      have hsp8 : ∀ x, 0 ≤ x → v.1 (52 + r) x ≠ 0 → x ≠ n → v.1 (7 + 1) x = u.1 (7 + 1) x ∧ v.1 (7 + 2) x = u.1 (7 + 2) x := fun x q1 q2 q3 => by
        have hx1 := hlt' x (Or.inr (Or.inr (Or.inr q2))) q1
        have a := hspu x q1 hx1 q3
        have b := hJ.2.2.1 x q1 hx1 (hne x q1 hx1)
        rw [hso.1 x q3] at a
        exact ⟨b.1.trans a.1.symm, b.2.trans a.2.symm⟩
      have hcn : CnR (gC v) r (up (u.1 (7 + 1)) n z) (up (u.1 (7 + 2)) n z) ↔ CnR (gC v) r (up (lS (t_s (tC u))) n z) (up (hS (t_s (tC u))) n z) := by
        apply CnR_c hrw.nm
        intro x q1 q2
        by_cases e : x = n
        · subst e; exact ⟨by rw [up_s, up_s], by rw [up_s, up_s]⟩
        · rw [up_n e, up_n e, up_n e, up_n e]
          exact hspu x q1 (hlt' x q2 q1) e
      refine m_iload h dX4_sift_57 rfl ?_
      refine m_iload h dX4_sift_59 rfl ?_
      refine m_icmp_gt h dX4_sift_61 (tgt := 136) (by decide) (by omega) (by omega) (fun c7 => ?_) (fun c7 => ?_)
      · skip
        refine m_aload_n h dX4_sift_136 rfl rfl ?_
        refine m_get h fo_X4_25 (by decide) rfl rfl dX4_sift_137 ?_
        refine m_get h fo_X4_73 (by decide) rfl rfl dX4_sift_140 ?_
        refine m_iload_n h dX4_sift_143 rfl rfl ?_
        refine m_lald h (ar_3 G) (by omega) (by omega) dX4_sift_144 ?_
        refine m_lconst h dX4_sift_145 (z := 0) rfl ?_
        refine m_lcmp h dX4_sift_146 (c := (lg_cmp (u.2 3 n) 0).toInt) (iI_of _) ?_
        refine m_if_ne h dX4_sift_147 (tgt := 155) (by decide) (iI_rg _) (fun c8 => ?_) (fun c8 => ?_)
        · skip
          refine m_vret h hR rfl dX4_sift_155 ?_
          have hz9 : z = v.1 9 n + 1 := by omega
          have e64 : sfS (gC v) r n (tC v) 64 = tC u := by
            rw [hT]
            apply sfS_skip
            · omega
            · intro k q1 q2
              cases e : t_s (sfS (gC v) r n (tC v) (z + 32).toNat) n (k : Int) with
              | false => rfl
              | true =>
                rw [← hT] at e
                have e2 := hso.2.2.2.1 n k e
                obtain ⟨t, t1, t2, t3, t4, t5⟩ := SM_sp (nemp (hne n hn.1 hn.2))
                have e3 := t4 k (by have := hs0.1.2.2.2; change v.1 9 n = SM _ at this; omega) (by omega)
                rw [e3] at e2; cases e2
          have hem : emp (t_s (tC u) n) ↔ uW (u.2 3 n) = 0 := emp_Z
          have hlg : (lg_cmp (u.2 3 n) 0).toInt = 0 ↔ uW (u.2 3 n) = 0 := lgc0.trans uW_0.symm
          have hse : siS (gC v) r n (tC v) = if tf (emp (t_s (tC u) n)) = true then setX (tC u) r else tC u := by unfold siS; rw [e64]
          refine ⟨?_, hFr, hJu, hKu⟩
          rw [hse, tf_n (fun q => by rw [hem] at q; omega), if_neg (by simp)]
        · skip
          refine m_aload_n h dX4_sift_150 rfl rfl ?_
          refine m_iload_n h dX4_sift_151 rfl rfl ?_
          refine m_putJ h fw_X4_9 (by decide) rfl (Nat.le_of_ble_eq_true rfl) (kz := 0) rfl rfl dX4_sift_152 ?_
          refine m_vret h hR rfl dX4_sift_155 ?_
          have hz9 : z = v.1 9 n + 1 := by omega
          have e64 : sfS (gC v) r n (tC v) 64 = tC u := by
            rw [hT]
            apply sfS_skip
            · omega
            · intro k q1 q2
              cases e : t_s (sfS (gC v) r n (tC v) (z + 32).toNat) n (k : Int) with
              | false => rfl
              | true =>
                rw [← hT] at e
                have e2 := hso.2.2.2.1 n k e
                obtain ⟨t, t1, t2, t3, t4, t5⟩ := SM_sp (nemp (hne n hn.1 hn.2))
                have e3 := t4 k (by have := hs0.1.2.2.2; change v.1 9 n = SM _ at this; omega) (by omega)
                rw [e3] at e2; cases e2
          have hem : emp (t_s (tC u) n) ↔ uW (u.2 3 n) = 0 := emp_Z
          have hlg : (lg_cmp (u.2 3 n) 0).toInt = 0 ↔ uW (u.2 3 n) = 0 := lgc0.trans uW_0.symm
          have hse : siS (gC v) r n (tC v) = if tf (emp (t_s (tC u) n)) = true then setX (tC u) r else tC u := by unfold siS; rw [e64]
          refine ⟨?_, hFr.tr Fr_18, JC_18 hJu, KC_18 hKu⟩
          rw [hse, tf_p (by rw [hem]; omega), if_pos rfl, tC_x]
      · skip
        refine m_aload_n h dX4_sift_64 rfl rfl ?_
        refine m_get h fo_X4_25 (by decide) rfl rfl dX4_sift_65 ?_
        refine m_get h fo_X4_73 (by decide) rfl rfl dX4_sift_68 ?_
        refine m_iload_n h dX4_sift_71 rfl rfl ?_
        refine m_lald h (ar_3 G) (by omega) (by omega) dX4_sift_72 ?_
        refine m_iload h dX4_sift_73 rfl ?_
        refine m_nI h (c_hasBit _ hG _ (u.2 3 n) z (by omega)) moX7_hasBit stX7_hasBit lk_X4_77 dX4_sift_75 (by decide) rfl rfl (Nat.le_of_ble_eq_true rfl) (fun r9 u10 p11 => ?_)
        obtain ⟨hu9, hb⟩ := p11
        rw [hu9]
        have hbi := hb.in
        refine m_if_eq h dX4_sift_78 (tgt := 130) (by decide) (by omega) (fun c12 => ?_) (fun c12 => ?_)
        · skip
          refine m_iinc h dX4_sift_130 rfl (by decide) rfl ?_
          refine m_goto h dX4_sift_133 (tgt := 57) (by decide) ?_
          have en : tkS (gC v) r n z (tC u) = tC u := by
            apply tkS_no
            rintro ⟨q1, q2⟩
            have q3 : hbZ (u.2 3 n) (z + 32) = true := q1
            rw [hbZ_in (by omega)] at q3
            first
              | exact hb.no (by omega) q3
              | exact q2 (hc.yes (by omega))
          exact ih (z + 1) u (by omega) (by omega) (by omega) (by rw [sfS_s (by omega), ← hT, en]) hFr hJu hKu
        · skip
          refine m_aload_n h dX4_sift_81 rfl rfl ?_
          refine m_iload_n h dX4_sift_82 rfl rfl ?_
          refine m_iload h dX4_sift_83 rfl ?_
          refine m_aload h dX4_sift_85 rfl ?_
          refine m_iload h dX4_sift_87 rfl ?_
          refine m_iload h dX4_sift_89 rfl ?_
          refine m_vI h (c_allows _ hG _ hr hrwu (si := 7) (Or.inr (Or.inl rfl)) hJu.1 n (by omega) z (by omega) p1 p2 (by rw [eA, eF, ep1]; exact eoP_cg hsp8) (by rw [eA, eF, ep2]; exact eoP_cg hsp8) (by unfold Ab; rw [eA, eF]; exact hab)) moX1_allows voX1_allows lk_X4_81 dX4_sift_91 (by decide) (by omega) (cE_row G _ hr) rfl rfl (Nat.le_of_ble_eq_true rfl) (fun r13 u14 p15 => ?_)
          obtain ⟨hu9, hc⟩ := p15
          rw [hu9]
          rw [eA, eF] at hc
          have hc := bz.iff hc hcn
          have hci := hc.in
          refine m_if_ne h dX4_sift_94 (tgt := 130) (by decide) (by omega) (fun c16 => ?_) (fun c16 => ?_)
          · skip
            refine m_iinc h dX4_sift_130 rfl (by decide) rfl ?_
            refine m_goto h dX4_sift_133 (tgt := 57) (by decide) ?_
            have en : tkS (gC v) r n z (tC u) = tC u := by
              apply tkS_no
              rintro ⟨q1, q2⟩
              have q3 : hbZ (u.2 3 n) (z + 32) = true := q1
              rw [hbZ_in (by omega)] at q3
              first
                | exact hb.no (by omega) q3
                | exact q2 (hc.yes (by omega))
            exact ih (z + 1) u (by omega) (by omega) (by omega) (by rw [sfS_s (by omega), ← hT, en]) hFr hJu hKu
          · skip
            have hbt := hb.yes (by omega)
            have hsn : t_s (tC u) n (z + 32) = true := by show hbZ _ _ = true; rw [hbZ_in (by omega)]; exact hbt
            have hFu : SPF u := SPF_of hIu hJu (fun x q1 q2 => by
              rw [e1c] at q2
              by_cases e : x = n
              · subst e; intro q; have := q (z + 32) (by omega) (by omega); rw [hsn] at this; cases this
              · exact hneu x q1 q2 e)
            have hst : 0 ≤ u.1 12 0 ∧ u.1 12 0 < 512 := by
              have q1 := hKu.1
              have q2 := tot_clr (s := t_s (tC u)) (n := n) (k := z + 32) (by omega) (by omega) hsn
              have q3 := tot_nn (cS (t_s (tC u)) n (z + 32))
              omega
            refine m_aload_n h dX4_sift_97 rfl rfl ?_
            refine m_get h fo_X4_33 (by decide) rfl rfl dX4_sift_98 ?_
            refine m_iload_n h dX4_sift_101 rfl rfl ?_
            refine m_iload_n h dX4_sift_102 rfl rfl ?_
            refine m_iload h dX4_sift_103 rfl ?_
            refine m_aload_n h dX4_sift_105 rfl rfl ?_
            refine m_get h fo_X4_15 (by decide) rfl rfl dX4_sift_106 ?_
            refine m_aload_n h dX4_sift_109 rfl rfl ?_
            refine m_aload_n h dX4_sift_110 rfl rfl ?_
            refine m_iload_n h dX4_sift_111 rfl rfl ?_
            refine m_iload h dX4_sift_112 rfl ?_
            refine m_vI h (c_findReason _ hG _ hr hrwu hFu hJu.1 hJu.2.1 n z (by rw [e1c]; exact hn) (by rw [e1c]; omega) (by omega) (by rw [hcu]; exact hab) (by rw [hcu, e1c]; exact hlt')) moX4_findReason voX4_findReason lk_X4_85 dX4_sift_114 (by decide) (by decide) rfl rfl rfl (Nat.le_of_ble_eq_true rfl) (fun pz u1 p19 => ?_)
            obtain ⟨hw1, hw2, h2, h1, h19⟩ := p19
            refine m_vV h (c_stepAdd _ hG u1 (r : Int) n z (u.1 18 1) pz (by rw [h1 12 (by decide) (by decide)]; exact hst)) moX6_add voX6_add lk_X4_89 dX4_sift_117 (by decide) (by decide) rfl rfl rfl (Nat.le_of_ble_eq_true rfl) (fun u21 p22 => ?_)
            subst p22
            refine m_aload_n h dX4_sift_120 rfl rfl ?_
            refine m_get h fo_X4_25 (by decide) rfl rfl dX4_sift_121 ?_
            refine m_iload_n h dX4_sift_124 rfl rfl ?_
            refine m_iload h dX4_sift_125 rfl ?_
            refine m_vV h (c_takeOut _ hG (adS u1 (r : Int) n z (u.1 18 1) pz) n z (by omega) (by omega)) moX3_takeOut voX3_takeOut lk_X4_95 dX4_sift_127 (by decide) (by decide) rfl rfl rfl (Nat.le_of_ble_eq_true rfl) (fun u24 p25 => ?_)
            subst p25
            refine m_iinc h dX4_sift_130 rfl (by decide) rfl ?_
            refine m_goto h dX4_sift_133 (tgt := 57) (by decide) ?_
            have htk := take_C (u := u) (u1 := u1) (r := r) (n := n) (z := z) hr hJu hKu (by rw [e1c]; exact hn) (by rw [e1c]; omega) (by omega) hbt (by rw [hcu]; exact hc.no (by omega)) hw1 hw2 h2 h1 h19 rfl
            rw [hcu] at htk
            exact ih (z + 1) _ (by omega) (by omega) (by omega) (by rw [sfS_s (by omega), ← hT]; exact htk.1) (hFr.tr htk.2.1) htk.2.2.1 htk.2.2.2
  refine lp57 100 (v.1 8 n) v (by omega) (by omega) (by omega) ?_ Fr.rf hJ hK
  refine (sfS_skip (a := 0) _ (by omega) (fun k q1 q2 => ?_)).symm
  obtain ⟨t, t1, t2, t3, t4, t5⟩ := SL_sp (nemp (hne n hn.1 hn.2))
  exact t4 k (by omega) (by have := hs0.1.2.2.1; change v.1 8 n = SL _ at this; omega)

set_option maxRecDepth 100000 in
set_option maxHeartbeats 4000000 in
theorem c_doOne (l : Launch) {G : GT} (hG : gok G) (v : Mem) (hO : OK3 v) (hx : v.1 18 0 = -1000) (fl : Int) (hfl : fl = 0 ∨ fl = 1) : CC l G nX4_doOne 6 [.ref (G.2.1 18), .int (iI fl)] v (qV G (fun u => tC u = onS (gC v) fl (tC v) ∧ Fr v u ∧ JC u ∧ KC u)) := by
  refine m_start (lv := [some (.ref (G.2.1 18)), some (.int (iI fl)), none, none, none]) hG (by decide +kernel) rfl (Nat.le_of_ble_eq_true rfl) ?_
  intro X hL h hR
  subst hL
  obtain ⟨hI, hJ, hK, hNE⟩ := hO
  have hc8 := hI.1
  have hc12 := hI.2.1
  have hNE1 : NE (gC v) (setD (tC v) (v.1 18 1 + 1)) := hNE
  show M X G 5 v 0 [some (.ref (G.2.1 18)), some (.int (iI fl)), none, none, none] []
  refine m_aload_n h dX4_doOne_0 rfl rfl ?_
  refine m_dup h dX4_doOne_1 rfl ?_
  refine m_get h fo_X4_15 (by decide) rfl rfl dX4_doOne_2 ?_
  refine m_iconst h dX4_doOne_5 ?_
  refine m_iadd h dX4_doOne_6 ?_
  refine m_putJ h fw_X4_15 (by decide) rfl (Nat.le_of_ble_eq_true rfl) (kz := 1) rfl rfl dX4_doOne_7 ?_
  refine m_iconst h dX4_doOne_10 ?_
  refine m_istore_n h dX4_doOne_11 rfl (by decide) rfl ?_
  have lp12 : ∀ (fuel : Nat) (i : Nat) (u : Mem), (i : Int) ≤ v.1 10 0 → 20 - i < fuel → tC u = rdS (gC v) fl (setD (tC v) (v.1 18 1 + 1)) i → t_x (tC u) = -1000 → Fr v u → JC u → KC u → M X G 5 u 12 [some (.ref (G.2.1 18)), some (.int (iI fl)), some (.int (iI (i : Int))), none, none] [] := by
    intro fuel
    induction fuel with
    | zero => intro i u hi1 hfu hTu hxu hFu hJu hKu; exfalso; omega
    | succ fuel ih =>
      intro i u hi1 hfu hTu hxu hFu hJu hKu
      have e10u : u.1 10 = v.1 10 := hFu.1 10 (by omega)
      have e10p : u.1 10 0 = v.1 10 0 := by rw [e10u]
      have e1u : u.1 1 = v.1 1 := hFu.1 1 (by omega)
      have hNEu : NE (gC v) (tC u) := by rw [hTu]; exact rdS_ne hNE1 i
      refine m_iload_n h dX4_doOne_12 rfl rfl ?_
      refine m_aload_n h dX4_doOne_13 rfl rfl ?_
      refine m_get h fo_X4_29 (by decide) rfl rfl dX4_doOne_14 ?_
      refine m_get h fo_X4_37 (by decide) rfl rfl dX4_doOne_17 ?_
      refine m_icmp_ge h dX4_doOne_20 (tgt := 105) (by decide) (by omega) (by omega) (fun c1 => ?_) (fun c1 => ?_)
      · skip
        refine m_vret h hR rfl dX4_doOne_105 ?_
        refine ⟨?_, hFu, hJu, hKu⟩
        show tC u = rdS (gC v) fl (setD (tC v) (v.1 18 1 + 1)) (g_r (gC v)).toNat
        rw [hTu]
        congr 1
        show i = (v.1 10 0).toNat
        omega
      · skip
        refine m_iload_n h dX4_doOne_23 rfl rfl ?_
        refine m_if_eq h dX4_doOne_24 (tgt := 41) (by decide) (by omega) (fun c2 => ?_) (fun c2 => ?_)
        · skip
          refine m_iload_n h dX4_doOne_41 rfl rfl ?_
          obtain ⟨rr, hre, hrr2, hrrc⟩ : ∃ rr : Nat, (rr : Int) = (i : Int) ∧ rr = (if fl = 1 then (g_r (gC v) - 1 - (i : Int)).toNat else i) ∧ (rr : Int) < v.1 10 0 := by
            refine ⟨i, rfl, ?_, by omega⟩
            rw [if_neg (by omega)]
          suffices hs9 : M X G 5 u 42 [some (.ref (G.2.1 18)), some (.int (iI fl)), some (.int (iI (i : Int))), none, none] [.int (iI (rr : Int))] by
            rw [hre] at hs9
            exact hs9
          have hrr : rr < 12 := by omega
          refine m_istore_n h dX4_doOne_42 rfl (by decide) rfl ?_
          refine m_iconst h dX4_doOne_43 ?_
          refine m_istore h dX4_doOne_44 (by decide) rfl ?_
          have lp46 : ∀ (fuel : Nat) (j : Nat) (w : Mem), (j : Int) ≤ v.1 1 0 → 20 - j < fuel → tC w = rwS (gC v) rr (tC u) j → t_x (tC w) = -1000 → Fr v w → JC w → KC w → M X G 5 w 46 [some (.ref (G.2.1 18)), some (.int (iI fl)), some (.int (iI (i : Int))), some (.int (iI (rr : Int))), some (.int (iI (j : Int)))] [] := by
            intro fuel
            induction fuel with
            | zero => intro j w hj1 hfw hTw hxw hFw hJw hKw; exfalso; omega
            | succ fuel ih46 =>
              intro j w hj1 hfw hTw hxw hFw hJw hKw
              have eA : w.1 (40 + rr) = v.1 (40 + rr) := hFw.1 _ (by omega)
              have eF : w.1 (52 + rr) = v.1 (52 + rr) := hFw.1 _ (by omega)
              have e1w : w.1 1 = v.1 1 := hFw.1 1 (by omega)
              have e10w : w.1 10 = v.1 10 := hFw.1 10 (by omega)
              have hcw : gC w = gC v := hFw.g
              have hIw : IC w := hFw.ic hI
              have hrrww : RwOk w rr := (hI.2.2.1 rr hrr).cg eA eF
              have hxw' : w.1 18 0 = -1000 := hxw
              have e1wp : w.1 1 0 = v.1 1 0 := by rw [e1w]
              refine m_iload h dX4_doOne_46 rfl ?_
              refine m_aload_n h dX4_doOne_48 rfl rfl ?_
              refine m_get h fo_X4_25 (by decide) rfl rfl dX4_doOne_49 ?_
              refine m_get h fo_X4_42 (by decide) rfl rfl dX4_doOne_52 ?_
              refine m_icmp_ge h dX4_doOne_55 (tgt := 99) (by decide) (by omega) (by omega) (fun c3 => ?_) (fun c3 => ?_)
              · skip
                refine m_iinc h dX4_doOne_99 rfl (by decide) rfl ?_
                refine m_goto h dX4_doOne_102 (tgt := 12) (by decide) ?_
                refine m_kill 3 ?_
                refine m_kill 4 ?_
                exact ih (i + 1) w (by omega) (by omega) (by
                  show tC w = if _ then _ else _
                  rw [← hTu, if_pos hxu, ← hrr2, hTw]
                  congr 1
                  show j = (v.1 1 0).toNat
                  omega) hxw hFw hJw hKw
              · skip
                refine m_aload_n h dX4_doOne_58 rfl rfl ?_
                refine m_get h fo_X4_29 (by decide) rfl rfl dX4_doOne_59 ?_
                refine m_get h fo_X4_45 (by decide) rfl rfl dX4_doOne_62 ?_
                refine m_iload_n h dX4_doOne_65 rfl rfl ?_
                refine m_aald h rr rfl hrr dX4_doOne_66 ?_
                refine m_iload h dX4_doOne_67 rfl ?_
                refine m_vI h (c_isAbout _ hG _ hrr hrrww (j : Int) (by omega)) moX1_isAbout voX1_isAbout lk_X4_49 dX4_doOne_69 (by decide) (by omega) (cE_row G _ hrr) rfl rfl (Nat.le_of_ble_eq_true rfl) (fun r4 u5 p6 => ?_)
                obtain ⟨hu9, hb⟩ := p6
                rw [hu9]
                rw [eA, eF] at hb
                have hb : bz r4 (AbR (gC v) rr j) := hb
                have hbi := hb.in
                refine m_if_eq h dX4_doOne_72 (tgt := 82) (by decide) (by omega) (fun c7 => ?_) (fun c7 => ?_)
                · skip
                  refine m_aload_n h dX4_doOne_82 rfl rfl ?_
                  refine m_get h fo_X4_9 (by decide) rfl rfl dX4_doOne_83 ?_
                  refine m_sipush h dX4_doOne_86 (by decide) ?_
                  refine m_icmp_eq h dX4_doOne_89 (tgt := 93) (by decide) (by omega) (by omega) (fun c8 => ?_) (fun c8 => ?_)
                  · skip
                    refine m_iinc h dX4_doOne_93 rfl (by decide) rfl ?_
                    refine m_goto h dX4_doOne_96 (tgt := 46) (by decide) ?_
                    exact ih46 (j + 1) w (by omega) (by omega) (by
                      show tC w = if _ then _ else _
                      rw [← hTw, if_neg (fun q => hb.no (by omega) (tf_t.mp q.2))]) hxw hFw hJw hKw
                  · skip
                    refine m_vret h hR rfl dX4_doOne_92 ?_
                    exfalso; omega
                · skip
                  refine m_aload_n h dX4_doOne_75 rfl rfl ?_
                  refine m_iload_n h dX4_doOne_76 rfl rfl ?_
                  refine m_iload h dX4_doOne_77 rfl ?_
                  refine m_vV h (c_sift _ hG w (r := rr) ⟨hIw, hJw, hKw, by rw [hcw, hTw]; exact rwS_ne hNEu j⟩ hxw' (by rw [e10w]; exact hrrc) (j : Int) (by rw [e1w]; omega) (by rw [hcw]; exact hb.yes (by omega))) moX4_sift voX4_sift lk_X4_55 dX4_doOne_79 (by decide) (by decide) rfl rfl rfl (Nat.le_of_ble_eq_true rfl) (fun w1 p11 => ?_)
                  obtain ⟨hs1, hs2, hs3, hs4⟩ := p11
                  rw [hcw] at hs1
                  have hstep : rwS (gC v) rr (tC u) (j + 1) = siS (gC v) rr (j : Int) (tC w) := by
                    show (if _ then _ else _) = _
                    rw [← hTw, if_pos ⟨hxw, tf_p (hb.yes (by omega))⟩]
                  have hx1r : -2147483648 ≤ w1.1 18 0 ∧ w1.1 18 0 ≤ 2147483647 := by
                    have q1 : w1.1 18 0 = t_x (siS (gC v) rr (j : Int) (tC w)) := congrArg t_x hs1
                    rw [q1]
                    unfold siS
                    have q2 := (sfS_o (g := gC v) (r := rr) (n := (j : Int)) (t := tC w) 64).2.1
                    split
                    · show -2147483648 ≤ (rr : Int) ∧ (rr : Int) ≤ 2147483647; omega
                    · rw [q2, hxw]; omega
                  refine m_aload_n h dX4_doOne_82 rfl rfl ?_
                  refine m_get h fo_X4_9 (by decide) rfl rfl dX4_doOne_83 ?_
                  refine m_sipush h dX4_doOne_86 (by decide) ?_
                  refine m_icmp_eq h dX4_doOne_89 (tgt := 93) (by decide) (by omega) (by omega) (fun c12 => ?_) (fun c12 => ?_)
                  · skip
                    refine m_iinc h dX4_doOne_93 rfl (by decide) rfl ?_
                    refine m_goto h dX4_doOne_96 (tgt := 46) (by decide) ?_
                    exact ih46 (j + 1) w1 (by omega) (by omega) (by
                      rw [hstep]; exact hs1) (by assumption) (hFw.tr hs2) hs3 hs4
                  · skip
                    refine m_vret h hR rfl dX4_doOne_92 ?_
                    refine ⟨?_, hFw.tr hs2, hs3, hs4⟩
                    have q1 : t_x (rwS (gC v) rr (tC u) (j + 1)) ≠ -1000 := by rw [hstep, ← hs1]; assumption
                    have q2 := rwS_stop q1 (g_n (gC v)).toNat (by show j + 1 ≤ (v.1 1 0).toNat; omega)
                    have q3 : rdS (gC v) fl (setD (tC v) (v.1 18 1 + 1)) (i + 1) = rwS (gC v) rr (tC u) (g_n (gC v)).toNat := by
                      show (if _ then _ else _) = _
                      rw [← hTu, if_pos hxu, ← hrr2]
                    have q4 : t_x (rdS (gC v) fl (setD (tC v) (v.1 18 1 + 1)) (i + 1)) ≠ -1000 := by rw [q3, q2]; exact q1
                    have q5 := rdS_stop q4 (g_r (gC v)).toNat (by show i + 1 ≤ (v.1 10 0).toNat; omega)
                    show tC w1 = rdS (gC v) fl (setD (tC v) (v.1 18 1 + 1)) (g_r (gC v)).toNat
                    rw [q5, q3, q2, hstep]
                    exact hs1
          exact lp46 40 0 u (by omega) (by omega) rfl hxu hFu hJu hKu
        · skip
          refine m_aload_n h dX4_doOne_27 rfl rfl ?_
          refine m_get h fo_X4_29 (by decide) rfl rfl dX4_doOne_28 ?_
          refine m_get h fo_X4_37 (by decide) rfl rfl dX4_doOne_31 ?_
          refine m_iconst h dX4_doOne_34 ?_
          refine m_isub h dX4_doOne_35 ?_
          refine m_iload_n h dX4_doOne_36 rfl rfl ?_
          refine m_isub h dX4_doOne_37 ?_
          refine m_goto h dX4_doOne_38 (tgt := 42) (by decide) ?_
          obtain ⟨rr, hre, hrr2, hrrc⟩ : ∃ rr : Nat, (rr : Int) = ((u.1 10 0) - 1) - (i : Int) ∧ rr = (if fl = 1 then (g_r (gC v) - 1 - (i : Int)).toNat else i) ∧ (rr : Int) < v.1 10 0 := by
            refine ⟨(v.1 10 0 - 1 - (i : Int)).toNat, by omega, ?_, by omega⟩
            rw [if_pos (by omega)]
            rfl
          suffices hs9 : M X G 5 u 42 [some (.ref (G.2.1 18)), some (.int (iI fl)), some (.int (iI (i : Int))), none, none] [.int (iI (rr : Int))] by
            rw [hre] at hs9
            exact hs9
          have hrr : rr < 12 := by omega
          refine m_istore_n h dX4_doOne_42 rfl (by decide) rfl ?_
          refine m_iconst h dX4_doOne_43 ?_
          refine m_istore h dX4_doOne_44 (by decide) rfl ?_
          have lp46 : ∀ (fuel : Nat) (j : Nat) (w : Mem), (j : Int) ≤ v.1 1 0 → 20 - j < fuel → tC w = rwS (gC v) rr (tC u) j → t_x (tC w) = -1000 → Fr v w → JC w → KC w → M X G 5 w 46 [some (.ref (G.2.1 18)), some (.int (iI fl)), some (.int (iI (i : Int))), some (.int (iI (rr : Int))), some (.int (iI (j : Int)))] [] := by
            intro fuel
            induction fuel with
            | zero => intro j w hj1 hfw hTw hxw hFw hJw hKw; exfalso; omega
            | succ fuel ih46 =>
              intro j w hj1 hfw hTw hxw hFw hJw hKw
              have eA : w.1 (40 + rr) = v.1 (40 + rr) := hFw.1 _ (by omega)
              have eF : w.1 (52 + rr) = v.1 (52 + rr) := hFw.1 _ (by omega)
              have e1w : w.1 1 = v.1 1 := hFw.1 1 (by omega)
              have e10w : w.1 10 = v.1 10 := hFw.1 10 (by omega)
              have hcw : gC w = gC v := hFw.g
              have hIw : IC w := hFw.ic hI
              have hrrww : RwOk w rr := (hI.2.2.1 rr hrr).cg eA eF
              have hxw' : w.1 18 0 = -1000 := hxw
              have e1wp : w.1 1 0 = v.1 1 0 := by rw [e1w]
              refine m_iload h dX4_doOne_46 rfl ?_
              refine m_aload_n h dX4_doOne_48 rfl rfl ?_
              refine m_get h fo_X4_25 (by decide) rfl rfl dX4_doOne_49 ?_
              refine m_get h fo_X4_42 (by decide) rfl rfl dX4_doOne_52 ?_
              refine m_icmp_ge h dX4_doOne_55 (tgt := 99) (by decide) (by omega) (by omega) (fun c13 => ?_) (fun c13 => ?_)
              · skip
                refine m_iinc h dX4_doOne_99 rfl (by decide) rfl ?_
                refine m_goto h dX4_doOne_102 (tgt := 12) (by decide) ?_
                refine m_kill 3 ?_
                refine m_kill 4 ?_
                exact ih (i + 1) w (by omega) (by omega) (by
                  show tC w = if _ then _ else _
                  rw [← hTu, if_pos hxu, ← hrr2, hTw]
                  congr 1
                  show j = (v.1 1 0).toNat
                  omega) hxw hFw hJw hKw
              · skip
                refine m_aload_n h dX4_doOne_58 rfl rfl ?_
                refine m_get h fo_X4_29 (by decide) rfl rfl dX4_doOne_59 ?_
                refine m_get h fo_X4_45 (by decide) rfl rfl dX4_doOne_62 ?_
                refine m_iload_n h dX4_doOne_65 rfl rfl ?_
                refine m_aald h rr rfl hrr dX4_doOne_66 ?_
                refine m_iload h dX4_doOne_67 rfl ?_
                refine m_vI h (c_isAbout _ hG _ hrr hrrww (j : Int) (by omega)) moX1_isAbout voX1_isAbout lk_X4_49 dX4_doOne_69 (by decide) (by omega) (cE_row G _ hrr) rfl rfl (Nat.le_of_ble_eq_true rfl) (fun r14 u15 p16 => ?_)
                obtain ⟨hu9, hb⟩ := p16
                rw [hu9]
                rw [eA, eF] at hb
                have hb : bz r14 (AbR (gC v) rr j) := hb
                have hbi := hb.in
                refine m_if_eq h dX4_doOne_72 (tgt := 82) (by decide) (by omega) (fun c17 => ?_) (fun c17 => ?_)
                · skip
                  refine m_aload_n h dX4_doOne_82 rfl rfl ?_
                  refine m_get h fo_X4_9 (by decide) rfl rfl dX4_doOne_83 ?_
                  refine m_sipush h dX4_doOne_86 (by decide) ?_
                  refine m_icmp_eq h dX4_doOne_89 (tgt := 93) (by decide) (by omega) (by omega) (fun c18 => ?_) (fun c18 => ?_)
                  · skip
                    refine m_iinc h dX4_doOne_93 rfl (by decide) rfl ?_
                    refine m_goto h dX4_doOne_96 (tgt := 46) (by decide) ?_
                    exact ih46 (j + 1) w (by omega) (by omega) (by
                      show tC w = if _ then _ else _
                      rw [← hTw, if_neg (fun q => hb.no (by omega) (tf_t.mp q.2))]) hxw hFw hJw hKw
                  · skip
                    refine m_vret h hR rfl dX4_doOne_92 ?_
                    exfalso; omega
                · skip
                  refine m_aload_n h dX4_doOne_75 rfl rfl ?_
                  refine m_iload_n h dX4_doOne_76 rfl rfl ?_
                  refine m_iload h dX4_doOne_77 rfl ?_
                  refine m_vV h (c_sift _ hG w (r := rr) ⟨hIw, hJw, hKw, by rw [hcw, hTw]; exact rwS_ne hNEu j⟩ hxw' (by rw [e10w]; exact hrrc) (j : Int) (by rw [e1w]; omega) (by rw [hcw]; exact hb.yes (by omega))) moX4_sift voX4_sift lk_X4_55 dX4_doOne_79 (by decide) (by decide) rfl rfl rfl (Nat.le_of_ble_eq_true rfl) (fun w1 p21 => ?_)
                  obtain ⟨hs1, hs2, hs3, hs4⟩ := p21
                  rw [hcw] at hs1
                  have hstep : rwS (gC v) rr (tC u) (j + 1) = siS (gC v) rr (j : Int) (tC w) := by
                    show (if _ then _ else _) = _
                    rw [← hTw, if_pos ⟨hxw, tf_p (hb.yes (by omega))⟩]
                  have hx1r : -2147483648 ≤ w1.1 18 0 ∧ w1.1 18 0 ≤ 2147483647 := by
                    have q1 : w1.1 18 0 = t_x (siS (gC v) rr (j : Int) (tC w)) := congrArg t_x hs1
                    rw [q1]
                    unfold siS
                    have q2 := (sfS_o (g := gC v) (r := rr) (n := (j : Int)) (t := tC w) 64).2.1
                    split
                    · show -2147483648 ≤ (rr : Int) ∧ (rr : Int) ≤ 2147483647; omega
                    · rw [q2, hxw]; omega
                  refine m_aload_n h dX4_doOne_82 rfl rfl ?_
                  refine m_get h fo_X4_9 (by decide) rfl rfl dX4_doOne_83 ?_
                  refine m_sipush h dX4_doOne_86 (by decide) ?_
                  refine m_icmp_eq h dX4_doOne_89 (tgt := 93) (by decide) (by omega) (by omega) (fun c22 => ?_) (fun c22 => ?_)
                  · skip
                    refine m_iinc h dX4_doOne_93 rfl (by decide) rfl ?_
                    refine m_goto h dX4_doOne_96 (tgt := 46) (by decide) ?_
                    exact ih46 (j + 1) w1 (by omega) (by omega) (by
                      rw [hstep]; exact hs1) (by assumption) (hFw.tr hs2) hs3 hs4
                  · skip
                    refine m_vret h hR rfl dX4_doOne_92 ?_
                    refine ⟨?_, hFw.tr hs2, hs3, hs4⟩
                    have q1 : t_x (rwS (gC v) rr (tC u) (j + 1)) ≠ -1000 := by rw [hstep, ← hs1]; assumption
                    have q2 := rwS_stop q1 (g_n (gC v)).toNat (by show j + 1 ≤ (v.1 1 0).toNat; omega)
                    have q3 : rdS (gC v) fl (setD (tC v) (v.1 18 1 + 1)) (i + 1) = rwS (gC v) rr (tC u) (g_n (gC v)).toNat := by
                      show (if _ then _ else _) = _
                      rw [← hTu, if_pos hxu, ← hrr2]
                    have q4 : t_x (rdS (gC v) fl (setD (tC v) (v.1 18 1 + 1)) (i + 1)) ≠ -1000 := by rw [q3, q2]; exact q1
                    have q5 := rdS_stop q4 (g_r (gC v)).toNat (by show i + 1 ≤ (v.1 10 0).toNat; omega)
                    show tC w1 = rdS (gC v) fl (setD (tC v) (v.1 18 1 + 1)) (g_r (gC v)).toNat
                    rw [q5, q3, q2, hstep]
                    exact hs1
          exact lp46 40 0 u (by omega) (by omega) rfl hxu hFu hJu hKu
  exact lp12 40 0 _ (by omega) (by omega) tC_d (by rw [tC_d]; exact hx) Fr_18 (JC_18 hJ) (KC_18 hK)
