/-! LinearReach: its calls -/
def XR (g : Cfg) (t : TT) : Prop := t_x t = -1000 ∨ (0 ≤ t_x t ∧ t_x t < g_r g)
theorem siS_x {g : Cfg} {r : Nat} {n : Int} {t : TT} (hr : (r : Int) < g_r g) (h : XR g t) : XR g (siS g r n t) := by
  have q := (sfS_o (g := g) (r := r) (n := n) (t := t) 64).2.1
  unfold siS
  generalize sfS g r n t 64 = y at *
  split
  · right
    show 0 ≤ (r : Int) ∧ (r : Int) < g_r g
    omega
  · unfold XR
    rw [q]; exact h
theorem rwS_x {g : Cfg} {r : Nat} {t : TT} (hr : (r : Int) < g_r g) (h : XR g t) : ∀ j : Nat, XR g (rwS g r t j)
  | 0 => h
  | j + 1 => by
    have ih := rwS_x hr h j
    simp only [rwS]
    split
    · exact siS_x hr ih
    · exact ih
theorem rdS_x {g : Cfg} {ord : Int} {t : TT} (h : XR g t) : ∀ j : Nat, (j : Int) ≤ g_r g → XR g (rdS g ord t j)
  | 0, _ => h
  | j + 1, hj => by
    have ih := rdS_x (ord := ord) h j (by omega)
    simp only [rdS]
    split
    · apply rwS_x _ ih
      split <;> omega
    · exact ih
theorem onS_x {g : Cfg} {ord : Int} {t : TT} (hg : 0 ≤ g_r g) (h : XR g t) : XR g (onS g ord t) := rdS_x (t := setD t (t_d t + 1)) h _ (by omega)
theorem rnS_x {g : Cfg} {ord : Int} (hg : 0 ≤ g_r g) : ∀ (m : Nat) (d : Int) (t : TT), XR g t → XR g (rnS g ord m d t).2
  | 0, _, _, h => h
  | m + 1, d, t, h => by
    have h1 := onS_x (ord := ord) hg h
    simp only [rnS]
    split
    · split
      · exact h1
      · exact rnS_x hg m _ _ h1
    · exact h
theorem rnS_stop {g : Cfg} {ord d : Int} {t : TT} (h : t_x t ≠ -1000) (m : Nat) : rnS g ord m d t = (d, t) := by
  cases m with
  | zero => rfl
  | succ m => simp only [rnS]; rw [if_neg h]
theorem hbZ_wo {v : Mem} {w : Int64} {n : Int} (hnu : ∀ x, -32 ≤ v.1 15 x ∧ v.1 15 x ≤ 31) : ∀ j : Nat, hbZ (wo v w n j) = woS (hbZ w) (v.1 14) (v.1 15) n j
  | 0 => rfl
  | j + 1 => by
    have ih := hbZ_wo (w := w) (n := n) hnu j
    simp only [wo, woS]
    by_cases e : v.1 14 (j : Int) = n
    · rw [if_pos e, if_pos e]
      funext k
      have := hnu j
      rw [hbZ_clr (by omega), ih]
    · rw [if_neg e, if_neg e, ih]
theorem bc_eq {z : Int} (hz : 0 ≤ z ∧ z < 65536) : (pN 32 (uI (iI z)) : Int) = sm (ind (pb z)) 16 := by
  have e : uI (iI z) = z.toNat := iI_bv (by omega)
  rw [e, ← pN_sm]
  have e2 : ∀ k : Nat, 16 ≤ k → z.toNat.testBit k = false := fun k hk => Nat.testBit_lt_two_pow (Nat.lt_of_lt_of_le (show z.toNat < 2 ^ 16 by omega) (Nat.pow_le_pow_right (by decide) hk))
  have e3 : ∀ j : Nat, sm (fun k => if z.toNat.testBit k.toNat = true then (1 : Int) else 0) (16 + j) = sm (ind (pb z)) 16 := by
    intro j
    induction j with
    | zero => rfl
    | succ j ih =>
      rw [show 16 + (j + 1) = (16 + j) + 1 by omega]
      show sm _ (16 + j) + (if z.toNat.testBit ((16 + j : Nat) : Int).toNat = true then (1 : Int) else 0) = _
      rw [ih, Int.toNat_natCast, e2 _ (by omega), if_neg (by simp)]
      omega
  exact e3 16

set_option maxRecDepth 100000 in
set_option maxHeartbeats 4000000 in
theorem c_clash (l : Launch) {G : GT} (hG : gok G) (v : Mem) (hC : OKC v) : CC l G nX7_clash 0 [.ref (G.2.1 0)] v (qI G (fun r u => u = v ∧ r = t_x (tC v))) := by
  refine m_start (lv := [some (.ref (G.2.1 0))]) hG (by decide +kernel) rfl (Nat.le_of_ble_eq_true rfl) ?_
  intro X hL h hR
  subst hL
  show M X G 1 v 0 [some (.ref (G.2.1 0))] []
  refine m_aload_n h dX7_clash_0 rfl rfl ?_
  refine m_get h fo_X7_35 (by decide) rfl rfl dX7_clash_1 ?_
  refine m_get h fo_X7_116 (by decide) rfl rfl dX7_clash_4 ?_
  refine m_iret h hR rfl dX7_clash_7 ?_
  exact ⟨rfl, rfl⟩

set_option maxRecDepth 100000 in
set_option maxHeartbeats 4000000 in
theorem c_steps (l : Launch) {G : GT} (hG : gok G) (v : Mem) (hC : OKC v) : CC l G nX7_steps 0 [.ref (G.2.1 0)] v (qI G (fun r u => u = v ∧ r = t_c (tC v))) := by
  refine m_start (lv := [some (.ref (G.2.1 0))]) hG (by decide +kernel) rfl (Nat.le_of_ble_eq_true rfl) ?_
  intro X hL h hR
  subst hL
  show M X G 1 v 0 [some (.ref (G.2.1 0))] []
  refine m_aload_n h dX7_steps_0 rfl rfl ?_
  refine m_get h fo_X7_26 (by decide) rfl rfl dX7_steps_1 ?_
  refine m_get h fo_X7_119 (by decide) rfl rfl dX7_steps_4 ?_
  refine m_iret h hR rfl dX7_steps_7 ?_
  exact ⟨rfl, rfl⟩

set_option maxRecDepth 100000 in
set_option maxHeartbeats 4000000 in
theorem c_has (l : Launch) {G : GT} (hG : gok G) (v : Mem) (hC : OKC v) (n : Int) (hn : -2147483648 ≤ n ∧ n ≤ 2147483647) (z : Int) (hz : -2147483648 ≤ z ∧ z ≤ 2147483647) : CC l G nX7_has 2 [.ref (G.2.1 0), .int (iI n), .int (iI z)] v (qI G (fun r u => u = v ∧ A_has (gC v) (tC v) n z r)) := by
  refine m_start (lv := [some (.ref (G.2.1 0)), some (.int (iI n)), some (.int (iI z))]) hG (by decide +kernel) rfl (Nat.le_of_ble_eq_true rfl) ?_
  intro X hL h hR
  subst hL
  obtain ⟨⟨hI, hJ, hK, hNE⟩, hW, hX⟩ := id hC
  have hc8 := hI.1
  have hc12 := hI.2.1
  have hkc := hK.1
  have htn := tot_nn (t_s (tC v))
  show M X G 3 v 0 [some (.ref (G.2.1 0)), some (.int (iI n)), some (.int (iI z))] []
  refine m_aload_n h dX7_has_0 rfl rfl ?_
  refine m_iload_n h dX7_has_1 rfl rfl ?_
  refine m_vI h (c_isName _ hG _ n (by omega) (by omega)) moX7_isName voX7_isName lk_X7_63 dX7_has_2 (by decide) (by decide) rfl rfl rfl (Nat.le_of_ble_eq_true rfl) (fun r1 u2 p3 => ?_)
  obtain ⟨hu9, hb1⟩ := p3
  rw [hu9]
  have hb1i := hb1.in
  refine m_if_ne h dX7_has_5 (tgt := 12) (by decide) (by omega) (fun c4 => ?_) (fun c4 => ?_)
  · skip
    refine m_iload_n h dX7_has_12 rfl rfl ?_
    refine m_sI h (c_isNumber _ hG _ z (by omega)) moX7_isNumber stX7_isNumber lk_X7_48 dX7_has_13 (by decide) rfl rfl (Nat.le_of_ble_eq_true rfl) (fun r5 u6 p7 => ?_)
    obtain ⟨hu9, hb2⟩ := p7
    rw [hu9]
    have hb2i := hb2.in
    refine m_if_eq h dX7_has_16 (tgt := 39) (by decide) (by omega) (fun c8 => ?_) (fun c8 => ?_)
    · skip
      refine m_iconst h dX7_has_39 ?_
      refine m_iret h hR rfl dX7_has_40 ?_
      refine ⟨rfl, Or.inr ⟨hb1.yes (by omega), ?_⟩⟩
      refine bz0 (fun q => ?_)
      have q3 : hbZ (v.2 3 n) (z + 32) = true := q.2
      rw [hbZ_in (by omega)] at q3
      first | exact hb2.no (by omega) q.1 | exact hb3.no (by omega) q3
    · skip
      refine m_aload_n h dX7_has_19 rfl rfl ?_
      refine m_get h fo_X7_10 (by decide) rfl rfl dX7_has_20 ?_
      refine m_get h fo_X7_124 (by decide) rfl rfl dX7_has_23 ?_
      refine m_iload_n h dX7_has_26 rfl rfl ?_
      refine m_lald h (ar_3 G) (by have := hb1.yes (by omega); omega) (by have := hb1.yes (by omega); omega) dX7_has_27 ?_
      refine m_iload_n h dX7_has_28 rfl rfl ?_
      refine m_sI h (c_hasBit _ hG _ (v.2 3 n) z (hb2.yes (by omega))) moX7_hasBit stX7_hasBit lk_X7_77 dX7_has_29 (by decide) rfl rfl (Nat.le_of_ble_eq_true rfl) (fun r9 u10 p11 => ?_)
      obtain ⟨hu9, hb3⟩ := p11
      rw [hu9]
      have hb3i := hb3.in
      refine m_if_eq h dX7_has_32 (tgt := 39) (by decide) (by omega) (fun c12 => ?_) (fun c12 => ?_)
      · skip
        refine m_iconst h dX7_has_39 ?_
        refine m_iret h hR rfl dX7_has_40 ?_
        refine ⟨rfl, Or.inr ⟨hb1.yes (by omega), ?_⟩⟩
        refine bz0 (fun q => ?_)
        have q3 : hbZ (v.2 3 n) (z + 32) = true := q.2
        rw [hbZ_in (by omega)] at q3
        first | exact hb2.no (by omega) q.1 | exact hb3.no (by omega) q3
      · skip
        refine m_iconst h dX7_has_35 ?_
        refine m_goto h dX7_has_36 (tgt := 40) (by decide) ?_
        refine m_iret h hR rfl dX7_has_40 ?_
        refine ⟨rfl, Or.inr ⟨hb1.yes (by omega), ?_⟩⟩
        have q := hb3.yes (by omega)
        have q2 := hb2.yes (by omega)
        exact bz1 ⟨q2, by show hbZ _ _ = true; rw [hbZ_in (by omega)]; exact q⟩
  · skip
    refine m_sipush h dX7_has_8 (by decide) ?_
    refine m_iret h hR rfl dX7_has_11 ?_
    exact ⟨rfl, Or.inl ⟨hb1.no (by omega), rfl⟩⟩

set_option maxRecDepth 100000 in
set_option maxHeartbeats 4000000 in
theorem c_end (l : Launch) {G : GT} (hG : gok G) (v : Mem) (hC : OKC v) (n : Int) (hn : -2147483648 ≤ n ∧ n ≤ 2147483647) (mb : Int) (hmb : mb = 0 ∨ mb = 1) : CC l G nX7_end 3 [.ref (G.2.1 0), .int (iI n), .int (iI mb)] v (qI G (fun r u => u = v ∧ A_end (gC v) (tC v) n mb r)) := by
  refine m_start (lv := [some (.ref (G.2.1 0)), some (.int (iI n)), some (.int (iI mb)), none, none]) hG (by decide +kernel) rfl (Nat.le_of_ble_eq_true rfl) ?_
  intro X hL h hR
  subst hL
  obtain ⟨⟨hI, hJ, hK, hNE⟩, hW, hX⟩ := id hC
  have hc8 := hI.1
  have hc12 := hI.2.1
  have hkc := hK.1
  have htn := tot_nn (t_s (tC v))
  show M X G 5 v 0 [some (.ref (G.2.1 0)), some (.int (iI n)), some (.int (iI mb)), none, none] []
  refine m_aload_n h dX7_end_0 rfl rfl ?_
  refine m_iload_n h dX7_end_1 rfl rfl ?_
  refine m_vI h (c_isName _ hG _ n (by omega) (by omega)) moX7_isName voX7_isName lk_X7_63 dX7_end_2 (by decide) (by decide) rfl rfl rfl (Nat.le_of_ble_eq_true rfl) (fun r1 u2 p3 => ?_)
  obtain ⟨hu9, hb1⟩ := p3
  rw [hu9]
  have hb1i := hb1.in
  refine m_if_ne h dX7_end_5 (tgt := 12) (by decide) (by omega) (fun c4 => ?_) (fun c4 => ?_)
  · skip
    have hnm := hb1.yes (by omega)
    refine m_aload_n h dX7_end_12 rfl rfl ?_
    refine m_get h fo_X7_10 (by decide) rfl rfl dX7_end_13 ?_
    refine m_get h fo_X7_124 (by decide) rfl rfl dX7_end_16 ?_
    refine m_iload_n h dX7_end_19 rfl rfl ?_
    refine m_lald h (ar_3 G) (by omega) (by omega) dX7_end_20 ?_
    refine m_lstore_n h dX7_end_21 rfl (by decide) rfl ?_
    refine m_lload_n h dX7_end_22 rfl rfl ?_
    refine m_lconst h dX7_end_23 (z := 0) rfl ?_
    have hlg : (lg_cmp (v.2 3 n) 0).toInt = 0 ↔ uW (v.2 3 n) = 0 := lgc0.trans uW_0.symm
    refine m_lcmp h dX7_end_24 (c := (lg_cmp (v.2 3 n) 0).toInt) (iI_of _) ?_
    refine m_if_ne h dX7_end_25 (tgt := 32) (by decide) (iI_rg _) (fun c5 => ?_) (fun c5 => ?_)
    · skip
      refine m_iload_n h dX7_end_32 rfl rfl ?_
      refine m_if_eq h dX7_end_33 (tgt := 43) (by decide) (by omega) (fun c6 => ?_) (fun c6 => ?_)
      · skip
        refine m_lload_n h dX7_end_43 rfl rfl ?_
        refine m_sI h (c_leastOf _ hG _ (v.2 3 n) (by omega)) moX7_leastOf stX7_leastOf lk_X7_131 dX7_end_44 (by decide) rfl rfl (Nat.le_of_ble_eq_true rfl) (fun r7 u8 p9 => ?_)
        obtain ⟨hu9, er⟩ := p9
        rw [hu9, er]
        refine m_iret h hR rfl dX7_end_47 ?_
        refine ⟨rfl, Or.inr ⟨hnm, ?_⟩⟩
        rw [if_pos (by omega)]
        exact SL_Z.symm
      · skip
        refine m_lload_n h dX7_end_36 rfl rfl ?_
        refine m_sI h (c_mostOf _ hG _ (v.2 3 n) (by omega)) moX7_mostOf stX7_mostOf lk_X7_127 dX7_end_37 (by decide) rfl rfl (Nat.le_of_ble_eq_true rfl) (fun r10 u11 p12 => ?_)
        obtain ⟨hu9, er⟩ := p12
        rw [hu9, er]
        refine m_goto h dX7_end_40 (tgt := 47) (by decide) ?_
        refine m_iret h hR rfl dX7_end_47 ?_
        refine ⟨rfl, Or.inr ⟨hnm, ?_⟩⟩
        rw [if_neg (by omega)]
        exact SM_Z.symm
    · skip
      refine m_sipush h dX7_end_28 (by decide) ?_
      refine m_iret h hR rfl dX7_end_31 ?_
      refine ⟨rfl, Or.inr ⟨hnm, ?_⟩⟩
      have e0 : ∀ k, t_s (tC v) n k = false := fun k => by
        show hbZ (v.2 3 n) k = false
        unfold hbZ
        split
        · exact hb_0 (by omega) k
        · rfl
      have e1 : ∀ j, lsF (t_s (tC v) n) j = -1000 := fun j => by
        induction j with
        | zero => rfl
        | succ j ih => simp only [lsF]; rw [e0, if_neg (by simp), ih]
      have e2 : ∀ j, msF (t_s (tC v) n) j = -1000 := fun j => by
        induction j with
        | zero => rfl
        | succ j ih => simp only [msF]; rw [e0, if_neg (by simp), ih]
      unfold SL SM
      rw [e1, e2, ite_self]
  · skip
    refine m_sipush h dX7_end_8 (by decide) ?_
    refine m_iret h hR rfl dX7_end_11 ?_
    exact ⟨rfl, Or.inl ⟨hb1.no (by omega), rfl⟩⟩

set_option maxRecDepth 100000 in
set_option maxHeartbeats 4000000 in
theorem c_size (l : Launch) {G : GT} (hG : gok G) (v : Mem) (hC : OKC v) (n : Int) (hn : -2147483648 ≤ n ∧ n ≤ 2147483647) : CC l G nX7_size 2 [.ref (G.2.1 0), .int (iI n)] v (qI G (fun r u => u = v ∧ A_size (gC v) (tC v) n r)) := by
  refine m_start (lv := [some (.ref (G.2.1 0)), some (.int (iI n))]) hG (by decide +kernel) rfl (Nat.le_of_ble_eq_true rfl) ?_
  intro X hL h hR
  subst hL
  obtain ⟨⟨hI, hJ, hK, hNE⟩, hW, hX⟩ := id hC
  have hc8 := hI.1
  have hc12 := hI.2.1
  have hkc := hK.1
  have htn := tot_nn (t_s (tC v))
  show M X G 2 v 0 [some (.ref (G.2.1 0)), some (.int (iI n))] []
  refine m_aload_n h dX7_size_0 rfl rfl ?_
  refine m_iload_n h dX7_size_1 rfl rfl ?_
  refine m_vI h (c_isName _ hG _ n (by omega) (by omega)) moX7_isName voX7_isName lk_X7_63 dX7_size_2 (by decide) (by decide) rfl rfl rfl (Nat.le_of_ble_eq_true rfl) (fun r1 u2 p3 => ?_)
  obtain ⟨hu9, hb1⟩ := p3
  rw [hu9]
  have hb1i := hb1.in
  refine m_if_eq h dX7_size_5 (tgt := 23) (by decide) (by omega) (fun c4 => ?_) (fun c4 => ?_)
  · skip
    refine m_sipush h dX7_size_23 (by decide) ?_
    refine m_iret h hR rfl dX7_size_26 ?_
    exact ⟨rfl, Or.inl ⟨hb1.no (by omega), rfl⟩⟩
  · skip
    have hnm := hb1.yes (by omega)
    refine m_aload_n h dX7_size_8 rfl rfl ?_
    refine m_get h fo_X7_10 (by decide) rfl rfl dX7_size_9 ?_
    refine m_get h fo_X7_124 (by decide) rfl rfl dX7_size_12 ?_
    refine m_iload_n h dX7_size_15 rfl rfl ?_
    refine m_lald h (ar_3 G) (by omega) (by omega) dX7_size_16 ?_
    refine m_sI h (c_lbc _ hG _ (v.2 3 n)) moJ13_bitCount_95d88 stJ13_bitCount_95d88 lk_X7_134 dX7_size_17 (by decide) rfl rfl (Nat.le_of_ble_eq_true rfl) (fun r5 u6 p7 => ?_)
    obtain ⟨hu9, er⟩ := p7
    rw [hu9]
    refine m_goto h dX7_size_20 (tgt := 26) (by decide) ?_
    refine m_iret h hR rfl dX7_size_26 ?_
    refine ⟨rfl, Or.inr ⟨hnm, ?_⟩⟩
    rw [er, ← pN_sm]
    apply sm_c
    intro j hj
    show _ = if hbZ (v.2 3 n) j = true then (1 : Int) else 0
    rw [hbZ_in (by omega)]
    rfl

set_option maxRecDepth 100000 in
set_option maxHeartbeats 4000000 in
theorem c_step (l : Launch) {G : GT} (hG : gok G) (v : Mem) (hC : OKC v) (i : Int) (hi : -2147483648 ≤ i ∧ i ≤ 2147483647) (w : Int) (hw : -2147483648 ≤ w ∧ w ≤ 2147483647) : CC l G nX7_step 1 [.ref (G.2.1 0), .int (iI i), .int (iI w)] v (qI G (fun r u => u = v ∧ A_step (tC v) i w r)) := by
  refine m_start (lv := [some (.ref (G.2.1 0)), some (.int (iI i)), some (.int (iI w))]) hG (by decide +kernel) rfl (Nat.le_of_ble_eq_true rfl) ?_
  intro X hL h hR
  subst hL
  obtain ⟨⟨hI, hJ, hK, hNE⟩, hW, hX⟩ := id hC
  have hc8 := hI.1
  have hc12 := hI.2.1
  have hkc := hK.1
  have htn := tot_nn (t_s (tC v))
  show M X G 3 v 0 [some (.ref (G.2.1 0)), some (.int (iI i)), some (.int (iI w))] []
  refine m_aload_n h dX7_step_0 rfl rfl ?_
  refine m_iload_n h dX7_step_1 rfl rfl ?_
  refine m_vI h (c_isStep _ hG _ i (by omega) (by omega)) moX7_isStep voX7_isStep lk_X7_139 dX7_step_2 (by decide) (by decide) rfl rfl rfl (Nat.le_of_ble_eq_true rfl) (fun r1 u2 p3 => ?_)
  obtain ⟨hu9, hb1⟩ := p3
  rw [hu9]
  have hb1i := hb1.in
  refine m_if_ne h dX7_step_5 (tgt := 12) (by decide) (by omega) (fun c4 => ?_) (fun c4 => ?_)
  · skip
    have hst : 0 ≤ i ∧ i < v.1 12 0 := hb1.yes (by omega)
    refine m_iload_n h dX7_step_12 rfl rfl ?_
    rcases (show w = 0 ∨ w = 1 ∨ w = 2 ∨ w = 3 ∨ (w < 0 ∨ 3 < w) by omega) with sw5 | sw5 | sw5 | sw5 | sw5
    · skip
      refine m_tsIn h dX7_step_13 (off := 31) (tgt := 44) (by omega) (by omega) (by omega) (by rw [sw5]; rfl) (by decide) ?_
      refine m_aload_n h dX7_step_44 rfl rfl ?_
      refine m_get h fo_X7_26 (by decide) rfl rfl dX7_step_45 ?_
      refine m_get h fo_X7_142 (by decide) rfl rfl dX7_step_48 ?_
      refine m_iload_n h dX7_step_51 rfl rfl ?_
      refine m_iald h (ar_13 G) (by omega) (by omega) dX7_step_52 ?_
      refine m_iret h hR rfl dX7_step_53 ?_
      exact ⟨rfl, Or.inr ⟨hst, Or.inl ⟨by omega, rfl⟩⟩⟩
    · skip
      refine m_tsIn h dX7_step_13 (off := 41) (tgt := 54) (by omega) (by omega) (by omega) (by rw [sw5]; rfl) (by decide) ?_
      refine m_aload_n h dX7_step_54 rfl rfl ?_
      refine m_get h fo_X7_26 (by decide) rfl rfl dX7_step_55 ?_
      refine m_get h fo_X7_145 (by decide) rfl rfl dX7_step_58 ?_
      refine m_iload_n h dX7_step_61 rfl rfl ?_
      refine m_iald h (ar_14 G) (by omega) (by omega) dX7_step_62 ?_
      refine m_iret h hR rfl dX7_step_63 ?_
      exact ⟨rfl, Or.inr ⟨hst, Or.inr (Or.inl ⟨by omega, rfl⟩)⟩⟩
    · skip
      refine m_tsIn h dX7_step_13 (off := 51) (tgt := 64) (by omega) (by omega) (by omega) (by rw [sw5]; rfl) (by decide) ?_
      refine m_aload_n h dX7_step_64 rfl rfl ?_
      refine m_get h fo_X7_26 (by decide) rfl rfl dX7_step_65 ?_
      refine m_get h fo_X7_148 (by decide) rfl rfl dX7_step_68 ?_
      refine m_iload_n h dX7_step_71 rfl rfl ?_
      refine m_iald h (ar_15 G) (by omega) (by omega) dX7_step_72 ?_
      refine m_iret h hR rfl dX7_step_73 ?_
      exact ⟨rfl, Or.inr ⟨hst, Or.inr (Or.inr (Or.inl ⟨by omega, rfl⟩))⟩⟩
    · skip
      refine m_tsIn h dX7_step_13 (off := 61) (tgt := 74) (by omega) (by omega) (by omega) (by rw [sw5]; rfl) (by decide) ?_
      refine m_aload_n h dX7_step_74 rfl rfl ?_
      refine m_get h fo_X7_26 (by decide) rfl rfl dX7_step_75 ?_
      refine m_get h fo_X7_151 (by decide) rfl rfl dX7_step_78 ?_
      refine m_iload_n h dX7_step_81 rfl rfl ?_
      refine m_iald h (ar_16 G) (by omega) (by omega) dX7_step_82 ?_
      refine m_iret h hR rfl dX7_step_83 ?_
      exact ⟨rfl, Or.inr ⟨hst, Or.inr (Or.inr (Or.inr ⟨by omega, rfl⟩))⟩⟩
    · skip
      refine m_tsOut h dX7_step_13 (tgt := 84) (by omega) (by omega) (by decide) ?_
      refine m_sipush h dX7_step_84 (by decide) ?_
      refine m_iret h hR rfl dX7_step_87 ?_
      exact ⟨rfl, Or.inl ⟨fun q => by omega, rfl⟩⟩
  · skip
    refine m_sipush h dX7_step_8 (by decide) ?_
    refine m_iret h hR rfl dX7_step_11 ?_
    exact ⟨rfl, Or.inl ⟨fun q => hb1.no (by omega) q.1, rfl⟩⟩

set_option maxRecDepth 100000 in
set_option maxHeartbeats 4000000 in
theorem c_reason (l : Launch) {G : GT} (hG : gok G) (v : Mem) (hC : OKC v) (i : Int) (hi : -2147483648 ≤ i ∧ i ≤ 2147483647) : CC l G nX7_reason 1 [.ref (G.2.1 0), .int (iI i)] v (qI G (fun r u => u = v ∧ A_reason (tC v) i r)) := by
  refine m_start (lv := [some (.ref (G.2.1 0)), some (.int (iI i))]) hG (by decide +kernel) rfl (Nat.le_of_ble_eq_true rfl) ?_
  intro X hL h hR
  subst hL
  obtain ⟨⟨hI, hJ, hK, hNE⟩, hW, hX⟩ := id hC
  have hc8 := hI.1
  have hc12 := hI.2.1
  have hkc := hK.1
  have htn := tot_nn (t_s (tC v))
  show M X G 2 v 0 [some (.ref (G.2.1 0)), some (.int (iI i))] []
  refine m_aload_n h dX7_reason_0 rfl rfl ?_
  refine m_iload_n h dX7_reason_1 rfl rfl ?_
  refine m_vI h (c_isStep _ hG _ i (by omega) (by omega)) moX7_isStep voX7_isStep lk_X7_139 dX7_reason_2 (by decide) (by decide) rfl rfl rfl (Nat.le_of_ble_eq_true rfl) (fun r1 u2 p3 => ?_)
  obtain ⟨hu9, hb1⟩ := p3
  rw [hu9]
  have hb1i := hb1.in
  refine m_if_eq h dX7_reason_5 (tgt := 23) (by decide) (by omega) (fun c4 => ?_) (fun c4 => ?_)
  · skip
    refine m_sipush h dX7_reason_23 (by decide) ?_
    refine m_iret h hR rfl dX7_reason_26 ?_
    exact ⟨rfl, Or.inl ⟨fun q => hb1.no (by omega) q, rfl⟩⟩
  · skip
    have hst : 0 ≤ i ∧ i < v.1 12 0 := hb1.yes (by omega)
    refine m_aload_n h dX7_reason_8 rfl rfl ?_
    refine m_get h fo_X7_26 (by decide) rfl rfl dX7_reason_9 ?_
    refine m_get h fo_X7_154 (by decide) rfl rfl dX7_reason_12 ?_
    refine m_iload_n h dX7_reason_15 rfl rfl ?_
    refine m_iald h (ar_17 G) (by omega) (by omega) dX7_reason_16 ?_
    refine m_sI h (c_ibc _ hG _ (iI (v.1 17 i))) moJ6_bitCount_0f7a4 stJ6_bitCount_0f7a4 lk_X7_157 dX7_reason_17 (by decide) rfl rfl (Nat.le_of_ble_eq_true rfl) (fun r5 u6 p7 => ?_)
    obtain ⟨hu9, er⟩ := p7
    rw [hu9]
    have hpt := hK.2.2.2.2 i
    rw [bc_eq hpt] at er
    have hsb := sm_b (g := ind (pb (v.1 17 i))) (B := 1) (fun x => by unfold ind; split <;> omega) 16
    rw [← er] at hsb
    refine m_goto h dX7_reason_20 (tgt := 26) (by decide) ?_
    refine m_iret h hR rfl dX7_reason_26 ?_
    exact ⟨rfl, Or.inr ⟨hst, er⟩⟩

theorem Kth_lt {P : Int → Bool} {k r : Int} (h : Kth P k r) : 0 ≤ k ∧ k < sm (ind P) 16 := by
  obtain ⟨t, t1, t2, t3, t4⟩ := h
  have e0 := sm_lt (g := ind P) ind_nn (show 0 ≤ t by omega)
  have e1 := sm_lt (g := ind P) ind_nn (show t + 1 ≤ 16 by omega)
  have e2 : sm (ind P) 0 = 0 := rfl
  have e3 : sm (ind P) (t + 1) = sm (ind P) t + ind P t := rfl
  have e4 : ind P t = 1 := by unfold ind; rw [if_pos t3]
  omega

set_option maxRecDepth 100000 in
set_option maxHeartbeats 4000000 in
theorem c_part (l : Launch) {G : GT} (hG : gok G) (v : Mem) (hC : OKC v) (i : Int) (hi : -2147483648 ≤ i ∧ i ≤ 2147483647) (k : Int) (hk : -2147483648 ≤ k ∧ k ≤ 2147483647) : CC l G nX7_part 2 [.ref (G.2.1 0), .int (iI i), .int (iI k)] v (qI G (fun r u => u = v ∧ A_part (tC v) i k r)) := by
  refine m_start (lv := [some (.ref (G.2.1 0)), some (.int (iI i)), some (.int (iI k))]) hG (by decide +kernel) rfl (Nat.le_of_ble_eq_true rfl) ?_
  intro X hL h hR
  subst hL
  obtain ⟨⟨hI, hJ, hK, hNE⟩, hW, hX⟩ := id hC
  have hc8 := hI.1
  have hc12 := hI.2.1
  have hkc := hK.1
  have htn := tot_nn (t_s (tC v))
  show M X G 3 v 0 [some (.ref (G.2.1 0)), some (.int (iI i)), some (.int (iI k))] []
  refine m_aload_n h dX7_part_0 rfl rfl ?_
  refine m_iload_n h dX7_part_1 rfl rfl ?_
  refine m_vI h (c_isStep _ hG _ i (by omega) (by omega)) moX7_isStep voX7_isStep lk_X7_139 dX7_part_2 (by decide) (by decide) rfl rfl rfl (Nat.le_of_ble_eq_true rfl) (fun r1 u2 p3 => ?_)
  obtain ⟨hu9, hb1⟩ := p3
  rw [hu9]
  have hb1i := hb1.in
  refine m_if_eq h dX7_part_5 (tgt := 20) (by decide) (by omega) (fun c4 => ?_) (fun c4 => ?_)
  · skip
    refine m_sipush h dX7_part_20 (by decide) ?_
    refine m_iret h hR rfl dX7_part_23 ?_
    exact ⟨rfl, Or.inl ⟨fun q => hb1.no (by omega) q.1, rfl⟩⟩
  · skip
    have hst : 0 ≤ i ∧ i < v.1 12 0 := hb1.yes (by omega)
    refine m_aload_n h dX7_part_8 rfl rfl ?_
    refine m_get h fo_X7_26 (by decide) rfl rfl dX7_part_9 ?_
    refine m_iload_n h dX7_part_12 rfl rfl ?_
    refine m_iload_n h dX7_part_13 rfl rfl ?_
    refine m_vI h (c_partAt _ hG _ i k (by omega) hk (hK.2.2.2.2 _)) moX6_partAt voX6_partAt lk_X7_162 dX7_part_14 (by decide) (by decide) rfl rfl rfl (Nat.le_of_ble_eq_true rfl) (fun r5 u6 p7 => ?_)
    obtain ⟨hu9, er⟩ := p7
    rw [hu9]
    refine m_goto h dX7_part_17 (tgt := 23) (by decide) ?_
    refine m_iret h hR rfl dX7_part_23 ?_
    rcases er with ⟨e1, e2⟩ | e1
    · refine ⟨rfl, Or.inl ⟨fun q => ?_, e1⟩⟩
      have q1 : 0 ≤ k ∧ k < sm (ind (pb (v.1 17 i))) 16 := q.2
      omega
    · exact ⟨rfl, Or.inr ⟨⟨hst, Kth_lt e1⟩, e1⟩⟩
