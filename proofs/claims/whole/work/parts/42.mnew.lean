/-! the model's calls that begin anew -/
theorem B0.z {s : Int → Int → Bool} {v : Mem} (h : B0 26 s v) : ∀ x, 0 ≤ x → x < 512 → v.1 26 x = 0 ∨ v.1 26 x = 1 := by
  intro x x0 x1
  have := (h (x / 64) (x % 64) (by omega) (by omega) (by omega) (by omega)).in
  rwa [show 64 * (x / 64) + x % 64 = x by omega] at this
theorem one_of {S : Int → Bool} {a : Int} (ha : 0 ≤ a ∧ a < 64) (hS : S a = true) : sm (ind S) 64 = 1 ↔ ∀ k, 0 ≤ k → k < 64 → S k = true → k = a := by
  have e1 := sm_take (g := ind S) (n := a) 64 ha.1
  rw [if_pos (show a < ((64 : Nat) : Int) by omega)] at e1
  have e2 : ind S a = 1 := by unfold ind; rw [if_pos hS]
  have e3 : sm (fun i => if i = a then 0 else ind S i) 64 = sm (ind (fun i => if i = a then false else S i)) 64 := sm_zn (fun x _ => by
    unfold ind
    by_cases e : x = a
    · simp [e]
    · simp [e]) 64
  have e4 := emp_0 (S := fun i => if i = a then false else S i)
  constructor
  · intro h k k0 k1 hk
    have h0 := e4.mp (by omega) k k0 k1
    apply Classical.byContradiction
    intro q
    have h0' : (if k = a then false else S k) = false := h0
    rw [if_neg q, hk] at h0'
    cases h0'
  · intro h
    have h0 := e4.mpr (fun k k0 k1 => by
      show (if k = a then false else S k) = false
      by_cases q : k = a
      · rw [if_pos q]
      · rw [if_neg q]
        cases e : S k with
        | false => rfl
        | true => exact absurd (h k k0 k1 e) q)
    omega

set_option maxRecDepth 100000 in
set_option maxHeartbeats 4000000 in
theorem m_clear (l : Launch) {G : GT} (hG : gok G) (v : Mem) (g : Cfg) (t : TT) (hg : GO g) (hRM : RMM g t v) : CC l G nX8_clear 1 [.ref (G.2.1 25)] v (qI G (fun q u => q = g_n g ∧ RMM (clG g) (anT (clG g) t) u ∧ FrM v u)) := by
  refine m_start (lv := [some (.ref (G.2.1 25)), none]) hG (by decide +kernel) rfl (Nat.le_of_ble_eq_true rfl) ?_
  intro X hL h hR
  subst hL
  obtain ⟨⟨s0, s1, s2, s3⟩, hRt⟩ := id hRM
  have hgn := hg.1
  have hgr := hg.2.1
  show M X G 2 v 0 [some (.ref (G.2.1 25)), none] []
  refine m_aload_n h dX8_clear_0 rfl rfl ?_
  refine m_get h fo_X8_57 (by decide) rfl rfl dX8_clear_1 ?_
  refine m_istore_n h dX8_clear_4 rfl (by decide) rfl ?_
  refine m_aload_n h dX8_clear_5 rfl rfl ?_
  refine m_iconst h dX8_clear_6 ?_
  refine m_putJ h fw_X8_57 (by decide) rfl (Nat.le_of_ble_eq_true rfl) (kz := 0) rfl rfl dX8_clear_7 ?_
  refine m_aload_n h dX8_clear_10 rfl rfl ?_
  refine m_iconst h dX8_clear_11 ?_
  refine m_putJ h fw_X8_64 (by decide) rfl (Nat.le_of_ble_eq_true rfl) (kz := 1) rfl rfl dX8_clear_12 ?_
  have hS1 : RMs (clG g) (wI (wI v 25 0 0) 25 1 0) := ⟨rfl, rfl, s2, fun r hr => by have hr' : (r : Int) < 0 := hr; omega⟩
  have hF1 : FrM v (wI (wI v 25 0 0) 25 1 0) := (FrM.rf.w (by omega)).w (by omega)
  refine m_aload_n h dX8_clear_15 rfl rfl ?_
  refine m_vV h (m_anew _ hG _ (by intro x x0 x1; exact hS1.2.2.1.z x x0 x1)) moX8_anew voX8_anew lk_X8_73 dX8_clear_16 (by decide) (by decide) rfl rfl rfl (Nat.le_of_ble_eq_true rfl) (fun ua p3 => ?_)
  have hRa := RM_an hS1 p3 t
  have hFa := hF1.tr (ANW.m p3)
  have hAn := p3
  refine m_iload_n h dX8_clear_19 rfl rfl ?_
  refine m_iret h hR rfl dX8_clear_20 ?_
  exact ⟨s0, hRa, hFa⟩

set_option maxRecDepth 100000 in
set_option maxHeartbeats 4000000 in
theorem m_factor (l : Launch) {G : GT} (hG : gok G) (v : Mem) (g : Cfg) (t : TT) (hg : GO g) (hRM : RMM g t v) (rr : Int) (hrr : -2147483648 ≤ rr ∧ rr ≤ 2147483647) (n : Int) (hn : -2147483648 ≤ n ∧ n ≤ 2147483647) (f : Int) (hf : -2147483648 ≤ f ∧ f ≤ 2147483647) : CC l G nX8_factor 2 [.ref (G.2.1 25), .int (iI rr), .int (iI n), .int (iI f)] v (qI G (fun q u => (¬ ((0 ≤ rr ∧ rr < g_r g) ∧ isNm g n ∧ -9 ≤ f ∧ f ≤ 9) ∧ q = -1001 ∧ u = v) ∨ (((0 ≤ rr ∧ rr < g_r g) ∧ isNm g n ∧ -9 ≤ f ∧ f ≤ 9) ∧ ((((2 ≤ g_a g rr.toNat 0 ∧ g_a g rr.toNat 0 ≤ 7) ∨ g_a g rr.toNat 1 = n) ∧ q = -1002 ∧ u = v) ∨ (¬ ((2 ≤ g_a g rr.toNat 0 ∧ g_a g rr.toNat 0 ≤ 7) ∨ g_a g rr.toNat 1 = n) ∧ q = g_f g rr.toNat n ∧ RMM (fcG g rr.toNat n f) (anT (fcG g rr.toNat n f) t) u ∧ FrM v u))))) := by
  refine m_start (lv := [some (.ref (G.2.1 25)), some (.int (iI rr)), some (.int (iI n)), some (.int (iI f)), none]) hG (by decide +kernel) rfl (Nat.le_of_ble_eq_true rfl) ?_
  intro X hL h hR
  subst hL
  obtain ⟨⟨s0, s1, s2, s3⟩, hRt⟩ := id hRM
  have hgn := hg.1
  have hgr := hg.2.1
  show M X G 5 v 0 [some (.ref (G.2.1 25)), some (.int (iI rr)), some (.int (iI n)), some (.int (iI f)), none] []
  refine m_aload_n h dX8_factor_0 rfl rfl ?_
  refine m_iload_n h dX8_factor_1 rfl rfl ?_
  refine m_vI h (m_isRow _ hG _ rr hrr (by omega)) moX8_isRow voX8_isRow lk_X8_88 dX8_factor_2 (by decide) (by decide) rfl rfl rfl (Nat.le_of_ble_eq_true rfl) (fun r1 u2 p3 => ?_)
  obtain ⟨hu9, hb1⟩ := p3
  rw [hu9]
  rw [s1] at hb1
  have hb1i := hb1.in
  refine m_if_eq h dX8_factor_5 (tgt := 27) (by decide) (by omega) (fun c4 => ?_) (fun c4 => ?_)
  · skip
    refine m_sipush h dX8_factor_27 (by decide) ?_
    refine m_iret h hR rfl dX8_factor_30 ?_
    refine Or.inl ⟨fun q => ?_, rfl, rfl⟩
    first | exact hb3.no (by omega) q.2.2 | exact hb2.no (by omega) q.2.1 | exact hb1.no (by omega) q.1
  · skip
    refine m_aload_n h dX8_factor_8 rfl rfl ?_
    refine m_iload_n h dX8_factor_9 rfl rfl ?_
    refine m_vI h (m_isName _ hG _ n hn (by omega)) moX8_isName voX8_isName lk_X8_76 dX8_factor_10 (by decide) (by decide) rfl rfl rfl (Nat.le_of_ble_eq_true rfl) (fun r5 u6 p7 => ?_)
    obtain ⟨hu9, hb2⟩ := p7
    rw [hu9]
    rw [s0] at hb2
    have hb2 : bz r5 (isNm g n) := hb2
    have hb2i := hb2.in
    refine m_if_eq h dX8_factor_13 (tgt := 27) (by decide) (by omega) (fun c8 => ?_) (fun c8 => ?_)
    · skip
      refine m_sipush h dX8_factor_27 (by decide) ?_
      refine m_iret h hR rfl dX8_factor_30 ?_
      refine Or.inl ⟨fun q => ?_, rfl, rfl⟩
      first | exact hb3.no (by omega) q.2.2 | exact hb2.no (by omega) q.2.1 | exact hb1.no (by omega) q.1
    · skip
      refine m_iload_n h dX8_factor_16 rfl rfl ?_
      refine m_bipush h dX8_factor_17 (by decide) ?_
      refine m_bipush h dX8_factor_19 (by decide) ?_
      refine m_sI h (m_in _ hG _ f (-9) 9 (by omega) (by omega) (by omega)) moX8_in stX8_in lk_X8_60 dX8_factor_21 (by decide) rfl rfl (Nat.le_of_ble_eq_true rfl) (fun r9 u10 p11 => ?_)
      obtain ⟨hu8, hb3⟩ := p11
      rw [hu8]
      have hb3i := hb3.in
      refine m_if_ne h dX8_factor_24 (tgt := 31) (by decide) (by omega) (fun c12 => ?_) (fun c12 => ?_)
      · skip
        have h1 := hb1.yes (by omega)
        have h2 := hb2.yes (by omega)
        have h2' : 0 ≤ n ∧ n < g_n g := h2
        have h3 := hb3.yes (by omega)
        have hgd : (0 ≤ rr ∧ rr < g_r g) ∧ isNm g n ∧ -9 ≤ f ∧ f ≤ 9 := ⟨h1, h2, h3⟩
        obtain ⟨r, rfl⟩ : ∃ r : Nat, rr = (r : Int) := ⟨rr.toNat, by omega⟩
        have hrw := hg.2.2.1 r h1.2
        obtain ⟨r0, r1, r2, r3, r4, r5⟩ := id (s3 r h1.2)
        have hk0 := hrw.1
        have hmr := mN_rg hrw.2.1
        have hme := mN_eq (a := g_a g r 1) (x := n) (by have := hrw.2.1; omega) h2'.1
        rw [Int.toNat_natCast] at *
        have hfn := r5 n h2'.1 (by omega)
        show M X G 5 v 31 [some (.ref (G.2.1 25)), some (.int (iI (r : Int))), some (.int (iI n)), some (.int (iI f)), none] []
        refine m_aload_n h dX8_factor_31 rfl rfl ?_
        refine m_get h fo_X8_16 (by decide) rfl rfl dX8_factor_32 ?_
        refine m_iload_n h dX8_factor_35 rfl rfl ?_
        refine m_iald h (ar_28 G) (by omega) (by omega) dX8_factor_36 ?_
        refine m_sI h (m_hasF _ hG _ (v.1 28 (r : Int)) (by omega)) moX8_hasFactors stX8_hasFactors lk_X8_91 dX8_factor_37 (by decide) rfl rfl (Nat.le_of_ble_eq_true rfl) (fun r13 u14 p15 => ?_)
        obtain ⟨hu7, hb4⟩ := p15
        rw [hu7]
        have hb4i := hb4.in
        refine m_if_eq h dX8_factor_40 (tgt := 55) (by decide) (by omega) (fun c16 => ?_) (fun c16 => ?_)
        · skip
          refine m_sipush h dX8_factor_55 (by decide) ?_
          refine m_iret h hR rfl dX8_factor_58 ?_
          refine Or.inr ⟨hgd, Or.inl ⟨?_, rfl, rfl⟩⟩
          first | (have := hb4.no (by omega); omega) | (right; exact hme.mp (by omega))
        · skip
          refine m_aload_n h dX8_factor_43 rfl rfl ?_
          refine m_get h fo_X8_20 (by decide) rfl rfl dX8_factor_44 ?_
          refine m_iconst h dX8_factor_47 ?_
          refine m_iload_n h dX8_factor_48 rfl rfl ?_
          refine m_imul h dX8_factor_49 ?_
          refine m_iald h (ar_29 G) (by omega) (by omega) dX8_factor_50 ?_
          refine m_iload_n h dX8_factor_51 rfl rfl ?_
          refine m_icmp_ne h dX8_factor_52 (tgt := 59) (by decide) (by omega) (by omega) (fun c17 => ?_) (fun c17 => ?_)
          · skip
            refine m_aload_n h dX8_factor_59 rfl rfl ?_
            refine m_get h fo_X8_26 (by decide) rfl rfl dX8_factor_60 ?_
            refine m_bipush h dX8_factor_63 (by decide) ?_
            refine m_iload_n h dX8_factor_65 rfl rfl ?_
            refine m_imul h dX8_factor_66 ?_
            refine m_iload_n h dX8_factor_67 rfl rfl ?_
            refine m_iadd h dX8_factor_68 ?_
            refine m_iald h (ar_31 G) (by omega) (by omega) dX8_factor_69 ?_
            refine m_istore h dX8_factor_70 (by decide) rfl ?_
            refine m_aload_n h dX8_factor_72 rfl rfl ?_
            refine m_get h fo_X8_26 (by decide) rfl rfl dX8_factor_73 ?_
            refine m_bipush h dX8_factor_76 (by decide) ?_
            refine m_iload_n h dX8_factor_78 rfl rfl ?_
            refine m_imul h dX8_factor_79 ?_
            refine m_iload_n h dX8_factor_80 rfl rfl ?_
            refine m_iadd h dX8_factor_81 ?_
            refine m_iload_n h dX8_factor_82 rfl rfl ?_
            refine m_iast h (ar_31 G) (by omega) (by omega) dX8_factor_83 ?_
            have hS1 : RMs (fcG g r n f) (wI v 31 ((8 * (r : Int)) + n) f) := by
              refine ⟨s0, s1, s2, fun q hq => ?_⟩
              have hq' : (q : Int) < g_r g := hq
              obtain ⟨w0, w1, w2, w3, w4, w5⟩ := s3 q hq'
              have hne : ∀ j : Int, g_a (fcG g r n f) q j = g_a g q j := fun j => by
                show (if q = 12 + r ∧ j = n then f else g_a g q j) = _
                rw [if_neg (by omega)]
              unfold RwM
              rw [hne, hne, hne, hne, hne]
              refine ⟨w0, w1, w2, w3, w4, fun x x0 x1 => ?_⟩
              show (wI v 31 (8 * (r : Int) + n) f).1 31 (8 * (q : Int) + x) = if q = r ∧ x = n then f else g_f g q x
              by_cases e : q = r ∧ x = n
              · rw [if_pos e, e.1, e.2, wI_s]
              · rw [if_neg e, wI_n (by omega)]
                exact w5 x x0 x1
            have hF1 : FrM v (wI v 31 ((8 * (r : Int)) + n) f) := FrM.rf.w (by omega)
            refine m_aload_n h dX8_factor_84 rfl rfl ?_
            refine m_vV h (m_anew _ hG _ (by intro x x0 x1; exact hS1.2.2.1.z x x0 x1)) moX8_anew voX8_anew lk_X8_73 dX8_factor_85 (by decide) (by decide) rfl rfl rfl (Nat.le_of_ble_eq_true rfl) (fun ua p20 => ?_)
            have hRa := RM_an hS1 p20 t
            have hFa := hF1.tr (ANW.m p20)
            have hAn := p20
            refine m_iload h dX8_factor_88 rfl ?_
            refine m_iret h hR rfl dX8_factor_90 ?_
            refine Or.inr ⟨hgd, Or.inr ?_⟩
            refine ⟨?_, hfn, hRa, hFa⟩
            have := hb4.yes (by omega)
            intro q
            rcases q with q | q
            · omega
            · have := hme.mpr q; omega
          · skip
            refine m_sipush h dX8_factor_55 (by decide) ?_
            refine m_iret h hR rfl dX8_factor_58 ?_
            refine Or.inr ⟨hgd, Or.inl ⟨?_, rfl, rfl⟩⟩
            first | (have := hb4.no (by omega); omega) | (right; exact hme.mp (by omega))
      · skip
        refine m_sipush h dX8_factor_27 (by decide) ?_
        refine m_iret h hR rfl dX8_factor_30 ?_
        refine Or.inl ⟨fun q => ?_, rfl, rfl⟩
        first | exact hb3.no (by omega) q.2.2 | exact hb2.no (by omega) q.2.1 | exact hb1.no (by omega) q.1

set_option maxRecDepth 100000 in
set_option maxHeartbeats 4000000 in
theorem m_leave (l : Launch) {G : GT} (hG : gok G) (v : Mem) (g : Cfg) (t : TT) (hg : GO g) (hRM : RMM g t v) (hZ : ∀ n k, g_i g n k = true → 0 ≤ k ∧ k < 64) (n : Int) (hn : -2147483648 ≤ n ∧ n ≤ 2147483647) (z : Int) (hz : -2147483648 ≤ z ∧ z ≤ 2147483647) : CC l G nX8_leave 2 [.ref (G.2.1 25), .int (iI n), .int (iI z)] v (qI G (fun q u => (¬ (isNm g n ∧ -32 ≤ z ∧ z ≤ 31) ∧ q = -1001 ∧ u = v) ∨ ((isNm g n ∧ -32 ≤ z ∧ z ≤ 31) ∧ (((∀ k, g_i g n k = decide (k = z + 32)) ∧ q = -1002 ∧ u = v) ∨ (¬ (∀ k, g_i g n k = decide (k = z + 32)) ∧ bz q (g_i g n (z + 32) = true) ∧ RMM (lvG g n z) (anT (lvG g n z) t) u ∧ FrM v u))))) := by
  refine m_start (lv := [some (.ref (G.2.1 25)), some (.int (iI n)), some (.int (iI z)), none]) hG (by decide +kernel) rfl (Nat.le_of_ble_eq_true rfl) ?_
  intro X hL h hR
  subst hL
  obtain ⟨⟨s0, s1, s2, s3⟩, hRt⟩ := id hRM
  have hgn := hg.1
  have hgr := hg.2.1
  show M X G 4 v 0 [some (.ref (G.2.1 25)), some (.int (iI n)), some (.int (iI z)), none] []
  refine m_aload_n h dX8_leave_0 rfl rfl ?_
  refine m_iload_n h dX8_leave_1 rfl rfl ?_
  refine m_vI h (m_isName _ hG _ n hn (by omega)) moX8_isName voX8_isName lk_X8_76 dX8_leave_2 (by decide) (by decide) rfl rfl rfl (Nat.le_of_ble_eq_true rfl) (fun r1 u2 p3 => ?_)
  obtain ⟨hu9, hb1⟩ := p3
  rw [hu9]
  rw [s0] at hb1
  have hb1 : bz r1 (isNm g n) := hb1
  have hb1i := hb1.in
  refine m_if_eq h dX8_leave_5 (tgt := 19) (by decide) (by omega) (fun c4 => ?_) (fun c4 => ?_)
  · skip
    refine m_sipush h dX8_leave_19 (by decide) ?_
    refine m_iret h hR rfl dX8_leave_22 ?_
    refine Or.inl ⟨fun q => ?_, rfl, rfl⟩
    first | exact hb2.no (by omega) q.2 | exact hb1.no (by omega) q.1
  · skip
    refine m_iload_n h dX8_leave_8 rfl rfl ?_
    refine m_bipush h dX8_leave_9 (by decide) ?_
    refine m_bipush h dX8_leave_11 (by decide) ?_
    refine m_sI h (m_in _ hG _ z (-32) 31 (by omega) (by omega) (by omega)) moX8_in stX8_in lk_X8_60 dX8_leave_13 (by decide) rfl rfl (Nat.le_of_ble_eq_true rfl) (fun r5 u6 p7 => ?_)
    obtain ⟨hu8, hb2⟩ := p7
    rw [hu8]
    have hb2i := hb2.in
    refine m_if_ne h dX8_leave_16 (tgt := 23) (by decide) (by omega) (fun c8 => ?_) (fun c8 => ?_)
    · skip
      have h1 := hb1.yes (by omega)
      have h1' : 0 ≤ n ∧ n < g_n g := h1
      have h2 := hb2.yes (by omega)
      have hbw := s2 n (z + 32) (by omega) (by omega) (by omega) (by omega)
      rw [← Int.add_assoc] at hbw
      have hbwi := hbw.in
      refine m_aload_n h dX8_leave_23 rfl rfl ?_
      refine m_get h fo_X8_7 (by decide) rfl rfl dX8_leave_24 ?_
      refine m_bipush h dX8_leave_27 (by decide) ?_
      refine m_iload_n h dX8_leave_29 rfl rfl ?_
      refine m_imul h dX8_leave_30 ?_
      refine m_iload_n h dX8_leave_31 rfl rfl ?_
      refine m_iadd h dX8_leave_32 ?_
      refine m_bipush h dX8_leave_33 (by decide) ?_
      refine m_iadd h dX8_leave_35 ?_
      refine m_zald h (ar_26 G) (by omega) (by omega) dX8_leave_36 ?_
      refine m_istore_n h dX8_leave_37 rfl (by decide) rfl ?_
      refine m_iload_n h dX8_leave_38 rfl rfl ?_
      refine m_if_eq h dX8_leave_39 (tgt := 56) (by decide) (by omega) (fun c9 => ?_) (fun c9 => ?_)
      · skip
        refine m_aload_n h dX8_leave_56 rfl rfl ?_
        refine m_get h fo_X8_7 (by decide) rfl rfl dX8_leave_57 ?_
        refine m_bipush h dX8_leave_60 (by decide) ?_
        refine m_iload_n h dX8_leave_62 rfl rfl ?_
        refine m_imul h dX8_leave_63 ?_
        refine m_iload_n h dX8_leave_64 rfl rfl ?_
        refine m_iadd h dX8_leave_65 ?_
        refine m_bipush h dX8_leave_66 (by decide) ?_
        refine m_iadd h dX8_leave_68 ?_
        refine m_iconst h dX8_leave_69 ?_
        refine m_zast h (ar_26 G) (by omega) (by omega) (by omega) dX8_leave_70 ?_
        have hS1 : RMs (lvG g n z) (wI v 26 (((64 * n) + z) + 32) 0) := by
          refine ⟨s0, s1, fun a k a0 a1 k0 k1 => ?_, s3⟩
          show bz ((wI v 26 (64 * n + z + 32) 0).1 26 (64 * a + k)) (cS (g_i g) n (z + 32) a k = true)
          unfold cS
          by_cases e : a = n ∧ k = z + 32
          · rw [if_pos e, e.1, e.2, ← Int.add_assoc, wI_s]
            exact bz0 (by simp)
          · rw [if_neg e, wI_n (by omega)]
            exact s2 a k a0 a1 k0 k1
        have hF1 : FrM v (wI v 26 (((64 * n) + z) + 32) 0) := FrM.rf.w (by omega)
        have hnot : ¬ (∀ k, g_i g n k = decide (k = z + 32)) := fun q => by
          have q1 := q (z + 32)
          rw [decide_eq_true rfl] at q1
          first
            | exact hbw.no (by omega) q1
            | (have := hone.mpr (fun k k0 k1 hk => by
                 have := q k
                 rw [hk] at this
                 exact of_decide_eq_true this.symm)
               omega)
        refine m_aload_n h dX8_leave_71 rfl rfl ?_
        refine m_vV h (m_anew _ hG _ (by intro x x0 x1; exact hS1.2.2.1.z x x0 x1)) moX8_anew voX8_anew lk_X8_73 dX8_leave_72 (by decide) (by decide) rfl rfl rfl (Nat.le_of_ble_eq_true rfl) (fun ua p12 => ?_)
        have hRa := RM_an hS1 p12 t
        have hFa := hF1.tr (ANW.m p12)
        have hAn := p12
        refine m_iload_n h dX8_leave_75 rfl rfl ?_
        refine m_if_eq h dX8_leave_76 (tgt := 83) (by decide) (by omega) (fun c13 => ?_) (fun c13 => ?_)
        · skip
          refine m_iconst h dX8_leave_83 ?_
          refine m_iret h hR rfl dX8_leave_84 ?_
          refine Or.inr ⟨⟨h1, h2⟩, Or.inr ⟨hnot, ?_, hRa, hFa⟩⟩
          exact bz0 (hbw.no (by omega))
        · skip
          refine m_iconst h dX8_leave_79 ?_
          refine m_goto h dX8_leave_80 (tgt := 84) (by decide) ?_
          refine m_iret h hR rfl dX8_leave_84 ?_
          refine Or.inr ⟨⟨h1, h2⟩, Or.inr ⟨hnot, ?_, hRa, hFa⟩⟩
          exact bz1 (hbw.yes (by omega))
      · skip
        refine m_aload_n h dX8_leave_42 rfl rfl ?_
        refine m_iload_n h dX8_leave_43 rfl rfl ?_
        refine m_iconst h dX8_leave_44 ?_
        refine m_vI h (m_many1 _ hG _ n (by omega) (g_i g n) (fun k q1 q2 => s2 n k (by omega) (by omega) q1 q2)) moX8_many voX8_many lk_X8_80 dX8_leave_45 (by decide) (by decide) rfl rfl rfl (Nat.le_of_ble_eq_true rfl) (fun rm u15 p16 => ?_)
        obtain ⟨hu7, erm⟩ := p16
        rw [hu7]
        have hrm2 := sm_b (g := ind (g_i g n)) (B := 1) (fun x => by unfold ind; split <;> omega) 64
        have hone := one_of (S := g_i g n) (a := z + 32) (by omega) (hbw.yes (by omega))
        refine m_iconst h dX8_leave_48 ?_
        refine m_icmp_ne h dX8_leave_49 (tgt := 56) (by decide) (by omega) (by omega) (fun c17 => ?_) (fun c17 => ?_)
        · skip
          refine m_aload_n h dX8_leave_56 rfl rfl ?_
          refine m_get h fo_X8_7 (by decide) rfl rfl dX8_leave_57 ?_
          refine m_bipush h dX8_leave_60 (by decide) ?_
          refine m_iload_n h dX8_leave_62 rfl rfl ?_
          refine m_imul h dX8_leave_63 ?_
          refine m_iload_n h dX8_leave_64 rfl rfl ?_
          refine m_iadd h dX8_leave_65 ?_
          refine m_bipush h dX8_leave_66 (by decide) ?_
          refine m_iadd h dX8_leave_68 ?_
          refine m_iconst h dX8_leave_69 ?_
          refine m_zast h (ar_26 G) (by omega) (by omega) (by omega) dX8_leave_70 ?_
          have hS1 : RMs (lvG g n z) (wI v 26 (((64 * n) + z) + 32) 0) := by
            refine ⟨s0, s1, fun a k a0 a1 k0 k1 => ?_, s3⟩
            show bz ((wI v 26 (64 * n + z + 32) 0).1 26 (64 * a + k)) (cS (g_i g) n (z + 32) a k = true)
            unfold cS
            by_cases e : a = n ∧ k = z + 32
            · rw [if_pos e, e.1, e.2, ← Int.add_assoc, wI_s]
              exact bz0 (by simp)
            · rw [if_neg e, wI_n (by omega)]
              exact s2 a k a0 a1 k0 k1
          have hF1 : FrM v (wI v 26 (((64 * n) + z) + 32) 0) := FrM.rf.w (by omega)
          have hnot : ¬ (∀ k, g_i g n k = decide (k = z + 32)) := fun q => by
            have q1 := q (z + 32)
            rw [decide_eq_true rfl] at q1
            first
              | exact hbw.no (by omega) q1
              | (have := hone.mpr (fun k k0 k1 hk => by
                   have := q k
                   rw [hk] at this
                   exact of_decide_eq_true this.symm)
                 omega)
          refine m_aload_n h dX8_leave_71 rfl rfl ?_
          refine m_vV h (m_anew _ hG _ (by intro x x0 x1; exact hS1.2.2.1.z x x0 x1)) moX8_anew voX8_anew lk_X8_73 dX8_leave_72 (by decide) (by decide) rfl rfl rfl (Nat.le_of_ble_eq_true rfl) (fun ua p20 => ?_)
          have hRa := RM_an hS1 p20 t
          have hFa := hF1.tr (ANW.m p20)
          have hAn := p20
          refine m_iload_n h dX8_leave_75 rfl rfl ?_
          refine m_if_eq h dX8_leave_76 (tgt := 83) (by decide) (by omega) (fun c21 => ?_) (fun c21 => ?_)
          · skip
            refine m_iconst h dX8_leave_83 ?_
            refine m_iret h hR rfl dX8_leave_84 ?_
            refine Or.inr ⟨⟨h1, h2⟩, Or.inr ⟨hnot, ?_, hRa, hFa⟩⟩
            exact bz0 (hbw.no (by omega))
          · skip
            refine m_iconst h dX8_leave_79 ?_
            refine m_goto h dX8_leave_80 (tgt := 84) (by decide) ?_
            refine m_iret h hR rfl dX8_leave_84 ?_
            refine Or.inr ⟨⟨h1, h2⟩, Or.inr ⟨hnot, ?_, hRa, hFa⟩⟩
            exact bz1 (hbw.yes (by omega))
        · skip
          refine m_sipush h dX8_leave_52 (by decide) ?_
          refine m_iret h hR rfl dX8_leave_55 ?_
          refine Or.inr ⟨⟨h1, h2⟩, Or.inl ⟨fun k => ?_, rfl, rfl⟩⟩
          by_cases e : k = z + 32
          · rw [e, decide_eq_true rfl]; exact hbw.yes (by omega)
          · rw [decide_eq_false e]
            cases e2 : g_i g n k with
            | false => rfl
            | true => exact absurd (hone.mp (by omega) k (hZ n k e2).1 (hZ n k e2).2 e2) e
    · skip
      refine m_sipush h dX8_leave_19 (by decide) ?_
      refine m_iret h hR rfl dX8_leave_22 ?_
      refine Or.inl ⟨fun q => ?_, rfl, rfl⟩
      first | exact hb2.no (by omega) q.2 | exact hb1.no (by omega) q.1

set_option maxRecDepth 100000 in
set_option maxHeartbeats 4000000 in
theorem m_name (l : Launch) {G : GT} (hG : gok G) (v : Mem) (g : Cfg) (t : TT) (hg : GO g) (hRM : RMM g t v) (lo : Int) (hlo : -2147483648 ≤ lo ∧ lo ≤ 2147483647) (hi : Int) (hhi : -2147483648 ≤ hi ∧ hi ≤ 2147483647) : CC l G nX8_name 1 [.ref (G.2.1 25), .int (iI lo), .int (iI hi)] v (qI G (fun q u => (¬ ((-32 ≤ lo ∧ lo ≤ 31) ∧ (-32 ≤ hi ∧ hi ≤ 31) ∧ lo ≤ hi) ∧ q = -1001 ∧ u = v) ∨ (((-32 ≤ lo ∧ lo ≤ 31) ∧ (-32 ≤ hi ∧ hi ≤ 31) ∧ lo ≤ hi) ∧ ((g_n g = 8 ∧ q = -1003 ∧ u = v) ∨ (g_n g < 8 ∧ q = g_n g ∧ RMM (nmG g lo hi) (anT (nmG g lo hi) t) u ∧ FrM v u))))) := by
  refine m_start (lv := [some (.ref (G.2.1 25)), some (.int (iI lo)), some (.int (iI hi)), none]) hG (by decide +kernel) rfl (Nat.le_of_ble_eq_true rfl) ?_
  intro X hL h hR
  subst hL
  obtain ⟨⟨s0, s1, s2, s3⟩, hRt⟩ := id hRM
  have hgn := hg.1
  have hgr := hg.2.1
  obtain ⟨c, hcc⟩ : ∃ c : Nat, g_n g = c := ⟨(g_n g).toNat, by omega⟩
  show M X G 4 v 0 [some (.ref (G.2.1 25)), some (.int (iI lo)), some (.int (iI hi)), none] []
  refine m_iload_n h dX8_name_0 rfl rfl ?_
  refine m_bipush h dX8_name_1 (by decide) ?_
  refine m_bipush h dX8_name_3 (by decide) ?_
  refine m_sI h (m_in _ hG _ lo (-32) 31 (by omega) (by omega) (by omega)) moX8_in stX8_in lk_X8_60 dX8_name_5 (by decide) rfl rfl (Nat.le_of_ble_eq_true rfl) (fun r1 u2 p3 => ?_)
  obtain ⟨hu8, hb1⟩ := p3
  rw [hu8]
  have hb1i := hb1.in
  refine m_if_eq h dX8_name_8 (tgt := 21) (by decide) (by omega) (fun c4 => ?_) (fun c4 => ?_)
  · skip
    refine m_sipush h dX8_name_21 (by decide) ?_
    refine m_iret h hR rfl dX8_name_24 ?_
    refine Or.inl ⟨fun q => ?_, rfl, rfl⟩
    first | exact hb2.no (by omega) (by omega) | exact hb1.no (by omega) q.1
  · skip
    refine m_iload_n h dX8_name_11 rfl rfl ?_
    refine m_iload_n h dX8_name_12 rfl rfl ?_
    refine m_bipush h dX8_name_13 (by decide) ?_
    refine m_sI h (m_in _ hG _ hi lo 31 (by omega) (by omega) (by omega)) moX8_in stX8_in lk_X8_60 dX8_name_15 (by decide) rfl rfl (Nat.le_of_ble_eq_true rfl) (fun r5 u6 p7 => ?_)
    obtain ⟨hu8, hb2⟩ := p7
    rw [hu8]
    have hb2i := hb2.in
    refine m_if_ne h dX8_name_18 (tgt := 25) (by decide) (by omega) (fun c8 => ?_) (fun c8 => ?_)
    · skip
      have h1 := hb1.yes (by omega)
      have h2 := hb2.yes (by omega)
      refine m_aload_n h dX8_name_25 rfl rfl ?_
      refine m_get h fo_X8_57 (by decide) rfl rfl dX8_name_26 ?_
      refine m_bipush h dX8_name_29 (by decide) ?_
      refine m_icmp_ne h dX8_name_31 (tgt := 38) (by decide) (by omega) (by omega) (fun c9 => ?_) (fun c9 => ?_)
      · skip
        refine m_bipush h dX8_name_38 (by decide) ?_
        refine m_istore_n h dX8_name_40 rfl (by decide) rfl ?_
        have lp41 : ∀ (fuel : Nat) (i : Nat) (u : Mem), i ≤ 64 → 70 - i < fuel → (∀ j, j ≠ 26 → u.1 j = v.1 j) → u.2 = v.2 → (∀ x, 0 ≤ x → ¬ (64 * (c : Int) ≤ x ∧ x < 64 * (c : Int) + 64) → u.1 26 x = v.1 26 x) → (∀ k, 0 ≤ k → k < (i : Int) → bz (u.1 26 (64 * (c : Int) + k)) (lo + 32 ≤ k ∧ k ≤ hi + 32)) → M X G 4 u 41 [some (.ref (G.2.1 25)), some (.int (iI lo)), some (.int (iI hi)), some (.int (iI ((i : Int) - 32)))] [] := by
          intro fuel
          induction fuel with
          | zero => intro i u hi64 hfu hu1 hu2 hu3 hu4; exfalso; omega
          | succ fuel ih =>
            intro i u hi64 hfu hu1 hu2 hu3 hu4
            have e25c : u.1 25 0 = (c : Int) := by rw [hu1 25 (by decide)]; omega
            refine m_iload_n h dX8_name_41 rfl rfl ?_
            refine m_bipush h dX8_name_42 (by decide) ?_
            refine m_icmp_gt h dX8_name_44 (tgt := 76) (by decide) (by omega) (by omega) (fun c10 => ?_) (fun c10 => ?_)
            · skip
              refine m_iconst h dX8_name_76 ?_
              refine m_istore_n h dX8_name_77 rfl (by decide) rfl ?_
              have lp78 : ∀ (fuel : Nat) (r : Nat) (u : Mem), r ≤ 12 → 20 - r < fuel → (∀ j, j ≠ 26 → j ≠ 31 → u.1 j = v.1 j) → u.2 = v.2 → (∀ x, 0 ≤ x → ¬ (64 * (c : Int) ≤ x ∧ x < 64 * (c : Int) + 64) → u.1 26 x = v.1 26 x) → (∀ k, 0 ≤ k → k < 64 → bz (u.1 26 (64 * (c : Int) + k)) (lo + 32 ≤ k ∧ k ≤ hi + 32)) → (∀ x, u.1 31 x = v.1 31 x ∨ (u.1 31 x = 0 ∧ ∃ j : Int, x = 8 * j + (c : Int))) → M X G 4 u 78 [some (.ref (G.2.1 25)), some (.int (iI lo)), some (.int (iI hi)), some (.int (iI (r : Int)))] [] := by
                intro fuel
                induction fuel with
                | zero => intro r u hr12 hfu hu1 hu2 hu3 hu4 hu5; exfalso; omega
                | succ fuel ih =>
                  intro r u hr12 hfu hu1 hu2 hu3 hu4 hu5
                  have e25c : u.1 25 0 = (c : Int) := by rw [hu1 25 (by decide) (by decide)]; omega
                  refine m_iload_n h dX8_name_78 rfl rfl ?_
                  refine m_bipush h dX8_name_79 (by decide) ?_
                  refine m_icmp_ge h dX8_name_81 (tgt := 105) (by decide) (by omega) (by omega) (fun c11 => ?_) (fun c11 => ?_)
                  · skip
                    refine m_aload_n h dX8_name_105 rfl rfl ?_
                    refine m_dup h dX8_name_106 rfl ?_
                    refine m_get h fo_X8_57 (by decide) rfl rfl dX8_name_107 ?_
                    refine m_iconst h dX8_name_110 ?_
                    refine m_iadd h dX8_name_111 ?_
                    refine m_putJ h fw_X8_57 (by decide) rfl (Nat.le_of_ble_eq_true rfl) (kz := 0) rfl rfl dX8_name_112 ?_
                    have hS1 : RMs (nmG g lo hi) (wI u 25 0 ((u.1 25 0) + 1)) := by
                      refine ⟨by show u.1 25 0 + 1 = g_n g + 1; omega, by show u.1 25 1 = g_r g; rw [hu1 25 (by decide) (by decide)]; exact s1, fun a k a0 a1 k0 k1 => ?_, fun q hq => ?_⟩
                      · show bz (u.1 26 (64 * a + k)) ((if a = g_n g then decide (lo + 32 ≤ k ∧ k ≤ hi + 32) else g_i g a k) = true)
                        by_cases e : a = g_n g
                        · rw [if_pos e, decide_eq_true_iff, e, hcc]
                          exact hu4 k k0 k1
                        · rw [if_neg e, hu3 _ (by omega) (by omega)]
                          exact s2 a k a0 a1 k0 k1
                      · have hq' : (q : Int) < g_r g := hq
                        obtain ⟨w0, w1, w2, w3, w4, w5⟩ := s3 q hq'
                        have hrw := hg.2.2.1 q hq'
                        refine ⟨?_, ?_, ?_, ?_, ?_, fun x x0 x1 => ?_⟩
                        · show u.1 28 _ = _; rw [hu1 28 (by decide) (by decide)]; exact w0
                        · show u.1 29 _ = _; rw [hu1 29 (by decide) (by decide)]; exact w1
                        · show u.1 29 _ = _; rw [hu1 29 (by decide) (by decide)]; exact w2
                        · show u.1 29 _ = _; rw [hu1 29 (by decide) (by decide)]; exact w3
                        · show u.1 30 _ = _; rw [hu1 30 (by decide) (by decide)]; exact w4
                        · show u.1 31 _ = g_f g q x
                          rcases hu5 (8 * (q : Int) + x) with e | ⟨e, j, ej⟩
                          · rw [e]; exact w5 x x0 x1
                          · rw [e]
                            have hxc : x = g_n g := by omega
                            apply Eq.symm
                            apply Classical.byContradiction
                            intro hne
                            have := hrw.2.2.2.2.2.2.2 x (Or.inr (Or.inr (Or.inr hne))) x0
                            omega
                    have hF1 : FrM v (wI u 25 0 ((u.1 25 0) + 1)) := FrM.w ⟨fun i hi => hu1 i (by omega) (by omega), hu2⟩ (by omega)
                    refine m_aload_n h dX8_name_115 rfl rfl ?_
                    refine m_vV h (m_anew _ hG _ (by intro x x0 x1; exact hS1.2.2.1.z x x0 x1)) moX8_anew voX8_anew lk_X8_73 dX8_name_116 (by decide) (by decide) rfl rfl rfl (Nat.le_of_ble_eq_true rfl) (fun ua p14 => ?_)
                    have hRa := RM_an hS1 p14 t
                    have hFa := hF1.tr (ANW.m p14)
                    have hAn := p14
                    refine m_aload_n h dX8_name_119 rfl rfl ?_
                    refine m_get h fo_X8_57 (by decide) rfl rfl dX8_name_120 ?_
                    refine m_iconst h dX8_name_123 ?_
                    refine m_isub h dX8_name_124 ?_
                    refine m_iret h hR rfl dX8_name_125 ?_
                    refine Or.inr ⟨by omega, Or.inr ⟨by omega, ?_, hRa, hFa⟩⟩
                    have : ua.1 25 0 = g_n g + 1 := hRa.1.1
                    omega
                  · skip
                    refine m_aload_n h dX8_name_84 rfl rfl ?_
                    refine m_get h fo_X8_26 (by decide) rfl rfl dX8_name_85 ?_
                    refine m_bipush h dX8_name_88 (by decide) ?_
                    refine m_iload_n h dX8_name_90 rfl rfl ?_
                    refine m_imul h dX8_name_91 ?_
                    refine m_aload_n h dX8_name_92 rfl rfl ?_
                    refine m_get h fo_X8_57 (by decide) rfl rfl dX8_name_93 ?_
                    show M X G 4 u 96 [some (.ref (G.2.1 25)), some (.int (iI lo)), some (.int (iI hi)), some (.int (iI (r : Int)))] [.int (iI (u.1 25 0)), .int (iI (8 * (r : Int))), .ref (G.2.1 31)]
                    rw [e25c]
                    show M X G 4 u 96 [some (.ref (G.2.1 25)), some (.int (iI lo)), some (.int (iI hi)), some (.int (iI (r : Int)))] [.int (iI (c : Int)), .int (iI (8 * (r : Int))), .ref (G.2.1 31)]
                    refine m_iadd h dX8_name_96 ?_
                    refine m_iconst h dX8_name_97 ?_
                    refine m_iast h (ar_31 G) (by omega) (by omega) dX8_name_98 ?_
                    refine m_iinc h dX8_name_99 rfl (by decide) rfl ?_
                    refine m_goto h dX8_name_102 (tgt := 78) (by decide) ?_
                    refine ih (r + 1) _ (by omega) (by omega) ?_ hu2 ?_ ?_ ?_
                    · intro j a b; rw [wI_c b]; exact hu1 j a b
                    · rw [wI_c (by decide)]; exact hu3
                    · rw [wI_c (by decide)]; exact hu4
                    · intro x
                      by_cases e : x = 8 * (r : Int) + (c : Int)
                      · right; rw [e, wI_s]; exact ⟨rfl, _, rfl⟩
                      · rw [wI_n e]; exact hu5 x
              exact lp78 100 0 u (by omega) (by omega) (fun j q _ => hu1 j q) hu2 hu3 (fun k q1 q2 => hu4 k q1 (by omega)) (fun x => Or.inl (by rw [hu1 31 (by decide)]))
            · skip
              refine m_aload_n h dX8_name_47 rfl rfl ?_
              refine m_get h fo_X8_7 (by decide) rfl rfl dX8_name_48 ?_
              refine m_bipush h dX8_name_51 (by decide) ?_
              refine m_aload_n h dX8_name_53 rfl rfl ?_
              refine m_get h fo_X8_57 (by decide) rfl rfl dX8_name_54 ?_
              refine m_imul h dX8_name_57 ?_
              show M X G 4 u 58 [some (.ref (G.2.1 25)), some (.int (iI lo)), some (.int (iI hi)), some (.int (iI ((i : Int) - 32)))] [.int (iI (64 * (u.1 25 0))), .ref (G.2.1 26)]
              rw [e25c]
              show M X G 4 u 58 [some (.ref (G.2.1 25)), some (.int (iI lo)), some (.int (iI hi)), some (.int (iI ((i : Int) - 32)))] [.int (iI (64 * (c : Int))), .ref (G.2.1 26)]
              refine m_iload_n h dX8_name_58 rfl rfl ?_
              refine m_iadd h dX8_name_59 ?_
              refine m_bipush h dX8_name_60 (by decide) ?_
              refine m_iadd h dX8_name_62 ?_
              refine m_iload_n h dX8_name_63 rfl rfl ?_
              refine m_iload_n h dX8_name_64 rfl rfl ?_
              refine m_iload_n h dX8_name_65 rfl rfl ?_
              refine m_sI h (m_in _ hG _ ((i : Int) - 32) lo hi (by omega) (by omega) (by omega)) moX8_in stX8_in lk_X8_60 dX8_name_66 (by decide) rfl rfl (Nat.le_of_ble_eq_true rfl) (fun r15 u16 p17 => ?_)
              obtain ⟨hu8, hbv⟩ := p17
              rw [hu8]
              have hbvi := hbv.in
              refine m_zast h (ar_26 G) (by omega) (by omega) (by omega) dX8_name_69 ?_
              refine m_iinc h dX8_name_70 rfl (by decide) rfl ?_
              refine m_goto h dX8_name_73 (tgt := 41) (by decide) ?_
              rw [show (i : Int) - 32 + 1 = ((i + 1 : Nat) : Int) - 32 by omega]
              refine ih (i + 1) _ (by omega) (by omega) ?_ ?_ ?_ ?_
              · intro j hj; rw [wI_c hj]; exact hu1 j hj
              · exact hu2
              · intro x x0 x1; rw [wI_n (by omega)]; exact hu3 x x0 x1
              · intro k k0 k1
                by_cases e : k = (i : Int)
                · subst e
                  rw [show 64 * (c : Int) + (i : Int) = 64 * (c : Int) + ((i : Int) - 32) + 32 by omega, wI_s]
                  exact hbv.iff (by omega)
                · rw [wI_n (by omega)]; exact hu4 k k0 (by omega)
        exact lp41 100 0 v (by omega) (by omega) (fun _ _ => rfl) rfl (fun _ _ _ => rfl) (fun k q1 q2 => by omega)
      · skip
        refine m_sipush h dX8_name_34 (by decide) ?_
        refine m_iret h hR rfl dX8_name_37 ?_
        exact Or.inr ⟨by omega, Or.inl ⟨by omega, rfl, rfl⟩⟩
    · skip
      refine m_sipush h dX8_name_21 (by decide) ?_
      refine m_iret h hR rfl dX8_name_24 ?_
      refine Or.inl ⟨fun q => ?_, rfl, rfl⟩
      first | exact hb2.no (by omega) (by omega) | exact hb1.no (by omega) q.1

/-- the row is written -/
def rwF (v : Mem) (nr kd A B C R : Int) (u : Mem) : Prop := (∀ j : Nat, j ≠ 28 → j ≠ 29 → j ≠ 30 → j ≠ 31 → u.1 j = v.1 j) ∧ u.2 = v.2 ∧ (∀ x, x ≠ nr → u.1 28 x = v.1 28 x ∧ u.1 30 x = v.1 30 x) ∧ (∀ x, ¬ (3 * nr ≤ x ∧ x < 3 * nr + 3) → u.1 29 x = v.1 29 x) ∧ (∀ x, ¬ (8 * nr ≤ x ∧ x < 8 * nr + 8) → u.1 31 x = v.1 31 x) ∧ u.1 28 nr = kd ∧ u.1 29 (3 * nr) = mN A ∧ u.1 29 (3 * nr + 1) = mN B ∧ u.1 29 (3 * nr + 2) = mN C ∧ u.1 30 nr = R
theorem rwF_i {v : Mem} {nr kd A B C R a b c : Int} (ha : a = mN A) (hb : b = mN B) (hc : c = mN C) : rwF v nr kd A B C R (wI (wI (wI (wI (wI v 28 nr kd) 29 (3 * nr) a) 29 (3 * nr + 1) b) 29 (3 * nr + 2) c) 30 nr R) := by
  refine ⟨fun j q1 q2 q3 q4 => ?_, rfl, fun x hx => ⟨?_, ?_⟩, fun x hx => ?_, fun x hx => ?_, ?_, ?_, ?_, ?_, ?_⟩
  · rw [wI_c q3, wI_c q2, wI_c q2, wI_c q2, wI_c q1]
  · rw [wI_c (by decide), wI_c (by decide), wI_c (by decide), wI_c (by decide), wI_n hx]
  · rw [wI_n hx, wI_c (by decide), wI_c (by decide), wI_c (by decide), wI_c (by decide)]
  · rw [wI_c (by decide), wI_n (by omega), wI_n (by omega), wI_n (by omega), wI_c (by decide)]
  · rw [wI_c (by decide), wI_c (by decide), wI_c (by decide), wI_c (by decide), wI_c (by decide)]
  · rw [wI_c (by decide), wI_c (by decide), wI_c (by decide), wI_c (by decide), wI_s]
  · rw [wI_c (by decide), wI_n (by omega), wI_n (by omega), wI_s, ha]
  · rw [wI_c (by decide), wI_n (by omega), wI_s, hb]
  · rw [wI_c (by decide), wI_s, hc]
  · rw [wI_s]
theorem rwF_w {v u : Mem} {nr kd A B C R k : Int} (h : rwF v nr kd A B C R u) (hk : 0 ≤ k ∧ k < 8) : rwF v nr kd A B C R (wI u 31 (8 * nr + k) 0) := by
  obtain ⟨h1, h2, h3, h4, h5, h6, h7, h8, h9, h10⟩ := h
  refine ⟨fun j q1 q2 q3 q4 => by rw [wI_c q4]; exact h1 j q1 q2 q3 q4, h2, h3, h4, fun x hx => by rw [wI_n (by omega)]; exact h5 x hx, h6, h7, h8, h9, h10⟩
theorem rwF_s {g : Cfg} {v u : Mem} {kd A B C R : Int} (hs : RMs g v) (hg : GO g) (hr : g_r g < 12) (h : rwF v (g_r g) kd A B C R u) (hz : ∀ x, 0 ≤ x → x < 8 → u.1 31 (8 * g_r g + x) = 0) : RMs (rwG g kd A B C R) (wI u 25 1 (g_r g + 1)) := by
  obtain ⟨h1, h2, h3, h4, h5, h6, h7, h8, h9, h10⟩ := h
  obtain ⟨s0, s1, s2, s3⟩ := hs
  have hg2 := hg.2.1
  refine ⟨?_, rfl, ?_, fun q hq => ?_⟩
  · show u.1 25 0 = _; rw [h1 25 (by decide) (by decide) (by decide) (by decide)]; exact s0
  · intro n k a b c d
    show bz (u.1 26 _) _
    rw [h1 26 (by decide) (by decide) (by decide) (by decide)]; exact s2 n k a b c d
  · have hq' : (q : Int) < g_r g + 1 := hq
    show u.1 28 _ = _ ∧ u.1 29 _ = _ ∧ u.1 29 _ = _ ∧ u.1 29 _ = _ ∧ u.1 30 _ = _ ∧ ∀ x, 0 ≤ x → x < 8 → u.1 31 _ = _
    have ega : ∀ j : Int, g_a (rwG g kd A B C R) q j = if (q : Int) = g_r g then (if j = 0 then kd else if j = 1 then A else if j = 2 then B else if j = 3 then C else if j = 4 then R else g_a g q j) else g_a g q j := by
      intro j
      show (if (q : Int) = g_r g then (if j = 0 then kd else if j = 1 then A else if j = 2 then B else if j = 3 then C else if j = 4 then R else g_a g q j) else if (q : Int) = 12 + g_r g ∧ 0 ≤ j ∧ j < 8 then 0 else g_a g q j) = _
      by_cases e : (q : Int) = g_r g
      · rw [if_pos e, if_pos e]
      · rw [if_neg e, if_neg e, if_neg (by omega)]
    have egf : ∀ x : Int, g_f (rwG g kd A B C R) q x = if (q : Int) = g_r g ∧ 0 ≤ x ∧ x < 8 then 0 else g_f g q x := fun x => rfl
    by_cases e : (q : Int) = g_r g
    · rw [ega, ega, ega, ega, ega, if_pos e, if_pos e, if_pos e, if_pos e, if_pos e]
      rw [e]
      refine ⟨h6, h7, h8, h9, h10, fun x x0 x1 => ?_⟩
      rw [egf, if_pos ⟨e, x0, x1⟩]
      exact hz x x0 x1
    · rw [ega, ega, ega, ega, ega, if_neg e, if_neg e, if_neg e, if_neg e, if_neg e]
      obtain ⟨w0, w1, w2, w3, w4, w5⟩ := s3 q (by omega)
      rw [(h3 q e).1, (h3 q e).2, h4 _ (by omega), h4 _ (by omega), h4 _ (by omega)]
      refine ⟨w0, w1, w2, w3, w4, fun x x0 x1 => ?_⟩
      rw [egf, if_neg (fun z => e z.1), h5 _ (by omega)]
      exact w5 x x0 x1

theorem nks_rg (k : Int) : 0 ≤ NKs k ∧ NKs k ≤ 3 := by unfold NKs; (repeat' split) <;> omega
