theorem m_kill {X : CX} {G : GT} {nL : Nat} {v : Mem} {pc : Nat} {lv : List (Option Value)} {st : List Value} (i : Nat) (k : M X G nL v pc (lv.set i none) st) : M X G nL v pc lv st := by
  intro H locs ls hP hS hl
  refine k H locs ls hP hS ⟨hl.1, hl.2.1, fun q hq => hl.2.2 q ?_⟩
  obtain ⟨j, y⟩ := q
  rw [lvl_mem] at hq ⊢
  by_cases hji : j = i
  · subst hji
    have hlt := (List.getElem?_eq_some_iff.mp hq).1
    rw [List.length_set] at hlt
    rw [List.getElem?_set_self hlt] at hq
    cases hq
  · rwa [List.getElem?_set_ne (Ne.symm hji)] at hq

set_option maxRecDepth 100000 in
set_option maxHeartbeats 4000000 in
theorem c_allowsMultiplier (l : Launch) {G : GT} (hG : gok G) (v : Mem) {r : Nat} (hr : r < 12) (hrw : RwOk v r) {si : Nat} (hsp : isSp si) (hm : SpOk v si) (z : Int) (hz : -32 ≤ z ∧ z ≤ 31) (w : Int) (hw : 0 ≤ w ∧ w < 8) (hA : 0 ≤ (v.1 (40 + r) 1)) : CC l G nX1_allowsMultiplier 2 [.ref (G.2.1 (40 + r)), .int (iI z), .int (iI w), .ref (G.2.1 si)] v (qI G (fun q u => u = v ∧ bz q (∃ y, v.1 (si + 1) w ≤ y ∧ y ≤ v.1 (si + 2) w ∧ v.1 (si + 1) (v.1 (40 + r) 1) ≤ z * y ∧ z * y ≤ v.1 (si + 2) (v.1 (40 + r) 1)))) := by
  refine m_start (lv := [some (.ref (G.2.1 (40 + r))), some (.int (iI z)), some (.int (iI w)), some (.ref (G.2.1 si)), none, none, none, none]) hG (by decide +kernel) rfl (Nat.le_of_ble_eq_true rfl) ?_
  intro X hL h hR
  subst hL
  obtain ⟨k0, a0, b0, c0, R0, f0, -, -, -, -, -⟩ := hrw
  have hmA := hm (v.1 (40 + r) 1)
  have hmw := hm w
  show M X G 8 v 0 [some (.ref (G.2.1 (40 + r))), some (.int (iI z)), some (.int (iI w)), some (.ref (G.2.1 si)), none, none, none, none] []
  refine m_iload_n h dX1_allowsMultiplier_0 rfl rfl ?_
  refine m_if_ne h dX1_allowsMultiplier_1 (tgt := 14) (by decide) (by omega) (fun c1 => ?_) (fun c1 => ?_)
  · skip
    refine m_iload_n h dX1_allowsMultiplier_14 rfl rfl ?_
    refine m_abs h lk_X1_45 dX1_allowsMultiplier_15 (by decide) (Nat.le_of_ble_eq_true rfl) (by omega) ?_
    generalize hdv : (if 0 ≤ z then z else -z) = dv
    have hd2 : (0 ≤ z ∧ dv = z) ∨ (z < 0 ∧ dv = -z) := by
      by_cases hz0 : 0 ≤ z
      · rw [if_pos hz0] at hdv; omega
      · rw [if_neg hz0] at hdv; omega
    refine m_istore h dX1_allowsMultiplier_18 (by decide) rfl ?_
    refine m_iload_n h dX1_allowsMultiplier_20 rfl rfl ?_
    refine m_if_le h dX1_allowsMultiplier_21 (tgt := 36) (by decide) (by omega) (fun c2 => ?_) (fun c2 => ?_)
    · skip
      refine m_aload_n h dX1_allowsMultiplier_36 rfl rfl ?_
      refine m_get h fo_X1_100 (isSp_lt hsp) (cE_sp hsp) rfl dX1_allowsMultiplier_37 ?_
      refine m_aload_n h dX1_allowsMultiplier_40 rfl rfl ?_
      refine m_get h fo_X1_15 (by omega) (cE_row G _ hr) rfl dX1_allowsMultiplier_41 ?_
      refine m_iald h (ar_sp2 hsp) (by omega) (by omega) dX1_allowsMultiplier_44 ?_
      refine m_ineg h dX1_allowsMultiplier_45 ?_
      refine m_istore h dX1_allowsMultiplier_46 (by decide) rfl ?_
      refine m_iload_n h dX1_allowsMultiplier_48 rfl rfl ?_
      refine m_if_le h dX1_allowsMultiplier_49 (tgt := 64) (by decide) (by omega) (fun c3 => ?_) (fun c3 => ?_)
      · skip
        refine m_aload_n h dX1_allowsMultiplier_64 rfl rfl ?_
        refine m_get h fo_X1_103 (isSp_lt hsp) (cE_sp hsp) rfl dX1_allowsMultiplier_65 ?_
        refine m_aload_n h dX1_allowsMultiplier_68 rfl rfl ?_
        refine m_get h fo_X1_15 (by omega) (cE_row G _ hr) rfl dX1_allowsMultiplier_69 ?_
        refine m_iald h (ar_sp1 hsp) (by omega) (by omega) dX1_allowsMultiplier_72 ?_
        refine m_ineg h dX1_allowsMultiplier_73 ?_
        refine m_istore h dX1_allowsMultiplier_74 (by decide) rfl ?_
        refine m_iload h dX1_allowsMultiplier_76 rfl ?_
        refine m_ineg h dX1_allowsMultiplier_78 ?_
        refine m_iload h dX1_allowsMultiplier_79 rfl ?_
        refine m_sI h (c_floorDiv _ hG _ (-(-(v.1 (si + 2) (v.1 (40 + r) 1)))) dv (by omega) (by omega) (by omega)) moJ9_floorDiv_7cf53 stJ9_floorDiv_7cf53 lk_X1_39 dX1_allowsMultiplier_81 (by decide) rfl rfl (Nat.le_of_ble_eq_true rfl) (fun p1 u5 p6 => ?_)
        obtain ⟨hu9, ep1⟩ := p6
        rw [hu9]
        have gp1 := fd_rg (a := -(-(v.1 (si + 2) (v.1 (40 + r) 1)))) (b := dv) (by omega) (by omega)
        rw [← ep1] at gp1
        refine m_ineg h dX1_allowsMultiplier_84 ?_
        refine m_istore h dX1_allowsMultiplier_85 (by decide) rfl ?_
        refine m_aload_n h dX1_allowsMultiplier_87 rfl rfl ?_
        refine m_iload_n h dX1_allowsMultiplier_88 rfl rfl ?_
        refine m_iload h dX1_allowsMultiplier_89 rfl ?_
        refine m_iload h dX1_allowsMultiplier_91 rfl ?_
        refine m_iload h dX1_allowsMultiplier_93 rfl ?_
        refine m_sI h (c_floorDiv _ hG _ (-(v.1 (si + 1) (v.1 (40 + r) 1))) dv (by omega) (by omega) (by omega)) moJ9_floorDiv_7cf53 stJ9_floorDiv_7cf53 lk_X1_39 dX1_allowsMultiplier_95 (by decide) rfl rfl (Nat.le_of_ble_eq_true rfl) (fun p2 u8 p9 => ?_)
        obtain ⟨hu9, ep2⟩ := p9
        rw [hu9]
        have gp2 := fd_rg (a := -(v.1 (si + 1) (v.1 (40 + r) 1))) (b := dv) (by omega) (by omega)
        rw [← ep2] at gp2
        refine m_vI h (c_meets _ hG hsp _ w (-p1) p2 (by omega) (by omega) (by omega) hm) moX5_meets voX5_meets lk_X1_106 dX1_allowsMultiplier_98 (by decide) (isSp_lt hsp) (cE_sp hsp) rfl rfl (Nat.le_of_ble_eq_true rfl) (fun r10 u11 p12 => ?_)
        obtain ⟨hu9, hb⟩ := p12
        rw [hu9]
        have hbi := hb.in
        refine m_zret h hR rfl dX1_allowsMultiplier_101 hbi ?_
        refine ⟨rfl, ?_⟩
        have hd0 : 0 < dv := by omega
        have hmul : ∀ y : Int, (v.1 (si + 1) (v.1 (40 + r) 1) ≤ z * y ∧ z * y ≤ v.1 (si + 2) (v.1 (40 + r) 1)) ↔ (-p1 ≤ y ∧ y ≤ p2) := by
          intro y
          rw [ep1, ep2]
          have q1 := mulHi (n := dv) (y := y) (h := -v.1 (si + 1) (v.1 (40 + r) 1)) hd0
          have q2 := mulLo (n := dv) (y := y) (l := -v.1 (si + 2) (v.1 (40 + r) 1)) hd0
          have q3 : z * y = -(dv * y) := by rw [show z = -dv by omega, Int.neg_mul]
          rw [q3]
          omega
        rcases hb with ⟨e1, e2⟩ | ⟨e1, e2⟩
        · rw [e1]
          exact bz1 ⟨max (v.1 (si + 1) w) (-p1), by omega, by omega, (hmul _).mpr ⟨by omega, by omega⟩⟩
        · rw [e1]
          refine bz0 ?_
          rintro ⟨y, q1, q2, q3⟩
          have q4 := (hmul y).mp q3
          exact e2 ⟨by omega, by omega, by omega, by omega⟩
      · skip
        omega
    · skip
      refine m_aload_n h dX1_allowsMultiplier_24 rfl rfl ?_
      refine m_get h fo_X1_103 (isSp_lt hsp) (cE_sp hsp) rfl dX1_allowsMultiplier_25 ?_
      refine m_aload_n h dX1_allowsMultiplier_28 rfl rfl ?_
      refine m_get h fo_X1_15 (by omega) (cE_row G _ hr) rfl dX1_allowsMultiplier_29 ?_
      refine m_iald h (ar_sp1 hsp) (by omega) (by omega) dX1_allowsMultiplier_32 ?_
      refine m_goto h dX1_allowsMultiplier_33 (tgt := 46) (by decide) ?_
      refine m_istore h dX1_allowsMultiplier_46 (by decide) rfl ?_
      refine m_iload_n h dX1_allowsMultiplier_48 rfl rfl ?_
      refine m_if_le h dX1_allowsMultiplier_49 (tgt := 64) (by decide) (by omega) (fun c13 => ?_) (fun c13 => ?_)
      · skip
        omega
      · skip
        refine m_aload_n h dX1_allowsMultiplier_52 rfl rfl ?_
        refine m_get h fo_X1_100 (isSp_lt hsp) (cE_sp hsp) rfl dX1_allowsMultiplier_53 ?_
        refine m_aload_n h dX1_allowsMultiplier_56 rfl rfl ?_
        refine m_get h fo_X1_15 (by omega) (cE_row G _ hr) rfl dX1_allowsMultiplier_57 ?_
        refine m_iald h (ar_sp2 hsp) (by omega) (by omega) dX1_allowsMultiplier_60 ?_
        refine m_goto h dX1_allowsMultiplier_61 (tgt := 74) (by decide) ?_
        refine m_istore h dX1_allowsMultiplier_74 (by decide) rfl ?_
        refine m_iload h dX1_allowsMultiplier_76 rfl ?_
        refine m_ineg h dX1_allowsMultiplier_78 ?_
        refine m_iload h dX1_allowsMultiplier_79 rfl ?_
        refine m_sI h (c_floorDiv _ hG _ (-(v.1 (si + 1) (v.1 (40 + r) 1))) dv (by omega) (by omega) (by omega)) moJ9_floorDiv_7cf53 stJ9_floorDiv_7cf53 lk_X1_39 dX1_allowsMultiplier_81 (by decide) rfl rfl (Nat.le_of_ble_eq_true rfl) (fun p1 u15 p16 => ?_)
        obtain ⟨hu9, ep1⟩ := p16
        rw [hu9]
        have gp1 := fd_rg (a := -(v.1 (si + 1) (v.1 (40 + r) 1))) (b := dv) (by omega) (by omega)
        rw [← ep1] at gp1
        refine m_ineg h dX1_allowsMultiplier_84 ?_
        refine m_istore h dX1_allowsMultiplier_85 (by decide) rfl ?_
        refine m_aload_n h dX1_allowsMultiplier_87 rfl rfl ?_
        refine m_iload_n h dX1_allowsMultiplier_88 rfl rfl ?_
        refine m_iload h dX1_allowsMultiplier_89 rfl ?_
        refine m_iload h dX1_allowsMultiplier_91 rfl ?_
        refine m_iload h dX1_allowsMultiplier_93 rfl ?_
        refine m_sI h (c_floorDiv _ hG _ (v.1 (si + 2) (v.1 (40 + r) 1)) dv (by omega) (by omega) (by omega)) moJ9_floorDiv_7cf53 stJ9_floorDiv_7cf53 lk_X1_39 dX1_allowsMultiplier_95 (by decide) rfl rfl (Nat.le_of_ble_eq_true rfl) (fun p2 u18 p19 => ?_)
        obtain ⟨hu9, ep2⟩ := p19
        rw [hu9]
        have gp2 := fd_rg (a := v.1 (si + 2) (v.1 (40 + r) 1)) (b := dv) (by omega) (by omega)
        rw [← ep2] at gp2
        refine m_vI h (c_meets _ hG hsp _ w (-p1) p2 (by omega) (by omega) (by omega) hm) moX5_meets voX5_meets lk_X1_106 dX1_allowsMultiplier_98 (by decide) (isSp_lt hsp) (cE_sp hsp) rfl rfl (Nat.le_of_ble_eq_true rfl) (fun r20 u21 p22 => ?_)
        obtain ⟨hu9, hb⟩ := p22
        rw [hu9]
        have hbi := hb.in
        refine m_zret h hR rfl dX1_allowsMultiplier_101 hbi ?_
        refine ⟨rfl, ?_⟩
        have hd0 : 0 < dv := by omega
        have hmul : ∀ y : Int, (v.1 (si + 1) (v.1 (40 + r) 1) ≤ z * y ∧ z * y ≤ v.1 (si + 2) (v.1 (40 + r) 1)) ↔ (-p1 ≤ y ∧ y ≤ p2) := by
          intro y
          rw [ep1, ep2]
          rw [show z = dv by omega]
          have q1 := mulHi (n := dv) (y := y) (h := v.1 (si + 2) (v.1 (40 + r) 1)) hd0
          have q2 := mulLo (n := dv) (y := y) (l := v.1 (si + 1) (v.1 (40 + r) 1)) hd0
          omega
        rcases hb with ⟨e1, e2⟩ | ⟨e1, e2⟩
        · rw [e1]
          exact bz1 ⟨max (v.1 (si + 1) w) (-p1), by omega, by omega, (hmul _).mpr ⟨by omega, by omega⟩⟩
        · rw [e1]
          refine bz0 ?_
          rintro ⟨y, q1, q2, q3⟩
          have q4 := (hmul y).mp q3
          exact e2 ⟨by omega, by omega, by omega, by omega⟩
  · skip
    refine m_aload_n h dX1_allowsMultiplier_4 rfl rfl ?_
    refine m_aload_n h dX1_allowsMultiplier_5 rfl rfl ?_
    refine m_get h fo_X1_15 (by omega) (cE_row G _ hr) rfl dX1_allowsMultiplier_6 ?_
    refine m_iconst h dX1_allowsMultiplier_9 ?_
    refine m_vI h (c_cov _ hG hsp _ (v.1 (40 + r) 1) 0 (by omega) (by omega) hm) moX5_covers voX5_covers lk_X1_75 dX1_allowsMultiplier_10 (by decide) (isSp_lt hsp) (cE_sp hsp) rfl rfl (Nat.le_of_ble_eq_true rfl) (fun r23 u24 p25 => ?_)
    obtain ⟨hu9, hb⟩ := p25
    rw [hu9]
    have hbi := hb.in
    refine m_zret h hR rfl dX1_allowsMultiplier_13 hbi ?_
    refine ⟨rfl, ?_⟩
    rcases hb with ⟨e1, e2⟩ | ⟨e1, e2⟩
    · subst e1
      exact bz1 ⟨v.1 (si + 1) w, by omega, by omega, by rw [show z = 0 by omega, Int.zero_mul]; exact e2.1, by rw [show z = 0 by omega, Int.zero_mul]; exact e2.2⟩
    · subst e1
      refine bz0 ?_
      rintro ⟨y, q1, q2, q3, q4⟩
      rw [show z = 0 by omega, Int.zero_mul] at q3 q4
      exact e2 ⟨q3, q4⟩

set_option maxRecDepth 100000 in
set_option maxHeartbeats 4000000 in
theorem c_allowsQuotient (l : Launch) {G : GT} (hG : gok G) (v : Mem) {r : Nat} (hr : r < 12) (hrw : RwOk v r) {si : Nat} (hsp : isSp si) (hm : SpOk v si) (z : Int) (hz : -32 ≤ z ∧ z ≤ 31) (hB : 0 ≤ (v.1 (40 + r) 2)) (hC : 0 ≤ (v.1 (40 + r) 3)) : CC l G nX1_allowsQuotient 2 [.ref (G.2.1 (40 + r)), .int (iI z), .ref (G.2.1 si)] v (qI G (fun q u => u = v ∧ bz q (∃ x y, v.1 (si + 1) (v.1 (40 + r) 3) ≤ x ∧ x ≤ v.1 (si + 2) (v.1 (40 + r) 3) ∧ v.1 (si + 1) (v.1 (40 + r) 2) ≤ y ∧ y ≤ v.1 (si + 2) (v.1 (40 + r) 2) ∧ x ≠ 0 ∧ fd y x = z))) := by
  refine m_start (lv := [some (.ref (G.2.1 (40 + r))), some (.int (iI z)), some (.ref (G.2.1 si)), none, none, none]) hG (by decide +kernel) rfl (Nat.le_of_ble_eq_true rfl) ?_
  intro X hL h hR
  subst hL
  obtain ⟨k0, a0, b0, c0, R0, f0, -, -, -, -, -⟩ := hrw
  have hmB := hm (v.1 (40 + r) 2)
  have hmC := hm (v.1 (40 + r) 3)
  show M X G 6 v 0 [some (.ref (G.2.1 (40 + r))), some (.int (iI z)), some (.ref (G.2.1 si)), none, none, none] []
  refine m_aload_n h dX1_allowsQuotient_0 rfl rfl ?_
  refine m_get h fo_X1_103 (isSp_lt hsp) (cE_sp hsp) rfl dX1_allowsQuotient_1 ?_
  refine m_aload_n h dX1_allowsQuotient_4 rfl rfl ?_
  refine m_get h fo_X1_21 (by omega) (cE_row G _ hr) rfl dX1_allowsQuotient_5 ?_
  refine m_iald h (ar_sp1 hsp) (by omega) (by omega) dX1_allowsQuotient_8 ?_
  refine m_istore_n h dX1_allowsQuotient_9 rfl (by decide) rfl ?_
  have lp10 : ∀ (fuel : Nat) (x : Int), v.1 (si + 1) (v.1 (40 + r) 3) ≤ x → x ≤ v.1 (si + 2) (v.1 (40 + r) 3) + 1 → (∀ x1 y : Int, v.1 (si + 1) (v.1 (40 + r) 3) ≤ x1 → x1 < x → v.1 (si + 1) (v.1 (40 + r) 2) ≤ y → y ≤ v.1 (si + 2) (v.1 (40 + r) 2) → x1 ≠ 0 → fd y x1 ≠ z) → (33 - x).toNat < fuel → M X G 6 v 10 [some (.ref (G.2.1 (40 + r))), some (.int (iI z)), some (.ref (G.2.1 si)), some (.int (iI x)), none, none] [] := by
    intro fuel
    induction fuel with
    | zero => intro x hx1 hx2 hno hf; exfalso; omega
    | succ fuel ih =>
      intro x hx1 hx2 hno hf
      have hzx := mulR (a := z) (b := x) (by omega) (by omega)
      have hzx1 : (z + 1) * x = z * x + x := by rw [Int.add_mul, Int.one_mul]
      refine m_iload_n h dX1_allowsQuotient_10 rfl rfl ?_
      refine m_aload_n h dX1_allowsQuotient_11 rfl rfl ?_
      refine m_get h fo_X1_100 (isSp_lt hsp) (cE_sp hsp) rfl dX1_allowsQuotient_12 ?_
      refine m_aload_n h dX1_allowsQuotient_15 rfl rfl ?_
      refine m_get h fo_X1_21 (by omega) (cE_row G _ hr) rfl dX1_allowsQuotient_16 ?_
      refine m_iald h (ar_sp2 hsp) (by omega) (by omega) dX1_allowsQuotient_19 ?_
      refine m_icmp_gt h dX1_allowsQuotient_20 (tgt := 88) (by decide) (by omega) (by omega) (fun c1 => ?_) (fun c1 => ?_)
      · skip
        refine m_iconst h dX1_allowsQuotient_88 ?_
        refine m_zret h hR rfl dX1_allowsQuotient_89 (by omega) ?_
        refine ⟨rfl, bz0 ?_⟩
        rintro ⟨x1, y, q1, q2, q3, q4, q5, q6⟩
        exact hno x1 y q1 (by omega) q3 q4 q5 q6
      · skip
        refine m_iload_n h dX1_allowsQuotient_23 rfl rfl ?_
        refine m_if_le h dX1_allowsQuotient_24 (tgt := 33) (by decide) (by omega) (fun c2 => ?_) (fun c2 => ?_)
        · skip
          refine m_iload_n h dX1_allowsQuotient_33 rfl rfl ?_
          refine m_iconst h dX1_allowsQuotient_34 ?_
          refine m_iadd h dX1_allowsQuotient_35 ?_
          refine m_iload_n h dX1_allowsQuotient_36 rfl rfl ?_
          refine m_imul h dX1_allowsQuotient_37 ?_
          refine m_iconst h dX1_allowsQuotient_38 ?_
          refine m_iadd h dX1_allowsQuotient_39 ?_
          refine m_istore h dX1_allowsQuotient_40 (by decide) rfl ?_
          refine m_iload_n h dX1_allowsQuotient_42 rfl rfl ?_
          refine m_if_le h dX1_allowsQuotient_43 (tgt := 56) (by decide) (by omega) (fun c3 => ?_) (fun c3 => ?_)
          · skip
            refine m_iload_n h dX1_allowsQuotient_56 rfl rfl ?_
            refine m_iload_n h dX1_allowsQuotient_57 rfl rfl ?_
            refine m_imul h dX1_allowsQuotient_58 ?_
            refine m_istore h dX1_allowsQuotient_59 (by decide) rfl ?_
            refine m_iload_n h dX1_allowsQuotient_61 rfl rfl ?_
            refine m_if_eq h dX1_allowsQuotient_62 (tgt := 82) (by decide) (by omega) (fun c4 => ?_) (fun c4 => ?_)
            · skip
              refine m_iinc h dX1_allowsQuotient_82 rfl (by decide) rfl ?_
              refine m_goto h dX1_allowsQuotient_85 (tgt := 10) (by decide) ?_
              refine m_kill 4 ?_
              refine m_kill 5 ?_
              refine ih (x + 1) (by omega) (by omega) (fun x1 y q1 q2 q3 q4 q5 q6 => ?_) (by omega)
              by_cases hx1 : x1 < x
              · exact hno x1 y q1 hx1 q3 q4 q5 q6
              · obtain rfl : x1 = x := by omega
                first
                  | omega
                  | (have q7 := (fd_iff q5).mp q6
                     have q8 : (z + 1) * x1 = z * x1 + x1 := by rw [Int.add_mul, Int.one_mul]
                     exact hb.no (by omega) ⟨by omega, by omega, by omega, by omega⟩)
            · skip
              refine m_aload_n h dX1_allowsQuotient_65 rfl rfl ?_
              refine m_aload_n h dX1_allowsQuotient_66 rfl rfl ?_
              refine m_get h fo_X1_18 (by omega) (cE_row G _ hr) rfl dX1_allowsQuotient_67 ?_
              refine m_iload h dX1_allowsQuotient_70 rfl ?_
              refine m_iload h dX1_allowsQuotient_72 rfl ?_
              refine m_vI h (c_meets _ hG hsp _ (v.1 (40 + r) 2) (((z + 1) * x) + 1) (z * x) (by omega) (by omega) (by omega) hm) moX5_meets voX5_meets lk_X1_106 dX1_allowsQuotient_74 (by decide) (isSp_lt hsp) (cE_sp hsp) rfl rfl (Nat.le_of_ble_eq_true rfl) (fun r5 u6 p7 => ?_)
              obtain ⟨hu9, hb⟩ := p7
              rw [hu9]
              have hbi := hb.in
              refine m_if_eq h dX1_allowsQuotient_77 (tgt := 82) (by decide) (by omega) (fun c8 => ?_) (fun c8 => ?_)
              · skip
                refine m_iinc h dX1_allowsQuotient_82 rfl (by decide) rfl ?_
                refine m_goto h dX1_allowsQuotient_85 (tgt := 10) (by decide) ?_
                refine m_kill 4 ?_
                refine m_kill 5 ?_
                refine ih (x + 1) (by omega) (by omega) (fun x1 y q1 q2 q3 q4 q5 q6 => ?_) (by omega)
                by_cases hx1 : x1 < x
                · exact hno x1 y q1 hx1 q3 q4 q5 q6
                · obtain rfl : x1 = x := by omega
                  first
                    | omega
                    | (have q7 := (fd_iff q5).mp q6
                       have q8 : (z + 1) * x1 = z * x1 + x1 := by rw [Int.add_mul, Int.one_mul]
                       exact hb.no (by omega) ⟨by omega, by omega, by omega, by omega⟩)
              · skip
                refine m_iconst h dX1_allowsQuotient_80 ?_
                refine m_zret h hR rfl dX1_allowsQuotient_81 (by omega) ?_
                refine ⟨rfl, bz1 ?_⟩
                have q6 := hb.yes (by omega)
                have q7 : x ≠ 0 := by assumption
                first
                  | (refine ⟨x, max (v.1 (si + 1) (v.1 (40 + r) 2)) (z * x), by omega, by omega, by omega, by omega, q7, (fd_iff q7).mpr ?_⟩; omega)
                  | (refine ⟨x, max (v.1 (si + 1) (v.1 (40 + r) 2)) ((z + 1) * x + 1), by omega, by omega, by omega, by omega, q7, (fd_iff q7).mpr ?_⟩; omega)
          · skip
            omega
        · skip
          refine m_iload_n h dX1_allowsQuotient_27 rfl rfl ?_
          refine m_iload_n h dX1_allowsQuotient_28 rfl rfl ?_
          refine m_imul h dX1_allowsQuotient_29 ?_
          refine m_goto h dX1_allowsQuotient_30 (tgt := 40) (by decide) ?_
          refine m_istore h dX1_allowsQuotient_40 (by decide) rfl ?_
          refine m_iload_n h dX1_allowsQuotient_42 rfl rfl ?_
          refine m_if_le h dX1_allowsQuotient_43 (tgt := 56) (by decide) (by omega) (fun c9 => ?_) (fun c9 => ?_)
          · skip
            omega
          · skip
            refine m_iload_n h dX1_allowsQuotient_46 rfl rfl ?_
            refine m_iload_n h dX1_allowsQuotient_47 rfl rfl ?_
            refine m_imul h dX1_allowsQuotient_48 ?_
            refine m_iload_n h dX1_allowsQuotient_49 rfl rfl ?_
            refine m_iadd h dX1_allowsQuotient_50 ?_
            refine m_iconst h dX1_allowsQuotient_51 ?_
            refine m_isub h dX1_allowsQuotient_52 ?_
            refine m_goto h dX1_allowsQuotient_53 (tgt := 59) (by decide) ?_
            refine m_istore h dX1_allowsQuotient_59 (by decide) rfl ?_
            refine m_iload_n h dX1_allowsQuotient_61 rfl rfl ?_
            refine m_if_eq h dX1_allowsQuotient_62 (tgt := 82) (by decide) (by omega) (fun c10 => ?_) (fun c10 => ?_)
            · skip
              refine m_iinc h dX1_allowsQuotient_82 rfl (by decide) rfl ?_
              refine m_goto h dX1_allowsQuotient_85 (tgt := 10) (by decide) ?_
              refine m_kill 4 ?_
              refine m_kill 5 ?_
              refine ih (x + 1) (by omega) (by omega) (fun x1 y q1 q2 q3 q4 q5 q6 => ?_) (by omega)
              by_cases hx1 : x1 < x
              · exact hno x1 y q1 hx1 q3 q4 q5 q6
              · obtain rfl : x1 = x := by omega
                first
                  | omega
                  | (have q7 := (fd_iff q5).mp q6
                     have q8 : (z + 1) * x1 = z * x1 + x1 := by rw [Int.add_mul, Int.one_mul]
                     exact hb.no (by omega) ⟨by omega, by omega, by omega, by omega⟩)
            · skip
              refine m_aload_n h dX1_allowsQuotient_65 rfl rfl ?_
              refine m_aload_n h dX1_allowsQuotient_66 rfl rfl ?_
              refine m_get h fo_X1_18 (by omega) (cE_row G _ hr) rfl dX1_allowsQuotient_67 ?_
              refine m_iload h dX1_allowsQuotient_70 rfl ?_
              refine m_iload h dX1_allowsQuotient_72 rfl ?_
              refine m_vI h (c_meets _ hG hsp _ (v.1 (40 + r) 2) (z * x) (((z * x) + x) - 1) (by omega) (by omega) (by omega) hm) moX5_meets voX5_meets lk_X1_106 dX1_allowsQuotient_74 (by decide) (isSp_lt hsp) (cE_sp hsp) rfl rfl (Nat.le_of_ble_eq_true rfl) (fun r11 u12 p13 => ?_)
              obtain ⟨hu9, hb⟩ := p13
              rw [hu9]
              have hbi := hb.in
              refine m_if_eq h dX1_allowsQuotient_77 (tgt := 82) (by decide) (by omega) (fun c14 => ?_) (fun c14 => ?_)
              · skip
                refine m_iinc h dX1_allowsQuotient_82 rfl (by decide) rfl ?_
                refine m_goto h dX1_allowsQuotient_85 (tgt := 10) (by decide) ?_
                refine m_kill 4 ?_
                refine m_kill 5 ?_
                refine ih (x + 1) (by omega) (by omega) (fun x1 y q1 q2 q3 q4 q5 q6 => ?_) (by omega)
                by_cases hx1 : x1 < x
                · exact hno x1 y q1 hx1 q3 q4 q5 q6
                · obtain rfl : x1 = x := by omega
                  first
                    | omega
                    | (have q7 := (fd_iff q5).mp q6
                       have q8 : (z + 1) * x1 = z * x1 + x1 := by rw [Int.add_mul, Int.one_mul]
                       exact hb.no (by omega) ⟨by omega, by omega, by omega, by omega⟩)
              · skip
                refine m_iconst h dX1_allowsQuotient_80 ?_
                refine m_zret h hR rfl dX1_allowsQuotient_81 (by omega) ?_
                refine ⟨rfl, bz1 ?_⟩
                have q6 := hb.yes (by omega)
                have q7 : x ≠ 0 := by assumption
                first
                  | (refine ⟨x, max (v.1 (si + 1) (v.1 (40 + r) 2)) (z * x), by omega, by omega, by omega, by omega, q7, (fd_iff q7).mpr ?_⟩; omega)
                  | (refine ⟨x, max (v.1 (si + 1) (v.1 (40 + r) 2)) ((z + 1) * x + 1), by omega, by omega, by omega, by omega, q7, (fd_iff q7).mpr ?_⟩; omega)
  exact lp10 100 _ (by omega) (by omega) (fun x1 y q1 q2 q3 q4 q5 => by omega) (by omega)

set_option maxRecDepth 100000 in
set_option maxHeartbeats 4000000 in
theorem c_allowsDividend (l : Launch) {G : GT} (hG : gok G) (v : Mem) {r : Nat} (hr : r < 12) (hrw : RwOk v r) {si : Nat} (hsp : isSp si) (hm : SpOk v si) (z : Int) (hz : -32 ≤ z ∧ z ≤ 31) (hA : 0 ≤ (v.1 (40 + r) 1)) (hC : 0 ≤ (v.1 (40 + r) 3)) : CC l G nX1_allowsDividend 1 [.ref (G.2.1 (40 + r)), .int (iI z), .ref (G.2.1 si)] v (qI G (fun q u => u = v ∧ bz q (∃ x, v.1 (si + 1) (v.1 (40 + r) 3) ≤ x ∧ x ≤ v.1 (si + 2) (v.1 (40 + r) 3) ∧ x ≠ 0 ∧ v.1 (si + 1) (v.1 (40 + r) 1) ≤ fd z x ∧ fd z x ≤ v.1 (si + 2) (v.1 (40 + r) 1)))) := by
  refine m_start (lv := [some (.ref (G.2.1 (40 + r))), some (.int (iI z)), some (.ref (G.2.1 si)), none]) hG (by decide +kernel) rfl (Nat.le_of_ble_eq_true rfl) ?_
  intro X hL h hR
  subst hL
  obtain ⟨k0, a0, b0, c0, R0, f0, -, -, -, -, -⟩ := hrw
  have hmA := hm (v.1 (40 + r) 1)
  have hmC := hm (v.1 (40 + r) 3)
  show M X G 4 v 0 [some (.ref (G.2.1 (40 + r))), some (.int (iI z)), some (.ref (G.2.1 si)), none] []
  refine m_aload_n h dX1_allowsDividend_0 rfl rfl ?_
  refine m_get h fo_X1_103 (isSp_lt hsp) (cE_sp hsp) rfl dX1_allowsDividend_1 ?_
  refine m_aload_n h dX1_allowsDividend_4 rfl rfl ?_
  refine m_get h fo_X1_21 (by omega) (cE_row G _ hr) rfl dX1_allowsDividend_5 ?_
  refine m_iald h (ar_sp1 hsp) (by omega) (by omega) dX1_allowsDividend_8 ?_
  refine m_istore_n h dX1_allowsDividend_9 rfl (by decide) rfl ?_
  have lp10 : ∀ (fuel : Nat) (x : Int), v.1 (si + 1) (v.1 (40 + r) 3) ≤ x → x ≤ v.1 (si + 2) (v.1 (40 + r) 3) + 1 → (∀ x1 : Int, v.1 (si + 1) (v.1 (40 + r) 3) ≤ x1 → x1 < x → x1 ≠ 0 → ¬ (v.1 (si + 1) (v.1 (40 + r) 1) ≤ fd z x1 ∧ fd z x1 ≤ v.1 (si + 2) (v.1 (40 + r) 1))) → (33 - x).toNat < fuel → M X G 4 v 10 [some (.ref (G.2.1 (40 + r))), some (.int (iI z)), some (.ref (G.2.1 si)), some (.int (iI x))] [] := by
    intro fuel
    induction fuel with
    | zero => intro x hx1 hx2 hno hf; exfalso; omega
    | succ fuel ih =>
      intro x hx1 hx2 hno hf
      refine m_iload_n h dX1_allowsDividend_10 rfl rfl ?_
      refine m_aload_n h dX1_allowsDividend_11 rfl rfl ?_
      refine m_get h fo_X1_100 (isSp_lt hsp) (cE_sp hsp) rfl dX1_allowsDividend_12 ?_
      refine m_aload_n h dX1_allowsDividend_15 rfl rfl ?_
      refine m_get h fo_X1_21 (by omega) (cE_row G _ hr) rfl dX1_allowsDividend_16 ?_
      refine m_iald h (ar_sp2 hsp) (by omega) (by omega) dX1_allowsDividend_19 ?_
      refine m_icmp_gt h dX1_allowsDividend_20 (tgt := 51) (by decide) (by omega) (by omega) (fun c1 => ?_) (fun c1 => ?_)
      · skip
        refine m_iconst h dX1_allowsDividend_51 ?_
        refine m_zret h hR rfl dX1_allowsDividend_52 (by omega) ?_
        refine ⟨rfl, bz0 ?_⟩
        rintro ⟨x1, q1, q2, q3, q4⟩
        exact hno x1 q1 (by omega) q3 q4
      · skip
        refine m_iload_n h dX1_allowsDividend_23 rfl rfl ?_
        refine m_if_eq h dX1_allowsDividend_24 (tgt := 45) (by decide) (by omega) (fun c2 => ?_) (fun c2 => ?_)
        · skip
          refine m_iinc h dX1_allowsDividend_45 rfl (by decide) rfl ?_
          refine m_goto h dX1_allowsDividend_48 (tgt := 10) (by decide) ?_
          refine ih (x + 1) (by omega) (by omega) (fun x1 q1 q2 q3 q4 => ?_) (by omega)
          by_cases hx1 : x1 < x
          · exact hno x1 q1 hx1 q3 q4
          · obtain rfl : x1 = x := by omega
            first
              | omega
              | (rw [ep1] at hb; exact hb.no (by omega) q4)
        · skip
          refine m_aload_n h dX1_allowsDividend_27 rfl rfl ?_
          refine m_aload_n h dX1_allowsDividend_28 rfl rfl ?_
          refine m_get h fo_X1_15 (by omega) (cE_row G _ hr) rfl dX1_allowsDividend_29 ?_
          refine m_iload_n h dX1_allowsDividend_32 rfl rfl ?_
          refine m_iload_n h dX1_allowsDividend_33 rfl rfl ?_
          refine m_sI h (c_floorDiv _ hG _ z x (by omega) (by omega) (by omega)) moJ9_floorDiv_7cf53 stJ9_floorDiv_7cf53 lk_X1_39 dX1_allowsDividend_34 (by decide) rfl rfl (Nat.le_of_ble_eq_true rfl) (fun p1 u4 p5 => ?_)
          obtain ⟨hu9, ep1⟩ := p5
          rw [hu9]
          have gp1 := fd_rg (a := z) (b := x) (by omega) (by omega)
          rw [← ep1] at gp1
          refine m_vI h (c_cov _ hG hsp _ (v.1 (40 + r) 1) p1 (by omega) (by omega) hm) moX5_covers voX5_covers lk_X1_75 dX1_allowsDividend_37 (by decide) (isSp_lt hsp) (cE_sp hsp) rfl rfl (Nat.le_of_ble_eq_true rfl) (fun r6 u7 p8 => ?_)
          obtain ⟨hu9, hb⟩ := p8
          rw [hu9]
          have hbi := hb.in
          refine m_if_eq h dX1_allowsDividend_40 (tgt := 45) (by decide) (by omega) (fun c9 => ?_) (fun c9 => ?_)
          · skip
            refine m_iinc h dX1_allowsDividend_45 rfl (by decide) rfl ?_
            refine m_goto h dX1_allowsDividend_48 (tgt := 10) (by decide) ?_
            refine ih (x + 1) (by omega) (by omega) (fun x1 q1 q2 q3 q4 => ?_) (by omega)
            by_cases hx1 : x1 < x
            · exact hno x1 q1 hx1 q3 q4
            · obtain rfl : x1 = x := by omega
              first
                | omega
                | (rw [ep1] at hb; exact hb.no (by omega) q4)
          · skip
            refine m_iconst h dX1_allowsDividend_43 ?_
            refine m_zret h hR rfl dX1_allowsDividend_44 (by omega) ?_
            have q6 := hb.yes (by omega)
            rw [ep1] at q6
            have q7 : x ≠ 0 := by assumption
            exact ⟨rfl, bz1 ⟨x, by omega, by omega, q7, q6.1, q6.2⟩⟩
  exact lp10 100 _ (by omega) (by omega) (fun x1 q1 q2 q3 q4 => by omega) (by omega)

set_option maxRecDepth 100000 in
set_option maxHeartbeats 4000000 in
theorem c_allowsDivisor (l : Launch) {G : GT} (hG : gok G) (v : Mem) {r : Nat} (hr : r < 12) (hrw : RwOk v r) {si : Nat} (hsp : isSp si) (hm : SpOk v si) (z : Int) (hz : -32 ≤ z ∧ z ≤ 31) (hA : 0 ≤ (v.1 (40 + r) 1)) (hB : 0 ≤ (v.1 (40 + r) 2)) : CC l G nX1_allowsDivisor 2 [.ref (G.2.1 (40 + r)), .int (iI z), .ref (G.2.1 si)] v (qI G (fun q u => u = v ∧ bz q (z ≠ 0 ∧ ∃ y, v.1 (si + 1) (v.1 (40 + r) 2) ≤ y ∧ y ≤ v.1 (si + 2) (v.1 (40 + r) 2) ∧ v.1 (si + 1) (v.1 (40 + r) 1) ≤ fd y z ∧ fd y z ≤ v.1 (si + 2) (v.1 (40 + r) 1)))) := by
  refine m_start (lv := [some (.ref (G.2.1 (40 + r))), some (.int (iI z)), some (.ref (G.2.1 si)), none, none]) hG (by decide +kernel) rfl (Nat.le_of_ble_eq_true rfl) ?_
  intro X hL h hR
  subst hL
  obtain ⟨k0, a0, b0, c0, R0, f0, -, -, -, -, -⟩ := hrw
  have hmA := hm (v.1 (40 + r) 1)
  have hmB := hm (v.1 (40 + r) 2)
  show M X G 5 v 0 [some (.ref (G.2.1 (40 + r))), some (.int (iI z)), some (.ref (G.2.1 si)), none, none] []
  refine m_iload_n h dX1_allowsDivisor_0 rfl rfl ?_
  refine m_if_ne h dX1_allowsDivisor_1 (tgt := 6) (by decide) (by omega) (fun c1 => ?_) (fun c1 => ?_)
  · skip
    refine m_aload_n h dX1_allowsDivisor_6 rfl rfl ?_
    refine m_get h fo_X1_103 (isSp_lt hsp) (cE_sp hsp) rfl dX1_allowsDivisor_7 ?_
    refine m_aload_n h dX1_allowsDivisor_10 rfl rfl ?_
    refine m_get h fo_X1_18 (by omega) (cE_row G _ hr) rfl dX1_allowsDivisor_11 ?_
    refine m_iald h (ar_sp1 hsp) (by omega) (by omega) dX1_allowsDivisor_14 ?_
    refine m_iload_n h dX1_allowsDivisor_15 rfl rfl ?_
    refine m_sI h (c_floorDiv _ hG _ (v.1 (si + 1) (v.1 (40 + r) 2)) z (by omega) (by omega) (by omega)) moJ9_floorDiv_7cf53 stJ9_floorDiv_7cf53 lk_X1_39 dX1_allowsDivisor_16 (by decide) rfl rfl (Nat.le_of_ble_eq_true rfl) (fun p1 u3 p4 => ?_)
    obtain ⟨hu9, ep1⟩ := p4
    rw [hu9]
    have gp1 := fd_rg (a := v.1 (si + 1) (v.1 (40 + r) 2)) (b := z) (by omega) (by omega)
    rw [← ep1] at gp1
    refine m_istore_n h dX1_allowsDivisor_19 rfl (by decide) rfl ?_
    refine m_aload_n h dX1_allowsDivisor_20 rfl rfl ?_
    refine m_get h fo_X1_100 (isSp_lt hsp) (cE_sp hsp) rfl dX1_allowsDivisor_21 ?_
    refine m_aload_n h dX1_allowsDivisor_24 rfl rfl ?_
    refine m_get h fo_X1_18 (by omega) (cE_row G _ hr) rfl dX1_allowsDivisor_25 ?_
    refine m_iald h (ar_sp2 hsp) (by omega) (by omega) dX1_allowsDivisor_28 ?_
    refine m_iload_n h dX1_allowsDivisor_29 rfl rfl ?_
    refine m_sI h (c_floorDiv _ hG _ (v.1 (si + 2) (v.1 (40 + r) 2)) z (by omega) (by omega) (by omega)) moJ9_floorDiv_7cf53 stJ9_floorDiv_7cf53 lk_X1_39 dX1_allowsDivisor_30 (by decide) rfl rfl (Nat.le_of_ble_eq_true rfl) (fun p2 u6 p7 => ?_)
    obtain ⟨hu9, ep2⟩ := p7
    rw [hu9]
    have gp2 := fd_rg (a := v.1 (si + 2) (v.1 (40 + r) 2)) (b := z) (by omega) (by omega)
    rw [← ep2] at gp2
    refine m_istore h dX1_allowsDivisor_33 (by decide) rfl ?_
    refine m_aload_n h dX1_allowsDivisor_35 rfl rfl ?_
    refine m_aload_n h dX1_allowsDivisor_36 rfl rfl ?_
    refine m_get h fo_X1_15 (by omega) (cE_row G _ hr) rfl dX1_allowsDivisor_37 ?_
    refine m_iload_n h dX1_allowsDivisor_40 rfl rfl ?_
    refine m_iload h dX1_allowsDivisor_41 rfl ?_
    refine m_min h lk_X1_52 dX1_allowsDivisor_43 (by decide) (Nat.le_of_ble_eq_true rfl) (by omega) (by omega) ?_
    refine m_iload_n h dX1_allowsDivisor_46 rfl rfl ?_
    refine m_iload h dX1_allowsDivisor_47 rfl ?_
    refine m_max h lk_X1_49 dX1_allowsDivisor_49 (by decide) (Nat.le_of_ble_eq_true rfl) (by omega) (by omega) ?_
    refine m_vI h (c_meets _ hG hsp _ (v.1 (40 + r) 1) (min p1 p2) (max p1 p2) (by omega) (by omega) (by omega) hm) moX5_meets voX5_meets lk_X1_106 dX1_allowsDivisor_52 (by decide) (isSp_lt hsp) (cE_sp hsp) rfl rfl (Nat.le_of_ble_eq_true rfl) (fun r8 u9 p10 => ?_)
    obtain ⟨hu9, hb⟩ := p10
    rw [hu9]
    have hbi := hb.in
    refine m_zret h hR rfl dX1_allowsDivisor_55 hbi ?_
    refine ⟨rfl, ?_⟩
    have hz0 : z ≠ 0 := by assumption
    rcases hb with ⟨e1, e2⟩ | ⟨e1, e2⟩
    · rw [e1]
      obtain ⟨y, y1, y2, y3⟩ := fd_all (x := z) (l := v.1 (si + 1) (v.1 (40 + r) 2)) (h := v.1 (si + 2) (v.1 (40 + r) 2)) (q := max (v.1 (si + 1) (v.1 (40 + r) 1)) (min p1 p2)) hz0 (by omega) (by rw [← ep1, ← ep2]; omega) (by rw [← ep1, ← ep2]; omega)
      exact bz1 ⟨hz0, y, y1, y2, by omega, by omega⟩
    · rw [e1]
      refine bz0 ?_
      rintro ⟨-, y, y1, y2, y3, y4⟩
      have m1 := fd_mono (x := z) hz0 y1
      have m2 := fd_mono (x := z) hz0 y2
      rw [← ep1] at m1
      rw [← ep2] at m2
      apply e2
      rcases Int.lt_or_gt_of_ne hz0 with hn | hp
      · have := m1.2 hn
        have := m2.2 hn
        omega
      · have := m1.1 hp
        have := m2.1 hp
        omega
  · skip
    refine m_iconst h dX1_allowsDivisor_4 ?_
    refine m_zret h hR rfl dX1_allowsDivisor_5 (by omega) ?_
    exact ⟨rfl, bz0 (fun q => q.1 (by omega))⟩

set_option maxRecDepth 100000 in
set_option maxHeartbeats 4000000 in
theorem c_allowsGreatest (l : Launch) {G : GT} (hG : gok G) (v : Mem) {r : Nat} (hr : r < 12) (hrw : RwOk v r) {si : Nat} (hsp : isSp si) (hm : SpOk v si) (z : Int) (hz : -32 ≤ z ∧ z ≤ 31) (hB : 0 ≤ (v.1 (40 + r) 2)) (hC : 0 ≤ (v.1 (40 + r) 3)) : CC l G nX1_allowsGreatest 1 [.ref (G.2.1 (40 + r)), .int (iI z), .ref (G.2.1 si)] v (qI G (fun q u => u = v ∧ bz q ((v.1 (si + 1) (v.1 (40 + r) 2) ≤ z ∧ z ≤ v.1 (si + 2) (v.1 (40 + r) 2) ∧ v.1 (si + 1) (v.1 (40 + r) 3) ≤ z) ∨ (v.1 (si + 1) (v.1 (40 + r) 3) ≤ z ∧ z ≤ v.1 (si + 2) (v.1 (40 + r) 3) ∧ v.1 (si + 1) (v.1 (40 + r) 2) ≤ z)))) := by
  refine m_start (lv := [some (.ref (G.2.1 (40 + r))), some (.int (iI z)), some (.ref (G.2.1 si))]) hG (by decide +kernel) rfl (Nat.le_of_ble_eq_true rfl) ?_
  intro X hL h hR
  subst hL
  obtain ⟨k0, a0, b0, c0, R0, f0, -, -, -, -, -⟩ := hrw
  have hmB := hm (v.1 (40 + r) 2)
  have hmC := hm (v.1 (40 + r) 3)
  show M X G 3 v 0 [some (.ref (G.2.1 (40 + r))), some (.int (iI z)), some (.ref (G.2.1 si))] []
  refine m_aload_n h dX1_allowsGreatest_0 rfl rfl ?_
  refine m_aload_n h dX1_allowsGreatest_1 rfl rfl ?_
  refine m_get h fo_X1_18 (by omega) (cE_row G _ hr) rfl dX1_allowsGreatest_2 ?_
  refine m_iload_n h dX1_allowsGreatest_5 rfl rfl ?_
  refine m_vI h (c_cov _ hG hsp _ (v.1 (40 + r) 2) z (by omega) (by omega) hm) moX5_covers voX5_covers lk_X1_75 dX1_allowsGreatest_6 (by decide) (isSp_lt hsp) (cE_sp hsp) rfl rfl (Nat.le_of_ble_eq_true rfl) (fun r1 u2 p3 => ?_)
  obtain ⟨hu9, hb1⟩ := p3
  rw [hu9]
  have hb1i := hb1.in
  refine m_if_eq h dX1_allowsGreatest_9 (tgt := 25) (by decide) (by omega) (fun c4 => ?_) (fun c4 => ?_)
  · skip
    refine m_aload_n h dX1_allowsGreatest_25 rfl rfl ?_
    refine m_aload_n h dX1_allowsGreatest_26 rfl rfl ?_
    refine m_get h fo_X1_21 (by omega) (cE_row G _ hr) rfl dX1_allowsGreatest_27 ?_
    refine m_iload_n h dX1_allowsGreatest_30 rfl rfl ?_
    refine m_vI h (c_cov _ hG hsp _ (v.1 (40 + r) 3) z (by omega) (by omega) hm) moX5_covers voX5_covers lk_X1_75 dX1_allowsGreatest_31 (by decide) (isSp_lt hsp) (cE_sp hsp) rfl rfl (Nat.le_of_ble_eq_true rfl) (fun r5 u6 p7 => ?_)
    obtain ⟨hu9, hb2⟩ := p7
    rw [hu9]
    have hb2i := hb2.in
    refine m_if_eq h dX1_allowsGreatest_34 (tgt := 54) (by decide) (by omega) (fun c8 => ?_) (fun c8 => ?_)
    · skip
      refine m_iconst h dX1_allowsGreatest_54 ?_
      refine m_zret h hR rfl dX1_allowsGreatest_55 (by omega) ?_
      refine ⟨rfl, ?_⟩
      rcases hb1 with ⟨e1, e2⟩ | ⟨e1, e2⟩ <;> first | (rcases hb2 with ⟨e3, e4⟩ | ⟨e3, e4⟩ <;> first | omega | (refine bz1 ?_; omega) | (refine bz0 ?_; omega)) | (first | omega | (refine bz1 ?_; omega) | (refine bz0 ?_; omega))
    · skip
      refine m_aload_n h dX1_allowsGreatest_37 rfl rfl ?_
      refine m_get h fo_X1_103 (isSp_lt hsp) (cE_sp hsp) rfl dX1_allowsGreatest_38 ?_
      refine m_aload_n h dX1_allowsGreatest_41 rfl rfl ?_
      refine m_get h fo_X1_18 (by omega) (cE_row G _ hr) rfl dX1_allowsGreatest_42 ?_
      refine m_iald h (ar_sp1 hsp) (by omega) (by omega) dX1_allowsGreatest_45 ?_
      refine m_iload_n h dX1_allowsGreatest_46 rfl rfl ?_
      refine m_icmp_gt h dX1_allowsGreatest_47 (tgt := 54) (by decide) (by omega) (by omega) (fun c9 => ?_) (fun c9 => ?_)
      · skip
        refine m_iconst h dX1_allowsGreatest_54 ?_
        refine m_zret h hR rfl dX1_allowsGreatest_55 (by omega) ?_
        refine ⟨rfl, ?_⟩
        rcases hb1 with ⟨e1, e2⟩ | ⟨e1, e2⟩ <;> first | (rcases hb2 with ⟨e3, e4⟩ | ⟨e3, e4⟩ <;> first | omega | (refine bz1 ?_; omega) | (refine bz0 ?_; omega)) | (first | omega | (refine bz1 ?_; omega) | (refine bz0 ?_; omega))
      · skip
        refine m_iconst h dX1_allowsGreatest_50 ?_
        refine m_goto h dX1_allowsGreatest_51 (tgt := 55) (by decide) ?_
        refine m_zret h hR rfl dX1_allowsGreatest_55 (by omega) ?_
        refine ⟨rfl, ?_⟩
        rcases hb1 with ⟨e1, e2⟩ | ⟨e1, e2⟩ <;> first | (rcases hb2 with ⟨e3, e4⟩ | ⟨e3, e4⟩ <;> first | omega | (refine bz1 ?_; omega) | (refine bz0 ?_; omega)) | (first | omega | (refine bz1 ?_; omega) | (refine bz0 ?_; omega))
  · skip
    refine m_aload_n h dX1_allowsGreatest_12 rfl rfl ?_
    refine m_get h fo_X1_103 (isSp_lt hsp) (cE_sp hsp) rfl dX1_allowsGreatest_13 ?_
    refine m_aload_n h dX1_allowsGreatest_16 rfl rfl ?_
    refine m_get h fo_X1_21 (by omega) (cE_row G _ hr) rfl dX1_allowsGreatest_17 ?_
    refine m_iald h (ar_sp1 hsp) (by omega) (by omega) dX1_allowsGreatest_20 ?_
    refine m_iload_n h dX1_allowsGreatest_21 rfl rfl ?_
    refine m_icmp_le h dX1_allowsGreatest_22 (tgt := 50) (by decide) (by omega) (by omega) (fun c10 => ?_) (fun c10 => ?_)
    · skip
      refine m_iconst h dX1_allowsGreatest_50 ?_
      refine m_goto h dX1_allowsGreatest_51 (tgt := 55) (by decide) ?_
      refine m_zret h hR rfl dX1_allowsGreatest_55 (by omega) ?_
      refine ⟨rfl, ?_⟩
      rcases hb1 with ⟨e1, e2⟩ | ⟨e1, e2⟩ <;> first | (rcases hb2 with ⟨e3, e4⟩ | ⟨e3, e4⟩ <;> first | omega | (refine bz1 ?_; omega) | (refine bz0 ?_; omega)) | (first | omega | (refine bz1 ?_; omega) | (refine bz0 ?_; omega))
    · skip
      refine m_aload_n h dX1_allowsGreatest_25 rfl rfl ?_
      refine m_aload_n h dX1_allowsGreatest_26 rfl rfl ?_
      refine m_get h fo_X1_21 (by omega) (cE_row G _ hr) rfl dX1_allowsGreatest_27 ?_
      refine m_iload_n h dX1_allowsGreatest_30 rfl rfl ?_
      refine m_vI h (c_cov _ hG hsp _ (v.1 (40 + r) 3) z (by omega) (by omega) hm) moX5_covers voX5_covers lk_X1_75 dX1_allowsGreatest_31 (by decide) (isSp_lt hsp) (cE_sp hsp) rfl rfl (Nat.le_of_ble_eq_true rfl) (fun r11 u12 p13 => ?_)
      obtain ⟨hu9, hb2⟩ := p13
      rw [hu9]
      have hb2i := hb2.in
      refine m_if_eq h dX1_allowsGreatest_34 (tgt := 54) (by decide) (by omega) (fun c14 => ?_) (fun c14 => ?_)
      · skip
        refine m_iconst h dX1_allowsGreatest_54 ?_
        refine m_zret h hR rfl dX1_allowsGreatest_55 (by omega) ?_
        refine ⟨rfl, ?_⟩
        rcases hb1 with ⟨e1, e2⟩ | ⟨e1, e2⟩ <;> first | (rcases hb2 with ⟨e3, e4⟩ | ⟨e3, e4⟩ <;> first | omega | (refine bz1 ?_; omega) | (refine bz0 ?_; omega)) | (first | omega | (refine bz1 ?_; omega) | (refine bz0 ?_; omega))
      · skip
        refine m_aload_n h dX1_allowsGreatest_37 rfl rfl ?_
        refine m_get h fo_X1_103 (isSp_lt hsp) (cE_sp hsp) rfl dX1_allowsGreatest_38 ?_
        refine m_aload_n h dX1_allowsGreatest_41 rfl rfl ?_
        refine m_get h fo_X1_18 (by omega) (cE_row G _ hr) rfl dX1_allowsGreatest_42 ?_
        refine m_iald h (ar_sp1 hsp) (by omega) (by omega) dX1_allowsGreatest_45 ?_
        refine m_iload_n h dX1_allowsGreatest_46 rfl rfl ?_
        refine m_icmp_gt h dX1_allowsGreatest_47 (tgt := 54) (by decide) (by omega) (by omega) (fun c15 => ?_) (fun c15 => ?_)
        · skip
          refine m_iconst h dX1_allowsGreatest_54 ?_
          refine m_zret h hR rfl dX1_allowsGreatest_55 (by omega) ?_
          refine ⟨rfl, ?_⟩
          rcases hb1 with ⟨e1, e2⟩ | ⟨e1, e2⟩ <;> first | (rcases hb2 with ⟨e3, e4⟩ | ⟨e3, e4⟩ <;> first | omega | (refine bz1 ?_; omega) | (refine bz0 ?_; omega)) | (first | omega | (refine bz1 ?_; omega) | (refine bz0 ?_; omega))
        · skip
          refine m_iconst h dX1_allowsGreatest_50 ?_
          refine m_goto h dX1_allowsGreatest_51 (tgt := 55) (by decide) ?_
          refine m_zret h hR rfl dX1_allowsGreatest_55 (by omega) ?_
          refine ⟨rfl, ?_⟩
          rcases hb1 with ⟨e1, e2⟩ | ⟨e1, e2⟩ <;> first | (rcases hb2 with ⟨e3, e4⟩ | ⟨e3, e4⟩ <;> first | omega | (refine bz1 ?_; omega) | (refine bz0 ?_; omega)) | (first | omega | (refine bz1 ?_; omega) | (refine bz0 ?_; omega))

set_option maxRecDepth 100000 in
set_option maxHeartbeats 4000000 in
theorem c_allowsLeast (l : Launch) {G : GT} (hG : gok G) (v : Mem) {r : Nat} (hr : r < 12) (hrw : RwOk v r) {si : Nat} (hsp : isSp si) (hm : SpOk v si) (z : Int) (hz : -32 ≤ z ∧ z ≤ 31) (hB : 0 ≤ (v.1 (40 + r) 2)) (hC : 0 ≤ (v.1 (40 + r) 3)) : CC l G nX1_allowsLeast 1 [.ref (G.2.1 (40 + r)), .int (iI z), .ref (G.2.1 si)] v (qI G (fun q u => u = v ∧ bz q ((v.1 (si + 1) (v.1 (40 + r) 2) ≤ z ∧ z ≤ v.1 (si + 2) (v.1 (40 + r) 2) ∧ v.1 (si + 2) (v.1 (40 + r) 3) ≥ z) ∨ (v.1 (si + 1) (v.1 (40 + r) 3) ≤ z ∧ z ≤ v.1 (si + 2) (v.1 (40 + r) 3) ∧ v.1 (si + 2) (v.1 (40 + r) 2) ≥ z)))) := by
  refine m_start (lv := [some (.ref (G.2.1 (40 + r))), some (.int (iI z)), some (.ref (G.2.1 si))]) hG (by decide +kernel) rfl (Nat.le_of_ble_eq_true rfl) ?_
  intro X hL h hR
  subst hL
  obtain ⟨k0, a0, b0, c0, R0, f0, -, -, -, -, -⟩ := hrw
  have hmB := hm (v.1 (40 + r) 2)
  have hmC := hm (v.1 (40 + r) 3)
  show M X G 3 v 0 [some (.ref (G.2.1 (40 + r))), some (.int (iI z)), some (.ref (G.2.1 si))] []
  refine m_aload_n h dX1_allowsLeast_0 rfl rfl ?_
  refine m_aload_n h dX1_allowsLeast_1 rfl rfl ?_
  refine m_get h fo_X1_18 (by omega) (cE_row G _ hr) rfl dX1_allowsLeast_2 ?_
  refine m_iload_n h dX1_allowsLeast_5 rfl rfl ?_
  refine m_vI h (c_cov _ hG hsp _ (v.1 (40 + r) 2) z (by omega) (by omega) hm) moX5_covers voX5_covers lk_X1_75 dX1_allowsLeast_6 (by decide) (isSp_lt hsp) (cE_sp hsp) rfl rfl (Nat.le_of_ble_eq_true rfl) (fun r1 u2 p3 => ?_)
  obtain ⟨hu9, hb1⟩ := p3
  rw [hu9]
  have hb1i := hb1.in
  refine m_if_eq h dX1_allowsLeast_9 (tgt := 25) (by decide) (by omega) (fun c4 => ?_) (fun c4 => ?_)
  · skip
    refine m_aload_n h dX1_allowsLeast_25 rfl rfl ?_
    refine m_aload_n h dX1_allowsLeast_26 rfl rfl ?_
    refine m_get h fo_X1_21 (by omega) (cE_row G _ hr) rfl dX1_allowsLeast_27 ?_
    refine m_iload_n h dX1_allowsLeast_30 rfl rfl ?_
    refine m_vI h (c_cov _ hG hsp _ (v.1 (40 + r) 3) z (by omega) (by omega) hm) moX5_covers voX5_covers lk_X1_75 dX1_allowsLeast_31 (by decide) (isSp_lt hsp) (cE_sp hsp) rfl rfl (Nat.le_of_ble_eq_true rfl) (fun r5 u6 p7 => ?_)
    obtain ⟨hu9, hb2⟩ := p7
    rw [hu9]
    have hb2i := hb2.in
    refine m_if_eq h dX1_allowsLeast_34 (tgt := 54) (by decide) (by omega) (fun c8 => ?_) (fun c8 => ?_)
    · skip
      refine m_iconst h dX1_allowsLeast_54 ?_
      refine m_zret h hR rfl dX1_allowsLeast_55 (by omega) ?_
      refine ⟨rfl, ?_⟩
      rcases hb1 with ⟨e1, e2⟩ | ⟨e1, e2⟩ <;> first | (rcases hb2 with ⟨e3, e4⟩ | ⟨e3, e4⟩ <;> first | omega | (refine bz1 ?_; omega) | (refine bz0 ?_; omega)) | (first | omega | (refine bz1 ?_; omega) | (refine bz0 ?_; omega))
    · skip
      refine m_aload_n h dX1_allowsLeast_37 rfl rfl ?_
      refine m_get h fo_X1_100 (isSp_lt hsp) (cE_sp hsp) rfl dX1_allowsLeast_38 ?_
      refine m_aload_n h dX1_allowsLeast_41 rfl rfl ?_
      refine m_get h fo_X1_18 (by omega) (cE_row G _ hr) rfl dX1_allowsLeast_42 ?_
      refine m_iald h (ar_sp2 hsp) (by omega) (by omega) dX1_allowsLeast_45 ?_
      refine m_iload_n h dX1_allowsLeast_46 rfl rfl ?_
      refine m_icmp_lt h dX1_allowsLeast_47 (tgt := 54) (by decide) (by omega) (by omega) (fun c9 => ?_) (fun c9 => ?_)
      · skip
        refine m_iconst h dX1_allowsLeast_54 ?_
        refine m_zret h hR rfl dX1_allowsLeast_55 (by omega) ?_
        refine ⟨rfl, ?_⟩
        rcases hb1 with ⟨e1, e2⟩ | ⟨e1, e2⟩ <;> first | (rcases hb2 with ⟨e3, e4⟩ | ⟨e3, e4⟩ <;> first | omega | (refine bz1 ?_; omega) | (refine bz0 ?_; omega)) | (first | omega | (refine bz1 ?_; omega) | (refine bz0 ?_; omega))
      · skip
        refine m_iconst h dX1_allowsLeast_50 ?_
        refine m_goto h dX1_allowsLeast_51 (tgt := 55) (by decide) ?_
        refine m_zret h hR rfl dX1_allowsLeast_55 (by omega) ?_
        refine ⟨rfl, ?_⟩
        rcases hb1 with ⟨e1, e2⟩ | ⟨e1, e2⟩ <;> first | (rcases hb2 with ⟨e3, e4⟩ | ⟨e3, e4⟩ <;> first | omega | (refine bz1 ?_; omega) | (refine bz0 ?_; omega)) | (first | omega | (refine bz1 ?_; omega) | (refine bz0 ?_; omega))
  · skip
    refine m_aload_n h dX1_allowsLeast_12 rfl rfl ?_
    refine m_get h fo_X1_100 (isSp_lt hsp) (cE_sp hsp) rfl dX1_allowsLeast_13 ?_
    refine m_aload_n h dX1_allowsLeast_16 rfl rfl ?_
    refine m_get h fo_X1_21 (by omega) (cE_row G _ hr) rfl dX1_allowsLeast_17 ?_
    refine m_iald h (ar_sp2 hsp) (by omega) (by omega) dX1_allowsLeast_20 ?_
    refine m_iload_n h dX1_allowsLeast_21 rfl rfl ?_
    refine m_icmp_ge h dX1_allowsLeast_22 (tgt := 50) (by decide) (by omega) (by omega) (fun c10 => ?_) (fun c10 => ?_)
    · skip
      refine m_iconst h dX1_allowsLeast_50 ?_
      refine m_goto h dX1_allowsLeast_51 (tgt := 55) (by decide) ?_
      refine m_zret h hR rfl dX1_allowsLeast_55 (by omega) ?_
      refine ⟨rfl, ?_⟩
      rcases hb1 with ⟨e1, e2⟩ | ⟨e1, e2⟩ <;> first | (rcases hb2 with ⟨e3, e4⟩ | ⟨e3, e4⟩ <;> first | omega | (refine bz1 ?_; omega) | (refine bz0 ?_; omega)) | (first | omega | (refine bz1 ?_; omega) | (refine bz0 ?_; omega))
    · skip
      refine m_aload_n h dX1_allowsLeast_25 rfl rfl ?_
      refine m_aload_n h dX1_allowsLeast_26 rfl rfl ?_
      refine m_get h fo_X1_21 (by omega) (cE_row G _ hr) rfl dX1_allowsLeast_27 ?_
      refine m_iload_n h dX1_allowsLeast_30 rfl rfl ?_
      refine m_vI h (c_cov _ hG hsp _ (v.1 (40 + r) 3) z (by omega) (by omega) hm) moX5_covers voX5_covers lk_X1_75 dX1_allowsLeast_31 (by decide) (isSp_lt hsp) (cE_sp hsp) rfl rfl (Nat.le_of_ble_eq_true rfl) (fun r11 u12 p13 => ?_)
      obtain ⟨hu9, hb2⟩ := p13
      rw [hu9]
      have hb2i := hb2.in
      refine m_if_eq h dX1_allowsLeast_34 (tgt := 54) (by decide) (by omega) (fun c14 => ?_) (fun c14 => ?_)
      · skip
        refine m_iconst h dX1_allowsLeast_54 ?_
        refine m_zret h hR rfl dX1_allowsLeast_55 (by omega) ?_
        refine ⟨rfl, ?_⟩
        rcases hb1 with ⟨e1, e2⟩ | ⟨e1, e2⟩ <;> first | (rcases hb2 with ⟨e3, e4⟩ | ⟨e3, e4⟩ <;> first | omega | (refine bz1 ?_; omega) | (refine bz0 ?_; omega)) | (first | omega | (refine bz1 ?_; omega) | (refine bz0 ?_; omega))
      · skip
        refine m_aload_n h dX1_allowsLeast_37 rfl rfl ?_
        refine m_get h fo_X1_100 (isSp_lt hsp) (cE_sp hsp) rfl dX1_allowsLeast_38 ?_
        refine m_aload_n h dX1_allowsLeast_41 rfl rfl ?_
        refine m_get h fo_X1_18 (by omega) (cE_row G _ hr) rfl dX1_allowsLeast_42 ?_
        refine m_iald h (ar_sp2 hsp) (by omega) (by omega) dX1_allowsLeast_45 ?_
        refine m_iload_n h dX1_allowsLeast_46 rfl rfl ?_
        refine m_icmp_lt h dX1_allowsLeast_47 (tgt := 54) (by decide) (by omega) (by omega) (fun c15 => ?_) (fun c15 => ?_)
        · skip
          refine m_iconst h dX1_allowsLeast_54 ?_
          refine m_zret h hR rfl dX1_allowsLeast_55 (by omega) ?_
          refine ⟨rfl, ?_⟩
          rcases hb1 with ⟨e1, e2⟩ | ⟨e1, e2⟩ <;> first | (rcases hb2 with ⟨e3, e4⟩ | ⟨e3, e4⟩ <;> first | omega | (refine bz1 ?_; omega) | (refine bz0 ?_; omega)) | (first | omega | (refine bz1 ?_; omega) | (refine bz0 ?_; omega))
        · skip
          refine m_iconst h dX1_allowsLeast_50 ?_
          refine m_goto h dX1_allowsLeast_51 (tgt := 55) (by decide) ?_
          refine m_zret h hR rfl dX1_allowsLeast_55 (by omega) ?_
          refine ⟨rfl, ?_⟩
          rcases hb1 with ⟨e1, e2⟩ | ⟨e1, e2⟩ <;> first | (rcases hb2 with ⟨e3, e4⟩ | ⟨e3, e4⟩ <;> first | omega | (refine bz1 ?_; omega) | (refine bz0 ?_; omega)) | (first | omega | (refine bz1 ?_; omega) | (refine bz0 ?_; omega))

set_option maxRecDepth 100000 in
set_option maxHeartbeats 4000000 in
theorem c_allowsBesideGreatest (l : Launch) {G : GT} (hG : gok G) (v : Mem) {r : Nat} (hr : r < 12) (hrw : RwOk v r) {si : Nat} (hsp : isSp si) (hm : SpOk v si) (z : Int) (hz : -32 ≤ z ∧ z ≤ 31) (w : Int) (hw : 0 ≤ w ∧ w < 8) (hA : 0 ≤ (v.1 (40 + r) 1)) : CC l G nX1_allowsBesideGreatest 2 [.ref (G.2.1 (40 + r)), .int (iI z), .int (iI w), .ref (G.2.1 si)] v (qI G (fun q u => u = v ∧ bz q (v.1 (si + 1) (v.1 (40 + r) 1) ≤ max z (v.1 (si + 2) w) ∧ max z (v.1 (si + 1) w) ≤ v.1 (si + 2) (v.1 (40 + r) 1)))) := by
  refine m_start (lv := [some (.ref (G.2.1 (40 + r))), some (.int (iI z)), some (.int (iI w)), some (.ref (G.2.1 si))]) hG (by decide +kernel) rfl (Nat.le_of_ble_eq_true rfl) ?_
  intro X hL h hR
  subst hL
  obtain ⟨k0, a0, b0, c0, R0, f0, -, -, -, -, -⟩ := hrw
  have hmA := hm (v.1 (40 + r) 1)
  have hmw := hm w
  show M X G 4 v 0 [some (.ref (G.2.1 (40 + r))), some (.int (iI z)), some (.int (iI w)), some (.ref (G.2.1 si))] []
  refine m_aload_n h dX1_allowsBesideGreatest_0 rfl rfl ?_
  refine m_aload_n h dX1_allowsBesideGreatest_1 rfl rfl ?_
  refine m_get h fo_X1_15 (by omega) (cE_row G _ hr) rfl dX1_allowsBesideGreatest_2 ?_
  refine m_iload_n h dX1_allowsBesideGreatest_5 rfl rfl ?_
  refine m_aload_n h dX1_allowsBesideGreatest_6 rfl rfl ?_
  refine m_get h fo_X1_103 (isSp_lt hsp) (cE_sp hsp) rfl dX1_allowsBesideGreatest_7 ?_
  refine m_iload_n h dX1_allowsBesideGreatest_10 rfl rfl ?_
  refine m_iald h (ar_sp1 hsp) (by omega) (by omega) dX1_allowsBesideGreatest_11 ?_
  refine m_max h lk_X1_49 dX1_allowsBesideGreatest_12 (by decide) (Nat.le_of_ble_eq_true rfl) (by omega) (by omega) ?_
  refine m_iload_n h dX1_allowsBesideGreatest_15 rfl rfl ?_
  refine m_aload_n h dX1_allowsBesideGreatest_16 rfl rfl ?_
  refine m_get h fo_X1_100 (isSp_lt hsp) (cE_sp hsp) rfl dX1_allowsBesideGreatest_17 ?_
  refine m_iload_n h dX1_allowsBesideGreatest_20 rfl rfl ?_
  refine m_iald h (ar_sp2 hsp) (by omega) (by omega) dX1_allowsBesideGreatest_21 ?_
  refine m_max h lk_X1_49 dX1_allowsBesideGreatest_22 (by decide) (Nat.le_of_ble_eq_true rfl) (by omega) (by omega) ?_
  refine m_vI h (c_meets _ hG hsp _ (v.1 (40 + r) 1) (max z (v.1 (si + 1) w)) (max z (v.1 (si + 2) w)) (by omega) (by omega) (by omega) hm) moX5_meets voX5_meets lk_X1_106 dX1_allowsBesideGreatest_25 (by decide) (isSp_lt hsp) (cE_sp hsp) rfl rfl (Nat.le_of_ble_eq_true rfl) (fun r1 u2 p3 => ?_)
  obtain ⟨hu9, hb⟩ := p3
  rw [hu9]
  have hbi := hb.in
  refine m_zret h hR rfl dX1_allowsBesideGreatest_28 hbi ?_
  refine ⟨rfl, ?_⟩
  rcases hb with ⟨e1, e2⟩ | ⟨e1, e2⟩
  · rw [e1]
    exact bz1 (by omega)
  · rw [e1]
    exact bz0 (by omega)

set_option maxRecDepth 100000 in
set_option maxHeartbeats 4000000 in
theorem c_allowsBesideLeast (l : Launch) {G : GT} (hG : gok G) (v : Mem) {r : Nat} (hr : r < 12) (hrw : RwOk v r) {si : Nat} (hsp : isSp si) (hm : SpOk v si) (z : Int) (hz : -32 ≤ z ∧ z ≤ 31) (w : Int) (hw : 0 ≤ w ∧ w < 8) (hA : 0 ≤ (v.1 (40 + r) 1)) : CC l G nX1_allowsBesideLeast 2 [.ref (G.2.1 (40 + r)), .int (iI z), .int (iI w), .ref (G.2.1 si)] v (qI G (fun q u => u = v ∧ bz q (v.1 (si + 1) (v.1 (40 + r) 1) ≤ min z (v.1 (si + 2) w) ∧ min z (v.1 (si + 1) w) ≤ v.1 (si + 2) (v.1 (40 + r) 1)))) := by
  refine m_start (lv := [some (.ref (G.2.1 (40 + r))), some (.int (iI z)), some (.int (iI w)), some (.ref (G.2.1 si))]) hG (by decide +kernel) rfl (Nat.le_of_ble_eq_true rfl) ?_
  intro X hL h hR
  subst hL
  obtain ⟨k0, a0, b0, c0, R0, f0, -, -, -, -, -⟩ := hrw
  have hmA := hm (v.1 (40 + r) 1)
  have hmw := hm w
  show M X G 4 v 0 [some (.ref (G.2.1 (40 + r))), some (.int (iI z)), some (.int (iI w)), some (.ref (G.2.1 si))] []
  refine m_aload_n h dX1_allowsBesideLeast_0 rfl rfl ?_
  refine m_aload_n h dX1_allowsBesideLeast_1 rfl rfl ?_
  refine m_get h fo_X1_15 (by omega) (cE_row G _ hr) rfl dX1_allowsBesideLeast_2 ?_
  refine m_iload_n h dX1_allowsBesideLeast_5 rfl rfl ?_
  refine m_aload_n h dX1_allowsBesideLeast_6 rfl rfl ?_
  refine m_get h fo_X1_103 (isSp_lt hsp) (cE_sp hsp) rfl dX1_allowsBesideLeast_7 ?_
  refine m_iload_n h dX1_allowsBesideLeast_10 rfl rfl ?_
  refine m_iald h (ar_sp1 hsp) (by omega) (by omega) dX1_allowsBesideLeast_11 ?_
  refine m_min h lk_X1_52 dX1_allowsBesideLeast_12 (by decide) (Nat.le_of_ble_eq_true rfl) (by omega) (by omega) ?_
  refine m_iload_n h dX1_allowsBesideLeast_15 rfl rfl ?_
  refine m_aload_n h dX1_allowsBesideLeast_16 rfl rfl ?_
  refine m_get h fo_X1_100 (isSp_lt hsp) (cE_sp hsp) rfl dX1_allowsBesideLeast_17 ?_
  refine m_iload_n h dX1_allowsBesideLeast_20 rfl rfl ?_
  refine m_iald h (ar_sp2 hsp) (by omega) (by omega) dX1_allowsBesideLeast_21 ?_
  refine m_min h lk_X1_52 dX1_allowsBesideLeast_22 (by decide) (Nat.le_of_ble_eq_true rfl) (by omega) (by omega) ?_
  refine m_vI h (c_meets _ hG hsp _ (v.1 (40 + r) 1) (min z (v.1 (si + 1) w)) (min z (v.1 (si + 2) w)) (by omega) (by omega) (by omega) hm) moX5_meets voX5_meets lk_X1_106 dX1_allowsBesideLeast_25 (by decide) (isSp_lt hsp) (cE_sp hsp) rfl rfl (Nat.le_of_ble_eq_true rfl) (fun r1 u2 p3 => ?_)
  obtain ⟨hu9, hb⟩ := p3
  rw [hu9]
  have hbi := hb.in
  refine m_zret h hR rfl dX1_allowsBesideLeast_28 hbi ?_
  refine ⟨rfl, ?_⟩
  rcases hb with ⟨e1, e2⟩ | ⟨e1, e2⟩
  · rw [e1]
    exact bz1 (by omega)
  · rw [e1]
    exact bz0 (by omega)

set_option maxRecDepth 100000 in
set_option maxHeartbeats 4000000 in
theorem c_allowsInCount (l : Launch) {G : GT} (hG : gok G) (v : Mem) {r : Nat} (hr : r < 12) (hrw : RwOk v r) {si : Nat} (hsp : isSp si) (hm : SpOk v si) (n : Int) (hn : 0 ≤ n ∧ n < 8) (z : Int) (hz : -32 ≤ z ∧ z ≤ 31) (p q : Int) (hp : 0 ≤ p ∧ p ≤ q) (hq : q ≤ 8) (hA : 0 ≤ (v.1 (40 + r) 1)) : CC l G nX1_allowsInCount 2 [.ref (G.2.1 (40 + r)), .int (iI n), .int (iI z), .ref (G.2.1 si), .int (iI p), .int (iI q)] v (qI G (fun qq u => u = v ∧ bz qq ((n = (v.1 (40 + r) 1) → p ≤ z ∧ z ≤ q) ∧ (n ≠ (v.1 (40 + r) 1) → z = (v.1 (40 + r) 4) → v.1 (si + 1) (v.1 (40 + r) 1) ≤ q + 1 ∧ p + 1 ≤ v.1 (si + 2) (v.1 (40 + r) 1)) ∧ (n ≠ (v.1 (40 + r) 1) → z ≠ (v.1 (40 + r) 4) → v.1 (si + 1) (v.1 (40 + r) 1) ≤ q ∧ p ≤ v.1 (si + 2) (v.1 (40 + r) 1))))) := by
  refine m_start (lv := [some (.ref (G.2.1 (40 + r))), some (.int (iI n)), some (.int (iI z)), some (.ref (G.2.1 si)), some (.int (iI p)), some (.int (iI q)), none]) hG (by decide +kernel) rfl (Nat.le_of_ble_eq_true rfl) ?_
  intro X hL h hR
  subst hL
  obtain ⟨k0, a0, b0, c0, R0, f0, -, -, -, -, -⟩ := hrw
  have hmA := hm (v.1 (40 + r) 1)
  show M X G 7 v 0 [some (.ref (G.2.1 (40 + r))), some (.int (iI n)), some (.int (iI z)), some (.ref (G.2.1 si)), some (.int (iI p)), some (.int (iI q)), none] []
  refine m_iload_n h dX1_allowsInCount_0 rfl rfl ?_
  refine m_aload_n h dX1_allowsInCount_1 rfl rfl ?_
  refine m_get h fo_X1_15 (by omega) (cE_row G _ hr) rfl dX1_allowsInCount_2 ?_
  refine m_icmp_ne h dX1_allowsInCount_5 (tgt := 26) (by decide) (by omega) (by omega) (fun c1 => ?_) (fun c1 => ?_)
  · skip
    refine m_iload_n h dX1_allowsInCount_26 rfl rfl ?_
    refine m_aload_n h dX1_allowsInCount_27 rfl rfl ?_
    refine m_get h fo_X1_24 (by omega) (cE_row G _ hr) rfl dX1_allowsInCount_28 ?_
    refine m_icmp_ne h dX1_allowsInCount_31 (tgt := 38) (by decide) (by omega) (by omega) (fun c2 => ?_) (fun c2 => ?_)
    · skip
      refine m_iconst h dX1_allowsInCount_38 ?_
      refine m_istore h dX1_allowsInCount_39 (by decide) rfl ?_
      refine m_aload_n h dX1_allowsInCount_41 rfl rfl ?_
      refine m_aload_n h dX1_allowsInCount_42 rfl rfl ?_
      refine m_get h fo_X1_15 (by omega) (cE_row G _ hr) rfl dX1_allowsInCount_43 ?_
      refine m_iload h dX1_allowsInCount_46 rfl ?_
      refine m_iload h dX1_allowsInCount_48 rfl ?_
      refine m_iadd h dX1_allowsInCount_50 ?_
      refine m_iload h dX1_allowsInCount_51 rfl ?_
      refine m_iload h dX1_allowsInCount_53 rfl ?_
      refine m_iadd h dX1_allowsInCount_55 ?_
      refine m_vI h (c_meets _ hG hsp _ (v.1 (40 + r) 1) (p + 0) (q + 0) (by omega) (by omega) (by omega) hm) moX5_meets voX5_meets lk_X1_106 dX1_allowsInCount_56 (by decide) (isSp_lt hsp) (cE_sp hsp) rfl rfl (Nat.le_of_ble_eq_true rfl) (fun r3 u4 p5 => ?_)
      obtain ⟨hu9, hb⟩ := p5
      rw [hu9]
      have hbi := hb.in
      refine m_zret h hR rfl dX1_allowsInCount_59 hbi ?_
      refine ⟨rfl, ?_⟩
      rcases hb with ⟨e1, e2⟩ | ⟨e1, e2⟩
      · rw [e1]
        exact bz1 (by omega)
      · rw [e1]
        exact bz0 (by omega)
    · skip
      refine m_iconst h dX1_allowsInCount_34 ?_
      refine m_goto h dX1_allowsInCount_35 (tgt := 39) (by decide) ?_
      refine m_istore h dX1_allowsInCount_39 (by decide) rfl ?_
      refine m_aload_n h dX1_allowsInCount_41 rfl rfl ?_
      refine m_aload_n h dX1_allowsInCount_42 rfl rfl ?_
      refine m_get h fo_X1_15 (by omega) (cE_row G _ hr) rfl dX1_allowsInCount_43 ?_
      refine m_iload h dX1_allowsInCount_46 rfl ?_
      refine m_iload h dX1_allowsInCount_48 rfl ?_
      refine m_iadd h dX1_allowsInCount_50 ?_
      refine m_iload h dX1_allowsInCount_51 rfl ?_
      refine m_iload h dX1_allowsInCount_53 rfl ?_
      refine m_iadd h dX1_allowsInCount_55 ?_
      refine m_vI h (c_meets _ hG hsp _ (v.1 (40 + r) 1) (p + 1) (q + 1) (by omega) (by omega) (by omega) hm) moX5_meets voX5_meets lk_X1_106 dX1_allowsInCount_56 (by decide) (isSp_lt hsp) (cE_sp hsp) rfl rfl (Nat.le_of_ble_eq_true rfl) (fun r6 u7 p8 => ?_)
      obtain ⟨hu9, hb⟩ := p8
      rw [hu9]
      have hbi := hb.in
      refine m_zret h hR rfl dX1_allowsInCount_59 hbi ?_
      refine ⟨rfl, ?_⟩
      rcases hb with ⟨e1, e2⟩ | ⟨e1, e2⟩
      · rw [e1]
        exact bz1 (by omega)
      · rw [e1]
        exact bz0 (by omega)
  · skip
    refine m_iload h dX1_allowsInCount_8 rfl ?_
    refine m_iload_n h dX1_allowsInCount_10 rfl rfl ?_
    refine m_icmp_gt h dX1_allowsInCount_11 (tgt := 24) (by decide) (by omega) (by omega) (fun c9 => ?_) (fun c9 => ?_)
    · skip
      refine m_iconst h dX1_allowsInCount_24 ?_
      refine m_zret h hR rfl dX1_allowsInCount_25 (by omega) ?_
      exact ⟨rfl, bz0 (by omega)⟩
    · skip
      refine m_iload_n h dX1_allowsInCount_14 rfl rfl ?_
      refine m_iload h dX1_allowsInCount_15 rfl ?_
      refine m_icmp_gt h dX1_allowsInCount_17 (tgt := 24) (by decide) (by omega) (by omega) (fun c10 => ?_) (fun c10 => ?_)
      · skip
        refine m_iconst h dX1_allowsInCount_24 ?_
        refine m_zret h hR rfl dX1_allowsInCount_25 (by omega) ?_
        exact ⟨rfl, bz0 (by omega)⟩
      · skip
        refine m_iconst h dX1_allowsInCount_20 ?_
        refine m_goto h dX1_allowsInCount_21 (tgt := 25) (by decide) ?_
        refine m_zret h hR rfl dX1_allowsInCount_25 (by omega) ?_
        exact ⟨rfl, bz1 (by omega)⟩
