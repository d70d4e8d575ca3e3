theorem sp_rg {v : Mem} {si : Nat} (h : SpOk v si) (x : Int) : (-32 ≤ v.1 (si + 1) x ∧ v.1 (si + 1) x ≤ 31) ∧ (-32 ≤ v.1 (si + 2) x ∧ v.1 (si + 2) x ≤ 31) := by
  have := h x
  omega
section CallF
variable {G : GT} {v : Mem} {lv : List (Option Value)}
theorem m_startF {l : Launch} {y : MN} {d : Nat} {As : List Value} {Q : Array Value → State → Outcome → State → Prop} (hG : gok G) (hy : plainFor y.1 = true) (hlv : lvl lv = lv_args 0 As) (hln : (lg_sl As).length ≤ y.2.2.1) (body : ∀ X : CX, x_l X = l → Ok X G y.2.2.1 y.2.1 y.1.cls d → Ret X G y Q → M X G y.2.2.1 v 0 lv []) : CC l G y d As v Q := by
  refine va_MetF (cc := y.2.1) (maxL := y.2.2.1) (ret := y.2.2.2) hy rfl ?_
  intro p e s m args below meth c s₁ B hml hv
  obtain ⟨rfl, hP, hK, hN⟩ := hv
  have hts := atoms_spec (ws := wM y.1 y.2.1 y.2.2.1 y.2.2.2) B.pre
  have hb := body (p, l, e, rmL d, s, m, As.toArray, below, meth, c, 0, 0, MQ below Q As.toArray s 0 0 (aW G), aW G) rfl ⟨B.exec, B.bytes, hml, findClass_of_methodNamed B.named, fun w hw => hts w (List.mem_cons_of_mem _ hw), hK, hN, hG, fun i hi => ⟨i, hi, rfl⟩, B.notSynchronized, ⟨Nat.le_refl _, Nat.le_refl _⟩, ⟨Nat.le_refl _, Nat.le_refl _⟩⟩ ⟨B.returns, rfl, rfl⟩ s.heap [] _ hP va_S.rf (by rw [hlv]; exact lv_entry As hln)
  rw [lg_entry_eq]
  exact hb
end CallF

set_option maxRecDepth 100000 in
set_option maxHeartbeats 4000000 in
theorem c_floorDiv (l : Launch) {G : GT} (hG : gok G) (v : Mem) (a b : Int) (ha : -1000000 ≤ a ∧ a ≤ 1000000) (hb : -1000000 ≤ b ∧ b ≤ 1000000) (h0 : b ≠ 0) : CC l G nJ9_floorDiv_7cf53 0 [.int (iI a), .int (iI b)] v (qI G (fun z u => u = v ∧ z = fd a b)) := by
  refine m_startF (lv := [some (.int (iI a)), some (.int (iI b)), none]) hG (by decide +kernel) rfl (Nat.le_of_ble_eq_true rfl) ?_
  intro X hL h hR
  subst hL
  have t1 := tdiv_rg ha hb h0
  have x1 := xsgn (a := a) (b := b) (by omega) (by omega)
  show M X G 3 v 0 [some (.int (iI a)), some (.int (iI b)), none] []
  refine m_iload_n h dJ9_floorDiv_7cf53_0 rfl rfl ?_
  refine m_iload_n h dJ9_floorDiv_7cf53_1 rfl rfl ?_
  refine m_idiv h dJ9_floorDiv_7cf53_2 (by omega) (by omega) (by omega) ?_
  refine m_istore_n h dJ9_floorDiv_7cf53_3 rfl (by decide) rfl ?_
  refine m_iload_n h dJ9_floorDiv_7cf53_4 rfl rfl ?_
  refine m_iload_n h dJ9_floorDiv_7cf53_5 rfl rfl ?_
  refine m_ixor h dJ9_floorDiv_7cf53_6 (c := (iI a ^^^ iI b).toInt) (iI_of _) ?_
  refine m_if_ge h dJ9_floorDiv_7cf53_7 (tgt := 21) (by decide) (iI_rg _) (fun c1 => ?_) (fun c1 => ?_)
  · skip
    refine m_iload_n h dJ9_floorDiv_7cf53_21 rfl rfl ?_
    refine m_iret h hR rfl dJ9_floorDiv_7cf53_22 ?_
    refine ⟨rfl, ?_⟩
    rw [fd_java h0]
    rw [if_neg (by omega)]
  · skip
    refine m_iload_n h dJ9_floorDiv_7cf53_10 rfl rfl ?_
    refine m_iload_n h dJ9_floorDiv_7cf53_11 rfl rfl ?_
    refine m_imul h dJ9_floorDiv_7cf53_12 ?_
    refine m_iload_n h dJ9_floorDiv_7cf53_13 rfl rfl ?_
    refine m_icmp_eq h dJ9_floorDiv_7cf53_14 (tgt := 21) (by decide) (by omega) (by omega) (fun c2 => ?_) (fun c2 => ?_)
    · skip
      refine m_iload_n h dJ9_floorDiv_7cf53_21 rfl rfl ?_
      refine m_iret h hR rfl dJ9_floorDiv_7cf53_22 ?_
      refine ⟨rfl, ?_⟩
      rw [fd_java h0]
      rw [if_neg (by omega)]
    · skip
      refine m_iload_n h dJ9_floorDiv_7cf53_17 rfl rfl ?_
      refine m_iconst h dJ9_floorDiv_7cf53_18 ?_
      refine m_isub h dJ9_floorDiv_7cf53_19 ?_
      refine m_iret h hR rfl dJ9_floorDiv_7cf53_20 ?_
      refine ⟨rfl, ?_⟩
      rw [fd_java h0]
      rw [if_pos ⟨by omega, by omega⟩]

set_option maxRecDepth 100000 in
set_option maxHeartbeats 4000000 in
theorem c_cov (l : Launch) {G : GT} (hG : gok G) {si : Nat} (hsp : isSp si) (v : Mem) (n z : Int) (hn : 0 ≤ n ∧ n < 8) (hz : -2147483648 ≤ z ∧ z ≤ 2147483647) (hm : SpOk v si) : CC l G nX5_covers 0 [.ref (G.2.1 si), .int (iI n), .int (iI z)] v (qI G (fun r u => u = v ∧ bz r (v.1 (si + 1) n ≤ z ∧ z ≤ v.1 (si + 2) n))) := by
  refine m_start (lv := [some (.ref (G.2.1 si)), some (.int (iI n)), some (.int (iI z))]) hG (by decide +kernel) rfl (Nat.le_of_ble_eq_true rfl) ?_
  intro X hL h hR
  subst hL
  have h1 := hm n
  show M X G 3 v 0 [some (.ref (G.2.1 si)), some (.int (iI n)), some (.int (iI z))] []
  refine m_aload_n h dX5_covers_0 rfl rfl ?_
  refine m_get h fo_X5_9 (isSp_lt hsp) (cE_sp hsp) rfl dX5_covers_1 ?_
  refine m_iload_n h dX5_covers_4 rfl rfl ?_
  refine m_iald h (ar_sp1 hsp) (by omega) (by omega) dX5_covers_5 ?_
  refine m_iload_n h dX5_covers_6 rfl rfl ?_
  refine m_icmp_gt h dX5_covers_7 (tgt := 24) (by decide) (by omega) (by omega) (fun c1 => ?_) (fun c1 => ?_)
  · skip
    refine m_iconst h dX5_covers_24 ?_
    refine m_zret h hR rfl dX5_covers_25 (by omega) ?_
    exact ⟨rfl, bz0 (by omega)⟩
  · skip
    refine m_iload_n h dX5_covers_10 rfl rfl ?_
    refine m_aload_n h dX5_covers_11 rfl rfl ?_
    refine m_get h fo_X5_15 (isSp_lt hsp) (cE_sp hsp) rfl dX5_covers_12 ?_
    refine m_iload_n h dX5_covers_15 rfl rfl ?_
    refine m_iald h (ar_sp2 hsp) (by omega) (by omega) dX5_covers_16 ?_
    refine m_icmp_gt h dX5_covers_17 (tgt := 24) (by decide) (by omega) (by omega) (fun c2 => ?_) (fun c2 => ?_)
    · skip
      refine m_iconst h dX5_covers_24 ?_
      refine m_zret h hR rfl dX5_covers_25 (by omega) ?_
      exact ⟨rfl, bz0 (by omega)⟩
    · skip
      refine m_iconst h dX5_covers_20 ?_
      refine m_goto h dX5_covers_21 (tgt := 25) (by decide) ?_
      refine m_zret h hR rfl dX5_covers_25 (by omega) ?_
      exact ⟨rfl, bz1 (by omega)⟩

set_option maxRecDepth 100000 in
set_option maxHeartbeats 4000000 in
theorem c_onl (l : Launch) {G : GT} (hG : gok G) {si : Nat} (hsp : isSp si) (v : Mem) (n z : Int) (hn : 0 ≤ n ∧ n < 8) (hz : -2147483648 ≤ z ∧ z ≤ 2147483647) (hm : SpOk v si) : CC l G nX5_isOnly 0 [.ref (G.2.1 si), .int (iI n), .int (iI z)] v (qI G (fun r u => u = v ∧ bz r (v.1 (si + 1) n = z ∧ v.1 (si + 2) n = z))) := by
  refine m_start (lv := [some (.ref (G.2.1 si)), some (.int (iI n)), some (.int (iI z))]) hG (by decide +kernel) rfl (Nat.le_of_ble_eq_true rfl) ?_
  intro X hL h hR
  subst hL
  have h1 := hm n
  show M X G 3 v 0 [some (.ref (G.2.1 si)), some (.int (iI n)), some (.int (iI z))] []
  refine m_aload_n h dX5_isOnly_0 rfl rfl ?_
  refine m_get h fo_X5_9 (isSp_lt hsp) (cE_sp hsp) rfl dX5_isOnly_1 ?_
  refine m_iload_n h dX5_isOnly_4 rfl rfl ?_
  refine m_iald h (ar_sp1 hsp) (by omega) (by omega) dX5_isOnly_5 ?_
  refine m_iload_n h dX5_isOnly_6 rfl rfl ?_
  refine m_icmp_ne h dX5_isOnly_7 (tgt := 24) (by decide) (by omega) (by omega) (fun c1 => ?_) (fun c1 => ?_)
  · skip
    refine m_iconst h dX5_isOnly_24 ?_
    refine m_zret h hR rfl dX5_isOnly_25 (by omega) ?_
    exact ⟨rfl, bz0 (by omega)⟩
  · skip
    refine m_aload_n h dX5_isOnly_10 rfl rfl ?_
    refine m_get h fo_X5_15 (isSp_lt hsp) (cE_sp hsp) rfl dX5_isOnly_11 ?_
    refine m_iload_n h dX5_isOnly_14 rfl rfl ?_
    refine m_iald h (ar_sp2 hsp) (by omega) (by omega) dX5_isOnly_15 ?_
    refine m_iload_n h dX5_isOnly_16 rfl rfl ?_
    refine m_icmp_ne h dX5_isOnly_17 (tgt := 24) (by decide) (by omega) (by omega) (fun c2 => ?_) (fun c2 => ?_)
    · skip
      refine m_iconst h dX5_isOnly_24 ?_
      refine m_zret h hR rfl dX5_isOnly_25 (by omega) ?_
      exact ⟨rfl, bz0 (by omega)⟩
    · skip
      refine m_iconst h dX5_isOnly_20 ?_
      refine m_goto h dX5_isOnly_21 (tgt := 25) (by decide) ?_
      refine m_zret h hR rfl dX5_isOnly_25 (by omega) ?_
      exact ⟨rfl, bz1 (by omega)⟩

set_option maxRecDepth 100000 in
set_option maxHeartbeats 4000000 in
theorem c_allowsProduct (l : Launch) {G : GT} (hG : gok G) (v : Mem) {r : Nat} (hr : r < 12) (hrw : RwOk v r) {si : Nat} (hsp : isSp si) (hm : SpOk v si) (z : Int) (hz : -32 ≤ z ∧ z ≤ 31) (hB : 0 ≤ (v.1 (40 + r) 2)) (hC : 0 ≤ (v.1 (40 + r) 3)) : CC l G nX1_allowsProduct 1 [.ref (G.2.1 (40 + r)), .int (iI z), .ref (G.2.1 si)] v (qI G (fun q u => u = v ∧ bz q (∃ x y, v.1 (si + 1) (v.1 (40 + r) 2) ≤ x ∧ x ≤ v.1 (si + 2) (v.1 (40 + r) 2) ∧ v.1 (si + 1) (v.1 (40 + r) 3) ≤ y ∧ y ≤ v.1 (si + 2) (v.1 (40 + r) 3) ∧ x * y = z))) := by
  refine m_start (lv := [some (.ref (G.2.1 (40 + r))), some (.int (iI z)), some (.ref (G.2.1 si)), none]) hG (by decide +kernel) rfl (Nat.le_of_ble_eq_true rfl) ?_
  intro X hL h hR
  subst hL
  obtain ⟨k0, a0, b0, c0, R0, f0, -, -, -, -, -⟩ := hrw
  have hmB := hm (v.1 (40 + r) 2)
  have hmC := hm (v.1 (40 + r) 3)
  show M X G 4 v 0 [some (.ref (G.2.1 (40 + r))), some (.int (iI z)), some (.ref (G.2.1 si)), none] []
  refine m_aload_n h dX1_allowsProduct_0 rfl rfl ?_
  refine m_get h fo_X1_103 (isSp_lt hsp) (cE_sp hsp) rfl dX1_allowsProduct_1 ?_
  refine m_aload_n h dX1_allowsProduct_4 rfl rfl ?_
  refine m_get h fo_X1_18 (by omega) (cE_row G _ hr) rfl dX1_allowsProduct_5 ?_
  refine m_iald h (ar_sp1 hsp) (by omega) (by omega) dX1_allowsProduct_8 ?_
  refine m_istore_n h dX1_allowsProduct_9 rfl (by decide) rfl ?_
  have lp10 : ∀ (fuel : Nat) (x : Int), v.1 (si + 1) (v.1 (40 + r) 2) ≤ x → x ≤ v.1 (si + 2) (v.1 (40 + r) 2) + 1 → (∀ x1 y : Int, v.1 (si + 1) (v.1 (40 + r) 2) ≤ x1 → x1 < x → v.1 (si + 1) (v.1 (40 + r) 3) ≤ y → y ≤ v.1 (si + 2) (v.1 (40 + r) 3) → x1 * y ≠ z) → (33 - x).toNat < fuel → M X G 4 v 10 [some (.ref (G.2.1 (40 + r))), some (.int (iI z)), some (.ref (G.2.1 si)), some (.int (iI x))] [] := by
    intro fuel
    induction fuel with
    | zero => intro x hx1 hx2 hno hf; exfalso; omega
    | succ fuel ih =>
      intro x hx1 hx2 hno hf
      refine m_iload_n h dX1_allowsProduct_10 rfl rfl ?_
      refine m_aload_n h dX1_allowsProduct_11 rfl rfl ?_
      refine m_get h fo_X1_100 (isSp_lt hsp) (cE_sp hsp) rfl dX1_allowsProduct_12 ?_
      refine m_aload_n h dX1_allowsProduct_15 rfl rfl ?_
      refine m_get h fo_X1_18 (by omega) (cE_row G _ hr) rfl dX1_allowsProduct_16 ?_
      refine m_iald h (ar_sp2 hsp) (by omega) (by omega) dX1_allowsProduct_19 ?_
      refine m_icmp_gt h dX1_allowsProduct_20 (tgt := 62) (by decide) (by omega) (by omega) (fun c1 => ?_) (fun c1 => ?_)
      · skip
        refine m_iconst h dX1_allowsProduct_62 ?_
        refine m_zret h hR rfl dX1_allowsProduct_63 (by omega) ?_
        refine ⟨rfl, bz0 ?_⟩
        rintro ⟨x1, y, q1, q2, q3, q4, q5⟩
        exact hno x1 y q1 (by omega) q3 q4 q5
      · skip
        refine m_iload_n h dX1_allowsProduct_23 rfl rfl ?_
        refine m_if_ne h dX1_allowsProduct_24 (tgt := 34) (by decide) (by omega) (fun c2 => ?_) (fun c2 => ?_)
        · skip
          refine m_iload_n h dX1_allowsProduct_34 rfl rfl ?_
          refine m_iload_n h dX1_allowsProduct_35 rfl rfl ?_
          refine m_irem h dX1_allowsProduct_36 (by omega) (by omega) (by omega) ?_
          refine m_if_ne h dX1_allowsProduct_37 (tgt := 56) (by decide) (by have := tmod_sg (a := z) (b := x) (by omega); omega) (fun c3 => ?_) (fun c3 => ?_)
          · skip
            refine m_iinc h dX1_allowsProduct_56 rfl (by decide) rfl ?_
            refine m_goto h dX1_allowsProduct_59 (tgt := 10) (by decide) ?_
            refine ih (x + 1) (by omega) (by omega) (fun x1 y q1 q2 q3 q4 q5 => ?_) (by omega)
            by_cases hx1 : x1 < x
            · exact hno x1 y q1 hx1 q3 q4 q5
            · obtain rfl : x1 = x := by omega
              first
                | (have q6 : x1 = 0 := by omega
                   rw [q6, Int.zero_mul] at q5; omega)
                | (have q6 := pd (p := z) (x := x1) (y := y) (by omega) q5; omega)
                | (have q6 := pd (p := z) (x := x1) (y := y) (by omega) q5
                   rw [q6.2] at hb
                   exact hb.no (by omega) ⟨q3, q4⟩)
          · skip
            refine m_aload_n h dX1_allowsProduct_40 rfl rfl ?_
            refine m_aload_n h dX1_allowsProduct_41 rfl rfl ?_
            refine m_get h fo_X1_21 (by omega) (cE_row G _ hr) rfl dX1_allowsProduct_42 ?_
            refine m_iload_n h dX1_allowsProduct_45 rfl rfl ?_
            refine m_iload_n h dX1_allowsProduct_46 rfl rfl ?_
            refine m_idiv h dX1_allowsProduct_47 (by omega) (by omega) (by omega) ?_
            have hq : -2147483648 ≤ z.tdiv x ∧ z.tdiv x ≤ 2147483647 := by
              have q1 := Int.natAbs_tdiv_le_natAbs z x
              omega
            refine m_vI h (c_cov _ hG hsp _ (v.1 (40 + r) 3) (z.tdiv x) (by omega) hq hm) moX5_covers voX5_covers lk_X1_75 dX1_allowsProduct_48 (by decide) (isSp_lt hsp) (cE_sp hsp) rfl rfl (Nat.le_of_ble_eq_true rfl) (fun r4 u5 p6 => ?_)
            obtain ⟨rfl, hb⟩ := p6
            have hbi := hb.in
            refine m_if_eq h dX1_allowsProduct_51 (tgt := 56) (by decide) (by omega) (fun c7 => ?_) (fun c7 => ?_)
            · skip
              refine m_iinc h dX1_allowsProduct_56 rfl (by decide) rfl ?_
              refine m_goto h dX1_allowsProduct_59 (tgt := 10) (by decide) ?_
              refine ih (x + 1) (by omega) (by omega) (fun x1 y q1 q2 q3 q4 q5 => ?_) (by omega)
              by_cases hx1 : x1 < x
              · exact hno x1 y q1 hx1 q3 q4 q5
              · obtain rfl : x1 = x := by omega
                first
                  | (have q6 : x1 = 0 := by omega
                     rw [q6, Int.zero_mul] at q5; omega)
                  | (have q6 := pd (p := z) (x := x1) (y := y) (by omega) q5; omega)
                  | (have q6 := pd (p := z) (x := x1) (y := y) (by omega) q5
                     rw [q6.2] at hb
                     exact hb.no (by omega) ⟨q3, q4⟩)
            · skip
              refine m_iconst h dX1_allowsProduct_54 ?_
              refine m_zret h hR rfl dX1_allowsProduct_55 (by omega) ?_
              refine ⟨rfl, bz1 ?_⟩
              first
                | (refine ⟨x, v.1 (si + 1) (v.1 (40 + r) 3), by omega, by omega, by omega, by omega, ?_⟩
                   rw [show x = 0 by omega, Int.zero_mul]; omega)
                | (have q6 := hb.yes (by omega)
                   exact ⟨x, z.tdiv x, by omega, by omega, q6.1, q6.2, pd' (by omega)⟩)
        · skip
          refine m_iload_n h dX1_allowsProduct_27 rfl rfl ?_
          refine m_if_ne h dX1_allowsProduct_28 (tgt := 56) (by decide) (by omega) (fun c8 => ?_) (fun c8 => ?_)
          · skip
            refine m_iinc h dX1_allowsProduct_56 rfl (by decide) rfl ?_
            refine m_goto h dX1_allowsProduct_59 (tgt := 10) (by decide) ?_
            refine ih (x + 1) (by omega) (by omega) (fun x1 y q1 q2 q3 q4 q5 => ?_) (by omega)
            by_cases hx1 : x1 < x
            · exact hno x1 y q1 hx1 q3 q4 q5
            · obtain rfl : x1 = x := by omega
              first
                | (have q6 : x1 = 0 := by omega
                   rw [q6, Int.zero_mul] at q5; omega)
                | (have q6 := pd (p := z) (x := x1) (y := y) (by omega) q5; omega)
                | (have q6 := pd (p := z) (x := x1) (y := y) (by omega) q5
                   rw [q6.2] at hb
                   exact hb.no (by omega) ⟨q3, q4⟩)
          · skip
            refine m_goto h dX1_allowsProduct_31 (tgt := 54) (by decide) ?_
            refine m_iconst h dX1_allowsProduct_54 ?_
            refine m_zret h hR rfl dX1_allowsProduct_55 (by omega) ?_
            refine ⟨rfl, bz1 ?_⟩
            first
              | (refine ⟨x, v.1 (si + 1) (v.1 (40 + r) 3), by omega, by omega, by omega, by omega, ?_⟩
                 rw [show x = 0 by omega, Int.zero_mul]; omega)
              | (have q6 := hb.yes (by omega)
                 exact ⟨x, z.tdiv x, by omega, by omega, q6.1, q6.2, pd' (by omega)⟩)
  exact lp10 100 _ (by omega) (by omega) (fun x1 y q1 q2 q3 q4 q5 => by omega) (by omega)
