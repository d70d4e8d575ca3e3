/-! the model: its small methods -/
def mN (a : Int) : Int := if a = -1 then -1000 else a
/-- what is known of a row -/
def RwG (g : Cfg) (r : Nat) : Prop := (0 ≤ g_a g r 0 ∧ g_a g r 0 ≤ 9) ∧ (-1 ≤ g_a g r 1 ∧ g_a g r 1 ≤ 7) ∧ (-1 ≤ g_a g r 2 ∧ g_a g r 2 ≤ 7) ∧ (-1 ≤ g_a g r 3 ∧ g_a g r 3 ≤ 7) ∧ (-1000 ≤ g_a g r 4 ∧ g_a g r 4 ≤ 1000) ∧ (∀ x, -9 ≤ g_f g r x ∧ g_f g r x ≤ 9) ∧ NmR g r ∧ ∀ x, AbR g r x → 0 ≤ x → x < g_n g
def RwM (g : Cfg) (r : Nat) (v : Mem) : Prop := v.1 28 (r : Int) = g_a g r 0 ∧ v.1 29 (3 * (r : Int)) = mN (g_a g r 1) ∧ v.1 29 (3 * (r : Int) + 1) = mN (g_a g r 2) ∧ v.1 29 (3 * (r : Int) + 2) = mN (g_a g r 3) ∧ v.1 30 (r : Int) = g_a g r 4 ∧ ∀ x, 0 ≤ x → x < 8 → v.1 31 (8 * (r : Int) + x) = g_f g r x
theorem mN_eq {a x : Int} (ha : -1 ≤ a) (hx : 0 ≤ x) : mN a = x ↔ a = x := by unfold mN; split <;> omega
theorem mN_nn {a : Int} (ha : 0 ≤ a) : mN a = a := by unfold mN; rw [if_neg (by omega)]
theorem mN_rg {a : Int} (ha : -1 ≤ a ∧ a ≤ 7) : -1000 ≤ mN a ∧ mN a ≤ 7 := by unfold mN; split <;> omega
/-- the bounds on trial -/
def LHr (c : Int) (v : Mem) : Prop := ∀ x, 0 ≤ x → x < c → (-32 ≤ v.1 38 x ∧ v.1 38 x ≤ 31) ∧ -32 ≤ v.1 39 x ∧ v.1 39 x ≤ 31

set_option maxRecDepth 100000 in
set_option maxHeartbeats 4000000 in
theorem m_in (l : Launch) {G : GT} (hG : gok G) (v : Mem) (a b c : Int) (ha : -2147483648 ≤ a ∧ a ≤ 2147483647)(hb : -2147483648 ≤ b ∧ b ≤ 2147483647)(hc : -2147483648 ≤ c ∧ c ≤ 2147483647) : CC l G nX8_in 0 [.int (iI a), .int (iI b), .int (iI c)] v (qI G (fun r u => u = v ∧ bz r (b ≤ a ∧ a ≤ c))) := by
  refine m_start (lv := [some (.int (iI a)), some (.int (iI b)), some (.int (iI c))]) hG (by decide +kernel) rfl (Nat.le_of_ble_eq_true rfl) ?_
  intro X hL h hR
  subst hL
  show M X G 3 v 0 [some (.int (iI a)), some (.int (iI b)), some (.int (iI c))] []
  refine m_iload_n h dX8_in_0 rfl rfl ?_
  refine m_iload_n h dX8_in_1 rfl rfl ?_
  refine m_icmp_lt h dX8_in_2 (tgt := 14) (by decide) (by omega) (by omega) (fun c1 => ?_) (fun c1 => ?_)
  · skip
    refine m_iconst h dX8_in_14 ?_
    refine m_zret h hR rfl dX8_in_15 (by omega) ?_
    exact ⟨rfl, bz0 (by omega)⟩
  · skip
    refine m_iload_n h dX8_in_5 rfl rfl ?_
    refine m_iload_n h dX8_in_6 rfl rfl ?_
    refine m_icmp_gt h dX8_in_7 (tgt := 14) (by decide) (by omega) (by omega) (fun c2 => ?_) (fun c2 => ?_)
    · skip
      refine m_iconst h dX8_in_14 ?_
      refine m_zret h hR rfl dX8_in_15 (by omega) ?_
      exact ⟨rfl, bz0 (by omega)⟩
    · skip
      refine m_iconst h dX8_in_10 ?_
      refine m_goto h dX8_in_11 (tgt := 15) (by decide) ?_
      refine m_zret h hR rfl dX8_in_15 (by omega) ?_
      exact ⟨rfl, bz1 (by omega)⟩

set_option maxRecDepth 100000 in
set_option maxHeartbeats 4000000 in
theorem m_isName (l : Launch) {G : GT} (hG : gok G) (v : Mem) (n : Int) (hn : -2147483648 ≤ n ∧ n ≤ 2147483647) (hc : 0 ≤ v.1 25 0 ∧ v.1 25 0 ≤ 8) : CC l G nX8_isName 1 [.ref (G.2.1 25), .int (iI n)] v (qI G (fun r u => u = v ∧ bz r (0 ≤ n ∧ n < v.1 25 0))) := by
  refine m_start (lv := [some (.ref (G.2.1 25)), some (.int (iI n))]) hG (by decide +kernel) rfl (Nat.le_of_ble_eq_true rfl) ?_
  intro X hL h hR
  subst hL
  show M X G 2 v 0 [some (.ref (G.2.1 25)), some (.int (iI n))] []
  refine m_iload_n h dX8_isName_0 rfl rfl ?_
  refine m_iconst h dX8_isName_1 ?_
  refine m_aload_n h dX8_isName_2 rfl rfl ?_
  refine m_get h fo_X8_57 (by decide) rfl rfl dX8_isName_3 ?_
  refine m_iconst h dX8_isName_6 ?_
  refine m_isub h dX8_isName_7 ?_
  refine m_sI h (m_in _ hG _ n 0 (v.1 25 0 - 1) (by omega) (by omega) (by omega)) moX8_in stX8_in lk_X8_60 dX8_isName_8 (by decide) rfl rfl (Nat.le_of_ble_eq_true rfl) (fun r1 u2 p3 => ?_)
  obtain ⟨hu9, hb⟩ := p3
  rw [hu9]
  have hbi := hb.in
  refine m_zret h hR rfl dX8_isName_11 (by omega) ?_
  exact ⟨rfl, hb.iff (by omega)⟩

set_option maxRecDepth 100000 in
set_option maxHeartbeats 4000000 in
theorem m_isRow (l : Launch) {G : GT} (hG : gok G) (v : Mem) (n : Int) (hn : -2147483648 ≤ n ∧ n ≤ 2147483647) (hc : 0 ≤ v.1 25 1 ∧ v.1 25 1 ≤ 12) : CC l G nX8_isRow 1 [.ref (G.2.1 25), .int (iI n)] v (qI G (fun r u => u = v ∧ bz r (0 ≤ n ∧ n < v.1 25 1))) := by
  refine m_start (lv := [some (.ref (G.2.1 25)), some (.int (iI n))]) hG (by decide +kernel) rfl (Nat.le_of_ble_eq_true rfl) ?_
  intro X hL h hR
  subst hL
  show M X G 2 v 0 [some (.ref (G.2.1 25)), some (.int (iI n))] []
  refine m_iload_n h dX8_isRow_0 rfl rfl ?_
  refine m_iconst h dX8_isRow_1 ?_
  refine m_aload_n h dX8_isRow_2 rfl rfl ?_
  refine m_get h fo_X8_64 (by decide) rfl rfl dX8_isRow_3 ?_
  refine m_iconst h dX8_isRow_6 ?_
  refine m_isub h dX8_isRow_7 ?_
  refine m_sI h (m_in _ hG _ n 0 (v.1 25 1 - 1) (by omega) (by omega) (by omega)) moX8_in stX8_in lk_X8_60 dX8_isRow_8 (by decide) rfl rfl (Nat.le_of_ble_eq_true rfl) (fun r1 u2 p3 => ?_)
  obtain ⟨hu9, hb⟩ := p3
  rw [hu9]
  have hbi := hb.in
  refine m_zret h hR rfl dX8_isRow_11 (by omega) ?_
  exact ⟨rfl, hb.iff (by omega)⟩

set_option maxRecDepth 100000 in
set_option maxHeartbeats 4000000 in
theorem m_owns (l : Launch) {G : GT} (hG : gok G) (v : Mem) (k : Int) (hk : 0 ≤ k ∧ k ≤ 9) : CC l G nX8_owns 0 [.int (iI k)] v (qI G (fun r u => u = v ∧ r = NKs k)) := by
  refine m_start (lv := [some (.int (iI k))]) hG (by decide +kernel) rfl (Nat.le_of_ble_eq_true rfl) ?_
  intro X hL h hR
  subst hL
  show M X G 1 v 0 [some (.int (iI k))] []
  refine m_iload_n h dX8_owns_0 rfl rfl ?_
  refine m_iconst h dX8_owns_1 ?_
  refine m_icmp_ge h dX8_owns_2 (tgt := 9) (by decide) (by omega) (by omega) (fun c1 => ?_) (fun c1 => ?_)
  · skip
    refine m_iload_n h dX8_owns_9 rfl rfl ?_
    refine m_iconst h dX8_owns_10 ?_
    refine m_icmp_eq h dX8_owns_11 (tgt := 20) (by decide) (by omega) (by omega) (fun c2 => ?_) (fun c2 => ?_)
    · skip
      refine m_iconst h dX8_owns_20 ?_
      refine m_goto h dX8_owns_21 (tgt := 41) (by decide) ?_
      refine m_iret h hR rfl dX8_owns_41 ?_
      refine ⟨rfl, ?_⟩
      unfold NKs
      (repeat' split) <;> omega
    · skip
      refine m_iload_n h dX8_owns_14 rfl rfl ?_
      refine m_bipush h dX8_owns_15 (by decide) ?_
      refine m_icmp_ne h dX8_owns_17 (tgt := 24) (by decide) (by omega) (by omega) (fun c3 => ?_) (fun c3 => ?_)
      · skip
        refine m_iload_n h dX8_owns_24 rfl rfl ?_
        refine m_bipush h dX8_owns_25 (by decide) ?_
        refine m_icmp_eq h dX8_owns_27 (tgt := 36) (by decide) (by omega) (by omega) (fun c4 => ?_) (fun c4 => ?_)
        · skip
          refine m_iconst h dX8_owns_36 ?_
          refine m_goto h dX8_owns_37 (tgt := 41) (by decide) ?_
          refine m_iret h hR rfl dX8_owns_41 ?_
          refine ⟨rfl, ?_⟩
          unfold NKs
          (repeat' split) <;> omega
        · skip
          refine m_iload_n h dX8_owns_30 rfl rfl ?_
          refine m_bipush h dX8_owns_31 (by decide) ?_
          refine m_icmp_ne h dX8_owns_33 (tgt := 40) (by decide) (by omega) (by omega) (fun c5 => ?_) (fun c5 => ?_)
          · skip
            refine m_iconst h dX8_owns_40 ?_
            refine m_iret h hR rfl dX8_owns_41 ?_
            refine ⟨rfl, ?_⟩
            unfold NKs
            (repeat' split) <;> omega
          · skip
            refine m_iconst h dX8_owns_36 ?_
            refine m_goto h dX8_owns_37 (tgt := 41) (by decide) ?_
            refine m_iret h hR rfl dX8_owns_41 ?_
            refine ⟨rfl, ?_⟩
            unfold NKs
            (repeat' split) <;> omega
      · skip
        refine m_iconst h dX8_owns_20 ?_
        refine m_goto h dX8_owns_21 (tgt := 41) (by decide) ?_
        refine m_iret h hR rfl dX8_owns_41 ?_
        refine ⟨rfl, ?_⟩
        unfold NKs
        (repeat' split) <;> omega
  · skip
    refine m_iconst h dX8_owns_5 ?_
    refine m_goto h dX8_owns_6 (tgt := 41) (by decide) ?_
    refine m_iret h hR rfl dX8_owns_41 ?_
    refine ⟨rfl, ?_⟩
    unfold NKs
    (repeat' split) <;> omega

set_option maxRecDepth 100000 in
set_option maxHeartbeats 4000000 in
theorem m_hasF (l : Launch) {G : GT} (hG : gok G) (v : Mem) (k : Int) (hk : 0 ≤ k ∧ k ≤ 9) : CC l G nX8_hasFactors 0 [.int (iI k)] v (qI G (fun r u => u = v ∧ bz r (k < 2 ∨ 7 < k))) := by
  refine m_start (lv := [some (.int (iI k))]) hG (by decide +kernel) rfl (Nat.le_of_ble_eq_true rfl) ?_
  intro X hL h hR
  subst hL
  show M X G 1 v 0 [some (.int (iI k))] []
  refine m_iload_n h dX8_hasFactors_0 rfl rfl ?_
  refine m_iconst h dX8_hasFactors_1 ?_
  refine m_icmp_lt h dX8_hasFactors_2 (tgt := 11) (by decide) (by omega) (by omega) (fun c1 => ?_) (fun c1 => ?_)
  · skip
    refine m_iconst h dX8_hasFactors_11 ?_
    refine m_goto h dX8_hasFactors_12 (tgt := 16) (by decide) ?_
    refine m_zret h hR rfl dX8_hasFactors_16 (by omega) ?_
    exact ⟨rfl, bz1 (by omega)⟩
  · skip
    refine m_iload_n h dX8_hasFactors_5 rfl rfl ?_
    refine m_bipush h dX8_hasFactors_6 (by decide) ?_
    refine m_icmp_le h dX8_hasFactors_8 (tgt := 15) (by decide) (by omega) (by omega) (fun c2 => ?_) (fun c2 => ?_)
    · skip
      refine m_iconst h dX8_hasFactors_15 ?_
      refine m_zret h hR rfl dX8_hasFactors_16 (by omega) ?_
      exact ⟨rfl, bz0 (by omega)⟩
    · skip
      refine m_iconst h dX8_hasFactors_11 ?_
      refine m_goto h dX8_hasFactors_12 (tgt := 16) (by decide) ?_
      refine m_zret h hR rfl dX8_hasFactors_16 (by omega) ?_
      exact ⟨rfl, bz1 (by omega)⟩

set_option maxRecDepth 100000 in
set_option maxHeartbeats 4000000 in
theorem m_may (l : Launch) {G : GT} (hG : gok G) (v : Mem) (c n z : Int) (hz : -2000000 ≤ z ∧ z ≤ 2000000) (hn : 0 ≤ n ∧ n < c) (hc : c ≤ 8) (hr : LHr c v) : CC l G nX8_may 1 [.ref (G.2.1 25), .int (iI n), .int (iI z)] v (qI G (fun r u => u = v ∧ bz r (v.1 38 n ≤ z ∧ z ≤ v.1 39 n))) := by
  refine m_start (lv := [some (.ref (G.2.1 25)), some (.int (iI n)), some (.int (iI z))]) hG (by decide +kernel) rfl (Nat.le_of_ble_eq_true rfl) ?_
  intro X hL h hR
  subst hL
  have hrn := hr n hn.1 hn.2
  show M X G 3 v 0 [some (.ref (G.2.1 25)), some (.int (iI n)), some (.int (iI z))] []
  refine m_iload_n h dX8_may_0 rfl rfl ?_
  refine m_aload_n h dX8_may_1 rfl rfl ?_
  refine m_get h fo_X8_51 (by decide) rfl rfl dX8_may_2 ?_
  refine m_iload_n h dX8_may_5 rfl rfl ?_
  refine m_iald h (ar_38 G) (by omega) (by omega) dX8_may_6 ?_
  refine m_aload_n h dX8_may_7 rfl rfl ?_
  refine m_get h fo_X8_54 (by decide) rfl rfl dX8_may_8 ?_
  refine m_iload_n h dX8_may_11 rfl rfl ?_
  refine m_iald h (ar_39 G) (by omega) (by omega) dX8_may_12 ?_
  refine m_sI h (m_in _ hG _ z (v.1 38 n) (v.1 39 n) (by omega) (by omega) (by omega)) moX8_in stX8_in lk_X8_60 dX8_may_13 (by decide) rfl rfl (Nat.le_of_ble_eq_true rfl) (fun r1 u2 p3 => ?_)
  obtain ⟨hu9, hb⟩ := p3
  rw [hu9]
  have hbi := hb.in
  refine m_zret h hR rfl dX8_may_16 (by omega) ?_
  exact ⟨rfl, hb⟩

set_option maxRecDepth 100000 in
set_option maxHeartbeats 4000000 in
theorem m_least0 (l : Launch) {G : GT} (hG : gok G) (v : Mem) (n : Int) (hn : 0 ≤ n ∧ n < 8) (S : Int → Bool) (hS : ∀ k, 0 ≤ k → k < 64 → bz (v.1 27 (64 * n + k)) (S k = true)) : CC l G nX8_least 0 [.ref (G.2.1 25), .int (iI n), .int (iI 0)] v (qI G (fun r u => u = v ∧ r = SL S)) := by
  refine m_start (lv := [some (.ref (G.2.1 25)), some (.int (iI n)), some (.int (iI 0)), none, none]) hG (by decide +kernel) rfl (Nat.le_of_ble_eq_true rfl) ?_
  intro X hL h hR
  subst hL
  show M X G 5 v 0 [some (.ref (G.2.1 25)), some (.int (iI n)), some (.int (iI 0)), none, none] []
  refine m_sipush h dX8_least_0 (by decide) ?_
  refine m_istore_n h dX8_least_3 rfl (by decide) rfl ?_
  refine m_bipush h dX8_least_4 (by decide) ?_
  refine m_istore h dX8_least_6 (by decide) rfl ?_
  have lp8 : ∀ (fuel : Nat) (j : Nat) (A : Int), j ≤ 64 → 65 - j < fuel → A = lsF S j → M X G 5 v 8 [some (.ref (G.2.1 25)), some (.int (iI n)), some (.int (iI 0)), some (.int (iI A)), some (.int (iI (63 - (j : Int))))] [] := by
    intro fuel
    induction fuel with
    | zero => intro j A hj hfu hA; exfalso; omega
    | succ fuel ih =>
      intro j A hj hfu hA
      refine m_iload h dX8_least_8 rfl ?_
      refine m_if_lt h dX8_least_10 (tgt := 66) (by decide) (by omega) (fun c1 => ?_) (fun c1 => ?_)
      · skip
        refine m_iload_n h dX8_least_66 rfl rfl ?_
        refine m_iret h hR rfl dX8_least_67 ?_
        refine ⟨rfl, ?_⟩
        rw [hA, show j = 64 by omega]
        rfl
      · skip
        have hb := hS (63 - (j : Int)) (by omega) (by omega)
        have hbi := hb.in
        refine m_iload_n h dX8_least_13 rfl rfl ?_
        refine m_if_eq h dX8_least_14 (tgt := 35) (by decide) (by omega) (fun c2 => ?_) (fun c2 => ?_)
        · skip
          refine m_aload_n h dX8_least_35 rfl rfl ?_
          refine m_get h fo_X8_13 (by decide) rfl rfl dX8_least_36 ?_
          refine m_bipush h dX8_least_39 (by decide) ?_
          refine m_iload_n h dX8_least_41 rfl rfl ?_
          refine m_imul h dX8_least_42 ?_
          refine m_iload h dX8_least_43 rfl ?_
          refine m_iadd h dX8_least_45 ?_
          refine m_zald h (ar_27 G) (by omega) (by omega) dX8_least_46 ?_
          refine m_if_eq h dX8_least_47 (tgt := 58) (by decide) (by omega) (fun c3 => ?_) (fun c3 => ?_)
          · skip
            refine m_iload_n h dX8_least_58 rfl rfl ?_
            refine m_istore_n h dX8_least_59 rfl (by decide) rfl ?_
            refine m_iinc h dX8_least_60 rfl (by decide) rfl ?_
            refine m_goto h dX8_least_63 (tgt := 8) (by decide) ?_
            have e : 63 - (j : Int) + -1 = 63 - ((j + 1 : Nat) : Int) := by omega
            rw [show 63 - (j : Int) + (-1) = 63 - ((j + 1 : Nat) : Int) by omega]
            refine ih (j + 1) _ (by omega) (by omega) ?_
            simp only [lsF]
            rw [if_neg (hb.no (by omega))]
            exact hA
          · skip
            refine m_iload h dX8_least_50 rfl ?_
            refine m_bipush h dX8_least_52 (by decide) ?_
            refine m_isub h dX8_least_54 ?_
            refine m_goto h dX8_least_55 (tgt := 59) (by decide) ?_
            refine m_istore_n h dX8_least_59 rfl (by decide) rfl ?_
            refine m_iinc h dX8_least_60 rfl (by decide) rfl ?_
            refine m_goto h dX8_least_63 (tgt := 8) (by decide) ?_
            have e : 63 - (j : Int) + -1 = 63 - ((j + 1 : Nat) : Int) := by omega
            rw [show 63 - (j : Int) + (-1) = 63 - ((j + 1 : Nat) : Int) by omega]
            refine ih (j + 1) _ (by omega) (by omega) ?_
            simp only [lsF]
            rw [if_pos (hb.yes (by omega))]
            omega
        · skip
          omega
  exact lp8 100 0 (-1000) (by omega) (by omega) rfl

set_option maxRecDepth 100000 in
set_option maxHeartbeats 4000000 in
theorem m_most0 (l : Launch) {G : GT} (hG : gok G) (v : Mem) (n : Int) (hn : 0 ≤ n ∧ n < 8) (S : Int → Bool) (hS : ∀ k, 0 ≤ k → k < 64 → bz (v.1 27 (64 * n + k)) (S k = true)) : CC l G nX8_most 0 [.ref (G.2.1 25), .int (iI n), .int (iI 0)] v (qI G (fun r u => u = v ∧ r = SM S)) := by
  refine m_start (lv := [some (.ref (G.2.1 25)), some (.int (iI n)), some (.int (iI 0)), none, none]) hG (by decide +kernel) rfl (Nat.le_of_ble_eq_true rfl) ?_
  intro X hL h hR
  subst hL
  show M X G 5 v 0 [some (.ref (G.2.1 25)), some (.int (iI n)), some (.int (iI 0)), none, none] []
  refine m_sipush h dX8_most_0 (by decide) ?_
  refine m_istore_n h dX8_most_3 rfl (by decide) rfl ?_
  refine m_iconst h dX8_most_4 ?_
  refine m_istore h dX8_most_5 (by decide) rfl ?_
  have lp7 : ∀ (fuel : Nat) (j : Nat) (A : Int), j ≤ 64 → 65 - j < fuel → A = msF S j → M X G 5 v 7 [some (.ref (G.2.1 25)), some (.int (iI n)), some (.int (iI 0)), some (.int (iI A)), some (.int (iI (j : Int)))] [] := by
    intro fuel
    induction fuel with
    | zero => intro j A hj hfu hA; exfalso; omega
    | succ fuel ih =>
      intro j A hj hfu hA
      refine m_iload h dX8_most_7 rfl ?_
      refine m_bipush h dX8_most_9 (by decide) ?_
      refine m_icmp_ge h dX8_most_11 (tgt := 67) (by decide) (by omega) (by omega) (fun c1 => ?_) (fun c1 => ?_)
      · skip
        refine m_iload_n h dX8_most_67 rfl rfl ?_
        refine m_iret h hR rfl dX8_most_68 ?_
        refine ⟨rfl, ?_⟩
        rw [hA, show j = 64 by omega]
        rfl
      · skip
        have hb := hS (j : Int) (by omega) (by omega)
        have hbi := hb.in
        refine m_iload_n h dX8_most_14 rfl rfl ?_
        refine m_if_eq h dX8_most_15 (tgt := 36) (by decide) (by omega) (fun c2 => ?_) (fun c2 => ?_)
        · skip
          refine m_aload_n h dX8_most_36 rfl rfl ?_
          refine m_get h fo_X8_13 (by decide) rfl rfl dX8_most_37 ?_
          refine m_bipush h dX8_most_40 (by decide) ?_
          refine m_iload_n h dX8_most_42 rfl rfl ?_
          refine m_imul h dX8_most_43 ?_
          refine m_iload h dX8_most_44 rfl ?_
          refine m_iadd h dX8_most_46 ?_
          refine m_zald h (ar_27 G) (by omega) (by omega) dX8_most_47 ?_
          refine m_if_eq h dX8_most_48 (tgt := 59) (by decide) (by omega) (fun c3 => ?_) (fun c3 => ?_)
          · skip
            refine m_iload_n h dX8_most_59 rfl rfl ?_
            refine m_istore_n h dX8_most_60 rfl (by decide) rfl ?_
            refine m_iinc h dX8_most_61 rfl (by decide) rfl ?_
            refine m_goto h dX8_most_64 (tgt := 7) (by decide) ?_
            refine ih (j + 1) _ (by omega) (by omega) ?_
            simp only [msF]
            rw [if_neg (hb.no (by omega))]
            exact hA
          · skip
            refine m_iload h dX8_most_51 rfl ?_
            refine m_bipush h dX8_most_53 (by decide) ?_
            refine m_isub h dX8_most_55 ?_
            refine m_goto h dX8_most_56 (tgt := 60) (by decide) ?_
            refine m_istore_n h dX8_most_60 rfl (by decide) rfl ?_
            refine m_iinc h dX8_most_61 rfl (by decide) rfl ?_
            refine m_goto h dX8_most_64 (tgt := 7) (by decide) ?_
            refine ih (j + 1) _ (by omega) (by omega) ?_
            simp only [msF]
            rw [if_pos (hb.yes (by omega))]
        · skip
          omega
  exact lp7 100 0 (-1000) (by omega) (by omega) rfl

set_option maxRecDepth 100000 in
set_option maxHeartbeats 4000000 in
theorem m_many0 (l : Launch) {G : GT} (hG : gok G) (v : Mem) (n : Int) (hn : 0 ≤ n ∧ n < 8) (S : Int → Bool) (hS : ∀ k, 0 ≤ k → k < 64 → bz (v.1 27 (64 * n + k)) (S k = true)) : CC l G nX8_many 0 [.ref (G.2.1 25), .int (iI n), .int (iI 0)] v (qI G (fun r u => u = v ∧ r = sm (ind S) 64)) := by
  refine m_start (lv := [some (.ref (G.2.1 25)), some (.int (iI n)), some (.int (iI 0)), none, none]) hG (by decide +kernel) rfl (Nat.le_of_ble_eq_true rfl) ?_
  intro X hL h hR
  subst hL
  show M X G 5 v 0 [some (.ref (G.2.1 25)), some (.int (iI n)), some (.int (iI 0)), none, none] []
  refine m_iconst h dX8_many_0 ?_
  refine m_istore_n h dX8_many_1 rfl (by decide) rfl ?_
  refine m_iconst h dX8_many_2 ?_
  refine m_istore h dX8_many_3 (by decide) rfl ?_
  have lp5 : ∀ (fuel : Nat) (j : Nat) (A : Int), j ≤ 64 → 65 - j < fuel → A = sm (ind S) j → M X G 5 v 5 [some (.ref (G.2.1 25)), some (.int (iI n)), some (.int (iI 0)), some (.int (iI A)), some (.int (iI (j : Int)))] [] := by
    intro fuel
    induction fuel with
    | zero => intro j A hj hfu hA; exfalso; omega
    | succ fuel ih =>
      intro j A hj hfu hA
      refine m_iload h dX8_many_5 rfl ?_
      refine m_bipush h dX8_many_7 (by decide) ?_
      refine m_icmp_ge h dX8_many_9 (tgt := 63) (by decide) (by omega) (by omega) (fun c1 => ?_) (fun c1 => ?_)
      · skip
        refine m_iload_n h dX8_many_63 rfl rfl ?_
        refine m_iret h hR rfl dX8_many_64 ?_
        refine ⟨rfl, ?_⟩
        rw [hA, show j = 64 by omega]
      · skip
        have hb := hS (j : Int) (by omega) (by omega)
        have hbi := hb.in
        refine m_iload_n h dX8_many_12 rfl rfl ?_
        refine m_iload_n h dX8_many_13 rfl rfl ?_
        refine m_if_eq h dX8_many_14 (tgt := 35) (by decide) (by omega) (fun c2 => ?_) (fun c2 => ?_)
        · skip
          refine m_aload_n h dX8_many_35 rfl rfl ?_
          refine m_get h fo_X8_13 (by decide) rfl rfl dX8_many_36 ?_
          refine m_bipush h dX8_many_39 (by decide) ?_
          refine m_iload_n h dX8_many_41 rfl rfl ?_
          refine m_imul h dX8_many_42 ?_
          refine m_iload h dX8_many_43 rfl ?_
          refine m_iadd h dX8_many_45 ?_
          refine m_zald h (ar_27 G) (by omega) (by omega) dX8_many_46 ?_
          refine m_if_eq h dX8_many_47 (tgt := 54) (by decide) (by omega) (fun c3 => ?_) (fun c3 => ?_)
          · skip
            refine m_iconst h dX8_many_54 ?_
            refine m_iadd h dX8_many_55 ?_
            refine m_istore_n h dX8_many_56 rfl (by decide) rfl ?_
            refine m_iinc h dX8_many_57 rfl (by decide) rfl ?_
            refine m_goto h dX8_many_60 (tgt := 5) (by decide) ?_
            refine ih (j + 1) _ (by omega) (by omega) ?_
            simp only [sm]
            unfold ind at *
            rw [if_neg (hb.no (by omega))]
            omega
          · skip
            refine m_iconst h dX8_many_50 ?_
            refine m_goto h dX8_many_51 (tgt := 55) (by decide) ?_
            refine m_iadd h dX8_many_55 ?_
            refine m_istore_n h dX8_many_56 rfl (by decide) rfl ?_
            refine m_iinc h dX8_many_57 rfl (by decide) rfl ?_
            refine m_goto h dX8_many_60 (tgt := 5) (by decide) ?_
            refine ih (j + 1) _ (by omega) (by omega) ?_
            simp only [sm]
            unfold ind at *
            rw [if_pos (hb.yes (by omega))]
            omega
        · skip
          omega
  exact lp5 100 0 0 (by omega) (by omega) rfl

set_option maxRecDepth 100000 in
set_option maxHeartbeats 4000000 in
theorem m_least1 (l : Launch) {G : GT} (hG : gok G) (v : Mem) (n : Int) (hn : 0 ≤ n ∧ n < 8) (S : Int → Bool) (hS : ∀ k, 0 ≤ k → k < 64 → bz (v.1 26 (64 * n + k)) (S k = true)) : CC l G nX8_least 0 [.ref (G.2.1 25), .int (iI n), .int (iI 1)] v (qI G (fun r u => u = v ∧ r = SL S)) := by
  refine m_start (lv := [some (.ref (G.2.1 25)), some (.int (iI n)), some (.int (iI 1)), none, none]) hG (by decide +kernel) rfl (Nat.le_of_ble_eq_true rfl) ?_
  intro X hL h hR
  subst hL
  show M X G 5 v 0 [some (.ref (G.2.1 25)), some (.int (iI n)), some (.int (iI 1)), none, none] []
  refine m_sipush h dX8_least_0 (by decide) ?_
  refine m_istore_n h dX8_least_3 rfl (by decide) rfl ?_
  refine m_bipush h dX8_least_4 (by decide) ?_
  refine m_istore h dX8_least_6 (by decide) rfl ?_
  have lp8 : ∀ (fuel : Nat) (j : Nat) (A : Int), j ≤ 64 → 65 - j < fuel → A = lsF S j → M X G 5 v 8 [some (.ref (G.2.1 25)), some (.int (iI n)), some (.int (iI 1)), some (.int (iI A)), some (.int (iI (63 - (j : Int))))] [] := by
    intro fuel
    induction fuel with
    | zero => intro j A hj hfu hA; exfalso; omega
    | succ fuel ih =>
      intro j A hj hfu hA
      refine m_iload h dX8_least_8 rfl ?_
      refine m_if_lt h dX8_least_10 (tgt := 66) (by decide) (by omega) (fun c1 => ?_) (fun c1 => ?_)
      · skip
        refine m_iload_n h dX8_least_66 rfl rfl ?_
        refine m_iret h hR rfl dX8_least_67 ?_
        refine ⟨rfl, ?_⟩
        rw [hA, show j = 64 by omega]
        rfl
      · skip
        have hb := hS (63 - (j : Int)) (by omega) (by omega)
        have hbi := hb.in
        refine m_iload_n h dX8_least_13 rfl rfl ?_
        refine m_if_eq h dX8_least_14 (tgt := 35) (by decide) (by omega) (fun c2 => ?_) (fun c2 => ?_)
        · skip
          omega
        · skip
          refine m_aload_n h dX8_least_17 rfl rfl ?_
          refine m_get h fo_X8_7 (by decide) rfl rfl dX8_least_18 ?_
          refine m_bipush h dX8_least_21 (by decide) ?_
          refine m_iload_n h dX8_least_23 rfl rfl ?_
          refine m_imul h dX8_least_24 ?_
          refine m_iload h dX8_least_25 rfl ?_
          refine m_iadd h dX8_least_27 ?_
          refine m_zald h (ar_26 G) (by omega) (by omega) dX8_least_28 ?_
          refine m_if_eq h dX8_least_29 (tgt := 58) (by decide) (by omega) (fun c3 => ?_) (fun c3 => ?_)
          · skip
            refine m_iload_n h dX8_least_58 rfl rfl ?_
            refine m_istore_n h dX8_least_59 rfl (by decide) rfl ?_
            refine m_iinc h dX8_least_60 rfl (by decide) rfl ?_
            refine m_goto h dX8_least_63 (tgt := 8) (by decide) ?_
            have e : 63 - (j : Int) + -1 = 63 - ((j + 1 : Nat) : Int) := by omega
            rw [show 63 - (j : Int) + (-1) = 63 - ((j + 1 : Nat) : Int) by omega]
            refine ih (j + 1) _ (by omega) (by omega) ?_
            simp only [lsF]
            rw [if_neg (hb.no (by omega))]
            exact hA
          · skip
            refine m_goto h dX8_least_32 (tgt := 50) (by decide) ?_
            refine m_iload h dX8_least_50 rfl ?_
            refine m_bipush h dX8_least_52 (by decide) ?_
            refine m_isub h dX8_least_54 ?_
            refine m_goto h dX8_least_55 (tgt := 59) (by decide) ?_
            refine m_istore_n h dX8_least_59 rfl (by decide) rfl ?_
            refine m_iinc h dX8_least_60 rfl (by decide) rfl ?_
            refine m_goto h dX8_least_63 (tgt := 8) (by decide) ?_
            have e : 63 - (j : Int) + -1 = 63 - ((j + 1 : Nat) : Int) := by omega
            rw [show 63 - (j : Int) + (-1) = 63 - ((j + 1 : Nat) : Int) by omega]
            refine ih (j + 1) _ (by omega) (by omega) ?_
            simp only [lsF]
            rw [if_pos (hb.yes (by omega))]
            omega
  exact lp8 100 0 (-1000) (by omega) (by omega) rfl

set_option maxRecDepth 100000 in
set_option maxHeartbeats 4000000 in
theorem m_most1 (l : Launch) {G : GT} (hG : gok G) (v : Mem) (n : Int) (hn : 0 ≤ n ∧ n < 8) (S : Int → Bool) (hS : ∀ k, 0 ≤ k → k < 64 → bz (v.1 26 (64 * n + k)) (S k = true)) : CC l G nX8_most 0 [.ref (G.2.1 25), .int (iI n), .int (iI 1)] v (qI G (fun r u => u = v ∧ r = SM S)) := by
  refine m_start (lv := [some (.ref (G.2.1 25)), some (.int (iI n)), some (.int (iI 1)), none, none]) hG (by decide +kernel) rfl (Nat.le_of_ble_eq_true rfl) ?_
  intro X hL h hR
  subst hL
  show M X G 5 v 0 [some (.ref (G.2.1 25)), some (.int (iI n)), some (.int (iI 1)), none, none] []
  refine m_sipush h dX8_most_0 (by decide) ?_
  refine m_istore_n h dX8_most_3 rfl (by decide) rfl ?_
  refine m_iconst h dX8_most_4 ?_
  refine m_istore h dX8_most_5 (by decide) rfl ?_
  have lp7 : ∀ (fuel : Nat) (j : Nat) (A : Int), j ≤ 64 → 65 - j < fuel → A = msF S j → M X G 5 v 7 [some (.ref (G.2.1 25)), some (.int (iI n)), some (.int (iI 1)), some (.int (iI A)), some (.int (iI (j : Int)))] [] := by
    intro fuel
    induction fuel with
    | zero => intro j A hj hfu hA; exfalso; omega
    | succ fuel ih =>
      intro j A hj hfu hA
      refine m_iload h dX8_most_7 rfl ?_
      refine m_bipush h dX8_most_9 (by decide) ?_
      refine m_icmp_ge h dX8_most_11 (tgt := 67) (by decide) (by omega) (by omega) (fun c1 => ?_) (fun c1 => ?_)
      · skip
        refine m_iload_n h dX8_most_67 rfl rfl ?_
        refine m_iret h hR rfl dX8_most_68 ?_
        refine ⟨rfl, ?_⟩
        rw [hA, show j = 64 by omega]
        rfl
      · skip
        have hb := hS (j : Int) (by omega) (by omega)
        have hbi := hb.in
        refine m_iload_n h dX8_most_14 rfl rfl ?_
        refine m_if_eq h dX8_most_15 (tgt := 36) (by decide) (by omega) (fun c2 => ?_) (fun c2 => ?_)
        · skip
          omega
        · skip
          refine m_aload_n h dX8_most_18 rfl rfl ?_
          refine m_get h fo_X8_7 (by decide) rfl rfl dX8_most_19 ?_
          refine m_bipush h dX8_most_22 (by decide) ?_
          refine m_iload_n h dX8_most_24 rfl rfl ?_
          refine m_imul h dX8_most_25 ?_
          refine m_iload h dX8_most_26 rfl ?_
          refine m_iadd h dX8_most_28 ?_
          refine m_zald h (ar_26 G) (by omega) (by omega) dX8_most_29 ?_
          refine m_if_eq h dX8_most_30 (tgt := 59) (by decide) (by omega) (fun c3 => ?_) (fun c3 => ?_)
          · skip
            refine m_iload_n h dX8_most_59 rfl rfl ?_
            refine m_istore_n h dX8_most_60 rfl (by decide) rfl ?_
            refine m_iinc h dX8_most_61 rfl (by decide) rfl ?_
            refine m_goto h dX8_most_64 (tgt := 7) (by decide) ?_
            refine ih (j + 1) _ (by omega) (by omega) ?_
            simp only [msF]
            rw [if_neg (hb.no (by omega))]
            exact hA
          · skip
            refine m_goto h dX8_most_33 (tgt := 51) (by decide) ?_
            refine m_iload h dX8_most_51 rfl ?_
            refine m_bipush h dX8_most_53 (by decide) ?_
            refine m_isub h dX8_most_55 ?_
            refine m_goto h dX8_most_56 (tgt := 60) (by decide) ?_
            refine m_istore_n h dX8_most_60 rfl (by decide) rfl ?_
            refine m_iinc h dX8_most_61 rfl (by decide) rfl ?_
            refine m_goto h dX8_most_64 (tgt := 7) (by decide) ?_
            refine ih (j + 1) _ (by omega) (by omega) ?_
            simp only [msF]
            rw [if_pos (hb.yes (by omega))]
  exact lp7 100 0 (-1000) (by omega) (by omega) rfl

set_option maxRecDepth 100000 in
set_option maxHeartbeats 4000000 in
theorem m_many1 (l : Launch) {G : GT} (hG : gok G) (v : Mem) (n : Int) (hn : 0 ≤ n ∧ n < 8) (S : Int → Bool) (hS : ∀ k, 0 ≤ k → k < 64 → bz (v.1 26 (64 * n + k)) (S k = true)) : CC l G nX8_many 0 [.ref (G.2.1 25), .int (iI n), .int (iI 1)] v (qI G (fun r u => u = v ∧ r = sm (ind S) 64)) := by
  refine m_start (lv := [some (.ref (G.2.1 25)), some (.int (iI n)), some (.int (iI 1)), none, none]) hG (by decide +kernel) rfl (Nat.le_of_ble_eq_true rfl) ?_
  intro X hL h hR
  subst hL
  show M X G 5 v 0 [some (.ref (G.2.1 25)), some (.int (iI n)), some (.int (iI 1)), none, none] []
  refine m_iconst h dX8_many_0 ?_
  refine m_istore_n h dX8_many_1 rfl (by decide) rfl ?_
  refine m_iconst h dX8_many_2 ?_
  refine m_istore h dX8_many_3 (by decide) rfl ?_
  have lp5 : ∀ (fuel : Nat) (j : Nat) (A : Int), j ≤ 64 → 65 - j < fuel → A = sm (ind S) j → M X G 5 v 5 [some (.ref (G.2.1 25)), some (.int (iI n)), some (.int (iI 1)), some (.int (iI A)), some (.int (iI (j : Int)))] [] := by
    intro fuel
    induction fuel with
    | zero => intro j A hj hfu hA; exfalso; omega
    | succ fuel ih =>
      intro j A hj hfu hA
      refine m_iload h dX8_many_5 rfl ?_
      refine m_bipush h dX8_many_7 (by decide) ?_
      refine m_icmp_ge h dX8_many_9 (tgt := 63) (by decide) (by omega) (by omega) (fun c1 => ?_) (fun c1 => ?_)
      · skip
        refine m_iload_n h dX8_many_63 rfl rfl ?_
        refine m_iret h hR rfl dX8_many_64 ?_
        refine ⟨rfl, ?_⟩
        rw [hA, show j = 64 by omega]
      · skip
        have hb := hS (j : Int) (by omega) (by omega)
        have hbi := hb.in
        refine m_iload_n h dX8_many_12 rfl rfl ?_
        refine m_iload_n h dX8_many_13 rfl rfl ?_
        refine m_if_eq h dX8_many_14 (tgt := 35) (by decide) (by omega) (fun c2 => ?_) (fun c2 => ?_)
        · skip
          omega
        · skip
          refine m_aload_n h dX8_many_17 rfl rfl ?_
          refine m_get h fo_X8_7 (by decide) rfl rfl dX8_many_18 ?_
          refine m_bipush h dX8_many_21 (by decide) ?_
          refine m_iload_n h dX8_many_23 rfl rfl ?_
          refine m_imul h dX8_many_24 ?_
          refine m_iload h dX8_many_25 rfl ?_
          refine m_iadd h dX8_many_27 ?_
          refine m_zald h (ar_26 G) (by omega) (by omega) dX8_many_28 ?_
          refine m_if_eq h dX8_many_29 (tgt := 54) (by decide) (by omega) (fun c3 => ?_) (fun c3 => ?_)
          · skip
            refine m_iconst h dX8_many_54 ?_
            refine m_iadd h dX8_many_55 ?_
            refine m_istore_n h dX8_many_56 rfl (by decide) rfl ?_
            refine m_iinc h dX8_many_57 rfl (by decide) rfl ?_
            refine m_goto h dX8_many_60 (tgt := 5) (by decide) ?_
            refine ih (j + 1) _ (by omega) (by omega) ?_
            simp only [sm]
            unfold ind at *
            rw [if_neg (hb.no (by omega))]
            omega
          · skip
            refine m_goto h dX8_many_32 (tgt := 50) (by decide) ?_
            refine m_iconst h dX8_many_50 ?_
            refine m_goto h dX8_many_51 (tgt := 55) (by decide) ?_
            refine m_iadd h dX8_many_55 ?_
            refine m_istore_n h dX8_many_56 rfl (by decide) rfl ?_
            refine m_iinc h dX8_many_57 rfl (by decide) rfl ?_
            refine m_goto h dX8_many_60 (tgt := 5) (by decide) ?_
            refine ih (j + 1) _ (by omega) (by omega) ?_
            simp only [sm]
            unfold ind at *
            rw [if_pos (hb.yes (by omega))]
            omega
  exact lp5 100 0 0 (by omega) (by omega) rfl

theorem mul9 {a b : Int} (ha : -9 ≤ a ∧ a ≤ 9) (hb : -32 ≤ b ∧ b ≤ 31) : -288 ≤ a * b ∧ a * b ≤ 288 := by
  have e : a = -9 ∨ a = -8 ∨ a = -7 ∨ a = -6 ∨ a = -5 ∨ a = -4 ∨ a = -3 ∨ a = -2 ∨ a = -1 ∨ a = 0 ∨ a = 1 ∨ a = 2 ∨ a = 3 ∨ a = 4 ∨ a = 5 ∨ a = 6 ∨ a = 7 ∨ a = 8 ∨ a = 9 := by omega
  rcases e with rfl | rfl | rfl | rfl | rfl | rfl | rfl | rfl | rfl | rfl | rfl | rfl | rfl | rfl | rfl | rfl | rfl | rfl | rfl <;> omega

set_option maxRecDepth 100000 in
set_option maxHeartbeats 4000000 in
theorem m_leastSum (l : Launch) {G : GT} (hG : gok G) (v : Mem) (g : Cfg) (r : Nat) (hr : r < 12) (hg : RwG g r) (hv : RwM g r v) (c : Nat) (hc : v.1 25 0 = c) (hc8 : c ≤ 8) (hlr : LHr c v) (sg : Int) (hsg : sg = 1 ∨ sg = -1) : CC l G nX8_leastSum 0 [.ref (G.2.1 25), .int (iI (r : Int)), .int (iI sg)] v (qI G (fun z u => u = v ∧ z = sm (fun x => if 0 < sg * g_f g r x then sg * g_f g r x * v.1 38 x else sg * g_f g r x * v.1 39 x) c ∧ -3000 ≤ z ∧ z ≤ 3000)) := by
  refine m_start (lv := [some (.ref (G.2.1 25)), some (.int (iI (r : Int))), some (.int (iI sg)), none, none, none]) hG (by decide +kernel) rfl (Nat.le_of_ble_eq_true rfl) ?_
  intro X hL h hR
  subst hL
  show M X G 6 v 0 [some (.ref (G.2.1 25)), some (.int (iI (r : Int))), some (.int (iI sg)), none, none, none] []
  refine m_iconst h dX8_leastSum_0 ?_
  refine m_istore_n h dX8_leastSum_1 rfl (by decide) rfl ?_
  refine m_iconst h dX8_leastSum_2 ?_
  refine m_istore h dX8_leastSum_3 (by decide) rfl ?_
  have lp5 : ∀ (fuel : Nat) (j : Nat) (A : Int), j ≤ c → 20 - j < fuel → A = sm (fun x => if 0 < sg * g_f g r x then sg * g_f g r x * v.1 38 x else sg * g_f g r x * v.1 39 x) j → -288 * (j : Int) ≤ A ∧ A ≤ 288 * (j : Int) → M X G 6 v 5 [some (.ref (G.2.1 25)), some (.int (iI (r : Int))), some (.int (iI sg)), some (.int (iI A)), some (.int (iI (j : Int))), none] [] := by
    intro fuel
    induction fuel with
    | zero => intro j A hj hfu hA hAr; exfalso; omega
    | succ fuel ih =>
      intro j A hj hfu hA hAr
      refine m_iload h dX8_leastSum_5 rfl ?_
      refine m_aload_n h dX8_leastSum_7 rfl rfl ?_
      refine m_get h fo_X8_57 (by decide) rfl rfl dX8_leastSum_8 ?_
      refine m_icmp_ge h dX8_leastSum_11 (tgt := 67) (by decide) (by omega) (by omega) (fun c1 => ?_) (fun c1 => ?_)
      · skip
        refine m_iload_n h dX8_leastSum_67 rfl rfl ?_
        refine m_iret h hR rfl dX8_leastSum_68 ?_
        refine ⟨rfl, ?_, by omega, by omega⟩
        rw [hA, show j = c by omega]
      · skip
        have hfx := hv.2.2.2.2.2 (j : Int) (by omega) (by omega)
        have hfr := hg.2.2.2.2.2.1 (j : Int)
        have hlj := hlr (j : Int) (by omega) (by omega)
        have hsf : -9 ≤ sg * g_f g r j ∧ sg * g_f g r j ≤ 9 := by rcases hsg with rfl | rfl <;> omega
        have hm1 := mul9 hsf hlj.1
        have hm2 := mul9 hsf hlj.2
        refine m_iload_n h dX8_leastSum_14 rfl rfl ?_
        refine m_aload_n h dX8_leastSum_15 rfl rfl ?_
        refine m_get h fo_X8_26 (by decide) rfl rfl dX8_leastSum_16 ?_
        refine m_bipush h dX8_leastSum_19 (by decide) ?_
        refine m_iload_n h dX8_leastSum_21 rfl rfl ?_
        refine m_imul h dX8_leastSum_22 ?_
        refine m_iload h dX8_leastSum_23 rfl ?_
        refine m_iadd h dX8_leastSum_25 ?_
        refine m_iald h (ar_31 G) (by omega) (by omega) dX8_leastSum_26 ?_
        rw [hfx]
        show M X G 6 v 27 [some (.ref (G.2.1 25)), some (.int (iI (r : Int))), some (.int (iI sg)), some (.int (iI A)), some (.int (iI (j : Int))), none] [.int (iI (g_f g r j)), .int (iI sg)]
        refine m_imul h dX8_leastSum_27 ?_
        refine m_istore h dX8_leastSum_28 (by decide) rfl ?_
        refine m_iload_n h dX8_leastSum_30 rfl rfl ?_
        refine m_iload h dX8_leastSum_31 rfl ?_
        refine m_if_le h dX8_leastSum_33 (tgt := 49) (by decide) (by omega) (fun c2 => ?_) (fun c2 => ?_)
        · skip
          refine m_iload h dX8_leastSum_49 rfl ?_
          refine m_aload_n h dX8_leastSum_51 rfl rfl ?_
          refine m_get h fo_X8_54 (by decide) rfl rfl dX8_leastSum_52 ?_
          refine m_iload h dX8_leastSum_55 rfl ?_
          refine m_iald h (ar_39 G) (by omega) (by omega) dX8_leastSum_57 ?_
          refine m_imul h dX8_leastSum_58 ?_
          refine m_iadd h dX8_leastSum_59 ?_
          refine m_istore_n h dX8_leastSum_60 rfl (by decide) rfl ?_
          refine m_iinc h dX8_leastSum_61 rfl (by decide) rfl ?_
          refine m_goto h dX8_leastSum_64 (tgt := 5) (by decide) ?_
          refine m_kill 5 ?_
          refine ih (j + 1) _ (by omega) (by omega) ?_ (by omega)
          simp only [sm]
          rw [if_neg (by omega), hA]
        · skip
          refine m_iload h dX8_leastSum_36 rfl ?_
          refine m_aload_n h dX8_leastSum_38 rfl rfl ?_
          refine m_get h fo_X8_51 (by decide) rfl rfl dX8_leastSum_39 ?_
          refine m_iload h dX8_leastSum_42 rfl ?_
          refine m_iald h (ar_38 G) (by omega) (by omega) dX8_leastSum_44 ?_
          refine m_imul h dX8_leastSum_45 ?_
          refine m_goto h dX8_leastSum_46 (tgt := 59) (by decide) ?_
          refine m_iadd h dX8_leastSum_59 ?_
          refine m_istore_n h dX8_leastSum_60 rfl (by decide) rfl ?_
          refine m_iinc h dX8_leastSum_61 rfl (by decide) rfl ?_
          refine m_goto h dX8_leastSum_64 (tgt := 5) (by decide) ?_
          refine m_kill 5 ?_
          refine ih (j + 1) _ (by omega) (by omega) ?_ (by omega)
          simp only [sm]
          rw [if_pos (by omega), hA]
  exact lp5 100 0 0 (by omega) (by omega) rfl (by omega)

set_option maxRecDepth 100000 in
set_option maxHeartbeats 4000000 in
theorem m_down (l : Launch) {G : GT} (hG : gok G) (v : Mem) (b c : Int) (hb : -40 ≤ b ∧ b ≤ 40) (hc : -40 ≤ c ∧ c ≤ 40) (hc0 : c ≠ 0) : CC l G nX8_down 0 [.int (iI b), .int (iI c)] v (qI G (fun r u => u = v ∧ r = fd b c)) := by
  refine m_start (lv := [some (.int (iI b)), some (.int (iI c)), none]) hG (by decide +kernel) rfl (Nat.le_of_ble_eq_true rfl) ?_
  intro X hL h hR
  subst hL
  have htr := tdiv_rg (a := b) (b := c) (by omega) (by omega) hc0
  have hfj := fd_java (a := b) hc0
  show M X G 3 v 0 [some (.int (iI b)), some (.int (iI c)), none] []
  refine m_iload_n h dX8_down_0 rfl rfl ?_
  refine m_iload_n h dX8_down_1 rfl rfl ?_
  refine m_idiv h dX8_down_2 (by omega) (by omega) (by omega) ?_
  refine m_istore_n h dX8_down_3 rfl (by decide) rfl ?_
  refine m_iload_n h dX8_down_4 rfl rfl ?_
  refine m_iload_n h dX8_down_5 rfl rfl ?_
  refine m_imul h dX8_down_6 ?_
  refine m_iload_n h dX8_down_7 rfl rfl ?_
  refine m_icmp_eq h dX8_down_8 (tgt := 38) (by decide) (by omega) (by omega) (fun c1 => ?_) (fun c1 => ?_)
  · skip
    refine m_iload_n h dX8_down_38 rfl rfl ?_
    refine m_iret h hR rfl dX8_down_39 ?_
    refine ⟨rfl, ?_⟩
    rw [hfj]
    rw [if_neg (by omega)]
  · skip
    refine m_iload_n h dX8_down_11 rfl rfl ?_
    refine m_if_ge h dX8_down_12 (tgt := 19) (by decide) (by omega) (fun c2 => ?_) (fun c2 => ?_)
    · skip
      refine m_iconst h dX8_down_19 ?_
      refine m_iload_n h dX8_down_20 rfl rfl ?_
      refine m_if_ge h dX8_down_21 (tgt := 28) (by decide) (by omega) (fun c3 => ?_) (fun c3 => ?_)
      · skip
        refine m_iconst h dX8_down_28 ?_
        refine m_icmp_eq h dX8_down_29 (tgt := 38) (by decide) (by omega) (by omega) (fun c4 => ?_) (fun c4 => ?_)
        · skip
          refine m_iload_n h dX8_down_38 rfl rfl ?_
          refine m_iret h hR rfl dX8_down_39 ?_
          refine ⟨rfl, ?_⟩
          rw [hfj]
          rw [if_neg (by omega)]
        · skip
          omega
      · skip
        refine m_iconst h dX8_down_24 ?_
        refine m_goto h dX8_down_25 (tgt := 29) (by decide) ?_
        refine m_icmp_eq h dX8_down_29 (tgt := 38) (by decide) (by omega) (by omega) (fun c5 => ?_) (fun c5 => ?_)
        · skip
          omega
        · skip
          refine m_iload_n h dX8_down_32 rfl rfl ?_
          refine m_iconst h dX8_down_33 ?_
          refine m_isub h dX8_down_34 ?_
          refine m_goto h dX8_down_35 (tgt := 39) (by decide) ?_
          refine m_iret h hR rfl dX8_down_39 ?_
          refine ⟨rfl, ?_⟩
          rw [hfj]
          rw [if_pos (by omega)]
    · skip
      refine m_iconst h dX8_down_15 ?_
      refine m_goto h dX8_down_16 (tgt := 20) (by decide) ?_
      refine m_iload_n h dX8_down_20 rfl rfl ?_
      refine m_if_ge h dX8_down_21 (tgt := 28) (by decide) (by omega) (fun c6 => ?_) (fun c6 => ?_)
      · skip
        refine m_iconst h dX8_down_28 ?_
        refine m_icmp_eq h dX8_down_29 (tgt := 38) (by decide) (by omega) (by omega) (fun c7 => ?_) (fun c7 => ?_)
        · skip
          omega
        · skip
          refine m_iload_n h dX8_down_32 rfl rfl ?_
          refine m_iconst h dX8_down_33 ?_
          refine m_isub h dX8_down_34 ?_
          refine m_goto h dX8_down_35 (tgt := 39) (by decide) ?_
          refine m_iret h hR rfl dX8_down_39 ?_
          refine ⟨rfl, ?_⟩
          rw [hfj]
          rw [if_pos (by omega)]
      · skip
        refine m_iconst h dX8_down_24 ?_
        refine m_goto h dX8_down_25 (tgt := 29) (by decide) ?_
        refine m_icmp_eq h dX8_down_29 (tgt := 38) (by decide) (by omega) (by omega) (fun c8 => ?_) (fun c8 => ?_)
        · skip
          refine m_iload_n h dX8_down_38 rfl rfl ?_
          refine m_iret h hR rfl dX8_down_39 ?_
          refine ⟨rfl, ?_⟩
          rw [hfj]
          rw [if_neg (by omega)]
        · skip
          omega

set_option maxRecDepth 100000 in
set_option maxHeartbeats 4000000 in
theorem m_come (l : Launch) {G : GT} (hG : gok G) (v : Mem) (k b c : Int) (hk : k = 2 ∨ k = 3 ∨ k = 5 ∨ k = 6) (hb : -40 ≤ b ∧ b ≤ 40) (hc : -40 ≤ c ∧ c ≤ 40) (hc0 : k = 3 → c ≠ 0) : CC l G nX8_come 1 [.int (iI k), .int (iI b), .int (iI c)] v (qI G (fun r u => u = v ∧ (-2000000 ≤ r ∧ r ≤ 2000000) ∧ r = if k = 2 then b * c else if k = 3 then fd b c else if k = 5 then max b c else min b c)) := by
  refine m_start (lv := [some (.int (iI k)), some (.int (iI b)), some (.int (iI c))]) hG (by decide +kernel) rfl (Nat.le_of_ble_eq_true rfl) ?_
  intro X hL h hR
  subst hL
  show M X G 3 v 0 [some (.int (iI k)), some (.int (iI b)), some (.int (iI c))] []
  refine m_iload_n h dX8_come_0 rfl rfl ?_
  refine m_iconst h dX8_come_1 ?_
  refine m_icmp_ne h dX8_come_2 (tgt := 11) (by decide) (by omega) (by omega) (fun c1 => ?_) (fun c1 => ?_)
  · skip
    refine m_iload_n h dX8_come_11 rfl rfl ?_
    refine m_iconst h dX8_come_12 ?_
    refine m_icmp_ne h dX8_come_13 (tgt := 24) (by decide) (by omega) (by omega) (fun c2 => ?_) (fun c2 => ?_)
    · skip
      refine m_iload_n h dX8_come_24 rfl rfl ?_
      refine m_iconst h dX8_come_25 ?_
      refine m_icmp_ne h dX8_come_26 (tgt := 42) (by decide) (by omega) (by omega) (fun c3 => ?_) (fun c3 => ?_)
      · skip
        refine m_iload_n h dX8_come_42 rfl rfl ?_
        refine m_iload_n h dX8_come_43 rfl rfl ?_
        refine m_icmp_ge h dX8_come_44 (tgt := 51) (by decide) (by omega) (by omega) (fun c4 => ?_) (fun c4 => ?_)
        · skip
          refine m_iload_n h dX8_come_51 rfl rfl ?_
          refine m_iret h hR rfl dX8_come_52 ?_
          refine ⟨rfl, by omega, ?_⟩
          rw [if_neg (by omega), if_neg (by omega)]
          split <;> omega
        · skip
          refine m_iload_n h dX8_come_47 rfl rfl ?_
          refine m_goto h dX8_come_48 (tgt := 52) (by decide) ?_
          refine m_iret h hR rfl dX8_come_52 ?_
          refine ⟨rfl, by omega, ?_⟩
          rw [if_neg (by omega), if_neg (by omega)]
          split <;> omega
      · skip
        refine m_iload_n h dX8_come_29 rfl rfl ?_
        refine m_iload_n h dX8_come_30 rfl rfl ?_
        refine m_icmp_le h dX8_come_31 (tgt := 38) (by decide) (by omega) (by omega) (fun c5 => ?_) (fun c5 => ?_)
        · skip
          refine m_iload_n h dX8_come_38 rfl rfl ?_
          refine m_goto h dX8_come_39 (tgt := 52) (by decide) ?_
          refine m_iret h hR rfl dX8_come_52 ?_
          refine ⟨rfl, by omega, ?_⟩
          rw [if_neg (by omega), if_neg (by omega)]
          split <;> omega
        · skip
          refine m_iload_n h dX8_come_34 rfl rfl ?_
          refine m_goto h dX8_come_35 (tgt := 52) (by decide) ?_
          refine m_iret h hR rfl dX8_come_52 ?_
          refine ⟨rfl, by omega, ?_⟩
          rw [if_neg (by omega), if_neg (by omega)]
          split <;> omega
    · skip
      refine m_iload_n h dX8_come_16 rfl rfl ?_
      refine m_iload_n h dX8_come_17 rfl rfl ?_
      refine m_sI h (m_down _ hG _ b c hb hc (hc0 (by omega))) moX8_down stX8_down lk_X8_94 dX8_come_18 (by decide) rfl rfl (Nat.le_of_ble_eq_true rfl) (fun q u7 p8 => ?_)
      obtain ⟨hu9, er⟩ := p8
      rw [hu9]
      have hfr := fd_rg (a := b) (b := c) (by omega) (hc0 (by omega))
      refine m_goto h dX8_come_21 (tgt := 52) (by decide) ?_
      refine m_iret h hR rfl dX8_come_52 ?_
      refine ⟨rfl, by omega, ?_⟩
      rw [if_neg (by omega), if_pos (by omega), er]
  · skip
    refine m_iload_n h dX8_come_5 rfl rfl ?_
    refine m_iload_n h dX8_come_6 rfl rfl ?_
    refine m_imul h dX8_come_7 ?_
    refine m_goto h dX8_come_8 (tgt := 52) (by decide) ?_
    refine m_iret h hR rfl dX8_come_52 ?_
    have := mulR hb hc
    refine ⟨rfl, by omega, ?_⟩
    rw [if_pos (by omega)]

set_option maxRecDepth 100000 in
set_option maxHeartbeats 4000000 in
theorem m_setBound (l : Launch) {G : GT} (hG : gok G) (v : Mem) (k z : Int) (hk : 0 ≤ k ∧ k < 16) : CC l G nX8_setBound 0 [.ref (G.2.1 25), .int (iI k), .int (iI z)] v (qV G (fun u => (k % 2 = 0 ∧ u = wI v 38 (k / 2) z) ∨ (k % 2 = 1 ∧ u = wI v 39 (k / 2) z))) := by
  refine m_start (lv := [some (.ref (G.2.1 25)), some (.int (iI k)), some (.int (iI z))]) hG (by decide +kernel) rfl (Nat.le_of_ble_eq_true rfl) ?_
  intro X hL h hR
  subst hL
  have e2 : k.tdiv 2 = k / 2 := Int.tdiv_eq_ediv_of_nonneg hk.1
  have e3 : k.tmod 2 = k % 2 := Int.tmod_eq_emod_of_nonneg hk.1
  show M X G 3 v 0 [some (.ref (G.2.1 25)), some (.int (iI k)), some (.int (iI z))] []
  refine m_iload_n h dX8_setBound_0 rfl rfl ?_
  refine m_iconst h dX8_setBound_1 ?_
  refine m_irem h dX8_setBound_2 (by omega) (by omega) (by omega) ?_
  refine m_if_ne h dX8_setBound_3 (tgt := 18) (by decide) (by omega) (fun c1 => ?_) (fun c1 => ?_)
  · skip
    refine m_aload_n h dX8_setBound_18 rfl rfl ?_
    refine m_get h fo_X8_54 (by decide) rfl rfl dX8_setBound_19 ?_
    refine m_iload_n h dX8_setBound_22 rfl rfl ?_
    refine m_iconst h dX8_setBound_23 ?_
    refine m_idiv h dX8_setBound_24 (by omega) (by omega) (by omega) ?_
    refine m_iload_n h dX8_setBound_25 rfl rfl ?_
    refine m_iast h (ar_39 G) (by omega) (by omega) dX8_setBound_26 ?_
    refine m_vret h hR rfl dX8_setBound_27 ?_
    exact Or.inr ⟨by omega, by rw [e2]⟩
  · skip
    refine m_aload_n h dX8_setBound_6 rfl rfl ?_
    refine m_get h fo_X8_51 (by decide) rfl rfl dX8_setBound_7 ?_
    refine m_iload_n h dX8_setBound_10 rfl rfl ?_
    refine m_iconst h dX8_setBound_11 ?_
    refine m_idiv h dX8_setBound_12 (by omega) (by omega) (by omega) ?_
    refine m_iload_n h dX8_setBound_13 rfl rfl ?_
    refine m_iast h (ar_38 G) (by omega) (by omega) dX8_setBound_14 ?_
    refine m_goto h dX8_setBound_15 (tgt := 27) (by decide) ?_
    refine m_vret h hR rfl dX8_setBound_27 ?_
    exact Or.inl ⟨by omega, by rw [e2]⟩

set_option maxRecDepth 100000 in
set_option maxHeartbeats 4000000 in
theorem m_isAbout (l : Launch) {G : GT} (hG : gok G) (v : Mem) (g : Cfg) (r : Nat) (hr : r < 12) (hg : RwG g r) (hv : RwM g r v) (n : Int) (hn : 0 ≤ n ∧ n < 8) : CC l G nX8_isAbout 0 [.ref (G.2.1 25), .int (iI (r : Int)), .int (iI n)] v (qI G (fun z u => u = v ∧ bz z (AbR g r n))) := by
  refine m_start (lv := [some (.ref (G.2.1 25)), some (.int (iI (r : Int))), some (.int (iI n))]) hG (by decide +kernel) rfl (Nat.le_of_ble_eq_true rfl) ?_
  intro X hL h hR
  subst hL
  obtain ⟨hv0, hv1, hv2, hv3, hv4, hv5⟩ := id hv
  have hv5 := hv5 n hn.1 hn.2
  have hf := hg.2.2.2.2.2.1 n
  have a1 := mN_rg hg.2.1
  have a2 := mN_rg hg.2.2.1
  have a3 := mN_rg hg.2.2.2.1
  have b1 := mN_eq (a := g_a g r 1) (x := n) (by have := hg.2.1; omega) hn.1
  have b2 := mN_eq (a := g_a g r 2) (x := n) (by have := hg.2.2.1; omega) hn.1
  have b3 := mN_eq (a := g_a g r 3) (x := n) (by have := hg.2.2.2.1; omega) hn.1
  show M X G 3 v 0 [some (.ref (G.2.1 25)), some (.int (iI (r : Int))), some (.int (iI n))] []
  refine m_aload_n h dX8_isAbout_0 rfl rfl ?_
  refine m_get h fo_X8_20 (by decide) rfl rfl dX8_isAbout_1 ?_
  refine m_iconst h dX8_isAbout_4 ?_
  refine m_iload_n h dX8_isAbout_5 rfl rfl ?_
  refine m_imul h dX8_isAbout_6 ?_
  refine m_iald h (ar_29 G) (by omega) (by omega) dX8_isAbout_7 ?_
  refine m_iload_n h dX8_isAbout_8 rfl rfl ?_
  refine m_icmp_eq h dX8_isAbout_9 (tgt := 54) (by decide) (by omega) (by omega) (fun c1 => ?_) (fun c1 => ?_)
  · skip
    refine m_iconst h dX8_isAbout_54 ?_
    refine m_goto h dX8_isAbout_55 (tgt := 59) (by decide) ?_
    refine m_zret h hR rfl dX8_isAbout_59 (by omega) ?_
    exact ⟨rfl, bz1 (by unfold AbR; omega)⟩
  · skip
    refine m_aload_n h dX8_isAbout_12 rfl rfl ?_
    refine m_get h fo_X8_20 (by decide) rfl rfl dX8_isAbout_13 ?_
    refine m_iconst h dX8_isAbout_16 ?_
    refine m_iload_n h dX8_isAbout_17 rfl rfl ?_
    refine m_imul h dX8_isAbout_18 ?_
    refine m_iconst h dX8_isAbout_19 ?_
    refine m_iadd h dX8_isAbout_20 ?_
    refine m_iald h (ar_29 G) (by omega) (by omega) dX8_isAbout_21 ?_
    refine m_iload_n h dX8_isAbout_22 rfl rfl ?_
    refine m_icmp_eq h dX8_isAbout_23 (tgt := 54) (by decide) (by omega) (by omega) (fun c2 => ?_) (fun c2 => ?_)
    · skip
      refine m_iconst h dX8_isAbout_54 ?_
      refine m_goto h dX8_isAbout_55 (tgt := 59) (by decide) ?_
      refine m_zret h hR rfl dX8_isAbout_59 (by omega) ?_
      exact ⟨rfl, bz1 (by unfold AbR; omega)⟩
    · skip
      refine m_aload_n h dX8_isAbout_26 rfl rfl ?_
      refine m_get h fo_X8_20 (by decide) rfl rfl dX8_isAbout_27 ?_
      refine m_iconst h dX8_isAbout_30 ?_
      refine m_iload_n h dX8_isAbout_31 rfl rfl ?_
      refine m_imul h dX8_isAbout_32 ?_
      refine m_iconst h dX8_isAbout_33 ?_
      refine m_iadd h dX8_isAbout_34 ?_
      refine m_iald h (ar_29 G) (by omega) (by omega) dX8_isAbout_35 ?_
      refine m_iload_n h dX8_isAbout_36 rfl rfl ?_
      refine m_icmp_eq h dX8_isAbout_37 (tgt := 54) (by decide) (by omega) (by omega) (fun c3 => ?_) (fun c3 => ?_)
      · skip
        refine m_iconst h dX8_isAbout_54 ?_
        refine m_goto h dX8_isAbout_55 (tgt := 59) (by decide) ?_
        refine m_zret h hR rfl dX8_isAbout_59 (by omega) ?_
        exact ⟨rfl, bz1 (by unfold AbR; omega)⟩
      · skip
        refine m_aload_n h dX8_isAbout_40 rfl rfl ?_
        refine m_get h fo_X8_26 (by decide) rfl rfl dX8_isAbout_41 ?_
        refine m_bipush h dX8_isAbout_44 (by decide) ?_
        refine m_iload_n h dX8_isAbout_46 rfl rfl ?_
        refine m_imul h dX8_isAbout_47 ?_
        refine m_iload_n h dX8_isAbout_48 rfl rfl ?_
        refine m_iadd h dX8_isAbout_49 ?_
        refine m_iald h (ar_31 G) (by omega) (by omega) dX8_isAbout_50 ?_
        refine m_if_eq h dX8_isAbout_51 (tgt := 58) (by decide) (by omega) (fun c4 => ?_) (fun c4 => ?_)
        · skip
          refine m_iconst h dX8_isAbout_58 ?_
          refine m_zret h hR rfl dX8_isAbout_59 (by omega) ?_
          exact ⟨rfl, bz0 (by unfold AbR; omega)⟩
        · skip
          refine m_iconst h dX8_isAbout_54 ?_
          refine m_goto h dX8_isAbout_55 (tgt := 59) (by decide) ?_
          refine m_zret h hR rfl dX8_isAbout_59 (by omega) ?_
          exact ⟨rfl, bz1 (by unfold AbR; omega)⟩
