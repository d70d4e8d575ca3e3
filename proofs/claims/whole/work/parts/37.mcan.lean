/-! the model: rows on trial -/
theorem cell_u {u : Mem} {i : Nat} {n z : Int} : (wI u i n z).1 i = up (u.1 i) n z := ad_u2

set_option maxRecDepth 100000 in
set_option maxHeartbeats 4000000 in
theorem m_byThree (l : Launch) {G : GT} (hG : gok G) (v : Mem) (g : Cfg) (r : Nat) (hr : r < 12) (hg : RwG g r) (hv : RwM g r v) (c : Nat) (hcn : g_n g = c) (hc : v.1 25 0 = c) (hc8 : c ≤ 8) (hlr : LHr c v) (hk : g_a g r 0 = 2 ∨ g_a g r 0 = 3 ∨ g_a g r 0 = 5 ∨ g_a g r 0 = 6) : CC l G nX8_byThree 2 [.ref (G.2.1 25), .int (iI (r : Int))] v (qI G (fun z u => u = v ∧ bz z (∃ x y, v.1 38 (g_a g r 2) ≤ x ∧ x ≤ v.1 39 (g_a g r 2) ∧ v.1 38 (g_a g r 3) ≤ y ∧ y ≤ v.1 39 (g_a g r 3) ∧ (g_a g r 0 = 3 → y ≠ 0) ∧ v.1 38 (g_a g r 1) ≤ (if g_a g r 0 = 2 then x * y else if g_a g r 0 = 3 then fd x y else if g_a g r 0 = 5 then max x y else min x y) ∧ (if g_a g r 0 = 2 then x * y else if g_a g r 0 = 3 then fd x y else if g_a g r 0 = 5 then max x y else min x y) ≤ v.1 39 (g_a g r 1)))) := by
  refine m_start (lv := [some (.ref (G.2.1 25)), some (.int (iI (r : Int))), none, none, none, none, none, none]) hG (by decide +kernel) rfl (Nat.le_of_ble_eq_true rfl) ?_
  intro X hL h hR
  subst hL
  obtain ⟨hv0, hv1, hv2, hv3, hv4, hv5⟩ := id hv
  obtain ⟨k0, k1, k2, k3, k4, k5, k6, k7⟩ := id hg
  obtain ⟨nk, na, nb, nc⟩ := id k6
  have na := na (by omega)
  have nb := nb (by omega) (by omega)
  have nc := nc (by omega)
  rw [mN_nn na] at hv1
  rw [mN_nn nb] at hv2
  rw [mN_nn nc] at hv3
  have la := k7 _ (Or.inl rfl) na
  have lb := k7 _ (Or.inr (Or.inl rfl)) nb
  have lc := k7 _ (Or.inr (Or.inr (Or.inl rfl))) nc
  have ra := hlr _ na (by omega)
  have rb := hlr _ nb (by omega)
  have rc := hlr _ nc (by omega)
  show M X G 8 v 0 [some (.ref (G.2.1 25)), some (.int (iI (r : Int))), none, none, none, none, none, none] []
  refine m_aload_n h dX8_byThree_0 rfl rfl ?_
  refine m_get h fo_X8_20 (by decide) rfl rfl dX8_byThree_1 ?_
  refine m_iconst h dX8_byThree_4 ?_
  refine m_iload_n h dX8_byThree_5 rfl rfl ?_
  refine m_imul h dX8_byThree_6 ?_
  refine m_iald h (ar_29 G) (by omega) (by omega) dX8_byThree_7 ?_
  rw [hv1]
  show M X G 8 v 8 [some (.ref (G.2.1 25)), some (.int (iI (r : Int))), none, none, none, none, none, none] [.int (iI (g_a g r 1))]
  refine m_istore_n h dX8_byThree_8 rfl (by decide) rfl ?_
  refine m_aload_n h dX8_byThree_9 rfl rfl ?_
  refine m_get h fo_X8_20 (by decide) rfl rfl dX8_byThree_10 ?_
  refine m_iconst h dX8_byThree_13 ?_
  refine m_iload_n h dX8_byThree_14 rfl rfl ?_
  refine m_imul h dX8_byThree_15 ?_
  refine m_iconst h dX8_byThree_16 ?_
  refine m_iadd h dX8_byThree_17 ?_
  refine m_iald h (ar_29 G) (by omega) (by omega) dX8_byThree_18 ?_
  rw [hv2]
  show M X G 8 v 19 [some (.ref (G.2.1 25)), some (.int (iI (r : Int))), some (.int (iI (g_a g r 1))), none, none, none, none, none] [.int (iI (g_a g r 2))]
  refine m_istore_n h dX8_byThree_19 rfl (by decide) rfl ?_
  refine m_aload_n h dX8_byThree_20 rfl rfl ?_
  refine m_get h fo_X8_20 (by decide) rfl rfl dX8_byThree_21 ?_
  refine m_iconst h dX8_byThree_24 ?_
  refine m_iload_n h dX8_byThree_25 rfl rfl ?_
  refine m_imul h dX8_byThree_26 ?_
  refine m_iconst h dX8_byThree_27 ?_
  refine m_iadd h dX8_byThree_28 ?_
  refine m_iald h (ar_29 G) (by omega) (by omega) dX8_byThree_29 ?_
  rw [hv3]
  show M X G 8 v 30 [some (.ref (G.2.1 25)), some (.int (iI (r : Int))), some (.int (iI (g_a g r 1))), some (.int (iI (g_a g r 2))), none, none, none, none] [.int (iI (g_a g r 3))]
  refine m_istore h dX8_byThree_30 (by decide) rfl ?_
  refine m_aload_n h dX8_byThree_32 rfl rfl ?_
  refine m_get h fo_X8_51 (by decide) rfl rfl dX8_byThree_33 ?_
  refine m_iload_n h dX8_byThree_36 rfl rfl ?_
  refine m_iald h (ar_38 G) (by omega) (by omega) dX8_byThree_37 ?_
  refine m_istore h dX8_byThree_38 (by decide) rfl ?_
  have lp40 : ∀ (fuel : Nat) (x : Int), v.1 38 (g_a g r 2) ≤ x → x ≤ 32 → (40 - x).toNat < fuel → (∀ x0 y, v.1 38 (g_a g r 2) ≤ x0 → x0 < x → v.1 38 (g_a g r 3) ≤ y → y ≤ v.1 39 (g_a g r 3) → ¬ ((g_a g r 0 = 3 → y ≠ 0) ∧ v.1 38 (g_a g r 1) ≤ (if g_a g r 0 = 2 then x0 * y else if g_a g r 0 = 3 then fd x0 y else if g_a g r 0 = 5 then max x0 y else min x0 y) ∧ (if g_a g r 0 = 2 then x0 * y else if g_a g r 0 = 3 then fd x0 y else if g_a g r 0 = 5 then max x0 y else min x0 y) ≤ v.1 39 (g_a g r 1))) → M X G 8 v 40 [some (.ref (G.2.1 25)), some (.int (iI (r : Int))), some (.int (iI (g_a g r 1))), some (.int (iI (g_a g r 2))), some (.int (iI (g_a g r 3))), some (.int (iI x)), none, none] [] := by
    intro fuel
    induction fuel with
    | zero => intro x hx0 hx1 hfu hall; exfalso; omega
    | succ fuel ih =>
      intro x hx0 hx1 hfu hall
      refine m_iload h dX8_byThree_40 rfl ?_
      refine m_aload_n h dX8_byThree_42 rfl rfl ?_
      refine m_get h fo_X8_54 (by decide) rfl rfl dX8_byThree_43 ?_
      refine m_iload_n h dX8_byThree_46 rfl rfl ?_
      refine m_iald h (ar_39 G) (by omega) (by omega) dX8_byThree_47 ?_
      refine m_icmp_gt h dX8_byThree_48 (tgt := 134) (by decide) (by omega) (by omega) (fun c1 => ?_) (fun c1 => ?_)
      · skip
        refine m_iconst h dX8_byThree_134 ?_
        refine m_zret h hR rfl dX8_byThree_135 (by omega) ?_
        refine ⟨rfl, bz0 ?_⟩
        rintro ⟨x0, y0, q1, q2, q3, q4, q5⟩
        exact hall x0 y0 q1 (by omega) q3 q4 q5
      · skip
        refine m_aload_n h dX8_byThree_51 rfl rfl ?_
        refine m_get h fo_X8_51 (by decide) rfl rfl dX8_byThree_52 ?_
        refine m_iload h dX8_byThree_55 rfl ?_
        refine m_iald h (ar_38 G) (by omega) (by omega) dX8_byThree_57 ?_
        refine m_istore h dX8_byThree_58 (by decide) rfl ?_
        have lp60 : ∀ (fuel : Nat) (y : Int), v.1 38 (g_a g r 3) ≤ y → y ≤ 32 → (40 - y).toNat < fuel → (∀ y0, v.1 38 (g_a g r 3) ≤ y0 → y0 < y → ¬ ((g_a g r 0 = 3 → y0 ≠ 0) ∧ v.1 38 (g_a g r 1) ≤ (if g_a g r 0 = 2 then x * y0 else if g_a g r 0 = 3 then fd x y0 else if g_a g r 0 = 5 then max x y0 else min x y0) ∧ (if g_a g r 0 = 2 then x * y0 else if g_a g r 0 = 3 then fd x y0 else if g_a g r 0 = 5 then max x y0 else min x y0) ≤ v.1 39 (g_a g r 1))) → M X G 8 v 60 [some (.ref (G.2.1 25)), some (.int (iI (r : Int))), some (.int (iI (g_a g r 1))), some (.int (iI (g_a g r 2))), some (.int (iI (g_a g r 3))), some (.int (iI x)), some (.int (iI y)), none] [] := by
          intro fuel
          induction fuel with
          | zero => intro y hy0 hy1 hfu2 hally; exfalso; omega
          | succ fuel ih2 =>
            intro y hy0 hy1 hfu2 hally
            refine m_iload h dX8_byThree_60 rfl ?_
            refine m_aload_n h dX8_byThree_62 rfl rfl ?_
            refine m_get h fo_X8_54 (by decide) rfl rfl dX8_byThree_63 ?_
            refine m_iload h dX8_byThree_66 rfl ?_
            refine m_iald h (ar_39 G) (by omega) (by omega) dX8_byThree_68 ?_
            refine m_icmp_gt h dX8_byThree_69 (tgt := 128) (by decide) (by omega) (by omega) (fun c2 => ?_) (fun c2 => ?_)
            · skip
              refine m_iinc h dX8_byThree_128 rfl (by decide) rfl ?_
              refine m_goto h dX8_byThree_131 (tgt := 40) (by decide) ?_
              refine m_kill 6 ?_
              exact ih (x + 1) (by omega) (by omega) (by omega) (fun x0 y' q1 q2 q3 q4 => if e : x0 < x then hall x0 y' q1 e q3 q4 else by
                obtain rfl : x0 = x := by omega
                exact hally y' q3 (by omega))
            · skip
              refine m_aload_n h dX8_byThree_72 rfl rfl ?_
              refine m_get h fo_X8_16 (by decide) rfl rfl dX8_byThree_73 ?_
              refine m_iload_n h dX8_byThree_76 rfl rfl ?_
              refine m_iald h (ar_28 G) (by omega) (by omega) dX8_byThree_77 ?_
              refine m_iconst h dX8_byThree_78 ?_
              refine m_icmp_ne h dX8_byThree_79 (tgt := 87) (by decide) (by omega) (by omega) (fun c3 => ?_) (fun c3 => ?_)
              · skip
                refine m_iconst h dX8_byThree_87 ?_
                refine m_goto h dX8_byThree_88 (tgt := 92) (by decide) ?_
                refine m_istore h dX8_byThree_92 (by decide) rfl ?_
                refine m_iload h dX8_byThree_94 rfl ?_
                refine m_if_eq h dX8_byThree_96 (tgt := 122) (by decide) (by omega) (fun c4 => ?_) (fun c4 => ?_)
                · skip
                  omega
                · skip
                  refine m_aload_n h dX8_byThree_99 rfl rfl ?_
                  refine m_iload_n h dX8_byThree_100 rfl rfl ?_
                  refine m_aload_n h dX8_byThree_101 rfl rfl ?_
                  refine m_get h fo_X8_16 (by decide) rfl rfl dX8_byThree_102 ?_
                  refine m_iload_n h dX8_byThree_105 rfl rfl ?_
                  refine m_iald h (ar_28 G) (by omega) (by omega) dX8_byThree_106 ?_
                  rw [hv0]
                  show M X G 8 v 107 [some (.ref (G.2.1 25)), some (.int (iI (r : Int))), some (.int (iI (g_a g r 1))), some (.int (iI (g_a g r 2))), some (.int (iI (g_a g r 3))), some (.int (iI x)), some (.int (iI y)), some (.int (iI 1))] [.int (iI (g_a g r 0)), .int (iI (g_a g r 1)), .ref (G.2.1 25)]
                  refine m_iload h dX8_byThree_107 rfl ?_
                  refine m_iload h dX8_byThree_109 rfl ?_
                  refine m_sI h (m_come _ hG _ (g_a g r 0) x y hk (by omega) (by omega) (by omega)) moX8_come stX8_come lk_X8_98 dX8_byThree_111 (by decide) rfl rfl (Nat.le_of_ble_eq_true rfl) (fun w u6 p7 => ?_)
                  obtain ⟨hu9, hwr, er⟩ := p7
                  rw [hu9]
                  refine m_vI h (m_may _ hG _ (c : Int) (g_a g r 1) w hwr (by omega) (by omega) hlr) moX8_may voX8_may lk_X8_102 dX8_byThree_114 (by decide) (by decide) rfl rfl rfl (Nat.le_of_ble_eq_true rfl) (fun r8 u9 p10 => ?_)
                  obtain ⟨hu8, hb⟩ := p10
                  rw [hu8]
                  have hbi := hb.in
                  refine m_if_eq h dX8_byThree_117 (tgt := 122) (by decide) (by omega) (fun c11 => ?_) (fun c11 => ?_)
                  · skip
                    refine m_iinc h dX8_byThree_122 rfl (by decide) rfl ?_
                    refine m_goto h dX8_byThree_125 (tgt := 60) (by decide) ?_
                    refine m_kill 7 ?_
                    exact ih2 (y + 1) (by omega) (by omega) (by omega) (fun y0 q1 q2 => if e : y0 < y then hally y0 q1 e else by
                      obtain rfl : y0 = y := by omega
                      first | exact (fun q => hb.no (by omega) (by rw [er]; exact q.2)) | exact (fun q => absurd (q.1 (by omega)) (by omega)))
                  · skip
                    refine m_iconst h dX8_byThree_120 ?_
                    refine m_zret h hR rfl dX8_byThree_121 (by omega) ?_
                    exact ⟨rfl, bz1 ⟨x, y, by omega, by omega, by omega, by omega, by omega, by have := hb.yes (by omega); rw [er] at this; exact this⟩⟩
              · skip
                refine m_iload h dX8_byThree_82 rfl ?_
                refine m_if_eq h dX8_byThree_84 (tgt := 91) (by decide) (by omega) (fun c12 => ?_) (fun c12 => ?_)
                · skip
                  refine m_iconst h dX8_byThree_91 ?_
                  refine m_istore h dX8_byThree_92 (by decide) rfl ?_
                  refine m_iload h dX8_byThree_94 rfl ?_
                  refine m_if_eq h dX8_byThree_96 (tgt := 122) (by decide) (by omega) (fun c13 => ?_) (fun c13 => ?_)
                  · skip
                    refine m_iinc h dX8_byThree_122 rfl (by decide) rfl ?_
                    refine m_goto h dX8_byThree_125 (tgt := 60) (by decide) ?_
                    refine m_kill 7 ?_
                    exact ih2 (y + 1) (by omega) (by omega) (by omega) (fun y0 q1 q2 => if e : y0 < y then hally y0 q1 e else by
                      obtain rfl : y0 = y := by omega
                      first | exact (fun q => hb.no (by omega) (by rw [er]; exact q.2)) | exact (fun q => absurd (q.1 (by omega)) (by omega)))
                  · skip
                    omega
                · skip
                  refine m_iconst h dX8_byThree_87 ?_
                  refine m_goto h dX8_byThree_88 (tgt := 92) (by decide) ?_
                  refine m_istore h dX8_byThree_92 (by decide) rfl ?_
                  refine m_iload h dX8_byThree_94 rfl ?_
                  refine m_if_eq h dX8_byThree_96 (tgt := 122) (by decide) (by omega) (fun c14 => ?_) (fun c14 => ?_)
                  · skip
                    omega
                  · skip
                    refine m_aload_n h dX8_byThree_99 rfl rfl ?_
                    refine m_iload_n h dX8_byThree_100 rfl rfl ?_
                    refine m_aload_n h dX8_byThree_101 rfl rfl ?_
                    refine m_get h fo_X8_16 (by decide) rfl rfl dX8_byThree_102 ?_
                    refine m_iload_n h dX8_byThree_105 rfl rfl ?_
                    refine m_iald h (ar_28 G) (by omega) (by omega) dX8_byThree_106 ?_
                    rw [hv0]
                    show M X G 8 v 107 [some (.ref (G.2.1 25)), some (.int (iI (r : Int))), some (.int (iI (g_a g r 1))), some (.int (iI (g_a g r 2))), some (.int (iI (g_a g r 3))), some (.int (iI x)), some (.int (iI y)), some (.int (iI 1))] [.int (iI (g_a g r 0)), .int (iI (g_a g r 1)), .ref (G.2.1 25)]
                    refine m_iload h dX8_byThree_107 rfl ?_
                    refine m_iload h dX8_byThree_109 rfl ?_
                    refine m_sI h (m_come _ hG _ (g_a g r 0) x y hk (by omega) (by omega) (by omega)) moX8_come stX8_come lk_X8_98 dX8_byThree_111 (by decide) rfl rfl (Nat.le_of_ble_eq_true rfl) (fun w u16 p17 => ?_)
                    obtain ⟨hu9, hwr, er⟩ := p17
                    rw [hu9]
                    refine m_vI h (m_may _ hG _ (c : Int) (g_a g r 1) w hwr (by omega) (by omega) hlr) moX8_may voX8_may lk_X8_102 dX8_byThree_114 (by decide) (by decide) rfl rfl rfl (Nat.le_of_ble_eq_true rfl) (fun r18 u19 p20 => ?_)
                    obtain ⟨hu8, hb⟩ := p20
                    rw [hu8]
                    have hbi := hb.in
                    refine m_if_eq h dX8_byThree_117 (tgt := 122) (by decide) (by omega) (fun c21 => ?_) (fun c21 => ?_)
                    · skip
                      refine m_iinc h dX8_byThree_122 rfl (by decide) rfl ?_
                      refine m_goto h dX8_byThree_125 (tgt := 60) (by decide) ?_
                      refine m_kill 7 ?_
                      exact ih2 (y + 1) (by omega) (by omega) (by omega) (fun y0 q1 q2 => if e : y0 < y then hally y0 q1 e else by
                        obtain rfl : y0 = y := by omega
                        first | exact (fun q => hb.no (by omega) (by rw [er]; exact q.2)) | exact (fun q => absurd (q.1 (by omega)) (by omega)))
                    · skip
                      refine m_iconst h dX8_byThree_120 ?_
                      refine m_zret h hR rfl dX8_byThree_121 (by omega) ?_
                      exact ⟨rfl, bz1 ⟨x, y, by omega, by omega, by omega, by omega, by omega, by have := hb.yes (by omega); rw [er] at this; exact this⟩⟩
        exact lp60 100 _ (by omega) (by omega) (by omega) (fun y0 q1 q2 => by omega)
  exact lp40 100 _ (by omega) (by omega) (by omega) (fun x0 y q1 q2 => by omega)

set_option maxRecDepth 100000 in
set_option maxHeartbeats 4000000 in
theorem m_byTwo (l : Launch) {G : GT} (hG : gok G) (v : Mem) (g : Cfg) (r : Nat) (hr : r < 12) (hg : RwG g r) (hv : RwM g r v) (c : Nat) (hcn : g_n g = c) (hc : v.1 25 0 = c) (hc8 : c ≤ 8) (hlr : LHr c v) (hk : g_a g r 0 = 4 ∨ g_a g r 0 = 7) : CC l G nX8_byTwo 0 [.ref (G.2.1 25), .int (iI (r : Int))] v (qI G (fun z u => u = v ∧ bz z (∃ x y, v.1 38 (g_a g r 1) ≤ x ∧ x ≤ v.1 39 (g_a g r 1) ∧ v.1 38 (g_a g r 2) ≤ y ∧ y ≤ v.1 39 (g_a g r 2) ∧ ((g_a g r 0 = 4 ∧ ((0 ≤ y ∧ x = y) ∨ (y < 0 ∧ x = -y))) ∨ (g_a g r 0 = 7 ∧ x ≠ y + g_a g r 4))))) := by
  refine m_start (lv := [some (.ref (G.2.1 25)), some (.int (iI (r : Int))), none, none, none, none, none]) hG (by decide +kernel) rfl (Nat.le_of_ble_eq_true rfl) ?_
  intro X hL h hR
  subst hL
  obtain ⟨hv0, hv1, hv2, hv3, hv4, hv5⟩ := id hv
  obtain ⟨k0, k1, k2, k3, k4, k5, k6, k7⟩ := id hg
  obtain ⟨nk, na, nb, nc⟩ := id k6
  have na := na (by omega)
  have nb := nb (by omega) (by omega)
  rw [mN_nn na] at hv1
  rw [mN_nn nb] at hv2
  have la := k7 _ (Or.inl rfl) na
  have lb := k7 _ (Or.inr (Or.inl rfl)) nb
  have ra := hlr _ na (by omega)
  have rb := hlr _ nb (by omega)
  show M X G 7 v 0 [some (.ref (G.2.1 25)), some (.int (iI (r : Int))), none, none, none, none, none] []
  refine m_aload_n h dX8_byTwo_0 rfl rfl ?_
  refine m_get h fo_X8_20 (by decide) rfl rfl dX8_byTwo_1 ?_
  refine m_iconst h dX8_byTwo_4 ?_
  refine m_iload_n h dX8_byTwo_5 rfl rfl ?_
  refine m_imul h dX8_byTwo_6 ?_
  refine m_iald h (ar_29 G) (by omega) (by omega) dX8_byTwo_7 ?_
  rw [hv1]
  show M X G 7 v 8 [some (.ref (G.2.1 25)), some (.int (iI (r : Int))), none, none, none, none, none] [.int (iI (g_a g r 1))]
  refine m_istore_n h dX8_byTwo_8 rfl (by decide) rfl ?_
  refine m_aload_n h dX8_byTwo_9 rfl rfl ?_
  refine m_get h fo_X8_20 (by decide) rfl rfl dX8_byTwo_10 ?_
  refine m_iconst h dX8_byTwo_13 ?_
  refine m_iload_n h dX8_byTwo_14 rfl rfl ?_
  refine m_imul h dX8_byTwo_15 ?_
  refine m_iconst h dX8_byTwo_16 ?_
  refine m_iadd h dX8_byTwo_17 ?_
  refine m_iald h (ar_29 G) (by omega) (by omega) dX8_byTwo_18 ?_
  rw [hv2]
  show M X G 7 v 19 [some (.ref (G.2.1 25)), some (.int (iI (r : Int))), some (.int (iI (g_a g r 1))), none, none, none, none] [.int (iI (g_a g r 2))]
  refine m_istore_n h dX8_byTwo_19 rfl (by decide) rfl ?_
  refine m_aload_n h dX8_byTwo_20 rfl rfl ?_
  refine m_get h fo_X8_51 (by decide) rfl rfl dX8_byTwo_21 ?_
  refine m_iload_n h dX8_byTwo_24 rfl rfl ?_
  refine m_iald h (ar_38 G) (by omega) (by omega) dX8_byTwo_25 ?_
  refine m_istore h dX8_byTwo_26 (by decide) rfl ?_
  have lp28 : ∀ (fuel : Nat) (x : Int), v.1 38 (g_a g r 1) ≤ x → x ≤ 32 → (40 - x).toNat < fuel → (∀ x0 y, v.1 38 (g_a g r 1) ≤ x0 → x0 < x → v.1 38 (g_a g r 2) ≤ y → y ≤ v.1 39 (g_a g r 2) → ¬ (((g_a g r 0 = 4 ∧ ((0 ≤ y ∧ x0 = y) ∨ (y < 0 ∧ x0 = -y))) ∨ (g_a g r 0 = 7 ∧ x0 ≠ y + g_a g r 4)))) → M X G 7 v 28 [some (.ref (G.2.1 25)), some (.int (iI (r : Int))), some (.int (iI (g_a g r 1))), some (.int (iI (g_a g r 2))), some (.int (iI x)), none, none] [] := by
    intro fuel
    induction fuel with
    | zero => intro x hx0 hx1 hfu hall; exfalso; omega
    | succ fuel ih =>
      intro x hx0 hx1 hfu hall
      refine m_iload h dX8_byTwo_28 rfl ?_
      refine m_aload_n h dX8_byTwo_30 rfl rfl ?_
      refine m_get h fo_X8_54 (by decide) rfl rfl dX8_byTwo_31 ?_
      refine m_iload_n h dX8_byTwo_34 rfl rfl ?_
      refine m_iald h (ar_39 G) (by omega) (by omega) dX8_byTwo_35 ?_
      refine m_icmp_gt h dX8_byTwo_36 (tgt := 134) (by decide) (by omega) (by omega) (fun c1 => ?_) (fun c1 => ?_)
      · skip
        refine m_iconst h dX8_byTwo_134 ?_
        refine m_zret h hR rfl dX8_byTwo_135 (by omega) ?_
        refine ⟨rfl, bz0 ?_⟩
        rintro ⟨x0, y0, q1, q2, q3, q4, q5⟩
        exact hall x0 y0 q1 (by omega) q3 q4 q5
      · skip
        refine m_aload_n h dX8_byTwo_39 rfl rfl ?_
        refine m_get h fo_X8_51 (by decide) rfl rfl dX8_byTwo_40 ?_
        refine m_iload_n h dX8_byTwo_43 rfl rfl ?_
        refine m_iald h (ar_38 G) (by omega) (by omega) dX8_byTwo_44 ?_
        refine m_istore h dX8_byTwo_45 (by decide) rfl ?_
        have lp47 : ∀ (fuel : Nat) (y : Int), v.1 38 (g_a g r 2) ≤ y → y ≤ 32 → (40 - y).toNat < fuel → (∀ y0, v.1 38 (g_a g r 2) ≤ y0 → y0 < y → ¬ (((g_a g r 0 = 4 ∧ ((0 ≤ y0 ∧ x = y0) ∨ (y0 < 0 ∧ x = -y0))) ∨ (g_a g r 0 = 7 ∧ x ≠ y0 + g_a g r 4)))) → M X G 7 v 47 [some (.ref (G.2.1 25)), some (.int (iI (r : Int))), some (.int (iI (g_a g r 1))), some (.int (iI (g_a g r 2))), some (.int (iI x)), some (.int (iI y)), none] [] := by
          intro fuel
          induction fuel with
          | zero => intro y hy0 hy1 hfu2 hally; exfalso; omega
          | succ fuel ih2 =>
            intro y hy0 hy1 hfu2 hally
            refine m_iload h dX8_byTwo_47 rfl ?_
            refine m_aload_n h dX8_byTwo_49 rfl rfl ?_
            refine m_get h fo_X8_54 (by decide) rfl rfl dX8_byTwo_50 ?_
            refine m_iload_n h dX8_byTwo_53 rfl rfl ?_
            refine m_iald h (ar_39 G) (by omega) (by omega) dX8_byTwo_54 ?_
            refine m_icmp_gt h dX8_byTwo_55 (tgt := 128) (by decide) (by omega) (by omega) (fun c2 => ?_) (fun c2 => ?_)
            · skip
              refine m_iinc h dX8_byTwo_128 rfl (by decide) rfl ?_
              refine m_goto h dX8_byTwo_131 (tgt := 28) (by decide) ?_
              refine m_kill 5 ?_
              exact ih (x + 1) (by omega) (by omega) (by omega) (fun x0 y' q1 q2 q3 q4 => if e : x0 < x then hall x0 y' q1 e q3 q4 else by
                obtain rfl : x0 = x := by omega
                exact hally y' q3 (by omega))
            · skip
              refine m_aload_n h dX8_byTwo_58 rfl rfl ?_
              refine m_get h fo_X8_16 (by decide) rfl rfl dX8_byTwo_59 ?_
              refine m_iload_n h dX8_byTwo_62 rfl rfl ?_
              refine m_iald h (ar_28 G) (by omega) (by omega) dX8_byTwo_63 ?_
              refine m_iconst h dX8_byTwo_64 ?_
              refine m_icmp_ne h dX8_byTwo_65 (tgt := 94) (by decide) (by omega) (by omega) (fun c3 => ?_) (fun c3 => ?_)
              · skip
                refine m_iload h dX8_byTwo_94 rfl ?_
                refine m_iload h dX8_byTwo_96 rfl ?_
                refine m_aload_n h dX8_byTwo_98 rfl rfl ?_
                refine m_get h fo_X8_23 (by decide) rfl rfl dX8_byTwo_99 ?_
                refine m_iload_n h dX8_byTwo_102 rfl rfl ?_
                refine m_iald h (ar_30 G) (by omega) (by omega) dX8_byTwo_103 ?_
                refine m_iadd h dX8_byTwo_104 ?_
                refine m_icmp_eq h dX8_byTwo_105 (tgt := 112) (by decide) (by omega) (by omega) (fun c4 => ?_) (fun c4 => ?_)
                · skip
                  refine m_iconst h dX8_byTwo_112 ?_
                  refine m_istore h dX8_byTwo_113 (by decide) rfl ?_
                  refine m_iload h dX8_byTwo_115 rfl ?_
                  refine m_if_eq h dX8_byTwo_117 (tgt := 122) (by decide) (by omega) (fun c5 => ?_) (fun c5 => ?_)
                  · skip
                    refine m_iinc h dX8_byTwo_122 rfl (by decide) rfl ?_
                    refine m_goto h dX8_byTwo_125 (tgt := 47) (by decide) ?_
                    refine m_kill 6 ?_
                    exact ih2 (y + 1) (by omega) (by omega) (by omega) (fun y0 q1 q2 => if e : y0 < y then hally y0 q1 e else by omega)
                  · skip
                    omega
                · skip
                  refine m_iconst h dX8_byTwo_108 ?_
                  refine m_goto h dX8_byTwo_109 (tgt := 113) (by decide) ?_
                  refine m_istore h dX8_byTwo_113 (by decide) rfl ?_
                  refine m_iload h dX8_byTwo_115 rfl ?_
                  refine m_if_eq h dX8_byTwo_117 (tgt := 122) (by decide) (by omega) (fun c6 => ?_) (fun c6 => ?_)
                  · skip
                    omega
                  · skip
                    refine m_iconst h dX8_byTwo_120 ?_
                    refine m_zret h hR rfl dX8_byTwo_121 (by omega) ?_
                    exact ⟨rfl, bz1 ⟨x, y, by omega, by omega, by omega, by omega, by omega⟩⟩
              · skip
                refine m_iload h dX8_byTwo_68 rfl ?_
                refine m_iload h dX8_byTwo_70 rfl ?_
                refine m_if_ge h dX8_byTwo_72 (tgt := 81) (by decide) (by omega) (fun c7 => ?_) (fun c7 => ?_)
                · skip
                  refine m_iload h dX8_byTwo_81 rfl ?_
                  refine m_icmp_ne h dX8_byTwo_83 (tgt := 90) (by decide) (by omega) (by omega) (fun c8 => ?_) (fun c8 => ?_)
                  · skip
                    refine m_iconst h dX8_byTwo_90 ?_
                    refine m_goto h dX8_byTwo_91 (tgt := 113) (by decide) ?_
                    refine m_istore h dX8_byTwo_113 (by decide) rfl ?_
                    refine m_iload h dX8_byTwo_115 rfl ?_
                    refine m_if_eq h dX8_byTwo_117 (tgt := 122) (by decide) (by omega) (fun c9 => ?_) (fun c9 => ?_)
                    · skip
                      refine m_iinc h dX8_byTwo_122 rfl (by decide) rfl ?_
                      refine m_goto h dX8_byTwo_125 (tgt := 47) (by decide) ?_
                      refine m_kill 6 ?_
                      exact ih2 (y + 1) (by omega) (by omega) (by omega) (fun y0 q1 q2 => if e : y0 < y then hally y0 q1 e else by omega)
                    · skip
                      omega
                  · skip
                    refine m_iconst h dX8_byTwo_86 ?_
                    refine m_goto h dX8_byTwo_87 (tgt := 113) (by decide) ?_
                    refine m_istore h dX8_byTwo_113 (by decide) rfl ?_
                    refine m_iload h dX8_byTwo_115 rfl ?_
                    refine m_if_eq h dX8_byTwo_117 (tgt := 122) (by decide) (by omega) (fun c10 => ?_) (fun c10 => ?_)
                    · skip
                      omega
                    · skip
                      refine m_iconst h dX8_byTwo_120 ?_
                      refine m_zret h hR rfl dX8_byTwo_121 (by omega) ?_
                      exact ⟨rfl, bz1 ⟨x, y, by omega, by omega, by omega, by omega, by omega⟩⟩
                · skip
                  refine m_iload h dX8_byTwo_75 rfl ?_
                  refine m_ineg h dX8_byTwo_77 ?_
                  refine m_goto h dX8_byTwo_78 (tgt := 83) (by decide) ?_
                  refine m_icmp_ne h dX8_byTwo_83 (tgt := 90) (by decide) (by omega) (by omega) (fun c11 => ?_) (fun c11 => ?_)
                  · skip
                    refine m_iconst h dX8_byTwo_90 ?_
                    refine m_goto h dX8_byTwo_91 (tgt := 113) (by decide) ?_
                    refine m_istore h dX8_byTwo_113 (by decide) rfl ?_
                    refine m_iload h dX8_byTwo_115 rfl ?_
                    refine m_if_eq h dX8_byTwo_117 (tgt := 122) (by decide) (by omega) (fun c12 => ?_) (fun c12 => ?_)
                    · skip
                      refine m_iinc h dX8_byTwo_122 rfl (by decide) rfl ?_
                      refine m_goto h dX8_byTwo_125 (tgt := 47) (by decide) ?_
                      refine m_kill 6 ?_
                      exact ih2 (y + 1) (by omega) (by omega) (by omega) (fun y0 q1 q2 => if e : y0 < y then hally y0 q1 e else by omega)
                    · skip
                      omega
                  · skip
                    refine m_iconst h dX8_byTwo_86 ?_
                    refine m_goto h dX8_byTwo_87 (tgt := 113) (by decide) ?_
                    refine m_istore h dX8_byTwo_113 (by decide) rfl ?_
                    refine m_iload h dX8_byTwo_115 rfl ?_
                    refine m_if_eq h dX8_byTwo_117 (tgt := 122) (by decide) (by omega) (fun c13 => ?_) (fun c13 => ?_)
                    · skip
                      omega
                    · skip
                      refine m_iconst h dX8_byTwo_120 ?_
                      refine m_zret h hR rfl dX8_byTwo_121 (by omega) ?_
                      exact ⟨rfl, bz1 ⟨x, y, by omega, by omega, by omega, by omega, by omega⟩⟩
        exact lp47 100 _ (by omega) (by omega) (by omega) (fun y0 q1 q2 => by omega)
  exact lp28 100 _ (by omega) (by omega) (by omega) (fun x0 y q1 q2 => by omega)

set_option maxRecDepth 100000 in
set_option maxHeartbeats 4000000 in
theorem m_byCount (l : Launch) {G : GT} (hG : gok G) (v : Mem) (g : Cfg) (r : Nat) (hr : r < 12) (hg : RwG g r) (hv : RwM g r v) (c : Nat) (hcn : g_n g = c) (hc : v.1 25 0 = c) (hc8 : c ≤ 8) (hlr : LHr c v) (hk : g_a g r 0 = 9) : CC l G nX8_byCount 2 [.ref (G.2.1 25), .int (iI (r : Int))] v (qI G (fun z u => u = v ∧ bz z (v.1 38 (g_a g r 1) ≤ sm (fun i => if g_f g r i ≠ 0 ∧ v.1 38 i ≤ g_a g r 4 ∧ g_a g r 4 ≤ v.1 39 i then (1 : Int) else 0) c ∧ sm (fun i => if g_f g r i ≠ 0 ∧ v.1 38 i = g_a g r 4 ∧ v.1 39 i = g_a g r 4 then (1 : Int) else 0) c ≤ v.1 39 (g_a g r 1)))) := by
  refine m_start (lv := [some (.ref (G.2.1 25)), some (.int (iI (r : Int))), none, none, none]) hG (by decide +kernel) rfl (Nat.le_of_ble_eq_true rfl) ?_
  intro X hL h hR
  subst hL
  obtain ⟨hv0, hv1, hv2, hv3, hv4, hv5⟩ := id hv
  obtain ⟨k0, k1, k2, k3, k4, k5, k6, k7⟩ := id hg
  obtain ⟨nk, na, nb, nc⟩ := id k6
  have na := na (by omega)
  rw [mN_nn na] at hv1
  have la := k7 _ (Or.inl rfl) na
  have ra := hlr _ na (by omega)
  show M X G 5 v 0 [some (.ref (G.2.1 25)), some (.int (iI (r : Int))), none, none, none] []
  refine m_iconst h dX8_byCount_0 ?_
  refine m_istore_n h dX8_byCount_1 rfl (by decide) rfl ?_
  refine m_iconst h dX8_byCount_2 ?_
  refine m_istore_n h dX8_byCount_3 rfl (by decide) rfl ?_
  refine m_iconst h dX8_byCount_4 ?_
  refine m_istore h dX8_byCount_5 (by decide) rfl ?_
  have lp7 : ∀ (fuel : Nat) (j : Nat) (A : Int) (B : Int), j ≤ c → 20 - j < fuel → A = sm (fun i => if g_f g r i ≠ 0 ∧ v.1 38 i = g_a g r 4 ∧ v.1 39 i = g_a g r 4 then (1 : Int) else 0) j → B = sm (fun i => if g_f g r i ≠ 0 ∧ v.1 38 i ≤ g_a g r 4 ∧ g_a g r 4 ≤ v.1 39 i then (1 : Int) else 0) j → 0 ≤ A ∧ A ≤ j → 0 ≤ B ∧ B ≤ j → M X G 5 v 7 [some (.ref (G.2.1 25)), some (.int (iI (r : Int))), some (.int (iI A)), some (.int (iI B)), some (.int (iI (j : Int)))] [] := by
    intro fuel
    induction fuel with
    | zero => intro j A B hj hfu hA hB hAr hBr; exfalso; omega
    | succ fuel ih =>
      intro j A B hj hfu hA hB hAr hBr
      refine m_iload h dX8_byCount_7 rfl ?_
      refine m_aload_n h dX8_byCount_9 rfl rfl ?_
      refine m_get h fo_X8_57 (by decide) rfl rfl dX8_byCount_10 ?_
      refine m_icmp_ge h dX8_byCount_13 (tgt := 100) (by decide) (by omega) (by omega) (fun c1 => ?_) (fun c1 => ?_)
      · skip
        refine m_aload_n h dX8_byCount_100 rfl rfl ?_
        refine m_get h fo_X8_20 (by decide) rfl rfl dX8_byCount_101 ?_
        refine m_iconst h dX8_byCount_104 ?_
        refine m_iload_n h dX8_byCount_105 rfl rfl ?_
        refine m_imul h dX8_byCount_106 ?_
        refine m_iald h (ar_29 G) (by omega) (by omega) dX8_byCount_107 ?_
        rw [hv1]
        show M X G 5 v 108 [some (.ref (G.2.1 25)), some (.int (iI (r : Int))), some (.int (iI A)), some (.int (iI B)), some (.int (iI (j : Int)))] [.int (iI (g_a g r 1))]
        refine m_istore h dX8_byCount_108 (by decide) rfl ?_
        refine m_aload_n h dX8_byCount_110 rfl rfl ?_
        refine m_get h fo_X8_51 (by decide) rfl rfl dX8_byCount_111 ?_
        refine m_iload h dX8_byCount_114 rfl ?_
        refine m_iald h (ar_38 G) (by omega) (by omega) dX8_byCount_116 ?_
        refine m_iload_n h dX8_byCount_117 rfl rfl ?_
        refine m_icmp_gt h dX8_byCount_118 (tgt := 136) (by decide) (by omega) (by omega) (fun c2 => ?_) (fun c2 => ?_)
        · skip
          refine m_iconst h dX8_byCount_136 ?_
          refine m_zret h hR rfl dX8_byCount_137 (by omega) ?_
          refine ⟨rfl, bz0 ?_⟩
          rw [show j = c by omega] at hA hB
          omega
        · skip
          refine m_aload_n h dX8_byCount_121 rfl rfl ?_
          refine m_get h fo_X8_54 (by decide) rfl rfl dX8_byCount_122 ?_
          refine m_iload h dX8_byCount_125 rfl ?_
          refine m_iald h (ar_39 G) (by omega) (by omega) dX8_byCount_127 ?_
          refine m_iload_n h dX8_byCount_128 rfl rfl ?_
          refine m_icmp_lt h dX8_byCount_129 (tgt := 136) (by decide) (by omega) (by omega) (fun c3 => ?_) (fun c3 => ?_)
          · skip
            refine m_iconst h dX8_byCount_136 ?_
            refine m_zret h hR rfl dX8_byCount_137 (by omega) ?_
            refine ⟨rfl, bz0 ?_⟩
            rw [show j = c by omega] at hA hB
            omega
          · skip
            refine m_iconst h dX8_byCount_132 ?_
            refine m_goto h dX8_byCount_133 (tgt := 137) (by decide) ?_
            refine m_zret h hR rfl dX8_byCount_137 (by omega) ?_
            refine ⟨rfl, bz1 ?_⟩
            rw [show j = c by omega] at hA hB
            omega
      · skip
        have hfx := hv5 (j : Int) (by omega) (by omega)
        have hfr := k5 (j : Int)
        have hlj := hlr (j : Int) (by omega) (by omega)
        refine m_aload_n h dX8_byCount_16 rfl rfl ?_
        refine m_get h fo_X8_26 (by decide) rfl rfl dX8_byCount_17 ?_
        refine m_bipush h dX8_byCount_20 (by decide) ?_
        refine m_iload_n h dX8_byCount_22 rfl rfl ?_
        refine m_imul h dX8_byCount_23 ?_
        refine m_iload h dX8_byCount_24 rfl ?_
        refine m_iadd h dX8_byCount_26 ?_
        refine m_iald h (ar_31 G) (by omega) (by omega) dX8_byCount_27 ?_
        refine m_if_eq h dX8_byCount_28 (tgt := 94) (by decide) (by omega) (fun c4 => ?_) (fun c4 => ?_)
        · skip
          refine m_iinc h dX8_byCount_94 rfl (by decide) rfl ?_
          refine m_goto h dX8_byCount_97 (tgt := 7) (by decide) ?_
          refine ih (j + 1) _ _ (by omega) (by omega) ?_ ?_ (by omega) (by omega)
          · simp only [sm]
            rw [if_neg (by omega)]
            omega
          · simp only [sm]
            rw [if_neg (by omega)]
            omega
        · skip
          refine m_iload_n h dX8_byCount_31 rfl rfl ?_
          refine m_aload_n h dX8_byCount_32 rfl rfl ?_
          refine m_get h fo_X8_51 (by decide) rfl rfl dX8_byCount_33 ?_
          refine m_iload h dX8_byCount_36 rfl ?_
          refine m_iald h (ar_38 G) (by omega) (by omega) dX8_byCount_38 ?_
          refine m_aload_n h dX8_byCount_39 rfl rfl ?_
          refine m_get h fo_X8_23 (by decide) rfl rfl dX8_byCount_40 ?_
          refine m_iload_n h dX8_byCount_43 rfl rfl ?_
          refine m_iald h (ar_30 G) (by omega) (by omega) dX8_byCount_44 ?_
          refine m_icmp_ne h dX8_byCount_45 (tgt := 68) (by decide) (by omega) (by omega) (fun c5 => ?_) (fun c5 => ?_)
          · skip
            refine m_iconst h dX8_byCount_68 ?_
            refine m_iadd h dX8_byCount_69 ?_
            refine m_istore_n h dX8_byCount_70 rfl (by decide) rfl ?_
            refine m_iload_n h dX8_byCount_71 rfl rfl ?_
            refine m_aload_n h dX8_byCount_72 rfl rfl ?_
            refine m_iload h dX8_byCount_73 rfl ?_
            refine m_aload_n h dX8_byCount_75 rfl rfl ?_
            refine m_get h fo_X8_23 (by decide) rfl rfl dX8_byCount_76 ?_
            refine m_iload_n h dX8_byCount_79 rfl rfl ?_
            refine m_iald h (ar_30 G) (by omega) (by omega) dX8_byCount_80 ?_
            rw [hv4]
            show M X G 5 v 81 [some (.ref (G.2.1 25)), some (.int (iI (r : Int))), some (.int (iI (A + 0))), some (.int (iI B)), some (.int (iI (j : Int)))] [.int (iI (g_a g r 4)), .int (iI (j : Int)), .ref (G.2.1 25), .int (iI B)]
            refine m_vI h (m_may _ hG _ (c : Int) (j : Int) (g_a g r 4) (by omega) (by omega) (by omega) hlr) moX8_may voX8_may lk_X8_102 dX8_byCount_81 (by decide) (by decide) rfl rfl rfl (Nat.le_of_ble_eq_true rfl) (fun r6 u7 p8 => ?_)
            obtain ⟨hu8, hb⟩ := p8
            rw [hu8]
            have hbi := hb.in
            refine m_if_eq h dX8_byCount_84 (tgt := 91) (by decide) (by omega) (fun c9 => ?_) (fun c9 => ?_)
            · skip
              refine m_iconst h dX8_byCount_91 ?_
              refine m_iadd h dX8_byCount_92 ?_
              refine m_istore_n h dX8_byCount_93 rfl (by decide) rfl ?_
              refine m_iinc h dX8_byCount_94 rfl (by decide) rfl ?_
              refine m_goto h dX8_byCount_97 (tgt := 7) (by decide) ?_
              refine ih (j + 1) _ _ (by omega) (by omega) ?_ ?_ (by omega) (by omega)
              · simp only [sm]
                rw [if_neg (by omega)]
                omega
              · simp only [sm]
                rw [if_neg (fun q => hb.no (by omega) q.2)]
                omega
            · skip
              refine m_iconst h dX8_byCount_87 ?_
              refine m_goto h dX8_byCount_88 (tgt := 92) (by decide) ?_
              refine m_iadd h dX8_byCount_92 ?_
              refine m_istore_n h dX8_byCount_93 rfl (by decide) rfl ?_
              refine m_iinc h dX8_byCount_94 rfl (by decide) rfl ?_
              refine m_goto h dX8_byCount_97 (tgt := 7) (by decide) ?_
              refine ih (j + 1) _ _ (by omega) (by omega) ?_ ?_ (by omega) (by omega)
              · simp only [sm]
                rw [if_neg (by omega)]
                omega
              · simp only [sm]
                rw [if_pos ⟨by omega, hb.yes (by omega)⟩]
                omega
          · skip
            refine m_aload_n h dX8_byCount_48 rfl rfl ?_
            refine m_get h fo_X8_54 (by decide) rfl rfl dX8_byCount_49 ?_
            refine m_iload h dX8_byCount_52 rfl ?_
            refine m_iald h (ar_39 G) (by omega) (by omega) dX8_byCount_54 ?_
            refine m_aload_n h dX8_byCount_55 rfl rfl ?_
            refine m_get h fo_X8_23 (by decide) rfl rfl dX8_byCount_56 ?_
            refine m_iload_n h dX8_byCount_59 rfl rfl ?_
            refine m_iald h (ar_30 G) (by omega) (by omega) dX8_byCount_60 ?_
            refine m_icmp_ne h dX8_byCount_61 (tgt := 68) (by decide) (by omega) (by omega) (fun c10 => ?_) (fun c10 => ?_)
            · skip
              refine m_iconst h dX8_byCount_68 ?_
              refine m_iadd h dX8_byCount_69 ?_
              refine m_istore_n h dX8_byCount_70 rfl (by decide) rfl ?_
              refine m_iload_n h dX8_byCount_71 rfl rfl ?_
              refine m_aload_n h dX8_byCount_72 rfl rfl ?_
              refine m_iload h dX8_byCount_73 rfl ?_
              refine m_aload_n h dX8_byCount_75 rfl rfl ?_
              refine m_get h fo_X8_23 (by decide) rfl rfl dX8_byCount_76 ?_
              refine m_iload_n h dX8_byCount_79 rfl rfl ?_
              refine m_iald h (ar_30 G) (by omega) (by omega) dX8_byCount_80 ?_
              rw [hv4]
              show M X G 5 v 81 [some (.ref (G.2.1 25)), some (.int (iI (r : Int))), some (.int (iI (A + 0))), some (.int (iI B)), some (.int (iI (j : Int)))] [.int (iI (g_a g r 4)), .int (iI (j : Int)), .ref (G.2.1 25), .int (iI B)]
              refine m_vI h (m_may _ hG _ (c : Int) (j : Int) (g_a g r 4) (by omega) (by omega) (by omega) hlr) moX8_may voX8_may lk_X8_102 dX8_byCount_81 (by decide) (by decide) rfl rfl rfl (Nat.le_of_ble_eq_true rfl) (fun r11 u12 p13 => ?_)
              obtain ⟨hu8, hb⟩ := p13
              rw [hu8]
              have hbi := hb.in
              refine m_if_eq h dX8_byCount_84 (tgt := 91) (by decide) (by omega) (fun c14 => ?_) (fun c14 => ?_)
              · skip
                refine m_iconst h dX8_byCount_91 ?_
                refine m_iadd h dX8_byCount_92 ?_
                refine m_istore_n h dX8_byCount_93 rfl (by decide) rfl ?_
                refine m_iinc h dX8_byCount_94 rfl (by decide) rfl ?_
                refine m_goto h dX8_byCount_97 (tgt := 7) (by decide) ?_
                refine ih (j + 1) _ _ (by omega) (by omega) ?_ ?_ (by omega) (by omega)
                · simp only [sm]
                  rw [if_neg (by omega)]
                  omega
                · simp only [sm]
                  rw [if_neg (fun q => hb.no (by omega) q.2)]
                  omega
              · skip
                refine m_iconst h dX8_byCount_87 ?_
                refine m_goto h dX8_byCount_88 (tgt := 92) (by decide) ?_
                refine m_iadd h dX8_byCount_92 ?_
                refine m_istore_n h dX8_byCount_93 rfl (by decide) rfl ?_
                refine m_iinc h dX8_byCount_94 rfl (by decide) rfl ?_
                refine m_goto h dX8_byCount_97 (tgt := 7) (by decide) ?_
                refine ih (j + 1) _ _ (by omega) (by omega) ?_ ?_ (by omega) (by omega)
                · simp only [sm]
                  rw [if_neg (by omega)]
                  omega
                · simp only [sm]
                  rw [if_pos ⟨by omega, hb.yes (by omega)⟩]
                  omega
            · skip
              refine m_iconst h dX8_byCount_64 ?_
              refine m_goto h dX8_byCount_65 (tgt := 69) (by decide) ?_
              refine m_iadd h dX8_byCount_69 ?_
              refine m_istore_n h dX8_byCount_70 rfl (by decide) rfl ?_
              refine m_iload_n h dX8_byCount_71 rfl rfl ?_
              refine m_aload_n h dX8_byCount_72 rfl rfl ?_
              refine m_iload h dX8_byCount_73 rfl ?_
              refine m_aload_n h dX8_byCount_75 rfl rfl ?_
              refine m_get h fo_X8_23 (by decide) rfl rfl dX8_byCount_76 ?_
              refine m_iload_n h dX8_byCount_79 rfl rfl ?_
              refine m_iald h (ar_30 G) (by omega) (by omega) dX8_byCount_80 ?_
              rw [hv4]
              show M X G 5 v 81 [some (.ref (G.2.1 25)), some (.int (iI (r : Int))), some (.int (iI (A + 1))), some (.int (iI B)), some (.int (iI (j : Int)))] [.int (iI (g_a g r 4)), .int (iI (j : Int)), .ref (G.2.1 25), .int (iI B)]
              refine m_vI h (m_may _ hG _ (c : Int) (j : Int) (g_a g r 4) (by omega) (by omega) (by omega) hlr) moX8_may voX8_may lk_X8_102 dX8_byCount_81 (by decide) (by decide) rfl rfl rfl (Nat.le_of_ble_eq_true rfl) (fun r15 u16 p17 => ?_)
              obtain ⟨hu8, hb⟩ := p17
              rw [hu8]
              have hbi := hb.in
              refine m_if_eq h dX8_byCount_84 (tgt := 91) (by decide) (by omega) (fun c18 => ?_) (fun c18 => ?_)
              · skip
                refine m_iconst h dX8_byCount_91 ?_
                refine m_iadd h dX8_byCount_92 ?_
                refine m_istore_n h dX8_byCount_93 rfl (by decide) rfl ?_
                refine m_iinc h dX8_byCount_94 rfl (by decide) rfl ?_
                refine m_goto h dX8_byCount_97 (tgt := 7) (by decide) ?_
                refine ih (j + 1) _ _ (by omega) (by omega) ?_ ?_ (by omega) (by omega)
                · simp only [sm]
                  rw [if_pos (by omega)]
                  omega
                · simp only [sm]
                  rw [if_neg (fun q => hb.no (by omega) q.2)]
                  omega
              · skip
                refine m_iconst h dX8_byCount_87 ?_
                refine m_goto h dX8_byCount_88 (tgt := 92) (by decide) ?_
                refine m_iadd h dX8_byCount_92 ?_
                refine m_istore_n h dX8_byCount_93 rfl (by decide) rfl ?_
                refine m_iinc h dX8_byCount_94 rfl (by decide) rfl ?_
                refine m_goto h dX8_byCount_97 (tgt := 7) (by decide) ?_
                refine ih (j + 1) _ _ (by omega) (by omega) ?_ ?_ (by omega) (by omega)
                · simp only [sm]
                  rw [if_pos (by omega)]
                  omega
                · simp only [sm]
                  rw [if_pos ⟨by omega, hb.yes (by omega)⟩]
                  omega
  exact lp7 100 0 0 0 (by omega) (by omega) rfl rfl (by omega) (by omega)

theorem lsum_of {f lo hi : Int → Int} {c : Nat} (hc : c ≤ 8) (h : ∀ x, (c : Int) ≤ x → f x = 0) : lsum f lo hi 8 = lsum f lo hi c := by
  unfold lsum
  exact sm_skip 8 hc (fun k q _ => by rw [h k (by omega)]; simp)
theorem cmax_of {f lo hi : Int → Int} {R : Int} {c : Nat} (hc : c ≤ 8) (h : ∀ x, (c : Int) ≤ x → f x = 0) : cmax f lo hi R 8 = cmax f lo hi R c := by
  unfold cmax
  exact sm_skip 8 hc (fun k q _ => by rw [h k (by omega)]; simp)
theorem cmin_of {f lo hi : Int → Int} {R : Int} {c : Nat} (hc : c ≤ 8) (h : ∀ x, (c : Int) ≤ x → f x = 0) : cmin f lo hi R 8 = cmin f lo hi R c := by
  unfold cmin
  exact sm_skip 8 hc (fun k q _ => by rw [h k (by omega)]; simp)

set_option maxRecDepth 100000 in
set_option maxHeartbeats 4000000 in
theorem m_can (l : Launch) {G : GT} (hG : gok G) (v : Mem) (g : Cfg) (r : Nat) (hr : r < 12) (hg : RwG g r) (hv : RwM g r v) (c : Nat) (hcn : g_n g = c) (hc : v.1 25 0 = c) (hc8 : c ≤ 8) (hlr : LHr c v) : CC l G nX8_can 3 [.ref (G.2.1 25), .int (iI (r : Int))] v (qI G (fun z u => u = v ∧ bz z (CnR g r (v.1 38) (v.1 39)))) := by
  refine m_start (lv := [some (.ref (G.2.1 25)), some (.int (iI (r : Int))), none]) hG (by decide +kernel) rfl (Nat.le_of_ble_eq_true rfl) ?_
  intro X hL h hR
  subst hL
  obtain ⟨hv0, hv1, hv2, hv3, hv4, hv5⟩ := id hv
  obtain ⟨k0, k1, k2, k3, k4, k5, k6, k7⟩ := id hg
  have a1 := mN_rg k1
  have hf0 : ∀ x, (c : Int) ≤ x → g_f g r x = 0 := fun x hx => by
    apply Classical.byContradiction
    intro q
    have := k7 x (Or.inr (Or.inr (Or.inr q))) (by omega)
    omega
  have hl8 := lsum_of (f := g_f g r) (lo := v.1 38) (hi := v.1 39) hc8 hf0
  have hm8 := lsum_of (f := fun i => -g_f g r i) (lo := v.1 38) (hi := v.1 39) hc8 (fun x hx => by rw [hf0 x hx]; rfl)
  have eL : ∀ {z : Int}, z = sm (fun x => if 0 < 1 * g_f g r x then 1 * g_f g r x * v.1 38 x else 1 * g_f g r x * v.1 39 x) c → z = lsum (g_f g r) (v.1 38) (v.1 39) c := fun {z} q => by
    rw [q]; unfold lsum; exact sm_zn (fun x _ => by rw [Int.one_mul]) c
  have eM : ∀ {z : Int}, z = sm (fun x => if 0 < -1 * g_f g r x then -1 * g_f g r x * v.1 38 x else -1 * g_f g r x * v.1 39 x) c → z = lsum (fun i => -g_f g r i) (v.1 38) (v.1 39) c := fun {z} q => by
    rw [q]; unfold lsum; exact sm_zn (fun x _ => by rw [show -1 * g_f g r x = -g_f g r x by omega]) c
  show M X G 3 v 0 [some (.ref (G.2.1 25)), some (.int (iI (r : Int))), none] []
  refine m_aload_n h dX8_can_0 rfl rfl ?_
  refine m_get h fo_X8_20 (by decide) rfl rfl dX8_can_1 ?_
  refine m_iconst h dX8_can_4 ?_
  refine m_iload_n h dX8_can_5 rfl rfl ?_
  refine m_imul h dX8_can_6 ?_
  refine m_iald h (ar_29 G) (by omega) (by omega) dX8_can_7 ?_
  
  refine m_istore_n h dX8_can_8 rfl (by decide) rfl ?_
  refine m_aload_n h dX8_can_9 rfl rfl ?_
  refine m_get h fo_X8_16 (by decide) rfl rfl dX8_can_10 ?_
  refine m_iload_n h dX8_can_13 rfl rfl ?_
  refine m_iald h (ar_28 G) (by omega) (by omega) dX8_can_14 ?_
  rw [hv0]
  show M X G 3 v 15 [some (.ref (G.2.1 25)), some (.int (iI (r : Int))), some (.int (iI (v.1 29 (3 * (r : Int)))))] [.int (iI (g_a g r 0))]
  rcases (show g_a g r 0 = 0 ∨ g_a g r 0 = 1 ∨ g_a g r 0 = 2 ∨ g_a g r 0 = 3 ∨ g_a g r 0 = 4 ∨ g_a g r 0 = 5 ∨ g_a g r 0 = 6 ∨ g_a g r 0 = 7 ∨ g_a g r 0 = 8 ∨ g_a g r 0 = 9 ∨ (g_a g r 0 < 0 ∨ 9 < g_a g r 0) by omega) with sw1 | sw1 | sw1 | sw1 | sw1 | sw1 | sw1 | sw1 | sw1 | sw1 | sw1
  · skip
    refine m_tsIn h dX8_can_15 (off := 53) (tgt := 68) (by omega) (by omega) (by omega) (by rw [sw1]; rfl) (by decide) ?_
    refine m_aload_n h dX8_can_68 rfl rfl ?_
    refine m_iload_n h dX8_can_69 rfl rfl ?_
    refine m_iconst h dX8_can_70 ?_
    refine m_vI h (m_leastSum _ hG _ g r hr hg hv c hc hc8 hlr 1 (by omega)) moX8_leastSum voX8_leastSum lk_X8_106 dX8_can_71 (by decide) (by decide) rfl rfl rfl (Nat.le_of_ble_eq_true rfl) (fun w1 u3 p4 => ?_)
    obtain ⟨hu8, es1, hw1⟩ := p4
    rw [hu8]
    refine m_aload_n h dX8_can_74 rfl rfl ?_
    refine m_get h fo_X8_23 (by decide) rfl rfl dX8_can_75 ?_
    refine m_iload_n h dX8_can_78 rfl rfl ?_
    refine m_iald h (ar_30 G) (by omega) (by omega) dX8_can_79 ?_
    refine m_icmp_gt h dX8_can_80 (tgt := 87) (by decide) (by omega) (by omega) (fun c5 => ?_) (fun c5 => ?_)
    · skip
      refine m_iconst h dX8_can_87 ?_
      refine m_zret h hR rfl dX8_can_88 (by omega) ?_
      refine ⟨rfl, bz0 ?_⟩
      unfold CnR
      rw [cn_0 sw1, hl8, ← eL (es1)]
      omega
    · skip
      refine m_iconst h dX8_can_83 ?_
      refine m_goto h dX8_can_84 (tgt := 88) (by decide) ?_
      refine m_zret h hR rfl dX8_can_88 (by omega) ?_
      refine ⟨rfl, bz1 ?_⟩
      unfold CnR
      rw [cn_0 sw1, hl8, ← eL (es1)]
      omega
  · skip
    refine m_tsIn h dX8_can_15 (off := 74) (tgt := 89) (by omega) (by omega) (by omega) (by rw [sw1]; rfl) (by decide) ?_
    refine m_aload_n h dX8_can_89 rfl rfl ?_
    refine m_iload_n h dX8_can_90 rfl rfl ?_
    refine m_iconst h dX8_can_91 ?_
    refine m_vI h (m_leastSum _ hG _ g r hr hg hv c hc hc8 hlr 1 (by omega)) moX8_leastSum voX8_leastSum lk_X8_106 dX8_can_92 (by decide) (by decide) rfl rfl rfl (Nat.le_of_ble_eq_true rfl) (fun w1 u7 p8 => ?_)
    obtain ⟨hu8, es1, hw1⟩ := p8
    rw [hu8]
    refine m_aload_n h dX8_can_95 rfl rfl ?_
    refine m_get h fo_X8_23 (by decide) rfl rfl dX8_can_96 ?_
    refine m_iload_n h dX8_can_99 rfl rfl ?_
    refine m_iald h (ar_30 G) (by omega) (by omega) dX8_can_100 ?_
    refine m_icmp_gt h dX8_can_101 (tgt := 124) (by decide) (by omega) (by omega) (fun c9 => ?_) (fun c9 => ?_)
    · skip
      refine m_iconst h dX8_can_124 ?_
      refine m_zret h hR rfl dX8_can_125 (by omega) ?_
      refine ⟨rfl, bz0 ?_⟩
      unfold CnR
      rw [cn_1 sw1, hl8, hm8, ← eL es1]
      first | (rw [← eM es2]; omega) | omega
    · skip
      refine m_aload_n h dX8_can_104 rfl rfl ?_
      refine m_iload_n h dX8_can_105 rfl rfl ?_
      refine m_iconst h dX8_can_106 ?_
      refine m_vI h (m_leastSum _ hG _ g r hr hg hv c hc hc8 hlr (-1) (by omega)) moX8_leastSum voX8_leastSum lk_X8_106 dX8_can_107 (by decide) (by decide) rfl rfl rfl (Nat.le_of_ble_eq_true rfl) (fun w2 u11 p12 => ?_)
      obtain ⟨hu7, es2, hw2⟩ := p12
      rw [hu7]
      refine m_aload_n h dX8_can_110 rfl rfl ?_
      refine m_get h fo_X8_23 (by decide) rfl rfl dX8_can_111 ?_
      refine m_iload_n h dX8_can_114 rfl rfl ?_
      refine m_iald h (ar_30 G) (by omega) (by omega) dX8_can_115 ?_
      refine m_ineg h dX8_can_116 ?_
      refine m_icmp_gt h dX8_can_117 (tgt := 124) (by decide) (by omega) (by omega) (fun c13 => ?_) (fun c13 => ?_)
      · skip
        refine m_iconst h dX8_can_124 ?_
        refine m_zret h hR rfl dX8_can_125 (by omega) ?_
        refine ⟨rfl, bz0 ?_⟩
        unfold CnR
        rw [cn_1 sw1, hl8, hm8, ← eL es1]
        first | (rw [← eM es2]; omega) | omega
      · skip
        refine m_iconst h dX8_can_120 ?_
        refine m_goto h dX8_can_121 (tgt := 125) (by decide) ?_
        refine m_zret h hR rfl dX8_can_125 (by omega) ?_
        refine ⟨rfl, bz1 ?_⟩
        unfold CnR
        rw [cn_1 sw1, hl8, hm8, ← eL es1, ← eM es2]
        omega
  · skip
    refine m_tsIn h dX8_can_15 (off := 164) (tgt := 179) (by omega) (by omega) (by omega) (by rw [sw1]; rfl) (by decide) ?_
    refine m_aload_n h dX8_can_179 rfl rfl ?_
    refine m_iload_n h dX8_can_180 rfl rfl ?_
    refine m_vI h (m_byThree _ hG _ g r hr hg hv c hcn hc hc8 hlr (by omega)) moX8_byThree voX8_byThree lk_X8_115 dX8_can_181 (by decide) (by decide) rfl rfl rfl (Nat.le_of_ble_eq_true rfl) (fun r14 u15 p16 => ?_)
    obtain ⟨hu8, hb⟩ := p16
    rw [hu8]
    have hbi := hb.in
    refine m_zret h hR rfl dX8_can_184 (by omega) ?_
    refine ⟨rfl, hb.iff ?_⟩
    unfold CnR
    first
      | (rw [cn_2 sw1]; exact ⟨fun ⟨x, y, q1, q2, q3, q4, q5, q6⟩ => ⟨x, y, q1, q2, q3, q4, by rw [if_pos sw1] at q6; exact q6⟩, fun ⟨x, y, q1, q2, q3, q4, q6⟩ => ⟨x, y, q1, q2, q3, q4, fun q => by omega, by rw [if_pos sw1]; exact q6⟩⟩)
      | (rw [cn_3 sw1]; exact ⟨fun ⟨x, y, q1, q2, q3, q4, q5, q6⟩ => ⟨x, y, q1, q2, q3, q4, q5 sw1, by rw [if_neg (by omega), if_pos sw1] at q6; exact q6⟩, fun ⟨x, y, q1, q2, q3, q4, q5, q6⟩ => ⟨x, y, q1, q2, q3, q4, fun _ => q5, by rw [if_neg (by omega), if_pos sw1]; exact q6⟩⟩)
      | (rw [cn_5 sw1]; exact ⟨fun ⟨x, y, q1, q2, q3, q4, q5, q6⟩ => ⟨x, y, q1, q2, q3, q4, by rw [if_neg (by omega), if_neg (by omega), if_pos sw1] at q6; exact q6⟩, fun ⟨x, y, q1, q2, q3, q4, q6⟩ => ⟨x, y, q1, q2, q3, q4, fun q => by omega, by rw [if_neg (by omega), if_neg (by omega), if_pos sw1]; exact q6⟩⟩)
      | (rw [cn_6 sw1]; exact ⟨fun ⟨x, y, q1, q2, q3, q4, q5, q6⟩ => ⟨x, y, q1, q2, q3, q4, by rw [if_neg (by omega), if_neg (by omega), if_neg (by omega)] at q6; exact q6⟩, fun ⟨x, y, q1, q2, q3, q4, q6⟩ => ⟨x, y, q1, q2, q3, q4, fun q => by omega, by rw [if_neg (by omega), if_neg (by omega), if_neg (by omega)]; exact q6⟩⟩)
  · skip
    refine m_tsIn h dX8_can_15 (off := 164) (tgt := 179) (by omega) (by omega) (by omega) (by rw [sw1]; rfl) (by decide) ?_
    refine m_aload_n h dX8_can_179 rfl rfl ?_
    refine m_iload_n h dX8_can_180 rfl rfl ?_
    refine m_vI h (m_byThree _ hG _ g r hr hg hv c hcn hc hc8 hlr (by omega)) moX8_byThree voX8_byThree lk_X8_115 dX8_can_181 (by decide) (by decide) rfl rfl rfl (Nat.le_of_ble_eq_true rfl) (fun r17 u18 p19 => ?_)
    obtain ⟨hu8, hb⟩ := p19
    rw [hu8]
    have hbi := hb.in
    refine m_zret h hR rfl dX8_can_184 (by omega) ?_
    refine ⟨rfl, hb.iff ?_⟩
    unfold CnR
    first
      | (rw [cn_2 sw1]; exact ⟨fun ⟨x, y, q1, q2, q3, q4, q5, q6⟩ => ⟨x, y, q1, q2, q3, q4, by rw [if_pos sw1] at q6; exact q6⟩, fun ⟨x, y, q1, q2, q3, q4, q6⟩ => ⟨x, y, q1, q2, q3, q4, fun q => by omega, by rw [if_pos sw1]; exact q6⟩⟩)
      | (rw [cn_3 sw1]; exact ⟨fun ⟨x, y, q1, q2, q3, q4, q5, q6⟩ => ⟨x, y, q1, q2, q3, q4, q5 sw1, by rw [if_neg (by omega), if_pos sw1] at q6; exact q6⟩, fun ⟨x, y, q1, q2, q3, q4, q5, q6⟩ => ⟨x, y, q1, q2, q3, q4, fun _ => q5, by rw [if_neg (by omega), if_pos sw1]; exact q6⟩⟩)
      | (rw [cn_5 sw1]; exact ⟨fun ⟨x, y, q1, q2, q3, q4, q5, q6⟩ => ⟨x, y, q1, q2, q3, q4, by rw [if_neg (by omega), if_neg (by omega), if_pos sw1] at q6; exact q6⟩, fun ⟨x, y, q1, q2, q3, q4, q6⟩ => ⟨x, y, q1, q2, q3, q4, fun q => by omega, by rw [if_neg (by omega), if_neg (by omega), if_pos sw1]; exact q6⟩⟩)
      | (rw [cn_6 sw1]; exact ⟨fun ⟨x, y, q1, q2, q3, q4, q5, q6⟩ => ⟨x, y, q1, q2, q3, q4, by rw [if_neg (by omega), if_neg (by omega), if_neg (by omega)] at q6; exact q6⟩, fun ⟨x, y, q1, q2, q3, q4, q6⟩ => ⟨x, y, q1, q2, q3, q4, fun q => by omega, by rw [if_neg (by omega), if_neg (by omega), if_neg (by omega)]; exact q6⟩⟩)
  · skip
    refine m_tsIn h dX8_can_15 (off := 111) (tgt := 126) (by omega) (by omega) (by omega) (by rw [sw1]; rfl) (by decide) ?_
    refine m_aload_n h dX8_can_126 rfl rfl ?_
    refine m_iload_n h dX8_can_127 rfl rfl ?_
    refine m_vI h (m_byTwo _ hG _ g r hr hg hv c hcn hc hc8 hlr (by omega)) moX8_byTwo voX8_byTwo lk_X8_109 dX8_can_128 (by decide) (by decide) rfl rfl rfl (Nat.le_of_ble_eq_true rfl) (fun r20 u21 p22 => ?_)
    obtain ⟨hu8, hb⟩ := p22
    rw [hu8]
    have hbi := hb.in
    refine m_zret h hR rfl dX8_can_131 (by omega) ?_
    refine ⟨rfl, hb.iff ?_⟩
    unfold CnR
    first
      | (rw [cn_4 sw1]; exact ⟨fun ⟨x, y, q⟩ => ⟨x, y, by omega⟩, fun ⟨x, y, q⟩ => ⟨x, y, by omega⟩⟩)
      | (rw [cn_7 sw1]; exact ⟨fun ⟨x, y, q⟩ => ⟨x, y, by omega⟩, fun ⟨x, y, q⟩ => ⟨x, y, by omega⟩⟩)
  · skip
    refine m_tsIn h dX8_can_15 (off := 164) (tgt := 179) (by omega) (by omega) (by omega) (by rw [sw1]; rfl) (by decide) ?_
    refine m_aload_n h dX8_can_179 rfl rfl ?_
    refine m_iload_n h dX8_can_180 rfl rfl ?_
    refine m_vI h (m_byThree _ hG _ g r hr hg hv c hcn hc hc8 hlr (by omega)) moX8_byThree voX8_byThree lk_X8_115 dX8_can_181 (by decide) (by decide) rfl rfl rfl (Nat.le_of_ble_eq_true rfl) (fun r23 u24 p25 => ?_)
    obtain ⟨hu8, hb⟩ := p25
    rw [hu8]
    have hbi := hb.in
    refine m_zret h hR rfl dX8_can_184 (by omega) ?_
    refine ⟨rfl, hb.iff ?_⟩
    unfold CnR
    first
      | (rw [cn_2 sw1]; exact ⟨fun ⟨x, y, q1, q2, q3, q4, q5, q6⟩ => ⟨x, y, q1, q2, q3, q4, by rw [if_pos sw1] at q6; exact q6⟩, fun ⟨x, y, q1, q2, q3, q4, q6⟩ => ⟨x, y, q1, q2, q3, q4, fun q => by omega, by rw [if_pos sw1]; exact q6⟩⟩)
      | (rw [cn_3 sw1]; exact ⟨fun ⟨x, y, q1, q2, q3, q4, q5, q6⟩ => ⟨x, y, q1, q2, q3, q4, q5 sw1, by rw [if_neg (by omega), if_pos sw1] at q6; exact q6⟩, fun ⟨x, y, q1, q2, q3, q4, q5, q6⟩ => ⟨x, y, q1, q2, q3, q4, fun _ => q5, by rw [if_neg (by omega), if_pos sw1]; exact q6⟩⟩)
      | (rw [cn_5 sw1]; exact ⟨fun ⟨x, y, q1, q2, q3, q4, q5, q6⟩ => ⟨x, y, q1, q2, q3, q4, by rw [if_neg (by omega), if_neg (by omega), if_pos sw1] at q6; exact q6⟩, fun ⟨x, y, q1, q2, q3, q4, q6⟩ => ⟨x, y, q1, q2, q3, q4, fun q => by omega, by rw [if_neg (by omega), if_neg (by omega), if_pos sw1]; exact q6⟩⟩)
      | (rw [cn_6 sw1]; exact ⟨fun ⟨x, y, q1, q2, q3, q4, q5, q6⟩ => ⟨x, y, q1, q2, q3, q4, by rw [if_neg (by omega), if_neg (by omega), if_neg (by omega)] at q6; exact q6⟩, fun ⟨x, y, q1, q2, q3, q4, q6⟩ => ⟨x, y, q1, q2, q3, q4, fun q => by omega, by rw [if_neg (by omega), if_neg (by omega), if_neg (by omega)]; exact q6⟩⟩)
  · skip
    refine m_tsIn h dX8_can_15 (off := 164) (tgt := 179) (by omega) (by omega) (by omega) (by rw [sw1]; rfl) (by decide) ?_
    refine m_aload_n h dX8_can_179 rfl rfl ?_
    refine m_iload_n h dX8_can_180 rfl rfl ?_
    refine m_vI h (m_byThree _ hG _ g r hr hg hv c hcn hc hc8 hlr (by omega)) moX8_byThree voX8_byThree lk_X8_115 dX8_can_181 (by decide) (by decide) rfl rfl rfl (Nat.le_of_ble_eq_true rfl) (fun r26 u27 p28 => ?_)
    obtain ⟨hu8, hb⟩ := p28
    rw [hu8]
    have hbi := hb.in
    refine m_zret h hR rfl dX8_can_184 (by omega) ?_
    refine ⟨rfl, hb.iff ?_⟩
    unfold CnR
    first
      | (rw [cn_2 sw1]; exact ⟨fun ⟨x, y, q1, q2, q3, q4, q5, q6⟩ => ⟨x, y, q1, q2, q3, q4, by rw [if_pos sw1] at q6; exact q6⟩, fun ⟨x, y, q1, q2, q3, q4, q6⟩ => ⟨x, y, q1, q2, q3, q4, fun q => by omega, by rw [if_pos sw1]; exact q6⟩⟩)
      | (rw [cn_3 sw1]; exact ⟨fun ⟨x, y, q1, q2, q3, q4, q5, q6⟩ => ⟨x, y, q1, q2, q3, q4, q5 sw1, by rw [if_neg (by omega), if_pos sw1] at q6; exact q6⟩, fun ⟨x, y, q1, q2, q3, q4, q5, q6⟩ => ⟨x, y, q1, q2, q3, q4, fun _ => q5, by rw [if_neg (by omega), if_pos sw1]; exact q6⟩⟩)
      | (rw [cn_5 sw1]; exact ⟨fun ⟨x, y, q1, q2, q3, q4, q5, q6⟩ => ⟨x, y, q1, q2, q3, q4, by rw [if_neg (by omega), if_neg (by omega), if_pos sw1] at q6; exact q6⟩, fun ⟨x, y, q1, q2, q3, q4, q6⟩ => ⟨x, y, q1, q2, q3, q4, fun q => by omega, by rw [if_neg (by omega), if_neg (by omega), if_pos sw1]; exact q6⟩⟩)
      | (rw [cn_6 sw1]; exact ⟨fun ⟨x, y, q1, q2, q3, q4, q5, q6⟩ => ⟨x, y, q1, q2, q3, q4, by rw [if_neg (by omega), if_neg (by omega), if_neg (by omega)] at q6; exact q6⟩, fun ⟨x, y, q1, q2, q3, q4, q6⟩ => ⟨x, y, q1, q2, q3, q4, fun q => by omega, by rw [if_neg (by omega), if_neg (by omega), if_neg (by omega)]; exact q6⟩⟩)
  · skip
    refine m_tsIn h dX8_can_15 (off := 111) (tgt := 126) (by omega) (by omega) (by omega) (by rw [sw1]; rfl) (by decide) ?_
    refine m_aload_n h dX8_can_126 rfl rfl ?_
    refine m_iload_n h dX8_can_127 rfl rfl ?_
    refine m_vI h (m_byTwo _ hG _ g r hr hg hv c hcn hc hc8 hlr (by omega)) moX8_byTwo voX8_byTwo lk_X8_109 dX8_can_128 (by decide) (by decide) rfl rfl rfl (Nat.le_of_ble_eq_true rfl) (fun r29 u30 p31 => ?_)
    obtain ⟨hu8, hb⟩ := p31
    rw [hu8]
    have hbi := hb.in
    refine m_zret h hR rfl dX8_can_131 (by omega) ?_
    refine ⟨rfl, hb.iff ?_⟩
    unfold CnR
    first
      | (rw [cn_4 sw1]; exact ⟨fun ⟨x, y, q⟩ => ⟨x, y, by omega⟩, fun ⟨x, y, q⟩ => ⟨x, y, by omega⟩⟩)
      | (rw [cn_7 sw1]; exact ⟨fun ⟨x, y, q⟩ => ⟨x, y, by omega⟩, fun ⟨x, y, q⟩ => ⟨x, y, by omega⟩⟩)
  · skip
    refine m_tsIn h dX8_can_15 (off := 117) (tgt := 132) (by omega) (by omega) (by omega) (by rw [sw1]; rfl) (by decide) ?_
    obtain ⟨nk, na, nb, nc⟩ := id k6
    have na := na (by omega)
    have la := k7 _ (Or.inl rfl) na
    have ra := hlr _ na (by omega)
    have hv1' := hv1
    rw [mN_nn na] at hv1'
    rw [hv1']
    show M X G 3 v 132 [some (.ref (G.2.1 25)), some (.int (iI (r : Int))), some (.int (iI (g_a g r 1)))] []
    refine m_aload_n h dX8_can_132 rfl rfl ?_
    refine m_get h fo_X8_51 (by decide) rfl rfl dX8_can_133 ?_
    refine m_iload_n h dX8_can_136 rfl rfl ?_
    refine m_iald h (ar_38 G) (by omega) (by omega) dX8_can_137 ?_
    refine m_iconst h dX8_can_138 ?_
    refine m_icmp_ne h dX8_can_139 (tgt := 167) (by decide) (by omega) (by omega) (fun c32 => ?_) (fun c32 => ?_)
    · skip
      refine m_iconst h dX8_can_167 ?_
      refine m_goto h dX8_can_168 (tgt := 172) (by decide) ?_
      refine m_zret h hR rfl dX8_can_172 (by omega) ?_
      refine ⟨rfl, bz1 ?_⟩
      unfold CnR
      rw [cn_8 sw1, hl8]
      first | (rw [← eL es1]; omega) | omega
    · skip
      refine m_aload_n h dX8_can_142 rfl rfl ?_
      refine m_get h fo_X8_54 (by decide) rfl rfl dX8_can_143 ?_
      refine m_iload_n h dX8_can_146 rfl rfl ?_
      refine m_iald h (ar_39 G) (by omega) (by omega) dX8_can_147 ?_
      refine m_iconst h dX8_can_148 ?_
      refine m_icmp_ne h dX8_can_149 (tgt := 167) (by decide) (by omega) (by omega) (fun c33 => ?_) (fun c33 => ?_)
      · skip
        refine m_iconst h dX8_can_167 ?_
        refine m_goto h dX8_can_168 (tgt := 172) (by decide) ?_
        refine m_zret h hR rfl dX8_can_172 (by omega) ?_
        refine ⟨rfl, bz1 ?_⟩
        unfold CnR
        rw [cn_8 sw1, hl8]
        first | (rw [← eL es1]; omega) | omega
      · skip
        refine m_aload_n h dX8_can_152 rfl rfl ?_
        refine m_iload_n h dX8_can_153 rfl rfl ?_
        refine m_iconst h dX8_can_154 ?_
        refine m_vI h (m_leastSum _ hG _ g r hr hg hv c hc hc8 hlr 1 (by omega)) moX8_leastSum voX8_leastSum lk_X8_106 dX8_can_155 (by decide) (by decide) rfl rfl rfl (Nat.le_of_ble_eq_true rfl) (fun w1 u35 p36 => ?_)
        obtain ⟨hu8, es1, hw1⟩ := p36
        rw [hu8]
        refine m_aload_n h dX8_can_158 rfl rfl ?_
        refine m_get h fo_X8_23 (by decide) rfl rfl dX8_can_159 ?_
        refine m_iload_n h dX8_can_162 rfl rfl ?_
        refine m_iald h (ar_30 G) (by omega) (by omega) dX8_can_163 ?_
        refine m_icmp_gt h dX8_can_164 (tgt := 171) (by decide) (by omega) (by omega) (fun c37 => ?_) (fun c37 => ?_)
        · skip
          refine m_iconst h dX8_can_171 ?_
          refine m_zret h hR rfl dX8_can_172 (by omega) ?_
          refine ⟨rfl, bz0 ?_⟩
          unfold CnR
          rw [cn_8 sw1, hl8, ← eL es1]
          omega
        · skip
          refine m_iconst h dX8_can_167 ?_
          refine m_goto h dX8_can_168 (tgt := 172) (by decide) ?_
          refine m_zret h hR rfl dX8_can_172 (by omega) ?_
          refine ⟨rfl, bz1 ?_⟩
          unfold CnR
          rw [cn_8 sw1, hl8]
          first | (rw [← eL es1]; omega) | omega
  · skip
    refine m_tsIn h dX8_can_15 (off := 158) (tgt := 173) (by omega) (by omega) (by omega) (by rw [sw1]; rfl) (by decide) ?_
    refine m_aload_n h dX8_can_173 rfl rfl ?_
    refine m_iload_n h dX8_can_174 rfl rfl ?_
    refine m_vI h (m_byCount _ hG _ g r hr hg hv c hcn hc hc8 hlr (by omega)) moX8_byCount voX8_byCount lk_X8_112 dX8_can_175 (by decide) (by decide) rfl rfl rfl (Nat.le_of_ble_eq_true rfl) (fun r38 u39 p40 => ?_)
    obtain ⟨hu8, hb⟩ := p40
    rw [hu8]
    have hbi := hb.in
    refine m_zret h hR rfl dX8_can_178 (by omega) ?_
    refine ⟨rfl, hb.iff ?_⟩
    unfold CnR
    rw [cn_9 sw1, cmax_of hc8 hf0, cmin_of hc8 hf0]
    exact Iff.rfl
  · skip
    omega

theorem imp_back {v : Mem} {n z : Int} : wI (wI (wI (wI v 38 n z) 39 n z) 38 n (v.1 38 n)) 39 n (v.1 39 n) = v := by
  apply Prod.ext
  · funext i x
    show u2 (u2 (u2 (u2 v.1 38 n z) 39 n z) 38 n (v.1 38 n)) 39 n (v.1 39 n) i x = v.1 i x
    unfold u2
    by_cases h1 : i = 39 ∧ x = n
    · rw [if_pos h1, h1.1, h1.2]
    · rw [if_neg h1]
      by_cases h2 : i = 38 ∧ x = n
      · rw [if_pos h2, h2.1, h2.2]
      · rw [if_neg h2, if_neg h1, if_neg h2]
  · rfl

set_option maxRecDepth 100000 in
set_option maxHeartbeats 4000000 in
theorem m_impossible (l : Launch) {G : GT} (hG : gok G) (v : Mem) (g : Cfg) (r : Nat) (hr : r < 12) (hg : RwG g r) (hv : RwM g r v) (c : Nat) (hcn : g_n g = c) (hc : v.1 25 0 = c) (hc8 : c ≤ 8) (hlr : LHr c v) (n z : Int) (hn : 0 ≤ n ∧ n < c) (hz : -32 ≤ z ∧ z ≤ 31) : CC l G nX8_impossible 4 [.ref (G.2.1 25), .int (iI (r : Int)), .int (iI n), .int (iI z)] v (qI G (fun q u => u = v ∧ bz q (¬ CnR g r (up (v.1 38) n z) (up (v.1 39) n z)))) := by
  refine m_start (lv := [some (.ref (G.2.1 25)), some (.int (iI (r : Int))), some (.int (iI n)), some (.int (iI z)), none, none, none]) hG (by decide +kernel) rfl (Nat.le_of_ble_eq_true rfl) ?_
  intro X hL h hR
  subst hL
  have hlr2 : LHr c (wI (wI v 38 n z) 39 n z) := fun x q1 q2 => by
    have := hlr x q1 q2
    rw [cell_u, wI_c (by decide), cell_u]
    by_cases e : x = n
    · subst e; rw [up_s, up_s]; omega
    · rw [up_n e, up_n e]; exact this
  have hv2 : RwM g r (wI (wI v 38 n z) 39 n z) := hv
  show M X G 7 v 0 [some (.ref (G.2.1 25)), some (.int (iI (r : Int))), some (.int (iI n)), some (.int (iI z)), none, none, none] []
  refine m_aload_n h dX8_impossible_0 rfl rfl ?_
  refine m_get h fo_X8_51 (by decide) rfl rfl dX8_impossible_1 ?_
  refine m_iload_n h dX8_impossible_4 rfl rfl ?_
  refine m_iald h (ar_38 G) (by omega) (by omega) dX8_impossible_5 ?_
  refine m_istore h dX8_impossible_6 (by decide) rfl ?_
  refine m_aload_n h dX8_impossible_8 rfl rfl ?_
  refine m_get h fo_X8_54 (by decide) rfl rfl dX8_impossible_9 ?_
  refine m_iload_n h dX8_impossible_12 rfl rfl ?_
  refine m_iald h (ar_39 G) (by omega) (by omega) dX8_impossible_13 ?_
  refine m_istore h dX8_impossible_14 (by decide) rfl ?_
  refine m_aload_n h dX8_impossible_16 rfl rfl ?_
  refine m_get h fo_X8_51 (by decide) rfl rfl dX8_impossible_17 ?_
  refine m_iload_n h dX8_impossible_20 rfl rfl ?_
  refine m_iload_n h dX8_impossible_21 rfl rfl ?_
  refine m_iast h (ar_38 G) (by omega) (by omega) dX8_impossible_22 ?_
  refine m_aload_n h dX8_impossible_23 rfl rfl ?_
  refine m_get h fo_X8_54 (by decide) rfl rfl dX8_impossible_24 ?_
  refine m_iload_n h dX8_impossible_27 rfl rfl ?_
  refine m_iload_n h dX8_impossible_28 rfl rfl ?_
  refine m_iast h (ar_39 G) (by omega) (by omega) dX8_impossible_29 ?_
  refine m_aload_n h dX8_impossible_30 rfl rfl ?_
  refine m_iload_n h dX8_impossible_31 rfl rfl ?_
  refine m_vI h (m_can _ hG _ g r hr hg hv2 c hcn hc hc8 hlr2) moX8_can voX8_can lk_X8_118 dX8_impossible_32 (by decide) (by decide) rfl rfl rfl (Nat.le_of_ble_eq_true rfl) (fun r1 u2 p3 => ?_)
  obtain ⟨hu8, hb⟩ := p3
  rw [hu8]
  rw [cell_u, wI_c (by decide), cell_u, show (wI v 38 n z).1 39 = v.1 39 from wI_c (by decide)] at hb
  have hbi := hb.in
  refine m_if_ne h dX8_impossible_35 (tgt := 42) (by decide) (by omega) (fun c4 => ?_) (fun c4 => ?_)
  · skip
    refine m_iconst h dX8_impossible_42 ?_
    refine m_istore h dX8_impossible_43 (by decide) rfl ?_
    refine m_aload_n h dX8_impossible_45 rfl rfl ?_
    refine m_get h fo_X8_51 (by decide) rfl rfl dX8_impossible_46 ?_
    refine m_iload_n h dX8_impossible_49 rfl rfl ?_
    refine m_iload h dX8_impossible_50 rfl ?_
    refine m_iast h (ar_38 G) (by omega) (by omega) dX8_impossible_52 ?_
    refine m_aload_n h dX8_impossible_53 rfl rfl ?_
    refine m_get h fo_X8_54 (by decide) rfl rfl dX8_impossible_54 ?_
    refine m_iload_n h dX8_impossible_57 rfl rfl ?_
    refine m_iload h dX8_impossible_58 rfl ?_
    refine m_iast h (ar_39 G) (by omega) (by omega) dX8_impossible_60 ?_
    refine m_iload h dX8_impossible_61 rfl ?_
    refine m_zret h hR rfl dX8_impossible_63 (by omega) ?_
    refine ⟨imp_back, ?_⟩
    exact bz0 (fun q => q (hb.yes (by omega)))
  · skip
    refine m_iconst h dX8_impossible_38 ?_
    refine m_goto h dX8_impossible_39 (tgt := 43) (by decide) ?_
    refine m_istore h dX8_impossible_43 (by decide) rfl ?_
    refine m_aload_n h dX8_impossible_45 rfl rfl ?_
    refine m_get h fo_X8_51 (by decide) rfl rfl dX8_impossible_46 ?_
    refine m_iload_n h dX8_impossible_49 rfl rfl ?_
    refine m_iload h dX8_impossible_50 rfl ?_
    refine m_iast h (ar_38 G) (by omega) (by omega) dX8_impossible_52 ?_
    refine m_aload_n h dX8_impossible_53 rfl rfl ?_
    refine m_get h fo_X8_54 (by decide) rfl rfl dX8_impossible_54 ?_
    refine m_iload_n h dX8_impossible_57 rfl rfl ?_
    refine m_iload h dX8_impossible_58 rfl ?_
    refine m_iast h (ar_39 G) (by omega) (by omega) dX8_impossible_60 ?_
    refine m_iload h dX8_impossible_61 rfl ?_
    refine m_zret h hR rfl dX8_impossible_63 (by omega) ?_
    refine ⟨imp_back, ?_⟩
    exact bz1 (hb.no (by omega))
