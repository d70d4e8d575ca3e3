/-! the model's plans -/
def One : (Int → Int) → Int := fun _ => 1
theorem PE_One {g : Cfg} : PE g One := fun _ _ _ => rfl
theorem ALL.rg {P A : Int} (h : ALL P A) : 0 ≤ A ∧ A ≤ 256000 := by
  obtain ⟨h1, h2, h3⟩ := h
  by_cases q : P ≤ 4000
  · have := h2 q; omega
  · have := h3 (by omega); omega
theorem gdP_1 {g : Cfg} {ch : Int → Int} (h : AllH g ch) : gdP g ch = 1 := by unfold gdP; rw [tf_p h, if_pos rfl]
theorem gdP_0 {g : Cfg} {ch : Int → Int} (h : ¬ AllH g ch) : gdP g ch = 0 := by unfold gdP; rw [tf_n h, if_neg (by simp)]
theorem SL_ok {S : Int → Bool} (h : ¬ emp S) : -32 ≤ SL S ∧ SL S ≤ 31 := by
  obtain ⟨a, a0, a1, a2, a3, a4⟩ := SL_sp (nemp h)
  omega
theorem plans_0 {g : Cfg} {s : Int → Int → Bool} {c : Nat} (hc : g_n g = c) (h : prS g s c = 0) (ch : Int → Int) : cP g s c ch = 0 := by
  obtain ⟨n, hn, he⟩ := (prS_0 (g := g) (s := s) c).mp h
  exact cP_e he c ch (by omega) (by omega)
theorem plans_1 {g : Cfg} {s : Int → Int → Bool} {c : Nat} (h : prS g s c ≠ 0) : ∀ x, 0 ≤ x → x < (c : Int) → ¬ emp (s x) := fun x x0 x1 he => by
  refine h ((prS_0 (g := g) (s := s) c).mpr ⟨x.toNat, by omega, ?_⟩)
  rw [show ((x.toNat : Nat) : Int) = x by omega]; exact he
theorem plans_2 {g : Cfg} (hg : GO g) {s : Int → Int → Bool} {c : Nat} (hc : g_n g = c) (hne : ∀ x, 0 ≤ x → x < (c : Int) → ¬ emp (s x)) {lo : Int → Int} (hl : ∀ x, 0 ≤ x → x < (c : Int) → lo x = lS s x) : 0 + gdP g lo + aft g s (gdP g) c lo = cP g s c (fun _ => 0) := by
  rw [cP_cQ, cQ_c (PE_gd hg.wf) c (fun _ => 0) lo (by omega) (fun x q1 q2 => by omega), cQ_least (fun x q1 q2 => hne x q1 (by omega)) c lo (by omega) (fun x q1 q2 => hl x (by omega) (by omega))]
  omega

set_option maxRecDepth 100000 in
set_option maxHeartbeats 4000000 in
theorem m_holds (l : Launch) {G : GT} (hG : gok G) (v : Mem) (g : Cfg) (r : Nat) (hr : r < 12) (hg : RwG g r) (hv : RwM g r v) (c : Nat) (hcn : g_n g = c) (hc : v.1 25 0 = c) (hc8 : c ≤ 8) (hl : ∀ x, 0 ≤ x → x < (c : Int) → -32 ≤ v.1 38 x ∧ v.1 38 x ≤ 31) : CC l G nX8_holds 4 [.ref (G.2.1 25), .int (iI (r : Int))] v (qI G (fun q u => (∀ i, i ≠ 39 → u.1 i = v.1 i) ∧ u.2 = v.2 ∧ bz q (CnR g r (v.1 38) (v.1 38)))) := by
  refine m_start (lv := [some (.ref (G.2.1 25)), some (.int (iI (r : Int))), none]) hG (by decide +kernel) rfl (Nat.le_of_ble_eq_true rfl) ?_
  intro X hL h hR
  subst hL
  show M X G 3 v 0 [some (.ref (G.2.1 25)), some (.int (iI (r : Int))), none] []
  refine m_iconst h dX8_holds_0 ?_
  refine m_istore_n h dX8_holds_1 rfl (by decide) rfl ?_
  have lp2 : ∀ (fuel : Nat) (j : Nat) (u : Mem), j ≤ c → 20 - j < fuel → (∀ i, i ≠ 39 → u.1 i = v.1 i) → u.2 = v.2 → (∀ x, 0 ≤ x → x < (j : Int) → u.1 39 x = v.1 38 x) → M X G 3 u 2 [some (.ref (G.2.1 25)), some (.int (iI (r : Int))), some (.int (iI (j : Int)))] [] := by
    intro fuel
    induction fuel with
    | zero => intro j u hj hfu h1 h2 h3; exfalso; omega
    | succ fuel ih =>
      intro j u hj hfu h1 h2 h3
      have e25 : u.1 25 0 = v.1 25 0 := by rw [h1 25 (by decide)]
      have e38 : u.1 38 = v.1 38 := h1 38 (by decide)
      refine m_iload_n h dX8_holds_2 rfl rfl ?_
      refine m_aload_n h dX8_holds_3 rfl rfl ?_
      refine m_get h fo_X8_57 (by decide) rfl rfl dX8_holds_4 ?_
      refine m_icmp_ge h dX8_holds_7 (tgt := 28) (by decide) (by omega) (by omega) (fun c1 => ?_) (fun c1 => ?_)
      · skip
        have hv2 : RwM g r u := by
          unfold RwM at *
          rw [h1 28 (by decide), h1 29 (by decide), h1 30 (by decide), h1 31 (by decide)]
          exact hv
        have hlr2 : LHr c u := fun x q1 q2 => by
          rw [e38, h3 x q1 (by omega)]
          exact ⟨hl x q1 q2, hl x q1 q2⟩
        refine m_aload_n h dX8_holds_28 rfl rfl ?_
        refine m_iload_n h dX8_holds_29 rfl rfl ?_
        refine m_vI h (m_can _ hG u g r hr hg hv2 c hcn (e25.trans hc) hc8 hlr2) moX8_can voX8_can lk_X8_118 dX8_holds_30 (by decide) (by decide) rfl rfl rfl (Nat.le_of_ble_eq_true rfl) (fun r2 u3 p4 => ?_)
        obtain ⟨hu8, hb⟩ := p4
        rw [hu8]
        have hbi := hb.in
        refine m_zret h hR rfl dX8_holds_33 (by omega) ?_
        refine ⟨h1, h2, hb.iff ?_⟩
        rw [e38]
        exact CnR_c hg.2.2.2.2.2.2.1 (fun x x0 hx => ⟨rfl, h3 x x0 (by have := hg.2.2.2.2.2.2.2 x hx x0; omega)⟩)
      · skip
        refine m_aload_n h dX8_holds_10 rfl rfl ?_
        refine m_get h fo_X8_54 (by decide) rfl rfl dX8_holds_11 ?_
        refine m_iload_n h dX8_holds_14 rfl rfl ?_
        refine m_aload_n h dX8_holds_15 rfl rfl ?_
        refine m_get h fo_X8_51 (by decide) rfl rfl dX8_holds_16 ?_
        refine m_iload_n h dX8_holds_19 rfl rfl ?_
        refine m_iald h (ar_38 G) (by omega) (by omega) dX8_holds_20 ?_
        refine m_iast h (ar_39 G) (by omega) (by omega) dX8_holds_21 ?_
        refine m_iinc h dX8_holds_22 rfl (by decide) rfl ?_
        refine m_goto h dX8_holds_25 (tgt := 2) (by decide) ?_
        refine ih (j + 1) _ (by omega) (by omega) (fun i hi => by rw [wI_c hi]; exact h1 i hi) h2 (fun x q1 q2 => ?_)
        by_cases e : x = (j : Int)
        · subst e; rw [wI_s, e38]
        · rw [wI_n e]; exact h3 x q1 (by omega)
  exact lp2 40 0 v (by omega) (by omega) (fun _ _ => rfl) rfl (fun x q1 q2 => by omega)

set_option maxRecDepth 100000 in
set_option maxHeartbeats 4000000 in
theorem m_nextPlan (l : Launch) {G : GT} (hG : gok G) (v : Mem) (g : Cfg) (s : Int → Int → Bool) (hs : B0 27 s v) (c : Nat) (hcn : g_n g = c) (hc : v.1 25 0 = c) (hc8 : c ≤ 8) (hne : ∀ x, 0 ≤ x → x < (c : Int) → ¬ emp (s x)) (hl : ∀ x, 0 ≤ x → x < (c : Int) → -32 ≤ v.1 38 x ∧ v.1 38 x ≤ 31) : CC l G nX8_nextPlan 1 [.ref (G.2.1 25)] v (qI G (fun q u => (∀ i, i ≠ 38 → u.1 i = v.1 i) ∧ u.2 = v.2 ∧ (∀ x, 0 ≤ x → x < (c : Int) → -32 ≤ u.1 38 x ∧ u.1 38 x ≤ 31) ∧ ((q = 1 ∧ ∀ P, PE g P → aft g s P c (v.1 38) = P (u.1 38) + aft g s P c (u.1 38)) ∨ (q = 0 ∧ ∀ P, PE g P → aft g s P c (v.1 38) = 0)))) := by
  refine m_start (lv := [some (.ref (G.2.1 25)), none, none]) hG (by decide +kernel) rfl (Nat.le_of_ble_eq_true rfl) ?_
  intro X hL h hR
  subst hL
  show M X G 3 v 0 [some (.ref (G.2.1 25)), none, none] []
  refine m_aload_n h dX8_nextPlan_0 rfl rfl ?_
  refine m_get h fo_X8_57 (by decide) rfl rfl dX8_nextPlan_1 ?_
  show M X G 3 v 4 [some (.ref (G.2.1 25)), none, none] [.int (iI (v.1 25 0))]
  rw [hc]
  show M X G 3 v 4 [some (.ref (G.2.1 25)), none, none] [.int (iI (c : Int))]
  refine m_iconst h dX8_nextPlan_4 ?_
  refine m_isub h dX8_nextPlan_5 ?_
  refine m_istore_n h dX8_nextPlan_6 rfl (by decide) rfl ?_
  have lp7 : ∀ (fuel : Nat) (m : Nat) (n : Int) (u : Mem), m ≤ c → 20 - m < fuel → n = (c : Int) - 1 - (m : Int) → (∀ i, i ≠ 38 → u.1 i = v.1 i) → u.2 = v.2 → (∀ x, 0 ≤ x → x < (c : Int) - m → u.1 38 x = v.1 38 x) → (∀ x, (c : Int) - m ≤ x → x < (c : Int) → u.1 38 x = lS s x) → (∀ P, PE g P → aft g s P m (v.1 38) = 0) → M X G 3 u 7 [some (.ref (G.2.1 25)), some (.int (iI n)), none] [] := by
    intro fuel
    induction fuel with
    | zero => intro m n u hm hfu hn h1 h2 h3 h4 h5; exfalso; omega
    | succ fuel ihA =>
      intro m n u hm hfu hn h1 h2 h3 h4 h5
      refine m_iload_n h dX8_nextPlan_7 rfl rfl ?_
      refine m_if_lt h dX8_nextPlan_8 (tgt := 100) (by decide) (by omega) (fun c1 => ?_) (fun c1 => ?_)
      · skip
        refine m_iconst h dX8_nextPlan_100 ?_
        refine m_zret h hR rfl dX8_nextPlan_101 (by omega) ?_
        refine ⟨h1, h2, fun x q1 q2 => ?_, Or.inr ⟨rfl, fun P hP => ?_⟩⟩
        · rw [h4 x (by omega) q2]; exact SL_ok (hne x q1 q2)
        · have := h5 P hP
          rw [show c = m by omega]; exact this
      · skip
        refine m_iconst h dX8_nextPlan_11 ?_
        refine m_istore_n h dX8_nextPlan_12 rfl (by decide) rfl ?_
        have lp13 : ∀ (fuel : Nat) (b : Int) (w : Mem), (40 - w.1 38 n : Int) < (fuel : Int) → b = 0 ∨ b = 1 → (∀ i, i ≠ 38 → w.1 i = u.1 i) → w.2 = u.2 → (∀ x, x ≠ n → w.1 38 x = u.1 38 x) → (v.1 38 n ≤ w.1 38 n ∧ w.1 38 n ≤ 32) → (∀ k, v.1 38 n + 32 < k → k < w.1 38 n + 32 → s n k = false) → (b = 1 → w.1 38 n ≤ 31 ∧ (w.1 38 n = v.1 38 n ∨ s n (w.1 38 n + 32) = false)) → (b = 0 → v.1 38 n < w.1 38 n ∧ (w.1 38 n = 32 ∨ s n (w.1 38 n + 32) = true)) → M X G 3 w 13 [some (.ref (G.2.1 25)), some (.int (iI n)), some (.int (iI b))] [] := by
          intro fuel
          induction fuel with
          | zero => intro b w hfu2 hb k1 k2 k3 k4 k5 k6 k7; exfalso; omega
          | succ fuel ihB =>
            intro b w hfu2 hb k1 k2 k3 k4 k5 k6 k7
            have k27 : w.1 27 = v.1 27 := by rw [k1 27 (by decide), h1 27 (by decide)]
            have hln := hl n (by omega) (by omega)
            have hnm : g_n g - 1 - (m : Int) = n := by omega
            refine m_iload_n h dX8_nextPlan_13 rfl rfl ?_
            refine m_if_eq h dX8_nextPlan_14 (tgt := 69) (by decide) (by omega) (fun c2 => ?_) (fun c2 => ?_)
            · skip
              refine m_aload_n h dX8_nextPlan_69 rfl rfl ?_
              refine m_get h fo_X8_51 (by decide) rfl rfl dX8_nextPlan_70 ?_
              refine m_iload_n h dX8_nextPlan_73 rfl rfl ?_
              refine m_iald h (ar_38 G) (by omega) (by omega) dX8_nextPlan_74 ?_
              refine m_bipush h dX8_nextPlan_75 (by decide) ?_
              refine m_icmp_gt h dX8_nextPlan_77 (tgt := 82) (by decide) (by omega) (by omega) (fun c3 => ?_) (fun c3 => ?_)
              · skip
                refine m_aload_n h dX8_nextPlan_82 rfl rfl ?_
                refine m_get h fo_X8_51 (by decide) rfl rfl dX8_nextPlan_83 ?_
                refine m_iload_n h dX8_nextPlan_86 rfl rfl ?_
                refine m_aload_n h dX8_nextPlan_87 rfl rfl ?_
                refine m_iload_n h dX8_nextPlan_88 rfl rfl ?_
                refine m_iconst h dX8_nextPlan_89 ?_
                refine m_vI h (m_least0 _ hG w n (by omega) (s n) (fun k q1 q2 => by rw [k27]; exact hs n k (by omega) (by omega) q1 q2)) moX8_least voX8_least lk_X8_121 dX8_nextPlan_90 (by decide) (by decide) rfl rfl rfl (Nat.le_of_ble_eq_true rfl) (fun rs u5 p6 => ?_)
                obtain ⟨hu8, ers⟩ := p6
                rw [hu8]
                refine m_iast h (ar_38 G) (by omega) (by omega) dX8_nextPlan_93 ?_
                refine m_iinc h dX8_nextPlan_94 rfl (by decide) rfl ?_
                refine m_goto h dX8_nextPlan_97 (tgt := 7) (by decide) ?_
                refine m_kill 2 ?_
                have hr0 := SL_ok (hne n (by omega) (by omega))
                refine ihA (m + 1) _ _ (by omega) (by omega) (by omega) (fun i hi => by rw [wI_c hi, k1 i hi]; exact h1 i hi) (k2.trans h2) (fun x q1 q2 => ?_) (fun x q1 q2 => ?_) (fun P hP => ?_)
                · rw [wI_n (by omega), k3 x (by omega)]; exact h3 x q1 (by omega)
                · by_cases e : x = n
                  · subst e; rw [wI_s, ers]; rfl
                  · rw [wI_n e, k3 x e]; exact h4 x (by omega) q2
                · have e1 : aft g s P (m + 1) (v.1 38) = aft g s P m (v.1 38) + upr g s P m (v.1 38) := rfl
                  have e2 := upr_none (g := g) (s := s) (P := P) (m := m) (ch := v.1 38) (fun k q1 q2 => by rw [hnm] at q1 ⊢; exact k5 k q1 (by omega))
                  rw [e1, e2, h5 P hP]; rfl
              · skip
                refine m_iconst h dX8_nextPlan_80 ?_
                refine m_zret h hR rfl dX8_nextPlan_81 (by omega) ?_
                have k7' := k7 (by omega)
                refine ⟨fun i hi => by rw [k1 i hi]; exact h1 i hi, k2.trans h2, fun x q1 q2 => ?_, Or.inl ⟨rfl, fun P hP => ?_⟩⟩
                · by_cases e : x = n
                  · subst e; omega
                  · rw [k3 x e]
                    by_cases e2 : x < (c : Int) - m
                    · rw [h3 x q1 e2]; exact hl x q1 q2
                    · rw [h4 x (by omega) q2]; exact SL_ok (hne x q1 q2)
                · refine aft_next hP (fun x q1 q2 => hne x q1 (by omega)) hcn (m := m) (w := w.1 38 n) (by omega) (h5 P hP) (by omega) ?_ ?_ ?_ (fun x q1 q2 => ?_) ?_ (fun x q1 q2 => ?_)
                  · rw [hnm]; rcases k7'.2 with q | q
                    · omega
                    · exact q
                  · rw [hnm]; omega
                  · rw [hnm]; exact k5
                  · rw [k3 x (by omega)]; exact h3 x q1 (by omega)
                  · rw [hnm]
                  · rw [k3 x (by omega)]; exact h4 x (by omega) (by omega)
            · skip
              refine m_aload_n h dX8_nextPlan_17 rfl rfl ?_
              refine m_get h fo_X8_51 (by decide) rfl rfl dX8_nextPlan_18 ?_
              refine m_iload_n h dX8_nextPlan_21 rfl rfl ?_
              refine m_dup2 h dX8_nextPlan_22 rfl rfl ?_
              refine m_iald h (ar_38 G) (by omega) (by omega) dX8_nextPlan_23 ?_
              refine m_iconst h dX8_nextPlan_24 ?_
              refine m_iadd h dX8_nextPlan_25 ?_
              refine m_iast h (ar_38 G) (by omega) (by omega) dX8_nextPlan_26 ?_
              refine m_aload_n h dX8_nextPlan_27 rfl rfl ?_
              refine m_get h fo_X8_51 (by decide) rfl rfl dX8_nextPlan_28 ?_
              refine m_iload_n h dX8_nextPlan_31 rfl rfl ?_
              refine m_iald h (ar_38 G) (by omega) (by omega) dX8_nextPlan_32 ?_
              rw [wI_s]
              show M X G 3 (wI w 38 n ((w.1 38 n) + 1)) 33 [some (.ref (G.2.1 25)), some (.int (iI n)), some (.int (iI b))] [.int (iI ((w.1 38 n) + 1))]
              refine m_bipush h dX8_nextPlan_33 (by decide) ?_
              refine m_icmp_gt h dX8_nextPlan_35 (tgt := 64) (by decide) (by omega) (by omega) (fun c7 => ?_) (fun c7 => ?_)
              · skip
                refine m_iconst h dX8_nextPlan_64 ?_
                refine m_istore_n h dX8_nextPlan_65 rfl (by decide) rfl ?_
                refine m_goto h dX8_nextPlan_66 (tgt := 13) (by decide) ?_
                have k6' := k6 (by omega)
                refine ihB 0 _ (by rw [wI_s]; omega) (by omega) (fun i hi => by rw [wI_c hi]; exact k1 i hi) k2 (fun x hx => by rw [wI_n hx]; exact k3 x hx) (by rw [wI_s]; omega) (fun k q1 q2 => ?_) (fun q => ?_) (fun q => ?_)
                · rw [wI_s] at q2
                  by_cases e : k = w.1 38 n + 32
                  · rcases k6'.2 with q | q
                    · omega
                    · rw [e]; exact q
                  · exact k5 k q1 (by omega)
                · first
                    | omega
                    | (rw [wI_s]
                       refine ⟨by omega, Or.inr ?_⟩
                       have hq := hbw.no (by omega)
                       cases hs3 : s n (w.1 38 n + 1 + 32) with
                       | false => rfl
                       | true => exact absurd hs3 hq)
                · first
                    | omega
                    | (rw [wI_s]
                       refine ⟨by omega, ?_⟩
                       first
                         | (left; omega)
                         | (right; exact hbw.yes (by omega)))
              · skip
                have hbw : bz (w.1 27 (64 * n + (w.1 38 n + 1) + 32)) (s n (w.1 38 n + 1 + 32) = true) := by
                  rw [show 64 * n + (w.1 38 n + 1) + 32 = 64 * n + (w.1 38 n + 1 + 32) by omega, k27]
                  exact hs n _ (by omega) (by omega) (by omega) (by omega)
                have hbi := hbw.in
                refine m_aload_n h dX8_nextPlan_38 rfl rfl ?_
                refine m_get h fo_X8_13 (by decide) rfl rfl dX8_nextPlan_39 ?_
                refine m_bipush h dX8_nextPlan_42 (by decide) ?_
                refine m_iload_n h dX8_nextPlan_44 rfl rfl ?_
                refine m_imul h dX8_nextPlan_45 ?_
                refine m_aload_n h dX8_nextPlan_46 rfl rfl ?_
                refine m_get h fo_X8_51 (by decide) rfl rfl dX8_nextPlan_47 ?_
                refine m_iload_n h dX8_nextPlan_50 rfl rfl ?_
                refine m_iald h (ar_38 G) (by omega) (by omega) dX8_nextPlan_51 ?_
                rw [wI_s]
                show M X G 3 (wI w 38 n ((w.1 38 n) + 1)) 52 [some (.ref (G.2.1 25)), some (.int (iI n)), some (.int (iI b))] [.int (iI ((w.1 38 n) + 1)), .int (iI (64 * n)), .ref (G.2.1 27)]
                refine m_iadd h dX8_nextPlan_52 ?_
                refine m_bipush h dX8_nextPlan_53 (by decide) ?_
                refine m_iadd h dX8_nextPlan_55 ?_
                refine m_zald h (ar_27 G) (by omega) (by omega) dX8_nextPlan_56 ?_
                show M X G 3 (wI w 38 n ((w.1 38 n) + 1)) 57 [some (.ref (G.2.1 25)), some (.int (iI n)), some (.int (iI b))] [.int (iI (w.1 27 (((64 * n) + ((w.1 38 n) + 1)) + 32)))]
                refine m_if_ne h dX8_nextPlan_57 (tgt := 64) (by decide) (by omega) (fun c8 => ?_) (fun c8 => ?_)
                · skip
                  refine m_iconst h dX8_nextPlan_64 ?_
                  refine m_istore_n h dX8_nextPlan_65 rfl (by decide) rfl ?_
                  refine m_goto h dX8_nextPlan_66 (tgt := 13) (by decide) ?_
                  have k6' := k6 (by omega)
                  refine ihB 0 _ (by rw [wI_s]; omega) (by omega) (fun i hi => by rw [wI_c hi]; exact k1 i hi) k2 (fun x hx => by rw [wI_n hx]; exact k3 x hx) (by rw [wI_s]; omega) (fun k q1 q2 => ?_) (fun q => ?_) (fun q => ?_)
                  · rw [wI_s] at q2
                    by_cases e : k = w.1 38 n + 32
                    · rcases k6'.2 with q | q
                      · omega
                      · rw [e]; exact q
                    · exact k5 k q1 (by omega)
                  · first
                      | omega
                      | (rw [wI_s]
                         refine ⟨by omega, Or.inr ?_⟩
                         have hq := hbw.no (by omega)
                         cases hs3 : s n (w.1 38 n + 1 + 32) with
                         | false => rfl
                         | true => exact absurd hs3 hq)
                  · first
                      | omega
                      | (rw [wI_s]
                         refine ⟨by omega, ?_⟩
                         first
                           | (left; omega)
                           | (right; exact hbw.yes (by omega)))
                · skip
                  refine m_iconst h dX8_nextPlan_60 ?_
                  refine m_goto h dX8_nextPlan_61 (tgt := 65) (by decide) ?_
                  refine m_istore_n h dX8_nextPlan_65 rfl (by decide) rfl ?_
                  refine m_goto h dX8_nextPlan_66 (tgt := 13) (by decide) ?_
                  have k6' := k6 (by omega)
                  refine ihB 1 _ (by rw [wI_s]; omega) (by omega) (fun i hi => by rw [wI_c hi]; exact k1 i hi) k2 (fun x hx => by rw [wI_n hx]; exact k3 x hx) (by rw [wI_s]; omega) (fun k q1 q2 => ?_) (fun q => ?_) (fun q => ?_)
                  · rw [wI_s] at q2
                    by_cases e : k = w.1 38 n + 32
                    · rcases k6'.2 with q | q
                      · omega
                      · rw [e]; exact q
                    · exact k5 k q1 (by omega)
                  · first
                      | omega
                      | (rw [wI_s]
                         refine ⟨by omega, Or.inr ?_⟩
                         have hq := hbw.no (by omega)
                         cases hs3 : s n (w.1 38 n + 1 + 32) with
                         | false => rfl
                         | true => exact absurd hs3 hq)
                  · first
                      | omega
                      | (rw [wI_s]
                         refine ⟨by omega, ?_⟩
                         first
                           | (left; omega)
                           | (right; exact hbw.yes (by omega)))
        have hun : u.1 38 n = v.1 38 n := h3 n (by omega) (by omega)
        have hln := hl n (by omega) (by omega)
        exact lp13 200 1 u (by omega) (Or.inr rfl) (fun _ _ => rfl) rfl (fun _ _ => rfl) (by omega) (fun k q1 q2 => by omega) (fun _ => by omega) (fun q => by omega)
  exact lp7 40 0 _ v (by omega) (by omega) (by omega) (fun _ _ => rfl) rfl (fun x q1 q2 => rfl) (fun x q1 q2 => by omega) (fun P hP => rfl)

set_option maxRecDepth 100000 in
set_option maxHeartbeats 4000000 in
theorem m_plans (l : Launch) {G : GT} (hG : gok G) (v : Mem) (g : Cfg) (t : TT) (hg : GO g) (ht : TO g t) (hRM : RMM g t v) : CC l G nX8_plans 5 [.ref (G.2.1 25)] v (qI G (fun q u => q = A_plans g t ∧ FrB v u)) := by
  refine m_start (lv := [some (.ref (G.2.1 25)), none, none, none, none, none]) hG (by decide +kernel) rfl (Nat.le_of_ble_eq_true rfl) ?_
  intro X hL h hR
  subst hL
  obtain ⟨⟨s0, s1, s2, s3⟩, hRt⟩ := id hRM
  have hB := hRt.1
  have hgn := hg.1
  have hgr := hg.2.1
  obtain ⟨c, hcn⟩ : ∃ c : Nat, g_n g = c := ⟨(g_n g).toNat, by omega⟩
  have hc8 : c ≤ 8 := by omega
  have hct : (g_n g).toNat = c := by omega
  have hap : A_plans g t = if 4000 < prS g (t_s t) c then -1000 else cP g (t_s t) c (fun _ => 0) := by unfold A_plans; rw [hct]
  show M X G 6 v 0 [some (.ref (G.2.1 25)), none, none, none, none, none] []
  refine m_iconst h dX8_plans_0 ?_
  refine m_istore_n h dX8_plans_1 rfl (by decide) rfl ?_
  refine m_iconst h dX8_plans_2 ?_
  refine m_istore_n h dX8_plans_3 rfl (by decide) rfl ?_
  have lp4 : ∀ (fuel : Nat) (j : Nat) (A : Int), j ≤ c → 20 - j < fuel → ALL (prS g (t_s t) j) A → M X G 6 v 4 [some (.ref (G.2.1 25)), some (.int (iI A)), some (.int (iI (j : Int))), none, none, none] [] := by
    intro fuel
    induction fuel with
    | zero => intro j A hj hfu hA; exfalso; omega
    | succ fuel ih =>
      intro j A hj hfu hA
      have hAr := hA.rg
      refine m_iload_n h dX8_plans_4 rfl rfl ?_
      refine m_aload_n h dX8_plans_5 rfl rfl ?_
      refine m_get h fo_X8_57 (by decide) rfl rfl dX8_plans_6 ?_
      refine m_icmp_ge h dX8_plans_9 (tgt := 52) (by decide) (by omega) (by omega) (fun c1 => ?_) (fun c1 => ?_)
      · skip
        refine m_iload_n h dX8_plans_52 rfl rfl ?_
        refine m_sipush h dX8_plans_53 (by decide) ?_
        refine m_icmp_le h dX8_plans_56 (tgt := 63) (by decide) (by omega) (by omega) (fun c2 => ?_) (fun c2 => ?_)
        · skip
          have ejc : j = c := by omega
          rw [ejc] at hA
          have hsmall : ¬ 4000 < prS g (t_s t) c := fun q => by have := hA.2.2 q; omega
          have hAe : A = prS g (t_s t) c := hA.2.1 (by omega)
          refine m_iconst h dX8_plans_63 ?_
          refine m_istore_n h dX8_plans_64 rfl (by decide) rfl ?_
          have lp65 : ∀ (fuel : Nat) (i : Nat) (u : Mem), i ≤ c → 20 - i < fuel → (∀ i, i ≠ 38 → u.1 i = v.1 i) → u.2 = v.2 → (∀ x, 0 ≤ x → x < (i : Int) → u.1 38 x = lS (t_s t) x) → M X G 6 u 65 [some (.ref (G.2.1 25)), some (.int (iI A)), some (.int (iI (i : Int))), none, none, none] [] := by
            intro fuel
            induction fuel with
            | zero => intro i u hi hfu2 h1 h2 h3; exfalso; omega
            | succ fuel ihB =>
              intro i u hi hfu2 h1 h2 h3
              have e25 : u.1 25 0 = v.1 25 0 := by rw [h1 25 (by decide)]
              have e27 := h1 27 (by decide)
              refine m_iload_n h dX8_plans_65 rfl rfl ?_
              refine m_aload_n h dX8_plans_66 rfl rfl ?_
              refine m_get h fo_X8_57 (by decide) rfl rfl dX8_plans_67 ?_
              refine m_icmp_ge h dX8_plans_70 (tgt := 91) (by decide) (by omega) (by omega) (fun c3 => ?_) (fun c3 => ?_)
              · skip
                refine m_iconst h dX8_plans_91 ?_
                refine m_istore_n h dX8_plans_92 rfl (by decide) rfl ?_
                refine m_iload_n h dX8_plans_93 rfl rfl ?_
                refine m_if_le h dX8_plans_94 (tgt := 101) (by decide) (by omega) (fun c4 => ?_) (fun c4 => ?_)
                · skip
                  refine m_iconst h dX8_plans_101 ?_
                  refine m_istore_n h dX8_plans_102 rfl (by decide) rfl ?_
                  have lp103 : ∀ (fuel : Nat) (N : Int) (b : Int) (w : Mem), 0 < fuel → (b = 1 → 1 + aft g (t_s t) One c (w.1 38) < (fuel : Int)) → b = 0 ∨ b = 1 → FrB v w → (b = 1 → ∀ x, 0 ≤ x → x < (c : Int) → ¬ emp (t_s t x)) → (b = 1 → ∀ x, 0 ≤ x → x < (c : Int) → -32 ≤ w.1 38 x ∧ w.1 38 x ≤ 31) → (b = 1 → N + gdP g (w.1 38) + aft g (t_s t) (gdP g) c (w.1 38) = cP g (t_s t) c (fun _ => 0)) → (b = 0 → N = cP g (t_s t) c (fun _ => 0)) → M X G 6 w 103 [some (.ref (G.2.1 25)), some (.int (iI A)), some (.int (iI N)), some (.int (iI b)), none, none] [] := by
                    intro fuel
                    induction fuel with
                    | zero => intro N b w hfu3 hfu4 hb hF l1 l2 l3 l4; exfalso; omega
                    | succ fuel ihC =>
                      intro N b w hfu3 hfu4 hb hF l1 l2 l3 l4
                      refine m_iload_n h dX8_plans_103 rfl rfl ?_
                      refine m_if_eq h dX8_plans_104 (tgt := 162) (by decide) (by omega) (fun c5 => ?_) (fun c5 => ?_)
                      · skip
                        refine m_iload_n h dX8_plans_162 rfl rfl ?_
                        refine m_iret h hR rfl dX8_plans_163 ?_
                        refine ⟨?_, hF⟩
                        rw [hap, if_neg hsmall]
                        exact l4 (by omega)
                      · skip
                        have hne := l1 (by omega)
                        have hlw := l2 (by omega)
                        have hl3 := l3 (by omega)
                        have hfu6 := hfu4 (by omega)
                        have hnn := aft_nn (g := g) (s := t_s t) (P := One) (fun _ => by show (0 : Int) ≤ 1; decide) c (w.1 38)
                        refine m_iconst h dX8_plans_107 ?_
                        refine m_istore h dX8_plans_108 (by decide) rfl ?_
                        refine m_iconst h dX8_plans_110 ?_
                        refine m_istore h dX8_plans_111 (by decide) rfl ?_
                        have lp113 : ∀ (fuel : Nat) (r : Nat) (gd : Int) (y : Mem), (r : Int) ≤ g_r g → 30 - r < fuel → (∀ i, i ≠ 39 → y.1 i = w.1 i) → y.2 = w.2 → bz gd (∀ q : Nat, q < r → CnR g q (w.1 38) (w.1 38)) → M X G 6 y 113 [some (.ref (G.2.1 25)), some (.int (iI A)), some (.int (iI N)), some (.int (iI b)), some (.int (iI gd)), some (.int (iI (r : Int)))] [] := by
                          intro fuel
                          induction fuel with
                          | zero => intro r gd y hrr hfu5 f1 f2 f3; exfalso; omega
                          | succ fuel ihD =>
                            intro r gd y hrr hfu5 f1 f2 f3
                            have f38 : y.1 38 = w.1 38 := f1 38 (by decide)
                            have f25 : y.1 25 = v.1 25 := by rw [f1 25 (by decide), hF.1 25 (by decide) (by decide)]
                            have f251 : y.1 25 1 = g_r g := by rw [f25]; exact s1
                            have f3i := f3.in
                            refine m_iload h dX8_plans_113 rfl ?_
                            refine m_aload_n h dX8_plans_115 rfl rfl ?_
                            refine m_get h fo_X8_64 (by decide) rfl rfl dX8_plans_116 ?_
                            refine m_icmp_ge h dX8_plans_119 (tgt := 141) (by decide) (by omega) (by omega) (fun c6 => ?_) (fun c6 => ?_)
                            · skip
                              have hgd : gdP g (w.1 38) = gd := by
                                by_cases e : gd = 0
                                · rw [e]; exact gdP_0 (fun q => f3.no e (fun x hx => q x (by omega)))
                                · rw [gdP_1 (fun x hx => f3.yes e x (by omega))]; omega
                              have hsy : B0 27 (t_s t) y := by
                                unfold B0 at *
                                rw [f1 27 (by decide), hF.1 27 (by decide) (by decide)]
                                exact hB
                              refine m_iload_n h dX8_plans_141 rfl rfl ?_
                              refine m_iload h dX8_plans_142 rfl ?_
                              refine m_if_eq h dX8_plans_144 (tgt := 151) (by decide) (by omega) (fun c7 => ?_) (fun c7 => ?_)
                              · skip
                                refine m_iconst h dX8_plans_151 ?_
                                refine m_iadd h dX8_plans_152 ?_
                                refine m_istore_n h dX8_plans_153 rfl (by decide) rfl ?_
                                refine m_aload_n h dX8_plans_154 rfl rfl ?_
                                refine m_vI h (m_nextPlan _ hG y g (t_s t) hsy c hcn (by rw [f25]; omega) hc8 hne (by rw [f38]; exact hlw)) moX8_nextPlan voX8_nextPlan lk_X8_154 dX8_plans_155 (by decide) (by decide) rfl rfl rfl (Nat.le_of_ble_eq_true rfl) (fun rn un p10 => ?_)
                                obtain ⟨n1, n2, n3, n4⟩ := p10
                                have n4i : rn = 0 ∨ rn = 1 := n4.elim (fun q => Or.inr q.1) (fun q => Or.inl q.1)
                                have hFn : FrB v un := hF.tr ⟨fun i a b => by rw [n1 i a, f1 i b], n2.trans f2⟩
                                refine m_istore_n h dX8_plans_158 rfl (by decide) rfl ?_
                                refine m_goto h dX8_plans_159 (tgt := 103) (by decide) ?_
                                refine m_kill 4 ?_
                                refine m_kill 5 ?_
                                rcases n4 with ⟨e, n4⟩ | ⟨e, n4⟩
                                · have a1 := n4 One PE_One
                                  have a2 := n4 (gdP g) (PE_gd hg.wf)
                                  have a3 : One (un.1 38) = 1 := rfl
                                  rw [f38] at a1 a2
                                  refine ihC _ _ un (by omega) (fun _ => by omega) (Or.inr e) hFn (fun _ => hne) (fun _ => n3) (fun _ => ?_) (fun q => by omega)
                                  omega
                                · have a2 := n4 (gdP g) (PE_gd hg.wf)
                                  rw [f38] at a2
                                  refine ihC _ _ un (by omega) (fun q => by omega) (Or.inl e) hFn (fun _ => hne) (fun _ => n3) (fun q => by omega) (fun _ => ?_)
                                  omega
                              · skip
                                refine m_iconst h dX8_plans_147 ?_
                                refine m_goto h dX8_plans_148 (tgt := 152) (by decide) ?_
                                refine m_iadd h dX8_plans_152 ?_
                                refine m_istore_n h dX8_plans_153 rfl (by decide) rfl ?_
                                refine m_aload_n h dX8_plans_154 rfl rfl ?_
                                refine m_vI h (m_nextPlan _ hG y g (t_s t) hsy c hcn (by rw [f25]; omega) hc8 hne (by rw [f38]; exact hlw)) moX8_nextPlan voX8_nextPlan lk_X8_154 dX8_plans_155 (by decide) (by decide) rfl rfl rfl (Nat.le_of_ble_eq_true rfl) (fun rn un p13 => ?_)
                                obtain ⟨n1, n2, n3, n4⟩ := p13
                                have n4i : rn = 0 ∨ rn = 1 := n4.elim (fun q => Or.inr q.1) (fun q => Or.inl q.1)
                                have hFn : FrB v un := hF.tr ⟨fun i a b => by rw [n1 i a, f1 i b], n2.trans f2⟩
                                refine m_istore_n h dX8_plans_158 rfl (by decide) rfl ?_
                                refine m_goto h dX8_plans_159 (tgt := 103) (by decide) ?_
                                refine m_kill 4 ?_
                                refine m_kill 5 ?_
                                rcases n4 with ⟨e, n4⟩ | ⟨e, n4⟩
                                · have a1 := n4 One PE_One
                                  have a2 := n4 (gdP g) (PE_gd hg.wf)
                                  have a3 : One (un.1 38) = 1 := rfl
                                  rw [f38] at a1 a2
                                  refine ihC _ _ un (by omega) (fun _ => by omega) (Or.inr e) hFn (fun _ => hne) (fun _ => n3) (fun _ => ?_) (fun q => by omega)
                                  omega
                                · have a2 := n4 (gdP g) (PE_gd hg.wf)
                                  rw [f38] at a2
                                  refine ihC _ _ un (by omega) (fun q => by omega) (Or.inl e) hFn (fun _ => hne) (fun _ => n3) (fun q => by omega) (fun _ => ?_)
                                  omega
                            · skip
                              refine m_iload h dX8_plans_122 rfl ?_
                              refine m_if_eq h dX8_plans_124 (tgt := 141) (by decide) (by omega) (fun c14 => ?_) (fun c14 => ?_)
                              · skip
                                have hgd : gdP g (w.1 38) = gd := by
                                  by_cases e : gd = 0
                                  · rw [e]; exact gdP_0 (fun q => f3.no e (fun x hx => q x (by omega)))
                                  · rw [gdP_1 (fun x hx => f3.yes e x (by omega))]; omega
                                have hsy : B0 27 (t_s t) y := by
                                  unfold B0 at *
                                  rw [f1 27 (by decide), hF.1 27 (by decide) (by decide)]
                                  exact hB
                                refine m_iload_n h dX8_plans_141 rfl rfl ?_
                                refine m_iload h dX8_plans_142 rfl ?_
                                refine m_if_eq h dX8_plans_144 (tgt := 151) (by decide) (by omega) (fun c15 => ?_) (fun c15 => ?_)
                                · skip
                                  refine m_iconst h dX8_plans_151 ?_
                                  refine m_iadd h dX8_plans_152 ?_
                                  refine m_istore_n h dX8_plans_153 rfl (by decide) rfl ?_
                                  refine m_aload_n h dX8_plans_154 rfl rfl ?_
                                  refine m_vI h (m_nextPlan _ hG y g (t_s t) hsy c hcn (by rw [f25]; omega) hc8 hne (by rw [f38]; exact hlw)) moX8_nextPlan voX8_nextPlan lk_X8_154 dX8_plans_155 (by decide) (by decide) rfl rfl rfl (Nat.le_of_ble_eq_true rfl) (fun rn un p18 => ?_)
                                  obtain ⟨n1, n2, n3, n4⟩ := p18
                                  have n4i : rn = 0 ∨ rn = 1 := n4.elim (fun q => Or.inr q.1) (fun q => Or.inl q.1)
                                  have hFn : FrB v un := hF.tr ⟨fun i a b => by rw [n1 i a, f1 i b], n2.trans f2⟩
                                  refine m_istore_n h dX8_plans_158 rfl (by decide) rfl ?_
                                  refine m_goto h dX8_plans_159 (tgt := 103) (by decide) ?_
                                  refine m_kill 4 ?_
                                  refine m_kill 5 ?_
                                  rcases n4 with ⟨e, n4⟩ | ⟨e, n4⟩
                                  · have a1 := n4 One PE_One
                                    have a2 := n4 (gdP g) (PE_gd hg.wf)
                                    have a3 : One (un.1 38) = 1 := rfl
                                    rw [f38] at a1 a2
                                    refine ihC _ _ un (by omega) (fun _ => by omega) (Or.inr e) hFn (fun _ => hne) (fun _ => n3) (fun _ => ?_) (fun q => by omega)
                                    omega
                                  · have a2 := n4 (gdP g) (PE_gd hg.wf)
                                    rw [f38] at a2
                                    refine ihC _ _ un (by omega) (fun q => by omega) (Or.inl e) hFn (fun _ => hne) (fun _ => n3) (fun q => by omega) (fun _ => ?_)
                                    omega
                                · skip
                                  refine m_iconst h dX8_plans_147 ?_
                                  refine m_goto h dX8_plans_148 (tgt := 152) (by decide) ?_
                                  refine m_iadd h dX8_plans_152 ?_
                                  refine m_istore_n h dX8_plans_153 rfl (by decide) rfl ?_
                                  refine m_aload_n h dX8_plans_154 rfl rfl ?_
                                  refine m_vI h (m_nextPlan _ hG y g (t_s t) hsy c hcn (by rw [f25]; omega) hc8 hne (by rw [f38]; exact hlw)) moX8_nextPlan voX8_nextPlan lk_X8_154 dX8_plans_155 (by decide) (by decide) rfl rfl rfl (Nat.le_of_ble_eq_true rfl) (fun rn un p21 => ?_)
                                  obtain ⟨n1, n2, n3, n4⟩ := p21
                                  have n4i : rn = 0 ∨ rn = 1 := n4.elim (fun q => Or.inr q.1) (fun q => Or.inl q.1)
                                  have hFn : FrB v un := hF.tr ⟨fun i a b => by rw [n1 i a, f1 i b], n2.trans f2⟩
                                  refine m_istore_n h dX8_plans_158 rfl (by decide) rfl ?_
                                  refine m_goto h dX8_plans_159 (tgt := 103) (by decide) ?_
                                  refine m_kill 4 ?_
                                  refine m_kill 5 ?_
                                  rcases n4 with ⟨e, n4⟩ | ⟨e, n4⟩
                                  · have a1 := n4 One PE_One
                                    have a2 := n4 (gdP g) (PE_gd hg.wf)
                                    have a3 : One (un.1 38) = 1 := rfl
                                    rw [f38] at a1 a2
                                    refine ihC _ _ un (by omega) (fun _ => by omega) (Or.inr e) hFn (fun _ => hne) (fun _ => n3) (fun _ => ?_) (fun q => by omega)
                                    omega
                                  · have a2 := n4 (gdP g) (PE_gd hg.wf)
                                    rw [f38] at a2
                                    refine ihC _ _ un (by omega) (fun q => by omega) (Or.inl e) hFn (fun _ => hne) (fun _ => n3) (fun q => by omega) (fun _ => ?_)
                                    omega
                              · skip
                                have hvr : RwM g r y := by
                                  have q := s3 r (by omega)
                                  unfold RwM at *
                                  rw [f1 28 (by decide), f1 29 (by decide), f1 30 (by decide), f1 31 (by decide), hF.1 28 (by decide) (by decide), hF.1 29 (by decide) (by decide), hF.1 30 (by decide) (by decide), hF.1 31 (by decide) (by decide)]
                                  exact q
                                refine m_aload_n h dX8_plans_127 rfl rfl ?_
                                refine m_iload h dX8_plans_128 rfl ?_
                                refine m_vI h (m_holds _ hG y g r (by omega) (hg.2.2.1 r (by omega)) hvr c hcn (by rw [f25]; omega) hc8 (by rw [f38]; exact hlw)) moX8_holds voX8_holds lk_X8_151 dX8_plans_130 (by decide) (by decide) rfl rfl rfl (Nat.le_of_ble_eq_true rfl) (fun rh uh p24 => ?_)
                                obtain ⟨o1, o2, o3⟩ := p24
                                rw [f38] at o3
                                have o3i := o3.in
                                refine m_istore h dX8_plans_133 (by decide) rfl ?_
                                refine m_iinc h dX8_plans_135 rfl (by decide) rfl ?_
                                refine m_goto h dX8_plans_138 (tgt := 113) (by decide) ?_
                                refine ihD (r + 1) rh uh (by omega) (by omega) (fun i hi => by rw [o1 i hi]; exact f1 i hi) (o2.trans f2) (o3.iff ?_)
                                constructor
                                · intro q x hx
                                  by_cases e : x = r
                                  · rw [e]; exact q
                                  · exact f3.yes (by omega) x (by omega)
                                · intro q; exact q r (by omega)
                        exact lp113 40 0 1 w (by omega) (by omega) (fun _ _ => rfl) rfl (bz1 (fun q hq => by omega))
                  exact lp103 1 0 0 u (by omega) (fun q => by omega) (Or.inl rfl) ⟨fun i a _ => h1 i a, h2⟩ (fun q => by omega) (fun q => by omega) (fun q => by omega) (fun _ => (plans_0 hcn (by omega) _).symm)
                · skip
                  refine m_iconst h dX8_plans_97 ?_
                  refine m_goto h dX8_plans_98 (tgt := 102) (by decide) ?_
                  refine m_istore_n h dX8_plans_102 rfl (by decide) rfl ?_
                  have lp103 : ∀ (fuel : Nat) (N : Int) (b : Int) (w : Mem), 0 < fuel → (b = 1 → 1 + aft g (t_s t) One c (w.1 38) < (fuel : Int)) → b = 0 ∨ b = 1 → FrB v w → (b = 1 → ∀ x, 0 ≤ x → x < (c : Int) → ¬ emp (t_s t x)) → (b = 1 → ∀ x, 0 ≤ x → x < (c : Int) → -32 ≤ w.1 38 x ∧ w.1 38 x ≤ 31) → (b = 1 → N + gdP g (w.1 38) + aft g (t_s t) (gdP g) c (w.1 38) = cP g (t_s t) c (fun _ => 0)) → (b = 0 → N = cP g (t_s t) c (fun _ => 0)) → M X G 6 w 103 [some (.ref (G.2.1 25)), some (.int (iI A)), some (.int (iI N)), some (.int (iI b)), none, none] [] := by
                    intro fuel
                    induction fuel with
                    | zero => intro N b w hfu3 hfu4 hb hF l1 l2 l3 l4; exfalso; omega
                    | succ fuel ihC =>
                      intro N b w hfu3 hfu4 hb hF l1 l2 l3 l4
                      refine m_iload_n h dX8_plans_103 rfl rfl ?_
                      refine m_if_eq h dX8_plans_104 (tgt := 162) (by decide) (by omega) (fun c25 => ?_) (fun c25 => ?_)
                      · skip
                        refine m_iload_n h dX8_plans_162 rfl rfl ?_
                        refine m_iret h hR rfl dX8_plans_163 ?_
                        refine ⟨?_, hF⟩
                        rw [hap, if_neg hsmall]
                        exact l4 (by omega)
                      · skip
                        have hne := l1 (by omega)
                        have hlw := l2 (by omega)
                        have hl3 := l3 (by omega)
                        have hfu6 := hfu4 (by omega)
                        have hnn := aft_nn (g := g) (s := t_s t) (P := One) (fun _ => by show (0 : Int) ≤ 1; decide) c (w.1 38)
                        refine m_iconst h dX8_plans_107 ?_
                        refine m_istore h dX8_plans_108 (by decide) rfl ?_
                        refine m_iconst h dX8_plans_110 ?_
                        refine m_istore h dX8_plans_111 (by decide) rfl ?_
                        have lp113 : ∀ (fuel : Nat) (r : Nat) (gd : Int) (y : Mem), (r : Int) ≤ g_r g → 30 - r < fuel → (∀ i, i ≠ 39 → y.1 i = w.1 i) → y.2 = w.2 → bz gd (∀ q : Nat, q < r → CnR g q (w.1 38) (w.1 38)) → M X G 6 y 113 [some (.ref (G.2.1 25)), some (.int (iI A)), some (.int (iI N)), some (.int (iI b)), some (.int (iI gd)), some (.int (iI (r : Int)))] [] := by
                          intro fuel
                          induction fuel with
                          | zero => intro r gd y hrr hfu5 f1 f2 f3; exfalso; omega
                          | succ fuel ihD =>
                            intro r gd y hrr hfu5 f1 f2 f3
                            have f38 : y.1 38 = w.1 38 := f1 38 (by decide)
                            have f25 : y.1 25 = v.1 25 := by rw [f1 25 (by decide), hF.1 25 (by decide) (by decide)]
                            have f251 : y.1 25 1 = g_r g := by rw [f25]; exact s1
                            have f3i := f3.in
                            refine m_iload h dX8_plans_113 rfl ?_
                            refine m_aload_n h dX8_plans_115 rfl rfl ?_
                            refine m_get h fo_X8_64 (by decide) rfl rfl dX8_plans_116 ?_
                            refine m_icmp_ge h dX8_plans_119 (tgt := 141) (by decide) (by omega) (by omega) (fun c26 => ?_) (fun c26 => ?_)
                            · skip
                              have hgd : gdP g (w.1 38) = gd := by
                                by_cases e : gd = 0
                                · rw [e]; exact gdP_0 (fun q => f3.no e (fun x hx => q x (by omega)))
                                · rw [gdP_1 (fun x hx => f3.yes e x (by omega))]; omega
                              have hsy : B0 27 (t_s t) y := by
                                unfold B0 at *
                                rw [f1 27 (by decide), hF.1 27 (by decide) (by decide)]
                                exact hB
                              refine m_iload_n h dX8_plans_141 rfl rfl ?_
                              refine m_iload h dX8_plans_142 rfl ?_
                              refine m_if_eq h dX8_plans_144 (tgt := 151) (by decide) (by omega) (fun c27 => ?_) (fun c27 => ?_)
                              · skip
                                refine m_iconst h dX8_plans_151 ?_
                                refine m_iadd h dX8_plans_152 ?_
                                refine m_istore_n h dX8_plans_153 rfl (by decide) rfl ?_
                                refine m_aload_n h dX8_plans_154 rfl rfl ?_
                                refine m_vI h (m_nextPlan _ hG y g (t_s t) hsy c hcn (by rw [f25]; omega) hc8 hne (by rw [f38]; exact hlw)) moX8_nextPlan voX8_nextPlan lk_X8_154 dX8_plans_155 (by decide) (by decide) rfl rfl rfl (Nat.le_of_ble_eq_true rfl) (fun rn un p30 => ?_)
                                obtain ⟨n1, n2, n3, n4⟩ := p30
                                have n4i : rn = 0 ∨ rn = 1 := n4.elim (fun q => Or.inr q.1) (fun q => Or.inl q.1)
                                have hFn : FrB v un := hF.tr ⟨fun i a b => by rw [n1 i a, f1 i b], n2.trans f2⟩
                                refine m_istore_n h dX8_plans_158 rfl (by decide) rfl ?_
                                refine m_goto h dX8_plans_159 (tgt := 103) (by decide) ?_
                                refine m_kill 4 ?_
                                refine m_kill 5 ?_
                                rcases n4 with ⟨e, n4⟩ | ⟨e, n4⟩
                                · have a1 := n4 One PE_One
                                  have a2 := n4 (gdP g) (PE_gd hg.wf)
                                  have a3 : One (un.1 38) = 1 := rfl
                                  rw [f38] at a1 a2
                                  refine ihC _ _ un (by omega) (fun _ => by omega) (Or.inr e) hFn (fun _ => hne) (fun _ => n3) (fun _ => ?_) (fun q => by omega)
                                  omega
                                · have a2 := n4 (gdP g) (PE_gd hg.wf)
                                  rw [f38] at a2
                                  refine ihC _ _ un (by omega) (fun q => by omega) (Or.inl e) hFn (fun _ => hne) (fun _ => n3) (fun q => by omega) (fun _ => ?_)
                                  omega
                              · skip
                                refine m_iconst h dX8_plans_147 ?_
                                refine m_goto h dX8_plans_148 (tgt := 152) (by decide) ?_
                                refine m_iadd h dX8_plans_152 ?_
                                refine m_istore_n h dX8_plans_153 rfl (by decide) rfl ?_
                                refine m_aload_n h dX8_plans_154 rfl rfl ?_
                                refine m_vI h (m_nextPlan _ hG y g (t_s t) hsy c hcn (by rw [f25]; omega) hc8 hne (by rw [f38]; exact hlw)) moX8_nextPlan voX8_nextPlan lk_X8_154 dX8_plans_155 (by decide) (by decide) rfl rfl rfl (Nat.le_of_ble_eq_true rfl) (fun rn un p33 => ?_)
                                obtain ⟨n1, n2, n3, n4⟩ := p33
                                have n4i : rn = 0 ∨ rn = 1 := n4.elim (fun q => Or.inr q.1) (fun q => Or.inl q.1)
                                have hFn : FrB v un := hF.tr ⟨fun i a b => by rw [n1 i a, f1 i b], n2.trans f2⟩
                                refine m_istore_n h dX8_plans_158 rfl (by decide) rfl ?_
                                refine m_goto h dX8_plans_159 (tgt := 103) (by decide) ?_
                                refine m_kill 4 ?_
                                refine m_kill 5 ?_
                                rcases n4 with ⟨e, n4⟩ | ⟨e, n4⟩
                                · have a1 := n4 One PE_One
                                  have a2 := n4 (gdP g) (PE_gd hg.wf)
                                  have a3 : One (un.1 38) = 1 := rfl
                                  rw [f38] at a1 a2
                                  refine ihC _ _ un (by omega) (fun _ => by omega) (Or.inr e) hFn (fun _ => hne) (fun _ => n3) (fun _ => ?_) (fun q => by omega)
                                  omega
                                · have a2 := n4 (gdP g) (PE_gd hg.wf)
                                  rw [f38] at a2
                                  refine ihC _ _ un (by omega) (fun q => by omega) (Or.inl e) hFn (fun _ => hne) (fun _ => n3) (fun q => by omega) (fun _ => ?_)
                                  omega
                            · skip
                              refine m_iload h dX8_plans_122 rfl ?_
                              refine m_if_eq h dX8_plans_124 (tgt := 141) (by decide) (by omega) (fun c34 => ?_) (fun c34 => ?_)
                              · skip
                                have hgd : gdP g (w.1 38) = gd := by
                                  by_cases e : gd = 0
                                  · rw [e]; exact gdP_0 (fun q => f3.no e (fun x hx => q x (by omega)))
                                  · rw [gdP_1 (fun x hx => f3.yes e x (by omega))]; omega
                                have hsy : B0 27 (t_s t) y := by
                                  unfold B0 at *
                                  rw [f1 27 (by decide), hF.1 27 (by decide) (by decide)]
                                  exact hB
                                refine m_iload_n h dX8_plans_141 rfl rfl ?_
                                refine m_iload h dX8_plans_142 rfl ?_
                                refine m_if_eq h dX8_plans_144 (tgt := 151) (by decide) (by omega) (fun c35 => ?_) (fun c35 => ?_)
                                · skip
                                  refine m_iconst h dX8_plans_151 ?_
                                  refine m_iadd h dX8_plans_152 ?_
                                  refine m_istore_n h dX8_plans_153 rfl (by decide) rfl ?_
                                  refine m_aload_n h dX8_plans_154 rfl rfl ?_
                                  refine m_vI h (m_nextPlan _ hG y g (t_s t) hsy c hcn (by rw [f25]; omega) hc8 hne (by rw [f38]; exact hlw)) moX8_nextPlan voX8_nextPlan lk_X8_154 dX8_plans_155 (by decide) (by decide) rfl rfl rfl (Nat.le_of_ble_eq_true rfl) (fun rn un p38 => ?_)
                                  obtain ⟨n1, n2, n3, n4⟩ := p38
                                  have n4i : rn = 0 ∨ rn = 1 := n4.elim (fun q => Or.inr q.1) (fun q => Or.inl q.1)
                                  have hFn : FrB v un := hF.tr ⟨fun i a b => by rw [n1 i a, f1 i b], n2.trans f2⟩
                                  refine m_istore_n h dX8_plans_158 rfl (by decide) rfl ?_
                                  refine m_goto h dX8_plans_159 (tgt := 103) (by decide) ?_
                                  refine m_kill 4 ?_
                                  refine m_kill 5 ?_
                                  rcases n4 with ⟨e, n4⟩ | ⟨e, n4⟩
                                  · have a1 := n4 One PE_One
                                    have a2 := n4 (gdP g) (PE_gd hg.wf)
                                    have a3 : One (un.1 38) = 1 := rfl
                                    rw [f38] at a1 a2
                                    refine ihC _ _ un (by omega) (fun _ => by omega) (Or.inr e) hFn (fun _ => hne) (fun _ => n3) (fun _ => ?_) (fun q => by omega)
                                    omega
                                  · have a2 := n4 (gdP g) (PE_gd hg.wf)
                                    rw [f38] at a2
                                    refine ihC _ _ un (by omega) (fun q => by omega) (Or.inl e) hFn (fun _ => hne) (fun _ => n3) (fun q => by omega) (fun _ => ?_)
                                    omega
                                · skip
                                  refine m_iconst h dX8_plans_147 ?_
                                  refine m_goto h dX8_plans_148 (tgt := 152) (by decide) ?_
                                  refine m_iadd h dX8_plans_152 ?_
                                  refine m_istore_n h dX8_plans_153 rfl (by decide) rfl ?_
                                  refine m_aload_n h dX8_plans_154 rfl rfl ?_
                                  refine m_vI h (m_nextPlan _ hG y g (t_s t) hsy c hcn (by rw [f25]; omega) hc8 hne (by rw [f38]; exact hlw)) moX8_nextPlan voX8_nextPlan lk_X8_154 dX8_plans_155 (by decide) (by decide) rfl rfl rfl (Nat.le_of_ble_eq_true rfl) (fun rn un p41 => ?_)
                                  obtain ⟨n1, n2, n3, n4⟩ := p41
                                  have n4i : rn = 0 ∨ rn = 1 := n4.elim (fun q => Or.inr q.1) (fun q => Or.inl q.1)
                                  have hFn : FrB v un := hF.tr ⟨fun i a b => by rw [n1 i a, f1 i b], n2.trans f2⟩
                                  refine m_istore_n h dX8_plans_158 rfl (by decide) rfl ?_
                                  refine m_goto h dX8_plans_159 (tgt := 103) (by decide) ?_
                                  refine m_kill 4 ?_
                                  refine m_kill 5 ?_
                                  rcases n4 with ⟨e, n4⟩ | ⟨e, n4⟩
                                  · have a1 := n4 One PE_One
                                    have a2 := n4 (gdP g) (PE_gd hg.wf)
                                    have a3 : One (un.1 38) = 1 := rfl
                                    rw [f38] at a1 a2
                                    refine ihC _ _ un (by omega) (fun _ => by omega) (Or.inr e) hFn (fun _ => hne) (fun _ => n3) (fun _ => ?_) (fun q => by omega)
                                    omega
                                  · have a2 := n4 (gdP g) (PE_gd hg.wf)
                                    rw [f38] at a2
                                    refine ihC _ _ un (by omega) (fun q => by omega) (Or.inl e) hFn (fun _ => hne) (fun _ => n3) (fun q => by omega) (fun _ => ?_)
                                    omega
                              · skip
                                have hvr : RwM g r y := by
                                  have q := s3 r (by omega)
                                  unfold RwM at *
                                  rw [f1 28 (by decide), f1 29 (by decide), f1 30 (by decide), f1 31 (by decide), hF.1 28 (by decide) (by decide), hF.1 29 (by decide) (by decide), hF.1 30 (by decide) (by decide), hF.1 31 (by decide) (by decide)]
                                  exact q
                                refine m_aload_n h dX8_plans_127 rfl rfl ?_
                                refine m_iload h dX8_plans_128 rfl ?_
                                refine m_vI h (m_holds _ hG y g r (by omega) (hg.2.2.1 r (by omega)) hvr c hcn (by rw [f25]; omega) hc8 (by rw [f38]; exact hlw)) moX8_holds voX8_holds lk_X8_151 dX8_plans_130 (by decide) (by decide) rfl rfl rfl (Nat.le_of_ble_eq_true rfl) (fun rh uh p44 => ?_)
                                obtain ⟨o1, o2, o3⟩ := p44
                                rw [f38] at o3
                                have o3i := o3.in
                                refine m_istore h dX8_plans_133 (by decide) rfl ?_
                                refine m_iinc h dX8_plans_135 rfl (by decide) rfl ?_
                                refine m_goto h dX8_plans_138 (tgt := 113) (by decide) ?_
                                refine ihD (r + 1) rh uh (by omega) (by omega) (fun i hi => by rw [o1 i hi]; exact f1 i hi) (o2.trans f2) (o3.iff ?_)
                                constructor
                                · intro q x hx
                                  by_cases e : x = r
                                  · rw [e]; exact q
                                  · exact f3.yes (by omega) x (by omega)
                                · intro q; exact q r (by omega)
                        exact lp113 40 0 1 w (by omega) (by omega) (fun _ _ => rfl) rfl (bz1 (fun q hq => by omega))
                  have hne := plans_1 (g := g) (s := t_s t) (c := c) (by omega)
                  exact lp103 (2 + (aft g (t_s t) One c (u.1 38)).toNat) 0 1 u (by omega) (fun _ => by omega) (Or.inr rfl) ⟨fun i a _ => h1 i a, h2⟩ (fun _ => hne) (fun _ x q1 q2 => by rw [h3 x q1 (by omega)]; exact SL_ok (hne x q1 q2)) (fun _ => plans_2 hg hcn hne (fun x q1 q2 => h3 x q1 (by omega))) (fun q => by omega)
              · skip
                refine m_aload_n h dX8_plans_73 rfl rfl ?_
                refine m_get h fo_X8_51 (by decide) rfl rfl dX8_plans_74 ?_
                refine m_iload_n h dX8_plans_77 rfl rfl ?_
                refine m_aload_n h dX8_plans_78 rfl rfl ?_
                refine m_iload_n h dX8_plans_79 rfl rfl ?_
                refine m_iconst h dX8_plans_80 ?_
                refine m_vI h (m_least0 _ hG u (i : Int) (by omega) (t_s t (i : Int)) (fun k q1 q2 => by rw [e27]; exact hB (i : Int) k (by omega) (by omega) q1 q2)) moX8_least voX8_least lk_X8_121 dX8_plans_81 (by decide) (by decide) rfl rfl rfl (Nat.le_of_ble_eq_true rfl) (fun rs u46 p47 => ?_)
                obtain ⟨hu8, ers⟩ := p47
                rw [hu8]
                refine m_iast h (ar_38 G) (by omega) (by omega) dX8_plans_84 ?_
                refine m_iinc h dX8_plans_85 rfl (by decide) rfl ?_
                refine m_goto h dX8_plans_88 (tgt := 65) (by decide) ?_
                refine ihB (i + 1) _ (by omega) (by omega) (fun j hj => by rw [wI_c hj]; exact h1 j hj) h2 (fun x q1 q2 => ?_)
                by_cases e : x = (i : Int)
                · subst e; rw [wI_s, ers]; rfl
                · rw [wI_n e]; exact h3 x q1 (by omega)
          exact lp65 40 0 v (by omega) (by omega) (fun _ _ => rfl) rfl (fun x q1 q2 => by omega)
        · skip
          refine m_sipush h dX8_plans_59 (by decide) ?_
          refine m_iret h hR rfl dX8_plans_62 ?_
          refine ⟨?_, FrB.rf⟩
          rw [hap, if_pos]
          have ejc : j = c := by omega
          rw [ejc] at hA
          exact Classical.byContradiction (fun q => by have := hA.2.1 (by omega); omega)
      · skip
        refine m_aload_n h dX8_plans_12 rfl rfl ?_
        refine m_iload_n h dX8_plans_13 rfl rfl ?_
        refine m_iconst h dX8_plans_14 ?_
        refine m_vI h (m_many0 _ hG v (j : Int) (by omega) (t_s t (j : Int)) (fun k q1 q2 => hB (j : Int) k (by omega) (by omega) q1 q2)) moX8_many voX8_many lk_X8_80 dX8_plans_15 (by decide) (by decide) rfl rfl rfl (Nat.le_of_ble_eq_true rfl) (fun rm u49 p50 => ?_)
        obtain ⟨hu7, erm⟩ := p50
        rw [hu7]
        have hrm2 := sm_b (g := ind (t_s t (j : Int))) (B := 1) (fun x => by unfold ind; split <;> omega) 64
        have hrm3 := sm_nn (g := ind (t_s t (j : Int))) ind_nn 64
        refine m_istore_n h dX8_plans_18 rfl (by decide) rfl ?_
        refine m_iload_n h dX8_plans_19 rfl rfl ?_
        refine m_if_eq h dX8_plans_20 (tgt := 27) (by decide) (by omega) (fun c51 => ?_) (fun c51 => ?_)
        · skip
          refine m_iconst h dX8_plans_27 ?_
          refine m_goto h dX8_plans_28 (tgt := 45) (by decide) ?_
          refine m_istore_n h dX8_plans_45 rfl (by decide) rfl ?_
          refine m_iinc h dX8_plans_46 rfl (by decide) rfl ?_
          refine m_goto h dX8_plans_49 (tgt := 4) (by decide) ?_
          refine m_kill 3 ?_
          have ep : prS g (t_s t) (j + 1) = prS g (t_s t) j * sm (ind (t_s t (j : Int))) 64 := rfl
          exact ih (j + 1) 0 (by omega) (by omega) (by rw [ep]; exact ALL_0 hA (by omega) (by omega))
        · skip
          refine m_iload_n h dX8_plans_23 rfl rfl ?_
          refine m_if_ne h dX8_plans_24 (tgt := 31) (by decide) (by omega) (fun c52 => ?_) (fun c52 => ?_)
          · skip
            refine m_iload_n h dX8_plans_31 rfl rfl ?_
            refine m_sipush h dX8_plans_32 (by decide) ?_
            refine m_icmp_le h dX8_plans_35 (tgt := 42) (by decide) (by omega) (by omega) (fun c53 => ?_) (fun c53 => ?_)
            · skip
              refine m_iload_n h dX8_plans_42 rfl rfl ?_
              refine m_iload_n h dX8_plans_43 rfl rfl ?_
              refine m_imul h dX8_plans_44 ?_
              refine m_istore_n h dX8_plans_45 rfl (by decide) rfl ?_
              refine m_iinc h dX8_plans_46 rfl (by decide) rfl ?_
              refine m_goto h dX8_plans_49 (tgt := 4) (by decide) ?_
              refine m_kill 3 ?_
              have ep : prS g (t_s t) (j + 1) = prS g (t_s t) j * sm (ind (t_s t (j : Int))) 64 := rfl
              exact ih (j + 1) (A * rm) (by omega) (by omega) (by rw [ep, ← erm]; exact ALL_2 hA (by omega) (by omega))
            · skip
              refine m_iload_n h dX8_plans_38 rfl rfl ?_
              refine m_goto h dX8_plans_39 (tgt := 45) (by decide) ?_
              refine m_istore_n h dX8_plans_45 rfl (by decide) rfl ?_
              refine m_iinc h dX8_plans_46 rfl (by decide) rfl ?_
              refine m_goto h dX8_plans_49 (tgt := 4) (by decide) ?_
              refine m_kill 3 ?_
              have ep : prS g (t_s t) (j + 1) = prS g (t_s t) j * sm (ind (t_s t (j : Int))) 64 := rfl
              exact ih (j + 1) A (by omega) (by omega) (by rw [ep]; exact ALL_1 hA (by omega) (by omega))
          · skip
            refine m_iconst h dX8_plans_27 ?_
            refine m_goto h dX8_plans_28 (tgt := 45) (by decide) ?_
            refine m_istore_n h dX8_plans_45 rfl (by decide) rfl ?_
            refine m_iinc h dX8_plans_46 rfl (by decide) rfl ?_
            refine m_goto h dX8_plans_49 (tgt := 4) (by decide) ?_
            refine m_kill 3 ?_
            have ep : prS g (t_s t) (j + 1) = prS g (t_s t) j * sm (ind (t_s t (j : Int))) 64 := rfl
            exact ih (j + 1) 0 (by omega) (by omega) (by rw [ep]; exact ALL_0 hA (by omega) (by omega))
  exact lp4 40 0 1 (by omega) (by omega) ⟨by show (0 : Int) ≤ 1; decide, fun _ => rfl, fun q => absurd q (by show ¬ (4000 : Int) < 1; decide)⟩
