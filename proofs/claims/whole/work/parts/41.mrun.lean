/-! the model: a row, the rounds -/
theorem tk_tot {g : Cfg} {r : Nat} {n z : Int} {t : TT} (hn : 0 ≤ n ∧ n < 8) (hz : -32 ≤ z ∧ z ≤ 31) (h : t_c t + tot (t_s t) ≤ 512) : t_c (tkS g r n z t) + tot (t_s (tkS g r n z t)) ≤ 512 := by
  unfold tkS
  split
  · rename_i hc
    have := tot_clr (n := n) (k := z + 32) hn (by omega) hc.1
    show t_c t + 1 + tot (cS (t_s t) n (z + 32)) ≤ 512
    omega
  · exact h
theorem sf_tot {g : Cfg} {r : Nat} {n : Int} {t : TT} (hn : 0 ≤ n ∧ n < 8) (h : t_c t + tot (t_s t) ≤ 512) : ∀ j : Nat, j ≤ 64 → t_c (sfS g r n t j) + tot (t_s (sfS g r n t j)) ≤ 512
  | 0, _ => h
  | j + 1, hj => tk_tot hn (by omega) (sf_tot hn h j (by omega))
noncomputable def yS (g : Cfg) (r : Nat) (n : Int) (t : TT) (i : Nat) : TT := if tf (emp (t_s (sfS g r n t i) n)) = true then setX (sfS g r n t i) r else sfS g r n t i
theorem yS_e {g : Cfg} {r : Nat} {n : Int} {t : TT} {i : Nat} (h : emp (t_s (sfS g r n t i) n)) : yS g r n t i = setX (sfS g r n t i) r := by unfold yS; rw [tf_p h, if_pos rfl]
theorem yS_n {g : Cfg} {r : Nat} {n : Int} {t : TT} {i : Nat} (h : ¬ emp (t_s (sfS g r n t i) n)) : yS g r n t i = sfS g r n t i := by unfold yS; rw [tf_n h, if_neg (by simp)]
theorem yS_s {g : Cfg} {r : Nat} {n : Int} {t : TT} {i : Nat} : t_s (yS g r n t i) = t_s (sfS g r n t i) := by unfold yS; split <;> rfl
theorem TO_y {g : Cfg} {r : Nat} {n : Int} {t : TT} (hg : GO g) (ht : TO g t) (hx : t_x t = -1000) (hn : 0 ≤ n ∧ n < g_n g) (hr : (r : Int) < g_r g) (i : Nat) (hi : i ≤ 64) : TO g (yS g r n t i) := by
  obtain ⟨w1, w2, w3, w4, w5⟩ := ht
  have hg8 := hg.1
  have hne := w2 hx
  have a1 := WT_sf (r := r) hg8.1 hn w1 (fun x q1 q2 _ => hne x q1 q2) i hi
  have a2 := sf_tot (g := g) (r := r) (n := n) (by omega) w3 i hi
  obtain ⟨b1, b2, b3, b4, b5⟩ := sfS_o (g := g) (r := r) (n := n) (t := t) i
  by_cases e : emp (t_s (sfS g r n t i) n)
  · rw [yS_e e]
    refine ⟨a1, fun q => ?_, a2, fun x k q1 q2 q3 => w4 x k q1 q2 (b4 x k q3), Or.inr ?_⟩
    · have q' : (r : Int) = -1000 := q
      omega
    · show 0 ≤ (r : Int) ∧ (r : Int) < g_r g
      omega
  · rw [yS_n e]
    refine ⟨a1, fun q x q1 q2 => ?_, a2, fun x k q1 q2 q3 => w4 x k q1 q2 (b4 x k q3), ?_⟩
    · by_cases e2 : x = n
      · rw [e2]; exact e
      · rw [b1 x e2]; exact hne x q1 q2
    · unfold XR; rw [b2]; exact w5
theorem TO_rw {g : Cfg} {r : Nat} {t : TT} (hg : GO g) (ht : TO g t) (hr : (r : Int) < g_r g) : ∀ j : Nat, (j : Int) ≤ g_n g → TO g (rwS g r t j)
  | 0, _ => ht
  | j + 1, hj => by
    have ih := TO_rw hg ht hr j (by omega)
    simp only [rwS]
    split
    · rename_i hc
      exact TO_y hg ih hc.1 (by omega) hr 64 (by omega)
    · exact ih
theorem TO_rd {g : Cfg} {ord : Int} {t : TT} (hg : GO g) (ht : TO g t) : ∀ j : Nat, (j : Int) ≤ g_r g → TO g (rdS g ord t j)
  | 0, _ => ht
  | j + 1, hj => by
    have ih := TO_rd (ord := ord) hg ht j (by omega)
    have hg1 := hg.1
    simp only [rdS]
    split
    · refine TO_rw hg ih ?_ _ (by omega)
      split <;> omega
    · exact ih
theorem TO_d {g : Cfg} {t : TT} {d : Int} (ht : TO g t) : TO g (setD t d) := ht
theorem TO_on {g : Cfg} {ord : Int} {t : TT} (hg : GO g) (ht : TO g t) : TO g (onS g ord t) := TO_rd hg (TO_d ht) _ (by have := hg.2.1; omega)
theorem rwS_c {g : Cfg} {r : Nat} {t : TT} : ∀ j : Nat, t_c t ≤ t_c (rwS g r t j)
  | 0 => Int.le_refl _
  | j + 1 => by
    have ih := rwS_c (g := g) (r := r) (t := t) j
    simp only [rwS]
    split
    · exact Int.le_trans ih (siS_o (g := g) (r := r) (n := (j : Int)) (t := rwS g r t j)).2.2.2.2
    · exact ih
theorem rdS_c {g : Cfg} {ord : Int} {t : TT} : ∀ j : Nat, t_c t ≤ t_c (rdS g ord t j)
  | 0 => Int.le_refl _
  | j + 1 => by
    have ih := rdS_c (g := g) (ord := ord) (t := t) j
    simp only [rdS]
    split
    · exact Int.le_trans ih (rwS_c _)
    · exact ih
theorem RMM.x {g : Cfg} {t : TT} {v : Mem} {x : Int} (h : RMM g t v) : RMM g (setX t x) (wI v 25 9 x) := by
  obtain ⟨a, b1, b2, b3, b4, b5⟩ := h
  exact ⟨a.cg rfl rfl (fun i hi => wI_c (by omega)), b1, b2, rfl, b4, b5⟩
theorem RMM.d {g : Cfg} {t : TT} {v : Mem} {x : Int} (h : RMM g t v) : RMM g (setD t x) (wI v 25 8 x) := by
  obtain ⟨a, b1, b2, b3, b4, b5⟩ := h
  exact ⟨a.cg rfl rfl (fun i hi => wI_c (by omega)), b1, rfl, b3, b4, b5⟩
def LOW (g : Cfg) (t : TT) (u : Mem) : Prop := ∀ x, 0 ≤ x → x < g_n g → u.1 38 x = lS (t_s t) x ∧ u.1 39 x = hS (t_s t) x
theorem emp_0 {S : Int → Bool} : sm (ind S) 64 = 0 ↔ emp S := by
  constructor
  · intro h k k0 k1
    cases e : S k with
    | false => rfl
    | true =>
      exfalso
      have e2 := sm_lt (g := ind S) ind_nn (show k.toNat + 1 ≤ 64 by omega)
      have e5 : sm (ind S) (k.toNat + 1) = sm (ind S) k.toNat + ind S (k.toNat : Int) := rfl
      rw [h] at e2
      have e3 : ind S (k.toNat : Int) = 1 := by rw [Int.toNat_of_nonneg k0]; unfold ind; rw [if_pos e]
      have e4 := sm_nn (g := ind S) ind_nn k.toNat
      omega
  · intro h
    rw [sm_skip (a := 0) 64 (by omega) (fun k q1 q2 => ?_)]
    · rfl
    · unfold ind
      rw [h k (by omega) (by omega)]
      simp

set_option maxRecDepth 100000 in
set_option maxHeartbeats 4000000 in
theorem m_byRow (l : Launch) {G : GT} (hG : gok G) (v : Mem) (g : Cfg) (t : TT) (hg : GO g) (ht : TO g t) (hRM : RMM g t v) (hlh : LOW g t v) (r : Nat) (hrg : (r : Int) < g_r g) : CC l G nX8_byRow 6 [.ref (G.2.1 25), .int (iI (r : Int))] v (qV G (fun u => RMM g (rwS g r t (g_n g).toNat) u ∧ FrM v u ∧ LOW g (rwS g r t (g_n g).toNat) u)) := by
  refine m_start (lv := [some (.ref (G.2.1 25)), some (.int (iI (r : Int))), none, none]) hG (by decide +kernel) rfl (Nat.le_of_ble_eq_true rfl) ?_
  intro X hL h hR
  subst hL
  have hgn := hg.1
  have hgr2 := hg.2.1
  have hgr := hg.2.2.1 r hrg
  have hr12 : r < 12 := by omega
  obtain ⟨c, hcc⟩ : ∃ c : Nat, g_n g = c := ⟨(g_n g).toNat, by omega⟩
  show M X G 4 v 0 [some (.ref (G.2.1 25)), some (.int (iI (r : Int))), none, none] []
  refine m_iconst h dX8_byRow_0 ?_
  refine m_istore_n h dX8_byRow_1 rfl (by decide) rfl ?_
  have lp2 : ∀ (fuel : Nat) (j : Nat) (u : Mem), j ≤ c → 20 - j < fuel → RMM g (rwS g r t j) u → FrM v u → LOW g (rwS g r t j) u → M X G 4 u 2 [some (.ref (G.2.1 25)), some (.int (iI (r : Int))), some (.int (iI (j : Int))), none] [] := by
    intro fuel
    induction fuel with
    | zero => intro j u hj hfu hR1 hF1 hl1; exfalso; omega
    | succ fuel ih =>
      intro j u hj hfu hR1 hF1 hl1
      have hTj := TO_rw hg ht hrg j (by omega)
      obtain ⟨⟨s0, -⟩, -, -, t2, -⟩ := id hR1
      have hxr := hTj.2.2.2.2
      have hxr : t_x (rwS g r t j) = -1000 ∨ (0 ≤ t_x (rwS g r t j) ∧ t_x (rwS g r t j) < g_r g) := hxr
      refine m_iload_n h dX8_byRow_2 rfl rfl ?_
      refine m_aload_n h dX8_byRow_3 rfl rfl ?_
      refine m_get h fo_X8_57 (by decide) rfl rfl dX8_byRow_4 ?_
      refine m_icmp_ge h dX8_byRow_7 (tgt := 98) (by decide) (by omega) (by omega) (fun c1 => ?_) (fun c1 => ?_)
      · skip
        refine m_vret h hR rfl dX8_byRow_98 ?_
        have ef : rwS g r t (g_n g).toNat = rwS g r t j := by
          rw [hcc, Int.toNat_natCast]
          first
            | rw [show c = j by omega]
            | exact rwS_stop (by omega) c hj
        rw [ef]
        exact ⟨hR1, hF1, hl1⟩
      · skip
        refine m_aload_n h dX8_byRow_10 rfl rfl ?_
        refine m_get h fo_X8_29 (by decide) rfl rfl dX8_byRow_11 ?_
        refine m_sipush h dX8_byRow_14 (by decide) ?_
        refine m_icmp_ne h dX8_byRow_17 (tgt := 98) (by decide) (by omega) (by omega) (fun c2 => ?_) (fun c2 => ?_)
        · skip
          refine m_vret h hR rfl dX8_byRow_98 ?_
          have ef : rwS g r t (g_n g).toNat = rwS g r t j := by
            rw [hcc, Int.toNat_natCast]
            first
              | rw [show c = j by omega]
              | exact rwS_stop (by omega) c hj
          rw [ef]
          exact ⟨hR1, hF1, hl1⟩
        · skip
          have hx : t_x (rwS g r t j) = -1000 := by omega
          have hnej : ¬ emp (t_s (sfS g r (j : Int) (rwS g r t j) 0) (j : Int)) := hTj.2.1 hx (j : Int) (by omega) (by omega)
          refine m_bipush h dX8_byRow_20 (by decide) ?_
          refine m_istore_n h dX8_byRow_22 rfl (by decide) rfl ?_
          have lp23 : ∀ (fuel : Nat) (i : Nat) (u : Mem), i ≤ 64 → 70 - i < fuel → RMM g (yS g r (j : Int) (rwS g r t j) i) u → FrM v u → LOW g (yS g r (j : Int) (rwS g r t j) i) u → (¬ AbR g r (j : Int) → i = 0) → (i ≠ 0 → AbR g r (j : Int)) → M X G 4 u 23 [some (.ref (G.2.1 25)), some (.int (iI (r : Int))), some (.int (iI (j : Int))), some (.int (iI ((i : Int) - 32)))] [] := by
            intro fuel
            induction fuel with
            | zero => intro i u hi64 hfu2 hR2 hF2 hl2 hi0' hi1; exfalso; omega
            | succ fuel ih2 =>
              intro i u hi64 hfu2 hR2 hF2 hl2 hi0' hi1
              have hTy := TO_y hg hTj hx (n := (j : Int)) (by omega) hrg i hi64
              obtain ⟨⟨z0, z1, z2, z3⟩, y0, y1, y2, y3, y4⟩ := id hR2
              have hRw := z3 r hrg
              refine m_iload_n h dX8_byRow_23 rfl rfl ?_
              refine m_bipush h dX8_byRow_24 (by decide) ?_
              refine m_icmp_gt h dX8_byRow_26 (tgt := 92) (by decide) (by omega) (by omega) (fun c3 => ?_) (fun c3 => ?_)
              · skip
                refine m_iinc h dX8_byRow_92 rfl (by decide) rfl ?_
                refine m_goto h dX8_byRow_95 (tgt := 2) (by decide) ?_
                refine m_kill 3 ?_
                refine ih (j + 1) u (by omega) (by omega) ?_ hF2 ?_
                all_goals
                  have erw : rwS g r t (j + 1) = yS g r (j : Int) (rwS g r t j) i := by
                    simp only [rwS]
                    first
                      | (rw [if_neg (fun q => hba.no (by omega) (tf_t.mp q.2))]
                         have hi0 : i = 0 := hi0' (hba.no (by omega))
                         subst hi0
                         exact (yS_n hnej).symm)
                      | (rw [if_pos ⟨hx, tf_p (hi1 (by omega))⟩, show i = 64 by omega]; rfl)
                  rw [erw]
                  assumption
              · skip
                refine m_aload_n h dX8_byRow_29 rfl rfl ?_
                refine m_iload_n h dX8_byRow_30 rfl rfl ?_
                refine m_iload_n h dX8_byRow_31 rfl rfl ?_
                refine m_vI h (m_isAbout _ hG _ g r hr12 hgr hRw (j : Int) (by omega)) moX8_isAbout voX8_isAbout lk_X8_127 dX8_byRow_32 (by decide) (by decide) rfl rfl rfl (Nat.le_of_ble_eq_true rfl) (fun r4 u5 p6 => ?_)
                obtain ⟨hu9, hba⟩ := p6
                rw [hu9]
                have hbai := hba.in
                refine m_if_eq h dX8_byRow_35 (tgt := 92) (by decide) (by omega) (fun c7 => ?_) (fun c7 => ?_)
                · skip
                  refine m_iinc h dX8_byRow_92 rfl (by decide) rfl ?_
                  refine m_goto h dX8_byRow_95 (tgt := 2) (by decide) ?_
                  refine m_kill 3 ?_
                  refine ih (j + 1) u (by omega) (by omega) ?_ hF2 ?_
                  all_goals
                    have erw : rwS g r t (j + 1) = yS g r (j : Int) (rwS g r t j) i := by
                      simp only [rwS]
                      first
                        | (rw [if_neg (fun q => hba.no (by omega) (tf_t.mp q.2))]
                           have hi0 : i = 0 := hi0' (hba.no (by omega))
                           subst hi0
                           exact (yS_n hnej).symm)
                        | (rw [if_pos ⟨hx, tf_p (hi1 (by omega))⟩, show i = 64 by omega]; rfl)
                    rw [erw]
                    assumption
                · skip
                  have hbs := y0 (j : Int) ((i : Int) - 32 + 32) (by omega) (by omega) (by omega) (by omega)
                  rw [← Int.add_assoc] at hbs
                  have hbsi := hbs.in
                  refine m_aload_n h dX8_byRow_38 rfl rfl ?_
                  refine m_get h fo_X8_13 (by decide) rfl rfl dX8_byRow_39 ?_
                  refine m_bipush h dX8_byRow_42 (by decide) ?_
                  refine m_iload_n h dX8_byRow_44 rfl rfl ?_
                  refine m_imul h dX8_byRow_45 ?_
                  refine m_iload_n h dX8_byRow_46 rfl rfl ?_
                  refine m_iadd h dX8_byRow_47 ?_
                  refine m_bipush h dX8_byRow_48 (by decide) ?_
                  refine m_iadd h dX8_byRow_50 ?_
                  refine m_zald h (ar_27 G) (by omega) (by omega) dX8_byRow_51 ?_
                  refine m_if_eq h dX8_byRow_52 (tgt := 86) (by decide) (by omega) (fun c8 => ?_) (fun c8 => ?_)
                  · skip
                    refine m_iinc h dX8_byRow_86 rfl (by decide) rfl ?_
                    refine m_goto h dX8_byRow_89 (tgt := 23) (by decide) ?_
                    have esf : sfS g r (j : Int) (rwS g r t j) (i + 1) = tkS g r (j : Int) ((i : Int) - 32) (sfS g r (j : Int) (rwS g r t j) i) := rfl
                    have ey : yS g r (j : Int) (rwS g r t j) (i + 1) = yS g r (j : Int) (rwS g r t j) i := by
                      unfold yS
                      rw [esf, tkS_no (fun q => by
                        first
                          | exact hbs.no (by omega) (by rw [yS_s]; exact q.1)
                          | exact hbq.no (by omega) q.2)]
                    rw [show (i : Int) - 32 + 1 = ((i + 1 : Nat) : Int) - 32 by omega]
                    exact ih2 (i + 1) u (by omega) (by omega) (by rw [ey]; first | exact hR2 | (rw [eyi]; exact hR2)) hF2 (by rw [ey]; first | exact hl2 | (rw [eyi]; exact hl2)) (fun q => absurd (hba.yes (by omega)) q) (fun _ => hba.yes (by omega))
                  · skip
                    have hset : t_s (sfS g r (j : Int) (rwS g r t j) i) (j : Int) ((i : Int) - 32 + 32) = true := by
                      have := hbs.yes (by omega)
                      rwa [yS_s] at this
                    have hnem : ¬ emp (t_s (sfS g r (j : Int) (rwS g r t j) i) (j : Int)) := fun q => by
                      have := q ((i : Int) - 32 + 32) (by omega) (by omega)
                      rw [hset] at this; cases this
                    have eyi := yS_n (r := r) hnem
                    rw [eyi] at hR2 hTy hl2
                    have hnea : ∀ x, 0 ≤ x → x < g_n g → ¬ emp (t_s (sfS g r (j : Int) (rwS g r t j) i) x) := fun x q1 q2 => by
                      by_cases e : x = (j : Int)
                      · rw [e]; exact hnem
                      · rw [(sfS_o (g := g) (r := r) (n := (j : Int)) (t := rwS g r t j) i).1 x e]; exact hTj.2.1 hx x q1 q2
                    have hlr : LHr c u := fun x q1 q2 => by
                      have a := hl2 x q1 (by omega)
                      have b := rgLS (hnea x q1 (by omega))
                      omega
                    have hcq : CnR g r (up (u.1 38) (j : Int) ((i : Int) - 32)) (up (u.1 39) (j : Int) ((i : Int) - 32)) ↔ CnR g r (up (lS (t_s (sfS g r (j : Int) (rwS g r t j) i))) (j : Int) ((i : Int) - 32)) (up (hS (t_s (sfS g r (j : Int) (rwS g r t j) i))) (j : Int) ((i : Int) - 32)) := by
                      apply CnR_c hgr.2.2.2.2.2.2.1
                      intro x x0 hx2
                      have q := hl2 x x0 (hgr.2.2.2.2.2.2.2 x hx2 x0)
                      by_cases e : x = (j : Int)
                      · subst e; rw [up_s, up_s, up_s, up_s]; exact ⟨rfl, rfl⟩
                      · rw [up_n e, up_n e, up_n e, up_n e]; exact q
                    refine m_aload_n h dX8_byRow_55 rfl rfl ?_
                    refine m_iload_n h dX8_byRow_56 rfl rfl ?_
                    refine m_iload_n h dX8_byRow_57 rfl rfl ?_
                    refine m_iload_n h dX8_byRow_58 rfl rfl ?_
                    refine m_vI h (m_impossible _ hG _ g r hr12 hgr hRw c hcc (by omega) (by omega) hlr (j : Int) ((i : Int) - 32) (by omega) (by omega)) moX8_impossible voX8_impossible lk_X8_134 dX8_byRow_59 (by decide) (by decide) rfl rfl rfl (Nat.le_of_ble_eq_true rfl) (fun r9 u10 p11 => ?_)
                    obtain ⟨hu8, hbq⟩ := p11
                    rw [hu8]
                    have hbqi := hbq.in
                    have hbq := hbq.iff (not_congr hcq)
                    refine m_if_eq h dX8_byRow_62 (tgt := 86) (by decide) (by omega) (fun c12 => ?_) (fun c12 => ?_)
                    · skip
                      refine m_iinc h dX8_byRow_86 rfl (by decide) rfl ?_
                      refine m_goto h dX8_byRow_89 (tgt := 23) (by decide) ?_
                      have esf : sfS g r (j : Int) (rwS g r t j) (i + 1) = tkS g r (j : Int) ((i : Int) - 32) (sfS g r (j : Int) (rwS g r t j) i) := rfl
                      have ey : yS g r (j : Int) (rwS g r t j) (i + 1) = yS g r (j : Int) (rwS g r t j) i := by
                        unfold yS
                        rw [esf, tkS_no (fun q => by
                          first
                            | exact hbs.no (by omega) (by rw [yS_s]; exact q.1)
                            | exact hbq.no (by omega) q.2)]
                      rw [show (i : Int) - 32 + 1 = ((i + 1 : Nat) : Int) - 32 by omega]
                      exact ih2 (i + 1) u (by omega) (by omega) (by rw [ey]; first | exact hR2 | (rw [eyi]; exact hR2)) hF2 (by rw [ey]; first | exact hl2 | (rw [eyi]; exact hl2)) (fun q => absurd (hba.yes (by omega)) q) (fun _ => hba.yes (by omega))
                    · skip
                      refine m_aload_n h dX8_byRow_65 rfl rfl ?_
                      refine m_iload_n h dX8_byRow_66 rfl rfl ?_
                      refine m_iload_n h dX8_byRow_67 rfl rfl ?_
                      refine m_iload_n h dX8_byRow_68 rfl rfl ?_
                      refine m_vV h (m_take _ hG _ g _ hg hTy hR2 hnea hl2 r hrg (j : Int) (by omega) ((i : Int) - 32) (by omega) hset (hbq.yes (by omega))) moX8_take voX8_take lk_X8_140 dX8_byRow_69 (by decide) (by decide) rfl rfl rfl (Nat.le_of_ble_eq_true rfl) (fun u4 p15 => ?_)
                      obtain ⟨hR4, hF4, hl4⟩ := p15
                      have hb27 := fun k q1 q2 => hR4.2.1 (j : Int) k (by omega) (by omega) q1 q2
                      refine m_aload_n h dX8_byRow_72 rfl rfl ?_
                      refine m_iload_n h dX8_byRow_73 rfl rfl ?_
                      refine m_iconst h dX8_byRow_74 ?_
                      refine m_vI h (m_many0 _ hG _ (j : Int) (by omega) _ hb27) moX8_many voX8_many lk_X8_80 dX8_byRow_75 (by decide) (by decide) rfl rfl rfl (Nat.le_of_ble_eq_true rfl) (fun rm u17 p18 => ?_)
                      obtain ⟨hu7, erm⟩ := p18
                      rw [hu7]
                      have hrm1 := sm_nn (g := ind (t_s (tkS g r (j : Int) ((i : Int) - 32) (sfS g r (j : Int) (rwS g r t j) i)) (j : Int))) ind_nn 64
                      have hrm2 := sm_b (g := ind (t_s (tkS g r (j : Int) ((i : Int) - 32) (sfS g r (j : Int) (rwS g r t j) i)) (j : Int))) (B := 1) (fun x => by unfold ind; split <;> omega) 64
                      refine m_if_ne h dX8_byRow_78 (tgt := 86) (by decide) (by omega) (fun c19 => ?_) (fun c19 => ?_)
                      · skip
                        refine m_iinc h dX8_byRow_86 rfl (by decide) rfl ?_
                        refine m_goto h dX8_byRow_89 (tgt := 23) (by decide) ?_
                        have esf : sfS g r (j : Int) (rwS g r t j) (i + 1) = tkS g r (j : Int) ((i : Int) - 32) (sfS g r (j : Int) (rwS g r t j) i) := rfl
                        have hnm : ¬ emp (t_s (sfS g r (j : Int) (rwS g r t j) (i + 1)) j) := fun q => by
                          rw [esf] at q
                          have := emp_0.mpr q
                          omega
                        have ey : yS g r (j : Int) (rwS g r t j) (i + 1) = tkS g r (j : Int) ((i : Int) - 32) (sfS g r (j : Int) (rwS g r t j) i) := (yS_n hnm).trans esf
                        rw [show (i : Int) - 32 + 1 = ((i + 1 : Nat) : Int) - 32 by omega]
                        exact ih2 (i + 1) u4 (by omega) (by omega) (by rw [ey]; exact hR4) (hF2.tr hF4) (by rw [ey]; exact hl4) (fun q => absurd (hba.yes (by omega)) q) (fun _ => hba.yes (by omega))
                      · skip
                        refine m_aload_n h dX8_byRow_81 rfl rfl ?_
                        refine m_iload_n h dX8_byRow_82 rfl rfl ?_
                        refine m_putJ h fw_X8_29 (by decide) rfl (Nat.le_of_ble_eq_true rfl) (kz := 9) rfl rfl dX8_byRow_83 ?_
                        refine m_iinc h dX8_byRow_86 rfl (by decide) rfl ?_
                        refine m_goto h dX8_byRow_89 (tgt := 23) (by decide) ?_
                        have esf : sfS g r (j : Int) (rwS g r t j) (i + 1) = tkS g r (j : Int) ((i : Int) - 32) (sfS g r (j : Int) (rwS g r t j) i) := rfl
                        have hem : emp (t_s (sfS g r (j : Int) (rwS g r t j) (i + 1)) j) := by
                          rw [esf]
                          exact emp_0.mp (by omega)
                        have ey : yS g r (j : Int) (rwS g r t j) (i + 1) = setX (tkS g r (j : Int) ((i : Int) - 32) (sfS g r (j : Int) (rwS g r t j) i)) r := (yS_e hem).trans (by rw [esf])
                        rw [show (i : Int) - 32 + 1 = ((i + 1 : Nat) : Int) - 32 by omega]
                        exact ih2 (i + 1) _ (by omega) (by omega) (by rw [ey]; exact hR4.x) ((hF2.tr hF4).w (by omega)) (by rw [ey]; exact hl4) (fun q => absurd (hba.yes (by omega)) q) (fun _ => hba.yes (by omega))
          exact lp23 100 0 u (by omega) (by omega) (by rw [yS_n hnej]; exact hR1) hF1 (by rw [yS_n hnej]; exact hl1) (fun _ => rfl) (fun q => absurd rfl q)
  exact lp2 100 0 v (by omega) (by omega) hRM FrM.rf hlh

set_option maxRecDepth 100000 in
set_option maxHeartbeats 4000000 in
theorem m_runM (l : Launch) {G : GT} (hG : gok G) (v : Mem) (g : Cfg) (t : TT) (hg : GO g) (ht : TO g t) (hRM : RMM g t v) (od : Int) (hod : -2147483648 ≤ od ∧ od ≤ 2147483647) (mm : Int) (hmm : -2147483648 ≤ mm ∧ mm ≤ 2147483647) : CC l G nX8_run 7 [.ref (G.2.1 25), .int (iI od), .int (iI mm)] v (qI G (fun q u => (¬ ((0 ≤ od ∧ od ≤ 1) ∧ 1 ≤ mm ∧ mm ≤ 200) ∧ q = -1001 ∧ u = v) ∨ (((0 ≤ od ∧ od ≤ 1) ∧ 1 ≤ mm ∧ mm ≤ 200) ∧ q = (if t_x (rnS g od mm.toNat 0 t).2 = -1000 then (rnS g od mm.toNat 0 t).1 else 0) ∧ RMM g (rnS g od mm.toNat 0 t).2 u ∧ FrM v u))) := by
  refine m_start (lv := [some (.ref (G.2.1 25)), some (.int (iI od)), some (.int (iI mm)), none, none, none, none]) hG (by decide +kernel) rfl (Nat.le_of_ble_eq_true rfl) ?_
  intro X hL h hR
  subst hL
  have hgn := hg.1
  have hgr2 := hg.2.1
  obtain ⟨c, hcc⟩ : ∃ c : Nat, g_n g = c := ⟨(g_n g).toNat, by omega⟩
  show M X G 7 v 0 [some (.ref (G.2.1 25)), some (.int (iI od)), some (.int (iI mm)), none, none, none, none] []
  refine m_iload_n h dX8_run_0 rfl rfl ?_
  refine m_iconst h dX8_run_1 ?_
  refine m_iconst h dX8_run_2 ?_
  refine m_sI h (m_in _ hG _ od 0 1 (by omega) (by omega) (by omega)) moX8_in stX8_in lk_X8_60 dX8_run_3 (by decide) rfl rfl (Nat.le_of_ble_eq_true rfl) (fun r1 u2 p3 => ?_)
  obtain ⟨hu9, hb1⟩ := p3
  rw [hu9]
  have hb1i := hb1.in
  refine m_if_eq h dX8_run_6 (tgt := 20) (by decide) (by omega) (fun c4 => ?_) (fun c4 => ?_)
  · skip
    refine m_sipush h dX8_run_20 (by decide) ?_
    refine m_iret h hR rfl dX8_run_23 ?_
    refine Or.inl ⟨fun q => ?_, rfl, rfl⟩
    first | exact hb2.no (by omega) q.2 | exact hb1.no (by omega) q.1
  · skip
    refine m_iload_n h dX8_run_9 rfl rfl ?_
    refine m_iconst h dX8_run_10 ?_
    refine m_sipush h dX8_run_11 (by decide) ?_
    refine m_sI h (m_in _ hG _ mm 1 200 (by omega) (by omega) (by omega)) moX8_in stX8_in lk_X8_60 dX8_run_14 (by decide) rfl rfl (Nat.le_of_ble_eq_true rfl) (fun r5 u6 p7 => ?_)
    obtain ⟨hu8, hb2⟩ := p7
    rw [hu8]
    have hb2i := hb2.in
    refine m_if_ne h dX8_run_17 (tgt := 24) (by decide) (by omega) (fun c8 => ?_) (fun c8 => ?_)
    · skip
      have h1 := hb1.yes (by omega)
      have h2 := hb2.yes (by omega)
      refine m_iconst h dX8_run_24 ?_
      refine m_istore_n h dX8_run_25 rfl (by decide) rfl ?_
      refine m_iconst h dX8_run_26 ?_
      refine m_istore h dX8_run_27 (by decide) rfl ?_
      refine m_aload_n h dX8_run_29 rfl rfl ?_
      refine m_vV h (m_bounds _ hG _ (t_s t) hRM.2.1 c (by rw [hRM.1.1]; exact hcc) (by omega)) moX8_bounds voX8_bounds lk_X8_137 dX8_run_30 (by decide) (by decide) rfl rfl rfl (Nat.le_of_ble_eq_true rfl) (fun u0 p11 => ?_)
      obtain ⟨hf0, hl0⟩ := p11
      have lp33 : ∀ (fuel : Nat) (d : Nat) (u : Mem) (mo : Int) (t1 : TT), (d : Int) ≤ mm → 300 - d < fuel → RMM g t1 u → TO g t1 → FrM v u → LOW g t1 u → (mo = 0 ∨ mo = 1) → rnS g od mm.toNat 0 t = (if mo = 1 then rnS g od (mm - (d : Int)).toNat (d : Int) t1 else ((d : Int), t1)) → M X G 7 u 33 [some (.ref (G.2.1 25)), some (.int (iI od)), some (.int (iI mm)), some (.int (iI (d : Int))), some (.int (iI mo)), none, none] [] := by
        intro fuel
        induction fuel with
        | zero => intro d u mo t1 hd hfu hR1 hT1 hF1 hl1 hmo hrn; exfalso; omega
        | succ fuel ih =>
          intro d u mo t1 hd hfu hR1 hT1 hF1 hl1 hmo hrn
          obtain ⟨⟨s0, s1, -⟩, -, -, t2, t3, -⟩ := id hR1
          have hxr := hT1.2.2.2.2
          have hxr : t_x t1 = -1000 ∨ (0 ≤ t_x t1 ∧ t_x t1 < g_r g) := hxr
          have htc := hT1.c
          refine m_iload h dX8_run_33 rfl ?_
          refine m_if_eq h dX8_run_35 (tgt := 141) (by decide) (by omega) (fun c12 => ?_) (fun c12 => ?_)
          · skip
            refine m_aload_n h dX8_run_141 rfl rfl ?_
            refine m_get h fo_X8_29 (by decide) rfl rfl dX8_run_142 ?_
            refine m_sipush h dX8_run_145 (by decide) ?_
            refine m_icmp_ne h dX8_run_148 (tgt := 155) (by decide) (by omega) (by omega) (fun c13 => ?_) (fun c13 => ?_)
            · skip
              refine m_iconst h dX8_run_155 ?_
              refine m_iret h hR rfl dX8_run_156 ?_
              have ef : rnS g od mm.toNat 0 t = ((d : Int), t1) := by
                rw [hrn]
                first
                  | rw [if_neg (by omega)]
                  | (rw [if_pos (by omega), show (mm - (d : Int)).toNat = 0 by omega]; rfl)
                  | (rw [if_pos (by omega)]; exact rnS_stop (by omega) _)
              refine Or.inr ⟨⟨h1, h2⟩, ?_, by rw [ef]; exact hR1, hF1⟩
              rw [ef]
              exact (if_neg (by show ¬ t_x t1 = -1000; omega)).symm
            · skip
              refine m_iload_n h dX8_run_151 rfl rfl ?_
              refine m_goto h dX8_run_152 (tgt := 156) (by decide) ?_
              refine m_iret h hR rfl dX8_run_156 ?_
              have ef : rnS g od mm.toNat 0 t = ((d : Int), t1) := by
                rw [hrn]
                first
                  | rw [if_neg (by omega)]
                  | (rw [if_pos (by omega), show (mm - (d : Int)).toNat = 0 by omega]; rfl)
                  | (rw [if_pos (by omega)]; exact rnS_stop (by omega) _)
              refine Or.inr ⟨⟨h1, h2⟩, ?_, by rw [ef]; exact hR1, hF1⟩
              rw [ef]
              exact (if_pos (by show t_x t1 = -1000; omega)).symm
          · skip
            refine m_iload_n h dX8_run_38 rfl rfl ?_
            refine m_iload_n h dX8_run_39 rfl rfl ?_
            refine m_icmp_ge h dX8_run_40 (tgt := 141) (by decide) (by omega) (by omega) (fun c14 => ?_) (fun c14 => ?_)
            · skip
              refine m_aload_n h dX8_run_141 rfl rfl ?_
              refine m_get h fo_X8_29 (by decide) rfl rfl dX8_run_142 ?_
              refine m_sipush h dX8_run_145 (by decide) ?_
              refine m_icmp_ne h dX8_run_148 (tgt := 155) (by decide) (by omega) (by omega) (fun c15 => ?_) (fun c15 => ?_)
              · skip
                refine m_iconst h dX8_run_155 ?_
                refine m_iret h hR rfl dX8_run_156 ?_
                have ef : rnS g od mm.toNat 0 t = ((d : Int), t1) := by
                  rw [hrn]
                  first
                    | rw [if_neg (by omega)]
                    | (rw [if_pos (by omega), show (mm - (d : Int)).toNat = 0 by omega]; rfl)
                    | (rw [if_pos (by omega)]; exact rnS_stop (by omega) _)
                refine Or.inr ⟨⟨h1, h2⟩, ?_, by rw [ef]; exact hR1, hF1⟩
                rw [ef]
                exact (if_neg (by show ¬ t_x t1 = -1000; omega)).symm
              · skip
                refine m_iload_n h dX8_run_151 rfl rfl ?_
                refine m_goto h dX8_run_152 (tgt := 156) (by decide) ?_
                refine m_iret h hR rfl dX8_run_156 ?_
                have ef : rnS g od mm.toNat 0 t = ((d : Int), t1) := by
                  rw [hrn]
                  first
                    | rw [if_neg (by omega)]
                    | (rw [if_pos (by omega), show (mm - (d : Int)).toNat = 0 by omega]; rfl)
                    | (rw [if_pos (by omega)]; exact rnS_stop (by omega) _)
                refine Or.inr ⟨⟨h1, h2⟩, ?_, by rw [ef]; exact hR1, hF1⟩
                rw [ef]
                exact (if_pos (by show t_x t1 = -1000; omega)).symm
            · skip
              refine m_aload_n h dX8_run_43 rfl rfl ?_
              refine m_get h fo_X8_29 (by decide) rfl rfl dX8_run_44 ?_
              refine m_sipush h dX8_run_47 (by decide) ?_
              refine m_icmp_ne h dX8_run_50 (tgt := 141) (by decide) (by omega) (by omega) (fun c16 => ?_) (fun c16 => ?_)
              · skip
                refine m_aload_n h dX8_run_141 rfl rfl ?_
                refine m_get h fo_X8_29 (by decide) rfl rfl dX8_run_142 ?_
                refine m_sipush h dX8_run_145 (by decide) ?_
                refine m_icmp_ne h dX8_run_148 (tgt := 155) (by decide) (by omega) (by omega) (fun c17 => ?_) (fun c17 => ?_)
                · skip
                  refine m_iconst h dX8_run_155 ?_
                  refine m_iret h hR rfl dX8_run_156 ?_
                  have ef : rnS g od mm.toNat 0 t = ((d : Int), t1) := by
                    rw [hrn]
                    first
                      | rw [if_neg (by omega)]
                      | (rw [if_pos (by omega), show (mm - (d : Int)).toNat = 0 by omega]; rfl)
                      | (rw [if_pos (by omega)]; exact rnS_stop (by omega) _)
                  refine Or.inr ⟨⟨h1, h2⟩, ?_, by rw [ef]; exact hR1, hF1⟩
                  rw [ef]
                  exact (if_neg (by show ¬ t_x t1 = -1000; omega)).symm
                · skip
                  refine m_iload_n h dX8_run_151 rfl rfl ?_
                  refine m_goto h dX8_run_152 (tgt := 156) (by decide) ?_
                  refine m_iret h hR rfl dX8_run_156 ?_
                  have ef : rnS g od mm.toNat 0 t = ((d : Int), t1) := by
                    rw [hrn]
                    first
                      | rw [if_neg (by omega)]
                      | (rw [if_pos (by omega), show (mm - (d : Int)).toNat = 0 by omega]; rfl)
                      | (rw [if_pos (by omega)]; exact rnS_stop (by omega) _)
                  refine Or.inr ⟨⟨h1, h2⟩, ?_, by rw [ef]; exact hR1, hF1⟩
                  rw [ef]
                  exact (if_pos (by show t_x t1 = -1000; omega)).symm
              · skip
                have hx1 : t_x t1 = -1000 := by omega
                have hd25 := hR1.2.2.1
                refine m_aload_n h dX8_run_53 rfl rfl ?_
                refine m_get h fo_X8_70 (by decide) rfl rfl dX8_run_54 ?_
                refine m_istore h dX8_run_57 (by decide) rfl ?_
                refine m_aload_n h dX8_run_59 rfl rfl ?_
                refine m_dup h dX8_run_60 rfl ?_
                refine m_get h fo_X8_67 (by decide) rfl rfl dX8_run_61 ?_
                refine m_iconst h dX8_run_64 ?_
                refine m_iadd h dX8_run_65 ?_
                refine m_putJ h fw_X8_67 (by decide) rfl (Nat.le_of_ble_eq_true rfl) (kz := 8) rfl rfl dX8_run_66 ?_
                refine m_iinc h dX8_run_69 rfl (by decide) rfl ?_
                refine m_iconst h dX8_run_72 ?_
                refine m_istore h dX8_run_73 (by decide) rfl ?_
                refine m_kill 4 ?_
                have lp75 : ∀ (fuel : Nat) (k : Nat) (u : Mem), (k : Int) ≤ g_r g → 20 - k < fuel → RMM g (rdS g od (setD t1 (t_d t1 + 1)) k) u → FrM v u → LOW g (rdS g od (setD t1 (t_d t1 + 1)) k) u → M X G 7 u 75 [some (.ref (G.2.1 25)), some (.int (iI od)), some (.int (iI mm)), some (.int (iI ((d : Int) + 1))), none, some (.int (iI (t_c t1))), some (.int (iI (k : Int)))] [] := by
                  intro fuel
                  induction fuel with
                  | zero => intro k u hk hfu2 hR2 hF2 hl2; exfalso; omega
                  | succ fuel ih2 =>
                    intro k u hk hfu2 hR2 hF2 hl2
                    obtain ⟨⟨z0, z1, -⟩, -, -, y2, y3, -⟩ := id hR2
                    have hTk := TO_rd (ord := od) hg (TO_d (d := t_d t1 + 1) hT1) k hk
                    have hxr2 := hTk.2.2.2.2
                    have hxr2 : t_x (rdS g od (setD t1 (t_d t1 + 1)) k) = -1000 ∨ (0 ≤ t_x (rdS g od (setD t1 (t_d t1 + 1)) k) ∧ t_x (rdS g od (setD t1 (t_d t1 + 1)) k) < g_r g) := hxr2
                    have htc2 := hTk.c
                    refine m_iload h dX8_run_75 rfl ?_
                    refine m_aload_n h dX8_run_77 rfl rfl ?_
                    refine m_get h fo_X8_64 (by decide) rfl rfl dX8_run_78 ?_
                    refine m_icmp_ge h dX8_run_81 (tgt := 122) (by decide) (by omega) (by omega) (fun c18 => ?_) (fun c18 => ?_)
                    · skip
                      refine m_aload_n h dX8_run_122 rfl rfl ?_
                      refine m_get h fo_X8_70 (by decide) rfl rfl dX8_run_123 ?_
                      refine m_iload h dX8_run_126 rfl ?_
                      refine m_icmp_le h dX8_run_128 (tgt := 135) (by decide) (by omega) (by omega) (fun c19 => ?_) (fun c19 => ?_)
                      · skip
                        refine m_iconst h dX8_run_135 ?_
                        refine m_istore h dX8_run_136 (by decide) rfl ?_
                        refine m_goto h dX8_run_138 (tgt := 33) (by decide) ?_
                        refine m_kill 5 ?_
                        refine m_kill 6 ?_
                        have eon : onS g od t1 = rdS g od (setD t1 (t_d t1 + 1)) k := by
                          unfold onS
                          first
                            | rw [show (g_r g).toNat = k by omega]
                            | exact rdS_stop (by omega) _ (by omega)
                        have hc1 : t_c t1 ≤ t_c (onS g od t1) := rdS_c (t := setD t1 (t_d t1 + 1)) _
                        have hc2 : u.1 25 10 = t_c (onS g od t1) := by rw [eon]; exact hR2.2.2.2.2.1
                        refine ih (d + 1) u 0 (onS g od t1) (by omega) (by omega) (by rw [eon]; exact hR2) (TO_on hg hT1) hF2 (by rw [eon]; exact hl2) (by omega) ?_
                        rw [hrn, if_pos (show mo = 1 by omega), show (mm - (d : Int)).toNat = (mm - ((d + 1 : Nat) : Int)).toNat + 1 by omega]
                        simp only [rnS]
                        rw [if_pos hx1]
                        rw [if_pos (by omega), if_neg (by omega), show ((d + 1 : Nat) : Int) = (d : Int) + 1 by omega]
                      · skip
                        refine m_iconst h dX8_run_131 ?_
                        refine m_goto h dX8_run_132 (tgt := 136) (by decide) ?_
                        refine m_istore h dX8_run_136 (by decide) rfl ?_
                        refine m_goto h dX8_run_138 (tgt := 33) (by decide) ?_
                        refine m_kill 5 ?_
                        refine m_kill 6 ?_
                        have eon : onS g od t1 = rdS g od (setD t1 (t_d t1 + 1)) k := by
                          unfold onS
                          first
                            | rw [show (g_r g).toNat = k by omega]
                            | exact rdS_stop (by omega) _ (by omega)
                        have hc1 : t_c t1 ≤ t_c (onS g od t1) := rdS_c (t := setD t1 (t_d t1 + 1)) _
                        have hc2 : u.1 25 10 = t_c (onS g od t1) := by rw [eon]; exact hR2.2.2.2.2.1
                        refine ih (d + 1) u 1 (onS g od t1) (by omega) (by omega) (by rw [eon]; exact hR2) (TO_on hg hT1) hF2 (by rw [eon]; exact hl2) (by omega) ?_
                        rw [hrn, if_pos (show mo = 1 by omega), show (mm - (d : Int)).toNat = (mm - ((d + 1 : Nat) : Int)).toNat + 1 by omega]
                        simp only [rnS]
                        rw [if_pos hx1]
                        rw [if_neg (by omega), if_pos trivial, show ((d + 1 : Nat) : Int) = (d : Int) + 1 by omega]
                    · skip
                      refine m_aload_n h dX8_run_84 rfl rfl ?_
                      refine m_get h fo_X8_29 (by decide) rfl rfl dX8_run_85 ?_
                      refine m_sipush h dX8_run_88 (by decide) ?_
                      refine m_icmp_ne h dX8_run_91 (tgt := 122) (by decide) (by omega) (by omega) (fun c20 => ?_) (fun c20 => ?_)
                      · skip
                        refine m_aload_n h dX8_run_122 rfl rfl ?_
                        refine m_get h fo_X8_70 (by decide) rfl rfl dX8_run_123 ?_
                        refine m_iload h dX8_run_126 rfl ?_
                        refine m_icmp_le h dX8_run_128 (tgt := 135) (by decide) (by omega) (by omega) (fun c21 => ?_) (fun c21 => ?_)
                        · skip
                          refine m_iconst h dX8_run_135 ?_
                          refine m_istore h dX8_run_136 (by decide) rfl ?_
                          refine m_goto h dX8_run_138 (tgt := 33) (by decide) ?_
                          refine m_kill 5 ?_
                          refine m_kill 6 ?_
                          have eon : onS g od t1 = rdS g od (setD t1 (t_d t1 + 1)) k := by
                            unfold onS
                            first
                              | rw [show (g_r g).toNat = k by omega]
                              | exact rdS_stop (by omega) _ (by omega)
                          have hc1 : t_c t1 ≤ t_c (onS g od t1) := rdS_c (t := setD t1 (t_d t1 + 1)) _
                          have hc2 : u.1 25 10 = t_c (onS g od t1) := by rw [eon]; exact hR2.2.2.2.2.1
                          refine ih (d + 1) u 0 (onS g od t1) (by omega) (by omega) (by rw [eon]; exact hR2) (TO_on hg hT1) hF2 (by rw [eon]; exact hl2) (by omega) ?_
                          rw [hrn, if_pos (show mo = 1 by omega), show (mm - (d : Int)).toNat = (mm - ((d + 1 : Nat) : Int)).toNat + 1 by omega]
                          simp only [rnS]
                          rw [if_pos hx1]
                          rw [if_pos (by omega), if_neg (by omega), show ((d + 1 : Nat) : Int) = (d : Int) + 1 by omega]
                        · skip
                          refine m_iconst h dX8_run_131 ?_
                          refine m_goto h dX8_run_132 (tgt := 136) (by decide) ?_
                          refine m_istore h dX8_run_136 (by decide) rfl ?_
                          refine m_goto h dX8_run_138 (tgt := 33) (by decide) ?_
                          refine m_kill 5 ?_
                          refine m_kill 6 ?_
                          have eon : onS g od t1 = rdS g od (setD t1 (t_d t1 + 1)) k := by
                            unfold onS
                            first
                              | rw [show (g_r g).toNat = k by omega]
                              | exact rdS_stop (by omega) _ (by omega)
                          have hc1 : t_c t1 ≤ t_c (onS g od t1) := rdS_c (t := setD t1 (t_d t1 + 1)) _
                          have hc2 : u.1 25 10 = t_c (onS g od t1) := by rw [eon]; exact hR2.2.2.2.2.1
                          refine ih (d + 1) u 1 (onS g od t1) (by omega) (by omega) (by rw [eon]; exact hR2) (TO_on hg hT1) hF2 (by rw [eon]; exact hl2) (by omega) ?_
                          rw [hrn, if_pos (show mo = 1 by omega), show (mm - (d : Int)).toNat = (mm - ((d + 1 : Nat) : Int)).toNat + 1 by omega]
                          simp only [rnS]
                          rw [if_pos hx1]
                          rw [if_neg (by omega), if_pos trivial, show ((d + 1 : Nat) : Int) = (d : Int) + 1 by omega]
                      · skip
                        have hx2 : t_x (rdS g od (setD t1 (t_d t1 + 1)) k) = -1000 := by omega
                        refine m_aload_n h dX8_run_94 rfl rfl ?_
                        refine m_iload_n h dX8_run_95 rfl rfl ?_
                        refine m_if_ne h dX8_run_96 (tgt := 104) (by decide) (by omega) (fun c22 => ?_) (fun c22 => ?_)
                        · skip
                          refine m_aload_n h dX8_run_104 rfl rfl ?_
                          refine m_get h fo_X8_64 (by decide) rfl rfl dX8_run_105 ?_
                          refine m_iconst h dX8_run_108 ?_
                          refine m_isub h dX8_run_109 ?_
                          refine m_iload h dX8_run_110 rfl ?_
                          refine m_isub h dX8_run_112 ?_
                          have hri1 : ∃ ri : Nat, (ri : Int) = ((u.1 25 1) - 1) - (k : Int) ∧ (if od = 1 then (g_r g - 1 - (k : Int)).toNat else k) = ri ∧ (ri : Int) < g_r g := ⟨(g_r g - 1 - (k : Int)).toNat, by omega, by rw [if_pos (by omega)], by omega⟩
                          obtain ⟨ri, hri, hri2, hri3⟩ := hri1
                          refine (show M X G 7 u 113 [some (.ref (G.2.1 25)), some (.int (iI od)), some (.int (iI mm)), some (.int (iI ((d : Int) + 1))), none, some (.int (iI (t_c t1))), some (.int (iI (k : Int)))] [.int (iI (ri : Int)), .ref (G.2.1 25)] → M X G 7 u 113 [some (.ref (G.2.1 25)), some (.int (iI od)), some (.int (iI mm)), some (.int (iI ((d : Int) + 1))), none, some (.int (iI (t_c t1))), some (.int (iI (k : Int)))] [.int (iI (((u.1 25 1) - 1) - (k : Int))), .ref (G.2.1 25)] from fun q => by rw [hri] at q; exact q) ?_
                          refine m_vV h (m_byRow _ hG _ g _ hg (TO_rd hg (TO_d hT1) k (by omega)) hR2 hl2 ri hri3) moX8_byRow voX8_byRow lk_X8_144 dX8_run_113 (by decide) (by decide) rfl rfl rfl (Nat.le_of_ble_eq_true rfl) (fun u3 p25 => ?_)
                          obtain ⟨hR3, hF3, hl3⟩ := p25
                          refine m_iinc h dX8_run_116 rfl (by decide) rfl ?_
                          refine m_goto h dX8_run_119 (tgt := 75) (by decide) ?_
                          refine ih2 (k + 1) u3 (by omega) (by omega) ?_ (hF2.tr hF3) ?_
                          all_goals
                            have erd : rdS g od (setD t1 (t_d t1 + 1)) (k + 1) = rwS g ri (rdS g od (setD t1 (t_d t1 + 1)) k) (g_n g).toNat := by
                              simp only [rdS]
                              rw [if_pos hx2, hri2]
                            rw [erd]
                            assumption
                        · skip
                          refine m_iload h dX8_run_99 rfl ?_
                          refine m_goto h dX8_run_101 (tgt := 113) (by decide) ?_
                          have hri1 : ∃ ri : Nat, (ri : Int) = (k : Int) ∧ (if od = 1 then (g_r g - 1 - (k : Int)).toNat else k) = ri ∧ (ri : Int) < g_r g := ⟨k, by omega, by rw [if_neg (by omega)], by omega⟩
                          obtain ⟨ri, hri, hri2, hri3⟩ := hri1
                          refine (show M X G 7 u 113 [some (.ref (G.2.1 25)), some (.int (iI od)), some (.int (iI mm)), some (.int (iI ((d : Int) + 1))), none, some (.int (iI (t_c t1))), some (.int (iI (k : Int)))] [.int (iI (ri : Int)), .ref (G.2.1 25)] → M X G 7 u 113 [some (.ref (G.2.1 25)), some (.int (iI od)), some (.int (iI mm)), some (.int (iI ((d : Int) + 1))), none, some (.int (iI (t_c t1))), some (.int (iI (k : Int)))] [.int (iI (k : Int)), .ref (G.2.1 25)] from fun q => by rw [hri] at q; exact q) ?_
                          refine m_vV h (m_byRow _ hG _ g _ hg (TO_rd hg (TO_d hT1) k (by omega)) hR2 hl2 ri hri3) moX8_byRow voX8_byRow lk_X8_144 dX8_run_113 (by decide) (by decide) rfl rfl rfl (Nat.le_of_ble_eq_true rfl) (fun u3 p28 => ?_)
                          obtain ⟨hR3, hF3, hl3⟩ := p28
                          refine m_iinc h dX8_run_116 rfl (by decide) rfl ?_
                          refine m_goto h dX8_run_119 (tgt := 75) (by decide) ?_
                          refine ih2 (k + 1) u3 (by omega) (by omega) ?_ (hF2.tr hF3) ?_
                          all_goals
                            have erd : rdS g od (setD t1 (t_d t1 + 1)) (k + 1) = rwS g ri (rdS g od (setD t1 (t_d t1 + 1)) k) (g_n g).toNat := by
                              simp only [rdS]
                              rw [if_pos hx2, hri2]
                            rw [erd]
                            assumption
                rw [t3, hd25]
                exact lp75 100 0 _ (by omega) (by omega) hR1.d (hF1.w (by omega)) hl1
      exact lp33 1000 0 u0 1 t (by omega) (by omega) (hRM.b hf0) ht hf0.m (fun x q1 q2 => hl0 x q1 (by omega)) (Or.inr rfl) (by rw [if_pos rfl, show ((0 : Nat) : Int) = 0 from rfl, Int.sub_zero])
    · skip
      refine m_sipush h dX8_run_20 (by decide) ?_
      refine m_iret h hR rfl dX8_run_23 ?_
      refine Or.inl ⟨fun q => ?_, rfl, rfl⟩
      first | exact hb2.no (by omega) q.2 | exact hb1.no (by omega) q.1
