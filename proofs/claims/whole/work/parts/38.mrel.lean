/-! the model against names, rows, sets and steps -/
def GO (g : Cfg) : Prop := (0 ≤ g_n g ∧ g_n g ≤ 8) ∧ (0 ≤ g_r g ∧ g_r g ≤ 12) ∧ (∀ r : Nat, (r : Int) < g_r g → RwG g r) ∧ ∀ n, 0 ≤ n → n < g_n g → ¬ emp (g_i g n)
def TO (g : Cfg) (t : TT) : Prop := WT g t ∧ NE g t ∧ t_c t + tot (t_s t) ≤ 512 ∧ (∀ n k, 0 ≤ n → n < g_n g → t_s t n k = true → g_i g n k = true) ∧ XR g t
theorem GO_of {v : Mem} (h : IC v) : GO (gC v) := by
  obtain ⟨h1, h2, h3, h4, h5, h6, h7, h8⟩ := h
  refine ⟨h1, h2, fun r hr => ?_, h7⟩
  have hr' : (r : Int) < v.1 10 0 := hr
  have q := h3 r (by omega)
  have qn := q.nm
  obtain ⟨k0, a0, b0, c0, R0, f0, -⟩ := q
  exact ⟨k0, a0, b0, c0, R0, f0, qn, fun x => h4 r x hr'⟩
theorem TO_of {v : Mem} (h : OKC v) : TO (gC v) (tC v) := by
  obtain ⟨⟨hI, hJ, hK, hNE⟩, hW, hX⟩ := h
  exact ⟨hW, hNE, hK.1.2, hJ.2.2.2, hX⟩
theorem TO.c {g : Cfg} {t : TT} (h : TO g t) : 0 ≤ t_c t ∧ t_c t ≤ 512 := by
  have := tot_nn (t_s t)
  have := h.1.1
  have := h.2.2.1
  omega
def B0 (i : Nat) (s : Int → Int → Bool) (v : Mem) : Prop := ∀ n k, 0 ≤ n → n < 8 → 0 ≤ k → k < 64 → bz (v.1 i (64 * n + k)) (s n k = true)
def RMs (g : Cfg) (v : Mem) : Prop := v.1 25 0 = g_n g ∧ v.1 25 1 = g_r g ∧ B0 26 (g_i g) v ∧ ∀ r : Nat, (r : Int) < g_r g → RwM g r v
noncomputable def tob (g : Cfg) (t : TT) (i q : Int) : Int := if q % 2 = 1 then SM (woS (g_i g (q / 2)) (t_n t) (t_z t) (q / 2) i.toNat) else SL (woS (g_i g (q / 2)) (t_n t) (t_z t) (q / 2) i.toNat)
def StM (g : Cfg) (t : TT) (i : Int) (v : Mem) : Prop := v.1 32 i = t_r t i ∧ v.1 33 i = t_n t i ∧ v.1 34 i = t_z t i ∧ v.1 35 i = t_o t i ∧ ∀ k, 0 ≤ k → k < 16 → bz (v.1 36 (16 * i + k)) (pb (t_p t i) k = true) ∧ (pb (t_p t i) k = true → v.1 37 (16 * i + k) = tob g t i k)
def RMt (g : Cfg) (t : TT) (v : Mem) : Prop := B0 27 (t_s t) v ∧ v.1 25 8 = t_d t ∧ v.1 25 9 = t_x t ∧ v.1 25 10 = t_c t ∧ ∀ i, 0 ≤ i → i < t_c t → StM g t i v
def RMM (g : Cfg) (t : TT) (v : Mem) : Prop := RMs g v ∧ RMt g t v
def FrM (v u : Mem) : Prop := (∀ i : Nat, ¬ (25 ≤ i ∧ i ≤ 39) → u.1 i = v.1 i) ∧ u.2 = v.2
theorem FrM.rf {v : Mem} : FrM v v := ⟨fun _ _ => rfl, rfl⟩
theorem FrM.tr {u v w : Mem} (h1 : FrM u v) (h2 : FrM v w) : FrM u w := ⟨fun i hi => (h2.1 i hi).trans (h1.1 i hi), h2.2.trans h1.2⟩
theorem FrM.w {v u : Mem} {i : Nat} {x z : Int} (h : FrM v u) (hi : 25 ≤ i ∧ i ≤ 39) : FrM v (wI u i x z) := ⟨fun j hj => by rw [wI_c (by omega)]; exact h.1 j hj, h.2⟩
def FrB (v u : Mem) : Prop := (∀ i : Nat, i ≠ 38 → i ≠ 39 → u.1 i = v.1 i) ∧ u.2 = v.2
theorem FrB.rf {v : Mem} : FrB v v := ⟨fun _ _ _ => rfl, rfl⟩
theorem FrB.tr {u v w : Mem} (h1 : FrB u v) (h2 : FrB v w) : FrB u w := ⟨fun i a b => (h2.1 i a b).trans (h1.1 i a b), h2.2.trans h1.2⟩
theorem FrB.m {v u : Mem} (h : FrB v u) : FrM v u := ⟨fun i hi => h.1 i (by omega) (by omega), h.2⟩
theorem RMs.cg {g : Cfg} {v u : Mem} (h : RMs g v) (h0 : u.1 25 0 = v.1 25 0) (h1 : u.1 25 1 = v.1 25 1) (hi : ∀ i : Nat, (i = 26 ∨ (28 ≤ i ∧ i ≤ 31)) → u.1 i = v.1 i) : RMs g u := by
  unfold RMs B0 RwM at *
  rw [h0, h1, hi 26 (by omega), hi 28 (by omega), hi 29 (by omega), hi 30 (by omega), hi 31 (by omega)]
  exact h
theorem RMM.b {g : Cfg} {t : TT} {v u : Mem} (h : RMM g t v) (hf : FrB v u) : RMM g t u := by
  refine ⟨h.1.cg (by rw [hf.1 25 (by decide) (by decide)]) (by rw [hf.1 25 (by decide) (by decide)]) (fun i hi => hf.1 i (by omega) (by omega)), ?_⟩
  have h2 := h.2
  unfold RMt B0 StM at *
  rw [hf.1 25 (by decide) (by decide), hf.1 27 (by decide) (by decide), hf.1 32 (by decide) (by decide), hf.1 33 (by decide) (by decide), hf.1 34 (by decide) (by decide), hf.1 35 (by decide) (by decide), hf.1 36 (by decide) (by decide), hf.1 37 (by decide) (by decide)]
  exact h2
/-- after beginning anew -/
def ANW (v u : Mem) : Prop := (∀ i : Nat, i ≠ 25 → i ≠ 27 → u.1 i = v.1 i) ∧ u.2 = v.2 ∧ (∀ x, 0 ≤ x → x < 512 → u.1 27 x = v.1 26 x) ∧ u.1 25 0 = v.1 25 0 ∧ u.1 25 1 = v.1 25 1 ∧ u.1 25 8 = 0 ∧ u.1 25 9 = -1000 ∧ u.1 25 10 = 0
theorem ANW.m {v u : Mem} (h : ANW v u) : FrM v u := ⟨fun i hi => h.1 i (by omega) (by omega), h.2.1⟩
theorem RM_an {g : Cfg} {v u : Mem} (h : RMs g v) (ha : ANW v u) (t : TT) : RMM g (anT g t) u := by
  obtain ⟨a1, a2, a3, a4, a5, a6, a7, a8⟩ := ha
  refine ⟨h.cg a4 a5 (fun i hi => a1 i (by omega) (by omega)), ?_, a6, a7, a8, fun i q1 q2 => ?_⟩
  · intro n k n0 n8 k0 k64
    rw [a3 _ (by omega) (by omega)]
    have := h.2.2.1 n k n0 n8 k0 k64
    show bz _ ((if 0 ≤ n ∧ n < 8 then g_i g n k else t_s t n k) = true)
    rw [if_pos ⟨n0, n8⟩]
    exact this
  · have q2' : i < 0 := q2
    omega

set_option maxRecDepth 100000 in
set_option maxHeartbeats 4000000 in
theorem m_anew (l : Launch) {G : GT} (hG : gok G) (v : Mem) (hf : ∀ x, 0 ≤ x → x < 512 → v.1 26 x = 0 ∨ v.1 26 x = 1) : CC l G nX8_anew 0 [.ref (G.2.1 25)] v (qV G (fun u => ANW v u)) := by
  refine m_start (lv := [some (.ref (G.2.1 25)), none]) hG (by decide +kernel) rfl (Nat.le_of_ble_eq_true rfl) ?_
  intro X hL h hR
  subst hL
  show M X G 2 v 0 [some (.ref (G.2.1 25)), none] []
  refine m_iconst h dX8_anew_0 ?_
  refine m_istore_n h dX8_anew_1 rfl (by decide) rfl ?_
  have lp2 : ∀ (fuel : Nat) (k : Nat) (u : Mem), k ≤ 512 → 513 - k < fuel → (∀ i, i ≠ 27 → u.1 i = v.1 i) → u.2 = v.2 → (∀ x, 0 ≤ x → x < (k : Int) → u.1 27 x = v.1 26 x) → M X G 2 u 2 [some (.ref (G.2.1 25)), some (.int (iI (k : Int)))] [] := by
    intro fuel
    induction fuel with
    | zero => intro k u hk hfu h1 h2 h3; exfalso; omega
    | succ fuel ih =>
      intro k u hk hfu h1 h2 h3
      have e26 := h1 26 (by decide)
      have hfk : u.1 26 (k : Int) = v.1 26 (k : Int) := by rw [e26]
      refine m_iload_n h dX8_anew_2 rfl rfl ?_
      refine m_sipush h dX8_anew_3 (by decide) ?_
      refine m_icmp_ge h dX8_anew_6 (tgt := 27) (by decide) (by omega) (by omega) (fun c1 => ?_) (fun c1 => ?_)
      · skip
        refine m_aload_n h dX8_anew_27 rfl rfl ?_
        refine m_iconst h dX8_anew_28 ?_
        refine m_putJ h fw_X8_67 (by decide) rfl (Nat.le_of_ble_eq_true rfl) (kz := 8) rfl rfl dX8_anew_29 ?_
        refine m_aload_n h dX8_anew_32 rfl rfl ?_
        refine m_sipush h dX8_anew_33 (by decide) ?_
        refine m_putJ h fw_X8_29 (by decide) rfl (Nat.le_of_ble_eq_true rfl) (kz := 9) rfl rfl dX8_anew_36 ?_
        refine m_aload_n h dX8_anew_39 rfl rfl ?_
        refine m_iconst h dX8_anew_40 ?_
        refine m_putJ h fw_X8_70 (by decide) rfl (Nat.le_of_ble_eq_true rfl) (kz := 10) rfl rfl dX8_anew_41 ?_
        refine m_vret h hR rfl dX8_anew_44 ?_
        have e25 := h1 25 (by decide)
        refine ⟨fun i a b => ?_, h2, fun x q1 q2 => h3 x q1 (by omega), ?_, ?_, rfl, rfl, rfl⟩
        · rw [wI_c a, wI_c a, wI_c a]; exact h1 i b
        · rw [← e25]; rfl
        · rw [← e25]; rfl
      · skip
        refine m_aload_n h dX8_anew_9 rfl rfl ?_
        refine m_get h fo_X8_13 (by decide) rfl rfl dX8_anew_10 ?_
        refine m_iload_n h dX8_anew_13 rfl rfl ?_
        refine m_aload_n h dX8_anew_14 rfl rfl ?_
        refine m_get h fo_X8_7 (by decide) rfl rfl dX8_anew_15 ?_
        refine m_iload_n h dX8_anew_18 rfl rfl ?_
        refine m_zald h (ar_26 G) (by omega) (by omega) dX8_anew_19 ?_
        refine m_zast h (ar_27 G) (by omega) (by omega) (by have := hf (k : Int) (by omega) (by omega); omega) dX8_anew_20 ?_
        refine m_iinc h dX8_anew_21 rfl (by decide) rfl ?_
        refine m_goto h dX8_anew_24 (tgt := 2) (by decide) ?_
        refine ih (k + 1) _ (by omega) (by omega) (fun i hi => by rw [wI_c hi]; exact h1 i hi) h2 (fun x q1 q2 => ?_)
        by_cases e : x = (k : Int)
        · subst e; rw [wI_s, hfk]
        · rw [wI_n e]; exact h3 x q1 (by omega)
  exact lp2 600 0 v (by omega) (by omega) (fun _ _ => rfl) rfl (fun x q1 q2 => by omega)

set_option maxRecDepth 100000 in
set_option maxHeartbeats 4000000 in
theorem m_bounds (l : Launch) {G : GT} (hG : gok G) (v : Mem) (s : Int → Int → Bool) (hs : B0 27 s v) (c : Nat) (hc : v.1 25 0 = c) (hc8 : c ≤ 8) : CC l G nX8_bounds 1 [.ref (G.2.1 25)] v (qV G (fun u => FrB v u ∧ ∀ x : Int, 0 ≤ x → x < c → u.1 38 x = lS s x ∧ u.1 39 x = hS s x)) := by
  refine m_start (lv := [some (.ref (G.2.1 25)), none]) hG (by decide +kernel) rfl (Nat.le_of_ble_eq_true rfl) ?_
  intro X hL h hR
  subst hL
  show M X G 2 v 0 [some (.ref (G.2.1 25)), none] []
  refine m_iconst h dX8_bounds_0 ?_
  refine m_istore_n h dX8_bounds_1 rfl (by decide) rfl ?_
  have lp2 : ∀ (fuel : Nat) (j : Nat) (u : Mem), j ≤ c → 20 - j < fuel → FrB v u → (∀ x : Int, 0 ≤ x → x < (j : Int) → u.1 38 x = lS s x ∧ u.1 39 x = hS s x) → M X G 2 u 2 [some (.ref (G.2.1 25)), some (.int (iI (j : Int)))] [] := by
    intro fuel
    induction fuel with
    | zero => intro j u hj hfu hF hA; exfalso; omega
    | succ fuel ih =>
      intro j u hj hfu hF hA
      have e25 : u.1 25 0 = v.1 25 0 := by rw [hF.1 25 (by decide) (by decide)]
      refine m_iload_n h dX8_bounds_2 rfl rfl ?_
      refine m_aload_n h dX8_bounds_3 rfl rfl ?_
      refine m_get h fo_X8_57 (by decide) rfl rfl dX8_bounds_4 ?_
      refine m_icmp_ge h dX8_bounds_7 (tgt := 40) (by decide) (by omega) (by omega) (fun c1 => ?_) (fun c1 => ?_)
      · skip
        refine m_vret h hR rfl dX8_bounds_40 ?_
        exact ⟨hF, fun x q1 q2 => hA x q1 (by omega)⟩
      · skip
        have hsj : ∀ k, 0 ≤ k → k < 64 → bz (u.1 27 (64 * (j : Int) + k)) (s j k = true) := fun k q1 q2 => by rw [hF.1 27 (by decide) (by decide)]; exact hs j k (by omega) (by omega) q1 q2
        refine m_aload_n h dX8_bounds_10 rfl rfl ?_
        refine m_get h fo_X8_51 (by decide) rfl rfl dX8_bounds_11 ?_
        refine m_iload_n h dX8_bounds_14 rfl rfl ?_
        refine m_aload_n h dX8_bounds_15 rfl rfl ?_
        refine m_iload_n h dX8_bounds_16 rfl rfl ?_
        refine m_iconst h dX8_bounds_17 ?_
        refine m_vI h (m_least0 _ hG _ (j : Int) (by omega) (s j) hsj) moX8_least voX8_least lk_X8_121 dX8_bounds_18 (by decide) (by decide) rfl rfl rfl (Nat.le_of_ble_eq_true rfl) (fun r2 u3 p4 => ?_)
        obtain ⟨hu9, er⟩ := p4
        rw [hu9]
        refine m_iast h (ar_38 G) (by omega) (by omega) dX8_bounds_21 ?_
        refine m_aload_n h dX8_bounds_22 rfl rfl ?_
        refine m_get h fo_X8_54 (by decide) rfl rfl dX8_bounds_23 ?_
        refine m_iload_n h dX8_bounds_26 rfl rfl ?_
        refine m_aload_n h dX8_bounds_27 rfl rfl ?_
        refine m_iload_n h dX8_bounds_28 rfl rfl ?_
        refine m_iconst h dX8_bounds_29 ?_
        refine m_vI h (m_most0 _ hG _ (j : Int) (by omega) (s j) hsj) moX8_most voX8_most lk_X8_124 dX8_bounds_30 (by decide) (by decide) rfl rfl rfl (Nat.le_of_ble_eq_true rfl) (fun r5 u6 p7 => ?_)
        obtain ⟨hu8, er2⟩ := p7
        rw [hu8]
        refine m_iast h (ar_39 G) (by omega) (by omega) dX8_bounds_33 ?_
        refine m_iinc h dX8_bounds_34 rfl (by decide) rfl ?_
        refine m_goto h dX8_bounds_37 (tgt := 2) (by decide) ?_
        refine ih (j + 1) _ (by omega) (by omega) (hF.tr ⟨fun i a b => by rw [wI_c b, wI_c a], rfl⟩) (fun x q1 q2 => ?_)
        by_cases e : x = (j : Int)
        · subst e; rw [wI_c (by decide), wI_s, wI_s, er, er2]; exact ⟨rfl, rfl⟩
        · rw [wI_c (by decide), wI_n e, wI_n e, wI_c (by decide)]; exact hA x q1 (by omega)
  exact lp2 100 0 v (by omega) (by omega) FrB.rf (fun x q1 q2 => by omega)

set_option maxRecDepth 100000 in
set_option maxHeartbeats 4000000 in
theorem m_has (l : Launch) {G : GT} (hG : gok G) (v : Mem) (g : Cfg) (t : TT) (hg : GO g) (ht : TO g t) (hRM : RMM g t v) (n : Int) (hn : -2147483648 ≤ n ∧ n ≤ 2147483647) (z : Int) (hz : -2147483648 ≤ z ∧ z ≤ 2147483647) : CC l G nX8_has 2 [.ref (G.2.1 25), .int (iI n), .int (iI z)] v (qI G (fun r u => u = v ∧ A_has g t n z r)) := by
  refine m_start (lv := [some (.ref (G.2.1 25)), some (.int (iI n)), some (.int (iI z))]) hG (by decide +kernel) rfl (Nat.le_of_ble_eq_true rfl) ?_
  intro X hL h hR
  subst hL
  obtain ⟨⟨s0, s1, s2, s3⟩, t0, t1, t2, t3, t4⟩ := id hRM
  have hgn := hg.1
  have hgr := hg.2.1
  have htc := ht.c
  show M X G 3 v 0 [some (.ref (G.2.1 25)), some (.int (iI n)), some (.int (iI z))] []
  refine m_aload_n h dX8_has_0 rfl rfl ?_
  refine m_iload_n h dX8_has_1 rfl rfl ?_
  refine m_vI h (m_isName _ hG _ n hn (by omega)) moX8_isName voX8_isName lk_X8_76 dX8_has_2 (by decide) (by decide) rfl rfl rfl (Nat.le_of_ble_eq_true rfl) (fun r1 u2 p3 => ?_)
  obtain ⟨hu9, hb⟩ := p3
  rw [hu9]
  rw [s0] at hb
  have hb : bz r1 (isNm g n) := hb
  have hbi := hb.in
  refine m_if_ne h dX8_has_5 (tgt := 14) (by decide) (by omega) (fun c4 => ?_) (fun c4 => ?_)
  · skip
    have hnm := hb.yes (by omega)
    have hnm' : 0 ≤ n ∧ n < g_n g := hnm
    refine m_iload_n h dX8_has_14 rfl rfl ?_
    refine m_bipush h dX8_has_15 (by decide) ?_
    refine m_bipush h dX8_has_17 (by decide) ?_
    refine m_sI h (m_in _ hG _ z (-32) 31 (by omega) (by omega) (by omega)) moX8_in stX8_in lk_X8_60 dX8_has_19 (by decide) rfl rfl (Nat.le_of_ble_eq_true rfl) (fun r5 u6 p7 => ?_)
    obtain ⟨hu8, hb2⟩ := p7
    rw [hu8]
    have hb2i := hb2.in
    refine m_if_eq h dX8_has_22 (tgt := 46) (by decide) (by omega) (fun c8 => ?_) (fun c8 => ?_)
    · skip
      refine m_iconst h dX8_has_46 ?_
      refine m_iret h hR rfl dX8_has_47 ?_
      refine ⟨rfl, Or.inr ⟨hnm, bz0 (fun q => ?_)⟩⟩
      first | exact hst.no (by omega) q.2 | exact hb2.no (by omega) q.1
    · skip
      have hzr := hb2.yes (by omega)
      have hst := t0 n (z + 32) (by omega) (by omega) (by omega) (by omega)
      rw [← Int.add_assoc] at hst
      have hsi := hst.in
      refine m_aload_n h dX8_has_25 rfl rfl ?_
      refine m_get h fo_X8_13 (by decide) rfl rfl dX8_has_26 ?_
      refine m_bipush h dX8_has_29 (by decide) ?_
      refine m_iload_n h dX8_has_31 rfl rfl ?_
      refine m_imul h dX8_has_32 ?_
      refine m_iload_n h dX8_has_33 rfl rfl ?_
      refine m_iadd h dX8_has_34 ?_
      refine m_bipush h dX8_has_35 (by decide) ?_
      refine m_iadd h dX8_has_37 ?_
      refine m_zald h (ar_27 G) (by omega) (by omega) dX8_has_38 ?_
      refine m_if_eq h dX8_has_39 (tgt := 46) (by decide) (by omega) (fun c9 => ?_) (fun c9 => ?_)
      · skip
        refine m_iconst h dX8_has_46 ?_
        refine m_iret h hR rfl dX8_has_47 ?_
        refine ⟨rfl, Or.inr ⟨hnm, bz0 (fun q => ?_)⟩⟩
        first | exact hst.no (by omega) q.2 | exact hb2.no (by omega) q.1
      · skip
        refine m_iconst h dX8_has_42 ?_
        refine m_goto h dX8_has_43 (tgt := 47) (by decide) ?_
        refine m_iret h hR rfl dX8_has_47 ?_
        exact ⟨rfl, Or.inr ⟨hnm, bz1 ⟨hzr, hst.yes (by omega)⟩⟩⟩
  · skip
    refine m_sipush h dX8_has_8 (by decide) ?_
    refine m_goto h dX8_has_11 (tgt := 47) (by decide) ?_
    refine m_iret h hR rfl dX8_has_47 ?_
    exact ⟨rfl, Or.inl ⟨hb.no (by omega), rfl⟩⟩

set_option maxRecDepth 100000 in
set_option maxHeartbeats 4000000 in
theorem m_end (l : Launch) {G : GT} (hG : gok G) (v : Mem) (g : Cfg) (t : TT) (hg : GO g) (ht : TO g t) (hRM : RMM g t v) (n : Int) (hn : -2147483648 ≤ n ∧ n ≤ 2147483647) (mb : Int) (hmb : mb = 0 ∨ mb = 1) : CC l G nX8_end 2 [.ref (G.2.1 25), .int (iI n), .int (iI mb)] v (qI G (fun r u => u = v ∧ A_end g t n mb r)) := by
  refine m_start (lv := [some (.ref (G.2.1 25)), some (.int (iI n)), some (.int (iI mb))]) hG (by decide +kernel) rfl (Nat.le_of_ble_eq_true rfl) ?_
  intro X hL h hR
  subst hL
  obtain ⟨⟨s0, s1, s2, s3⟩, t0, t1, t2, t3, t4⟩ := id hRM
  have hgn := hg.1
  have hgr := hg.2.1
  have htc := ht.c
  show M X G 3 v 0 [some (.ref (G.2.1 25)), some (.int (iI n)), some (.int (iI mb))] []
  refine m_aload_n h dX8_end_0 rfl rfl ?_
  refine m_iload_n h dX8_end_1 rfl rfl ?_
  refine m_vI h (m_isName _ hG _ n hn (by omega)) moX8_isName voX8_isName lk_X8_76 dX8_end_2 (by decide) (by decide) rfl rfl rfl (Nat.le_of_ble_eq_true rfl) (fun r1 u2 p3 => ?_)
  obtain ⟨hu9, hb⟩ := p3
  rw [hu9]
  rw [s0] at hb
  have hb : bz r1 (isNm g n) := hb
  have hbi := hb.in
  refine m_if_ne h dX8_end_5 (tgt := 14) (by decide) (by omega) (fun c4 => ?_) (fun c4 => ?_)
  · skip
    have hnm := hb.yes (by omega)
    have hnm' : 0 ≤ n ∧ n < g_n g := hnm
    have hst := fun k q1 q2 => t0 n k (by omega) (by omega) q1 q2
    refine m_iload_n h dX8_end_14 rfl rfl ?_
    refine m_if_eq h dX8_end_15 (tgt := 27) (by decide) (by omega) (fun c5 => ?_) (fun c5 => ?_)
    · skip
      refine m_aload_n h dX8_end_27 rfl rfl ?_
      refine m_iload_n h dX8_end_28 rfl rfl ?_
      refine m_iconst h dX8_end_29 ?_
      refine m_vI h (m_least0 _ hG _ n (by omega) (t_s t n) hst) moX8_least voX8_least lk_X8_121 dX8_end_30 (by decide) (by decide) rfl rfl rfl (Nat.le_of_ble_eq_true rfl) (fun r6 u7 p8 => ?_)
      obtain ⟨hu8, er⟩ := p8
      rw [hu8]
      refine m_iret h hR rfl dX8_end_33 ?_
      refine ⟨rfl, Or.inr ⟨hnm, ?_⟩⟩
      first | (rw [if_pos (by omega)]; exact er) | (rw [if_neg (by omega)]; exact er)
    · skip
      refine m_aload_n h dX8_end_18 rfl rfl ?_
      refine m_iload_n h dX8_end_19 rfl rfl ?_
      refine m_iconst h dX8_end_20 ?_
      refine m_vI h (m_most0 _ hG _ n (by omega) (t_s t n) hst) moX8_most voX8_most lk_X8_124 dX8_end_21 (by decide) (by decide) rfl rfl rfl (Nat.le_of_ble_eq_true rfl) (fun r9 u10 p11 => ?_)
      obtain ⟨hu8, er⟩ := p11
      rw [hu8]
      refine m_goto h dX8_end_24 (tgt := 33) (by decide) ?_
      refine m_iret h hR rfl dX8_end_33 ?_
      refine ⟨rfl, Or.inr ⟨hnm, ?_⟩⟩
      first | (rw [if_pos (by omega)]; exact er) | (rw [if_neg (by omega)]; exact er)
  · skip
    refine m_sipush h dX8_end_8 (by decide) ?_
    refine m_goto h dX8_end_11 (tgt := 33) (by decide) ?_
    refine m_iret h hR rfl dX8_end_33 ?_
    exact ⟨rfl, Or.inl ⟨hb.no (by omega), rfl⟩⟩

set_option maxRecDepth 100000 in
set_option maxHeartbeats 4000000 in
theorem m_size (l : Launch) {G : GT} (hG : gok G) (v : Mem) (g : Cfg) (t : TT) (hg : GO g) (ht : TO g t) (hRM : RMM g t v) (n : Int) (hn : -2147483648 ≤ n ∧ n ≤ 2147483647) : CC l G nX8_size 2 [.ref (G.2.1 25), .int (iI n)] v (qI G (fun r u => u = v ∧ A_size g t n r)) := by
  refine m_start (lv := [some (.ref (G.2.1 25)), some (.int (iI n))]) hG (by decide +kernel) rfl (Nat.le_of_ble_eq_true rfl) ?_
  intro X hL h hR
  subst hL
  obtain ⟨⟨s0, s1, s2, s3⟩, t0, t1, t2, t3, t4⟩ := id hRM
  have hgn := hg.1
  have hgr := hg.2.1
  have htc := ht.c
  show M X G 2 v 0 [some (.ref (G.2.1 25)), some (.int (iI n))] []
  refine m_aload_n h dX8_size_0 rfl rfl ?_
  refine m_iload_n h dX8_size_1 rfl rfl ?_
  refine m_vI h (m_isName _ hG _ n hn (by omega)) moX8_isName voX8_isName lk_X8_76 dX8_size_2 (by decide) (by decide) rfl rfl rfl (Nat.le_of_ble_eq_true rfl) (fun r1 u2 p3 => ?_)
  obtain ⟨hu9, hb⟩ := p3
  rw [hu9]
  rw [s0] at hb
  have hb : bz r1 (isNm g n) := hb
  have hbi := hb.in
  refine m_if_eq h dX8_size_5 (tgt := 17) (by decide) (by omega) (fun c4 => ?_) (fun c4 => ?_)
  · skip
    refine m_sipush h dX8_size_17 (by decide) ?_
    refine m_iret h hR rfl dX8_size_20 ?_
    exact ⟨rfl, Or.inl ⟨hb.no (by omega), rfl⟩⟩
  · skip
    have hnm := hb.yes (by omega)
    have hnm' : 0 ≤ n ∧ n < g_n g := hnm
    have hst := fun k q1 q2 => t0 n k (by omega) (by omega) q1 q2
    refine m_aload_n h dX8_size_8 rfl rfl ?_
    refine m_iload_n h dX8_size_9 rfl rfl ?_
    refine m_iconst h dX8_size_10 ?_
    refine m_vI h (m_many0 _ hG _ n (by omega) (t_s t n) hst) moX8_many voX8_many lk_X8_80 dX8_size_11 (by decide) (by decide) rfl rfl rfl (Nat.le_of_ble_eq_true rfl) (fun r5 u6 p7 => ?_)
    obtain ⟨hu8, er⟩ := p7
    rw [hu8]
    refine m_goto h dX8_size_14 (tgt := 20) (by decide) ?_
    refine m_iret h hR rfl dX8_size_20 ?_
    exact ⟨rfl, Or.inr ⟨hnm, er⟩⟩

set_option maxRecDepth 100000 in
set_option maxHeartbeats 4000000 in
theorem m_steps (l : Launch) {G : GT} (hG : gok G) (v : Mem) (g : Cfg) (t : TT) (hg : GO g) (ht : TO g t) (hRM : RMM g t v) : CC l G nX8_steps 0 [.ref (G.2.1 25)] v (qI G (fun r u => u = v ∧ r = t_c t)) := by
  refine m_start (lv := [some (.ref (G.2.1 25))]) hG (by decide +kernel) rfl (Nat.le_of_ble_eq_true rfl) ?_
  intro X hL h hR
  subst hL
  obtain ⟨⟨s0, s1, s2, s3⟩, t0, t1, t2, t3, t4⟩ := id hRM
  have hgn := hg.1
  have hgr := hg.2.1
  have htc := ht.c
  show M X G 1 v 0 [some (.ref (G.2.1 25))] []
  refine m_aload_n h dX8_steps_0 rfl rfl ?_
  refine m_get h fo_X8_70 (by decide) rfl rfl dX8_steps_1 ?_
  refine m_iret h hR rfl dX8_steps_4 ?_
  exact ⟨rfl, t3⟩

set_option maxRecDepth 100000 in
set_option maxHeartbeats 4000000 in
theorem m_clash (l : Launch) {G : GT} (hG : gok G) (v : Mem) (g : Cfg) (t : TT) (hg : GO g) (ht : TO g t) (hRM : RMM g t v) : CC l G nX8_clash 0 [.ref (G.2.1 25)] v (qI G (fun r u => u = v ∧ r = t_x t)) := by
  refine m_start (lv := [some (.ref (G.2.1 25))]) hG (by decide +kernel) rfl (Nat.le_of_ble_eq_true rfl) ?_
  intro X hL h hR
  subst hL
  obtain ⟨⟨s0, s1, s2, s3⟩, t0, t1, t2, t3, t4⟩ := id hRM
  have hgn := hg.1
  have hgr := hg.2.1
  have htc := ht.c
  show M X G 1 v 0 [some (.ref (G.2.1 25))] []
  refine m_aload_n h dX8_clash_0 rfl rfl ?_
  refine m_get h fo_X8_29 (by decide) rfl rfl dX8_clash_1 ?_
  refine m_iret h hR rfl dX8_clash_4 ?_
  exact ⟨rfl, t2⟩

set_option maxRecDepth 100000 in
set_option maxHeartbeats 4000000 in
theorem m_step (l : Launch) {G : GT} (hG : gok G) (v : Mem) (g : Cfg) (t : TT) (hg : GO g) (ht : TO g t) (hRM : RMM g t v) (i : Int) (hi : -2147483648 ≤ i ∧ i ≤ 2147483647) (w : Int) (hw : -2147483648 ≤ w ∧ w ≤ 2147483647) : CC l G nX8_step 1 [.ref (G.2.1 25), .int (iI i), .int (iI w)] v (qI G (fun r u => u = v ∧ A_step t i w r)) := by
  refine m_start (lv := [some (.ref (G.2.1 25)), some (.int (iI i)), some (.int (iI w))]) hG (by decide +kernel) rfl (Nat.le_of_ble_eq_true rfl) ?_
  intro X hL h hR
  subst hL
  obtain ⟨⟨s0, s1, s2, s3⟩, t0, t1, t2, t3, t4⟩ := id hRM
  have hgn := hg.1
  have hgr := hg.2.1
  have htc := ht.c
  show M X G 3 v 0 [some (.ref (G.2.1 25)), some (.int (iI i)), some (.int (iI w))] []
  refine m_iload_n h dX8_step_0 rfl rfl ?_
  refine m_iconst h dX8_step_1 ?_
  refine m_aload_n h dX8_step_2 rfl rfl ?_
  refine m_get h fo_X8_70 (by decide) rfl rfl dX8_step_3 ?_
  refine m_iconst h dX8_step_6 ?_
  refine m_isub h dX8_step_7 ?_
  refine m_sI h (m_in _ hG _ i 0 (v.1 25 10 - 1) (by omega) (by omega) (by omega)) moX8_in stX8_in lk_X8_60 dX8_step_8 (by decide) rfl rfl (Nat.le_of_ble_eq_true rfl) (fun r1 u2 p3 => ?_)
  obtain ⟨hu8, hb⟩ := p3
  rw [hu8]
  have hbi := hb.in
  refine m_if_eq h dX8_step_11 (tgt := 23) (by decide) (by omega) (fun c4 => ?_) (fun c4 => ?_)
  · skip
    refine m_sipush h dX8_step_23 (by decide) ?_
    refine m_iret h hR rfl dX8_step_26 ?_
    refine ⟨rfl, Or.inl ⟨fun q => ?_, rfl⟩⟩
    have q1 : 0 ≤ i ∧ i < t_c t := q.1
    first | exact hb2.no (by omega) (by omega) | exact hb.no (by omega) (by omega)
  · skip
    refine m_iload_n h dX8_step_14 rfl rfl ?_
    refine m_iconst h dX8_step_15 ?_
    refine m_iconst h dX8_step_16 ?_
    refine m_sI h (m_in _ hG _ w 0 3 (by omega) (by omega) (by omega)) moX8_in stX8_in lk_X8_60 dX8_step_17 (by decide) rfl rfl (Nat.le_of_ble_eq_true rfl) (fun r5 u6 p7 => ?_)
    obtain ⟨hu8, hb2⟩ := p7
    rw [hu8]
    have hb2i := hb2.in
    refine m_if_ne h dX8_step_20 (tgt := 27) (by decide) (by omega) (fun c8 => ?_) (fun c8 => ?_)
    · skip
      have hy := hb.yes (by omega)
      have hsi : isSt t i := by unfold isSt; omega
      have hsi' : 0 ≤ i ∧ i < t_c t := hsi
      have hsm := t4 i hsi.1 hsi.2
      have hy2 := hb2.yes (by omega)
      refine m_iload_n h dX8_step_27 rfl rfl ?_
      refine m_if_ne h dX8_step_28 (tgt := 40) (by decide) (by omega) (fun c9 => ?_) (fun c9 => ?_)
      · skip
        refine m_iload_n h dX8_step_40 rfl rfl ?_
        refine m_iconst h dX8_step_41 ?_
        refine m_icmp_ne h dX8_step_42 (tgt := 54) (by decide) (by omega) (by omega) (fun c10 => ?_) (fun c10 => ?_)
        · skip
          refine m_iload_n h dX8_step_54 rfl rfl ?_
          refine m_iconst h dX8_step_55 ?_
          refine m_icmp_ne h dX8_step_56 (tgt := 68) (by decide) (by omega) (by omega) (fun c11 => ?_) (fun c11 => ?_)
          · skip
            refine m_aload_n h dX8_step_68 rfl rfl ?_
            refine m_get h fo_X8_42 (by decide) rfl rfl dX8_step_69 ?_
            refine m_iload_n h dX8_step_72 rfl rfl ?_
            refine m_iald h (ar_35 G) (by omega) (by omega) dX8_step_73 ?_
            refine m_iret h hR rfl dX8_step_74 ?_
            refine ⟨rfl, Or.inr ⟨hsi, ?_⟩⟩
            exact Or.inr (Or.inr (Or.inr ⟨by omega, hsm.2.2.2.1⟩))
          · skip
            refine m_aload_n h dX8_step_59 rfl rfl ?_
            refine m_get h fo_X8_39 (by decide) rfl rfl dX8_step_60 ?_
            refine m_iload_n h dX8_step_63 rfl rfl ?_
            refine m_iald h (ar_34 G) (by omega) (by omega) dX8_step_64 ?_
            refine m_goto h dX8_step_65 (tgt := 74) (by decide) ?_
            refine m_iret h hR rfl dX8_step_74 ?_
            refine ⟨rfl, Or.inr ⟨hsi, ?_⟩⟩
            exact Or.inr (Or.inr (Or.inl ⟨by omega, hsm.2.2.1⟩))
        · skip
          refine m_aload_n h dX8_step_45 rfl rfl ?_
          refine m_get h fo_X8_36 (by decide) rfl rfl dX8_step_46 ?_
          refine m_iload_n h dX8_step_49 rfl rfl ?_
          refine m_iald h (ar_33 G) (by omega) (by omega) dX8_step_50 ?_
          refine m_goto h dX8_step_51 (tgt := 74) (by decide) ?_
          refine m_iret h hR rfl dX8_step_74 ?_
          refine ⟨rfl, Or.inr ⟨hsi, ?_⟩⟩
          exact Or.inr (Or.inl ⟨by omega, hsm.2.1⟩)
      · skip
        refine m_aload_n h dX8_step_31 rfl rfl ?_
        refine m_get h fo_X8_33 (by decide) rfl rfl dX8_step_32 ?_
        refine m_iload_n h dX8_step_35 rfl rfl ?_
        refine m_iald h (ar_32 G) (by omega) (by omega) dX8_step_36 ?_
        refine m_goto h dX8_step_37 (tgt := 74) (by decide) ?_
        refine m_iret h hR rfl dX8_step_74 ?_
        refine ⟨rfl, Or.inr ⟨hsi, ?_⟩⟩
        exact Or.inl ⟨by omega, hsm.1⟩
    · skip
      refine m_sipush h dX8_step_23 (by decide) ?_
      refine m_iret h hR rfl dX8_step_26 ?_
      refine ⟨rfl, Or.inl ⟨fun q => ?_, rfl⟩⟩
      have q1 : 0 ≤ i ∧ i < t_c t := q.1
      first | exact hb2.no (by omega) (by omega) | exact hb.no (by omega) (by omega)

set_option maxRecDepth 100000 in
set_option maxHeartbeats 4000000 in
theorem m_reason (l : Launch) {G : GT} (hG : gok G) (v : Mem) (g : Cfg) (t : TT) (hg : GO g) (ht : TO g t) (hRM : RMM g t v) (i : Int) (hi : -2147483648 ≤ i ∧ i ≤ 2147483647) : CC l G nX8_reason 1 [.ref (G.2.1 25), .int (iI i)] v (qI G (fun r u => u = v ∧ A_reason t i r)) := by
  refine m_start (lv := [some (.ref (G.2.1 25)), some (.int (iI i)), none, none]) hG (by decide +kernel) rfl (Nat.le_of_ble_eq_true rfl) ?_
  intro X hL h hR
  subst hL
  obtain ⟨⟨s0, s1, s2, s3⟩, t0, t1, t2, t3, t4⟩ := id hRM
  have hgn := hg.1
  have hgr := hg.2.1
  have htc := ht.c
  show M X G 4 v 0 [some (.ref (G.2.1 25)), some (.int (iI i)), none, none] []
  refine m_iload_n h dX8_reason_0 rfl rfl ?_
  refine m_iconst h dX8_reason_1 ?_
  refine m_aload_n h dX8_reason_2 rfl rfl ?_
  refine m_get h fo_X8_70 (by decide) rfl rfl dX8_reason_3 ?_
  refine m_iconst h dX8_reason_6 ?_
  refine m_isub h dX8_reason_7 ?_
  refine m_sI h (m_in _ hG _ i 0 (v.1 25 10 - 1) (by omega) (by omega) (by omega)) moX8_in stX8_in lk_X8_60 dX8_reason_8 (by decide) rfl rfl (Nat.le_of_ble_eq_true rfl) (fun r1 u2 p3 => ?_)
  obtain ⟨hu8, hb⟩ := p3
  rw [hu8]
  have hbi := hb.in
  refine m_if_ne h dX8_reason_11 (tgt := 18) (by decide) (by omega) (fun c4 => ?_) (fun c4 => ?_)
  · skip
    have hy := hb.yes (by omega)
    have hsi : isSt t i := by unfold isSt; omega
    have hsi' : 0 ≤ i ∧ i < t_c t := hsi
    have hsm := t4 i hsi.1 hsi.2
    refine m_iconst h dX8_reason_18 ?_
    refine m_istore_n h dX8_reason_19 rfl (by decide) rfl ?_
    refine m_iconst h dX8_reason_20 ?_
    refine m_istore_n h dX8_reason_21 rfl (by decide) rfl ?_
    have lp22 : ∀ (fuel : Nat) (b : Nat) (A : Int), b ≤ 16 → 20 - b < fuel → A = sm (ind (pb (t_p t i))) b → M X G 4 v 22 [some (.ref (G.2.1 25)), some (.int (iI i)), some (.int (iI A)), some (.int (iI (b : Int)))] [] := by
      intro fuel
      induction fuel with
      | zero => intro b A hb16 hfu hA; exfalso; omega
      | succ fuel ih =>
        intro b A hb16 hfu hA
        refine m_iload_n h dX8_reason_22 rfl rfl ?_
        refine m_bipush h dX8_reason_23 (by decide) ?_
        refine m_icmp_ge h dX8_reason_25 (tgt := 56) (by decide) (by omega) (by omega) (fun c5 => ?_) (fun c5 => ?_)
        · skip
          refine m_iload_n h dX8_reason_56 rfl rfl ?_
          refine m_iret h hR rfl dX8_reason_57 ?_
          refine ⟨rfl, Or.inr ⟨hsi, ?_⟩⟩
          rw [hA, show b = 16 by omega]
        · skip
          have hp := (hsm.2.2.2.2 (b : Int) (by omega) (by omega)).1
          have hpi := hp.in
          refine m_iload_n h dX8_reason_28 rfl rfl ?_
          refine m_aload_n h dX8_reason_29 rfl rfl ?_
          refine m_get h fo_X8_45 (by decide) rfl rfl dX8_reason_30 ?_
          refine m_bipush h dX8_reason_33 (by decide) ?_
          refine m_iload_n h dX8_reason_35 rfl rfl ?_
          refine m_imul h dX8_reason_36 ?_
          refine m_iload_n h dX8_reason_37 rfl rfl ?_
          refine m_iadd h dX8_reason_38 ?_
          refine m_zald h (ar_36 G) (by omega) (by omega) dX8_reason_39 ?_
          refine m_if_eq h dX8_reason_40 (tgt := 47) (by decide) (by omega) (fun c6 => ?_) (fun c6 => ?_)
          · skip
            refine m_iconst h dX8_reason_47 ?_
            refine m_iadd h dX8_reason_48 ?_
            refine m_istore_n h dX8_reason_49 rfl (by decide) rfl ?_
            refine m_iinc h dX8_reason_50 rfl (by decide) rfl ?_
            refine m_goto h dX8_reason_53 (tgt := 22) (by decide) ?_
            refine ih (b + 1) _ (by omega) (by omega) ?_
            simp only [sm]
            unfold ind at *
            rw [if_neg (hp.no (by omega))]
            omega
          · skip
            refine m_iconst h dX8_reason_43 ?_
            refine m_goto h dX8_reason_44 (tgt := 48) (by decide) ?_
            refine m_iadd h dX8_reason_48 ?_
            refine m_istore_n h dX8_reason_49 rfl (by decide) rfl ?_
            refine m_iinc h dX8_reason_50 rfl (by decide) rfl ?_
            refine m_goto h dX8_reason_53 (tgt := 22) (by decide) ?_
            refine ih (b + 1) _ (by omega) (by omega) ?_
            simp only [sm]
            unfold ind at *
            rw [if_pos (hp.yes (by omega))]
            omega
    exact lp22 100 0 0 (by omega) (by omega) rfl
  · skip
    refine m_sipush h dX8_reason_14 (by decide) ?_
    refine m_iret h hR rfl dX8_reason_17 ?_
    refine ⟨rfl, Or.inl ⟨fun q => ?_, rfl⟩⟩
    have q1 : 0 ≤ i ∧ i < t_c t := q
    exact hb.no (by omega) (by omega)

set_option maxRecDepth 100000 in
set_option maxHeartbeats 4000000 in
theorem m_placeOf (l : Launch) {G : GT} (hG : gok G) (v : Mem) (g : Cfg) (t : TT) (hg : GO g) (ht : TO g t) (hRM : RMM g t v) (i : Int) (hi : -2147483648 ≤ i ∧ i ≤ 2147483647) (k : Int) (hk : -2147483648 ≤ k ∧ k ≤ 2147483647) : CC l G nX8_placeOf 1 [.ref (G.2.1 25), .int (iI i), .int (iI k)] v (qI G (fun r u => u = v ∧ ((¬ isPt t i k ∧ r = -1000) ∨ (isPt t i k ∧ Kth (pb (t_p t i)) k r)))) := by
  refine m_start (lv := [some (.ref (G.2.1 25)), some (.int (iI i)), some (.int (iI k)), none, none]) hG (by decide +kernel) rfl (Nat.le_of_ble_eq_true rfl) ?_
  intro X hL h hR
  subst hL
  obtain ⟨⟨s0, s1, s2, s3⟩, t0, t1, t2, t3, t4⟩ := id hRM
  have hgn := hg.1
  have hgr := hg.2.1
  have htc := ht.c
  show M X G 5 v 0 [some (.ref (G.2.1 25)), some (.int (iI i)), some (.int (iI k)), none, none] []
  refine m_iload_n h dX8_placeOf_0 rfl rfl ?_
  refine m_iconst h dX8_placeOf_1 ?_
  refine m_aload_n h dX8_placeOf_2 rfl rfl ?_
  refine m_get h fo_X8_70 (by decide) rfl rfl dX8_placeOf_3 ?_
  refine m_iconst h dX8_placeOf_6 ?_
  refine m_isub h dX8_placeOf_7 ?_
  refine m_sI h (m_in _ hG _ i 0 (v.1 25 10 - 1) (by omega) (by omega) (by omega)) moX8_in stX8_in lk_X8_60 dX8_placeOf_8 (by decide) rfl rfl (Nat.le_of_ble_eq_true rfl) (fun r1 u2 p3 => ?_)
  obtain ⟨hu8, hb⟩ := p3
  rw [hu8]
  have hbi := hb.in
  refine m_if_eq h dX8_placeOf_11 (tgt := 18) (by decide) (by omega) (fun c4 => ?_) (fun c4 => ?_)
  · skip
    refine m_sipush h dX8_placeOf_18 (by decide) ?_
    refine m_iret h hR rfl dX8_placeOf_21 ?_
    refine ⟨rfl, Or.inl ⟨fun q => ?_, rfl⟩⟩
    have q1 : 0 ≤ i ∧ i < t_c t := q.1
    have q2 := q.2.1
    first | exact hb.no (by omega) (by omega) | omega
  · skip
    refine m_iload_n h dX8_placeOf_14 rfl rfl ?_
    refine m_if_ge h dX8_placeOf_15 (tgt := 22) (by decide) (by omega) (fun c5 => ?_) (fun c5 => ?_)
    · skip
      have hy := hb.yes (by omega)
      have hsi : isSt t i := by unfold isSt; omega
      have hsi' : 0 ≤ i ∧ i < t_c t := hsi
      have hsm := t4 i hsi.1 hsi.2
      refine m_iload_n h dX8_placeOf_22 rfl rfl ?_
      refine m_istore_n h dX8_placeOf_23 rfl (by decide) rfl ?_
      refine m_iconst h dX8_placeOf_24 ?_
      refine m_istore h dX8_placeOf_25 (by decide) rfl ?_
      have lp27 : ∀ (fuel : Nat) (b : Nat) (A : Int), b ≤ 16 → 20 - b < fuel → A = k - sm (ind (pb (t_p t i))) b → 0 ≤ A → M X G 5 v 27 [some (.ref (G.2.1 25)), some (.int (iI i)), some (.int (iI k)), some (.int (iI A)), some (.int (iI (b : Int)))] [] := by
        intro fuel
        induction fuel with
        | zero => intro b A hb16 hfu hA hA0; exfalso; omega
        | succ fuel ih =>
          intro b A hb16 hfu hA hA0
          have hAm := sm_nn (g := ind (pb (t_p t i))) ind_nn b
          refine m_iload h dX8_placeOf_27 rfl ?_
          refine m_bipush h dX8_placeOf_29 (by decide) ?_
          refine m_icmp_ge h dX8_placeOf_31 (tgt := 65) (by decide) (by omega) (by omega) (fun c6 => ?_) (fun c6 => ?_)
          · skip
            refine m_sipush h dX8_placeOf_65 (by decide) ?_
            refine m_iret h hR rfl dX8_placeOf_68 ?_
            refine ⟨rfl, Or.inl ⟨fun q => ?_, rfl⟩⟩
            have q2 := q.2.2
            rw [show b = 16 by omega] at hA
            omega
          · skip
            have hp := (hsm.2.2.2.2 (b : Int) (by omega) (by omega)).1
            have hpi := hp.in
            have hsn : sm (ind (pb (t_p t i))) (b + 1) = sm (ind (pb (t_p t i))) b + ind (pb (t_p t i)) b := rfl
            refine m_aload_n h dX8_placeOf_34 rfl rfl ?_
            refine m_get h fo_X8_45 (by decide) rfl rfl dX8_placeOf_35 ?_
            refine m_bipush h dX8_placeOf_38 (by decide) ?_
            refine m_iload_n h dX8_placeOf_40 rfl rfl ?_
            refine m_imul h dX8_placeOf_41 ?_
            refine m_iload h dX8_placeOf_42 rfl ?_
            refine m_iadd h dX8_placeOf_44 ?_
            refine m_zald h (ar_36 G) (by omega) (by omega) dX8_placeOf_45 ?_
            refine m_if_eq h dX8_placeOf_46 (tgt := 59) (by decide) (by omega) (fun c7 => ?_) (fun c7 => ?_)
            · skip
              refine m_iinc h dX8_placeOf_59 rfl (by decide) rfl ?_
              refine m_goto h dX8_placeOf_62 (tgt := 27) (by decide) ?_
              have e : ind (pb (t_p t i)) b = 0 := by unfold ind; rw [if_neg (hp.no (by omega))]
              exact ih (b + 1) _ (by omega) (by omega) (by omega) (by omega)
            · skip
              refine m_iload_n h dX8_placeOf_49 rfl rfl ?_
              refine m_if_ne h dX8_placeOf_50 (tgt := 56) (by decide) (by omega) (fun c8 => ?_) (fun c8 => ?_)
              · skip
                refine m_iinc h dX8_placeOf_56 rfl (by decide) rfl ?_
                refine m_iinc h dX8_placeOf_59 rfl (by decide) rfl ?_
                refine m_goto h dX8_placeOf_62 (tgt := 27) (by decide) ?_
                have e : ind (pb (t_p t i)) b = 1 := by unfold ind; rw [if_pos (hp.yes (by omega))]
                exact ih (b + 1) _ (by omega) (by omega) (by omega) (by omega)
              · skip
                refine m_iload h dX8_placeOf_53 rfl ?_
                refine m_iret h hR rfl dX8_placeOf_55 ?_
                refine ⟨rfl, Or.inr ⟨⟨hsi, by omega, ?_⟩, b, by omega, rfl, hp.yes (by omega), by omega⟩⟩
                have e : ind (pb (t_p t i)) b = 1 := by unfold ind; rw [if_pos (hp.yes (by omega))]
                have e2 := sm_lt (g := ind (pb (t_p t i))) ind_nn (show b + 1 ≤ 16 by omega)
                omega
      exact lp27 100 0 k (by omega) (by omega) (by show k = k - 0; omega) (by omega)
    · skip
      refine m_sipush h dX8_placeOf_18 (by decide) ?_
      refine m_iret h hR rfl dX8_placeOf_21 ?_
      refine ⟨rfl, Or.inl ⟨fun q => ?_, rfl⟩⟩
      have q1 : 0 ≤ i ∧ i < t_c t := q.1
      have q2 := q.2.1
      first | exact hb.no (by omega) (by omega) | omega

set_option maxRecDepth 100000 in
set_option maxHeartbeats 4000000 in
theorem m_part (l : Launch) {G : GT} (hG : gok G) (v : Mem) (g : Cfg) (t : TT) (hg : GO g) (ht : TO g t) (hRM : RMM g t v) (i : Int) (hi : -2147483648 ≤ i ∧ i ≤ 2147483647) (k : Int) (hk : -2147483648 ≤ k ∧ k ≤ 2147483647) : CC l G nX8_part 2 [.ref (G.2.1 25), .int (iI i), .int (iI k)] v (qI G (fun r u => u = v ∧ A_part t i k r)) := by
  refine m_start (lv := [some (.ref (G.2.1 25)), some (.int (iI i)), some (.int (iI k)), none]) hG (by decide +kernel) rfl (Nat.le_of_ble_eq_true rfl) ?_
  intro X hL h hR
  subst hL
  obtain ⟨⟨s0, s1, s2, s3⟩, t0, t1, t2, t3, t4⟩ := id hRM
  have hgn := hg.1
  have hgr := hg.2.1
  have htc := ht.c
  show M X G 4 v 0 [some (.ref (G.2.1 25)), some (.int (iI i)), some (.int (iI k)), none] []
  refine m_aload_n h dX8_part_0 rfl rfl ?_
  refine m_iload_n h dX8_part_1 rfl rfl ?_
  refine m_iload_n h dX8_part_2 rfl rfl ?_
  refine m_vI h (m_placeOf _ hG _ g t hg ht hRM i hi k hk) moX8_placeOf voX8_placeOf lk_X8_148 dX8_part_3 (by decide) (by decide) rfl rfl rfl (Nat.le_of_ble_eq_true rfl) (fun w u2 p3 => ?_)
  obtain ⟨hu9, hP⟩ := p3
  rw [hu9]
  have hwr : w = -1000 ∨ (0 ≤ w ∧ w < 16) := by
    rcases hP with ⟨_, q⟩ | ⟨_, q, q1, q2, _⟩
    · exact Or.inl q
    · exact Or.inr (by omega)
  have hwc : w ≠ -1000 → (isPt t i k ∧ Kth (pb (t_p t i)) k w) := fun q => hP.elim (fun z => absurd z.2 q) id
  have hwd : w = -1000 → ¬ isPt t i k := fun q => hP.elim (fun z => z.1) (fun z => by obtain ⟨_, q1, q2, q3, _⟩ := z; omega)
  refine m_istore_n h dX8_part_6 rfl (by decide) rfl ?_
  refine m_iload_n h dX8_part_7 rfl rfl ?_
  refine m_sipush h dX8_part_8 (by decide) ?_
  refine m_icmp_ne h dX8_part_11 (tgt := 20) (by decide) (by omega) (by omega) (fun c4 => ?_) (fun c4 => ?_)
  · skip
    refine m_iload_n h dX8_part_20 rfl rfl ?_
    refine m_iret h hR rfl dX8_part_21 ?_
    exact ⟨rfl, Or.inr (hwc (by omega))⟩
  · skip
    refine m_sipush h dX8_part_14 (by decide) ?_
    refine m_goto h dX8_part_17 (tgt := 21) (by decide) ?_
    refine m_iret h hR rfl dX8_part_21 ?_
    exact ⟨rfl, Or.inl ⟨hwd (by omega), rfl⟩⟩

set_option maxRecDepth 100000 in
set_option maxHeartbeats 4000000 in
theorem m_told (l : Launch) {G : GT} (hG : gok G) (v : Mem) (g : Cfg) (t : TT) (hg : GO g) (ht : TO g t) (hRM : RMM g t v) (i : Int) (hi : -2147483648 ≤ i ∧ i ≤ 2147483647) (k : Int) (hk : -2147483648 ≤ k ∧ k ≤ 2147483647) : CC l G nX8_told 2 [.ref (G.2.1 25), .int (iI i), .int (iI k)] v (qI G (fun r u => u = v ∧ A_told g t i k r)) := by
  refine m_start (lv := [some (.ref (G.2.1 25)), some (.int (iI i)), some (.int (iI k)), none]) hG (by decide +kernel) rfl (Nat.le_of_ble_eq_true rfl) ?_
  intro X hL h hR
  subst hL
  obtain ⟨⟨s0, s1, s2, s3⟩, t0, t1, t2, t3, t4⟩ := id hRM
  have hgn := hg.1
  have hgr := hg.2.1
  have htc := ht.c
  show M X G 4 v 0 [some (.ref (G.2.1 25)), some (.int (iI i)), some (.int (iI k)), none] []
  refine m_aload_n h dX8_told_0 rfl rfl ?_
  refine m_iload_n h dX8_told_1 rfl rfl ?_
  refine m_iload_n h dX8_told_2 rfl rfl ?_
  refine m_vI h (m_placeOf _ hG _ g t hg ht hRM i hi k hk) moX8_placeOf voX8_placeOf lk_X8_148 dX8_told_3 (by decide) (by decide) rfl rfl rfl (Nat.le_of_ble_eq_true rfl) (fun w u2 p3 => ?_)
  obtain ⟨hu9, hP⟩ := p3
  rw [hu9]
  have hwr : w = -1000 ∨ (0 ≤ w ∧ w < 16) := by
    rcases hP with ⟨_, q⟩ | ⟨_, q, q1, q2, _⟩
    · exact Or.inl q
    · exact Or.inr (by omega)
  have hwc : w ≠ -1000 → (isPt t i k ∧ Kth (pb (t_p t i)) k w) := fun q => hP.elim (fun z => absurd z.2 q) id
  have hwd : w = -1000 → ¬ isPt t i k := fun q => hP.elim (fun z => z.1) (fun z => by obtain ⟨_, q1, q2, q3, _⟩ := z; omega)
  refine m_istore_n h dX8_told_6 rfl (by decide) rfl ?_
  refine m_iload_n h dX8_told_7 rfl rfl ?_
  refine m_sipush h dX8_told_8 (by decide) ?_
  refine m_icmp_ne h dX8_told_11 (tgt := 20) (by decide) (by omega) (by omega) (fun c4 => ?_) (fun c4 => ?_)
  · skip
    have hyp := hwc (by omega)
    have hsi := hyp.1.1
    have hsi' : 0 ≤ i ∧ i < t_c t := hsi
    refine m_aload_n h dX8_told_20 rfl rfl ?_
    refine m_get h fo_X8_48 (by decide) rfl rfl dX8_told_21 ?_
    refine m_bipush h dX8_told_24 (by decide) ?_
    refine m_iload_n h dX8_told_26 rfl rfl ?_
    refine m_imul h dX8_told_27 ?_
    refine m_iload_n h dX8_told_28 rfl rfl ?_
    refine m_iadd h dX8_told_29 ?_
    refine m_iald h (ar_37 G) (by omega) (by omega) dX8_told_30 ?_
    refine m_iret h hR rfl dX8_told_31 ?_
    refine ⟨rfl, Or.inr ⟨hyp.1, w, hyp.2, ?_⟩⟩
    obtain ⟨b, b1, b2, b3, b4⟩ := hyp.2
    exact ((t4 i hsi.1 hsi.2).2.2.2.2 w (by omega) (by omega)).2 (by rw [b2]; exact b3)
  · skip
    refine m_sipush h dX8_told_14 (by decide) ?_
    refine m_goto h dX8_told_17 (tgt := 31) (by decide) ?_
    refine m_iret h hR rfl dX8_told_31 ?_
    exact ⟨rfl, Or.inl ⟨hwd (by omega), rfl⟩⟩
