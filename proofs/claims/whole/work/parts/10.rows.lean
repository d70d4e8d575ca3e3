/-! sums over the first k names; what is known of a row, of spans -/
def sm (g : Int → Int) : Nat → Int
  | 0 => 0
  | k + 1 => sm g k + g (k : Int)
theorem sm_b {g : Int → Int} {B : Int} (h : ∀ x, -B ≤ g x ∧ g x ≤ B) : ∀ k : Nat, -(B * k) ≤ sm g k ∧ sm g k ≤ B * k
  | 0 => by simp [sm]
  | k + 1 => by
    have h1 := sm_b h k
    have h2 := h (k : Int)
    simp only [sm]
    have e : B * ((k + 1 : Nat) : Int) = B * k + B := by
      rw [Int.natCast_add, Int.mul_add]
      simp
    rw [e]
    omega
theorem sm_c {g g' : Int → Int} : ∀ k : Nat, (∀ j : Nat, j < k → g j = g' j) → sm g k = sm g' k
  | 0, _ => rfl
  | k + 1, h => by
    simp only [sm]
    rw [sm_c k (fun j hj => h j (by omega)), h k (by omega)]
def RM (v : Mem) : Prop := ∀ i x, -2147483648 ≤ v.1 i x ∧ v.1 i x ≤ 2147483647
def SpOk (v : Mem) (si : Nat) : Prop := ∀ x, -32 ≤ v.1 (si + 1) x ∧ v.1 (si + 1) x ≤ v.1 (si + 2) x ∧ v.1 (si + 2) x ≤ 31
def RwOk (v : Mem) (r : Nat) : Prop := (0 ≤ v.1 (40 + r) 0 ∧ v.1 (40 + r) 0 ≤ 9) ∧ (-1 ≤ v.1 (40 + r) 1 ∧ v.1 (40 + r) 1 ≤ 7) ∧ (-1 ≤ v.1 (40 + r) 2 ∧ v.1 (40 + r) 2 ≤ 7) ∧ (-1 ≤ v.1 (40 + r) 3 ∧ v.1 (40 + r) 3 ≤ 7) ∧ (-1000 ≤ v.1 (40 + r) 4 ∧ v.1 (40 + r) 4 ≤ 1000) ∧ (∀ x, -9 ≤ v.1 (52 + r) x ∧ v.1 (52 + r) x ≤ 9) ∧
  (v.1 (40 + r) 0 ≤ 1 → v.1 (40 + r) 1 = -1 ∧ v.1 (40 + r) 2 = -1 ∧ v.1 (40 + r) 3 = -1) ∧
  ((v.1 (40 + r) 0 = 2 ∨ v.1 (40 + r) 0 = 3 ∨ v.1 (40 + r) 0 = 5 ∨ v.1 (40 + r) 0 = 6) → 0 ≤ v.1 (40 + r) 1 ∧ 0 ≤ v.1 (40 + r) 2 ∧ 0 ≤ v.1 (40 + r) 3 ∧ v.1 (40 + r) 1 ≠ v.1 (40 + r) 2 ∧ v.1 (40 + r) 1 ≠ v.1 (40 + r) 3 ∧ v.1 (40 + r) 2 ≠ v.1 (40 + r) 3) ∧
  ((v.1 (40 + r) 0 = 4 ∨ v.1 (40 + r) 0 = 7) → 0 ≤ v.1 (40 + r) 1 ∧ 0 ≤ v.1 (40 + r) 2 ∧ v.1 (40 + r) 3 = -1 ∧ v.1 (40 + r) 1 ≠ v.1 (40 + r) 2) ∧
  ((v.1 (40 + r) 0 = 8 ∨ v.1 (40 + r) 0 = 9) → 0 ≤ v.1 (40 + r) 1 ∧ v.1 (40 + r) 2 = -1 ∧ v.1 (40 + r) 3 = -1 ∧ v.1 (52 + r) (v.1 (40 + r) 1) = 0) ∧
  (2 ≤ v.1 (40 + r) 0 → v.1 (40 + r) 0 ≤ 7 → ∀ x, v.1 (52 + r) x = 0)
theorem mem_ext {u w : Mem} (h1 : ∀ i x, u.1 i x = w.1 i x) (h2 : ∀ i x, u.2 i x = w.2 i x) : u = w := by
  obtain ⟨a, b⟩ := u
  obtain ⟨c, d⟩ := w
  have e1 : a = c := by funext i x; exact h1 i x
  have e2 : b = d := by funext i x; exact h2 i x
  rw [e1, e2]

theorem cE_rowp0 (G : GT) (v : Mem) {r : Nat} (hr : r < 12) {z : Int} : cE G (wI v (40 + r) 0 z) (40 + r) = .inr (1, ([oI (v.1 (40 + r)) 0, oI (v.1 (40 + r)) 1, oI (v.1 (40 + r)) 2, oI (v.1 (40 + r)) 3, oI (v.1 (40 + r)) 4, .ref (G.2.1 (52 + r))] : List Value).set 0 (.int (iI z))) := by
  rw [cE_row G _ hr]
  simp [wI, u2, oI]
theorem cE_rowp1 (G : GT) (v : Mem) {r : Nat} (hr : r < 12) {z : Int} : cE G (wI v (40 + r) 1 z) (40 + r) = .inr (1, ([oI (v.1 (40 + r)) 0, oI (v.1 (40 + r)) 1, oI (v.1 (40 + r)) 2, oI (v.1 (40 + r)) 3, oI (v.1 (40 + r)) 4, .ref (G.2.1 (52 + r))] : List Value).set 1 (.int (iI z))) := by
  rw [cE_row G _ hr]
  simp [wI, u2, oI]
theorem cE_rowp2 (G : GT) (v : Mem) {r : Nat} (hr : r < 12) {z : Int} : cE G (wI v (40 + r) 2 z) (40 + r) = .inr (1, ([oI (v.1 (40 + r)) 0, oI (v.1 (40 + r)) 1, oI (v.1 (40 + r)) 2, oI (v.1 (40 + r)) 3, oI (v.1 (40 + r)) 4, .ref (G.2.1 (52 + r))] : List Value).set 2 (.int (iI z))) := by
  rw [cE_row G _ hr]
  simp [wI, u2, oI]
theorem cE_rowp3 (G : GT) (v : Mem) {r : Nat} (hr : r < 12) {z : Int} : cE G (wI v (40 + r) 3 z) (40 + r) = .inr (1, ([oI (v.1 (40 + r)) 0, oI (v.1 (40 + r)) 1, oI (v.1 (40 + r)) 2, oI (v.1 (40 + r)) 3, oI (v.1 (40 + r)) 4, .ref (G.2.1 (52 + r))] : List Value).set 3 (.int (iI z))) := by
  rw [cE_row G _ hr]
  simp [wI, u2, oI]
theorem cE_rowp4 (G : GT) (v : Mem) {r : Nat} (hr : r < 12) {z : Int} : cE G (wI v (40 + r) 4 z) (40 + r) = .inr (1, ([oI (v.1 (40 + r)) 0, oI (v.1 (40 + r)) 1, oI (v.1 (40 + r)) 2, oI (v.1 (40 + r)) 3, oI (v.1 (40 + r)) 4, .ref (G.2.1 (52 + r))] : List Value).set 4 (.int (iI z))) := by
  rw [cE_row G _ hr]
  simp [wI, u2, oI]
set_option maxRecDepth 100000 in
set_option maxHeartbeats 4000000 in
theorem c_meets (l : Launch) {G : GT} (hG : gok G) {si : Nat} (hsp : isSp si) (v : Mem) (n p q : Int) (hn : 0 ≤ n ∧ n < 8) (hp : -2147483648 ≤ p ∧ p ≤ 2147483647) (hq : -2147483648 ≤ q ∧ q ≤ 2147483647) (hm : SpOk v si) : CC l G nX5_meets 1 [.ref (G.2.1 si), .int (iI n), .int (iI p), .int (iI q)] v (qI G (fun r u => u = v ∧ bz r (v.1 (si + 1) n ≤ q ∧ v.1 (si + 1) n ≤ v.1 (si + 2) n ∧ p ≤ v.1 (si + 2) n ∧ p ≤ q))) := by
  refine m_start (lv := [some (.ref (G.2.1 si)), some (.int (iI n)), some (.int (iI p)), some (.int (iI q))]) hG (by decide +kernel) rfl (Nat.le_of_ble_eq_true rfl) ?_
  intro X hL h hR
  subst hL
  have h1 := hm n
  show M X G 4 v 0 [some (.ref (G.2.1 si)), some (.int (iI n)), some (.int (iI p)), some (.int (iI q))] []
  refine m_iload_n h dX5_meets_0 rfl rfl ?_
  refine m_iload_n h dX5_meets_1 rfl rfl ?_
  refine m_icmp_gt h dX5_meets_2 (tgt := 29) (by decide) (by omega) (by omega) (fun c1 => ?_) (fun c1 => ?_)
  · skip
    refine m_iconst h dX5_meets_29 ?_
    refine m_zret h hR rfl dX5_meets_30 (by omega) ?_
    exact ⟨rfl, bz0 (by omega)⟩
  · skip
    refine m_iload_n h dX5_meets_5 rfl rfl ?_
    refine m_aload_n h dX5_meets_6 rfl rfl ?_
    refine m_get h fo_X5_15 (isSp_lt hsp) (cE_sp hsp) rfl dX5_meets_7 ?_
    refine m_iload_n h dX5_meets_10 rfl rfl ?_
    refine m_iald h (ar_sp2 hsp) (by omega) (by omega) dX5_meets_11 ?_
    refine m_icmp_gt h dX5_meets_12 (tgt := 29) (by decide) (by omega) (by omega) (fun c2 => ?_) (fun c2 => ?_)
    · skip
      refine m_iconst h dX5_meets_29 ?_
      refine m_zret h hR rfl dX5_meets_30 (by omega) ?_
      exact ⟨rfl, bz0 (by omega)⟩
    · skip
      refine m_aload_n h dX5_meets_15 rfl rfl ?_
      refine m_get h fo_X5_9 (isSp_lt hsp) (cE_sp hsp) rfl dX5_meets_16 ?_
      refine m_iload_n h dX5_meets_19 rfl rfl ?_
      refine m_iald h (ar_sp1 hsp) (by omega) (by omega) dX5_meets_20 ?_
      refine m_iload_n h dX5_meets_21 rfl rfl ?_
      refine m_icmp_gt h dX5_meets_22 (tgt := 29) (by decide) (by omega) (by omega) (fun c3 => ?_) (fun c3 => ?_)
      · skip
        refine m_iconst h dX5_meets_29 ?_
        refine m_zret h hR rfl dX5_meets_30 (by omega) ?_
        exact ⟨rfl, bz0 (by omega)⟩
      · skip
        refine m_iconst h dX5_meets_25 ?_
        refine m_goto h dX5_meets_26 (tgt := 30) (by decide) ?_
        refine m_zret h hR rfl dX5_meets_30 (by omega) ?_
        exact ⟨rfl, bz1 (by omega)⟩

set_option maxRecDepth 100000 in
set_option maxHeartbeats 4000000 in
theorem c_copy (l : Launch) {G : GT} (hG : gok G) {si sj : Nat} (hsp : isSp si) (hsq : isSp sj) (v : Mem) : CC l G nX5_copy 1 [.ref (G.2.1 si), .ref (G.2.1 sj)] v (qV G (fun u => u = cpI (cpI v (sj + 1) (si + 1) 8) (sj + 2) (si + 2) 8)) := by
  refine m_start (lv := [some (.ref (G.2.1 si)), some (.ref (G.2.1 sj))]) hG (by decide +kernel) rfl (Nat.le_of_ble_eq_true rfl) ?_
  intro X hL h hR
  subst hL
  show M X G 2 v 0 [some (.ref (G.2.1 si)), some (.ref (G.2.1 sj))] []
  refine m_aload_n h dX5_copy_0 rfl rfl ?_
  refine m_get h fo_X5_9 (isSp_lt hsq) (cE_sp hsq) rfl dX5_copy_1 ?_
  refine m_iconst h dX5_copy_4 ?_
  refine m_aload_n h dX5_copy_5 rfl rfl ?_
  refine m_get h fo_X5_9 (isSp_lt hsp) (cE_sp hsp) rfl dX5_copy_6 ?_
  refine m_iconst h dX5_copy_9 ?_
  refine m_bipush h dX5_copy_10 (by decide) ?_
  refine m_copyI h lk_X5_25 dX5_copy_12 (by decide) (Nat.le_of_ble_eq_true rfl) (ar_sp1 hsq) (ar_sp1 hsp) rfl ?_
  refine m_aload_n h dX5_copy_15 rfl rfl ?_
  refine m_get h fo_X5_15 (isSp_lt hsq) (cE_sp hsq) rfl dX5_copy_16 ?_
  refine m_iconst h dX5_copy_19 ?_
  refine m_aload_n h dX5_copy_20 rfl rfl ?_
  refine m_get h fo_X5_15 (isSp_lt hsp) (cE_sp hsp) rfl dX5_copy_21 ?_
  refine m_iconst h dX5_copy_24 ?_
  refine m_bipush h dX5_copy_25 (by decide) ?_
  refine m_copyI h lk_X5_25 dX5_copy_27 (by decide) (Nat.le_of_ble_eq_true rfl) (ar_sp2 hsq) (ar_sp2 hsp) rfl ?_
  refine m_vret h hR rfl dX5_copy_30 ?_
  rfl

set_option maxRecDepth 100000 in
set_option maxHeartbeats 4000000 in
theorem c_copyPart (l : Launch) {G : GT} (hG : gok G) {si sj : Nat} (hsp : isSp si) (hsq : isSp sj) (v : Mem) (n b : Int) (hn : 0 ≤ n ∧ n < 8) (hb : b = 0 ∨ b = 1) : CC l G nX5_copyPart 0 [.ref (G.2.1 si), .int (iI (2 * n + b)), .ref (G.2.1 sj)] v (qV G (fun u => u = if b = 1 then wI v (si + 2) n (v.1 (sj + 2) n) else wI v (si + 1) n (v.1 (sj + 1) n))) := by
  refine m_start (lv := [some (.ref (G.2.1 si)), some (.int (iI (2 * n + b))), some (.ref (G.2.1 sj)), none]) hG (by decide +kernel) rfl (Nat.le_of_ble_eq_true rfl) ?_
  intro X hL h hR
  subst hL
  have e1 : (2 * n + b).tdiv 2 = n := by rw [Int.tdiv_eq_ediv_of_nonneg (by omega)]; omega
  have e2 : (2 * n + b).tmod 2 = b := by rw [Int.tmod_eq_emod_of_nonneg (by omega)]; omega
  show M X G 4 v 0 [some (.ref (G.2.1 si)), some (.int (iI (2 * n + b))), some (.ref (G.2.1 sj)), none] []
  refine m_iload_n h dX5_copyPart_0 rfl rfl ?_
  refine m_iconst h dX5_copyPart_1 ?_
  refine m_idiv h dX5_copyPart_2 (by omega) (by omega) (by omega) ?_
  rw [e1]
  refine m_istore_n h dX5_copyPart_3 rfl (by decide) rfl ?_
  refine m_iload_n h dX5_copyPart_4 rfl rfl ?_
  refine m_iconst h dX5_copyPart_5 ?_
  refine m_irem h dX5_copyPart_6 (by omega) (by omega) (by omega) ?_
  rw [e2]
  refine m_iconst h dX5_copyPart_7 ?_
  refine m_icmp_ne h dX5_copyPart_8 (tgt := 26) (by decide) (by omega) (by omega) (fun c1 => ?_) (fun c1 => ?_)
  · skip
    refine m_aload_n h dX5_copyPart_26 rfl rfl ?_
    refine m_get h fo_X5_9 (isSp_lt hsp) (cE_sp hsp) rfl dX5_copyPart_27 ?_
    refine m_iload_n h dX5_copyPart_30 rfl rfl ?_
    refine m_aload_n h dX5_copyPart_31 rfl rfl ?_
    refine m_get h fo_X5_9 (isSp_lt hsq) (cE_sp hsq) rfl dX5_copyPart_32 ?_
    refine m_iload_n h dX5_copyPart_35 rfl rfl ?_
    refine m_iald h (ar_sp1 hsq) (by omega) (by omega) dX5_copyPart_36 ?_
    refine m_iast h (ar_sp1 hsp) (by omega) (by omega) dX5_copyPart_37 ?_
    refine m_vret h hR rfl dX5_copyPart_38 ?_
    rw [if_neg (by omega)]
  · skip
    refine m_aload_n h dX5_copyPart_11 rfl rfl ?_
    refine m_get h fo_X5_15 (isSp_lt hsp) (cE_sp hsp) rfl dX5_copyPart_12 ?_
    refine m_iload_n h dX5_copyPart_15 rfl rfl ?_
    refine m_aload_n h dX5_copyPart_16 rfl rfl ?_
    refine m_get h fo_X5_15 (isSp_lt hsq) (cE_sp hsq) rfl dX5_copyPart_17 ?_
    refine m_iload_n h dX5_copyPart_20 rfl rfl ?_
    refine m_iald h (ar_sp2 hsq) (by omega) (by omega) dX5_copyPart_21 ?_
    refine m_iast h (ar_sp2 hsp) (by omega) (by omega) dX5_copyPart_22 ?_
    refine m_goto h dX5_copyPart_23 (tgt := 38) (by decide) ?_
    refine m_vret h hR rfl dX5_copyPart_38 ?_
    rw [if_pos (by omega)]

set_option maxRecDepth 100000 in
set_option maxHeartbeats 4000000 in
theorem c_isAbout (l : Launch) {G : GT} (hG : gok G) (v : Mem) {r : Nat} (hr : r < 12) (hrw : RwOk v r) (n : Int) (hn : 0 ≤ n ∧ n < 8) : CC l G nX1_isAbout 0 [.ref (G.2.1 (40 + r)), .int (iI n)] v (qI G (fun z u => u = v ∧ bz z (n = v.1 (40 + r) 1 ∨ n = v.1 (40 + r) 2 ∨ n = v.1 (40 + r) 3 ∨ v.1 (52 + r) n ≠ 0))) := by
  refine m_start (lv := [some (.ref (G.2.1 (40 + r))), some (.int (iI n))]) hG (by decide +kernel) rfl (Nat.le_of_ble_eq_true rfl) ?_
  intro X hL h hR
  subst hL
  obtain ⟨k0, a0, b0, c0, R0, f0, -, -, -, -, -⟩ := hrw
  have f1 := f0 n
  show M X G 2 v 0 [some (.ref (G.2.1 (40 + r))), some (.int (iI n))] []
  refine m_iload_n h dX1_isAbout_0 rfl rfl ?_
  refine m_aload_n h dX1_isAbout_1 rfl rfl ?_
  refine m_get h fo_X1_15 (by omega) (cE_row G _ hr) rfl dX1_isAbout_2 ?_
  refine m_icmp_eq h dX1_isAbout_5 (tgt := 33) (by decide) (by omega) (by omega) (fun c1 => ?_) (fun c1 => ?_)
  · skip
    refine m_iconst h dX1_isAbout_33 ?_
    refine m_goto h dX1_isAbout_34 (tgt := 38) (by decide) ?_
    refine m_zret h hR rfl dX1_isAbout_38 (by omega) ?_
    exact ⟨rfl, bz1 (by omega)⟩
  · skip
    refine m_iload_n h dX1_isAbout_8 rfl rfl ?_
    refine m_aload_n h dX1_isAbout_9 rfl rfl ?_
    refine m_get h fo_X1_18 (by omega) (cE_row G _ hr) rfl dX1_isAbout_10 ?_
    refine m_icmp_eq h dX1_isAbout_13 (tgt := 33) (by decide) (by omega) (by omega) (fun c2 => ?_) (fun c2 => ?_)
    · skip
      refine m_iconst h dX1_isAbout_33 ?_
      refine m_goto h dX1_isAbout_34 (tgt := 38) (by decide) ?_
      refine m_zret h hR rfl dX1_isAbout_38 (by omega) ?_
      exact ⟨rfl, bz1 (by omega)⟩
    · skip
      refine m_iload_n h dX1_isAbout_16 rfl rfl ?_
      refine m_aload_n h dX1_isAbout_17 rfl rfl ?_
      refine m_get h fo_X1_21 (by omega) (cE_row G _ hr) rfl dX1_isAbout_18 ?_
      refine m_icmp_eq h dX1_isAbout_21 (tgt := 33) (by decide) (by omega) (by omega) (fun c3 => ?_) (fun c3 => ?_)
      · skip
        refine m_iconst h dX1_isAbout_33 ?_
        refine m_goto h dX1_isAbout_34 (tgt := 38) (by decide) ?_
        refine m_zret h hR rfl dX1_isAbout_38 (by omega) ?_
        exact ⟨rfl, bz1 (by omega)⟩
      · skip
        refine m_aload_n h dX1_isAbout_24 rfl rfl ?_
        refine m_get h fo_X1_27 (by omega) (cE_row G _ hr) rfl dX1_isAbout_25 ?_
        refine m_iload_n h dX1_isAbout_28 rfl rfl ?_
        refine m_iald h (ar_fac G hr) (by omega) (by omega) dX1_isAbout_29 ?_
        refine m_if_eq h dX1_isAbout_30 (tgt := 37) (by decide) (by omega) (fun c4 => ?_) (fun c4 => ?_)
        · skip
          refine m_iconst h dX1_isAbout_37 ?_
          refine m_zret h hR rfl dX1_isAbout_38 (by omega) ?_
          exact ⟨rfl, bz0 (by omega)⟩
        · skip
          refine m_iconst h dX1_isAbout_33 ?_
          refine m_goto h dX1_isAbout_34 (tgt := 38) (by decide) ?_
          refine m_zret h hR rfl dX1_isAbout_38 (by omega) ?_
          exact ⟨rfl, bz1 (by omega)⟩

set_option maxRecDepth 100000 in
set_option maxHeartbeats 4000000 in
theorem c_hasFactors (l : Launch) {G : GT} (hG : gok G) (v : Mem) {r : Nat} (hr : r < 12) (hrw : RwOk v r) : CC l G nX1_hasFactors 0 [.ref (G.2.1 (40 + r))] v (qI G (fun z u => u = v ∧ bz z (v.1 (40 + r) 0 ≤ 1 ∨ 8 ≤ v.1 (40 + r) 0))) := by
  refine m_start (lv := [some (.ref (G.2.1 (40 + r)))]) hG (by decide +kernel) rfl (Nat.le_of_ble_eq_true rfl) ?_
  intro X hL h hR
  subst hL
  obtain ⟨k0, a0, b0, c0, R0, f0, -, -, -, -, -⟩ := hrw
  show M X G 1 v 0 [some (.ref (G.2.1 (40 + r)))] []
  refine m_aload_n h dX1_hasFactors_0 rfl rfl ?_
  refine m_get h fo_X1_9 (by omega) (cE_row G _ hr) rfl dX1_hasFactors_1 ?_
  refine m_if_eq h dX1_hasFactors_4 (tgt := 33) (by decide) (by omega) (fun c1 => ?_) (fun c1 => ?_)
  · skip
    refine m_iconst h dX1_hasFactors_33 ?_
    refine m_goto h dX1_hasFactors_34 (tgt := 38) (by decide) ?_
    refine m_zret h hR rfl dX1_hasFactors_38 (by omega) ?_
    exact ⟨rfl, bz1 (by omega)⟩
  · skip
    refine m_aload_n h dX1_hasFactors_7 rfl rfl ?_
    refine m_get h fo_X1_9 (by omega) (cE_row G _ hr) rfl dX1_hasFactors_8 ?_
    refine m_iconst h dX1_hasFactors_11 ?_
    refine m_icmp_eq h dX1_hasFactors_12 (tgt := 33) (by decide) (by omega) (by omega) (fun c2 => ?_) (fun c2 => ?_)
    · skip
      refine m_iconst h dX1_hasFactors_33 ?_
      refine m_goto h dX1_hasFactors_34 (tgt := 38) (by decide) ?_
      refine m_zret h hR rfl dX1_hasFactors_38 (by omega) ?_
      exact ⟨rfl, bz1 (by omega)⟩
    · skip
      refine m_aload_n h dX1_hasFactors_15 rfl rfl ?_
      refine m_get h fo_X1_9 (by omega) (cE_row G _ hr) rfl dX1_hasFactors_16 ?_
      refine m_bipush h dX1_hasFactors_19 (by decide) ?_
      refine m_icmp_eq h dX1_hasFactors_21 (tgt := 33) (by decide) (by omega) (by omega) (fun c3 => ?_) (fun c3 => ?_)
      · skip
        refine m_iconst h dX1_hasFactors_33 ?_
        refine m_goto h dX1_hasFactors_34 (tgt := 38) (by decide) ?_
        refine m_zret h hR rfl dX1_hasFactors_38 (by omega) ?_
        exact ⟨rfl, bz1 (by omega)⟩
      · skip
        refine m_aload_n h dX1_hasFactors_24 rfl rfl ?_
        refine m_get h fo_X1_9 (by omega) (cE_row G _ hr) rfl dX1_hasFactors_25 ?_
        refine m_bipush h dX1_hasFactors_28 (by decide) ?_
        refine m_icmp_ne h dX1_hasFactors_30 (tgt := 37) (by decide) (by omega) (by omega) (fun c4 => ?_) (fun c4 => ?_)
        · skip
          refine m_iconst h dX1_hasFactors_37 ?_
          refine m_zret h hR rfl dX1_hasFactors_38 (by omega) ?_
          exact ⟨rfl, bz0 (by omega)⟩
        · skip
          refine m_iconst h dX1_hasFactors_33 ?_
          refine m_goto h dX1_hasFactors_34 (tgt := 38) (by decide) ?_
          refine m_zret h hR rfl dX1_hasFactors_38 (by omega) ?_
          exact ⟨rfl, bz1 (by omega)⟩

set_option maxRecDepth 100000 in
set_option maxHeartbeats 4000000 in
theorem c_tie (l : Launch) {G : GT} (hG : gok G) (v : Mem) {r : Nat} (hr : r < 12) (a b c : Int) : CC l G nX1_tie 0 [.ref (G.2.1 (40 + r)), .int (iI a), .int (iI b), .int (iI c)] v (qV G (fun u => u = wI (wI (wI v (40 + r) 1 a) (40 + r) 2 b) (40 + r) 3 c)) := by
  refine m_start (lv := [some (.ref (G.2.1 (40 + r))), some (.int (iI a)), some (.int (iI b)), some (.int (iI c))]) hG (by decide +kernel) rfl (Nat.le_of_ble_eq_true rfl) ?_
  intro X hL h hR
  subst hL
  show M X G 4 v 0 [some (.ref (G.2.1 (40 + r))), some (.int (iI a)), some (.int (iI b)), some (.int (iI c))] []
  refine m_aload_n h dX1_tie_0 rfl rfl ?_
  refine m_iload_n h dX1_tie_1 rfl rfl ?_
  refine m_putJ h fw_X1_15 (by omega) (cE_row G _ hr) (Nat.le_of_ble_eq_true rfl) (kz := 1) rfl (cE_rowp1 G _ hr) dX1_tie_2 ?_
  refine m_aload_n h dX1_tie_5 rfl rfl ?_
  refine m_iload_n h dX1_tie_6 rfl rfl ?_
  refine m_putJ h fw_X1_18 (by omega) (cE_row G _ hr) (Nat.le_of_ble_eq_true rfl) (kz := 2) rfl (cE_rowp2 G _ hr) dX1_tie_7 ?_
  refine m_aload_n h dX1_tie_10 rfl rfl ?_
  refine m_iload_n h dX1_tie_11 rfl rfl ?_
  refine m_putJ h fw_X1_21 (by omega) (cE_row G _ hr) (Nat.le_of_ble_eq_true rfl) (kz := 3) rfl (cE_rowp3 G _ hr) dX1_tie_12 ?_
  refine m_vret h hR rfl dX1_tie_15 ?_
  rfl

set_option maxRecDepth 100000 in
set_option maxHeartbeats 4000000 in
theorem c_sumOf (l : Launch) {G : GT} (hG : gok G) (v : Mem) {r : Nat} (hr : r < 12) (hrw : RwOk v r) (hch : ∀ x, -32 ≤ v.1 23 x ∧ v.1 23 x ≤ 31) : CC l G nX1_sumOf 0 [.ref (G.2.1 (40 + r)), .ref (G.2.1 23)] v (qI G (fun z u => u = v ∧ z = sm (fun n => v.1 (52 + r) n * v.1 23 n) 8)) := by
  refine m_start (lv := [some (.ref (G.2.1 (40 + r))), some (.ref (G.2.1 23)), none, none]) hG (by decide +kernel) rfl (Nat.le_of_ble_eq_true rfl) ?_
  intro X hL h hR
  subst hL
  show M X G 4 v 0 [some (.ref (G.2.1 (40 + r))), some (.ref (G.2.1 23)), none, none] []
  refine m_iconst h dX1_sumOf_0 ?_
  refine m_istore_n h dX1_sumOf_1 rfl (by decide) rfl ?_
  refine m_iconst h dX1_sumOf_2 ?_
  refine m_istore_n h dX1_sumOf_3 rfl (by decide) rfl ?_
  have lp4 : ∀ (fuel : Nat) (k : Nat), k ≤ 8 → 8 - k < fuel → M X G 4 v 4 [some (.ref (G.2.1 (40 + r))), some (.ref (G.2.1 23)), some (.int (iI (sm (fun n => v.1 (52 + r) n * v.1 23 n) k))), some (.int (iI (k : Int)))] [] := by
    intro fuel
    induction fuel with
    | zero => intro k hy0 hy1; exfalso; omega
    | succ fuel ih =>
      intro k hy0 hy1
      refine m_iload_n h dX1_sumOf_4 rfl rfl ?_
      refine m_bipush h dX1_sumOf_5 (by decide) ?_
      refine m_icmp_ge h dX1_sumOf_7 (tgt := 29) (by decide) (by omega) (by omega) (fun c1 => ?_) (fun c1 => ?_)
      · skip
        refine m_iload_n h dX1_sumOf_29 rfl rfl ?_
        refine m_iret h hR rfl dX1_sumOf_30 ?_
        exact ⟨rfl, by rw [show k = 8 by omega]⟩
      · skip
        refine m_iload_n h dX1_sumOf_10 rfl rfl ?_
        refine m_aload_n h dX1_sumOf_11 rfl rfl ?_
        refine m_get h fo_X1_27 (by omega) (cE_row G _ hr) rfl dX1_sumOf_12 ?_
        refine m_iload_n h dX1_sumOf_15 rfl rfl ?_
        refine m_iald h (ar_fac G hr) (by omega) (by omega) dX1_sumOf_16 ?_
        refine m_aload_n h dX1_sumOf_17 rfl rfl ?_
        refine m_iload_n h dX1_sumOf_18 rfl rfl ?_
        refine m_iald h (ar_23 G) (by omega) (by omega) dX1_sumOf_19 ?_
        refine m_imul h dX1_sumOf_20 ?_
        refine m_iadd h dX1_sumOf_21 ?_
        refine m_istore_n h dX1_sumOf_22 rfl (by decide) rfl ?_
        refine m_iinc h dX1_sumOf_23 rfl (by decide) rfl ?_
        refine m_goto h dX1_sumOf_26 (tgt := 4) (by decide) ?_
        exact ih (k + 1) (by omega) (by omega)
  exact lp4 9 0 (by omega) (by omega)

set_option maxRecDepth 100000 in
set_option maxHeartbeats 4000000 in
theorem c_countOf (l : Launch) {G : GT} (hG : gok G) (v : Mem) {r : Nat} (hr : r < 12) (hrw : RwOk v r) (hch : ∀ x, -32 ≤ v.1 23 x ∧ v.1 23 x ≤ 31) : CC l G nX1_countOf 0 [.ref (G.2.1 (40 + r)), .ref (G.2.1 23)] v (qI G (fun z u => u = v ∧ z = sm (fun n => if v.1 (52 + r) n ≠ 0 ∧ v.1 23 n = v.1 (40 + r) 4 then 1 else 0) 8)) := by
  refine m_start (lv := [some (.ref (G.2.1 (40 + r))), some (.ref (G.2.1 23)), none, none]) hG (by decide +kernel) rfl (Nat.le_of_ble_eq_true rfl) ?_
  intro X hL h hR
  subst hL
  obtain ⟨k0, a0, b0, c0, R0, f0, -, -, -, -, -⟩ := hrw
  show M X G 4 v 0 [some (.ref (G.2.1 (40 + r))), some (.ref (G.2.1 23)), none, none] []
  refine m_iconst h dX1_countOf_0 ?_
  refine m_istore_n h dX1_countOf_1 rfl (by decide) rfl ?_
  refine m_iconst h dX1_countOf_2 ?_
  refine m_istore_n h dX1_countOf_3 rfl (by decide) rfl ?_
  have lp4 : ∀ (fuel : Nat) (k : Nat), k ≤ 8 → 8 - k < fuel → M X G 4 v 4 [some (.ref (G.2.1 (40 + r))), some (.ref (G.2.1 23)), some (.int (iI (sm (fun n => if v.1 (52 + r) n ≠ 0 ∧ v.1 23 n = v.1 (40 + r) 4 then 1 else 0) k))), some (.int (iI (k : Int)))] [] := by
    intro fuel
    induction fuel with
    | zero => intro k hy0 hy1; exfalso; omega
    | succ fuel ih =>
      intro k hy0 hy1
      have f1 := f0 k
      have h1 := hch k
      refine m_iload_n h dX1_countOf_4 rfl rfl ?_
      refine m_bipush h dX1_countOf_5 (by decide) ?_
      refine m_icmp_ge h dX1_countOf_7 (tgt := 38) (by decide) (by omega) (by omega) (fun c1 => ?_) (fun c1 => ?_)
      · skip
        refine m_iload_n h dX1_countOf_38 rfl rfl ?_
        refine m_iret h hR rfl dX1_countOf_39 ?_
        exact ⟨rfl, by rw [show k = 8 by omega]⟩
      · skip
        refine m_aload_n h dX1_countOf_10 rfl rfl ?_
        refine m_get h fo_X1_27 (by omega) (cE_row G _ hr) rfl dX1_countOf_11 ?_
        refine m_iload_n h dX1_countOf_14 rfl rfl ?_
        refine m_iald h (ar_fac G hr) (by omega) (by omega) dX1_countOf_15 ?_
        refine m_if_eq h dX1_countOf_16 (tgt := 32) (by decide) (by omega) (fun c2 => ?_) (fun c2 => ?_)
        · skip
          refine m_iinc h dX1_countOf_32 rfl (by decide) rfl ?_
          refine m_goto h dX1_countOf_35 (tgt := 4) (by decide) ?_
          have e : sm (fun n => if v.1 (52 + r) n ≠ 0 ∧ v.1 23 n = v.1 (40 + r) 4 then 1 else 0) (k + 1) = sm (fun n => if v.1 (52 + r) n ≠ 0 ∧ v.1 23 n = v.1 (40 + r) 4 then 1 else 0) k := by simp only [sm]; rw [if_neg (by omega), Int.add_zero]
          rw [← e]
          exact ih (k + 1) (by omega) (by omega)
        · skip
          refine m_aload_n h dX1_countOf_19 rfl rfl ?_
          refine m_iload_n h dX1_countOf_20 rfl rfl ?_
          refine m_iald h (ar_23 G) (by omega) (by omega) dX1_countOf_21 ?_
          refine m_aload_n h dX1_countOf_22 rfl rfl ?_
          refine m_get h fo_X1_24 (by omega) (cE_row G _ hr) rfl dX1_countOf_23 ?_
          refine m_icmp_ne h dX1_countOf_26 (tgt := 32) (by decide) (by omega) (by omega) (fun c3 => ?_) (fun c3 => ?_)
          · skip
            refine m_iinc h dX1_countOf_32 rfl (by decide) rfl ?_
            refine m_goto h dX1_countOf_35 (tgt := 4) (by decide) ?_
            have e : sm (fun n => if v.1 (52 + r) n ≠ 0 ∧ v.1 23 n = v.1 (40 + r) 4 then 1 else 0) (k + 1) = sm (fun n => if v.1 (52 + r) n ≠ 0 ∧ v.1 23 n = v.1 (40 + r) 4 then 1 else 0) k := by simp only [sm]; rw [if_neg (by omega), Int.add_zero]
            rw [← e]
            exact ih (k + 1) (by omega) (by omega)
          · skip
            refine m_iinc h dX1_countOf_29 rfl (by decide) rfl ?_
            refine m_iinc h dX1_countOf_32 rfl (by decide) rfl ?_
            refine m_goto h dX1_countOf_35 (tgt := 4) (by decide) ?_
            have e : sm (fun n => if v.1 (52 + r) n ≠ 0 ∧ v.1 23 n = v.1 (40 + r) 4 then 1 else 0) (k + 1) = sm (fun n => if v.1 (52 + r) n ≠ 0 ∧ v.1 23 n = v.1 (40 + r) 4 then 1 else 0) k + 1 := by simp only [sm]; rw [if_pos (by omega)]
            rw [← e]
            exact ih (k + 1) (by omega) (by omega)
  exact lp4 9 0 (by omega) (by omega)
