/-! PlanCounter -/
def CHR (v : Mem) : Prop := ∀ x, -32 ≤ v.1 23 x ∧ v.1 23 x ≤ 31
def PCI (v : Mem) : Prop := IC v ∧ SpOk v 7 ∧ (∀ n, 0 ≤ n → n < v.1 1 0 → ¬ emp (t_s (tC v) n) ∧ v.1 8 n = SL (t_s (tC v) n) ∧ v.1 9 n = SM (t_s (tC v) n)) ∧ CHR v ∧ LaOk (gC v) (v.1 24)
def F23 (v u : Mem) : Prop := u.2 = v.2 ∧ ∀ i, i ≠ 23 → u.1 i = v.1 i
theorem F23.rf {v : Mem} : F23 v v := ⟨rfl, fun _ _ => rfl⟩
theorem F23.tr {u v w : Mem} (h1 : F23 u v) (h2 : F23 v w) : F23 u w := ⟨h2.1.trans h1.1, fun i hi => (h2.2 i hi).trans (h1.2 i hi)⟩
theorem F23.gt {v u : Mem} (h : F23 v u) : gC u = gC v ∧ t_s (tC u) = t_s (tC v) := by
  constructor
  · unfold gC
    rw [h.2 1 (by decide), h.2 10 (by decide), h.1]
    have e1 : (fun (r : Nat) (j : Int) => u.1 (40 + r) j) = fun r j => v.1 (40 + r) j := by funext r; rw [h.2 (40 + r) (by omega)]
    have e2 : (fun (r : Nat) (j : Int) => u.1 (52 + r) j) = fun r j => v.1 (52 + r) j := by funext r; rw [h.2 (52 + r) (by omega)]
    rw [e1, e2]
  · show (fun n k => hbZ (u.2 3 n) k) = _
    rw [h.1]
    rfl
theorem IC_cg {v u : Mem} (hg : gC u = gC v) (h : ∀ i, (i = 1 ∨ i = 10 ∨ i = 5 ∨ i = 6 ∨ 40 ≤ i) → u.1 i = v.1 i) (hi : IC v) : IC u := by
  obtain ⟨i1, i2, i3, i4, i5, i6, i7, i8⟩ := hi
  refine ⟨?_, ?_, fun r hr => (i3 r hr).cg (h _ (by omega)) (h _ (by omega)), ?_, ?_, ?_, ?_, ?_⟩
  · rw [h 1 (by omega)]; exact i1
  · rw [h 10 (by omega)]; exact i2
  · rw [hg, h 1 (by omega), h 10 (by omega)]; exact i4
  · intro x; rw [h (4 + 1) (by omega), h (4 + 2) (by omega)]; exact i5 x
  · rw [hg, h 1 (by omega), h 5 (by omega), h 6 (by omega)]; exact i6
  · rw [hg, h 1 (by omega)]; exact i7
  · intro r x q1 q2; rw [h (52 + r) (by omega)]; exact i8 r x q1 q2
theorem F23.pci {v u : Mem} (h : F23 v u) (hc : CHR u) (hp : PCI v) : PCI u := by
  obtain ⟨p1, p2, p3, p4, p5⟩ := hp
  refine ⟨IC_cg h.gt.1 (fun i hi => h.2 i (by omega)) p1, ?_, ?_, hc, ?_⟩
  · intro x; rw [h.2 (7 + 1) (by decide), h.2 (7 + 2) (by decide)]; exact p2 x
  · rw [h.gt.2, h.2 1 (by decide), h.2 8 (by decide), h.2 9 (by decide)]; exact p3
  · rw [h.gt.1, h.2 24 (by decide)]; exact p5
theorem RHl_c {g : Cfg} (hw : WFg g) {la : Int → Int} (hl : LaOk g la) {n : Int} {ch ch' : Int → Int} (h : ∀ x, 0 ≤ x → x ≤ n → ch x = ch' x) : RHl g la n ch ↔ RHl g la n ch' := by
  have key : ∀ r : Nat, (r : Int) < g_r g → la r = n → ∀ x, 0 ≤ x → AbR g r x → x ≤ n := by
    intro r hr q x x0 hx
    apply Int.not_lt.mp
    intro hle
    have h8 := (hw.2.2 r hr).2 x hx x0
    have h9 := hw.1
    exact (hl r hr).2.2 x x0 (by omega) (by omega) hx
  constructor
  · intro q r hr hq
    exact (CnR_c (hw.2.2 r hr).1 (fun x x0 hx => ⟨h x x0 (key r hr hq x x0 hx), h x x0 (key r hr hq x x0 hx)⟩)).mp (q r hr hq)
  · intro q r hr hq
    exact (CnR_c (hw.2.2 r hr).1 (fun x x0 hx => ⟨h x x0 (key r hr hq x x0 hx), h x x0 (key r hr hq x x0 hx)⟩)).mpr (q r hr hq)
theorem cell_up {u : Mem} {n z : Int} : (wI u 23 n z).1 23 = up (u.1 23) n z := ad_u2
theorem sm_skip {f : Int → Int} {a : Nat} : ∀ b : Nat, a ≤ b → (∀ k : Nat, a ≤ k → k < b → f k = 0) → sm f b = sm f a
  | 0, h, _ => by rw [show a = 0 by omega]
  | b + 1, h, hk => by
    by_cases e : a = b + 1
    · rw [e]
    · have ih := sm_skip (f := f) (a := a) b (by omega) (fun k q1 q2 => hk k q1 (by omega))
      simp only [sm]
      rw [ih, hk b (by omega) (by omega), Int.add_zero]
theorem pq_pr {v : Mem} {g : Cfg} : ∀ c : Nat, (pq v c : Int) = prS g (t_s (tC v)) c
  | 0 => rfl
  | c + 1 => by
    have e : (pN 64 (uW (v.2 3 (c : Int))) : Int) = sm (ind (t_s (tC v) (c : Int))) 64 := by
      rw [← pN_sm]
      apply sm_c
      intro j hj
      show _ = if hbZ (v.2 3 c) j = true then (1 : Int) else 0
      rw [hbZ_in (by omega)]
      rfl
    simp only [pq, prS]
    rw [Int.natCast_mul, pq_pr c, e]
theorem pq_lt {v : Mem} : ∀ c : Nat, pq v c ≤ 64 ^ c
  | 0 => Nat.le_refl _
  | c + 1 => by
    simp only [pq]
    rw [Nat.pow_succ]
    exact Nat.mul_le_mul (pq_lt c) (pN_le _ _)
theorem pq_0 {v : Mem} : ∀ c : Nat, pq v c = 0 ↔ ∃ n : Nat, n < c ∧ emp (t_s (tC v) (n : Int))
  | 0 => by simp [pq]
  | c + 1 => by
    have h1 : pN 64 (uW (v.2 3 (c : Int))) = 0 ↔ emp (t_s (tC v) (c : Int)) := by
      have e : (pN 64 (uW (v.2 3 (c : Int))) : Int) = sm (fun k => if (uW (v.2 3 (c : Int))).testBit k.toNat = true then 1 else 0) 64 := (pN_sm _ _).symm
      constructor
      · intro q k k0 k1
        cases e2 : t_s (tC v) (c : Int) k with
        | false => rfl
        | true =>
          have e3 : hb (v.2 3 c) k = true := by have : hbZ (v.2 3 c) k = true := e2; rwa [hbZ_in ⟨k0, k1⟩] at this
          have e4 := sm_take (g := fun k => if (uW (v.2 3 (c : Int))).testBit k.toNat = true then (1 : Int) else 0) (n := k) 64 k0
          rw [if_pos (by omega)] at e4
          have e5 : (if (uW (v.2 3 (c : Int))).testBit k.toNat = true then (1 : Int) else 0) = 1 := if_pos e3
          have e6 := sm_nn (g := fun i => if i = k then 0 else if (uW (v.2 3 (c : Int))).testBit i.toNat = true then (1 : Int) else 0) (fun x => by (repeat' split) <;> omega) 64
          omega
      · intro q
        have : sm (fun k => if (uW (v.2 3 (c : Int))).testBit k.toNat = true then (1 : Int) else 0) 64 = 0 := by
          rw [sm_skip (a := 0) 64 (by omega) (fun k q1 q2 => ?_)]
          · rfl
          · have q3 := q k (by omega) (by omega)
            have q4 : hb (v.2 3 c) k = false := by have : hbZ (v.2 3 c) k = false := q3; rwa [hbZ_in (by omega)] at this
            have q5 : (uW (v.2 3 (c : Int))).testBit (k : Int).toNat = false := q4
            rw [q5]; simp
        omega
    simp only [pq]
    rw [Nat.mul_eq_zero, pq_0 c, h1]
    constructor
    · rintro (⟨n, a, b⟩ | q)
      · exact ⟨n, by omega, b⟩
      · exact ⟨c, by omega, q⟩
    · rintro ⟨n, a, b⟩
      by_cases e : n = c
      · subst e; exact Or.inr b
      · exact Or.inl ⟨n, by omega, b⟩
theorem lgc_p {a b : Int64} : 0 < (lg_cmp a b).toInt ↔ b < a := by
  unfold lg_cmp
  by_cases h : b < a
  · simp [h]
  · by_cases h2 : a = b
    · subst h2; simp
    · simp [h, h2]

set_option maxRecDepth 100000 in
set_option maxHeartbeats 4000000 in
theorem c_rowsHold (l : Launch) {G : GT} (hG : gok G) (v : Mem) (hI : IC v) (hch : CHR v) (hla : ∀ r : Nat, (r : Int) < v.1 10 0 → -1 ≤ v.1 24 r ∧ v.1 24 r < 8) (n : Int) (hn : -1 ≤ n ∧ n < 8) : CC l G nX0_rowsHoldWith 2 [.ref (G.2.1 22), .int (iI n)] v (qI G (fun z u => u = v ∧ bz z (RHl (gC v) (v.1 24) n (v.1 23)))) := by
  refine m_start (lv := [some (.ref (G.2.1 22)), some (.int (iI n)), none]) hG (by decide +kernel) rfl (Nat.le_of_ble_eq_true rfl) ?_
  intro X hL h hR
  subst hL
  have hc12 := hI.2.1
  show M X G 3 v 0 [some (.ref (G.2.1 22)), some (.int (iI n)), none] []
  refine m_iconst h dX0_rowsHoldWith_0 ?_
  refine m_istore_n h dX0_rowsHoldWith_1 rfl (by decide) rfl ?_
  have lp2 : ∀ (fuel : Nat) (i : Nat), (i : Int) ≤ v.1 10 0 → 20 - i < fuel → (∀ r : Nat, r < i → v.1 24 r = n → CnR (gC v) r (v.1 23) (v.1 23)) → M X G 3 v 2 [some (.ref (G.2.1 22)), some (.int (iI n)), some (.int (iI (i : Int)))] [] := by
    intro fuel
    induction fuel with
    | zero => intro i hi1 hfu hall; exfalso; omega
    | succ fuel ih =>
      intro i hi1 hfu hall
      have hli := hla i
      refine m_iload_n h dX0_rowsHoldWith_2 rfl rfl ?_
      refine m_aload_n h dX0_rowsHoldWith_3 rfl rfl ?_
      refine m_get h fo_X0_22 (by decide) rfl rfl dX0_rowsHoldWith_4 ?_
      refine m_get h fo_X0_26 (by decide) rfl rfl dX0_rowsHoldWith_7 ?_
      refine m_icmp_ge h dX0_rowsHoldWith_10 (tgt := 50) (by decide) (by omega) (by omega) (fun c1 => ?_) (fun c1 => ?_)
      · skip
        refine m_iconst h dX0_rowsHoldWith_50 ?_
        refine m_zret h hR rfl dX0_rowsHoldWith_51 (by omega) ?_
        exact ⟨rfl, bz1 (fun r q1 q2 => hall r (by have : (r : Int) < v.1 10 0 := q1; omega) q2)⟩
      · skip
        refine m_aload_n h dX0_rowsHoldWith_13 rfl rfl ?_
        refine m_get h fo_X0_15 (by decide) rfl rfl dX0_rowsHoldWith_14 ?_
        refine m_iload_n h dX0_rowsHoldWith_17 rfl rfl ?_
        refine m_iald h (ar_24 G) (by omega) (by omega) dX0_rowsHoldWith_18 ?_
        refine m_iload_n h dX0_rowsHoldWith_19 rfl rfl ?_
        refine m_icmp_ne h dX0_rowsHoldWith_20 (tgt := 44) (by decide) (by have := hli (by omega); omega) (by omega) (fun c2 => ?_) (fun c2 => ?_)
        · skip
          refine m_iinc h dX0_rowsHoldWith_44 rfl (by decide) rfl ?_
          refine m_goto h dX0_rowsHoldWith_47 (tgt := 2) (by decide) ?_
          refine ih (i + 1) (by omega) (by omega) (fun r q1 q2 => ?_)
          by_cases e : r < i
          · exact hall r e q2
          · obtain rfl : r = i := by omega
            first | exact hb.yes (by omega) | omega
        · skip
          have hi12 : i < 12 := by omega
          have hi : i < 12 := hi12
          refine m_aload_n h dX0_rowsHoldWith_23 rfl rfl ?_
          refine m_get h fo_X0_22 (by decide) rfl rfl dX0_rowsHoldWith_24 ?_
          refine m_get h fo_X0_32 (by decide) rfl rfl dX0_rowsHoldWith_27 ?_
          refine m_iload_n h dX0_rowsHoldWith_30 rfl rfl ?_
          refine m_aald h i rfl hi12 dX0_rowsHoldWith_31 ?_
          refine m_aload_n h dX0_rowsHoldWith_32 rfl rfl ?_
          refine m_get h fo_X0_9 (by decide) rfl rfl dX0_rowsHoldWith_33 ?_
          refine m_vI h (c_holds _ hG _ hi12 (hI.2.2.1 i hi12) hch) moX1_holds voX1_holds lk_X0_73 dX0_rowsHoldWith_36 (by decide) (by omega) (cE_row G _ hi) rfl rfl (Nat.le_of_ble_eq_true rfl) (fun r3 u4 p5 => ?_)
          obtain ⟨hu9, hb⟩ := p5
          rw [hu9]
          have hb : bz r3 (CnR (gC v) i (v.1 23) (v.1 23)) := hb
          have hbi := hb.in
          refine m_if_ne h dX0_rowsHoldWith_39 (tgt := 44) (by decide) (by omega) (fun c6 => ?_) (fun c6 => ?_)
          · skip
            refine m_iinc h dX0_rowsHoldWith_44 rfl (by decide) rfl ?_
            refine m_goto h dX0_rowsHoldWith_47 (tgt := 2) (by decide) ?_
            refine ih (i + 1) (by omega) (by omega) (fun r q1 q2 => ?_)
            by_cases e : r < i
            · exact hall r e q2
            · obtain rfl : r = i := by omega
              first | exact hb.yes (by omega) | omega
          · skip
            refine m_iconst h dX0_rowsHoldWith_42 ?_
            refine m_zret h hR rfl dX0_rowsHoldWith_43 (by omega) ?_
            exact ⟨rfl, bz0 (fun q => hb.no (by omega) (q i (by show (i : Int) < v.1 10 0; omega) (by omega)))⟩
  exact lp2 40 0 (by omega) (by omega) (fun r q => by omega)

set_option maxRecDepth 100000 in
set_option maxHeartbeats 4000000 in
theorem c_cf0 (l : Launch) {G : GT} (hG : gok G) (v : Mem) (hP : PCI v) (n : Int) (hn : n = v.1 1 0) : CC l G nX0_countFrom 3 [.ref (G.2.1 22), .int (iI n)] v (qI G (fun z u => z = cC (gC v) (t_s (tC v)) (v.1 24) 0 (v.1 23) ∧ F23 v u ∧ CHR u ∧ ∀ x, 0 ≤ x → x < n → u.1 23 x = v.1 23 x)) := by
  refine m_start (lv := [some (.ref (G.2.1 22)), some (.int (iI n)), none, none]) hG (by decide +kernel) rfl (Nat.le_of_ble_eq_true rfl) ?_
  intro X hL h hR
  subst hL
  have hc8 := hP.1.1
  show M X G 4 v 0 [some (.ref (G.2.1 22)), some (.int (iI n)), none, none] []
  refine m_iload_n h dX0_countFrom_0 rfl rfl ?_
  refine m_aload_n h dX0_countFrom_1 rfl rfl ?_
  refine m_get h fo_X0_18 (by decide) rfl rfl dX0_countFrom_2 ?_
  refine m_get h fo_X0_50 (by decide) rfl rfl dX0_countFrom_5 ?_
  refine m_icmp_lt h dX0_countFrom_8 (tgt := 13) (by decide) (by omega) (by omega) (fun c1 => ?_) (fun c1 => ?_)
  · skip
    omega
  · skip
    refine m_iconst h dX0_countFrom_11 ?_
    refine m_iret h hR rfl dX0_countFrom_12 ?_
    exact ⟨rfl, F23.rf, hP.2.2.2.1, fun _ _ _ => rfl⟩

set_option maxRecDepth 100000 in
set_option maxHeartbeats 4000000 in
theorem c_cfS (l : Launch) {G : GT} (hG : gok G) (m : Nat) (IH : ∀ (v : Mem) (n : Int), PCI v → n = v.1 1 0 - m → 0 ≤ n → CC l G nX0_countFrom (3 + m) [.ref (G.2.1 22), .int (iI n)] v (qI G (fun z u => z = cC (gC v) (t_s (tC v)) (v.1 24) m (v.1 23) ∧ F23 v u ∧ CHR u ∧ ∀ x, 0 ≤ x → x < n → u.1 23 x = v.1 23 x))) (v : Mem) (hP : PCI v) (n : Int) (hn : n = v.1 1 0 - ((m + 1 : Nat) : Int)) (hn0 : 0 ≤ n) : CC l G nX0_countFrom (3 + (m + 1)) [.ref (G.2.1 22), .int (iI n)] v (qI G (fun z u => z = cC (gC v) (t_s (tC v)) (v.1 24) (m + 1) (v.1 23) ∧ F23 v u ∧ CHR u ∧ ∀ x, 0 ≤ x → x < n → u.1 23 x = v.1 23 x)) := by
  refine m_start (lv := [some (.ref (G.2.1 22)), some (.int (iI n)), none, none]) hG (by decide +kernel) rfl (Nat.le_of_ble_eq_true rfl) ?_
  intro X hL h hR
  subst hL
  have hc8 := hP.1.1
  have hs := hP.2.2.1 n hn0 (by omega)
  have hsp := hP.2.1 n
  have hsp : -32 ≤ v.1 8 n ∧ v.1 8 n ≤ v.1 9 n ∧ v.1 9 n ≤ 31 := hsp
  have hne := nemp hs.1
  show M X G 4 v 0 [some (.ref (G.2.1 22)), some (.int (iI n)), none, none] []
  refine m_iload_n h dX0_countFrom_0 rfl rfl ?_
  refine m_aload_n h dX0_countFrom_1 rfl rfl ?_
  refine m_get h fo_X0_18 (by decide) rfl rfl dX0_countFrom_2 ?_
  refine m_get h fo_X0_50 (by decide) rfl rfl dX0_countFrom_5 ?_
  refine m_icmp_lt h dX0_countFrom_8 (tgt := 13) (by decide) (by omega) (by omega) (fun c1 => ?_) (fun c1 => ?_)
  · skip
    refine m_iconst h dX0_countFrom_13 ?_
    refine m_istore_n h dX0_countFrom_14 rfl (by decide) rfl ?_
    refine m_aload_n h dX0_countFrom_15 rfl rfl ?_
    refine m_get h fo_X0_18 (by decide) rfl rfl dX0_countFrom_16 ?_
    refine m_get h fo_X0_53 (by decide) rfl rfl dX0_countFrom_19 ?_
    refine m_get h fo_X0_57 (by decide) rfl rfl dX0_countFrom_22 ?_
    refine m_iload_n h dX0_countFrom_25 rfl rfl ?_
    refine m_iald h (ar_8 G) (by omega) (by omega) dX0_countFrom_26 ?_
    refine m_istore_n h dX0_countFrom_27 rfl (by decide) rfl ?_
    have lp28 : ∀ (fuel : Nat) (z : Int) (u : Mem) (A : Int), v.1 8 n ≤ z → z ≤ v.1 9 n + 1 → (33 - z).toNat < fuel → A = sm (fun k => if t_s (tC v) n k = true then (if tf (RHl (gC v) (v.1 24) n (up (v.1 23) n (k - 32))) = true then cC (gC v) (t_s (tC v)) (v.1 24) m (up (v.1 23) n (k - 32)) else 0) else 0) (z + 32).toNat → F23 v u → CHR u → (∀ x, 0 ≤ x → x < n → u.1 23 x = v.1 23 x) → M X G 4 u 28 [some (.ref (G.2.1 22)), some (.int (iI n)), some (.int (iI A)), some (.int (iI z))] [] := by
      intro fuel
      induction fuel with
      | zero => intro z u A hz1 hz2 hfu hA hFu hCu hag; exfalso; omega
      | succ fuel ih =>
        intro z u A hz1 hz2 hfu hA hFu hCu hag
        have hgt := hFu.gt
        have e1 : u.1 1 = v.1 1 := hFu.2 1 (by decide)
        have e1p : u.1 1 0 = v.1 1 0 := by rw [e1]
        have e8p : u.1 8 n = v.1 8 n := by rw [hFu.2 8 (by decide)]
        have e9p : u.1 9 n = v.1 9 n := by rw [hFu.2 9 (by decide)]
        have e3p : u.2 3 n = v.2 3 n := by rw [hFu.1]
        have hstp : sm (fun k => if t_s (tC v) n k = true then (if tf (RHl (gC v) (v.1 24) n (up (v.1 23) n (k - 32))) = true then cC (gC v) (t_s (tC v)) (v.1 24) m (up (v.1 23) n (k - 32)) else 0) else 0) (z + 1 + 32).toNat = sm (fun k => if t_s (tC v) n k = true then (if tf (RHl (gC v) (v.1 24) n (up (v.1 23) n (k - 32))) = true then cC (gC v) (t_s (tC v)) (v.1 24) m (up (v.1 23) n (k - 32)) else 0) else 0) (z + 32).toNat + (fun k => if t_s (tC v) n k = true then (if tf (RHl (gC v) (v.1 24) n (up (v.1 23) n (k - 32))) = true then cC (gC v) (t_s (tC v)) (v.1 24) m (up (v.1 23) n (k - 32)) else 0) else 0) (z + 32) := by
          rw [show (z + 1 + 32).toNat = (z + 32).toNat + 1 by omega]
          show _ + _ = _
          rw [show (((z + 32).toNat : Nat) : Int) = z + 32 by omega]
        refine m_iload_n h dX0_countFrom_28 rfl rfl ?_
        refine m_aload_n h dX0_countFrom_29 rfl rfl ?_
        refine m_get h fo_X0_18 (by decide) rfl rfl dX0_countFrom_30 ?_
        refine m_get h fo_X0_53 (by decide) rfl rfl dX0_countFrom_33 ?_
        refine m_get h fo_X0_62 (by decide) rfl rfl dX0_countFrom_36 ?_
        refine m_iload_n h dX0_countFrom_39 rfl rfl ?_
        refine m_iald h (ar_9 G) (by omega) (by omega) dX0_countFrom_40 ?_
        refine m_icmp_gt h dX0_countFrom_41 (tgt := 95) (by decide) (by omega) (by omega) (fun c2 => ?_) (fun c2 => ?_)
        · skip
          refine m_iload_n h dX0_countFrom_95 rfl rfl ?_
          refine m_iret h hR rfl dX0_countFrom_96 ?_
          refine ⟨?_, hFu, hCu, hag⟩
          have hz9 : z = v.1 9 n + 1 := by omega
          rw [hA]
          have e64 : sm (fun k => if t_s (tC v) n k = true then (if tf (RHl (gC v) (v.1 24) n (up (v.1 23) n (k - 32))) = true then cC (gC v) (t_s (tC v)) (v.1 24) m (up (v.1 23) n (k - 32)) else 0) else 0) 64 = sm (fun k => if t_s (tC v) n k = true then (if tf (RHl (gC v) (v.1 24) n (up (v.1 23) n (k - 32))) = true then cC (gC v) (t_s (tC v)) (v.1 24) m (up (v.1 23) n (k - 32)) else 0) else 0) (z + 32).toNat := sm_skip 64 (by omega) (fun k q1 q2 => by
            obtain ⟨t, t1, t2, t3, t4, t5⟩ := SM_sp hne
            have q3 := t4 k (by have := hs.2.2; omega) (by omega)
            show (if _ then _ else _) = _
            rw [q3, if_neg (by simp)])
          rw [← e64]
          have hnn : g_n (gC v) - 1 - (m : Int) = n := by show v.1 1 0 - 1 - (m : Int) = n; omega
          simp only [cC]
          rw [hnn]
        · skip
          refine m_aload_n h dX0_countFrom_44 rfl rfl ?_
          refine m_get h fo_X0_18 (by decide) rfl rfl dX0_countFrom_45 ?_
          refine m_get h fo_X0_65 (by decide) rfl rfl dX0_countFrom_48 ?_
          refine m_iload_n h dX0_countFrom_51 rfl rfl ?_
          refine m_lald h (ar_3 G) (by omega) (by omega) dX0_countFrom_52 ?_
          refine m_iload_n h dX0_countFrom_53 rfl rfl ?_
          refine m_nI h (c_hasBit _ hG _ (u.2 3 n) z (by omega)) moX7_hasBit stX7_hasBit lk_X0_69 dX0_countFrom_54 (by omega) rfl rfl (Nat.le_of_ble_eq_true rfl) (fun r3 u4 p5 => ?_)
          obtain ⟨hu9, hb⟩ := p5
          rw [hu9]
          have hbi := hb.in
          refine m_if_eq h dX0_countFrom_57 (tgt := 89) (by decide) (by omega) (fun c6 => ?_) (fun c6 => ?_)
          · skip
            refine m_iinc h dX0_countFrom_89 rfl (by decide) rfl ?_
            refine m_goto h dX0_countFrom_92 (tgt := 28) (by decide) ?_
            have e : (fun k => if t_s (tC v) n k = true then (if tf (RHl (gC v) (v.1 24) n (up (v.1 23) n (k - 32))) = true then cC (gC v) (t_s (tC v)) (v.1 24) m (up (v.1 23) n (k - 32)) else 0) else 0) (z + 32) = 0 := by
              show (if hbZ (v.2 3 n) (z + 32) = true then _ else _) = _
              rw [if_neg]
              intro q
              rw [hbZ_in (by omega), ← e3p] at q
              exact hb.no (by omega) q
            exact ih (z + 1) u A (by omega) (by omega) (by omega) (by rw [hstp, e]; omega) hFu hCu hag
          · skip
            refine m_aload_n h dX0_countFrom_60 rfl rfl ?_
            refine m_get h fo_X0_9 (by decide) rfl rfl dX0_countFrom_61 ?_
            refine m_iload_n h dX0_countFrom_64 rfl rfl ?_
            refine m_iload_n h dX0_countFrom_65 rfl rfl ?_
            refine m_iast h (ar_23 G) (by omega) (by omega) dX0_countFrom_66 ?_
            have hF1 : F23 v (wI u 23 n z) := hFu.tr ⟨rfl, fun i hi => wI_c hi⟩
            have hC1 : CHR (wI u 23 n z) := fun x => by
              rw [cell_up]
              by_cases e : x = n
              · subst e; rw [up_s]; omega
              · rw [up_n e]; exact hCu x
            have hag1 : ∀ x, 0 ≤ x → x < n → (wI u 23 n z).1 23 x = v.1 23 x := fun x q1 q2 => by
              rw [cell_up, up_n (by omega)]; exact hag x q1 q2
            have hP1 := hF1.pci hC1 hP
            have hagn : ∀ x, 0 ≤ x → x ≤ n → (wI u 23 n z).1 23 x = up (v.1 23) n z x := fun x q1 q2 => by
              rw [cell_up]
              by_cases e : x = n
              · subst e; rw [up_s, up_s]
              · rw [up_n e, up_n e]; exact hag x q1 (by omega)
            have hwf := hP.1.wf
            have hrc := RHl_c (n := n) hwf hP.2.2.2.2 hagn
            have e24 : (wI u 23 n z).1 24 = v.1 24 := hF1.2 24 (by decide)
            refine m_iload_n h dX0_countFrom_67 rfl rfl ?_
            refine m_aload_n h dX0_countFrom_68 rfl rfl ?_
            refine m_iload_n h dX0_countFrom_69 rfl rfl ?_
            refine m_vI h (c_rowsHold _ hG _ hP1.1 hC1 (fun r q => by rw [e24]; have := (hP.2.2.2.2 r (by rw [hF1.2 10 (by decide)] at q; exact q)).1; omega) n (by omega)) moX0_rowsHoldWith voX0_rowsHoldWith lk_X0_42 dX0_countFrom_70 (by omega) (by decide) rfl rfl rfl (Nat.le_of_ble_eq_true rfl) (fun r7 u8 p9 => ?_)
            obtain ⟨hu9, hb2⟩ := p9
            rw [hu9]
            rw [hF1.gt.1, e24] at hb2
            have hb2 := hb2.iff hrc
            have hbi2 := hb2.in
            refine m_if_eq h dX0_countFrom_73 (tgt := 86) (by decide) (by omega) (fun c10 => ?_) (fun c10 => ?_)
            · skip
              refine m_iconst h dX0_countFrom_86 ?_
              refine m_iadd h dX0_countFrom_87 ?_
              refine m_istore_n h dX0_countFrom_88 rfl (by decide) rfl ?_
              refine m_iinc h dX0_countFrom_89 rfl (by decide) rfl ?_
              refine m_goto h dX0_countFrom_92 (tgt := 28) (by decide) ?_
              have hset : t_s (tC v) n (z + 32) = true := by
                show hbZ (v.2 3 n) (z + 32) = true
                rw [hbZ_in (by omega), ← e3p]
                exact hb.yes (by omega)
              have e : (fun k => if t_s (tC v) n k = true then (if tf (RHl (gC v) (v.1 24) n (up (v.1 23) n (k - 32))) = true then cC (gC v) (t_s (tC v)) (v.1 24) m (up (v.1 23) n (k - 32)) else 0) else 0) (z + 32) = 0 := by
                show (if _ then _ else _) = _
                rw [if_pos hset, tf_n (fun q => by rw [show z + 32 - 32 = z by omega] at q; exact hb2.no (by omega) q), if_neg (by simp)]
              exact ih (z + 1) _ (A + 0) (by omega) (by omega) (by omega) (by rw [hstp, e]; omega) hF1 hC1 hag1
            · skip
              refine m_aload_n h dX0_countFrom_76 rfl rfl ?_
              refine m_iload_n h dX0_countFrom_77 rfl rfl ?_
              refine m_iconst h dX0_countFrom_78 ?_
              refine m_iadd h dX0_countFrom_79 ?_
              refine m_vI h (IH _ (n + 1) hP1 (by rw [hF1.2 1 (by decide)]; omega) (by omega)) moX0_countFrom voX0_countFrom lk_X0_46 dX0_countFrom_80 (by omega) (by decide) rfl rfl rfl (Nat.le_of_ble_eq_true rfl) (fun rr u2 p13 => ?_)
              obtain ⟨er, hF2, hC2, hag2⟩ := p13
              rw [hF1.gt.1, hF1.gt.2, e24, cC_c hwf hP.2.2.2.2 m _ (up (v.1 23) n z) (by show (m : Int) ≤ v.1 1 0; omega) (fun x q1 q2 => hagn x q1 (by have : x < v.1 1 0 - (m : Int) := q2; omega))] at er
              refine m_goto h dX0_countFrom_83 (tgt := 87) (by decide) ?_
              refine m_iadd h dX0_countFrom_87 ?_
              refine m_istore_n h dX0_countFrom_88 rfl (by decide) rfl ?_
              refine m_iinc h dX0_countFrom_89 rfl (by decide) rfl ?_
              refine m_goto h dX0_countFrom_92 (tgt := 28) (by decide) ?_
              have hset : t_s (tC v) n (z + 32) = true := by
                show hbZ (v.2 3 n) (z + 32) = true
                rw [hbZ_in (by omega), ← e3p]
                exact hb.yes (by omega)
              have e : (fun k => if t_s (tC v) n k = true then (if tf (RHl (gC v) (v.1 24) n (up (v.1 23) n (k - 32))) = true then cC (gC v) (t_s (tC v)) (v.1 24) m (up (v.1 23) n (k - 32)) else 0) else 0) (z + 32) = rr := by
                show (if _ then _ else _) = _
                rw [if_pos hset, show z + 32 - 32 = z by omega, tf_p (hb2.yes (by omega)), if_pos rfl]
                exact er.symm
              exact ih (z + 1) u2 (A + rr) (by omega) (by omega) (by omega) (by rw [hstp, e]; omega) (hF1.tr hF2) hC2 (fun x q1 q2 => (hag2 x q1 (by omega)).trans (hag1 x q1 q2))
    refine lp28 100 (v.1 8 n) v 0 (by omega) (by omega) (by omega) ?_ F23.rf hP.2.2.2.1 (fun _ _ _ => rfl)
    rw [sm_skip (a := 0) _ (by omega) (fun k q1 q2 => ?_)]
    · rfl
    · obtain ⟨t, t1, t2, t3, t4, t5⟩ := SL_sp hne
      have q3 := t4 k (by omega) (by have := hs.2.1; omega)
      show (if _ then _ else _) = _
      rw [q3, if_neg (by simp)]
  · skip
    omega

theorem c_countFrom (l : Launch) {G : GT} (hG : gok G) : ∀ (m : Nat) (v : Mem) (n : Int), PCI v → n = v.1 1 0 - m → 0 ≤ n → CC l G nX0_countFrom (3 + m) [.ref (G.2.1 22), .int (iI n)] v (qI G (fun z u => z = cC (gC v) (t_s (tC v)) (v.1 24) m (v.1 23) ∧ F23 v u ∧ CHR u ∧ ∀ x, 0 ≤ x → x < n → u.1 23 x = v.1 23 x))
  | 0, v, n, hP, hn, _ => c_cf0 l hG v hP n (by omega)
  | m + 1, v, n, hP, hn, h0 => c_cfS l hG m (fun v n hP hn h => c_countFrom l hG m v n hP hn h) v hP n hn h0

set_option maxRecDepth 100000 in
set_option maxHeartbeats 4000000 in
theorem c_countAll (l : Launch) {G : GT} (hG : gok G) (v : Mem) (hI : IC v) (h7 : SpOk v 7) (hs : ∀ n, 0 ≤ n → n < v.1 1 0 → ¬ emp (t_s (tC v) n) ∧ v.1 8 n = SL (t_s (tC v) n) ∧ v.1 9 n = SM (t_s (tC v) n)) (hch : CHR v) : CC l G nX0_countAll 12 [.ref (G.2.1 22)] v (qI G (fun z u => z = cP (gC v) (t_s (tC v)) (g_n (gC v)).toNat (fun _ => 0) ∧ u.2 = v.2 ∧ (∀ i, i ≠ 23 → i ≠ 24 → u.1 i = v.1 i) ∧ CHR u)) := by
  refine m_start (lv := [some (.ref (G.2.1 22)), none]) hG (by decide +kernel) rfl (Nat.le_of_ble_eq_true rfl) ?_
  intro X hL h hR
  subst hL
  have hc8 := hI.1
  have hc12 := hI.2.1
  show M X G 2 v 0 [some (.ref (G.2.1 22)), none] []
  refine m_iconst h dX0_countAll_0 ?_
  refine m_istore_n h dX0_countAll_1 rfl (by decide) rfl ?_
  have lp2 : ∀ (fuel : Nat) (i : Nat) (u : Mem), (i : Int) ≤ v.1 10 0 → 20 - i < fuel → u.2 = v.2 → (∀ i, i ≠ 24 → u.1 i = v.1 i) → (∀ r : Nat, r < i → LastN (AbR (gC v) r) 8 (u.1 24 r)) → M X G 2 u 2 [some (.ref (G.2.1 22)), some (.int (iI (i : Int)))] [] := by
    intro fuel
    induction fuel with
    | zero => intro i u hi1 hfu hu2 hu1 hla; exfalso; omega
    | succ fuel ih =>
      intro i u hi1 hfu hu2 hu1 hla
      have e10p : u.1 10 0 = v.1 10 0 := by rw [hu1 10 (by decide)]
      have hgu : gC u = gC v := by
        unfold gC
        rw [hu1 1 (by decide), hu1 10 (by decide), hu2]
        have e1 : (fun (r : Nat) (j : Int) => u.1 (40 + r) j) = fun r j => v.1 (40 + r) j := by funext r; rw [hu1 (40 + r) (by omega)]
        have e2 : (fun (r : Nat) (j : Int) => u.1 (52 + r) j) = fun r j => v.1 (52 + r) j := by funext r; rw [hu1 (52 + r) (by omega)]
        rw [e1, e2]
      have htu : t_s (tC u) = t_s (tC v) := by
        show (fun n k => hbZ (u.2 3 n) k) = _
        rw [hu2]
        rfl
      refine m_iload_n h dX0_countAll_2 rfl rfl ?_
      refine m_aload_n h dX0_countAll_3 rfl rfl ?_
      refine m_get h fo_X0_22 (by decide) rfl rfl dX0_countAll_4 ?_
      refine m_get h fo_X0_26 (by decide) rfl rfl dX0_countAll_7 ?_
      refine m_icmp_ge h dX0_countAll_10 (tgt := 37) (by decide) (by omega) (by omega) (fun c1 => ?_) (fun c1 => ?_)
      · skip
        have hIu : IC u := IC_cg hgu (fun q hq => hu1 q (by omega)) hI
        have hcu : CHR u := by unfold CHR; rw [hu1 23 (by decide)]; exact hch
        have hlu : LaOk (gC u) (u.1 24) := by rw [hgu]; exact fun r hr => hla r (by have : (r : Int) < v.1 10 0 := hr; omega)
        have hPu : PCI u := ⟨hIu, fun x => by rw [hu1 (7 + 1) (by decide), hu1 (7 + 2) (by decide)]; exact h7 x, by rw [htu, hu1 1 (by decide), hu1 8 (by decide), hu1 9 (by decide)]; exact hs, hcu, hlu⟩
        have hcp := cP_cC (g := gC u) hIu.wf (s := t_s (tC u)) hlu (g_n (gC v)).toNat (u.1 23) (by rw [hgu]; show ((v.1 1 0).toNat : Int) ≤ v.1 1 0; omega)
        have hcz := cP_c (g := gC u) hIu.wf (s := t_s (tC u)) (g_n (gC v)).toNat (u.1 23) (fun _ => 0) (by rw [hgu]; show ((v.1 1 0).toNat : Int) ≤ v.1 1 0; omega) (fun x q1 q2 => by rw [hgu] at q2; have : x < v.1 1 0 - ((v.1 1 0).toNat : Int) := q2; omega)
        have hcond : (∀ r : Nat, (r : Int) < g_r (gC u) → u.1 24 r < g_n (gC u) - ((g_n (gC v)).toNat : Int) → CnR (gC u) r (u.1 23) (u.1 23)) ↔ RHl (gC u) (u.1 24) (-1) (u.1 23) := by
          have hz0 : g_n (gC u) - ((g_n (gC v)).toNat : Int) = 0 := by rw [hgu]; show v.1 1 0 - ((v.1 1 0).toNat : Int) = 0; omega
          rw [hz0]
          constructor
          · intro q r hr hq; exact q r hr (by omega)
          · intro q r hr hq
            have := (hlu r hr).1
            exact q r hr (by omega)
        refine m_aload_n h dX0_countAll_37 rfl rfl ?_
        refine m_iconst h dX0_countAll_38 ?_
        refine m_vI h (c_rowsHold _ hG _ hIu hcu (fun r q => by have := (hla r (by rw [e10p] at q; omega)).1; omega) (-1) (by omega)) moX0_rowsHoldWith voX0_rowsHoldWith lk_X0_42 dX0_countAll_39 (by decide) (by decide) rfl rfl rfl (Nat.le_of_ble_eq_true rfl) (fun r2 u3 p4 => ?_)
        obtain ⟨hu9, hb⟩ := p4
        rw [hu9]
        have hbi := hb.in
        refine m_if_eq h dX0_countAll_42 (tgt := 53) (by decide) (by omega) (fun c5 => ?_) (fun c5 => ?_)
        · skip
          refine m_iconst h dX0_countAll_53 ?_
          refine m_iret h hR rfl dX0_countAll_54 ?_
          refine ⟨?_, hu2, fun q _ q2 => hu1 q q2, hcu⟩
          rw [tf_n (fun q => hb.no (by omega) (hcond.mp q)), if_neg (by simp), hcz, hgu, htu] at hcp
          exact hcp.symm
        · skip
          refine m_aload_n h dX0_countAll_45 rfl rfl ?_
          refine m_iconst h dX0_countAll_46 ?_
          refine m_vI h (c_countFrom _ hG (g_n (gC v)).toNat u 0 hPu (by rw [hu1 1 (by decide)]; show (0 : Int) = v.1 1 0 - ((v.1 1 0).toNat : Int); omega) (by omega)) moX0_countFrom voX0_countFrom lk_X0_46 dX0_countAll_47 (by show 3 + (v.1 1 0).toNat + 1 ≤ 12; omega) (by decide) rfl rfl rfl (Nat.le_of_ble_eq_true rfl) (fun rr u2 p8 => ?_)
          obtain ⟨er, hF2, hC2, -⟩ := p8
          refine m_goto h dX0_countAll_50 (tgt := 54) (by decide) ?_
          refine m_iret h hR rfl dX0_countAll_54 ?_
          refine ⟨?_, hF2.1.trans hu2, fun q q1 q2 => (hF2.2 q q1).trans (hu1 q q2), hC2⟩
          rw [er]
          rw [tf_p (hcond.mpr (hb.yes (by omega))), if_pos rfl] at hcp
          rw [← hcp, hcz, htu, hgu]
      · skip
        have hi12 : i < 12 := by omega
        have hi : i < 12 := hi12
        refine m_aload_n h dX0_countAll_13 rfl rfl ?_
        refine m_get h fo_X0_15 (by decide) rfl rfl dX0_countAll_14 ?_
        refine m_iload_n h dX0_countAll_17 rfl rfl ?_
        refine m_aload_n h dX0_countAll_18 rfl rfl ?_
        refine m_get h fo_X0_22 (by decide) rfl rfl dX0_countAll_19 ?_
        refine m_get h fo_X0_32 (by decide) rfl rfl dX0_countAll_22 ?_
        refine m_iload_n h dX0_countAll_25 rfl rfl ?_
        refine m_aald h i rfl hi12 dX0_countAll_26 ?_
        refine m_vI h (c_lastName _ hG _ hi12 ((hI.2.2.1 i hi12).cg (hu1 _ (by omega)) (hu1 _ (by omega)))) moX1_lastName voX1_lastName lk_X0_36 dX0_countAll_27 (by decide) (by omega) (cE_row G _ hi) rfl rfl (Nat.le_of_ble_eq_true rfl) (fun w u10 p11 => ?_)
        obtain ⟨hu9, hl⟩ := p11
        rw [hu9]
        have hl : LastN (AbR (gC u) i) 8 w := hl
        rw [hgu] at hl
        refine m_iast h (ar_24 G) (by omega) (by omega) dX0_countAll_30 ?_
        refine m_iinc h dX0_countAll_31 rfl (by decide) rfl ?_
        refine m_goto h dX0_countAll_34 (tgt := 2) (by decide) ?_
        refine ih (i + 1) (wI u 24 (i : Int) w) (by omega) (by omega) hu2 (fun q hq => by rw [wI_c hq]; exact hu1 q hq) (fun r q => ?_)
        by_cases e : r = i
        · subst e; rw [wI_s]; exact hl
        · rw [wI_n (by omega)]; exact hla r (by omega)
  exact lp2 40 0 v (by omega) (by omega) rfl (fun _ _ => rfl) (fun r q => by omega)

set_option maxRecDepth 100000 in
set_option maxHeartbeats 4000000 in
theorem c_plans (l : Launch) {G : GT} (hG : gok G) (v : Mem) (hC : OKC v) (hch : CHR v) : CC l G nX7_plans 13 [.ref (G.2.1 0)] v (qI G (fun z u => z = A_plans (gC v) (tC v) ∧ u.2 = v.2 ∧ (∀ i, i ≠ 23 → i ≠ 24 → u.1 i = v.1 i) ∧ CHR u)) := by
  refine m_start (lv := [some (.ref (G.2.1 0)), none, none]) hG (by decide +kernel) rfl (Nat.le_of_ble_eq_true rfl) ?_
  intro X hL h hR
  subst hL
  obtain ⟨⟨hI, hJ, hK, hNE⟩, hW, hX⟩ := id hC
  have hc8 := hI.1
  obtain ⟨c, hc⟩ : ∃ c : Nat, v.1 1 0 = (c : Int) := ⟨(v.1 1 0).toNat, by omega⟩
  have hcn : (g_n (gC v)).toNat = c := by show (v.1 1 0).toNat = c; omega
  have hpr := pq_pr (v := v) (g := gC v) c
  have hlt := pq_lt (v := v) c
  have hlt2 : (64 : Nat) ^ c ≤ 64 ^ 8 := Nat.pow_le_pow_right (by decide) (by omega)
  have hlg1 : 0 < (lg_cmp (lN (pq v c)) 4000).toInt ↔ 4000 < pq v c := lgc_p.trans (pk_lLT (a := 4000) (b := pq v c) (by decide) (by omega))
  have hlg2 : (lg_cmp (lN (pq v c)) 0).toInt = 0 ↔ pq v c = 0 := lgc0.trans (pk_lEQ (a := pq v c) (b := 0) (by omega) (by decide))
  have h0 := pq_0 (v := v) c
  show M X G 3 v 0 [some (.ref (G.2.1 0)), none, none] []
  refine m_aload_n h dX7_plans_0 rfl rfl ?_
  refine m_get h fo_X7_10 (by decide) rfl rfl dX7_plans_1 ?_
  refine m_vL h (c_choices _ hG _ c hc (by omega)) moX3_choices voX3_choices lk_X7_173 dX7_plans_4 (by decide) (by decide) rfl rfl rfl (Nat.le_of_ble_eq_true rfl) (fun r1 u2 p3 => ?_)
  obtain ⟨hu9, er⟩ := p3
  rw [hu9, er]
  refine m_lstore_n h dX7_plans_7 rfl (by decide) rfl ?_
  refine m_lload_n h dX7_plans_8 rfl rfl ?_
  refine m_ldc2 h kt_X7_177 dX7_plans_9 ?_
  refine m_lcmp h dX7_plans_12 (c := (lg_cmp (lN (pq v c)) 4000).toInt) (iI_of _) ?_
  refine m_if_le h dX7_plans_13 (tgt := 20) (by decide) (iI_rg _) (fun c4 => ?_) (fun c4 => ?_)
  · skip
    refine m_lload_n h dX7_plans_20 rfl rfl ?_
    refine m_lconst h dX7_plans_21 (z := 0) rfl ?_
    refine m_lcmp h dX7_plans_22 (c := (lg_cmp (lN (pq v c)) 0).toInt) (iI_of _) ?_
    refine m_if_ne h dX7_plans_23 (tgt := 30) (by decide) (iI_rg _) (fun c5 => ?_) (fun c5 => ?_)
    · skip
      have hq0 : pq v c ≠ 0 := fun q => by have := hlg2.mpr q; omega
      refine m_aload_n h dX7_plans_30 rfl rfl ?_
      refine m_get h fo_X7_44 (by decide) rfl rfl dX7_plans_31 ?_
      refine m_vI h (c_countAll _ hG _ hI hJ.1 (fun n q1 q2 => by
          have hne : ¬ emp (t_s (tC v) n) := fun q => by
            exact hq0 (h0.mpr ⟨n.toNat, by omega, by rw [Int.toNat_of_nonneg q1]; exact q⟩)
          exact ⟨hne, hJ.2.2.1 n q1 q2 hne⟩) hch) moX0_countAll voX0_countAll lk_X7_179 dX7_plans_34 (by decide) (by decide) rfl rfl rfl (Nat.le_of_ble_eq_true rfl) (fun r6 u2 p8 => ?_)
      obtain ⟨er, e2, e3, e4⟩ := p8
      refine m_iret h hR rfl dX7_plans_37 ?_
      refine ⟨?_, e2, e3, e4⟩
      unfold A_plans
      rw [hcn, ← hpr, if_neg (by omega), er, hcn]
    · skip
      refine m_iconst h dX7_plans_26 ?_
      refine m_goto h dX7_plans_27 (tgt := 37) (by decide) ?_
      refine m_iret h hR rfl dX7_plans_37 ?_
      refine ⟨?_, rfl, fun _ _ _ => rfl, hch⟩
      obtain ⟨n, n1, n2⟩ := h0.mp (by omega)
      unfold A_plans
      rw [hcn, ← hpr, if_neg (by omega), cP_e n2 c _ (by show (n : Int) < v.1 1 0; omega) (by show v.1 1 0 - (c : Int) ≤ n; omega)]
  · skip
    refine m_sipush h dX7_plans_16 (by decide) ?_
    refine m_iret h hR rfl dX7_plans_19 ?_
    refine ⟨?_, rfl, fun _ _ _ => rfl, hch⟩
    unfold A_plans
    rw [hcn, ← hpr, if_pos (by omega)]
