/-! row: how many names a kind has, a static row of numbers -/
def NKs (k : Int) : Int := if k = 2 ∨ k = 3 ∨ k = 5 ∨ k = 6 then 3 else if k = 4 ∨ k = 7 then 2 else if k = 8 ∨ k = 9 then 1 else 0
def Zs (A : Nat → Prop) (U : State) (H : Heap) : Prop := ∃ ts, va_Z "LinearReach" "NAMES_OF_KIND" "[I" (.ref ts) A U H ∧ va_T .int ts 10 (fun j => .int (iI (NKs (j : Int)))) A U H
def CCz (l : Launch) (G : GT) (y : MN) (d : Nat) (As : List Value) (v : Mem) (Q : Array Value → State → Outcome → State → Prop) : Prop := Met l y.1 (wM y.1 y.2.1 y.2.2.1 y.2.2.2) (rmL d) (va_Pc As (fun U => Pw G v U ∧ Zs (aW G) U U.heap)) Q 0 0 (aW G)
theorem nk_link : Cond.fieldLink RX7 81 "LinearReach" "NAMES_OF_KIND" "[I" ∈ gw := tb_in (i := 294) (by decide +kernel) (by decide +kernel)
section RowZ
variable {X : CX} {G : GT} {nL : Nat} {cc : ByteArray} {own : String} {D : Nat} {v : Mem} {pc : Nat} {lv : List (Option Value)} {st : List Value} {ts : Nat}
theorem m_gets (h : Ok X G nL cc own D) {index : Nat} (hZ : va_Z "LinearReach" "NAMES_OF_KIND" "[I" (.ref ts) (x_A X) (x_s X) (x_s X).heap) (hl : Cond.fieldLink own index "LinearReach" "NAMES_OF_KIND" "[I" ∈ gw) (hd : decode cc pc = .ok (.getstatic index, 3)) (k : M X G nL v (pc + 3) lv (.ref ts :: st)) : M X G nL v pc lv st :=
  fun H locs ls hP hS hlv => va_gets h.1 h.2.1 hZ hS h.2.2.2.1 (h.2.2.2.2.1 _ hl) (fun _ q => q) hd (k H locs ls hP hS hlv)
theorem m_tlen (h : Ok X G nL cc own D) (hT : va_T .int ts 10 (fun j => .int (iI (NKs (j : Int)))) (x_A X) (x_s X) (x_s X).heap) (hd : decode cc pc = .ok (.arraylength, 1)) (k : M X G nL v (pc + 1) lv (.int (iI 10) :: st)) : M X G nL v pc lv (.ref ts :: st) :=
  fun H locs ls hP hS hlv => va_tlen h.1 h.2.1 hT hS rfl hd (k H locs ls hP hS hlv)
theorem m_tald (h : Ok X G nL cc own D) {x : Int} (hT : va_T .int ts 10 (fun j => .int (iI (NKs (j : Int)))) (x_A X) (x_s X) (x_s X).heap) (hx : 0 ≤ x ∧ x < 10) (hd : decode cc pc = .ok (.iaload, 1)) (k : M X G nL v (pc + 1) lv (.int (iI (NKs x)) :: st)) : M X G nL v pc lv (.int (iI x) :: .ref ts :: st) := by
  intro H locs ls hP hS hlv
  refine va_ti h.1 h.2.1 hT hS (iI_in hx.1 hx.2 (by decide)) (v := .int (iI (NKs x))) ?_ hd (k H locs ls hP hS hlv)
  show Value.int (iI (NKs ((iI x).toNatClampNeg : Int))) = _
  rw [iI_clamp hx.1 (by omega)]
theorem m_startZ {l : Launch} {y : MN} {d : Nat} {As : List Value} {Q : Array Value → State → Outcome → State → Prop} (hG : gok G) (hy : plainName y.1.cls = true) (hlv : lvl lv = lv_args 0 As) (hln : (lg_sl As).length ≤ y.2.2.1) (body : ∀ X : CX, (∃ ts, va_Z "LinearReach" "NAMES_OF_KIND" "[I" (.ref ts) (x_A X) (x_s X) (x_s X).heap ∧ va_T .int ts 10 (fun j => .int (iI (NKs (j : Int)))) (x_A X) (x_s X) (x_s X).heap) → x_l X = l → Ok X G y.2.2.1 y.2.1 y.1.cls d → Ret X G y Q → M X G y.2.2.1 v 0 lv []) : CCz l G y d As v Q := by
  refine Met.ofW (cc := y.2.1) (maxL := y.2.2.1) (ret := y.2.2.2) hy rfl ?_
  intro p e s m args below meth c s₁ B hml hv
  obtain ⟨rfl, ⟨hP, hK, hN⟩, hZs⟩ := hv
  have hts := atoms_spec (ws := wM y.1 y.2.1 y.2.2.1 y.2.2.2) B.pre
  have hb := body (p, l, e, rmL d, s, m, As.toArray, below, meth, c, 0, 0, MQ below Q As.toArray s 0 0 (aW G), aW G) hZs rfl ⟨B.exec, B.bytes, hml, findClass_of_methodNamed B.named, fun w hw => hts w (List.mem_cons_of_mem _ hw), hK, hN, hG, fun i hi => ⟨i, hi, rfl⟩, B.notSynchronized, ⟨Nat.le_refl _, Nat.le_refl _⟩, ⟨Nat.le_refl _, Nat.le_refl _⟩⟩ ⟨B.returns, rfl, rfl⟩ s.heap [] _ hP va_S.rf (by rw [hlv]; exact lv_entry As hln)
  rw [lg_entry_eq]
  exact hb
end RowZ
/-- may a row be laid so -/
def RwGood (g : Cfg) (kd a b c R : Int) : Prop := (0 ≤ kd ∧ kd ≤ 9) ∧ (-1000 ≤ R ∧ R ≤ 1000) ∧ (1 ≤ NKs kd → isNm g a) ∧ (2 ≤ NKs kd → isNm g b ∧ b ≠ a) ∧ (3 ≤ NKs kd → isNm g c ∧ c ≠ a ∧ c ≠ b)
def rwG (g : Cfg) (kd a b c R : Int) : Cfg := (g_n g, g_r g + 1, fun q j => if (q : Int) = g_r g then (if j = 0 then kd else if j = 1 then a else if j = 2 then b else if j = 3 then c else if j = 4 then R else g_a g q j) else if (q : Int) = 12 + g_r g ∧ 0 ≤ j ∧ j < 8 then 0 else g_a g q j, fun q x => if (q : Int) = g_r g ∧ 0 ≤ x ∧ x < 8 then 0 else g_f g q x, g_i g)
theorem row_C {v : Mem} (h : OKC v) {rn : Nat} {kd a b c R : Int} (hrn : v.1 10 0 = (rn : Int)) (hr : rn < 12) (hg0 : RwGood (gC v) kd a b c R) {w : Mem}
    (hw : w = wI (wI (wI (wI (zf (wI (wI v (40 + rn) 0 kd) (40 + rn) 4 R) (52 + rn) 8) (40 + rn) 1 (if 1 ≤ NKs kd then a else -1)) (40 + rn) 2 (if 2 ≤ NKs kd then b else -1)) (40 + rn) 3 (if 3 ≤ NKs kd then c else -1)) 10 0 (v.1 10 0 + 1)) :
    gC (bA w) = rwG (gC v) kd (if 1 ≤ NKs kd then a else -1) (if 2 ≤ NKs kd then b else -1) (if 3 ≤ NKs kd then c else -1) R ∧ tC (bA w) = anT (rwG (gC v) kd (if 1 ≤ NKs kd then a else -1) (if 2 ≤ NKs kd then b else -1) (if 3 ≤ NKs kd then c else -1) R) (tC v) ∧ OKC (bA w) ∧ Fr8 v (bA w) := by
  obtain ⟨⟨hI, hJ, hK, hN⟩, hW, hX⟩ := h
  obtain ⟨i1, i2, i3, i4, i5, i6, i7⟩ := id hI
  obtain ⟨g1, g2, g3, g4, g5⟩ := hg0
  have hnk : NKs kd = 0 ∨ NKs kd = 1 ∨ NKs kd = 2 ∨ NKs kd = 3 := by unfold NKs; (repeat' split) <;> omega
  have hnk2 : (kd = 2 ∨ kd = 3 ∨ kd = 5 ∨ kd = 6 → NKs kd = 3) ∧ (kd = 4 ∨ kd = 7 → NKs kd = 2) ∧ (kd = 8 ∨ kd = 9 → NKs kd = 1) ∧ (kd ≤ 1 → NKs kd = 0) := by
    unfold NKs
    refine ⟨fun q => by rw [if_pos q], fun q => by rw [if_neg (by omega), if_pos q], fun q => by rw [if_neg (by omega), if_neg (by omega), if_pos q], fun q => by rw [if_neg (by omega), if_neg (by omega), if_neg (by omega)]⟩
  unfold isNm at g3 g4 g5
  change (1 ≤ NKs kd → 0 ≤ a ∧ a < v.1 1 0) at g3
  change (2 ≤ NKs kd → (0 ≤ b ∧ b < v.1 1 0) ∧ b ≠ a) at g4
  change (3 ≤ NKs kd → (0 ≤ c ∧ c < v.1 1 0) ∧ c ≠ a ∧ c ≠ b) at g5
  have hA : (1 ≤ NKs kd ∧ (if 1 ≤ NKs kd then a else -1) = a) ∨ (NKs kd = 0 ∧ (if 1 ≤ NKs kd then a else -1) = -1) := by split <;> omega
  have hB : (2 ≤ NKs kd ∧ (if 2 ≤ NKs kd then b else -1) = b) ∨ (NKs kd ≤ 1 ∧ (if 2 ≤ NKs kd then b else -1) = -1) := by split <;> omega
  have hCc : (3 ≤ NKs kd ∧ (if 3 ≤ NKs kd then c else -1) = c) ∨ (NKs kd ≤ 2 ∧ (if 3 ≤ NKs kd then c else -1) = -1) := by split <;> omega
  generalize (if 1 ≤ NKs kd then a else -1) = a' at *
  generalize (if 2 ≤ NKs kd then b else -1) = b' at *
  generalize (if 3 ≤ NKs kd then c else -1) = c' at *
  have w10 : w.1 10 0 = v.1 10 0 + 1 := by rw [hw, wI_s]
  have wo : ∀ i, i ≠ 10 → i ≠ 40 + rn → i ≠ 52 + rn → w.1 i = v.1 i := by
    intro i q1 q2 q3
    rw [hw, wI_c q1, wI_c q2, wI_c q2, wI_c q2]
    funext x
    simp only [zf]
    rw [if_neg (by omega), wI_c q2, wI_c q2]
  have w2 : w.2 = v.2 := by rw [hw]; rfl
  have wf : ∀ x, w.1 (52 + rn) x = if 0 ≤ x ∧ x < 8 then 0 else v.1 (52 + rn) x := by
    intro x
    rw [hw, wI_c (by omega), wI_c (by omega), wI_c (by omega), wI_c (by omega)]
    simp only [zf]
    by_cases e : 0 ≤ x ∧ x < 8
    · rw [if_pos ⟨trivial, e⟩, if_pos e]
    · rw [if_neg (fun q => e q.2), if_neg e, wI_c (by omega), wI_c (by omega)]
  have wr : ∀ j, w.1 (40 + rn) j = if j = 0 then kd else if j = 1 then a' else if j = 2 then b' else if j = 3 then c' else if j = 4 then R else v.1 (40 + rn) j := by
    intro j
    rw [hw, wI_c (by omega)]
    by_cases e3 : j = 3
    · subst e3; rw [wI_s]; simp
    rw [wI_n e3]
    by_cases e2 : j = 2
    · subst e2; rw [wI_s]; simp
    rw [wI_n e2]
    by_cases e1 : j = 1
    · subst e1; rw [wI_s]; simp
    rw [wI_n e1]
    simp only [zf]
    rw [if_neg (by omega)]
    by_cases e4 : j = 4
    · subst e4; rw [wI_s]; simp
    rw [wI_n e4]
    by_cases e0 : j = 0
    · subst e0; rw [wI_s]; simp
    rw [wI_n e0, if_neg e0, if_neg e1, if_neg e2, if_neg e3, if_neg e4]
  have r0 : w.1 (40 + rn) 0 = kd := by rw [wr]; rfl
  have r1 : w.1 (40 + rn) 1 = a' := by rw [wr]; rfl
  have r2 : w.1 (40 + rn) 2 = b' := by rw [wr]; rfl
  have r3 : w.1 (40 + rn) 3 = c' := by rw [wr]; rfl
  have r4 : w.1 (40 + rn) 4 = R := by rw [wr]; rfl
  have wfz : ∀ x, w.1 (52 + rn) x = 0 := by
    intro x
    rw [wf]
    split
    · rfl
    · rename_i e; exact i7.2 rn x hr e
  have hg : gC w = rwG (gC v) kd a' b' c' R := by
    unfold gC rwG
    rw [w10, wo 1 (by omega) (by omega) (by omega), w2]
    have e1 : (fun (q : Nat) (j : Int) => w.1 (40 + q) j) = fun (q : Nat) (j : Int) => if (q : Int) = v.1 10 0 then (if j = 0 then kd else if j = 1 then a' else if j = 2 then b' else if j = 3 then c' else if j = 4 then R else v.1 (40 + q) j) else if (q : Int) = 12 + v.1 10 0 ∧ 0 ≤ j ∧ j < 8 then 0 else v.1 (40 + q) j := by
      funext q j
      by_cases e : (q : Int) = v.1 10 0
      · obtain rfl : q = rn := by omega
        rw [if_pos e, wr]
      · rw [if_neg e]
        by_cases e2 : q = 12 + rn
        · subst e2
          rw [show 40 + (12 + rn) = 52 + rn by omega, wf]
          by_cases e3 : 0 ≤ j ∧ j < 8
          · rw [if_pos e3, if_pos (by omega)]
          · rw [if_neg e3, if_neg (by omega)]
        · rw [if_neg (by omega), wo _ (by omega) (by omega) (by omega)]
    have e2 : (fun (q : Nat) (x : Int) => w.1 (52 + q) x) = fun (q : Nat) (x : Int) => if (q : Int) = v.1 10 0 ∧ 0 ≤ x ∧ x < 8 then 0 else v.1 (52 + q) x := by
      funext q x
      by_cases e : q = rn
      · subst e
        rw [wf]
        by_cases e3 : 0 ≤ x ∧ x < 8
        · rw [if_pos e3, if_pos (by omega)]
        · rw [if_neg e3, if_neg (by omega)]
      · rw [if_neg (by omega), wo _ (by omega) (by omega) (by omega)]
    rw [e1, e2]
  have key := bA_all (v := v) hg ⟨by rw [wo 1 (by omega) (by omega) (by omega)]; exact i1, by omega, fun q hq => by
      by_cases e : q = rn
      · subst e
        unfold RwOk
        rw [r0, r1, r2, r3, r4]
        refine ⟨by omega, by omega, by omega, by omega, by omega, fun x => by rw [wfz]; omega, fun _ => by omega, fun _ => by omega, fun _ => by omega, fun _ => ⟨by omega, by omega, by omega, wfz _⟩, fun _ _ x => wfz x⟩
      · exact (i3 q hq).cg (wo _ (by omega) (by omega) (by omega)) (wo _ (by omega) (by omega) (by omega)),
    fun q x q1 q2 q3 => by
      rw [w10] at q1
      rw [wo 1 (by omega) (by omega) (by omega)]
      have q2' : x = w.1 (40 + q) 1 ∨ x = w.1 (40 + q) 2 ∨ x = w.1 (40 + q) 3 ∨ w.1 (52 + q) x ≠ 0 := q2
      by_cases e : q = rn
      · subst e
        rw [r1, r2, r3, wfz] at q2'
        omega
      · rw [wo _ (by omega) (by omega) (by omega), wo (52 + q) (by omega) (by omega) (by omega)] at q2'
        exact i4 q x (by omega) q2' q3,
    fun x => by rw [wo (4 + 1) (by omega) (by omega) (by omega), wo (4 + 2) (by omega) (by omega) (by omega)]; exact i5 x,
    by rw [hg, wo 1 (by omega) (by omega) (by omega), wo 5 (by omega) (by omega) (by omega), wo 6 (by omega) (by omega) (by omega)]; exact i6,
    by rw [hg, wo 1 (by omega) (by omega) (by omega)]; exact i7.1,
    fun q x q1 q2 => by
      by_cases e : q = rn
      · subst e; exact wfz x
      · rw [wo _ (by omega) (by omega) (by omega)]; exact i7.2 q x q1 q2⟩
    (fun x => by rw [wo (7 + 1) (by omega) (by omega) (by omega), wo (7 + 2) (by omega) (by omega) (by omega)]; exact hJ.1 x)
    (fun x => by rw [wo (19 + 1) (by omega) (by omega) (by omega), wo (19 + 2) (by omega) (by omega) (by omega)]; exact hJ.2.1 x)
    (by unfold KR; rw [wo 13 (by omega) (by omega) (by omega), wo 14 (by omega) (by omega) (by omega), wo 15 (by omega) (by omega) (by omega), wo 17 (by omega) (by omega) (by omega)]; exact hK.kr)
    (by unfold tC; rw [wo 12 (by omega) (by omega) (by omega), wo 13 (by omega) (by omega) (by omega), wo 14 (by omega) (by omega) (by omega), wo 15 (by omega) (by omega) (by omega), wo 16 (by omega) (by omega) (by omega), wo 17 (by omega) (by omega) (by omega), wo 18 (by omega) (by omega) (by omega), w2])
  exact ⟨key.1, key.2.1, key.2.2, Fr8_bA (fun i q1 q2 => wo i (by omega) (by omega) (by omega))⟩

set_option maxRecDepth 100000 in
set_option maxHeartbeats 4000000 in
theorem c_areDiff (l : Launch) {G : GT} (hG : gok G) (v : Mem) (hC : OKC v) (k : Int) (hk : 0 ≤ k ∧ k ≤ 3) (a : Int) (ha : -2147483648 ≤ a ∧ a ≤ 2147483647) (b : Int) (hb : -2147483648 ≤ b ∧ b ≤ 2147483647) (c : Int) (hc : -2147483648 ≤ c ∧ c ≤ 2147483647) : CC l G nX7_areDifferentNames 1 [.ref (G.2.1 0), .int (iI k), .int (iI a), .int (iI b), .int (iI c)] v (qI G (fun r u => u = v ∧ bz r ((1 ≤ k → isNm (gC v) a) ∧ (2 ≤ k → isNm (gC v) b ∧ b ≠ a) ∧ (3 ≤ k → isNm (gC v) c ∧ c ≠ a ∧ c ≠ b)))) := by
  refine m_start (lv := [some (.ref (G.2.1 0)), some (.int (iI k)), some (.int (iI a)), some (.int (iI b)), some (.int (iI c))]) hG (by decide +kernel) rfl (Nat.le_of_ble_eq_true rfl) ?_
  intro X hL h hR
  subst hL
  obtain ⟨⟨hI, hJ, hK, hNE⟩, hW, hX⟩ := id hC
  have hc8 := hI.1
  have hc12 := hI.2.1
  show M X G 5 v 0 [some (.ref (G.2.1 0)), some (.int (iI k)), some (.int (iI a)), some (.int (iI b)), some (.int (iI c))] []
  refine m_iload_n h dX7_areDifferentNames_0 rfl rfl ?_
  refine m_iconst h dX7_areDifferentNames_1 ?_
  refine m_icmp_lt h dX7_areDifferentNames_2 (tgt := 15) (by decide) (by omega) (by omega) (fun c1 => ?_) (fun c1 => ?_)
  · skip
    refine m_iload_n h dX7_areDifferentNames_15 rfl rfl ?_
    refine m_iconst h dX7_areDifferentNames_16 ?_
    refine m_icmp_lt h dX7_areDifferentNames_17 (tgt := 35) (by decide) (by omega) (by omega) (fun c2 => ?_) (fun c2 => ?_)
    · skip
      refine m_iload_n h dX7_areDifferentNames_35 rfl rfl ?_
      refine m_iconst h dX7_areDifferentNames_36 ?_
      refine m_icmp_lt h dX7_areDifferentNames_37 (tgt := 61) (by decide) (by omega) (by omega) (fun c3 => ?_) (fun c3 => ?_)
      · skip
        refine m_iconst h dX7_areDifferentNames_61 ?_
        refine m_goto h dX7_areDifferentNames_62 (tgt := 66) (by decide) ?_
        refine m_zret h hR rfl dX7_areDifferentNames_66 (by omega) ?_
        refine ⟨rfl, ?_⟩
        unfold isNm
        change bz _ ((1 ≤ k → 0 ≤ a ∧ a < v.1 1 0) ∧ (2 ≤ k → (0 ≤ b ∧ b < v.1 1 0) ∧ b ≠ a) ∧ (3 ≤ k → (0 ≤ c ∧ c < v.1 1 0) ∧ c ≠ a ∧ c ≠ b))
        exact bz1 (by omega)
      · skip
        refine m_aload_n h dX7_areDifferentNames_40 rfl rfl ?_
        refine m_iload h dX7_areDifferentNames_41 rfl ?_
        refine m_vI h (c_isName _ hG _ c (by omega) (by omega)) moX7_isName voX7_isName lk_X7_63 dX7_areDifferentNames_43 (by decide) (by decide) rfl rfl rfl (Nat.le_of_ble_eq_true rfl) (fun r4 u5 p6 => ?_)
        obtain ⟨hu9, hb3⟩ := p6
        rw [hu9]
        have hb3i := hb3.in
        unfold bz at hb3
        refine m_if_eq h dX7_areDifferentNames_46 (tgt := 65) (by decide) (by omega) (fun c7 => ?_) (fun c7 => ?_)
        · skip
          refine m_iconst h dX7_areDifferentNames_65 ?_
          refine m_zret h hR rfl dX7_areDifferentNames_66 (by omega) ?_
          refine ⟨rfl, ?_⟩
          unfold isNm
          change bz _ ((1 ≤ k → 0 ≤ a ∧ a < v.1 1 0) ∧ (2 ≤ k → (0 ≤ b ∧ b < v.1 1 0) ∧ b ≠ a) ∧ (3 ≤ k → (0 ≤ c ∧ c < v.1 1 0) ∧ c ≠ a ∧ c ≠ b))
          exact bz0 (by omega)
        · skip
          refine m_iload h dX7_areDifferentNames_49 rfl ?_
          refine m_iload_n h dX7_areDifferentNames_51 rfl rfl ?_
          refine m_icmp_eq h dX7_areDifferentNames_52 (tgt := 65) (by decide) (by omega) (by omega) (fun c8 => ?_) (fun c8 => ?_)
          · skip
            refine m_iconst h dX7_areDifferentNames_65 ?_
            refine m_zret h hR rfl dX7_areDifferentNames_66 (by omega) ?_
            refine ⟨rfl, ?_⟩
            unfold isNm
            change bz _ ((1 ≤ k → 0 ≤ a ∧ a < v.1 1 0) ∧ (2 ≤ k → (0 ≤ b ∧ b < v.1 1 0) ∧ b ≠ a) ∧ (3 ≤ k → (0 ≤ c ∧ c < v.1 1 0) ∧ c ≠ a ∧ c ≠ b))
            exact bz0 (by omega)
          · skip
            refine m_iload h dX7_areDifferentNames_55 rfl ?_
            refine m_iload_n h dX7_areDifferentNames_57 rfl rfl ?_
            refine m_icmp_eq h dX7_areDifferentNames_58 (tgt := 65) (by decide) (by omega) (by omega) (fun c9 => ?_) (fun c9 => ?_)
            · skip
              refine m_iconst h dX7_areDifferentNames_65 ?_
              refine m_zret h hR rfl dX7_areDifferentNames_66 (by omega) ?_
              refine ⟨rfl, ?_⟩
              unfold isNm
              change bz _ ((1 ≤ k → 0 ≤ a ∧ a < v.1 1 0) ∧ (2 ≤ k → (0 ≤ b ∧ b < v.1 1 0) ∧ b ≠ a) ∧ (3 ≤ k → (0 ≤ c ∧ c < v.1 1 0) ∧ c ≠ a ∧ c ≠ b))
              exact bz0 (by omega)
            · skip
              refine m_iconst h dX7_areDifferentNames_61 ?_
              refine m_goto h dX7_areDifferentNames_62 (tgt := 66) (by decide) ?_
              refine m_zret h hR rfl dX7_areDifferentNames_66 (by omega) ?_
              refine ⟨rfl, ?_⟩
              unfold isNm
              change bz _ ((1 ≤ k → 0 ≤ a ∧ a < v.1 1 0) ∧ (2 ≤ k → (0 ≤ b ∧ b < v.1 1 0) ∧ b ≠ a) ∧ (3 ≤ k → (0 ≤ c ∧ c < v.1 1 0) ∧ c ≠ a ∧ c ≠ b))
              exact bz1 (by omega)
    · skip
      refine m_aload_n h dX7_areDifferentNames_20 rfl rfl ?_
      refine m_iload_n h dX7_areDifferentNames_21 rfl rfl ?_
      refine m_vI h (c_isName _ hG _ b (by omega) (by omega)) moX7_isName voX7_isName lk_X7_63 dX7_areDifferentNames_22 (by decide) (by decide) rfl rfl rfl (Nat.le_of_ble_eq_true rfl) (fun r10 u11 p12 => ?_)
      obtain ⟨hu9, hb2⟩ := p12
      rw [hu9]
      have hb2i := hb2.in
      unfold bz at hb2
      refine m_if_eq h dX7_areDifferentNames_25 (tgt := 33) (by decide) (by omega) (fun c13 => ?_) (fun c13 => ?_)
      · skip
        refine m_iconst h dX7_areDifferentNames_33 ?_
        refine m_zret h hR rfl dX7_areDifferentNames_34 (by omega) ?_
        refine ⟨rfl, ?_⟩
        unfold isNm
        change bz _ ((1 ≤ k → 0 ≤ a ∧ a < v.1 1 0) ∧ (2 ≤ k → (0 ≤ b ∧ b < v.1 1 0) ∧ b ≠ a) ∧ (3 ≤ k → (0 ≤ c ∧ c < v.1 1 0) ∧ c ≠ a ∧ c ≠ b))
        exact bz0 (by omega)
      · skip
        refine m_iload_n h dX7_areDifferentNames_28 rfl rfl ?_
        refine m_iload_n h dX7_areDifferentNames_29 rfl rfl ?_
        refine m_icmp_ne h dX7_areDifferentNames_30 (tgt := 35) (by decide) (by omega) (by omega) (fun c14 => ?_) (fun c14 => ?_)
        · skip
          refine m_iload_n h dX7_areDifferentNames_35 rfl rfl ?_
          refine m_iconst h dX7_areDifferentNames_36 ?_
          refine m_icmp_lt h dX7_areDifferentNames_37 (tgt := 61) (by decide) (by omega) (by omega) (fun c15 => ?_) (fun c15 => ?_)
          · skip
            refine m_iconst h dX7_areDifferentNames_61 ?_
            refine m_goto h dX7_areDifferentNames_62 (tgt := 66) (by decide) ?_
            refine m_zret h hR rfl dX7_areDifferentNames_66 (by omega) ?_
            refine ⟨rfl, ?_⟩
            unfold isNm
            change bz _ ((1 ≤ k → 0 ≤ a ∧ a < v.1 1 0) ∧ (2 ≤ k → (0 ≤ b ∧ b < v.1 1 0) ∧ b ≠ a) ∧ (3 ≤ k → (0 ≤ c ∧ c < v.1 1 0) ∧ c ≠ a ∧ c ≠ b))
            exact bz1 (by omega)
          · skip
            refine m_aload_n h dX7_areDifferentNames_40 rfl rfl ?_
            refine m_iload h dX7_areDifferentNames_41 rfl ?_
            refine m_vI h (c_isName _ hG _ c (by omega) (by omega)) moX7_isName voX7_isName lk_X7_63 dX7_areDifferentNames_43 (by decide) (by decide) rfl rfl rfl (Nat.le_of_ble_eq_true rfl) (fun r16 u17 p18 => ?_)
            obtain ⟨hu9, hb3⟩ := p18
            rw [hu9]
            have hb3i := hb3.in
            unfold bz at hb3
            refine m_if_eq h dX7_areDifferentNames_46 (tgt := 65) (by decide) (by omega) (fun c19 => ?_) (fun c19 => ?_)
            · skip
              refine m_iconst h dX7_areDifferentNames_65 ?_
              refine m_zret h hR rfl dX7_areDifferentNames_66 (by omega) ?_
              refine ⟨rfl, ?_⟩
              unfold isNm
              change bz _ ((1 ≤ k → 0 ≤ a ∧ a < v.1 1 0) ∧ (2 ≤ k → (0 ≤ b ∧ b < v.1 1 0) ∧ b ≠ a) ∧ (3 ≤ k → (0 ≤ c ∧ c < v.1 1 0) ∧ c ≠ a ∧ c ≠ b))
              exact bz0 (by omega)
            · skip
              refine m_iload h dX7_areDifferentNames_49 rfl ?_
              refine m_iload_n h dX7_areDifferentNames_51 rfl rfl ?_
              refine m_icmp_eq h dX7_areDifferentNames_52 (tgt := 65) (by decide) (by omega) (by omega) (fun c20 => ?_) (fun c20 => ?_)
              · skip
                refine m_iconst h dX7_areDifferentNames_65 ?_
                refine m_zret h hR rfl dX7_areDifferentNames_66 (by omega) ?_
                refine ⟨rfl, ?_⟩
                unfold isNm
                change bz _ ((1 ≤ k → 0 ≤ a ∧ a < v.1 1 0) ∧ (2 ≤ k → (0 ≤ b ∧ b < v.1 1 0) ∧ b ≠ a) ∧ (3 ≤ k → (0 ≤ c ∧ c < v.1 1 0) ∧ c ≠ a ∧ c ≠ b))
                exact bz0 (by omega)
              · skip
                refine m_iload h dX7_areDifferentNames_55 rfl ?_
                refine m_iload_n h dX7_areDifferentNames_57 rfl rfl ?_
                refine m_icmp_eq h dX7_areDifferentNames_58 (tgt := 65) (by decide) (by omega) (by omega) (fun c21 => ?_) (fun c21 => ?_)
                · skip
                  refine m_iconst h dX7_areDifferentNames_65 ?_
                  refine m_zret h hR rfl dX7_areDifferentNames_66 (by omega) ?_
                  refine ⟨rfl, ?_⟩
                  unfold isNm
                  change bz _ ((1 ≤ k → 0 ≤ a ∧ a < v.1 1 0) ∧ (2 ≤ k → (0 ≤ b ∧ b < v.1 1 0) ∧ b ≠ a) ∧ (3 ≤ k → (0 ≤ c ∧ c < v.1 1 0) ∧ c ≠ a ∧ c ≠ b))
                  exact bz0 (by omega)
                · skip
                  refine m_iconst h dX7_areDifferentNames_61 ?_
                  refine m_goto h dX7_areDifferentNames_62 (tgt := 66) (by decide) ?_
                  refine m_zret h hR rfl dX7_areDifferentNames_66 (by omega) ?_
                  refine ⟨rfl, ?_⟩
                  unfold isNm
                  change bz _ ((1 ≤ k → 0 ≤ a ∧ a < v.1 1 0) ∧ (2 ≤ k → (0 ≤ b ∧ b < v.1 1 0) ∧ b ≠ a) ∧ (3 ≤ k → (0 ≤ c ∧ c < v.1 1 0) ∧ c ≠ a ∧ c ≠ b))
                  exact bz1 (by omega)
        · skip
          refine m_iconst h dX7_areDifferentNames_33 ?_
          refine m_zret h hR rfl dX7_areDifferentNames_34 (by omega) ?_
          refine ⟨rfl, ?_⟩
          unfold isNm
          change bz _ ((1 ≤ k → 0 ≤ a ∧ a < v.1 1 0) ∧ (2 ≤ k → (0 ≤ b ∧ b < v.1 1 0) ∧ b ≠ a) ∧ (3 ≤ k → (0 ≤ c ∧ c < v.1 1 0) ∧ c ≠ a ∧ c ≠ b))
          exact bz0 (by omega)
  · skip
    refine m_aload_n h dX7_areDifferentNames_5 rfl rfl ?_
    refine m_iload_n h dX7_areDifferentNames_6 rfl rfl ?_
    refine m_vI h (c_isName _ hG _ a (by omega) (by omega)) moX7_isName voX7_isName lk_X7_63 dX7_areDifferentNames_7 (by decide) (by decide) rfl rfl rfl (Nat.le_of_ble_eq_true rfl) (fun r22 u23 p24 => ?_)
    obtain ⟨hu9, hb1⟩ := p24
    rw [hu9]
    have hb1i := hb1.in
    unfold bz at hb1
    refine m_if_ne h dX7_areDifferentNames_10 (tgt := 15) (by decide) (by omega) (fun c25 => ?_) (fun c25 => ?_)
    · skip
      refine m_iload_n h dX7_areDifferentNames_15 rfl rfl ?_
      refine m_iconst h dX7_areDifferentNames_16 ?_
      refine m_icmp_lt h dX7_areDifferentNames_17 (tgt := 35) (by decide) (by omega) (by omega) (fun c26 => ?_) (fun c26 => ?_)
      · skip
        refine m_iload_n h dX7_areDifferentNames_35 rfl rfl ?_
        refine m_iconst h dX7_areDifferentNames_36 ?_
        refine m_icmp_lt h dX7_areDifferentNames_37 (tgt := 61) (by decide) (by omega) (by omega) (fun c27 => ?_) (fun c27 => ?_)
        · skip
          refine m_iconst h dX7_areDifferentNames_61 ?_
          refine m_goto h dX7_areDifferentNames_62 (tgt := 66) (by decide) ?_
          refine m_zret h hR rfl dX7_areDifferentNames_66 (by omega) ?_
          refine ⟨rfl, ?_⟩
          unfold isNm
          change bz _ ((1 ≤ k → 0 ≤ a ∧ a < v.1 1 0) ∧ (2 ≤ k → (0 ≤ b ∧ b < v.1 1 0) ∧ b ≠ a) ∧ (3 ≤ k → (0 ≤ c ∧ c < v.1 1 0) ∧ c ≠ a ∧ c ≠ b))
          exact bz1 (by omega)
        · skip
          refine m_aload_n h dX7_areDifferentNames_40 rfl rfl ?_
          refine m_iload h dX7_areDifferentNames_41 rfl ?_
          refine m_vI h (c_isName _ hG _ c (by omega) (by omega)) moX7_isName voX7_isName lk_X7_63 dX7_areDifferentNames_43 (by decide) (by decide) rfl rfl rfl (Nat.le_of_ble_eq_true rfl) (fun r28 u29 p30 => ?_)
          obtain ⟨hu9, hb3⟩ := p30
          rw [hu9]
          have hb3i := hb3.in
          unfold bz at hb3
          refine m_if_eq h dX7_areDifferentNames_46 (tgt := 65) (by decide) (by omega) (fun c31 => ?_) (fun c31 => ?_)
          · skip
            refine m_iconst h dX7_areDifferentNames_65 ?_
            refine m_zret h hR rfl dX7_areDifferentNames_66 (by omega) ?_
            refine ⟨rfl, ?_⟩
            unfold isNm
            change bz _ ((1 ≤ k → 0 ≤ a ∧ a < v.1 1 0) ∧ (2 ≤ k → (0 ≤ b ∧ b < v.1 1 0) ∧ b ≠ a) ∧ (3 ≤ k → (0 ≤ c ∧ c < v.1 1 0) ∧ c ≠ a ∧ c ≠ b))
            exact bz0 (by omega)
          · skip
            refine m_iload h dX7_areDifferentNames_49 rfl ?_
            refine m_iload_n h dX7_areDifferentNames_51 rfl rfl ?_
            refine m_icmp_eq h dX7_areDifferentNames_52 (tgt := 65) (by decide) (by omega) (by omega) (fun c32 => ?_) (fun c32 => ?_)
            · skip
              refine m_iconst h dX7_areDifferentNames_65 ?_
              refine m_zret h hR rfl dX7_areDifferentNames_66 (by omega) ?_
              refine ⟨rfl, ?_⟩
              unfold isNm
              change bz _ ((1 ≤ k → 0 ≤ a ∧ a < v.1 1 0) ∧ (2 ≤ k → (0 ≤ b ∧ b < v.1 1 0) ∧ b ≠ a) ∧ (3 ≤ k → (0 ≤ c ∧ c < v.1 1 0) ∧ c ≠ a ∧ c ≠ b))
              exact bz0 (by omega)
            · skip
              refine m_iload h dX7_areDifferentNames_55 rfl ?_
              refine m_iload_n h dX7_areDifferentNames_57 rfl rfl ?_
              refine m_icmp_eq h dX7_areDifferentNames_58 (tgt := 65) (by decide) (by omega) (by omega) (fun c33 => ?_) (fun c33 => ?_)
              · skip
                refine m_iconst h dX7_areDifferentNames_65 ?_
                refine m_zret h hR rfl dX7_areDifferentNames_66 (by omega) ?_
                refine ⟨rfl, ?_⟩
                unfold isNm
                change bz _ ((1 ≤ k → 0 ≤ a ∧ a < v.1 1 0) ∧ (2 ≤ k → (0 ≤ b ∧ b < v.1 1 0) ∧ b ≠ a) ∧ (3 ≤ k → (0 ≤ c ∧ c < v.1 1 0) ∧ c ≠ a ∧ c ≠ b))
                exact bz0 (by omega)
              · skip
                refine m_iconst h dX7_areDifferentNames_61 ?_
                refine m_goto h dX7_areDifferentNames_62 (tgt := 66) (by decide) ?_
                refine m_zret h hR rfl dX7_areDifferentNames_66 (by omega) ?_
                refine ⟨rfl, ?_⟩
                unfold isNm
                change bz _ ((1 ≤ k → 0 ≤ a ∧ a < v.1 1 0) ∧ (2 ≤ k → (0 ≤ b ∧ b < v.1 1 0) ∧ b ≠ a) ∧ (3 ≤ k → (0 ≤ c ∧ c < v.1 1 0) ∧ c ≠ a ∧ c ≠ b))
                exact bz1 (by omega)
      · skip
        refine m_aload_n h dX7_areDifferentNames_20 rfl rfl ?_
        refine m_iload_n h dX7_areDifferentNames_21 rfl rfl ?_
        refine m_vI h (c_isName _ hG _ b (by omega) (by omega)) moX7_isName voX7_isName lk_X7_63 dX7_areDifferentNames_22 (by decide) (by decide) rfl rfl rfl (Nat.le_of_ble_eq_true rfl) (fun r34 u35 p36 => ?_)
        obtain ⟨hu9, hb2⟩ := p36
        rw [hu9]
        have hb2i := hb2.in
        unfold bz at hb2
        refine m_if_eq h dX7_areDifferentNames_25 (tgt := 33) (by decide) (by omega) (fun c37 => ?_) (fun c37 => ?_)
        · skip
          refine m_iconst h dX7_areDifferentNames_33 ?_
          refine m_zret h hR rfl dX7_areDifferentNames_34 (by omega) ?_
          refine ⟨rfl, ?_⟩
          unfold isNm
          change bz _ ((1 ≤ k → 0 ≤ a ∧ a < v.1 1 0) ∧ (2 ≤ k → (0 ≤ b ∧ b < v.1 1 0) ∧ b ≠ a) ∧ (3 ≤ k → (0 ≤ c ∧ c < v.1 1 0) ∧ c ≠ a ∧ c ≠ b))
          exact bz0 (by omega)
        · skip
          refine m_iload_n h dX7_areDifferentNames_28 rfl rfl ?_
          refine m_iload_n h dX7_areDifferentNames_29 rfl rfl ?_
          refine m_icmp_ne h dX7_areDifferentNames_30 (tgt := 35) (by decide) (by omega) (by omega) (fun c38 => ?_) (fun c38 => ?_)
          · skip
            refine m_iload_n h dX7_areDifferentNames_35 rfl rfl ?_
            refine m_iconst h dX7_areDifferentNames_36 ?_
            refine m_icmp_lt h dX7_areDifferentNames_37 (tgt := 61) (by decide) (by omega) (by omega) (fun c39 => ?_) (fun c39 => ?_)
            · skip
              refine m_iconst h dX7_areDifferentNames_61 ?_
              refine m_goto h dX7_areDifferentNames_62 (tgt := 66) (by decide) ?_
              refine m_zret h hR rfl dX7_areDifferentNames_66 (by omega) ?_
              refine ⟨rfl, ?_⟩
              unfold isNm
              change bz _ ((1 ≤ k → 0 ≤ a ∧ a < v.1 1 0) ∧ (2 ≤ k → (0 ≤ b ∧ b < v.1 1 0) ∧ b ≠ a) ∧ (3 ≤ k → (0 ≤ c ∧ c < v.1 1 0) ∧ c ≠ a ∧ c ≠ b))
              exact bz1 (by omega)
            · skip
              refine m_aload_n h dX7_areDifferentNames_40 rfl rfl ?_
              refine m_iload h dX7_areDifferentNames_41 rfl ?_
              refine m_vI h (c_isName _ hG _ c (by omega) (by omega)) moX7_isName voX7_isName lk_X7_63 dX7_areDifferentNames_43 (by decide) (by decide) rfl rfl rfl (Nat.le_of_ble_eq_true rfl) (fun r40 u41 p42 => ?_)
              obtain ⟨hu9, hb3⟩ := p42
              rw [hu9]
              have hb3i := hb3.in
              unfold bz at hb3
              refine m_if_eq h dX7_areDifferentNames_46 (tgt := 65) (by decide) (by omega) (fun c43 => ?_) (fun c43 => ?_)
              · skip
                refine m_iconst h dX7_areDifferentNames_65 ?_
                refine m_zret h hR rfl dX7_areDifferentNames_66 (by omega) ?_
                refine ⟨rfl, ?_⟩
                unfold isNm
                change bz _ ((1 ≤ k → 0 ≤ a ∧ a < v.1 1 0) ∧ (2 ≤ k → (0 ≤ b ∧ b < v.1 1 0) ∧ b ≠ a) ∧ (3 ≤ k → (0 ≤ c ∧ c < v.1 1 0) ∧ c ≠ a ∧ c ≠ b))
                exact bz0 (by omega)
              · skip
                refine m_iload h dX7_areDifferentNames_49 rfl ?_
                refine m_iload_n h dX7_areDifferentNames_51 rfl rfl ?_
                refine m_icmp_eq h dX7_areDifferentNames_52 (tgt := 65) (by decide) (by omega) (by omega) (fun c44 => ?_) (fun c44 => ?_)
                · skip
                  refine m_iconst h dX7_areDifferentNames_65 ?_
                  refine m_zret h hR rfl dX7_areDifferentNames_66 (by omega) ?_
                  refine ⟨rfl, ?_⟩
                  unfold isNm
                  change bz _ ((1 ≤ k → 0 ≤ a ∧ a < v.1 1 0) ∧ (2 ≤ k → (0 ≤ b ∧ b < v.1 1 0) ∧ b ≠ a) ∧ (3 ≤ k → (0 ≤ c ∧ c < v.1 1 0) ∧ c ≠ a ∧ c ≠ b))
                  exact bz0 (by omega)
                · skip
                  refine m_iload h dX7_areDifferentNames_55 rfl ?_
                  refine m_iload_n h dX7_areDifferentNames_57 rfl rfl ?_
                  refine m_icmp_eq h dX7_areDifferentNames_58 (tgt := 65) (by decide) (by omega) (by omega) (fun c45 => ?_) (fun c45 => ?_)
                  · skip
                    refine m_iconst h dX7_areDifferentNames_65 ?_
                    refine m_zret h hR rfl dX7_areDifferentNames_66 (by omega) ?_
                    refine ⟨rfl, ?_⟩
                    unfold isNm
                    change bz _ ((1 ≤ k → 0 ≤ a ∧ a < v.1 1 0) ∧ (2 ≤ k → (0 ≤ b ∧ b < v.1 1 0) ∧ b ≠ a) ∧ (3 ≤ k → (0 ≤ c ∧ c < v.1 1 0) ∧ c ≠ a ∧ c ≠ b))
                    exact bz0 (by omega)
                  · skip
                    refine m_iconst h dX7_areDifferentNames_61 ?_
                    refine m_goto h dX7_areDifferentNames_62 (tgt := 66) (by decide) ?_
                    refine m_zret h hR rfl dX7_areDifferentNames_66 (by omega) ?_
                    refine ⟨rfl, ?_⟩
                    unfold isNm
                    change bz _ ((1 ≤ k → 0 ≤ a ∧ a < v.1 1 0) ∧ (2 ≤ k → (0 ≤ b ∧ b < v.1 1 0) ∧ b ≠ a) ∧ (3 ≤ k → (0 ≤ c ∧ c < v.1 1 0) ∧ c ≠ a ∧ c ≠ b))
                    exact bz1 (by omega)
          · skip
            refine m_iconst h dX7_areDifferentNames_33 ?_
            refine m_zret h hR rfl dX7_areDifferentNames_34 (by omega) ?_
            refine ⟨rfl, ?_⟩
            unfold isNm
            change bz _ ((1 ≤ k → 0 ≤ a ∧ a < v.1 1 0) ∧ (2 ≤ k → (0 ≤ b ∧ b < v.1 1 0) ∧ b ≠ a) ∧ (3 ≤ k → (0 ≤ c ∧ c < v.1 1 0) ∧ c ≠ a ∧ c ≠ b))
            exact bz0 (by omega)
    · skip
      refine m_iconst h dX7_areDifferentNames_13 ?_
      refine m_zret h hR rfl dX7_areDifferentNames_14 (by omega) ?_
      refine ⟨rfl, ?_⟩
      unfold isNm
      change bz _ ((1 ≤ k → 0 ≤ a ∧ a < v.1 1 0) ∧ (2 ≤ k → (0 ≤ b ∧ b < v.1 1 0) ∧ b ≠ a) ∧ (3 ≤ k → (0 ≤ c ∧ c < v.1 1 0) ∧ c ≠ a ∧ c ≠ b))
      exact bz0 (by omega)

set_option maxRecDepth 100000 in
set_option maxHeartbeats 4000000 in
theorem c_row (l : Launch) {G : GT} (hG : gok G) (v : Mem) (hC : OKC v) (kd : Int) (hkd : -2147483648 ≤ kd ∧ kd ≤ 2147483647) (a : Int) (ha : -2147483648 ≤ a ∧ a ≤ 2147483647) (b : Int) (hb : -2147483648 ≤ b ∧ b ≤ 2147483647) (c : Int) (hc : -2147483648 ≤ c ∧ c ≤ 2147483647) (R : Int) (hR : -2147483648 ≤ R ∧ R ≤ 2147483647) : CCz l G nX7_row 4 [.ref (G.2.1 0), .int (iI kd), .int (iI a), .int (iI b), .int (iI c), .int (iI R)] v (qI G (fun r u => (¬ RwGood (gC v) kd a b c R ∧ r = -1001 ∧ u = v) ∨ (RwGood (gC v) kd a b c R ∧ ((g_r (gC v) = 12 ∧ r = -1003 ∧ u = v) ∨ (g_r (gC v) < 12 ∧ r = g_r (gC v) ∧ gC u = rwG (gC v) kd (if 1 ≤ NKs kd then a else -1) (if 2 ≤ NKs kd then b else -1) (if 3 ≤ NKs kd then c else -1) R ∧ tC u = anT (rwG (gC v) kd (if 1 ≤ NKs kd then a else -1) (if 2 ≤ NKs kd then b else -1) (if 3 ≤ NKs kd then c else -1) R) (tC v) ∧ OKC u ∧ Fr8 v u))))) := by
  refine m_startZ (lv := [some (.ref (G.2.1 0)), some (.int (iI kd)), some (.int (iI a)), some (.int (iI b)), some (.int (iI c)), some (.int (iI R)), none, none]) hG (by decide +kernel) rfl (Nat.le_of_ble_eq_true rfl) ?_
  intro X hZs hL h hR
  obtain ⟨ts, hZ⟩ := hZs
  subst hL
  obtain ⟨⟨hI, hJ, hK, hNE⟩, hW, hX⟩ := id hC
  have hc8 := hI.1
  have hc12 := hI.2.1
  have hnk : NKs kd = 0 ∨ NKs kd = 1 ∨ NKs kd = 2 ∨ NKs kd = 3 := by unfold NKs; (repeat' split) <;> omega
  show M X G 8 v 0 [some (.ref (G.2.1 0)), some (.int (iI kd)), some (.int (iI a)), some (.int (iI b)), some (.int (iI c)), some (.int (iI R)), none, none] []
  refine m_iload_n h dX7_row_0 rfl rfl ?_
  refine m_if_lt h dX7_row_1 (tgt := 28) (by decide) (by omega) (fun c1 => ?_) (fun c1 => ?_)
  · skip
    refine m_sipush h dX7_row_28 (by decide) ?_
    refine m_iret h hR rfl dX7_row_31 ?_
    refine Or.inl ⟨fun q => ?_, rfl, rfl⟩
    obtain ⟨q1, q2, -⟩ := q
    omega
  · skip
    refine m_iload_n h dX7_row_4 rfl rfl ?_
    refine m_gets h hZ.1 nk_link dX7_row_5 ?_
    refine m_tlen h hZ.2 dX7_row_8 ?_
    refine m_icmp_ge h dX7_row_9 (tgt := 28) (by decide) (by omega) (by omega) (fun c2 => ?_) (fun c2 => ?_)
    · skip
      refine m_sipush h dX7_row_28 (by decide) ?_
      refine m_iret h hR rfl dX7_row_31 ?_
      refine Or.inl ⟨fun q => ?_, rfl, rfl⟩
      obtain ⟨q1, q2, -⟩ := q
      omega
    · skip
      refine m_iload h dX7_row_12 rfl ?_
      refine m_sipush h dX7_row_14 (by decide) ?_
      refine m_icmp_lt h dX7_row_17 (tgt := 28) (by decide) (by omega) (by omega) (fun c3 => ?_) (fun c3 => ?_)
      · skip
        refine m_sipush h dX7_row_28 (by decide) ?_
        refine m_iret h hR rfl dX7_row_31 ?_
        refine Or.inl ⟨fun q => ?_, rfl, rfl⟩
        obtain ⟨q1, q2, -⟩ := q
        omega
      · skip
        refine m_iload h dX7_row_20 rfl ?_
        refine m_sipush h dX7_row_22 (by decide) ?_
        refine m_icmp_le h dX7_row_25 (tgt := 32) (by decide) (by omega) (by omega) (fun c4 => ?_) (fun c4 => ?_)
        · skip
          refine m_gets h hZ.1 nk_link dX7_row_32 ?_
          refine m_iload_n h dX7_row_35 rfl rfl ?_
          refine m_tald h hZ.2 (by omega) dX7_row_36 ?_
          refine m_istore h dX7_row_37 (by decide) rfl ?_
          refine m_aload_n h dX7_row_39 rfl rfl ?_
          refine m_iload h dX7_row_40 rfl ?_
          refine m_iload_n h dX7_row_42 rfl rfl ?_
          refine m_iload_n h dX7_row_43 rfl rfl ?_
          refine m_iload h dX7_row_44 rfl ?_
          refine m_vI h (c_areDiff _ hG _ hC (NKs kd) (by omega) a ha b hb c hc) moX7_areDifferentNames voX7_areDifferentNames lk_X7_85 dX7_row_46 (by decide) (by decide) rfl rfl rfl (Nat.le_of_ble_eq_true rfl) (fun r5 u6 p7 => ?_)
          obtain ⟨hu9, hb1⟩ := p7
          rw [hu9]
          have hb1i := hb1.in
          refine m_if_ne h dX7_row_49 (tgt := 56) (by decide) (by omega) (fun c8 => ?_) (fun c8 => ?_)
          · skip
            have hd := hb1.yes (by omega)
            have hgd : RwGood (gC v) kd a b c R := ⟨by omega, by omega, hd⟩
            refine m_aload_n h dX7_row_56 rfl rfl ?_
            refine m_get h fo_X7_19 (by decide) rfl rfl dX7_row_57 ?_
            refine m_get h fo_X7_89 (by decide) rfl rfl dX7_row_60 ?_
            refine m_bipush h dX7_row_63 (by decide) ?_
            refine m_icmp_lt h dX7_row_65 (tgt := 72) (by decide) (by omega) (by omega) (fun c9 => ?_) (fun c9 => ?_)
            · skip
              obtain ⟨rn, hrn0⟩ : ∃ rn : Nat, v.1 10 0 = (rn : Int) := ⟨(v.1 10 0).toNat, by omega⟩
              have hrn : rn < 12 := by omega
              refine m_aload_n h dX7_row_72 rfl rfl ?_
              refine m_get h fo_X7_19 (by decide) rfl rfl dX7_row_73 ?_
              refine m_get h fo_X7_90 (by decide) rfl rfl dX7_row_76 ?_
              refine m_aload_n h dX7_row_79 rfl rfl ?_
              refine m_get h fo_X7_19 (by decide) rfl rfl dX7_row_80 ?_
              refine m_get h fo_X7_89 (by decide) rfl rfl dX7_row_83 ?_
              refine m_aald h rn hrn0 hrn dX7_row_86 ?_
              refine m_astore h dX7_row_87 (by decide) rfl ?_
              refine m_aload h dX7_row_89 rfl ?_
              refine m_iload_n h dX7_row_91 rfl rfl ?_
              refine m_iload h dX7_row_92 rfl ?_
              refine m_vV h (c_become _ hG _ hrn kd R) moX1_become voX1_become lk_X7_94 dX7_row_94 (by decide) (by omega) (cE_row G _ hrn) rfl rfl (Nat.le_of_ble_eq_true rfl) (fun u11 p12 => ?_)
              subst p12
              refine m_aload h dX7_row_97 rfl ?_
              refine m_iload h dX7_row_99 rfl ?_
              refine m_iconst h dX7_row_101 ?_
              refine m_icmp_lt h dX7_row_102 (tgt := 109) (by decide) (by omega) (by omega) (fun c13 => ?_) (fun c13 => ?_)
              · skip
                refine m_iconst h dX7_row_109 ?_
                refine m_iload h dX7_row_110 rfl ?_
                refine m_iconst h dX7_row_112 ?_
                refine m_icmp_lt h dX7_row_113 (tgt := 120) (by decide) (by omega) (by omega) (fun c14 => ?_) (fun c14 => ?_)
                · skip
                  refine m_iconst h dX7_row_120 ?_
                  refine m_iload h dX7_row_121 rfl ?_
                  refine m_iconst h dX7_row_123 ?_
                  refine m_icmp_lt h dX7_row_124 (tgt := 132) (by decide) (by omega) (by omega) (fun c15 => ?_) (fun c15 => ?_)
                  · skip
                    refine m_iconst h dX7_row_132 ?_
                    refine m_vV h (c_tie _ hG (zf (wI (wI v (40 + rn) 0 kd) (40 + rn) 4 R) (52 + rn) 8) hrn (-1) (-1) (-1)) moX1_tie voX1_tie lk_X7_99 dX7_row_133 (by decide) (by omega) (cE_row G _ hrn) rfl rfl (Nat.le_of_ble_eq_true rfl) (fun u17 p18 => ?_)
                    subst p18
                    have ht10 : (wI (wI (wI (zf (wI (wI v (40 + rn) 0 kd) (40 + rn) 4 R) (52 + rn) 8) (40 + rn) 1 (-1)) (40 + rn) 2 (-1)) (40 + rn) 3 (-1)).1 10 0 = v.1 10 0 := by
                      rw [wI_c (by omega), wI_c (by omega), wI_c (by omega)]
                      simp only [zf]
                      rw [if_neg (by omega), wI_c (by omega), wI_c (by omega)]
                    refine m_aload_n h dX7_row_136 rfl rfl ?_
                    refine m_get h fo_X7_19 (by decide) rfl rfl dX7_row_137 ?_
                    refine m_dup h dX7_row_140 rfl ?_
                    refine m_get h fo_X7_89 (by decide) rfl rfl dX7_row_141 ?_
                    show M X G 8 (wI (wI (wI (zf (wI (wI v (40 + rn) 0 kd) (40 + rn) 4 R) (52 + rn) 8) (40 + rn) 1 (-1)) (40 + rn) 2 (-1)) (40 + rn) 3 (-1)) 144 [some (.ref (G.2.1 0)), some (.int (iI kd)), some (.int (iI a)), some (.int (iI b)), some (.int (iI c)), some (.int (iI R)), some (.int (iI (NKs kd))), some (.ref (G.2.1 (40 + rn)))] [.int (iI ((wI (wI (wI (zf (wI (wI v (40 + rn) 0 kd) (40 + rn) 4 R) (52 + rn) 8) (40 + rn) 1 (-1)) (40 + rn) 2 (-1)) (40 + rn) 3 (-1)).1 10 0)), .ref (G.2.1 10)]
                    rw [ht10]
                    refine m_iconst h dX7_row_144 ?_
                    refine m_iadd h dX7_row_145 ?_
                    refine m_putJ h fw_X7_89 (by decide) rfl (Nat.le_of_ble_eq_true rfl) (kz := 0) rfl rfl dX7_row_146 ?_
                    refine m_aload_n h dX7_row_149 rfl rfl ?_
                    refine m_vV h (c_beginAnew _ hG _) moX7_beginAnew voX7_beginAnew lk_X7_60 dX7_row_150 (by decide) (by decide) rfl rfl rfl (Nat.le_of_ble_eq_true rfl) (fun u20 p21 => ?_)
                    subst p21
                    have hwe := row_C hC hrn0 hrn hgd rfl
                    have hweq : wI (wI (wI (wI (zf (wI (wI v (40 + rn) 0 kd) (40 + rn) 4 R) (52 + rn) 8) (40 + rn) 1 (if 1 ≤ NKs kd then a else -1)) (40 + rn) 2 (if 2 ≤ NKs kd then b else -1)) (40 + rn) 3 (if 3 ≤ NKs kd then c else -1)) 10 0 (v.1 10 0 + 1) = (wI (wI (wI (wI (zf (wI (wI v (40 + rn) 0 kd) (40 + rn) 4 R) (52 + rn) 8) (40 + rn) 1 (-1)) (40 + rn) 2 (-1)) (40 + rn) 3 (-1)) 10 0 ((v.1 10 0) + 1)) := by
                      first
                        | (rw [show (if 1 ≤ NKs kd then a else -1) = a by (split <;> omega), show (if 2 ≤ NKs kd then b else -1) = b by (split <;> omega), show (if 3 ≤ NKs kd then c else -1) = c by (split <;> omega)]; done)
                        | (rw [show (if 1 ≤ NKs kd then a else -1) = a by (split <;> omega), show (if 2 ≤ NKs kd then b else -1) = b by (split <;> omega), show (if 3 ≤ NKs kd then c else -1) = (-1) by (split <;> omega)]; done)
                        | (rw [show (if 1 ≤ NKs kd then a else -1) = a by (split <;> omega), show (if 2 ≤ NKs kd then b else -1) = (-1) by (split <;> omega), show (if 3 ≤ NKs kd then c else -1) = c by (split <;> omega)]; done)
                        | (rw [show (if 1 ≤ NKs kd then a else -1) = a by (split <;> omega), show (if 2 ≤ NKs kd then b else -1) = (-1) by (split <;> omega), show (if 3 ≤ NKs kd then c else -1) = (-1) by (split <;> omega)]; done)
                        | (rw [show (if 1 ≤ NKs kd then a else -1) = (-1) by (split <;> omega), show (if 2 ≤ NKs kd then b else -1) = b by (split <;> omega), show (if 3 ≤ NKs kd then c else -1) = c by (split <;> omega)]; done)
                        | (rw [show (if 1 ≤ NKs kd then a else -1) = (-1) by (split <;> omega), show (if 2 ≤ NKs kd then b else -1) = b by (split <;> omega), show (if 3 ≤ NKs kd then c else -1) = (-1) by (split <;> omega)]; done)
                        | (rw [show (if 1 ≤ NKs kd then a else -1) = (-1) by (split <;> omega), show (if 2 ≤ NKs kd then b else -1) = (-1) by (split <;> omega), show (if 3 ≤ NKs kd then c else -1) = c by (split <;> omega)]; done)
                        | (rw [show (if 1 ≤ NKs kd then a else -1) = (-1) by (split <;> omega), show (if 2 ≤ NKs kd then b else -1) = (-1) by (split <;> omega), show (if 3 ≤ NKs kd then c else -1) = (-1) by (split <;> omega)]; done)
                    rw [hweq] at hwe
                    have hcn : (bA (wI (wI (wI (wI (zf (wI (wI v (40 + rn) 0 kd) (40 + rn) 4 R) (52 + rn) 8) (40 + rn) 1 (-1)) (40 + rn) 2 (-1)) (40 + rn) 3 (-1)) 10 0 ((v.1 10 0) + 1))).1 10 0 = v.1 10 0 + 1 := congrArg g_r hwe.1
                    refine m_aload_n h dX7_row_153 rfl rfl ?_
                    refine m_get h fo_X7_19 (by decide) rfl rfl dX7_row_154 ?_
                    refine m_get h fo_X7_89 (by decide) rfl rfl dX7_row_157 ?_
                    show M X G 8 (bA (wI (wI (wI (wI (zf (wI (wI v (40 + rn) 0 kd) (40 + rn) 4 R) (52 + rn) 8) (40 + rn) 1 (-1)) (40 + rn) 2 (-1)) (40 + rn) 3 (-1)) 10 0 ((v.1 10 0) + 1))) 160 [some (.ref (G.2.1 0)), some (.int (iI kd)), some (.int (iI a)), some (.int (iI b)), some (.int (iI c)), some (.int (iI R)), some (.int (iI (NKs kd))), some (.ref (G.2.1 (40 + rn)))] [.int (iI ((bA (wI (wI (wI (wI (zf (wI (wI v (40 + rn) 0 kd) (40 + rn) 4 R) (52 + rn) 8) (40 + rn) 1 (-1)) (40 + rn) 2 (-1)) (40 + rn) 3 (-1)) 10 0 ((v.1 10 0) + 1))).1 10 0))]
                    rw [hcn]
                    refine m_iconst h dX7_row_160 ?_
                    refine m_isub h dX7_row_161 ?_
                    refine m_iret h hR rfl dX7_row_162 ?_
                    exact Or.inr ⟨hgd, Or.inr ⟨by show v.1 10 0 < 12; omega, by show v.1 10 0 + 1 - 1 = v.1 10 0; omega, hwe.1, hwe.2.1, hwe.2.2.1, hwe.2.2.2⟩⟩
                  · skip
                    refine m_iload h dX7_row_127 rfl ?_
                    refine m_goto h dX7_row_129 (tgt := 133) (by decide) ?_
                    refine m_vV h (c_tie _ hG (zf (wI (wI v (40 + rn) 0 kd) (40 + rn) 4 R) (52 + rn) 8) hrn (-1) (-1) c) moX1_tie voX1_tie lk_X7_99 dX7_row_133 (by decide) (by omega) (cE_row G _ hrn) rfl rfl (Nat.le_of_ble_eq_true rfl) (fun u23 p24 => ?_)
                    subst p24
                    have ht10 : (wI (wI (wI (zf (wI (wI v (40 + rn) 0 kd) (40 + rn) 4 R) (52 + rn) 8) (40 + rn) 1 (-1)) (40 + rn) 2 (-1)) (40 + rn) 3 c).1 10 0 = v.1 10 0 := by
                      rw [wI_c (by omega), wI_c (by omega), wI_c (by omega)]
                      simp only [zf]
                      rw [if_neg (by omega), wI_c (by omega), wI_c (by omega)]
                    refine m_aload_n h dX7_row_136 rfl rfl ?_
                    refine m_get h fo_X7_19 (by decide) rfl rfl dX7_row_137 ?_
                    refine m_dup h dX7_row_140 rfl ?_
                    refine m_get h fo_X7_89 (by decide) rfl rfl dX7_row_141 ?_
                    show M X G 8 (wI (wI (wI (zf (wI (wI v (40 + rn) 0 kd) (40 + rn) 4 R) (52 + rn) 8) (40 + rn) 1 (-1)) (40 + rn) 2 (-1)) (40 + rn) 3 c) 144 [some (.ref (G.2.1 0)), some (.int (iI kd)), some (.int (iI a)), some (.int (iI b)), some (.int (iI c)), some (.int (iI R)), some (.int (iI (NKs kd))), some (.ref (G.2.1 (40 + rn)))] [.int (iI ((wI (wI (wI (zf (wI (wI v (40 + rn) 0 kd) (40 + rn) 4 R) (52 + rn) 8) (40 + rn) 1 (-1)) (40 + rn) 2 (-1)) (40 + rn) 3 c).1 10 0)), .ref (G.2.1 10)]
                    rw [ht10]
                    refine m_iconst h dX7_row_144 ?_
                    refine m_iadd h dX7_row_145 ?_
                    refine m_putJ h fw_X7_89 (by decide) rfl (Nat.le_of_ble_eq_true rfl) (kz := 0) rfl rfl dX7_row_146 ?_
                    refine m_aload_n h dX7_row_149 rfl rfl ?_
                    refine m_vV h (c_beginAnew _ hG _) moX7_beginAnew voX7_beginAnew lk_X7_60 dX7_row_150 (by decide) (by decide) rfl rfl rfl (Nat.le_of_ble_eq_true rfl) (fun u26 p27 => ?_)
                    subst p27
                    have hwe := row_C hC hrn0 hrn hgd rfl
                    have hweq : wI (wI (wI (wI (zf (wI (wI v (40 + rn) 0 kd) (40 + rn) 4 R) (52 + rn) 8) (40 + rn) 1 (if 1 ≤ NKs kd then a else -1)) (40 + rn) 2 (if 2 ≤ NKs kd then b else -1)) (40 + rn) 3 (if 3 ≤ NKs kd then c else -1)) 10 0 (v.1 10 0 + 1) = (wI (wI (wI (wI (zf (wI (wI v (40 + rn) 0 kd) (40 + rn) 4 R) (52 + rn) 8) (40 + rn) 1 (-1)) (40 + rn) 2 (-1)) (40 + rn) 3 c) 10 0 ((v.1 10 0) + 1)) := by
                      first
                        | (rw [show (if 1 ≤ NKs kd then a else -1) = a by (split <;> omega), show (if 2 ≤ NKs kd then b else -1) = b by (split <;> omega), show (if 3 ≤ NKs kd then c else -1) = c by (split <;> omega)]; done)
                        | (rw [show (if 1 ≤ NKs kd then a else -1) = a by (split <;> omega), show (if 2 ≤ NKs kd then b else -1) = b by (split <;> omega), show (if 3 ≤ NKs kd then c else -1) = (-1) by (split <;> omega)]; done)
                        | (rw [show (if 1 ≤ NKs kd then a else -1) = a by (split <;> omega), show (if 2 ≤ NKs kd then b else -1) = (-1) by (split <;> omega), show (if 3 ≤ NKs kd then c else -1) = c by (split <;> omega)]; done)
                        | (rw [show (if 1 ≤ NKs kd then a else -1) = a by (split <;> omega), show (if 2 ≤ NKs kd then b else -1) = (-1) by (split <;> omega), show (if 3 ≤ NKs kd then c else -1) = (-1) by (split <;> omega)]; done)
                        | (rw [show (if 1 ≤ NKs kd then a else -1) = (-1) by (split <;> omega), show (if 2 ≤ NKs kd then b else -1) = b by (split <;> omega), show (if 3 ≤ NKs kd then c else -1) = c by (split <;> omega)]; done)
                        | (rw [show (if 1 ≤ NKs kd then a else -1) = (-1) by (split <;> omega), show (if 2 ≤ NKs kd then b else -1) = b by (split <;> omega), show (if 3 ≤ NKs kd then c else -1) = (-1) by (split <;> omega)]; done)
                        | (rw [show (if 1 ≤ NKs kd then a else -1) = (-1) by (split <;> omega), show (if 2 ≤ NKs kd then b else -1) = (-1) by (split <;> omega), show (if 3 ≤ NKs kd then c else -1) = c by (split <;> omega)]; done)
                        | (rw [show (if 1 ≤ NKs kd then a else -1) = (-1) by (split <;> omega), show (if 2 ≤ NKs kd then b else -1) = (-1) by (split <;> omega), show (if 3 ≤ NKs kd then c else -1) = (-1) by (split <;> omega)]; done)
                    rw [hweq] at hwe
                    have hcn : (bA (wI (wI (wI (wI (zf (wI (wI v (40 + rn) 0 kd) (40 + rn) 4 R) (52 + rn) 8) (40 + rn) 1 (-1)) (40 + rn) 2 (-1)) (40 + rn) 3 c) 10 0 ((v.1 10 0) + 1))).1 10 0 = v.1 10 0 + 1 := congrArg g_r hwe.1
                    refine m_aload_n h dX7_row_153 rfl rfl ?_
                    refine m_get h fo_X7_19 (by decide) rfl rfl dX7_row_154 ?_
                    refine m_get h fo_X7_89 (by decide) rfl rfl dX7_row_157 ?_
                    show M X G 8 (bA (wI (wI (wI (wI (zf (wI (wI v (40 + rn) 0 kd) (40 + rn) 4 R) (52 + rn) 8) (40 + rn) 1 (-1)) (40 + rn) 2 (-1)) (40 + rn) 3 c) 10 0 ((v.1 10 0) + 1))) 160 [some (.ref (G.2.1 0)), some (.int (iI kd)), some (.int (iI a)), some (.int (iI b)), some (.int (iI c)), some (.int (iI R)), some (.int (iI (NKs kd))), some (.ref (G.2.1 (40 + rn)))] [.int (iI ((bA (wI (wI (wI (wI (zf (wI (wI v (40 + rn) 0 kd) (40 + rn) 4 R) (52 + rn) 8) (40 + rn) 1 (-1)) (40 + rn) 2 (-1)) (40 + rn) 3 c) 10 0 ((v.1 10 0) + 1))).1 10 0))]
                    rw [hcn]
                    refine m_iconst h dX7_row_160 ?_
                    refine m_isub h dX7_row_161 ?_
                    refine m_iret h hR rfl dX7_row_162 ?_
                    exact Or.inr ⟨hgd, Or.inr ⟨by show v.1 10 0 < 12; omega, by show v.1 10 0 + 1 - 1 = v.1 10 0; omega, hwe.1, hwe.2.1, hwe.2.2.1, hwe.2.2.2⟩⟩
                · skip
                  refine m_iload_n h dX7_row_116 rfl rfl ?_
                  refine m_goto h dX7_row_117 (tgt := 121) (by decide) ?_
                  refine m_iload h dX7_row_121 rfl ?_
                  refine m_iconst h dX7_row_123 ?_
                  refine m_icmp_lt h dX7_row_124 (tgt := 132) (by decide) (by omega) (by omega) (fun c28 => ?_) (fun c28 => ?_)
                  · skip
                    refine m_iconst h dX7_row_132 ?_
                    refine m_vV h (c_tie _ hG (zf (wI (wI v (40 + rn) 0 kd) (40 + rn) 4 R) (52 + rn) 8) hrn (-1) b (-1)) moX1_tie voX1_tie lk_X7_99 dX7_row_133 (by decide) (by omega) (cE_row G _ hrn) rfl rfl (Nat.le_of_ble_eq_true rfl) (fun u30 p31 => ?_)
                    subst p31
                    have ht10 : (wI (wI (wI (zf (wI (wI v (40 + rn) 0 kd) (40 + rn) 4 R) (52 + rn) 8) (40 + rn) 1 (-1)) (40 + rn) 2 b) (40 + rn) 3 (-1)).1 10 0 = v.1 10 0 := by
                      rw [wI_c (by omega), wI_c (by omega), wI_c (by omega)]
                      simp only [zf]
                      rw [if_neg (by omega), wI_c (by omega), wI_c (by omega)]
                    refine m_aload_n h dX7_row_136 rfl rfl ?_
                    refine m_get h fo_X7_19 (by decide) rfl rfl dX7_row_137 ?_
                    refine m_dup h dX7_row_140 rfl ?_
                    refine m_get h fo_X7_89 (by decide) rfl rfl dX7_row_141 ?_
                    show M X G 8 (wI (wI (wI (zf (wI (wI v (40 + rn) 0 kd) (40 + rn) 4 R) (52 + rn) 8) (40 + rn) 1 (-1)) (40 + rn) 2 b) (40 + rn) 3 (-1)) 144 [some (.ref (G.2.1 0)), some (.int (iI kd)), some (.int (iI a)), some (.int (iI b)), some (.int (iI c)), some (.int (iI R)), some (.int (iI (NKs kd))), some (.ref (G.2.1 (40 + rn)))] [.int (iI ((wI (wI (wI (zf (wI (wI v (40 + rn) 0 kd) (40 + rn) 4 R) (52 + rn) 8) (40 + rn) 1 (-1)) (40 + rn) 2 b) (40 + rn) 3 (-1)).1 10 0)), .ref (G.2.1 10)]
                    rw [ht10]
                    refine m_iconst h dX7_row_144 ?_
                    refine m_iadd h dX7_row_145 ?_
                    refine m_putJ h fw_X7_89 (by decide) rfl (Nat.le_of_ble_eq_true rfl) (kz := 0) rfl rfl dX7_row_146 ?_
                    refine m_aload_n h dX7_row_149 rfl rfl ?_
                    refine m_vV h (c_beginAnew _ hG _) moX7_beginAnew voX7_beginAnew lk_X7_60 dX7_row_150 (by decide) (by decide) rfl rfl rfl (Nat.le_of_ble_eq_true rfl) (fun u33 p34 => ?_)
                    subst p34
                    have hwe := row_C hC hrn0 hrn hgd rfl
                    have hweq : wI (wI (wI (wI (zf (wI (wI v (40 + rn) 0 kd) (40 + rn) 4 R) (52 + rn) 8) (40 + rn) 1 (if 1 ≤ NKs kd then a else -1)) (40 + rn) 2 (if 2 ≤ NKs kd then b else -1)) (40 + rn) 3 (if 3 ≤ NKs kd then c else -1)) 10 0 (v.1 10 0 + 1) = (wI (wI (wI (wI (zf (wI (wI v (40 + rn) 0 kd) (40 + rn) 4 R) (52 + rn) 8) (40 + rn) 1 (-1)) (40 + rn) 2 b) (40 + rn) 3 (-1)) 10 0 ((v.1 10 0) + 1)) := by
                      first
                        | (rw [show (if 1 ≤ NKs kd then a else -1) = a by (split <;> omega), show (if 2 ≤ NKs kd then b else -1) = b by (split <;> omega), show (if 3 ≤ NKs kd then c else -1) = c by (split <;> omega)]; done)
                        | (rw [show (if 1 ≤ NKs kd then a else -1) = a by (split <;> omega), show (if 2 ≤ NKs kd then b else -1) = b by (split <;> omega), show (if 3 ≤ NKs kd then c else -1) = (-1) by (split <;> omega)]; done)
                        | (rw [show (if 1 ≤ NKs kd then a else -1) = a by (split <;> omega), show (if 2 ≤ NKs kd then b else -1) = (-1) by (split <;> omega), show (if 3 ≤ NKs kd then c else -1) = c by (split <;> omega)]; done)
                        | (rw [show (if 1 ≤ NKs kd then a else -1) = a by (split <;> omega), show (if 2 ≤ NKs kd then b else -1) = (-1) by (split <;> omega), show (if 3 ≤ NKs kd then c else -1) = (-1) by (split <;> omega)]; done)
                        | (rw [show (if 1 ≤ NKs kd then a else -1) = (-1) by (split <;> omega), show (if 2 ≤ NKs kd then b else -1) = b by (split <;> omega), show (if 3 ≤ NKs kd then c else -1) = c by (split <;> omega)]; done)
                        | (rw [show (if 1 ≤ NKs kd then a else -1) = (-1) by (split <;> omega), show (if 2 ≤ NKs kd then b else -1) = b by (split <;> omega), show (if 3 ≤ NKs kd then c else -1) = (-1) by (split <;> omega)]; done)
                        | (rw [show (if 1 ≤ NKs kd then a else -1) = (-1) by (split <;> omega), show (if 2 ≤ NKs kd then b else -1) = (-1) by (split <;> omega), show (if 3 ≤ NKs kd then c else -1) = c by (split <;> omega)]; done)
                        | (rw [show (if 1 ≤ NKs kd then a else -1) = (-1) by (split <;> omega), show (if 2 ≤ NKs kd then b else -1) = (-1) by (split <;> omega), show (if 3 ≤ NKs kd then c else -1) = (-1) by (split <;> omega)]; done)
                    rw [hweq] at hwe
                    have hcn : (bA (wI (wI (wI (wI (zf (wI (wI v (40 + rn) 0 kd) (40 + rn) 4 R) (52 + rn) 8) (40 + rn) 1 (-1)) (40 + rn) 2 b) (40 + rn) 3 (-1)) 10 0 ((v.1 10 0) + 1))).1 10 0 = v.1 10 0 + 1 := congrArg g_r hwe.1
                    refine m_aload_n h dX7_row_153 rfl rfl ?_
                    refine m_get h fo_X7_19 (by decide) rfl rfl dX7_row_154 ?_
                    refine m_get h fo_X7_89 (by decide) rfl rfl dX7_row_157 ?_
                    show M X G 8 (bA (wI (wI (wI (wI (zf (wI (wI v (40 + rn) 0 kd) (40 + rn) 4 R) (52 + rn) 8) (40 + rn) 1 (-1)) (40 + rn) 2 b) (40 + rn) 3 (-1)) 10 0 ((v.1 10 0) + 1))) 160 [some (.ref (G.2.1 0)), some (.int (iI kd)), some (.int (iI a)), some (.int (iI b)), some (.int (iI c)), some (.int (iI R)), some (.int (iI (NKs kd))), some (.ref (G.2.1 (40 + rn)))] [.int (iI ((bA (wI (wI (wI (wI (zf (wI (wI v (40 + rn) 0 kd) (40 + rn) 4 R) (52 + rn) 8) (40 + rn) 1 (-1)) (40 + rn) 2 b) (40 + rn) 3 (-1)) 10 0 ((v.1 10 0) + 1))).1 10 0))]
                    rw [hcn]
                    refine m_iconst h dX7_row_160 ?_
                    refine m_isub h dX7_row_161 ?_
                    refine m_iret h hR rfl dX7_row_162 ?_
                    exact Or.inr ⟨hgd, Or.inr ⟨by show v.1 10 0 < 12; omega, by show v.1 10 0 + 1 - 1 = v.1 10 0; omega, hwe.1, hwe.2.1, hwe.2.2.1, hwe.2.2.2⟩⟩
                  · skip
                    refine m_iload h dX7_row_127 rfl ?_
                    refine m_goto h dX7_row_129 (tgt := 133) (by decide) ?_
                    refine m_vV h (c_tie _ hG (zf (wI (wI v (40 + rn) 0 kd) (40 + rn) 4 R) (52 + rn) 8) hrn (-1) b c) moX1_tie voX1_tie lk_X7_99 dX7_row_133 (by decide) (by omega) (cE_row G _ hrn) rfl rfl (Nat.le_of_ble_eq_true rfl) (fun u36 p37 => ?_)
                    subst p37
                    have ht10 : (wI (wI (wI (zf (wI (wI v (40 + rn) 0 kd) (40 + rn) 4 R) (52 + rn) 8) (40 + rn) 1 (-1)) (40 + rn) 2 b) (40 + rn) 3 c).1 10 0 = v.1 10 0 := by
                      rw [wI_c (by omega), wI_c (by omega), wI_c (by omega)]
                      simp only [zf]
                      rw [if_neg (by omega), wI_c (by omega), wI_c (by omega)]
                    refine m_aload_n h dX7_row_136 rfl rfl ?_
                    refine m_get h fo_X7_19 (by decide) rfl rfl dX7_row_137 ?_
                    refine m_dup h dX7_row_140 rfl ?_
                    refine m_get h fo_X7_89 (by decide) rfl rfl dX7_row_141 ?_
                    show M X G 8 (wI (wI (wI (zf (wI (wI v (40 + rn) 0 kd) (40 + rn) 4 R) (52 + rn) 8) (40 + rn) 1 (-1)) (40 + rn) 2 b) (40 + rn) 3 c) 144 [some (.ref (G.2.1 0)), some (.int (iI kd)), some (.int (iI a)), some (.int (iI b)), some (.int (iI c)), some (.int (iI R)), some (.int (iI (NKs kd))), some (.ref (G.2.1 (40 + rn)))] [.int (iI ((wI (wI (wI (zf (wI (wI v (40 + rn) 0 kd) (40 + rn) 4 R) (52 + rn) 8) (40 + rn) 1 (-1)) (40 + rn) 2 b) (40 + rn) 3 c).1 10 0)), .ref (G.2.1 10)]
                    rw [ht10]
                    refine m_iconst h dX7_row_144 ?_
                    refine m_iadd h dX7_row_145 ?_
                    refine m_putJ h fw_X7_89 (by decide) rfl (Nat.le_of_ble_eq_true rfl) (kz := 0) rfl rfl dX7_row_146 ?_
                    refine m_aload_n h dX7_row_149 rfl rfl ?_
                    refine m_vV h (c_beginAnew _ hG _) moX7_beginAnew voX7_beginAnew lk_X7_60 dX7_row_150 (by decide) (by decide) rfl rfl rfl (Nat.le_of_ble_eq_true rfl) (fun u39 p40 => ?_)
                    subst p40
                    have hwe := row_C hC hrn0 hrn hgd rfl
                    have hweq : wI (wI (wI (wI (zf (wI (wI v (40 + rn) 0 kd) (40 + rn) 4 R) (52 + rn) 8) (40 + rn) 1 (if 1 ≤ NKs kd then a else -1)) (40 + rn) 2 (if 2 ≤ NKs kd then b else -1)) (40 + rn) 3 (if 3 ≤ NKs kd then c else -1)) 10 0 (v.1 10 0 + 1) = (wI (wI (wI (wI (zf (wI (wI v (40 + rn) 0 kd) (40 + rn) 4 R) (52 + rn) 8) (40 + rn) 1 (-1)) (40 + rn) 2 b) (40 + rn) 3 c) 10 0 ((v.1 10 0) + 1)) := by
                      first
                        | (rw [show (if 1 ≤ NKs kd then a else -1) = a by (split <;> omega), show (if 2 ≤ NKs kd then b else -1) = b by (split <;> omega), show (if 3 ≤ NKs kd then c else -1) = c by (split <;> omega)]; done)
                        | (rw [show (if 1 ≤ NKs kd then a else -1) = a by (split <;> omega), show (if 2 ≤ NKs kd then b else -1) = b by (split <;> omega), show (if 3 ≤ NKs kd then c else -1) = (-1) by (split <;> omega)]; done)
                        | (rw [show (if 1 ≤ NKs kd then a else -1) = a by (split <;> omega), show (if 2 ≤ NKs kd then b else -1) = (-1) by (split <;> omega), show (if 3 ≤ NKs kd then c else -1) = c by (split <;> omega)]; done)
                        | (rw [show (if 1 ≤ NKs kd then a else -1) = a by (split <;> omega), show (if 2 ≤ NKs kd then b else -1) = (-1) by (split <;> omega), show (if 3 ≤ NKs kd then c else -1) = (-1) by (split <;> omega)]; done)
                        | (rw [show (if 1 ≤ NKs kd then a else -1) = (-1) by (split <;> omega), show (if 2 ≤ NKs kd then b else -1) = b by (split <;> omega), show (if 3 ≤ NKs kd then c else -1) = c by (split <;> omega)]; done)
                        | (rw [show (if 1 ≤ NKs kd then a else -1) = (-1) by (split <;> omega), show (if 2 ≤ NKs kd then b else -1) = b by (split <;> omega), show (if 3 ≤ NKs kd then c else -1) = (-1) by (split <;> omega)]; done)
                        | (rw [show (if 1 ≤ NKs kd then a else -1) = (-1) by (split <;> omega), show (if 2 ≤ NKs kd then b else -1) = (-1) by (split <;> omega), show (if 3 ≤ NKs kd then c else -1) = c by (split <;> omega)]; done)
                        | (rw [show (if 1 ≤ NKs kd then a else -1) = (-1) by (split <;> omega), show (if 2 ≤ NKs kd then b else -1) = (-1) by (split <;> omega), show (if 3 ≤ NKs kd then c else -1) = (-1) by (split <;> omega)]; done)
                    rw [hweq] at hwe
                    have hcn : (bA (wI (wI (wI (wI (zf (wI (wI v (40 + rn) 0 kd) (40 + rn) 4 R) (52 + rn) 8) (40 + rn) 1 (-1)) (40 + rn) 2 b) (40 + rn) 3 c) 10 0 ((v.1 10 0) + 1))).1 10 0 = v.1 10 0 + 1 := congrArg g_r hwe.1
                    refine m_aload_n h dX7_row_153 rfl rfl ?_
                    refine m_get h fo_X7_19 (by decide) rfl rfl dX7_row_154 ?_
                    refine m_get h fo_X7_89 (by decide) rfl rfl dX7_row_157 ?_
                    show M X G 8 (bA (wI (wI (wI (wI (zf (wI (wI v (40 + rn) 0 kd) (40 + rn) 4 R) (52 + rn) 8) (40 + rn) 1 (-1)) (40 + rn) 2 b) (40 + rn) 3 c) 10 0 ((v.1 10 0) + 1))) 160 [some (.ref (G.2.1 0)), some (.int (iI kd)), some (.int (iI a)), some (.int (iI b)), some (.int (iI c)), some (.int (iI R)), some (.int (iI (NKs kd))), some (.ref (G.2.1 (40 + rn)))] [.int (iI ((bA (wI (wI (wI (wI (zf (wI (wI v (40 + rn) 0 kd) (40 + rn) 4 R) (52 + rn) 8) (40 + rn) 1 (-1)) (40 + rn) 2 b) (40 + rn) 3 c) 10 0 ((v.1 10 0) + 1))).1 10 0))]
                    rw [hcn]
                    refine m_iconst h dX7_row_160 ?_
                    refine m_isub h dX7_row_161 ?_
                    refine m_iret h hR rfl dX7_row_162 ?_
                    exact Or.inr ⟨hgd, Or.inr ⟨by show v.1 10 0 < 12; omega, by show v.1 10 0 + 1 - 1 = v.1 10 0; omega, hwe.1, hwe.2.1, hwe.2.2.1, hwe.2.2.2⟩⟩
              · skip
                refine m_iload_n h dX7_row_105 rfl rfl ?_
                refine m_goto h dX7_row_106 (tgt := 110) (by decide) ?_
                refine m_iload h dX7_row_110 rfl ?_
                refine m_iconst h dX7_row_112 ?_
                refine m_icmp_lt h dX7_row_113 (tgt := 120) (by decide) (by omega) (by omega) (fun c41 => ?_) (fun c41 => ?_)
                · skip
                  refine m_iconst h dX7_row_120 ?_
                  refine m_iload h dX7_row_121 rfl ?_
                  refine m_iconst h dX7_row_123 ?_
                  refine m_icmp_lt h dX7_row_124 (tgt := 132) (by decide) (by omega) (by omega) (fun c42 => ?_) (fun c42 => ?_)
                  · skip
                    refine m_iconst h dX7_row_132 ?_
                    refine m_vV h (c_tie _ hG (zf (wI (wI v (40 + rn) 0 kd) (40 + rn) 4 R) (52 + rn) 8) hrn a (-1) (-1)) moX1_tie voX1_tie lk_X7_99 dX7_row_133 (by decide) (by omega) (cE_row G _ hrn) rfl rfl (Nat.le_of_ble_eq_true rfl) (fun u44 p45 => ?_)
                    subst p45
                    have ht10 : (wI (wI (wI (zf (wI (wI v (40 + rn) 0 kd) (40 + rn) 4 R) (52 + rn) 8) (40 + rn) 1 a) (40 + rn) 2 (-1)) (40 + rn) 3 (-1)).1 10 0 = v.1 10 0 := by
                      rw [wI_c (by omega), wI_c (by omega), wI_c (by omega)]
                      simp only [zf]
                      rw [if_neg (by omega), wI_c (by omega), wI_c (by omega)]
                    refine m_aload_n h dX7_row_136 rfl rfl ?_
                    refine m_get h fo_X7_19 (by decide) rfl rfl dX7_row_137 ?_
                    refine m_dup h dX7_row_140 rfl ?_
                    refine m_get h fo_X7_89 (by decide) rfl rfl dX7_row_141 ?_
                    show M X G 8 (wI (wI (wI (zf (wI (wI v (40 + rn) 0 kd) (40 + rn) 4 R) (52 + rn) 8) (40 + rn) 1 a) (40 + rn) 2 (-1)) (40 + rn) 3 (-1)) 144 [some (.ref (G.2.1 0)), some (.int (iI kd)), some (.int (iI a)), some (.int (iI b)), some (.int (iI c)), some (.int (iI R)), some (.int (iI (NKs kd))), some (.ref (G.2.1 (40 + rn)))] [.int (iI ((wI (wI (wI (zf (wI (wI v (40 + rn) 0 kd) (40 + rn) 4 R) (52 + rn) 8) (40 + rn) 1 a) (40 + rn) 2 (-1)) (40 + rn) 3 (-1)).1 10 0)), .ref (G.2.1 10)]
                    rw [ht10]
                    refine m_iconst h dX7_row_144 ?_
                    refine m_iadd h dX7_row_145 ?_
                    refine m_putJ h fw_X7_89 (by decide) rfl (Nat.le_of_ble_eq_true rfl) (kz := 0) rfl rfl dX7_row_146 ?_
                    refine m_aload_n h dX7_row_149 rfl rfl ?_
                    refine m_vV h (c_beginAnew _ hG _) moX7_beginAnew voX7_beginAnew lk_X7_60 dX7_row_150 (by decide) (by decide) rfl rfl rfl (Nat.le_of_ble_eq_true rfl) (fun u47 p48 => ?_)
                    subst p48
                    have hwe := row_C hC hrn0 hrn hgd rfl
                    have hweq : wI (wI (wI (wI (zf (wI (wI v (40 + rn) 0 kd) (40 + rn) 4 R) (52 + rn) 8) (40 + rn) 1 (if 1 ≤ NKs kd then a else -1)) (40 + rn) 2 (if 2 ≤ NKs kd then b else -1)) (40 + rn) 3 (if 3 ≤ NKs kd then c else -1)) 10 0 (v.1 10 0 + 1) = (wI (wI (wI (wI (zf (wI (wI v (40 + rn) 0 kd) (40 + rn) 4 R) (52 + rn) 8) (40 + rn) 1 a) (40 + rn) 2 (-1)) (40 + rn) 3 (-1)) 10 0 ((v.1 10 0) + 1)) := by
                      first
                        | (rw [show (if 1 ≤ NKs kd then a else -1) = a by (split <;> omega), show (if 2 ≤ NKs kd then b else -1) = b by (split <;> omega), show (if 3 ≤ NKs kd then c else -1) = c by (split <;> omega)]; done)
                        | (rw [show (if 1 ≤ NKs kd then a else -1) = a by (split <;> omega), show (if 2 ≤ NKs kd then b else -1) = b by (split <;> omega), show (if 3 ≤ NKs kd then c else -1) = (-1) by (split <;> omega)]; done)
                        | (rw [show (if 1 ≤ NKs kd then a else -1) = a by (split <;> omega), show (if 2 ≤ NKs kd then b else -1) = (-1) by (split <;> omega), show (if 3 ≤ NKs kd then c else -1) = c by (split <;> omega)]; done)
                        | (rw [show (if 1 ≤ NKs kd then a else -1) = a by (split <;> omega), show (if 2 ≤ NKs kd then b else -1) = (-1) by (split <;> omega), show (if 3 ≤ NKs kd then c else -1) = (-1) by (split <;> omega)]; done)
                        | (rw [show (if 1 ≤ NKs kd then a else -1) = (-1) by (split <;> omega), show (if 2 ≤ NKs kd then b else -1) = b by (split <;> omega), show (if 3 ≤ NKs kd then c else -1) = c by (split <;> omega)]; done)
                        | (rw [show (if 1 ≤ NKs kd then a else -1) = (-1) by (split <;> omega), show (if 2 ≤ NKs kd then b else -1) = b by (split <;> omega), show (if 3 ≤ NKs kd then c else -1) = (-1) by (split <;> omega)]; done)
                        | (rw [show (if 1 ≤ NKs kd then a else -1) = (-1) by (split <;> omega), show (if 2 ≤ NKs kd then b else -1) = (-1) by (split <;> omega), show (if 3 ≤ NKs kd then c else -1) = c by (split <;> omega)]; done)
                        | (rw [show (if 1 ≤ NKs kd then a else -1) = (-1) by (split <;> omega), show (if 2 ≤ NKs kd then b else -1) = (-1) by (split <;> omega), show (if 3 ≤ NKs kd then c else -1) = (-1) by (split <;> omega)]; done)
                    rw [hweq] at hwe
                    have hcn : (bA (wI (wI (wI (wI (zf (wI (wI v (40 + rn) 0 kd) (40 + rn) 4 R) (52 + rn) 8) (40 + rn) 1 a) (40 + rn) 2 (-1)) (40 + rn) 3 (-1)) 10 0 ((v.1 10 0) + 1))).1 10 0 = v.1 10 0 + 1 := congrArg g_r hwe.1
                    refine m_aload_n h dX7_row_153 rfl rfl ?_
                    refine m_get h fo_X7_19 (by decide) rfl rfl dX7_row_154 ?_
                    refine m_get h fo_X7_89 (by decide) rfl rfl dX7_row_157 ?_
                    show M X G 8 (bA (wI (wI (wI (wI (zf (wI (wI v (40 + rn) 0 kd) (40 + rn) 4 R) (52 + rn) 8) (40 + rn) 1 a) (40 + rn) 2 (-1)) (40 + rn) 3 (-1)) 10 0 ((v.1 10 0) + 1))) 160 [some (.ref (G.2.1 0)), some (.int (iI kd)), some (.int (iI a)), some (.int (iI b)), some (.int (iI c)), some (.int (iI R)), some (.int (iI (NKs kd))), some (.ref (G.2.1 (40 + rn)))] [.int (iI ((bA (wI (wI (wI (wI (zf (wI (wI v (40 + rn) 0 kd) (40 + rn) 4 R) (52 + rn) 8) (40 + rn) 1 a) (40 + rn) 2 (-1)) (40 + rn) 3 (-1)) 10 0 ((v.1 10 0) + 1))).1 10 0))]
                    rw [hcn]
                    refine m_iconst h dX7_row_160 ?_
                    refine m_isub h dX7_row_161 ?_
                    refine m_iret h hR rfl dX7_row_162 ?_
                    exact Or.inr ⟨hgd, Or.inr ⟨by show v.1 10 0 < 12; omega, by show v.1 10 0 + 1 - 1 = v.1 10 0; omega, hwe.1, hwe.2.1, hwe.2.2.1, hwe.2.2.2⟩⟩
                  · skip
                    refine m_iload h dX7_row_127 rfl ?_
                    refine m_goto h dX7_row_129 (tgt := 133) (by decide) ?_
                    refine m_vV h (c_tie _ hG (zf (wI (wI v (40 + rn) 0 kd) (40 + rn) 4 R) (52 + rn) 8) hrn a (-1) c) moX1_tie voX1_tie lk_X7_99 dX7_row_133 (by decide) (by omega) (cE_row G _ hrn) rfl rfl (Nat.le_of_ble_eq_true rfl) (fun u50 p51 => ?_)
                    subst p51
                    have ht10 : (wI (wI (wI (zf (wI (wI v (40 + rn) 0 kd) (40 + rn) 4 R) (52 + rn) 8) (40 + rn) 1 a) (40 + rn) 2 (-1)) (40 + rn) 3 c).1 10 0 = v.1 10 0 := by
                      rw [wI_c (by omega), wI_c (by omega), wI_c (by omega)]
                      simp only [zf]
                      rw [if_neg (by omega), wI_c (by omega), wI_c (by omega)]
                    refine m_aload_n h dX7_row_136 rfl rfl ?_
                    refine m_get h fo_X7_19 (by decide) rfl rfl dX7_row_137 ?_
                    refine m_dup h dX7_row_140 rfl ?_
                    refine m_get h fo_X7_89 (by decide) rfl rfl dX7_row_141 ?_
                    show M X G 8 (wI (wI (wI (zf (wI (wI v (40 + rn) 0 kd) (40 + rn) 4 R) (52 + rn) 8) (40 + rn) 1 a) (40 + rn) 2 (-1)) (40 + rn) 3 c) 144 [some (.ref (G.2.1 0)), some (.int (iI kd)), some (.int (iI a)), some (.int (iI b)), some (.int (iI c)), some (.int (iI R)), some (.int (iI (NKs kd))), some (.ref (G.2.1 (40 + rn)))] [.int (iI ((wI (wI (wI (zf (wI (wI v (40 + rn) 0 kd) (40 + rn) 4 R) (52 + rn) 8) (40 + rn) 1 a) (40 + rn) 2 (-1)) (40 + rn) 3 c).1 10 0)), .ref (G.2.1 10)]
                    rw [ht10]
                    refine m_iconst h dX7_row_144 ?_
                    refine m_iadd h dX7_row_145 ?_
                    refine m_putJ h fw_X7_89 (by decide) rfl (Nat.le_of_ble_eq_true rfl) (kz := 0) rfl rfl dX7_row_146 ?_
                    refine m_aload_n h dX7_row_149 rfl rfl ?_
                    refine m_vV h (c_beginAnew _ hG _) moX7_beginAnew voX7_beginAnew lk_X7_60 dX7_row_150 (by decide) (by decide) rfl rfl rfl (Nat.le_of_ble_eq_true rfl) (fun u53 p54 => ?_)
                    subst p54
                    have hwe := row_C hC hrn0 hrn hgd rfl
                    have hweq : wI (wI (wI (wI (zf (wI (wI v (40 + rn) 0 kd) (40 + rn) 4 R) (52 + rn) 8) (40 + rn) 1 (if 1 ≤ NKs kd then a else -1)) (40 + rn) 2 (if 2 ≤ NKs kd then b else -1)) (40 + rn) 3 (if 3 ≤ NKs kd then c else -1)) 10 0 (v.1 10 0 + 1) = (wI (wI (wI (wI (zf (wI (wI v (40 + rn) 0 kd) (40 + rn) 4 R) (52 + rn) 8) (40 + rn) 1 a) (40 + rn) 2 (-1)) (40 + rn) 3 c) 10 0 ((v.1 10 0) + 1)) := by
                      first
                        | (rw [show (if 1 ≤ NKs kd then a else -1) = a by (split <;> omega), show (if 2 ≤ NKs kd then b else -1) = b by (split <;> omega), show (if 3 ≤ NKs kd then c else -1) = c by (split <;> omega)]; done)
                        | (rw [show (if 1 ≤ NKs kd then a else -1) = a by (split <;> omega), show (if 2 ≤ NKs kd then b else -1) = b by (split <;> omega), show (if 3 ≤ NKs kd then c else -1) = (-1) by (split <;> omega)]; done)
                        | (rw [show (if 1 ≤ NKs kd then a else -1) = a by (split <;> omega), show (if 2 ≤ NKs kd then b else -1) = (-1) by (split <;> omega), show (if 3 ≤ NKs kd then c else -1) = c by (split <;> omega)]; done)
                        | (rw [show (if 1 ≤ NKs kd then a else -1) = a by (split <;> omega), show (if 2 ≤ NKs kd then b else -1) = (-1) by (split <;> omega), show (if 3 ≤ NKs kd then c else -1) = (-1) by (split <;> omega)]; done)
                        | (rw [show (if 1 ≤ NKs kd then a else -1) = (-1) by (split <;> omega), show (if 2 ≤ NKs kd then b else -1) = b by (split <;> omega), show (if 3 ≤ NKs kd then c else -1) = c by (split <;> omega)]; done)
                        | (rw [show (if 1 ≤ NKs kd then a else -1) = (-1) by (split <;> omega), show (if 2 ≤ NKs kd then b else -1) = b by (split <;> omega), show (if 3 ≤ NKs kd then c else -1) = (-1) by (split <;> omega)]; done)
                        | (rw [show (if 1 ≤ NKs kd then a else -1) = (-1) by (split <;> omega), show (if 2 ≤ NKs kd then b else -1) = (-1) by (split <;> omega), show (if 3 ≤ NKs kd then c else -1) = c by (split <;> omega)]; done)
                        | (rw [show (if 1 ≤ NKs kd then a else -1) = (-1) by (split <;> omega), show (if 2 ≤ NKs kd then b else -1) = (-1) by (split <;> omega), show (if 3 ≤ NKs kd then c else -1) = (-1) by (split <;> omega)]; done)
                    rw [hweq] at hwe
                    have hcn : (bA (wI (wI (wI (wI (zf (wI (wI v (40 + rn) 0 kd) (40 + rn) 4 R) (52 + rn) 8) (40 + rn) 1 a) (40 + rn) 2 (-1)) (40 + rn) 3 c) 10 0 ((v.1 10 0) + 1))).1 10 0 = v.1 10 0 + 1 := congrArg g_r hwe.1
                    refine m_aload_n h dX7_row_153 rfl rfl ?_
                    refine m_get h fo_X7_19 (by decide) rfl rfl dX7_row_154 ?_
                    refine m_get h fo_X7_89 (by decide) rfl rfl dX7_row_157 ?_
                    show M X G 8 (bA (wI (wI (wI (wI (zf (wI (wI v (40 + rn) 0 kd) (40 + rn) 4 R) (52 + rn) 8) (40 + rn) 1 a) (40 + rn) 2 (-1)) (40 + rn) 3 c) 10 0 ((v.1 10 0) + 1))) 160 [some (.ref (G.2.1 0)), some (.int (iI kd)), some (.int (iI a)), some (.int (iI b)), some (.int (iI c)), some (.int (iI R)), some (.int (iI (NKs kd))), some (.ref (G.2.1 (40 + rn)))] [.int (iI ((bA (wI (wI (wI (wI (zf (wI (wI v (40 + rn) 0 kd) (40 + rn) 4 R) (52 + rn) 8) (40 + rn) 1 a) (40 + rn) 2 (-1)) (40 + rn) 3 c) 10 0 ((v.1 10 0) + 1))).1 10 0))]
                    rw [hcn]
                    refine m_iconst h dX7_row_160 ?_
                    refine m_isub h dX7_row_161 ?_
                    refine m_iret h hR rfl dX7_row_162 ?_
                    exact Or.inr ⟨hgd, Or.inr ⟨by show v.1 10 0 < 12; omega, by show v.1 10 0 + 1 - 1 = v.1 10 0; omega, hwe.1, hwe.2.1, hwe.2.2.1, hwe.2.2.2⟩⟩
                · skip
                  refine m_iload_n h dX7_row_116 rfl rfl ?_
                  refine m_goto h dX7_row_117 (tgt := 121) (by decide) ?_
                  refine m_iload h dX7_row_121 rfl ?_
                  refine m_iconst h dX7_row_123 ?_
                  refine m_icmp_lt h dX7_row_124 (tgt := 132) (by decide) (by omega) (by omega) (fun c55 => ?_) (fun c55 => ?_)
                  · skip
                    refine m_iconst h dX7_row_132 ?_
                    refine m_vV h (c_tie _ hG (zf (wI (wI v (40 + rn) 0 kd) (40 + rn) 4 R) (52 + rn) 8) hrn a b (-1)) moX1_tie voX1_tie lk_X7_99 dX7_row_133 (by decide) (by omega) (cE_row G _ hrn) rfl rfl (Nat.le_of_ble_eq_true rfl) (fun u57 p58 => ?_)
                    subst p58
                    have ht10 : (wI (wI (wI (zf (wI (wI v (40 + rn) 0 kd) (40 + rn) 4 R) (52 + rn) 8) (40 + rn) 1 a) (40 + rn) 2 b) (40 + rn) 3 (-1)).1 10 0 = v.1 10 0 := by
                      rw [wI_c (by omega), wI_c (by omega), wI_c (by omega)]
                      simp only [zf]
                      rw [if_neg (by omega), wI_c (by omega), wI_c (by omega)]
                    refine m_aload_n h dX7_row_136 rfl rfl ?_
                    refine m_get h fo_X7_19 (by decide) rfl rfl dX7_row_137 ?_
                    refine m_dup h dX7_row_140 rfl ?_
                    refine m_get h fo_X7_89 (by decide) rfl rfl dX7_row_141 ?_
                    show M X G 8 (wI (wI (wI (zf (wI (wI v (40 + rn) 0 kd) (40 + rn) 4 R) (52 + rn) 8) (40 + rn) 1 a) (40 + rn) 2 b) (40 + rn) 3 (-1)) 144 [some (.ref (G.2.1 0)), some (.int (iI kd)), some (.int (iI a)), some (.int (iI b)), some (.int (iI c)), some (.int (iI R)), some (.int (iI (NKs kd))), some (.ref (G.2.1 (40 + rn)))] [.int (iI ((wI (wI (wI (zf (wI (wI v (40 + rn) 0 kd) (40 + rn) 4 R) (52 + rn) 8) (40 + rn) 1 a) (40 + rn) 2 b) (40 + rn) 3 (-1)).1 10 0)), .ref (G.2.1 10)]
                    rw [ht10]
                    refine m_iconst h dX7_row_144 ?_
                    refine m_iadd h dX7_row_145 ?_
                    refine m_putJ h fw_X7_89 (by decide) rfl (Nat.le_of_ble_eq_true rfl) (kz := 0) rfl rfl dX7_row_146 ?_
                    refine m_aload_n h dX7_row_149 rfl rfl ?_
                    refine m_vV h (c_beginAnew _ hG _) moX7_beginAnew voX7_beginAnew lk_X7_60 dX7_row_150 (by decide) (by decide) rfl rfl rfl (Nat.le_of_ble_eq_true rfl) (fun u60 p61 => ?_)
                    subst p61
                    have hwe := row_C hC hrn0 hrn hgd rfl
                    have hweq : wI (wI (wI (wI (zf (wI (wI v (40 + rn) 0 kd) (40 + rn) 4 R) (52 + rn) 8) (40 + rn) 1 (if 1 ≤ NKs kd then a else -1)) (40 + rn) 2 (if 2 ≤ NKs kd then b else -1)) (40 + rn) 3 (if 3 ≤ NKs kd then c else -1)) 10 0 (v.1 10 0 + 1) = (wI (wI (wI (wI (zf (wI (wI v (40 + rn) 0 kd) (40 + rn) 4 R) (52 + rn) 8) (40 + rn) 1 a) (40 + rn) 2 b) (40 + rn) 3 (-1)) 10 0 ((v.1 10 0) + 1)) := by
                      first
                        | (rw [show (if 1 ≤ NKs kd then a else -1) = a by (split <;> omega), show (if 2 ≤ NKs kd then b else -1) = b by (split <;> omega), show (if 3 ≤ NKs kd then c else -1) = c by (split <;> omega)]; done)
                        | (rw [show (if 1 ≤ NKs kd then a else -1) = a by (split <;> omega), show (if 2 ≤ NKs kd then b else -1) = b by (split <;> omega), show (if 3 ≤ NKs kd then c else -1) = (-1) by (split <;> omega)]; done)
                        | (rw [show (if 1 ≤ NKs kd then a else -1) = a by (split <;> omega), show (if 2 ≤ NKs kd then b else -1) = (-1) by (split <;> omega), show (if 3 ≤ NKs kd then c else -1) = c by (split <;> omega)]; done)
                        | (rw [show (if 1 ≤ NKs kd then a else -1) = a by (split <;> omega), show (if 2 ≤ NKs kd then b else -1) = (-1) by (split <;> omega), show (if 3 ≤ NKs kd then c else -1) = (-1) by (split <;> omega)]; done)
                        | (rw [show (if 1 ≤ NKs kd then a else -1) = (-1) by (split <;> omega), show (if 2 ≤ NKs kd then b else -1) = b by (split <;> omega), show (if 3 ≤ NKs kd then c else -1) = c by (split <;> omega)]; done)
                        | (rw [show (if 1 ≤ NKs kd then a else -1) = (-1) by (split <;> omega), show (if 2 ≤ NKs kd then b else -1) = b by (split <;> omega), show (if 3 ≤ NKs kd then c else -1) = (-1) by (split <;> omega)]; done)
                        | (rw [show (if 1 ≤ NKs kd then a else -1) = (-1) by (split <;> omega), show (if 2 ≤ NKs kd then b else -1) = (-1) by (split <;> omega), show (if 3 ≤ NKs kd then c else -1) = c by (split <;> omega)]; done)
                        | (rw [show (if 1 ≤ NKs kd then a else -1) = (-1) by (split <;> omega), show (if 2 ≤ NKs kd then b else -1) = (-1) by (split <;> omega), show (if 3 ≤ NKs kd then c else -1) = (-1) by (split <;> omega)]; done)
                    rw [hweq] at hwe
                    have hcn : (bA (wI (wI (wI (wI (zf (wI (wI v (40 + rn) 0 kd) (40 + rn) 4 R) (52 + rn) 8) (40 + rn) 1 a) (40 + rn) 2 b) (40 + rn) 3 (-1)) 10 0 ((v.1 10 0) + 1))).1 10 0 = v.1 10 0 + 1 := congrArg g_r hwe.1
                    refine m_aload_n h dX7_row_153 rfl rfl ?_
                    refine m_get h fo_X7_19 (by decide) rfl rfl dX7_row_154 ?_
                    refine m_get h fo_X7_89 (by decide) rfl rfl dX7_row_157 ?_
                    show M X G 8 (bA (wI (wI (wI (wI (zf (wI (wI v (40 + rn) 0 kd) (40 + rn) 4 R) (52 + rn) 8) (40 + rn) 1 a) (40 + rn) 2 b) (40 + rn) 3 (-1)) 10 0 ((v.1 10 0) + 1))) 160 [some (.ref (G.2.1 0)), some (.int (iI kd)), some (.int (iI a)), some (.int (iI b)), some (.int (iI c)), some (.int (iI R)), some (.int (iI (NKs kd))), some (.ref (G.2.1 (40 + rn)))] [.int (iI ((bA (wI (wI (wI (wI (zf (wI (wI v (40 + rn) 0 kd) (40 + rn) 4 R) (52 + rn) 8) (40 + rn) 1 a) (40 + rn) 2 b) (40 + rn) 3 (-1)) 10 0 ((v.1 10 0) + 1))).1 10 0))]
                    rw [hcn]
                    refine m_iconst h dX7_row_160 ?_
                    refine m_isub h dX7_row_161 ?_
                    refine m_iret h hR rfl dX7_row_162 ?_
                    exact Or.inr ⟨hgd, Or.inr ⟨by show v.1 10 0 < 12; omega, by show v.1 10 0 + 1 - 1 = v.1 10 0; omega, hwe.1, hwe.2.1, hwe.2.2.1, hwe.2.2.2⟩⟩
                  · skip
                    refine m_iload h dX7_row_127 rfl ?_
                    refine m_goto h dX7_row_129 (tgt := 133) (by decide) ?_
                    refine m_vV h (c_tie _ hG (zf (wI (wI v (40 + rn) 0 kd) (40 + rn) 4 R) (52 + rn) 8) hrn a b c) moX1_tie voX1_tie lk_X7_99 dX7_row_133 (by decide) (by omega) (cE_row G _ hrn) rfl rfl (Nat.le_of_ble_eq_true rfl) (fun u63 p64 => ?_)
                    subst p64
                    have ht10 : (wI (wI (wI (zf (wI (wI v (40 + rn) 0 kd) (40 + rn) 4 R) (52 + rn) 8) (40 + rn) 1 a) (40 + rn) 2 b) (40 + rn) 3 c).1 10 0 = v.1 10 0 := by
                      rw [wI_c (by omega), wI_c (by omega), wI_c (by omega)]
                      simp only [zf]
                      rw [if_neg (by omega), wI_c (by omega), wI_c (by omega)]
                    refine m_aload_n h dX7_row_136 rfl rfl ?_
                    refine m_get h fo_X7_19 (by decide) rfl rfl dX7_row_137 ?_
                    refine m_dup h dX7_row_140 rfl ?_
                    refine m_get h fo_X7_89 (by decide) rfl rfl dX7_row_141 ?_
                    show M X G 8 (wI (wI (wI (zf (wI (wI v (40 + rn) 0 kd) (40 + rn) 4 R) (52 + rn) 8) (40 + rn) 1 a) (40 + rn) 2 b) (40 + rn) 3 c) 144 [some (.ref (G.2.1 0)), some (.int (iI kd)), some (.int (iI a)), some (.int (iI b)), some (.int (iI c)), some (.int (iI R)), some (.int (iI (NKs kd))), some (.ref (G.2.1 (40 + rn)))] [.int (iI ((wI (wI (wI (zf (wI (wI v (40 + rn) 0 kd) (40 + rn) 4 R) (52 + rn) 8) (40 + rn) 1 a) (40 + rn) 2 b) (40 + rn) 3 c).1 10 0)), .ref (G.2.1 10)]
                    rw [ht10]
                    refine m_iconst h dX7_row_144 ?_
                    refine m_iadd h dX7_row_145 ?_
                    refine m_putJ h fw_X7_89 (by decide) rfl (Nat.le_of_ble_eq_true rfl) (kz := 0) rfl rfl dX7_row_146 ?_
                    refine m_aload_n h dX7_row_149 rfl rfl ?_
                    refine m_vV h (c_beginAnew _ hG _) moX7_beginAnew voX7_beginAnew lk_X7_60 dX7_row_150 (by decide) (by decide) rfl rfl rfl (Nat.le_of_ble_eq_true rfl) (fun u66 p67 => ?_)
                    subst p67
                    have hwe := row_C hC hrn0 hrn hgd rfl
                    have hweq : wI (wI (wI (wI (zf (wI (wI v (40 + rn) 0 kd) (40 + rn) 4 R) (52 + rn) 8) (40 + rn) 1 (if 1 ≤ NKs kd then a else -1)) (40 + rn) 2 (if 2 ≤ NKs kd then b else -1)) (40 + rn) 3 (if 3 ≤ NKs kd then c else -1)) 10 0 (v.1 10 0 + 1) = (wI (wI (wI (wI (zf (wI (wI v (40 + rn) 0 kd) (40 + rn) 4 R) (52 + rn) 8) (40 + rn) 1 a) (40 + rn) 2 b) (40 + rn) 3 c) 10 0 ((v.1 10 0) + 1)) := by
                      first
                        | (rw [show (if 1 ≤ NKs kd then a else -1) = a by (split <;> omega), show (if 2 ≤ NKs kd then b else -1) = b by (split <;> omega), show (if 3 ≤ NKs kd then c else -1) = c by (split <;> omega)]; done)
                        | (rw [show (if 1 ≤ NKs kd then a else -1) = a by (split <;> omega), show (if 2 ≤ NKs kd then b else -1) = b by (split <;> omega), show (if 3 ≤ NKs kd then c else -1) = (-1) by (split <;> omega)]; done)
                        | (rw [show (if 1 ≤ NKs kd then a else -1) = a by (split <;> omega), show (if 2 ≤ NKs kd then b else -1) = (-1) by (split <;> omega), show (if 3 ≤ NKs kd then c else -1) = c by (split <;> omega)]; done)
                        | (rw [show (if 1 ≤ NKs kd then a else -1) = a by (split <;> omega), show (if 2 ≤ NKs kd then b else -1) = (-1) by (split <;> omega), show (if 3 ≤ NKs kd then c else -1) = (-1) by (split <;> omega)]; done)
                        | (rw [show (if 1 ≤ NKs kd then a else -1) = (-1) by (split <;> omega), show (if 2 ≤ NKs kd then b else -1) = b by (split <;> omega), show (if 3 ≤ NKs kd then c else -1) = c by (split <;> omega)]; done)
                        | (rw [show (if 1 ≤ NKs kd then a else -1) = (-1) by (split <;> omega), show (if 2 ≤ NKs kd then b else -1) = b by (split <;> omega), show (if 3 ≤ NKs kd then c else -1) = (-1) by (split <;> omega)]; done)
                        | (rw [show (if 1 ≤ NKs kd then a else -1) = (-1) by (split <;> omega), show (if 2 ≤ NKs kd then b else -1) = (-1) by (split <;> omega), show (if 3 ≤ NKs kd then c else -1) = c by (split <;> omega)]; done)
                        | (rw [show (if 1 ≤ NKs kd then a else -1) = (-1) by (split <;> omega), show (if 2 ≤ NKs kd then b else -1) = (-1) by (split <;> omega), show (if 3 ≤ NKs kd then c else -1) = (-1) by (split <;> omega)]; done)
                    rw [hweq] at hwe
                    have hcn : (bA (wI (wI (wI (wI (zf (wI (wI v (40 + rn) 0 kd) (40 + rn) 4 R) (52 + rn) 8) (40 + rn) 1 a) (40 + rn) 2 b) (40 + rn) 3 c) 10 0 ((v.1 10 0) + 1))).1 10 0 = v.1 10 0 + 1 := congrArg g_r hwe.1
                    refine m_aload_n h dX7_row_153 rfl rfl ?_
                    refine m_get h fo_X7_19 (by decide) rfl rfl dX7_row_154 ?_
                    refine m_get h fo_X7_89 (by decide) rfl rfl dX7_row_157 ?_
                    show M X G 8 (bA (wI (wI (wI (wI (zf (wI (wI v (40 + rn) 0 kd) (40 + rn) 4 R) (52 + rn) 8) (40 + rn) 1 a) (40 + rn) 2 b) (40 + rn) 3 c) 10 0 ((v.1 10 0) + 1))) 160 [some (.ref (G.2.1 0)), some (.int (iI kd)), some (.int (iI a)), some (.int (iI b)), some (.int (iI c)), some (.int (iI R)), some (.int (iI (NKs kd))), some (.ref (G.2.1 (40 + rn)))] [.int (iI ((bA (wI (wI (wI (wI (zf (wI (wI v (40 + rn) 0 kd) (40 + rn) 4 R) (52 + rn) 8) (40 + rn) 1 a) (40 + rn) 2 b) (40 + rn) 3 c) 10 0 ((v.1 10 0) + 1))).1 10 0))]
                    rw [hcn]
                    refine m_iconst h dX7_row_160 ?_
                    refine m_isub h dX7_row_161 ?_
                    refine m_iret h hR rfl dX7_row_162 ?_
                    exact Or.inr ⟨hgd, Or.inr ⟨by show v.1 10 0 < 12; omega, by show v.1 10 0 + 1 - 1 = v.1 10 0; omega, hwe.1, hwe.2.1, hwe.2.2.1, hwe.2.2.2⟩⟩
            · skip
              refine m_sipush h dX7_row_68 (by decide) ?_
              refine m_iret h hR rfl dX7_row_71 ?_
              exact Or.inr ⟨hgd, Or.inl ⟨by show v.1 10 0 = 12; omega, rfl, rfl⟩⟩
          · skip
            refine m_sipush h dX7_row_52 (by decide) ?_
            refine m_iret h hR rfl dX7_row_55 ?_
            refine Or.inl ⟨fun q => ?_, rfl, rfl⟩
            obtain ⟨-, -, q3⟩ := q
            exact hb1.no (by omega) q3
        · skip
          refine m_sipush h dX7_row_28 (by decide) ?_
          refine m_iret h hR rfl dX7_row_31 ?_
          refine Or.inl ⟨fun q => ?_, rfl, rfl⟩
          obtain ⟨q1, q2, -⟩ := q
          omega
