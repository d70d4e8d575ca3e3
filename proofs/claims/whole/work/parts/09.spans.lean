/-! places of spans -/
theorem m_putJ {X : CX} {G : GT} {nL : Nat} {cc : ByteArray} {own : String} {D : Nat} {v : Mem} {pc : Nat} {lv : List (Option Value)} {st : List Value} (h : Ok X G nL cc own D) {ci k i index : Nat} {fs : List Value} {z : Int} (f : FldW ci k own index) (hi : i < 64) (hE : cE G v i = .inr (ci, fs)) (hl0 : k < fs.length) {kz : Int} (hk : ((k : Nat) : Int) = kz) (hE' : cE G (wI v i kz z) i = .inr (ci, fs.set k (.int (iI z)))) (hd : decode cc pc = .ok (.putfield index, 3)) (kk : M X G nL (wI v i kz z) (pc + 3) lv st) : M X G nL v pc lv (.int (iI z) :: .ref (G.2.1 i) :: st) := by
  subst hk
  exact m_putI h f hi hE hl0 hE' hd kk
def isSp (si : Nat) : Prop := si = 4 ∨ si = 7 ∨ si = 19
theorem isSp_lt {si : Nat} (h : isSp si) : si < 64 := by rcases h with rfl | rfl | rfl <;> decide
theorem cE_sp {G : GT} {v : Mem} {si : Nat} (h : isSp si) : cE G v si = .inr (5, [.ref (G.2.1 (si + 1)), .ref (G.2.1 (si + 2))]) := by rcases h with rfl | rfl | rfl <;> rfl
theorem ar_sp1 {G : GT} {si : Nat} (h : isSp si) : isAI G (si + 1) 8 := by rcases h with rfl | rfl | rfl <;> exact ⟨by decide, by decide, fun _ => rfl⟩
theorem ar_sp2 {G : GT} {si : Nat} (h : isSp si) : isAI G (si + 2) 8 := by rcases h with rfl | rfl | rfl <;> exact ⟨by decide, by decide, fun _ => rfl⟩
/-- a truth as 0 or 1 -/
def bz (z : Int) (P : Prop) : Prop := (z = 1 ∧ P) ∨ (z = 0 ∧ ¬ P)
theorem bz1 {P : Prop} (h : P) : bz 1 P := Or.inl ⟨rfl, h⟩
theorem bz0 {P : Prop} (h : ¬ P) : bz 0 P := Or.inr ⟨rfl, h⟩
theorem bz.in {z : Int} {P : Prop} (h : bz z P) : z = 0 ∨ z = 1 := h.elim (fun q => Or.inr q.1) (fun q => Or.inl q.1)
theorem bz.yes {z : Int} {P : Prop} (h : bz z P) (hz : z ≠ 0) : P := h.elim (fun q => q.2) (fun q => absurd q.1 hz)
theorem bz.no {z : Int} {P : Prop} (h : bz z P) (hz : z = 0) : ¬ P := h.elim (fun q => absurd (q.1.symm.trans hz) (by decide)) (fun q => q.2)

set_option maxRecDepth 100000 in
set_option maxHeartbeats 4000000 in
theorem c_covers (l : Launch) {G : GT} (hG : gok G) {si : Nat} (hsp : isSp si) (v : Mem) (n z : Int) (hn : 0 ≤ n ∧ n < 8) (hz : -2147483648 ≤ z ∧ z ≤ 2147483647) (hm : ∀ i x, -2147483648 ≤ v.1 i x ∧ v.1 i x ≤ 2147483647) : CC l G nX5_covers 0 [.ref (G.2.1 si), .int (iI n), .int (iI z)] v (qI G (fun r u => u = v ∧ bz r (v.1 (si + 1) n ≤ z ∧ z ≤ v.1 (si + 2) n))) := by
  refine m_start (lv := [some (.ref (G.2.1 si)), some (.int (iI n)), some (.int (iI z))]) hG (by decide +kernel) rfl (Nat.le_of_ble_eq_true rfl) ?_
  intro X hL h hR
  subst hL
  have h1 := hm (si + 1) n
  have h2 := hm (si + 2) n
  show M X G 3 v 0 [some (.ref (G.2.1 si)), some (.int (iI n)), some (.int (iI z))] []
  refine m_aload_n h dX5_covers_0 rfl rfl ?_
  refine m_get h fo_X5_9 (isSp_lt hsp) (cE_sp hsp) rfl dX5_covers_1 ?_
  refine m_iload_n h dX5_covers_4 rfl rfl ?_
  refine m_iald h (ar_sp1 hsp) (by omega) (by omega) dX5_covers_5 ?_
  refine m_iload_n h dX5_covers_6 rfl rfl ?_
  refine m_icmp_gt h dX5_covers_7 (tgt := 24) (by decide) (by omega) (by omega) (fun c1 => ?_) (fun c1 => ?_)
  · skip
    refine m_iconst h dX5_covers_24 ?_
    refine m_zret h hR rfl dX5_covers_25 (by omega) ?_
    exact ⟨rfl, bz0 (by omega)⟩
  · skip
    refine m_iload_n h dX5_covers_10 rfl rfl ?_
    refine m_aload_n h dX5_covers_11 rfl rfl ?_
    refine m_get h fo_X5_15 (isSp_lt hsp) (cE_sp hsp) rfl dX5_covers_12 ?_
    refine m_iload_n h dX5_covers_15 rfl rfl ?_
    refine m_iald h (ar_sp2 hsp) (by omega) (by omega) dX5_covers_16 ?_
    refine m_icmp_gt h dX5_covers_17 (tgt := 24) (by decide) (by omega) (by omega) (fun c2 => ?_) (fun c2 => ?_)
    · skip
      refine m_iconst h dX5_covers_24 ?_
      refine m_zret h hR rfl dX5_covers_25 (by omega) ?_
      exact ⟨rfl, bz0 (by omega)⟩
    · skip
      refine m_iconst h dX5_covers_20 ?_
      refine m_goto h dX5_covers_21 (tgt := 25) (by decide) ?_
      refine m_zret h hR rfl dX5_covers_25 (by omega) ?_
      exact ⟨rfl, bz1 (by omega)⟩

set_option maxRecDepth 100000 in
set_option maxHeartbeats 4000000 in
theorem c_isOnly (l : Launch) {G : GT} (hG : gok G) {si : Nat} (hsp : isSp si) (v : Mem) (n z : Int) (hn : 0 ≤ n ∧ n < 8) (hz : -2147483648 ≤ z ∧ z ≤ 2147483647) (hm : ∀ i x, -2147483648 ≤ v.1 i x ∧ v.1 i x ≤ 2147483647) : CC l G nX5_isOnly 0 [.ref (G.2.1 si), .int (iI n), .int (iI z)] v (qI G (fun r u => u = v ∧ bz r (v.1 (si + 1) n = z ∧ v.1 (si + 2) n = z))) := by
  refine m_start (lv := [some (.ref (G.2.1 si)), some (.int (iI n)), some (.int (iI z))]) hG (by decide +kernel) rfl (Nat.le_of_ble_eq_true rfl) ?_
  intro X hL h hR
  subst hL
  have h1 := hm (si + 1) n
  have h2 := hm (si + 2) n
  show M X G 3 v 0 [some (.ref (G.2.1 si)), some (.int (iI n)), some (.int (iI z))] []
  refine m_aload_n h dX5_isOnly_0 rfl rfl ?_
  refine m_get h fo_X5_9 (isSp_lt hsp) (cE_sp hsp) rfl dX5_isOnly_1 ?_
  refine m_iload_n h dX5_isOnly_4 rfl rfl ?_
  refine m_iald h (ar_sp1 hsp) (by omega) (by omega) dX5_isOnly_5 ?_
  refine m_iload_n h dX5_isOnly_6 rfl rfl ?_
  refine m_icmp_ne h dX5_isOnly_7 (tgt := 24) (by decide) (by omega) (by omega) (fun c1 => ?_) (fun c1 => ?_)
  · skip
    refine m_iconst h dX5_isOnly_24 ?_
    refine m_zret h hR rfl dX5_isOnly_25 (by omega) ?_
    exact ⟨rfl, bz0 (by omega)⟩
  · skip
    refine m_aload_n h dX5_isOnly_10 rfl rfl ?_
    refine m_get h fo_X5_15 (isSp_lt hsp) (cE_sp hsp) rfl dX5_isOnly_11 ?_
    refine m_iload_n h dX5_isOnly_14 rfl rfl ?_
    refine m_iald h (ar_sp2 hsp) (by omega) (by omega) dX5_isOnly_15 ?_
    refine m_iload_n h dX5_isOnly_16 rfl rfl ?_
    refine m_icmp_ne h dX5_isOnly_17 (tgt := 24) (by decide) (by omega) (by omega) (fun c2 => ?_) (fun c2 => ?_)
    · skip
      refine m_iconst h dX5_isOnly_24 ?_
      refine m_zret h hR rfl dX5_isOnly_25 (by omega) ?_
      exact ⟨rfl, bz0 (by omega)⟩
    · skip
      refine m_iconst h dX5_isOnly_20 ?_
      refine m_goto h dX5_isOnly_21 (tgt := 25) (by decide) ?_
      refine m_zret h hR rfl dX5_isOnly_25 (by omega) ?_
      exact ⟨rfl, bz1 (by omega)⟩
