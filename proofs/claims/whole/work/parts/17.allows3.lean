set_option maxRecDepth 100000 in
set_option maxHeartbeats 4000000 in
theorem c_allows (l : Launch) {G : GT} (hG : gok G) (v : Mem) {r : Nat} (hr : r < 12) (hrw : RwOk v r) {si : Nat} (hsp : isSp si) (hm : SpOk v si) (n : Int) (hn : 0 ≤ n ∧ n < 8) (z : Int) (hz : -32 ≤ z ∧ z ≤ 31) (p q : Int) (hp : p = sm (eoP (v.1 (40 + r) 0) (v.1 (40 + r) 4) (v.1 (52 + r)) (v.1 (si + 1)) (v.1 (si + 2)) n 0) 8) (hq : q = sm (eoP (v.1 (40 + r) 0) (v.1 (40 + r) 4) (v.1 (52 + r)) (v.1 (si + 1)) (v.1 (si + 2)) n 1) 8) (hab : Ab v r n) : CC l G nX1_allows 3 [.ref (G.2.1 (40 + r)), .int (iI n), .int (iI z), .ref (G.2.1 si), .int (iI p), .int (iI q)] v (qI G (fun w u => u = v ∧ bz w (Cn (v.1 (40 + r) 0) (v.1 (40 + r) 1) (v.1 (40 + r) 2) (v.1 (40 + r) 3) (v.1 (40 + r) 4) (v.1 (52 + r)) (up (v.1 (si + 1)) n z) (up (v.1 (si + 2)) n z)))) := by
  refine m_start (lv := [some (.ref (G.2.1 (40 + r))), some (.int (iI n)), some (.int (iI z)), some (.ref (G.2.1 si)), some (.int (iI p)), some (.int (iI q)), none]) hG (by decide +kernel) rfl (Nat.le_of_ble_eq_true rfl) ?_
  intro X hL h hR
  subst hL
  have hrw0 := hrw
  obtain ⟨k0, a0, b0, c0, R0, f0, kA, kB, kC, kD, kE⟩ := hrw
  have mA := hm (v.1 (40 + r) 1)
  have mB := hm (v.1 (40 + r) 2)
  have mC := hm (v.1 (40 + r) 3)
  have fn := f0 n
  have own := mulR (a := v.1 (52 + r) n) (b := z) (by omega) (by omega)
  have ge := eoP_b (k := (v.1 (40 + r) 0)) (R := (v.1 (40 + r) 4)) (n := n) (mb := 0) f0 (fun x => (sp_rg hm x).1) (fun x => (sp_rg hm x).2)
  have gf := eoP_b (k := (v.1 (40 + r) 0)) (R := (v.1 (40 + r) 4)) (n := n) (mb := 1) f0 (fun x => (sp_rg hm x).1) (fun x => (sp_rg hm x).2)
  rw [← hp] at ge
  rw [← hq] at gf
  unfold Ab at hab
  have kE2 : 2 ≤ v.1 (40 + r) 0 → v.1 (40 + r) 0 ≤ 7 → v.1 (52 + r) n = 0 := fun q1 q2 => kE q1 q2 n
  show M X G 7 v 0 [some (.ref (G.2.1 (40 + r))), some (.int (iI n)), some (.int (iI z)), some (.ref (G.2.1 si)), some (.int (iI p)), some (.int (iI q)), none] []
  refine m_aload_n h dX1_allows_0 rfl rfl ?_
  refine m_get h fo_X1_27 (by omega) (cE_row G _ hr) rfl dX1_allows_1 ?_
  refine m_iload_n h dX1_allows_4 rfl rfl ?_
  refine m_iald h (ar_fac G hr) (by omega) (by omega) dX1_allows_5 ?_
  refine m_iload_n h dX1_allows_6 rfl rfl ?_
  refine m_imul h dX1_allows_7 ?_
  refine m_istore h dX1_allows_8 (by decide) rfl ?_
  refine m_aload_n h dX1_allows_10 rfl rfl ?_
  refine m_get h fo_X1_9 (by omega) (cE_row G _ hr) rfl dX1_allows_11 ?_
  rcases (show v.1 (40 + r) 0 = 0 ∨ v.1 (40 + r) 0 = 1 ∨ v.1 (40 + r) 0 = 2 ∨ v.1 (40 + r) 0 = 3 ∨ v.1 (40 + r) 0 = 4 ∨ v.1 (40 + r) 0 = 5 ∨ v.1 (40 + r) 0 = 6 ∨ v.1 (40 + r) 0 = 7 ∨ v.1 (40 + r) 0 = 8 ∨ (v.1 (40 + r) 0 < 0 ∨ 8 < v.1 (40 + r) 0) by omega) with sw1 | sw1 | sw1 | sw1 | sw1 | sw1 | sw1 | sw1 | sw1 | sw1
  · skip
    refine m_tsIn h dX1_allows_14 (off := 50) (tgt := 64) (by omega) (by omega) (by omega) (by rw [sw1]; rfl) (by decide) ?_
    refine m_iload h dX1_allows_64 rfl ?_
    refine m_iload h dX1_allows_66 rfl ?_
    refine m_iadd h dX1_allows_68 ?_
    refine m_aload_n h dX1_allows_69 rfl rfl ?_
    refine m_get h fo_X1_24 (by omega) (cE_row G _ hr) rfl dX1_allows_70 ?_
    refine m_icmp_gt h dX1_allows_73 (tgt := 80) (by decide) (by omega) (by omega) (fun c2 => ?_) (fun c2 => ?_)
    · skip
      refine m_iconst h dX1_allows_80 ?_
      refine m_zret h hR rfl dX1_allows_81 (by omega) ?_
      refine ⟨rfl, bz.iff ?_ (al_0 (by omega) hn)⟩
      rw [← hp]
      exact bz0 (by omega)
    · skip
      refine m_iconst h dX1_allows_76 ?_
      refine m_goto h dX1_allows_77 (tgt := 81) (by decide) ?_
      refine m_zret h hR rfl dX1_allows_81 (by omega) ?_
      refine ⟨rfl, bz.iff ?_ (al_0 (by omega) hn)⟩
      rw [← hp]
      exact bz1 (by omega)
  · skip
    refine m_tsIn h dX1_allows_14 (off := 68) (tgt := 82) (by omega) (by omega) (by omega) (by rw [sw1]; rfl) (by decide) ?_
    refine m_iload h dX1_allows_82 rfl ?_
    refine m_iload h dX1_allows_84 rfl ?_
    refine m_iadd h dX1_allows_86 ?_
    refine m_aload_n h dX1_allows_87 rfl rfl ?_
    refine m_get h fo_X1_24 (by omega) (cE_row G _ hr) rfl dX1_allows_88 ?_
    refine m_icmp_gt h dX1_allows_91 (tgt := 110) (by decide) (by omega) (by omega) (fun c3 => ?_) (fun c3 => ?_)
    · skip
      refine m_iconst h dX1_allows_110 ?_
      refine m_zret h hR rfl dX1_allows_111 (by omega) ?_
      refine ⟨rfl, bz.iff ?_ (al_1 (by omega) hn)⟩
      rw [← hp, ← hq]
      exact bz0 (by omega)
    · skip
      refine m_iload h dX1_allows_94 rfl ?_
      refine m_iload h dX1_allows_96 rfl ?_
      refine m_iadd h dX1_allows_98 ?_
      refine m_aload_n h dX1_allows_99 rfl rfl ?_
      refine m_get h fo_X1_24 (by omega) (cE_row G _ hr) rfl dX1_allows_100 ?_
      refine m_icmp_lt h dX1_allows_103 (tgt := 110) (by decide) (by omega) (by omega) (fun c4 => ?_) (fun c4 => ?_)
      · skip
        refine m_iconst h dX1_allows_110 ?_
        refine m_zret h hR rfl dX1_allows_111 (by omega) ?_
        refine ⟨rfl, bz.iff ?_ (al_1 (by omega) hn)⟩
        rw [← hp, ← hq]
        exact bz0 (by omega)
      · skip
        refine m_iconst h dX1_allows_106 ?_
        refine m_goto h dX1_allows_107 (tgt := 111) (by decide) ?_
        refine m_zret h hR rfl dX1_allows_111 (by omega) ?_
        refine ⟨rfl, bz.iff ?_ (al_1 (by omega) hn)⟩
        rw [← hp, ← hq]
        exact bz1 (by omega)
  · skip
    refine m_tsIn h dX1_allows_14 (off := 98) (tgt := 112) (by omega) (by omega) (by omega) (by rw [sw1]; rfl) (by decide) ?_
    refine m_iload_n h dX1_allows_112 rfl rfl ?_
    refine m_aload_n h dX1_allows_113 rfl rfl ?_
    refine m_get h fo_X1_15 (by omega) (cE_row G _ hr) rfl dX1_allows_114 ?_
    refine m_icmp_ne h dX1_allows_117 (tgt := 129) (by decide) (by omega) (by omega) (fun c5 => ?_) (fun c5 => ?_)
    · skip
      refine m_aload_n h dX1_allows_129 rfl rfl ?_
      refine m_iload_n h dX1_allows_130 rfl rfl ?_
      refine m_iload_n h dX1_allows_131 rfl rfl ?_
      refine m_aload_n h dX1_allows_132 rfl rfl ?_
      refine m_get h fo_X1_18 (by omega) (cE_row G _ hr) rfl dX1_allows_133 ?_
      refine m_icmp_ne h dX1_allows_136 (tgt := 146) (by decide) (by omega) (by omega) (fun c6 => ?_) (fun c6 => ?_)
      · skip
        refine m_aload_n h dX1_allows_146 rfl rfl ?_
        refine m_get h fo_X1_18 (by omega) (cE_row G _ hr) rfl dX1_allows_147 ?_
        refine m_aload_n h dX1_allows_150 rfl rfl ?_
        refine m_vI h (c_allowsMultiplier _ hG _ hr hrw0 hsp hm z hz (v.1 (40 + r) 2) (by omega) (by omega)) moX1_allowsMultiplier voX1_allowsMultiplier lk_X1_62 dX1_allows_151 (by decide) (by omega) (cE_row G _ hr) rfl rfl (Nat.le_of_ble_eq_true rfl) (fun r7 u8 p9 => ?_)
        obtain ⟨hu9, hb⟩ := p9
        rw [hu9]
        have hbi := hb.in
        refine m_zret h hR rfl dX1_allows_154 hbi ?_
        first
          | (refine ⟨rfl, hb.iff (al_2a ?_ ?_ ?_ ?_)⟩ <;> omega)
          | (refine ⟨rfl, hb.iff (al_2b ?_ ?_ ?_ ?_)⟩ <;> omega)
          | (refine ⟨rfl, hb.iff (al_2c ?_ ?_ ?_ ?_)⟩ <;> omega)
      · skip
        refine m_aload_n h dX1_allows_139 rfl rfl ?_
        refine m_get h fo_X1_21 (by omega) (cE_row G _ hr) rfl dX1_allows_140 ?_
        refine m_goto h dX1_allows_143 (tgt := 150) (by decide) ?_
        refine m_aload_n h dX1_allows_150 rfl rfl ?_
        refine m_vI h (c_allowsMultiplier _ hG _ hr hrw0 hsp hm z hz (v.1 (40 + r) 3) (by omega) (by omega)) moX1_allowsMultiplier voX1_allowsMultiplier lk_X1_62 dX1_allows_151 (by decide) (by omega) (cE_row G _ hr) rfl rfl (Nat.le_of_ble_eq_true rfl) (fun r10 u11 p12 => ?_)
        obtain ⟨hu9, hb⟩ := p12
        rw [hu9]
        have hbi := hb.in
        refine m_zret h hR rfl dX1_allows_154 hbi ?_
        first
          | (refine ⟨rfl, hb.iff (al_2a ?_ ?_ ?_ ?_)⟩ <;> omega)
          | (refine ⟨rfl, hb.iff (al_2b ?_ ?_ ?_ ?_)⟩ <;> omega)
          | (refine ⟨rfl, hb.iff (al_2c ?_ ?_ ?_ ?_)⟩ <;> omega)
    · skip
      refine m_aload_n h dX1_allows_120 rfl rfl ?_
      refine m_iload_n h dX1_allows_121 rfl rfl ?_
      refine m_aload_n h dX1_allows_122 rfl rfl ?_
      refine m_vI h (c_allowsProduct _ hG _ hr hrw0 hsp hm z hz (by omega) (by omega)) moX1_allowsProduct voX1_allowsProduct lk_X1_58 dX1_allows_123 (by decide) (by omega) (cE_row G _ hr) rfl rfl (Nat.le_of_ble_eq_true rfl) (fun r13 u14 p15 => ?_)
      obtain ⟨hu9, hb⟩ := p15
      rw [hu9]
      have hbi := hb.in
      refine m_goto h dX1_allows_126 (tgt := 154) (by decide) ?_
      refine m_zret h hR rfl dX1_allows_154 hbi ?_
      first
        | (refine ⟨rfl, hb.iff (al_2a ?_ ?_ ?_ ?_)⟩ <;> omega)
        | (refine ⟨rfl, hb.iff (al_2b ?_ ?_ ?_ ?_)⟩ <;> omega)
        | (refine ⟨rfl, hb.iff (al_2c ?_ ?_ ?_ ?_)⟩ <;> omega)
  · skip
    refine m_tsIn h dX1_allows_14 (off := 141) (tgt := 155) (by omega) (by omega) (by omega) (by rw [sw1]; rfl) (by decide) ?_
    refine m_iload_n h dX1_allows_155 rfl rfl ?_
    refine m_aload_n h dX1_allows_156 rfl rfl ?_
    refine m_get h fo_X1_15 (by omega) (cE_row G _ hr) rfl dX1_allows_157 ?_
    refine m_icmp_ne h dX1_allows_160 (tgt := 172) (by decide) (by omega) (by omega) (fun c16 => ?_) (fun c16 => ?_)
    · skip
      refine m_iload_n h dX1_allows_172 rfl rfl ?_
      refine m_aload_n h dX1_allows_173 rfl rfl ?_
      refine m_get h fo_X1_18 (by omega) (cE_row G _ hr) rfl dX1_allows_174 ?_
      refine m_icmp_ne h dX1_allows_177 (tgt := 189) (by decide) (by omega) (by omega) (fun c17 => ?_) (fun c17 => ?_)
      · skip
        refine m_aload_n h dX1_allows_189 rfl rfl ?_
        refine m_iload_n h dX1_allows_190 rfl rfl ?_
        refine m_aload_n h dX1_allows_191 rfl rfl ?_
        refine m_vI h (c_allowsDivisor _ hG _ hr hrw0 hsp hm z hz (by omega) (by omega)) moX1_allowsDivisor voX1_allowsDivisor lk_X1_72 dX1_allows_192 (by decide) (by omega) (cE_row G _ hr) rfl rfl (Nat.le_of_ble_eq_true rfl) (fun r18 u19 p20 => ?_)
        obtain ⟨hu9, hb⟩ := p20
        rw [hu9]
        have hbi := hb.in
        refine m_zret h hR rfl dX1_allows_195 hbi ?_
        first
          | (refine ⟨rfl, hb.iff (al_3a ?_ ?_ ?_ ?_)⟩ <;> omega)
          | (refine ⟨rfl, hb.iff (al_3b ?_ ?_ ?_ ?_)⟩ <;> omega)
          | (refine ⟨rfl, hb.iff (al_3c ?_ ?_ ?_ ?_)⟩ <;> omega)
      · skip
        refine m_aload_n h dX1_allows_180 rfl rfl ?_
        refine m_iload_n h dX1_allows_181 rfl rfl ?_
        refine m_aload_n h dX1_allows_182 rfl rfl ?_
        refine m_vI h (c_allowsDividend _ hG _ hr hrw0 hsp hm z hz (by omega) (by omega)) moX1_allowsDividend voX1_allowsDividend lk_X1_69 dX1_allows_183 (by decide) (by omega) (cE_row G _ hr) rfl rfl (Nat.le_of_ble_eq_true rfl) (fun r21 u22 p23 => ?_)
        obtain ⟨hu9, hb⟩ := p23
        rw [hu9]
        have hbi := hb.in
        refine m_goto h dX1_allows_186 (tgt := 195) (by decide) ?_
        refine m_zret h hR rfl dX1_allows_195 hbi ?_
        first
          | (refine ⟨rfl, hb.iff (al_3a ?_ ?_ ?_ ?_)⟩ <;> omega)
          | (refine ⟨rfl, hb.iff (al_3b ?_ ?_ ?_ ?_)⟩ <;> omega)
          | (refine ⟨rfl, hb.iff (al_3c ?_ ?_ ?_ ?_)⟩ <;> omega)
    · skip
      refine m_aload_n h dX1_allows_163 rfl rfl ?_
      refine m_iload_n h dX1_allows_164 rfl rfl ?_
      refine m_aload_n h dX1_allows_165 rfl rfl ?_
      refine m_vI h (c_allowsQuotient _ hG _ hr hrw0 hsp hm z hz (by omega) (by omega)) moX1_allowsQuotient voX1_allowsQuotient lk_X1_66 dX1_allows_166 (by decide) (by omega) (cE_row G _ hr) rfl rfl (Nat.le_of_ble_eq_true rfl) (fun r24 u25 p26 => ?_)
      obtain ⟨hu9, hb⟩ := p26
      rw [hu9]
      have hbi := hb.in
      refine m_goto h dX1_allows_169 (tgt := 195) (by decide) ?_
      refine m_zret h hR rfl dX1_allows_195 hbi ?_
      first
        | (refine ⟨rfl, hb.iff (al_3a ?_ ?_ ?_ ?_)⟩ <;> omega)
        | (refine ⟨rfl, hb.iff (al_3b ?_ ?_ ?_ ?_)⟩ <;> omega)
        | (refine ⟨rfl, hb.iff (al_3c ?_ ?_ ?_ ?_)⟩ <;> omega)
  · skip
    refine m_tsIn h dX1_allows_14 (off := 182) (tgt := 196) (by omega) (by omega) (by omega) (by rw [sw1]; rfl) (by decide) ?_
    refine m_iload_n h dX1_allows_196 rfl rfl ?_
    refine m_aload_n h dX1_allows_197 rfl rfl ?_
    refine m_get h fo_X1_15 (by omega) (cE_row G _ hr) rfl dX1_allows_198 ?_
    refine m_icmp_ne h dX1_allows_201 (tgt := 241) (by decide) (by omega) (by omega) (fun c27 => ?_) (fun c27 => ?_)
    · skip
      refine m_aload_n h dX1_allows_241 rfl rfl ?_
      refine m_aload_n h dX1_allows_242 rfl rfl ?_
      refine m_get h fo_X1_15 (by omega) (cE_row G _ hr) rfl dX1_allows_243 ?_
      refine m_iload_n h dX1_allows_246 rfl rfl ?_
      refine m_abs h lk_X1_45 dX1_allows_247 (by decide) (Nat.le_of_ble_eq_true rfl) (by omega) ?_
      generalize hdv : (if 0 ≤ z then z else -z) = dv
      have hd2 : (0 ≤ z ∧ dv = z) ∨ (z < 0 ∧ dv = -z) := by
        split at hdv <;> omega
      refine m_vI h (c_cov _ hG hsp _ (v.1 (40 + r) 1) dv (by omega) (by omega) hm) moX5_covers voX5_covers lk_X1_75 dX1_allows_250 (by decide) (isSp_lt hsp) (cE_sp hsp) rfl rfl (Nat.le_of_ble_eq_true rfl) (fun r28 u29 p30 => ?_)
      obtain ⟨hu9, hb⟩ := p30
      rw [hu9]
      have hbi := hb.in
      refine m_zret h hR rfl dX1_allows_253 (by omega) ?_
      exact ⟨rfl, hb.iff (al_4b (by omega) (by omega) (by omega) hd2)⟩
    · skip
      refine m_iload_n h dX1_allows_204 rfl rfl ?_
      refine m_if_lt h dX1_allows_205 (tgt := 237) (by decide) (by omega) (fun c31 => ?_) (fun c31 => ?_)
      · skip
        refine m_iconst h dX1_allows_237 ?_
        refine m_goto h dX1_allows_238 (tgt := 253) (by decide) ?_
        refine m_zret h hR rfl dX1_allows_253 (by omega) ?_
        refine ⟨rfl, bz.iff ?_ (al_4a (by omega) (by omega) (by omega))⟩
        first | (exact bz0 ⟨by omega, Or.inl (hb.yes (by omega))⟩) | (exact bz0 ⟨by omega, Or.inr (hb2.yes (by omega))⟩) | (exact bz0 (fun q => by omega)) | (exact bz0 (fun q => q.2.elim (fun q => hb.no (by omega) q) (fun q => hb2.no (by omega) q)))
      · skip
        refine m_aload_n h dX1_allows_208 rfl rfl ?_
        refine m_aload_n h dX1_allows_209 rfl rfl ?_
        refine m_get h fo_X1_18 (by omega) (cE_row G _ hr) rfl dX1_allows_210 ?_
        refine m_iload_n h dX1_allows_213 rfl rfl ?_
        refine m_vI h (c_cov _ hG hsp _ (v.1 (40 + r) 2) z (by omega) (by omega) hm) moX5_covers voX5_covers lk_X1_75 dX1_allows_214 (by decide) (isSp_lt hsp) (cE_sp hsp) rfl rfl (Nat.le_of_ble_eq_true rfl) (fun r32 u33 p34 => ?_)
        obtain ⟨hu9, hb⟩ := p34
        rw [hu9]
        have hbi := hb.in
        refine m_if_ne h dX1_allows_217 (tgt := 233) (by decide) (by omega) (fun c35 => ?_) (fun c35 => ?_)
        · skip
          refine m_iconst h dX1_allows_233 ?_
          refine m_goto h dX1_allows_234 (tgt := 253) (by decide) ?_
          refine m_zret h hR rfl dX1_allows_253 (by omega) ?_
          refine ⟨rfl, bz.iff ?_ (al_4a (by omega) (by omega) (by omega))⟩
          first | (exact bz1 ⟨by omega, Or.inl (hb.yes (by omega))⟩) | (exact bz1 ⟨by omega, Or.inr (hb2.yes (by omega))⟩) | (exact bz1 (fun q => by omega)) | (exact bz1 (fun q => q.2.elim (fun q => hb.no (by omega) q) (fun q => hb2.no (by omega) q)))
        · skip
          refine m_aload_n h dX1_allows_220 rfl rfl ?_
          refine m_aload_n h dX1_allows_221 rfl rfl ?_
          refine m_get h fo_X1_18 (by omega) (cE_row G _ hr) rfl dX1_allows_222 ?_
          refine m_iload_n h dX1_allows_225 rfl rfl ?_
          refine m_ineg h dX1_allows_226 ?_
          refine m_vI h (c_cov _ hG hsp _ (v.1 (40 + r) 2) (-z) (by omega) (by omega) hm) moX5_covers voX5_covers lk_X1_75 dX1_allows_227 (by decide) (isSp_lt hsp) (cE_sp hsp) rfl rfl (Nat.le_of_ble_eq_true rfl) (fun r36 u37 p38 => ?_)
          obtain ⟨hu9, hb2⟩ := p38
          rw [hu9]
          have hbi2 := hb2.in
          refine m_if_eq h dX1_allows_230 (tgt := 237) (by decide) (by omega) (fun c39 => ?_) (fun c39 => ?_)
          · skip
            refine m_iconst h dX1_allows_237 ?_
            refine m_goto h dX1_allows_238 (tgt := 253) (by decide) ?_
            refine m_zret h hR rfl dX1_allows_253 (by omega) ?_
            refine ⟨rfl, bz.iff ?_ (al_4a (by omega) (by omega) (by omega))⟩
            first | (exact bz0 ⟨by omega, Or.inl (hb.yes (by omega))⟩) | (exact bz0 ⟨by omega, Or.inr (hb2.yes (by omega))⟩) | (exact bz0 (fun q => by omega)) | (exact bz0 (fun q => q.2.elim (fun q => hb.no (by omega) q) (fun q => hb2.no (by omega) q)))
          · skip
            refine m_iconst h dX1_allows_233 ?_
            refine m_goto h dX1_allows_234 (tgt := 253) (by decide) ?_
            refine m_zret h hR rfl dX1_allows_253 (by omega) ?_
            refine ⟨rfl, bz.iff ?_ (al_4a (by omega) (by omega) (by omega))⟩
            first | (exact bz1 ⟨by omega, Or.inl (hb.yes (by omega))⟩) | (exact bz1 ⟨by omega, Or.inr (hb2.yes (by omega))⟩) | (exact bz1 (fun q => by omega)) | (exact bz1 (fun q => q.2.elim (fun q => hb.no (by omega) q) (fun q => hb2.no (by omega) q)))
  · skip
    refine m_tsIn h dX1_allows_14 (off := 240) (tgt := 254) (by omega) (by omega) (by omega) (by rw [sw1]; rfl) (by decide) ?_
    refine m_iload_n h dX1_allows_254 rfl rfl ?_
    refine m_aload_n h dX1_allows_255 rfl rfl ?_
    refine m_get h fo_X1_15 (by omega) (cE_row G _ hr) rfl dX1_allows_256 ?_
    refine m_icmp_ne h dX1_allows_259 (tgt := 271) (by decide) (by omega) (by omega) (fun c40 => ?_) (fun c40 => ?_)
    · skip
      refine m_aload_n h dX1_allows_271 rfl rfl ?_
      refine m_iload_n h dX1_allows_272 rfl rfl ?_
      refine m_iload_n h dX1_allows_273 rfl rfl ?_
      refine m_aload_n h dX1_allows_274 rfl rfl ?_
      refine m_get h fo_X1_18 (by omega) (cE_row G _ hr) rfl dX1_allows_275 ?_
      refine m_icmp_ne h dX1_allows_278 (tgt := 288) (by decide) (by omega) (by omega) (fun c41 => ?_) (fun c41 => ?_)
      · skip
        refine m_aload_n h dX1_allows_288 rfl rfl ?_
        refine m_get h fo_X1_18 (by omega) (cE_row G _ hr) rfl dX1_allows_289 ?_
        refine m_aload_n h dX1_allows_292 rfl rfl ?_
        refine m_vI h (c_allowsBesideGreatest _ hG _ hr hrw0 hsp hm z hz (v.1 (40 + r) 2) (by omega) (by omega)) moX1_allowsBesideGreatest voX1_allowsBesideGreatest lk_X1_84 dX1_allows_293 (by decide) (by omega) (cE_row G _ hr) rfl rfl (Nat.le_of_ble_eq_true rfl) (fun r42 u43 p44 => ?_)
        obtain ⟨hu9, hb⟩ := p44
        rw [hu9]
        have hbi := hb.in
        refine m_zret h hR rfl dX1_allows_296 hbi ?_
        first
          | (refine ⟨rfl, hb.iff (al_5a ?_ ?_ ?_ ?_ ?_ ?_)⟩ <;> omega)
          | (refine ⟨rfl, hb.iff (al_5b ?_ ?_ ?_ ?_ ?_ ?_)⟩ <;> omega)
          | (refine ⟨rfl, hb.iff (al_5c ?_ ?_ ?_ ?_ ?_ ?_)⟩ <;> omega)
      · skip
        refine m_aload_n h dX1_allows_281 rfl rfl ?_
        refine m_get h fo_X1_21 (by omega) (cE_row G _ hr) rfl dX1_allows_282 ?_
        refine m_goto h dX1_allows_285 (tgt := 292) (by decide) ?_
        refine m_aload_n h dX1_allows_292 rfl rfl ?_
        refine m_vI h (c_allowsBesideGreatest _ hG _ hr hrw0 hsp hm z hz (v.1 (40 + r) 3) (by omega) (by omega)) moX1_allowsBesideGreatest voX1_allowsBesideGreatest lk_X1_84 dX1_allows_293 (by decide) (by omega) (cE_row G _ hr) rfl rfl (Nat.le_of_ble_eq_true rfl) (fun r45 u46 p47 => ?_)
        obtain ⟨hu9, hb⟩ := p47
        rw [hu9]
        have hbi := hb.in
        refine m_zret h hR rfl dX1_allows_296 hbi ?_
        first
          | (refine ⟨rfl, hb.iff (al_5a ?_ ?_ ?_ ?_ ?_ ?_)⟩ <;> omega)
          | (refine ⟨rfl, hb.iff (al_5b ?_ ?_ ?_ ?_ ?_ ?_)⟩ <;> omega)
          | (refine ⟨rfl, hb.iff (al_5c ?_ ?_ ?_ ?_ ?_ ?_)⟩ <;> omega)
    · skip
      refine m_aload_n h dX1_allows_262 rfl rfl ?_
      refine m_iload_n h dX1_allows_263 rfl rfl ?_
      refine m_aload_n h dX1_allows_264 rfl rfl ?_
      refine m_vI h (c_allowsGreatest _ hG _ hr hrw0 hsp hm z hz (by omega) (by omega)) moX1_allowsGreatest voX1_allowsGreatest lk_X1_81 dX1_allows_265 (by decide) (by omega) (cE_row G _ hr) rfl rfl (Nat.le_of_ble_eq_true rfl) (fun r48 u49 p50 => ?_)
      obtain ⟨hu9, hb⟩ := p50
      rw [hu9]
      have hbi := hb.in
      refine m_goto h dX1_allows_268 (tgt := 296) (by decide) ?_
      refine m_zret h hR rfl dX1_allows_296 hbi ?_
      first
        | (refine ⟨rfl, hb.iff (al_5a ?_ ?_ ?_ ?_ ?_ ?_)⟩ <;> omega)
        | (refine ⟨rfl, hb.iff (al_5b ?_ ?_ ?_ ?_ ?_ ?_)⟩ <;> omega)
        | (refine ⟨rfl, hb.iff (al_5c ?_ ?_ ?_ ?_ ?_ ?_)⟩ <;> omega)
  · skip
    refine m_tsIn h dX1_allows_14 (off := 283) (tgt := 297) (by omega) (by omega) (by omega) (by rw [sw1]; rfl) (by decide) ?_
    refine m_iload_n h dX1_allows_297 rfl rfl ?_
    refine m_aload_n h dX1_allows_298 rfl rfl ?_
    refine m_get h fo_X1_15 (by omega) (cE_row G _ hr) rfl dX1_allows_299 ?_
    refine m_icmp_ne h dX1_allows_302 (tgt := 314) (by decide) (by omega) (by omega) (fun c51 => ?_) (fun c51 => ?_)
    · skip
      refine m_aload_n h dX1_allows_314 rfl rfl ?_
      refine m_iload_n h dX1_allows_315 rfl rfl ?_
      refine m_iload_n h dX1_allows_316 rfl rfl ?_
      refine m_aload_n h dX1_allows_317 rfl rfl ?_
      refine m_get h fo_X1_18 (by omega) (cE_row G _ hr) rfl dX1_allows_318 ?_
      refine m_icmp_ne h dX1_allows_321 (tgt := 331) (by decide) (by omega) (by omega) (fun c52 => ?_) (fun c52 => ?_)
      · skip
        refine m_aload_n h dX1_allows_331 rfl rfl ?_
        refine m_get h fo_X1_18 (by omega) (cE_row G _ hr) rfl dX1_allows_332 ?_
        refine m_aload_n h dX1_allows_335 rfl rfl ?_
        refine m_vI h (c_allowsBesideLeast _ hG _ hr hrw0 hsp hm z hz (v.1 (40 + r) 2) (by omega) (by omega)) moX1_allowsBesideLeast voX1_allowsBesideLeast lk_X1_90 dX1_allows_336 (by decide) (by omega) (cE_row G _ hr) rfl rfl (Nat.le_of_ble_eq_true rfl) (fun r53 u54 p55 => ?_)
        obtain ⟨hu9, hb⟩ := p55
        rw [hu9]
        have hbi := hb.in
        refine m_zret h hR rfl dX1_allows_339 hbi ?_
        first
          | (refine ⟨rfl, hb.iff (al_6a ?_ ?_ ?_ ?_ ?_ ?_)⟩ <;> omega)
          | (refine ⟨rfl, hb.iff (al_6b ?_ ?_ ?_ ?_ ?_ ?_)⟩ <;> omega)
          | (refine ⟨rfl, hb.iff (al_6c ?_ ?_ ?_ ?_ ?_ ?_)⟩ <;> omega)
      · skip
        refine m_aload_n h dX1_allows_324 rfl rfl ?_
        refine m_get h fo_X1_21 (by omega) (cE_row G _ hr) rfl dX1_allows_325 ?_
        refine m_goto h dX1_allows_328 (tgt := 335) (by decide) ?_
        refine m_aload_n h dX1_allows_335 rfl rfl ?_
        refine m_vI h (c_allowsBesideLeast _ hG _ hr hrw0 hsp hm z hz (v.1 (40 + r) 3) (by omega) (by omega)) moX1_allowsBesideLeast voX1_allowsBesideLeast lk_X1_90 dX1_allows_336 (by decide) (by omega) (cE_row G _ hr) rfl rfl (Nat.le_of_ble_eq_true rfl) (fun r56 u57 p58 => ?_)
        obtain ⟨hu9, hb⟩ := p58
        rw [hu9]
        have hbi := hb.in
        refine m_zret h hR rfl dX1_allows_339 hbi ?_
        first
          | (refine ⟨rfl, hb.iff (al_6a ?_ ?_ ?_ ?_ ?_ ?_)⟩ <;> omega)
          | (refine ⟨rfl, hb.iff (al_6b ?_ ?_ ?_ ?_ ?_ ?_)⟩ <;> omega)
          | (refine ⟨rfl, hb.iff (al_6c ?_ ?_ ?_ ?_ ?_ ?_)⟩ <;> omega)
    · skip
      refine m_aload_n h dX1_allows_305 rfl rfl ?_
      refine m_iload_n h dX1_allows_306 rfl rfl ?_
      refine m_aload_n h dX1_allows_307 rfl rfl ?_
      refine m_vI h (c_allowsLeast _ hG _ hr hrw0 hsp hm z hz (by omega) (by omega)) moX1_allowsLeast voX1_allowsLeast lk_X1_87 dX1_allows_308 (by decide) (by omega) (cE_row G _ hr) rfl rfl (Nat.le_of_ble_eq_true rfl) (fun r59 u60 p61 => ?_)
      obtain ⟨hu9, hb⟩ := p61
      rw [hu9]
      have hbi := hb.in
      refine m_goto h dX1_allows_311 (tgt := 339) (by decide) ?_
      refine m_zret h hR rfl dX1_allows_339 hbi ?_
      first
        | (refine ⟨rfl, hb.iff (al_6a ?_ ?_ ?_ ?_ ?_ ?_)⟩ <;> omega)
        | (refine ⟨rfl, hb.iff (al_6b ?_ ?_ ?_ ?_ ?_ ?_)⟩ <;> omega)
        | (refine ⟨rfl, hb.iff (al_6c ?_ ?_ ?_ ?_ ?_ ?_)⟩ <;> omega)
  · skip
    refine m_tsIn h dX1_allows_14 (off := 326) (tgt := 340) (by omega) (by omega) (by omega) (by rw [sw1]; rfl) (by decide) ?_
    refine m_iload_n h dX1_allows_340 rfl rfl ?_
    refine m_aload_n h dX1_allows_341 rfl rfl ?_
    refine m_get h fo_X1_15 (by omega) (cE_row G _ hr) rfl dX1_allows_342 ?_
    refine m_icmp_ne h dX1_allows_345 (tgt := 373) (by decide) (by omega) (by omega) (fun c62 => ?_) (fun c62 => ?_)
    · skip
      refine m_aload_n h dX1_allows_373 rfl rfl ?_
      refine m_aload_n h dX1_allows_374 rfl rfl ?_
      refine m_get h fo_X1_15 (by omega) (cE_row G _ hr) rfl dX1_allows_375 ?_
      refine m_iload_n h dX1_allows_378 rfl rfl ?_
      refine m_aload_n h dX1_allows_379 rfl rfl ?_
      refine m_get h fo_X1_24 (by omega) (cE_row G _ hr) rfl dX1_allows_380 ?_
      refine m_iadd h dX1_allows_383 ?_
      refine m_vI h (c_onl _ hG hsp _ (v.1 (40 + r) 1) (z + (v.1 (40 + r) 4)) (by omega) (by omega) hm) moX5_isOnly voX5_isOnly lk_X1_93 dX1_allows_384 (by decide) (isSp_lt hsp) (cE_sp hsp) rfl rfl (Nat.le_of_ble_eq_true rfl) (fun r63 u64 p65 => ?_)
      obtain ⟨hu9, hb⟩ := p65
      rw [hu9]
      have hbi := hb.in
      refine m_if_ne h dX1_allows_387 (tgt := 394) (by decide) (by omega) (fun c66 => ?_) (fun c66 => ?_)
      · skip
        refine m_iconst h dX1_allows_394 ?_
        refine m_zret h hR rfl dX1_allows_395 (by omega) ?_
        first
          | (refine ⟨rfl, bz.iff ?_ (al_7a ?_ ?_ ?_ ?_)⟩ <;> first | omega | exact bz1 (hb.no (by omega)) | exact bz0 (fun q => q (hb.yes (by omega))))
          | (refine ⟨rfl, bz.iff ?_ (al_7b ?_ ?_ ?_ ?_)⟩ <;> first | omega | exact bz1 (hb.no (by omega)) | exact bz0 (fun q => q (hb.yes (by omega))))
      · skip
        refine m_iconst h dX1_allows_390 ?_
        refine m_goto h dX1_allows_391 (tgt := 395) (by decide) ?_
        refine m_zret h hR rfl dX1_allows_395 (by omega) ?_
        first
          | (refine ⟨rfl, bz.iff ?_ (al_7a ?_ ?_ ?_ ?_)⟩ <;> first | omega | exact bz1 (hb.no (by omega)) | exact bz0 (fun q => q (hb.yes (by omega))))
          | (refine ⟨rfl, bz.iff ?_ (al_7b ?_ ?_ ?_ ?_)⟩ <;> first | omega | exact bz1 (hb.no (by omega)) | exact bz0 (fun q => q (hb.yes (by omega))))
    · skip
      refine m_aload_n h dX1_allows_348 rfl rfl ?_
      refine m_aload_n h dX1_allows_349 rfl rfl ?_
      refine m_get h fo_X1_18 (by omega) (cE_row G _ hr) rfl dX1_allows_350 ?_
      refine m_iload_n h dX1_allows_353 rfl rfl ?_
      refine m_aload_n h dX1_allows_354 rfl rfl ?_
      refine m_get h fo_X1_24 (by omega) (cE_row G _ hr) rfl dX1_allows_355 ?_
      refine m_isub h dX1_allows_358 ?_
      refine m_vI h (c_onl _ hG hsp _ (v.1 (40 + r) 2) (z - (v.1 (40 + r) 4)) (by omega) (by omega) hm) moX5_isOnly voX5_isOnly lk_X1_93 dX1_allows_359 (by decide) (isSp_lt hsp) (cE_sp hsp) rfl rfl (Nat.le_of_ble_eq_true rfl) (fun r67 u68 p69 => ?_)
      obtain ⟨hu9, hb⟩ := p69
      rw [hu9]
      have hbi := hb.in
      refine m_if_ne h dX1_allows_362 (tgt := 369) (by decide) (by omega) (fun c70 => ?_) (fun c70 => ?_)
      · skip
        refine m_iconst h dX1_allows_369 ?_
        refine m_goto h dX1_allows_370 (tgt := 395) (by decide) ?_
        refine m_zret h hR rfl dX1_allows_395 (by omega) ?_
        first
          | (refine ⟨rfl, bz.iff ?_ (al_7a ?_ ?_ ?_ ?_)⟩ <;> first | omega | exact bz1 (hb.no (by omega)) | exact bz0 (fun q => q (hb.yes (by omega))))
          | (refine ⟨rfl, bz.iff ?_ (al_7b ?_ ?_ ?_ ?_)⟩ <;> first | omega | exact bz1 (hb.no (by omega)) | exact bz0 (fun q => q (hb.yes (by omega))))
      · skip
        refine m_iconst h dX1_allows_365 ?_
        refine m_goto h dX1_allows_366 (tgt := 395) (by decide) ?_
        refine m_zret h hR rfl dX1_allows_395 (by omega) ?_
        first
          | (refine ⟨rfl, bz.iff ?_ (al_7a ?_ ?_ ?_ ?_)⟩ <;> first | omega | exact bz1 (hb.no (by omega)) | exact bz0 (fun q => q (hb.yes (by omega))))
          | (refine ⟨rfl, bz.iff ?_ (al_7b ?_ ?_ ?_ ?_)⟩ <;> first | omega | exact bz1 (hb.no (by omega)) | exact bz0 (fun q => q (hb.yes (by omega))))
  · skip
    refine m_tsIn h dX1_allows_14 (off := 382) (tgt := 396) (by omega) (by omega) (by omega) (by rw [sw1]; rfl) (by decide) ?_
    refine m_iload_n h dX1_allows_396 rfl rfl ?_
    refine m_aload_n h dX1_allows_397 rfl rfl ?_
    refine m_get h fo_X1_15 (by omega) (cE_row G _ hr) rfl dX1_allows_398 ?_
    refine m_icmp_ne h dX1_allows_401 (tgt := 412) (by decide) (by omega) (by omega) (fun c71 => ?_) (fun c71 => ?_)
    · skip
      refine m_aload_n h dX1_allows_412 rfl rfl ?_
      refine m_aload_n h dX1_allows_413 rfl rfl ?_
      refine m_get h fo_X1_15 (by omega) (cE_row G _ hr) rfl dX1_allows_414 ?_
      refine m_iconst h dX1_allows_417 ?_
      refine m_vI h (c_onl _ hG hsp _ (v.1 (40 + r) 1) 1 (by omega) (by omega) hm) moX5_isOnly voX5_isOnly lk_X1_93 dX1_allows_418 (by decide) (isSp_lt hsp) (cE_sp hsp) rfl rfl (Nat.le_of_ble_eq_true rfl) (fun r72 u73 p74 => ?_)
      obtain ⟨hu9, hb⟩ := p74
      rw [hu9]
      have hbi := hb.in
      refine m_if_eq h dX1_allows_421 (tgt := 436) (by decide) (by omega) (fun c75 => ?_) (fun c75 => ?_)
      · skip
        refine m_iconst h dX1_allows_436 ?_
        refine m_goto h dX1_allows_437 (tgt := 441) (by decide) ?_
        refine m_zret h hR rfl dX1_allows_441 (by omega) ?_
        refine ⟨rfl, bz.iff ?_ (al_8 (by omega) hn)⟩
        rw [← hp]
        first | (exact bz1 (by omega)) | (have q9 := hb.yes (by omega); exact bz1 (by omega)) | (have q9 := hb.no (by omega); exact bz1 (by omega))
      · skip
        refine m_iload h dX1_allows_424 rfl ?_
        refine m_iload h dX1_allows_426 rfl ?_
        refine m_iadd h dX1_allows_428 ?_
        refine m_aload_n h dX1_allows_429 rfl rfl ?_
        refine m_get h fo_X1_24 (by omega) (cE_row G _ hr) rfl dX1_allows_430 ?_
        refine m_icmp_gt h dX1_allows_433 (tgt := 440) (by decide) (by omega) (by omega) (fun c76 => ?_) (fun c76 => ?_)
        · skip
          refine m_iconst h dX1_allows_440 ?_
          refine m_zret h hR rfl dX1_allows_441 (by omega) ?_
          refine ⟨rfl, bz.iff ?_ (al_8 (by omega) hn)⟩
          rw [← hp]
          first | (exact bz0 (by omega)) | (have q9 := hb.yes (by omega); exact bz0 (by omega)) | (have q9 := hb.no (by omega); exact bz0 (by omega))
        · skip
          refine m_iconst h dX1_allows_436 ?_
          refine m_goto h dX1_allows_437 (tgt := 441) (by decide) ?_
          refine m_zret h hR rfl dX1_allows_441 (by omega) ?_
          refine ⟨rfl, bz.iff ?_ (al_8 (by omega) hn)⟩
          rw [← hp]
          first | (exact bz1 (by omega)) | (have q9 := hb.yes (by omega); exact bz1 (by omega)) | (have q9 := hb.no (by omega); exact bz1 (by omega))
    · skip
      refine m_iload_n h dX1_allows_404 rfl rfl ?_
      refine m_iconst h dX1_allows_405 ?_
      refine m_icmp_eq h dX1_allows_406 (tgt := 424) (by decide) (by omega) (by omega) (fun c77 => ?_) (fun c77 => ?_)
      · skip
        refine m_iload h dX1_allows_424 rfl ?_
        refine m_iload h dX1_allows_426 rfl ?_
        refine m_iadd h dX1_allows_428 ?_
        refine m_aload_n h dX1_allows_429 rfl rfl ?_
        refine m_get h fo_X1_24 (by omega) (cE_row G _ hr) rfl dX1_allows_430 ?_
        refine m_icmp_gt h dX1_allows_433 (tgt := 440) (by decide) (by omega) (by omega) (fun c78 => ?_) (fun c78 => ?_)
        · skip
          refine m_iconst h dX1_allows_440 ?_
          refine m_zret h hR rfl dX1_allows_441 (by omega) ?_
          refine ⟨rfl, bz.iff ?_ (al_8 (by omega) hn)⟩
          rw [← hp]
          first | (exact bz0 (by omega)) | (have q9 := hb.yes (by omega); exact bz0 (by omega)) | (have q9 := hb.no (by omega); exact bz0 (by omega))
        · skip
          refine m_iconst h dX1_allows_436 ?_
          refine m_goto h dX1_allows_437 (tgt := 441) (by decide) ?_
          refine m_zret h hR rfl dX1_allows_441 (by omega) ?_
          refine ⟨rfl, bz.iff ?_ (al_8 (by omega) hn)⟩
          rw [← hp]
          first | (exact bz1 (by omega)) | (have q9 := hb.yes (by omega); exact bz1 (by omega)) | (have q9 := hb.no (by omega); exact bz1 (by omega))
      · skip
        refine m_goto h dX1_allows_409 (tgt := 436) (by decide) ?_
        refine m_iconst h dX1_allows_436 ?_
        refine m_goto h dX1_allows_437 (tgt := 441) (by decide) ?_
        refine m_zret h hR rfl dX1_allows_441 (by omega) ?_
        refine ⟨rfl, bz.iff ?_ (al_8 (by omega) hn)⟩
        rw [← hp]
        first | (exact bz1 (by omega)) | (have q9 := hb.yes (by omega); exact bz1 (by omega)) | (have q9 := hb.no (by omega); exact bz1 (by omega))
  · skip
    refine m_tsOut h dX1_allows_14 (tgt := 442) (by omega) (by omega) (by decide) ?_
    have hc9 : (0 ≤ p ∧ p ≤ q) ∧ q ≤ 8 := by
      have h9 := eoP_c (R := (v.1 (40 + r) 4)) (f := (v.1 (52 + r))) (lo := (v.1 (si + 1))) (hi := (v.1 (si + 2))) (n := n) (fun x => (hm x).2.1) 8
      rw [show v.1 (40 + r) 0 = 9 by omega] at hp hq
      rw [← hp, ← hq] at h9
      omega
    refine m_aload_n h dX1_allows_442 rfl rfl ?_
    refine m_iload_n h dX1_allows_443 rfl rfl ?_
    refine m_iload_n h dX1_allows_444 rfl rfl ?_
    refine m_aload_n h dX1_allows_445 rfl rfl ?_
    refine m_iload h dX1_allows_446 rfl ?_
    refine m_iload h dX1_allows_448 rfl ?_
    refine m_vI h (c_allowsInCount _ hG _ hr hrw0 hsp hm n hn z hz p q hc9.1 hc9.2 (by omega)) moX1_allowsInCount voX1_allowsInCount lk_X1_96 dX1_allows_450 (by decide) (by omega) (cE_row G _ hr) rfl rfl (Nat.le_of_ble_eq_true rfl) (fun r79 u80 p81 => ?_)
    obtain ⟨hu9, hb⟩ := p81
    rw [hu9]
    have hbi := hb.in
    refine m_zret h hR rfl dX1_allows_453 hbi ?_
    refine ⟨rfl, bz.iff ?_ (al_9 (by omega) hn (by omega) (by omega))⟩
    rw [← hp, ← hq]
    exact hb
