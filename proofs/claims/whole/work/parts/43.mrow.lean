set_option maxRecDepth 100000 in
set_option maxHeartbeats 4000000 in
theorem m_row (l : Launch) {G : GT} (hG : gok G) (v : Mem) (g : Cfg) (t : TT) (hg : GO g) (hRM : RMM g t v) (kd : Int) (hkd : -2147483648 ≤ kd ∧ kd ≤ 2147483647) (a : Int) (ha : -2147483648 ≤ a ∧ a ≤ 2147483647) (b : Int) (hb : -2147483648 ≤ b ∧ b ≤ 2147483647) (c : Int) (hc : -2147483648 ≤ c ∧ c ≤ 2147483647) (R : Int) (hR : -2147483648 ≤ R ∧ R ≤ 2147483647) : CC l G nX8_row 2 [.ref (G.2.1 25), .int (iI kd), .int (iI a), .int (iI b), .int (iI c), .int (iI R)] v (qI G (fun q u => (¬ RwGood g kd a b c R ∧ q = -1001 ∧ u = v) ∨ (RwGood g kd a b c R ∧ ((g_r g = 12 ∧ q = -1003 ∧ u = v) ∨ (g_r g < 12 ∧ q = g_r g ∧ RMM (rwG g kd (if 1 ≤ NKs kd then a else -1) (if 2 ≤ NKs kd then b else -1) (if 3 ≤ NKs kd then c else -1) R) (anT (rwG g kd (if 1 ≤ NKs kd then a else -1) (if 2 ≤ NKs kd then b else -1) (if 3 ≤ NKs kd then c else -1) R) t) u ∧ FrM v u))))) := by
  refine m_start (lv := [some (.ref (G.2.1 25)), some (.int (iI kd)), some (.int (iI a)), some (.int (iI b)), some (.int (iI c)), some (.int (iI R)), none, none, none]) hG (by decide +kernel) rfl (Nat.le_of_ble_eq_true rfl) ?_
  intro X hL h hR
  subst hL
  obtain ⟨⟨s0, s1, s2, s3⟩, hRt⟩ := id hRM
  have hgn := hg.1
  have hgr := hg.2.1
  show M X G 9 v 0 [some (.ref (G.2.1 25)), some (.int (iI kd)), some (.int (iI a)), some (.int (iI b)), some (.int (iI c)), some (.int (iI R)), none, none, none] []
  refine m_iload_n h dX8_row_0 rfl rfl ?_
  refine m_iconst h dX8_row_1 ?_
  refine m_bipush h dX8_row_2 (by decide) ?_
  refine m_sI h (m_in _ hG _ kd 0 9 (by omega) (by omega) (by omega)) moX8_in stX8_in lk_X8_60 dX8_row_4 (by decide) rfl rfl (Nat.le_of_ble_eq_true rfl) (fun r1 u2 p3 => ?_)
  obtain ⟨hu8, hb1⟩ := p3
  rw [hu8]
  have hb1i := hb1.in
  refine m_if_eq h dX8_row_7 (tgt := 24) (by decide) (by omega) (fun c4 => ?_) (fun c4 => ?_)
  · skip
    refine m_sipush h dX8_row_24 (by decide) ?_
    refine m_iret h hR rfl dX8_row_27 ?_
    refine Or.inl ⟨fun q => ?_, rfl, rfl⟩
    first | exact hb2.no (by omega) q.2.1 | exact hb1.no (by omega) q.1
  · skip
    refine m_iload h dX8_row_10 rfl ?_
    refine m_sipush h dX8_row_12 (by decide) ?_
    refine m_sipush h dX8_row_15 (by decide) ?_
    refine m_sI h (m_in _ hG _ R (-1000) 1000 (by omega) (by omega) (by omega)) moX8_in stX8_in lk_X8_60 dX8_row_18 (by decide) rfl rfl (Nat.le_of_ble_eq_true rfl) (fun r5 u6 p7 => ?_)
    obtain ⟨hu8, hb2⟩ := p7
    rw [hu8]
    have hb2i := hb2.in
    refine m_if_ne h dX8_row_21 (tgt := 28) (by decide) (by omega) (fun c8 => ?_) (fun c8 => ?_)
    · skip
      have h1 := hb1.yes (by omega)
      have h2 := hb2.yes (by omega)
      refine m_iload_n h dX8_row_28 rfl rfl ?_
      refine m_sI h (m_owns _ hG _ kd (by omega)) moX8_owns stX8_owns lk_X8_84 dX8_row_29 (by decide) rfl rfl (Nat.le_of_ble_eq_true rfl) (fun ow u10 p11 => ?_)
      obtain ⟨hu7, eow⟩ := p11
      rw [hu7]
      have hNr := nks_rg kd
      refine m_istore h dX8_row_32 (by decide) rfl ?_
      refine m_iload h dX8_row_34 rfl ?_
      refine m_iconst h dX8_row_36 ?_
      refine m_icmp_lt h dX8_row_37 (tgt := 48) (by decide) (by omega) (by omega) (fun c12 => ?_) (fun c12 => ?_)
      · skip
        refine m_iload h dX8_row_48 rfl ?_
        refine m_iconst h dX8_row_50 ?_
        refine m_icmp_lt h dX8_row_51 (tgt := 67) (by decide) (by omega) (by omega) (fun c13 => ?_) (fun c13 => ?_)
        · skip
          refine m_iload h dX8_row_67 rfl ?_
          refine m_iconst h dX8_row_69 ?_
          refine m_icmp_lt h dX8_row_70 (tgt := 94) (by decide) (by omega) (by omega) (fun c14 => ?_) (fun c14 => ?_)
          · skip
            have hgd3 : ((1 ≤ NKs kd → isNm g a) ∧ (2 ≤ NKs kd → isNm g b ∧ b ≠ a) ∧ (3 ≤ NKs kd → isNm g c ∧ c ≠ a ∧ c ≠ b)) := by
              refine ⟨fun q => ?_, fun q => ?_, fun q => ?_⟩
              · first | omega | exact hba.yes (by omega)
              · first | omega | exact ⟨hbb.yes (by omega), by omega⟩
              · first | omega | exact ⟨hbc.yes (by omega), by omega, by omega⟩
            refine m_iconst h dX8_row_94 ?_
            refine m_goto h dX8_row_95 (tgt := 99) (by decide) ?_
            refine m_istore h dX8_row_99 (by decide) rfl ?_
            refine m_iload h dX8_row_101 rfl ?_
            refine m_if_ne h dX8_row_103 (tgt := 110) (by decide) (by omega) (fun c15 => ?_) (fun c15 => ?_)
            · skip
              refine m_aload_n h dX8_row_110 rfl rfl ?_
              refine m_get h fo_X8_64 (by decide) rfl rfl dX8_row_111 ?_
              refine m_bipush h dX8_row_114 (by decide) ?_
              refine m_icmp_ne h dX8_row_116 (tgt := 123) (by decide) (by omega) (by omega) (fun c16 => ?_) (fun c16 => ?_)
              · skip
                have hgd : RwGood g kd a b c R := ⟨h1, h2, hgd3⟩
                have hr12 : g_r g < 12 := by omega
                have hNr := nks_rg kd
                refine m_aload_n h dX8_row_123 rfl rfl ?_
                refine m_get h fo_X8_16 (by decide) rfl rfl dX8_row_124 ?_
                refine m_aload_n h dX8_row_127 rfl rfl ?_
                refine m_get h fo_X8_64 (by decide) rfl rfl dX8_row_128 ?_
                show M X G 9 v 131 [some (.ref (G.2.1 25)), some (.int (iI kd)), some (.int (iI a)), some (.int (iI b)), some (.int (iI c)), some (.int (iI R)), some (.int (iI ow)), some (.int (iI 1)), none] [.int (iI (v.1 25 1)), .ref (G.2.1 28)]
                rw [s1]
                show M X G 9 v 131 [some (.ref (G.2.1 25)), some (.int (iI kd)), some (.int (iI a)), some (.int (iI b)), some (.int (iI c)), some (.int (iI R)), some (.int (iI ow)), some (.int (iI 1)), none] [.int (iI (g_r g)), .ref (G.2.1 28)]
                refine m_iload_n h dX8_row_131 rfl rfl ?_
                refine m_iast h (ar_28 G) (by omega) (by omega) dX8_row_132 ?_
                refine m_aload_n h dX8_row_133 rfl rfl ?_
                refine m_get h fo_X8_20 (by decide) rfl rfl dX8_row_134 ?_
                refine m_iconst h dX8_row_137 ?_
                refine m_aload_n h dX8_row_138 rfl rfl ?_
                refine m_get h fo_X8_64 (by decide) rfl rfl dX8_row_139 ?_
                show M X G 9 (wI v 28 (g_r g) kd) 142 [some (.ref (G.2.1 25)), some (.int (iI kd)), some (.int (iI a)), some (.int (iI b)), some (.int (iI c)), some (.int (iI R)), some (.int (iI ow)), some (.int (iI 1)), none] [.int (iI (v.1 25 1)), .int (iI 3), .ref (G.2.1 29)]
                show M X G 9 (wI v 28 (g_r g) kd) 142 [some (.ref (G.2.1 25)), some (.int (iI kd)), some (.int (iI a)), some (.int (iI b)), some (.int (iI c)), some (.int (iI R)), some (.int (iI ow)), some (.int (iI 1)), none] [.int (iI (v.1 25 1)), .int (iI 3), .ref (G.2.1 29)]
                rw [s1]
                show M X G 9 (wI v 28 (g_r g) kd) 142 [some (.ref (G.2.1 25)), some (.int (iI kd)), some (.int (iI a)), some (.int (iI b)), some (.int (iI c)), some (.int (iI R)), some (.int (iI ow)), some (.int (iI 1)), none] [.int (iI (g_r g)), .int (iI 3), .ref (G.2.1 29)]
                refine m_imul h dX8_row_142 ?_
                refine m_iload h dX8_row_143 rfl ?_
                refine m_if_le h dX8_row_145 (tgt := 152) (by decide) (by omega) (fun c17 => ?_) (fun c17 => ?_)
                · skip
                  refine m_sipush h dX8_row_152 (by decide) ?_
                  refine m_iast h (ar_29 G) (by omega) (by omega) dX8_row_155 ?_
                  refine m_aload_n h dX8_row_156 rfl rfl ?_
                  refine m_get h fo_X8_20 (by decide) rfl rfl dX8_row_157 ?_
                  refine m_iconst h dX8_row_160 ?_
                  refine m_aload_n h dX8_row_161 rfl rfl ?_
                  refine m_get h fo_X8_64 (by decide) rfl rfl dX8_row_162 ?_
                  show M X G 9 (wI (wI v 28 (g_r g) kd) 29 (3 * (g_r g)) (-1000)) 165 [some (.ref (G.2.1 25)), some (.int (iI kd)), some (.int (iI a)), some (.int (iI b)), some (.int (iI c)), some (.int (iI R)), some (.int (iI ow)), some (.int (iI 1)), none] [.int (iI (v.1 25 1)), .int (iI 3), .ref (G.2.1 29)]
                  show M X G 9 (wI (wI v 28 (g_r g) kd) 29 (3 * (g_r g)) (-1000)) 165 [some (.ref (G.2.1 25)), some (.int (iI kd)), some (.int (iI a)), some (.int (iI b)), some (.int (iI c)), some (.int (iI R)), some (.int (iI ow)), some (.int (iI 1)), none] [.int (iI (v.1 25 1)), .int (iI 3), .ref (G.2.1 29)]
                  rw [s1]
                  show M X G 9 (wI (wI v 28 (g_r g) kd) 29 (3 * (g_r g)) (-1000)) 165 [some (.ref (G.2.1 25)), some (.int (iI kd)), some (.int (iI a)), some (.int (iI b)), some (.int (iI c)), some (.int (iI R)), some (.int (iI ow)), some (.int (iI 1)), none] [.int (iI (g_r g)), .int (iI 3), .ref (G.2.1 29)]
                  refine m_imul h dX8_row_165 ?_
                  refine m_iconst h dX8_row_166 ?_
                  refine m_iadd h dX8_row_167 ?_
                  refine m_iload h dX8_row_168 rfl ?_
                  refine m_iconst h dX8_row_170 ?_
                  refine m_icmp_le h dX8_row_171 (tgt := 178) (by decide) (by omega) (by omega) (fun c18 => ?_) (fun c18 => ?_)
                  · skip
                    refine m_sipush h dX8_row_178 (by decide) ?_
                    refine m_iast h (ar_29 G) (by omega) (by omega) dX8_row_181 ?_
                    refine m_aload_n h dX8_row_182 rfl rfl ?_
                    refine m_get h fo_X8_20 (by decide) rfl rfl dX8_row_183 ?_
                    refine m_iconst h dX8_row_186 ?_
                    refine m_aload_n h dX8_row_187 rfl rfl ?_
                    refine m_get h fo_X8_64 (by decide) rfl rfl dX8_row_188 ?_
                    show M X G 9 (wI (wI (wI v 28 (g_r g) kd) 29 (3 * (g_r g)) (-1000)) 29 ((3 * (g_r g)) + 1) (-1000)) 191 [some (.ref (G.2.1 25)), some (.int (iI kd)), some (.int (iI a)), some (.int (iI b)), some (.int (iI c)), some (.int (iI R)), some (.int (iI ow)), some (.int (iI 1)), none] [.int (iI (v.1 25 1)), .int (iI 3), .ref (G.2.1 29)]
                    show M X G 9 (wI (wI (wI v 28 (g_r g) kd) 29 (3 * (g_r g)) (-1000)) 29 ((3 * (g_r g)) + 1) (-1000)) 191 [some (.ref (G.2.1 25)), some (.int (iI kd)), some (.int (iI a)), some (.int (iI b)), some (.int (iI c)), some (.int (iI R)), some (.int (iI ow)), some (.int (iI 1)), none] [.int (iI (v.1 25 1)), .int (iI 3), .ref (G.2.1 29)]
                    rw [s1]
                    show M X G 9 (wI (wI (wI v 28 (g_r g) kd) 29 (3 * (g_r g)) (-1000)) 29 ((3 * (g_r g)) + 1) (-1000)) 191 [some (.ref (G.2.1 25)), some (.int (iI kd)), some (.int (iI a)), some (.int (iI b)), some (.int (iI c)), some (.int (iI R)), some (.int (iI ow)), some (.int (iI 1)), none] [.int (iI (g_r g)), .int (iI 3), .ref (G.2.1 29)]
                    refine m_imul h dX8_row_191 ?_
                    refine m_iconst h dX8_row_192 ?_
                    refine m_iadd h dX8_row_193 ?_
                    refine m_iload h dX8_row_194 rfl ?_
                    refine m_iconst h dX8_row_196 ?_
                    refine m_icmp_le h dX8_row_197 (tgt := 205) (by decide) (by omega) (by omega) (fun c19 => ?_) (fun c19 => ?_)
                    · skip
                      refine m_sipush h dX8_row_205 (by decide) ?_
                      refine m_iast h (ar_29 G) (by omega) (by omega) dX8_row_208 ?_
                      refine m_aload_n h dX8_row_209 rfl rfl ?_
                      refine m_get h fo_X8_23 (by decide) rfl rfl dX8_row_210 ?_
                      refine m_aload_n h dX8_row_213 rfl rfl ?_
                      refine m_get h fo_X8_64 (by decide) rfl rfl dX8_row_214 ?_
                      show M X G 9 (wI (wI (wI (wI v 28 (g_r g) kd) 29 (3 * (g_r g)) (-1000)) 29 ((3 * (g_r g)) + 1) (-1000)) 29 ((3 * (g_r g)) + 2) (-1000)) 217 [some (.ref (G.2.1 25)), some (.int (iI kd)), some (.int (iI a)), some (.int (iI b)), some (.int (iI c)), some (.int (iI R)), some (.int (iI ow)), some (.int (iI 1)), none] [.int (iI (v.1 25 1)), .ref (G.2.1 30)]
                      show M X G 9 (wI (wI (wI (wI v 28 (g_r g) kd) 29 (3 * (g_r g)) (-1000)) 29 ((3 * (g_r g)) + 1) (-1000)) 29 ((3 * (g_r g)) + 2) (-1000)) 217 [some (.ref (G.2.1 25)), some (.int (iI kd)), some (.int (iI a)), some (.int (iI b)), some (.int (iI c)), some (.int (iI R)), some (.int (iI ow)), some (.int (iI 1)), none] [.int (iI (v.1 25 1)), .ref (G.2.1 30)]
                      rw [s1]
                      show M X G 9 (wI (wI (wI (wI v 28 (g_r g) kd) 29 (3 * (g_r g)) (-1000)) 29 ((3 * (g_r g)) + 1) (-1000)) 29 ((3 * (g_r g)) + 2) (-1000)) 217 [some (.ref (G.2.1 25)), some (.int (iI kd)), some (.int (iI a)), some (.int (iI b)), some (.int (iI c)), some (.int (iI R)), some (.int (iI ow)), some (.int (iI 1)), none] [.int (iI (g_r g)), .ref (G.2.1 30)]
                      refine m_iload h dX8_row_217 rfl ?_
                      refine m_iast h (ar_30 G) (by omega) (by omega) dX8_row_219 ?_
                      refine m_iconst h dX8_row_220 ?_
                      refine m_istore h dX8_row_221 (by decide) rfl ?_
                      refine m_kill 6 ?_
                      refine m_kill 7 ?_
                      have lp223 : ∀ (fuel : Nat) (k : Nat) (u : Mem), k ≤ 8 → 20 - k < fuel → rwF v (g_r g) kd (if 1 ≤ NKs kd then a else -1) (if 2 ≤ NKs kd then b else -1) (if 3 ≤ NKs kd then c else -1) R u → (∀ x, 0 ≤ x → x < (k : Int) → u.1 31 (8 * g_r g + x) = 0) → M X G 9 u 223 [some (.ref (G.2.1 25)), some (.int (iI kd)), some (.int (iI a)), some (.int (iI b)), some (.int (iI c)), some (.int (iI R)), none, none, some (.int (iI (k : Int)))] [] := by
                        intro fuel
                        induction fuel with
                        | zero => intro k u hk8 hfu hw hz; exfalso; omega
                        | succ fuel ih =>
                          intro k u hk8 hfu hw hz
                          have e25r : u.1 25 1 = g_r g := by rw [hw.1 25 (by decide) (by decide) (by decide) (by decide)]; exact s1
                          refine m_iload h dX8_row_223 rfl ?_
                          refine m_bipush h dX8_row_225 (by decide) ?_
                          refine m_icmp_ge h dX8_row_227 (tgt := 252) (by decide) (by omega) (by omega) (fun c20 => ?_) (fun c20 => ?_)
                          · skip
                            have hz8 : ∀ x, 0 ≤ x → x < 8 → u.1 31 (8 * g_r g + x) = 0 := fun x q1 q2 => hz x q1 (by omega)
                            refine m_aload_n h dX8_row_252 rfl rfl ?_
                            refine m_dup h dX8_row_253 rfl ?_
                            refine m_get h fo_X8_64 (by decide) rfl rfl dX8_row_254 ?_
                            show M X G 9 u 257 [some (.ref (G.2.1 25)), some (.int (iI kd)), some (.int (iI a)), some (.int (iI b)), some (.int (iI c)), some (.int (iI R)), none, none, some (.int (iI (k : Int)))] [.int (iI (u.1 25 1)), .ref (G.2.1 25)]
                            rw [e25r]
                            show M X G 9 u 257 [some (.ref (G.2.1 25)), some (.int (iI kd)), some (.int (iI a)), some (.int (iI b)), some (.int (iI c)), some (.int (iI R)), none, none, some (.int (iI (k : Int)))] [.int (iI (g_r g)), .ref (G.2.1 25)]
                            refine m_iconst h dX8_row_257 ?_
                            refine m_iadd h dX8_row_258 ?_
                            refine m_putJ h fw_X8_64 (by decide) rfl (Nat.le_of_ble_eq_true rfl) (kz := 1) rfl rfl dX8_row_259 ?_
                            have hS1 := rwF_s ⟨s0, s1, s2, s3⟩ hg hr12 hw hz8
                            have hF1 : FrM v (wI u 25 1 ((g_r g) + 1)) := FrM.w ⟨fun i hi => hw.1 i (by omega) (by omega) (by omega) (by omega), hw.2.1⟩ (by omega)
                            refine m_aload_n h dX8_row_262 rfl rfl ?_
                            refine m_vV h (m_anew _ hG _ (by intro x x0 x1; exact hS1.2.2.1.z x x0 x1)) moX8_anew voX8_anew lk_X8_73 dX8_row_263 (by decide) (by decide) rfl rfl rfl (Nat.le_of_ble_eq_true rfl) (fun ua p23 => ?_)
                            have hRa := RM_an hS1 p23 t
                            have hFa := hF1.tr (ANW.m p23)
                            have hAn := p23
                            refine m_aload_n h dX8_row_266 rfl rfl ?_
                            refine m_get h fo_X8_64 (by decide) rfl rfl dX8_row_267 ?_
                            refine m_iconst h dX8_row_270 ?_
                            refine m_isub h dX8_row_271 ?_
                            refine m_iret h hR rfl dX8_row_272 ?_
                            refine Or.inr ⟨hgd, Or.inr ⟨hr12, ?_, hRa, hFa⟩⟩
                            have : ua.1 25 1 = g_r g + 1 := hRa.1.2.1
                            omega
                          · skip
                            refine m_aload_n h dX8_row_230 rfl rfl ?_
                            refine m_get h fo_X8_26 (by decide) rfl rfl dX8_row_231 ?_
                            refine m_bipush h dX8_row_234 (by decide) ?_
                            refine m_aload_n h dX8_row_236 rfl rfl ?_
                            refine m_get h fo_X8_64 (by decide) rfl rfl dX8_row_237 ?_
                            show M X G 9 u 240 [some (.ref (G.2.1 25)), some (.int (iI kd)), some (.int (iI a)), some (.int (iI b)), some (.int (iI c)), some (.int (iI R)), none, none, some (.int (iI (k : Int)))] [.int (iI (u.1 25 1)), .int (iI 8), .ref (G.2.1 31)]
                            rw [e25r]
                            show M X G 9 u 240 [some (.ref (G.2.1 25)), some (.int (iI kd)), some (.int (iI a)), some (.int (iI b)), some (.int (iI c)), some (.int (iI R)), none, none, some (.int (iI (k : Int)))] [.int (iI (g_r g)), .int (iI 8), .ref (G.2.1 31)]
                            refine m_imul h dX8_row_240 ?_
                            refine m_iload h dX8_row_241 rfl ?_
                            refine m_iadd h dX8_row_243 ?_
                            refine m_iconst h dX8_row_244 ?_
                            refine m_iast h (ar_31 G) (by omega) (by omega) dX8_row_245 ?_
                            refine m_iinc h dX8_row_246 rfl (by decide) rfl ?_
                            refine m_goto h dX8_row_249 (tgt := 223) (by decide) ?_
                            refine ih (k + 1) _ (by omega) (by omega) (rwF_w hw (by omega)) (fun x x0 x1 => ?_)
                            by_cases e : x = (k : Int)
                            · subst e; rw [wI_s]
                            · rw [wI_n (by omega)]; exact hz x x0 (by omega)
                      exact lp223 100 0 _ (by omega) (by omega) (rwF_i (by rw [if_neg (by omega)]; rfl) (by rw [if_neg (by omega)]; rfl) (by rw [if_neg (by omega)]; rfl)) (fun x q1 q2 => by omega)
                    · skip
                      refine m_iload h dX8_row_200 rfl ?_
                      refine m_goto h dX8_row_202 (tgt := 208) (by decide) ?_
                      refine m_iast h (ar_29 G) (by omega) (by omega) dX8_row_208 ?_
                      refine m_aload_n h dX8_row_209 rfl rfl ?_
                      refine m_get h fo_X8_23 (by decide) rfl rfl dX8_row_210 ?_
                      refine m_aload_n h dX8_row_213 rfl rfl ?_
                      refine m_get h fo_X8_64 (by decide) rfl rfl dX8_row_214 ?_
                      show M X G 9 (wI (wI (wI (wI v 28 (g_r g) kd) 29 (3 * (g_r g)) (-1000)) 29 ((3 * (g_r g)) + 1) (-1000)) 29 ((3 * (g_r g)) + 2) c) 217 [some (.ref (G.2.1 25)), some (.int (iI kd)), some (.int (iI a)), some (.int (iI b)), some (.int (iI c)), some (.int (iI R)), some (.int (iI ow)), some (.int (iI 1)), none] [.int (iI (v.1 25 1)), .ref (G.2.1 30)]
                      show M X G 9 (wI (wI (wI (wI v 28 (g_r g) kd) 29 (3 * (g_r g)) (-1000)) 29 ((3 * (g_r g)) + 1) (-1000)) 29 ((3 * (g_r g)) + 2) c) 217 [some (.ref (G.2.1 25)), some (.int (iI kd)), some (.int (iI a)), some (.int (iI b)), some (.int (iI c)), some (.int (iI R)), some (.int (iI ow)), some (.int (iI 1)), none] [.int (iI (v.1 25 1)), .ref (G.2.1 30)]
                      rw [s1]
                      show M X G 9 (wI (wI (wI (wI v 28 (g_r g) kd) 29 (3 * (g_r g)) (-1000)) 29 ((3 * (g_r g)) + 1) (-1000)) 29 ((3 * (g_r g)) + 2) c) 217 [some (.ref (G.2.1 25)), some (.int (iI kd)), some (.int (iI a)), some (.int (iI b)), some (.int (iI c)), some (.int (iI R)), some (.int (iI ow)), some (.int (iI 1)), none] [.int (iI (g_r g)), .ref (G.2.1 30)]
                      refine m_iload h dX8_row_217 rfl ?_
                      refine m_iast h (ar_30 G) (by omega) (by omega) dX8_row_219 ?_
                      refine m_iconst h dX8_row_220 ?_
                      refine m_istore h dX8_row_221 (by decide) rfl ?_
                      refine m_kill 6 ?_
                      refine m_kill 7 ?_
                      have lp223 : ∀ (fuel : Nat) (k : Nat) (u : Mem), k ≤ 8 → 20 - k < fuel → rwF v (g_r g) kd (if 1 ≤ NKs kd then a else -1) (if 2 ≤ NKs kd then b else -1) (if 3 ≤ NKs kd then c else -1) R u → (∀ x, 0 ≤ x → x < (k : Int) → u.1 31 (8 * g_r g + x) = 0) → M X G 9 u 223 [some (.ref (G.2.1 25)), some (.int (iI kd)), some (.int (iI a)), some (.int (iI b)), some (.int (iI c)), some (.int (iI R)), none, none, some (.int (iI (k : Int)))] [] := by
                        intro fuel
                        induction fuel with
                        | zero => intro k u hk8 hfu hw hz; exfalso; omega
                        | succ fuel ih =>
                          intro k u hk8 hfu hw hz
                          have e25r : u.1 25 1 = g_r g := by rw [hw.1 25 (by decide) (by decide) (by decide) (by decide)]; exact s1
                          refine m_iload h dX8_row_223 rfl ?_
                          refine m_bipush h dX8_row_225 (by decide) ?_
                          refine m_icmp_ge h dX8_row_227 (tgt := 252) (by decide) (by omega) (by omega) (fun c24 => ?_) (fun c24 => ?_)
                          · skip
                            have hz8 : ∀ x, 0 ≤ x → x < 8 → u.1 31 (8 * g_r g + x) = 0 := fun x q1 q2 => hz x q1 (by omega)
                            refine m_aload_n h dX8_row_252 rfl rfl ?_
                            refine m_dup h dX8_row_253 rfl ?_
                            refine m_get h fo_X8_64 (by decide) rfl rfl dX8_row_254 ?_
                            show M X G 9 u 257 [some (.ref (G.2.1 25)), some (.int (iI kd)), some (.int (iI a)), some (.int (iI b)), some (.int (iI c)), some (.int (iI R)), none, none, some (.int (iI (k : Int)))] [.int (iI (u.1 25 1)), .ref (G.2.1 25)]
                            rw [e25r]
                            show M X G 9 u 257 [some (.ref (G.2.1 25)), some (.int (iI kd)), some (.int (iI a)), some (.int (iI b)), some (.int (iI c)), some (.int (iI R)), none, none, some (.int (iI (k : Int)))] [.int (iI (g_r g)), .ref (G.2.1 25)]
                            refine m_iconst h dX8_row_257 ?_
                            refine m_iadd h dX8_row_258 ?_
                            refine m_putJ h fw_X8_64 (by decide) rfl (Nat.le_of_ble_eq_true rfl) (kz := 1) rfl rfl dX8_row_259 ?_
                            have hS1 := rwF_s ⟨s0, s1, s2, s3⟩ hg hr12 hw hz8
                            have hF1 : FrM v (wI u 25 1 ((g_r g) + 1)) := FrM.w ⟨fun i hi => hw.1 i (by omega) (by omega) (by omega) (by omega), hw.2.1⟩ (by omega)
                            refine m_aload_n h dX8_row_262 rfl rfl ?_
                            refine m_vV h (m_anew _ hG _ (by intro x x0 x1; exact hS1.2.2.1.z x x0 x1)) moX8_anew voX8_anew lk_X8_73 dX8_row_263 (by decide) (by decide) rfl rfl rfl (Nat.le_of_ble_eq_true rfl) (fun ua p27 => ?_)
                            have hRa := RM_an hS1 p27 t
                            have hFa := hF1.tr (ANW.m p27)
                            have hAn := p27
                            refine m_aload_n h dX8_row_266 rfl rfl ?_
                            refine m_get h fo_X8_64 (by decide) rfl rfl dX8_row_267 ?_
                            refine m_iconst h dX8_row_270 ?_
                            refine m_isub h dX8_row_271 ?_
                            refine m_iret h hR rfl dX8_row_272 ?_
                            refine Or.inr ⟨hgd, Or.inr ⟨hr12, ?_, hRa, hFa⟩⟩
                            have : ua.1 25 1 = g_r g + 1 := hRa.1.2.1
                            omega
                          · skip
                            refine m_aload_n h dX8_row_230 rfl rfl ?_
                            refine m_get h fo_X8_26 (by decide) rfl rfl dX8_row_231 ?_
                            refine m_bipush h dX8_row_234 (by decide) ?_
                            refine m_aload_n h dX8_row_236 rfl rfl ?_
                            refine m_get h fo_X8_64 (by decide) rfl rfl dX8_row_237 ?_
                            show M X G 9 u 240 [some (.ref (G.2.1 25)), some (.int (iI kd)), some (.int (iI a)), some (.int (iI b)), some (.int (iI c)), some (.int (iI R)), none, none, some (.int (iI (k : Int)))] [.int (iI (u.1 25 1)), .int (iI 8), .ref (G.2.1 31)]
                            rw [e25r]
                            show M X G 9 u 240 [some (.ref (G.2.1 25)), some (.int (iI kd)), some (.int (iI a)), some (.int (iI b)), some (.int (iI c)), some (.int (iI R)), none, none, some (.int (iI (k : Int)))] [.int (iI (g_r g)), .int (iI 8), .ref (G.2.1 31)]
                            refine m_imul h dX8_row_240 ?_
                            refine m_iload h dX8_row_241 rfl ?_
                            refine m_iadd h dX8_row_243 ?_
                            refine m_iconst h dX8_row_244 ?_
                            refine m_iast h (ar_31 G) (by omega) (by omega) dX8_row_245 ?_
                            refine m_iinc h dX8_row_246 rfl (by decide) rfl ?_
                            refine m_goto h dX8_row_249 (tgt := 223) (by decide) ?_
                            refine ih (k + 1) _ (by omega) (by omega) (rwF_w hw (by omega)) (fun x x0 x1 => ?_)
                            by_cases e : x = (k : Int)
                            · subst e; rw [wI_s]
                            · rw [wI_n (by omega)]; exact hz x x0 (by omega)
                      exact lp223 100 0 _ (by omega) (by omega) (rwF_i (by rw [if_neg (by omega)]; rfl) (by rw [if_neg (by omega)]; rfl) (by rw [if_pos (by omega)]; exact (mN_nn (by have : isNm g c := (hgd.2.2.2.2 (by omega)).1; exact this.1)).symm)) (fun x q1 q2 => by omega)
                  · skip
                    refine m_iload_n h dX8_row_174 rfl rfl ?_
                    refine m_goto h dX8_row_175 (tgt := 181) (by decide) ?_
                    refine m_iast h (ar_29 G) (by omega) (by omega) dX8_row_181 ?_
                    refine m_aload_n h dX8_row_182 rfl rfl ?_
                    refine m_get h fo_X8_20 (by decide) rfl rfl dX8_row_183 ?_
                    refine m_iconst h dX8_row_186 ?_
                    refine m_aload_n h dX8_row_187 rfl rfl ?_
                    refine m_get h fo_X8_64 (by decide) rfl rfl dX8_row_188 ?_
                    show M X G 9 (wI (wI (wI v 28 (g_r g) kd) 29 (3 * (g_r g)) (-1000)) 29 ((3 * (g_r g)) + 1) b) 191 [some (.ref (G.2.1 25)), some (.int (iI kd)), some (.int (iI a)), some (.int (iI b)), some (.int (iI c)), some (.int (iI R)), some (.int (iI ow)), some (.int (iI 1)), none] [.int (iI (v.1 25 1)), .int (iI 3), .ref (G.2.1 29)]
                    show M X G 9 (wI (wI (wI v 28 (g_r g) kd) 29 (3 * (g_r g)) (-1000)) 29 ((3 * (g_r g)) + 1) b) 191 [some (.ref (G.2.1 25)), some (.int (iI kd)), some (.int (iI a)), some (.int (iI b)), some (.int (iI c)), some (.int (iI R)), some (.int (iI ow)), some (.int (iI 1)), none] [.int (iI (v.1 25 1)), .int (iI 3), .ref (G.2.1 29)]
                    rw [s1]
                    show M X G 9 (wI (wI (wI v 28 (g_r g) kd) 29 (3 * (g_r g)) (-1000)) 29 ((3 * (g_r g)) + 1) b) 191 [some (.ref (G.2.1 25)), some (.int (iI kd)), some (.int (iI a)), some (.int (iI b)), some (.int (iI c)), some (.int (iI R)), some (.int (iI ow)), some (.int (iI 1)), none] [.int (iI (g_r g)), .int (iI 3), .ref (G.2.1 29)]
                    refine m_imul h dX8_row_191 ?_
                    refine m_iconst h dX8_row_192 ?_
                    refine m_iadd h dX8_row_193 ?_
                    refine m_iload h dX8_row_194 rfl ?_
                    refine m_iconst h dX8_row_196 ?_
                    refine m_icmp_le h dX8_row_197 (tgt := 205) (by decide) (by omega) (by omega) (fun c28 => ?_) (fun c28 => ?_)
                    · skip
                      refine m_sipush h dX8_row_205 (by decide) ?_
                      refine m_iast h (ar_29 G) (by omega) (by omega) dX8_row_208 ?_
                      refine m_aload_n h dX8_row_209 rfl rfl ?_
                      refine m_get h fo_X8_23 (by decide) rfl rfl dX8_row_210 ?_
                      refine m_aload_n h dX8_row_213 rfl rfl ?_
                      refine m_get h fo_X8_64 (by decide) rfl rfl dX8_row_214 ?_
                      show M X G 9 (wI (wI (wI (wI v 28 (g_r g) kd) 29 (3 * (g_r g)) (-1000)) 29 ((3 * (g_r g)) + 1) b) 29 ((3 * (g_r g)) + 2) (-1000)) 217 [some (.ref (G.2.1 25)), some (.int (iI kd)), some (.int (iI a)), some (.int (iI b)), some (.int (iI c)), some (.int (iI R)), some (.int (iI ow)), some (.int (iI 1)), none] [.int (iI (v.1 25 1)), .ref (G.2.1 30)]
                      show M X G 9 (wI (wI (wI (wI v 28 (g_r g) kd) 29 (3 * (g_r g)) (-1000)) 29 ((3 * (g_r g)) + 1) b) 29 ((3 * (g_r g)) + 2) (-1000)) 217 [some (.ref (G.2.1 25)), some (.int (iI kd)), some (.int (iI a)), some (.int (iI b)), some (.int (iI c)), some (.int (iI R)), some (.int (iI ow)), some (.int (iI 1)), none] [.int (iI (v.1 25 1)), .ref (G.2.1 30)]
                      rw [s1]
                      show M X G 9 (wI (wI (wI (wI v 28 (g_r g) kd) 29 (3 * (g_r g)) (-1000)) 29 ((3 * (g_r g)) + 1) b) 29 ((3 * (g_r g)) + 2) (-1000)) 217 [some (.ref (G.2.1 25)), some (.int (iI kd)), some (.int (iI a)), some (.int (iI b)), some (.int (iI c)), some (.int (iI R)), some (.int (iI ow)), some (.int (iI 1)), none] [.int (iI (g_r g)), .ref (G.2.1 30)]
                      refine m_iload h dX8_row_217 rfl ?_
                      refine m_iast h (ar_30 G) (by omega) (by omega) dX8_row_219 ?_
                      refine m_iconst h dX8_row_220 ?_
                      refine m_istore h dX8_row_221 (by decide) rfl ?_
                      refine m_kill 6 ?_
                      refine m_kill 7 ?_
                      have lp223 : ∀ (fuel : Nat) (k : Nat) (u : Mem), k ≤ 8 → 20 - k < fuel → rwF v (g_r g) kd (if 1 ≤ NKs kd then a else -1) (if 2 ≤ NKs kd then b else -1) (if 3 ≤ NKs kd then c else -1) R u → (∀ x, 0 ≤ x → x < (k : Int) → u.1 31 (8 * g_r g + x) = 0) → M X G 9 u 223 [some (.ref (G.2.1 25)), some (.int (iI kd)), some (.int (iI a)), some (.int (iI b)), some (.int (iI c)), some (.int (iI R)), none, none, some (.int (iI (k : Int)))] [] := by
                        intro fuel
                        induction fuel with
                        | zero => intro k u hk8 hfu hw hz; exfalso; omega
                        | succ fuel ih =>
                          intro k u hk8 hfu hw hz
                          have e25r : u.1 25 1 = g_r g := by rw [hw.1 25 (by decide) (by decide) (by decide) (by decide)]; exact s1
                          refine m_iload h dX8_row_223 rfl ?_
                          refine m_bipush h dX8_row_225 (by decide) ?_
                          refine m_icmp_ge h dX8_row_227 (tgt := 252) (by decide) (by omega) (by omega) (fun c29 => ?_) (fun c29 => ?_)
                          · skip
                            have hz8 : ∀ x, 0 ≤ x → x < 8 → u.1 31 (8 * g_r g + x) = 0 := fun x q1 q2 => hz x q1 (by omega)
                            refine m_aload_n h dX8_row_252 rfl rfl ?_
                            refine m_dup h dX8_row_253 rfl ?_
                            refine m_get h fo_X8_64 (by decide) rfl rfl dX8_row_254 ?_
                            show M X G 9 u 257 [some (.ref (G.2.1 25)), some (.int (iI kd)), some (.int (iI a)), some (.int (iI b)), some (.int (iI c)), some (.int (iI R)), none, none, some (.int (iI (k : Int)))] [.int (iI (u.1 25 1)), .ref (G.2.1 25)]
                            rw [e25r]
                            show M X G 9 u 257 [some (.ref (G.2.1 25)), some (.int (iI kd)), some (.int (iI a)), some (.int (iI b)), some (.int (iI c)), some (.int (iI R)), none, none, some (.int (iI (k : Int)))] [.int (iI (g_r g)), .ref (G.2.1 25)]
                            refine m_iconst h dX8_row_257 ?_
                            refine m_iadd h dX8_row_258 ?_
                            refine m_putJ h fw_X8_64 (by decide) rfl (Nat.le_of_ble_eq_true rfl) (kz := 1) rfl rfl dX8_row_259 ?_
                            have hS1 := rwF_s ⟨s0, s1, s2, s3⟩ hg hr12 hw hz8
                            have hF1 : FrM v (wI u 25 1 ((g_r g) + 1)) := FrM.w ⟨fun i hi => hw.1 i (by omega) (by omega) (by omega) (by omega), hw.2.1⟩ (by omega)
                            refine m_aload_n h dX8_row_262 rfl rfl ?_
                            refine m_vV h (m_anew _ hG _ (by intro x x0 x1; exact hS1.2.2.1.z x x0 x1)) moX8_anew voX8_anew lk_X8_73 dX8_row_263 (by decide) (by decide) rfl rfl rfl (Nat.le_of_ble_eq_true rfl) (fun ua p32 => ?_)
                            have hRa := RM_an hS1 p32 t
                            have hFa := hF1.tr (ANW.m p32)
                            have hAn := p32
                            refine m_aload_n h dX8_row_266 rfl rfl ?_
                            refine m_get h fo_X8_64 (by decide) rfl rfl dX8_row_267 ?_
                            refine m_iconst h dX8_row_270 ?_
                            refine m_isub h dX8_row_271 ?_
                            refine m_iret h hR rfl dX8_row_272 ?_
                            refine Or.inr ⟨hgd, Or.inr ⟨hr12, ?_, hRa, hFa⟩⟩
                            have : ua.1 25 1 = g_r g + 1 := hRa.1.2.1
                            omega
                          · skip
                            refine m_aload_n h dX8_row_230 rfl rfl ?_
                            refine m_get h fo_X8_26 (by decide) rfl rfl dX8_row_231 ?_
                            refine m_bipush h dX8_row_234 (by decide) ?_
                            refine m_aload_n h dX8_row_236 rfl rfl ?_
                            refine m_get h fo_X8_64 (by decide) rfl rfl dX8_row_237 ?_
                            show M X G 9 u 240 [some (.ref (G.2.1 25)), some (.int (iI kd)), some (.int (iI a)), some (.int (iI b)), some (.int (iI c)), some (.int (iI R)), none, none, some (.int (iI (k : Int)))] [.int (iI (u.1 25 1)), .int (iI 8), .ref (G.2.1 31)]
                            rw [e25r]
                            show M X G 9 u 240 [some (.ref (G.2.1 25)), some (.int (iI kd)), some (.int (iI a)), some (.int (iI b)), some (.int (iI c)), some (.int (iI R)), none, none, some (.int (iI (k : Int)))] [.int (iI (g_r g)), .int (iI 8), .ref (G.2.1 31)]
                            refine m_imul h dX8_row_240 ?_
                            refine m_iload h dX8_row_241 rfl ?_
                            refine m_iadd h dX8_row_243 ?_
                            refine m_iconst h dX8_row_244 ?_
                            refine m_iast h (ar_31 G) (by omega) (by omega) dX8_row_245 ?_
                            refine m_iinc h dX8_row_246 rfl (by decide) rfl ?_
                            refine m_goto h dX8_row_249 (tgt := 223) (by decide) ?_
                            refine ih (k + 1) _ (by omega) (by omega) (rwF_w hw (by omega)) (fun x x0 x1 => ?_)
                            by_cases e : x = (k : Int)
                            · subst e; rw [wI_s]
                            · rw [wI_n (by omega)]; exact hz x x0 (by omega)
                      exact lp223 100 0 _ (by omega) (by omega) (rwF_i (by rw [if_neg (by omega)]; rfl) (by rw [if_pos (by omega)]; exact (mN_nn (by have : isNm g b := (hgd.2.2.2.1 (by omega)).1; exact this.1)).symm) (by rw [if_neg (by omega)]; rfl)) (fun x q1 q2 => by omega)
                    · skip
                      refine m_iload h dX8_row_200 rfl ?_
                      refine m_goto h dX8_row_202 (tgt := 208) (by decide) ?_
                      refine m_iast h (ar_29 G) (by omega) (by omega) dX8_row_208 ?_
                      refine m_aload_n h dX8_row_209 rfl rfl ?_
                      refine m_get h fo_X8_23 (by decide) rfl rfl dX8_row_210 ?_
                      refine m_aload_n h dX8_row_213 rfl rfl ?_
                      refine m_get h fo_X8_64 (by decide) rfl rfl dX8_row_214 ?_
                      show M X G 9 (wI (wI (wI (wI v 28 (g_r g) kd) 29 (3 * (g_r g)) (-1000)) 29 ((3 * (g_r g)) + 1) b) 29 ((3 * (g_r g)) + 2) c) 217 [some (.ref (G.2.1 25)), some (.int (iI kd)), some (.int (iI a)), some (.int (iI b)), some (.int (iI c)), some (.int (iI R)), some (.int (iI ow)), some (.int (iI 1)), none] [.int (iI (v.1 25 1)), .ref (G.2.1 30)]
                      show M X G 9 (wI (wI (wI (wI v 28 (g_r g) kd) 29 (3 * (g_r g)) (-1000)) 29 ((3 * (g_r g)) + 1) b) 29 ((3 * (g_r g)) + 2) c) 217 [some (.ref (G.2.1 25)), some (.int (iI kd)), some (.int (iI a)), some (.int (iI b)), some (.int (iI c)), some (.int (iI R)), some (.int (iI ow)), some (.int (iI 1)), none] [.int (iI (v.1 25 1)), .ref (G.2.1 30)]
                      rw [s1]
                      show M X G 9 (wI (wI (wI (wI v 28 (g_r g) kd) 29 (3 * (g_r g)) (-1000)) 29 ((3 * (g_r g)) + 1) b) 29 ((3 * (g_r g)) + 2) c) 217 [some (.ref (G.2.1 25)), some (.int (iI kd)), some (.int (iI a)), some (.int (iI b)), some (.int (iI c)), some (.int (iI R)), some (.int (iI ow)), some (.int (iI 1)), none] [.int (iI (g_r g)), .ref (G.2.1 30)]
                      refine m_iload h dX8_row_217 rfl ?_
                      refine m_iast h (ar_30 G) (by omega) (by omega) dX8_row_219 ?_
                      refine m_iconst h dX8_row_220 ?_
                      refine m_istore h dX8_row_221 (by decide) rfl ?_
                      refine m_kill 6 ?_
                      refine m_kill 7 ?_
                      have lp223 : ∀ (fuel : Nat) (k : Nat) (u : Mem), k ≤ 8 → 20 - k < fuel → rwF v (g_r g) kd (if 1 ≤ NKs kd then a else -1) (if 2 ≤ NKs kd then b else -1) (if 3 ≤ NKs kd then c else -1) R u → (∀ x, 0 ≤ x → x < (k : Int) → u.1 31 (8 * g_r g + x) = 0) → M X G 9 u 223 [some (.ref (G.2.1 25)), some (.int (iI kd)), some (.int (iI a)), some (.int (iI b)), some (.int (iI c)), some (.int (iI R)), none, none, some (.int (iI (k : Int)))] [] := by
                        intro fuel
                        induction fuel with
                        | zero => intro k u hk8 hfu hw hz; exfalso; omega
                        | succ fuel ih =>
                          intro k u hk8 hfu hw hz
                          have e25r : u.1 25 1 = g_r g := by rw [hw.1 25 (by decide) (by decide) (by decide) (by decide)]; exact s1
                          refine m_iload h dX8_row_223 rfl ?_
                          refine m_bipush h dX8_row_225 (by decide) ?_
                          refine m_icmp_ge h dX8_row_227 (tgt := 252) (by decide) (by omega) (by omega) (fun c33 => ?_) (fun c33 => ?_)
                          · skip
                            have hz8 : ∀ x, 0 ≤ x → x < 8 → u.1 31 (8 * g_r g + x) = 0 := fun x q1 q2 => hz x q1 (by omega)
                            refine m_aload_n h dX8_row_252 rfl rfl ?_
                            refine m_dup h dX8_row_253 rfl ?_
                            refine m_get h fo_X8_64 (by decide) rfl rfl dX8_row_254 ?_
                            show M X G 9 u 257 [some (.ref (G.2.1 25)), some (.int (iI kd)), some (.int (iI a)), some (.int (iI b)), some (.int (iI c)), some (.int (iI R)), none, none, some (.int (iI (k : Int)))] [.int (iI (u.1 25 1)), .ref (G.2.1 25)]
                            rw [e25r]
                            show M X G 9 u 257 [some (.ref (G.2.1 25)), some (.int (iI kd)), some (.int (iI a)), some (.int (iI b)), some (.int (iI c)), some (.int (iI R)), none, none, some (.int (iI (k : Int)))] [.int (iI (g_r g)), .ref (G.2.1 25)]
                            refine m_iconst h dX8_row_257 ?_
                            refine m_iadd h dX8_row_258 ?_
                            refine m_putJ h fw_X8_64 (by decide) rfl (Nat.le_of_ble_eq_true rfl) (kz := 1) rfl rfl dX8_row_259 ?_
                            have hS1 := rwF_s ⟨s0, s1, s2, s3⟩ hg hr12 hw hz8
                            have hF1 : FrM v (wI u 25 1 ((g_r g) + 1)) := FrM.w ⟨fun i hi => hw.1 i (by omega) (by omega) (by omega) (by omega), hw.2.1⟩ (by omega)
                            refine m_aload_n h dX8_row_262 rfl rfl ?_
                            refine m_vV h (m_anew _ hG _ (by intro x x0 x1; exact hS1.2.2.1.z x x0 x1)) moX8_anew voX8_anew lk_X8_73 dX8_row_263 (by decide) (by decide) rfl rfl rfl (Nat.le_of_ble_eq_true rfl) (fun ua p36 => ?_)
                            have hRa := RM_an hS1 p36 t
                            have hFa := hF1.tr (ANW.m p36)
                            have hAn := p36
                            refine m_aload_n h dX8_row_266 rfl rfl ?_
                            refine m_get h fo_X8_64 (by decide) rfl rfl dX8_row_267 ?_
                            refine m_iconst h dX8_row_270 ?_
                            refine m_isub h dX8_row_271 ?_
                            refine m_iret h hR rfl dX8_row_272 ?_
                            refine Or.inr ⟨hgd, Or.inr ⟨hr12, ?_, hRa, hFa⟩⟩
                            have : ua.1 25 1 = g_r g + 1 := hRa.1.2.1
                            omega
                          · skip
                            refine m_aload_n h dX8_row_230 rfl rfl ?_
                            refine m_get h fo_X8_26 (by decide) rfl rfl dX8_row_231 ?_
                            refine m_bipush h dX8_row_234 (by decide) ?_
                            refine m_aload_n h dX8_row_236 rfl rfl ?_
                            refine m_get h fo_X8_64 (by decide) rfl rfl dX8_row_237 ?_
                            show M X G 9 u 240 [some (.ref (G.2.1 25)), some (.int (iI kd)), some (.int (iI a)), some (.int (iI b)), some (.int (iI c)), some (.int (iI R)), none, none, some (.int (iI (k : Int)))] [.int (iI (u.1 25 1)), .int (iI 8), .ref (G.2.1 31)]
                            rw [e25r]
                            show M X G 9 u 240 [some (.ref (G.2.1 25)), some (.int (iI kd)), some (.int (iI a)), some (.int (iI b)), some (.int (iI c)), some (.int (iI R)), none, none, some (.int (iI (k : Int)))] [.int (iI (g_r g)), .int (iI 8), .ref (G.2.1 31)]
                            refine m_imul h dX8_row_240 ?_
                            refine m_iload h dX8_row_241 rfl ?_
                            refine m_iadd h dX8_row_243 ?_
                            refine m_iconst h dX8_row_244 ?_
                            refine m_iast h (ar_31 G) (by omega) (by omega) dX8_row_245 ?_
                            refine m_iinc h dX8_row_246 rfl (by decide) rfl ?_
                            refine m_goto h dX8_row_249 (tgt := 223) (by decide) ?_
                            refine ih (k + 1) _ (by omega) (by omega) (rwF_w hw (by omega)) (fun x x0 x1 => ?_)
                            by_cases e : x = (k : Int)
                            · subst e; rw [wI_s]
                            · rw [wI_n (by omega)]; exact hz x x0 (by omega)
                      exact lp223 100 0 _ (by omega) (by omega) (rwF_i (by rw [if_neg (by omega)]; rfl) (by rw [if_pos (by omega)]; exact (mN_nn (by have : isNm g b := (hgd.2.2.2.1 (by omega)).1; exact this.1)).symm) (by rw [if_pos (by omega)]; exact (mN_nn (by have : isNm g c := (hgd.2.2.2.2 (by omega)).1; exact this.1)).symm)) (fun x q1 q2 => by omega)
                · skip
                  refine m_iload_n h dX8_row_148 rfl rfl ?_
                  refine m_goto h dX8_row_149 (tgt := 155) (by decide) ?_
                  refine m_iast h (ar_29 G) (by omega) (by omega) dX8_row_155 ?_
                  refine m_aload_n h dX8_row_156 rfl rfl ?_
                  refine m_get h fo_X8_20 (by decide) rfl rfl dX8_row_157 ?_
                  refine m_iconst h dX8_row_160 ?_
                  refine m_aload_n h dX8_row_161 rfl rfl ?_
                  refine m_get h fo_X8_64 (by decide) rfl rfl dX8_row_162 ?_
                  show M X G 9 (wI (wI v 28 (g_r g) kd) 29 (3 * (g_r g)) a) 165 [some (.ref (G.2.1 25)), some (.int (iI kd)), some (.int (iI a)), some (.int (iI b)), some (.int (iI c)), some (.int (iI R)), some (.int (iI ow)), some (.int (iI 1)), none] [.int (iI (v.1 25 1)), .int (iI 3), .ref (G.2.1 29)]
                  show M X G 9 (wI (wI v 28 (g_r g) kd) 29 (3 * (g_r g)) a) 165 [some (.ref (G.2.1 25)), some (.int (iI kd)), some (.int (iI a)), some (.int (iI b)), some (.int (iI c)), some (.int (iI R)), some (.int (iI ow)), some (.int (iI 1)), none] [.int (iI (v.1 25 1)), .int (iI 3), .ref (G.2.1 29)]
                  rw [s1]
                  show M X G 9 (wI (wI v 28 (g_r g) kd) 29 (3 * (g_r g)) a) 165 [some (.ref (G.2.1 25)), some (.int (iI kd)), some (.int (iI a)), some (.int (iI b)), some (.int (iI c)), some (.int (iI R)), some (.int (iI ow)), some (.int (iI 1)), none] [.int (iI (g_r g)), .int (iI 3), .ref (G.2.1 29)]
                  refine m_imul h dX8_row_165 ?_
                  refine m_iconst h dX8_row_166 ?_
                  refine m_iadd h dX8_row_167 ?_
                  refine m_iload h dX8_row_168 rfl ?_
                  refine m_iconst h dX8_row_170 ?_
                  refine m_icmp_le h dX8_row_171 (tgt := 178) (by decide) (by omega) (by omega) (fun c37 => ?_) (fun c37 => ?_)
                  · skip
                    refine m_sipush h dX8_row_178 (by decide) ?_
                    refine m_iast h (ar_29 G) (by omega) (by omega) dX8_row_181 ?_
                    refine m_aload_n h dX8_row_182 rfl rfl ?_
                    refine m_get h fo_X8_20 (by decide) rfl rfl dX8_row_183 ?_
                    refine m_iconst h dX8_row_186 ?_
                    refine m_aload_n h dX8_row_187 rfl rfl ?_
                    refine m_get h fo_X8_64 (by decide) rfl rfl dX8_row_188 ?_
                    show M X G 9 (wI (wI (wI v 28 (g_r g) kd) 29 (3 * (g_r g)) a) 29 ((3 * (g_r g)) + 1) (-1000)) 191 [some (.ref (G.2.1 25)), some (.int (iI kd)), some (.int (iI a)), some (.int (iI b)), some (.int (iI c)), some (.int (iI R)), some (.int (iI ow)), some (.int (iI 1)), none] [.int (iI (v.1 25 1)), .int (iI 3), .ref (G.2.1 29)]
                    show M X G 9 (wI (wI (wI v 28 (g_r g) kd) 29 (3 * (g_r g)) a) 29 ((3 * (g_r g)) + 1) (-1000)) 191 [some (.ref (G.2.1 25)), some (.int (iI kd)), some (.int (iI a)), some (.int (iI b)), some (.int (iI c)), some (.int (iI R)), some (.int (iI ow)), some (.int (iI 1)), none] [.int (iI (v.1 25 1)), .int (iI 3), .ref (G.2.1 29)]
                    rw [s1]
                    show M X G 9 (wI (wI (wI v 28 (g_r g) kd) 29 (3 * (g_r g)) a) 29 ((3 * (g_r g)) + 1) (-1000)) 191 [some (.ref (G.2.1 25)), some (.int (iI kd)), some (.int (iI a)), some (.int (iI b)), some (.int (iI c)), some (.int (iI R)), some (.int (iI ow)), some (.int (iI 1)), none] [.int (iI (g_r g)), .int (iI 3), .ref (G.2.1 29)]
                    refine m_imul h dX8_row_191 ?_
                    refine m_iconst h dX8_row_192 ?_
                    refine m_iadd h dX8_row_193 ?_
                    refine m_iload h dX8_row_194 rfl ?_
                    refine m_iconst h dX8_row_196 ?_
                    refine m_icmp_le h dX8_row_197 (tgt := 205) (by decide) (by omega) (by omega) (fun c38 => ?_) (fun c38 => ?_)
                    · skip
                      refine m_sipush h dX8_row_205 (by decide) ?_
                      refine m_iast h (ar_29 G) (by omega) (by omega) dX8_row_208 ?_
                      refine m_aload_n h dX8_row_209 rfl rfl ?_
                      refine m_get h fo_X8_23 (by decide) rfl rfl dX8_row_210 ?_
                      refine m_aload_n h dX8_row_213 rfl rfl ?_
                      refine m_get h fo_X8_64 (by decide) rfl rfl dX8_row_214 ?_
                      show M X G 9 (wI (wI (wI (wI v 28 (g_r g) kd) 29 (3 * (g_r g)) a) 29 ((3 * (g_r g)) + 1) (-1000)) 29 ((3 * (g_r g)) + 2) (-1000)) 217 [some (.ref (G.2.1 25)), some (.int (iI kd)), some (.int (iI a)), some (.int (iI b)), some (.int (iI c)), some (.int (iI R)), some (.int (iI ow)), some (.int (iI 1)), none] [.int (iI (v.1 25 1)), .ref (G.2.1 30)]
                      show M X G 9 (wI (wI (wI (wI v 28 (g_r g) kd) 29 (3 * (g_r g)) a) 29 ((3 * (g_r g)) + 1) (-1000)) 29 ((3 * (g_r g)) + 2) (-1000)) 217 [some (.ref (G.2.1 25)), some (.int (iI kd)), some (.int (iI a)), some (.int (iI b)), some (.int (iI c)), some (.int (iI R)), some (.int (iI ow)), some (.int (iI 1)), none] [.int (iI (v.1 25 1)), .ref (G.2.1 30)]
                      rw [s1]
                      show M X G 9 (wI (wI (wI (wI v 28 (g_r g) kd) 29 (3 * (g_r g)) a) 29 ((3 * (g_r g)) + 1) (-1000)) 29 ((3 * (g_r g)) + 2) (-1000)) 217 [some (.ref (G.2.1 25)), some (.int (iI kd)), some (.int (iI a)), some (.int (iI b)), some (.int (iI c)), some (.int (iI R)), some (.int (iI ow)), some (.int (iI 1)), none] [.int (iI (g_r g)), .ref (G.2.1 30)]
                      refine m_iload h dX8_row_217 rfl ?_
                      refine m_iast h (ar_30 G) (by omega) (by omega) dX8_row_219 ?_
                      refine m_iconst h dX8_row_220 ?_
                      refine m_istore h dX8_row_221 (by decide) rfl ?_
                      refine m_kill 6 ?_
                      refine m_kill 7 ?_
                      have lp223 : ∀ (fuel : Nat) (k : Nat) (u : Mem), k ≤ 8 → 20 - k < fuel → rwF v (g_r g) kd (if 1 ≤ NKs kd then a else -1) (if 2 ≤ NKs kd then b else -1) (if 3 ≤ NKs kd then c else -1) R u → (∀ x, 0 ≤ x → x < (k : Int) → u.1 31 (8 * g_r g + x) = 0) → M X G 9 u 223 [some (.ref (G.2.1 25)), some (.int (iI kd)), some (.int (iI a)), some (.int (iI b)), some (.int (iI c)), some (.int (iI R)), none, none, some (.int (iI (k : Int)))] [] := by
                        intro fuel
                        induction fuel with
                        | zero => intro k u hk8 hfu hw hz; exfalso; omega
                        | succ fuel ih =>
                          intro k u hk8 hfu hw hz
                          have e25r : u.1 25 1 = g_r g := by rw [hw.1 25 (by decide) (by decide) (by decide) (by decide)]; exact s1
                          refine m_iload h dX8_row_223 rfl ?_
                          refine m_bipush h dX8_row_225 (by decide) ?_
                          refine m_icmp_ge h dX8_row_227 (tgt := 252) (by decide) (by omega) (by omega) (fun c39 => ?_) (fun c39 => ?_)
                          · skip
                            have hz8 : ∀ x, 0 ≤ x → x < 8 → u.1 31 (8 * g_r g + x) = 0 := fun x q1 q2 => hz x q1 (by omega)
                            refine m_aload_n h dX8_row_252 rfl rfl ?_
                            refine m_dup h dX8_row_253 rfl ?_
                            refine m_get h fo_X8_64 (by decide) rfl rfl dX8_row_254 ?_
                            show M X G 9 u 257 [some (.ref (G.2.1 25)), some (.int (iI kd)), some (.int (iI a)), some (.int (iI b)), some (.int (iI c)), some (.int (iI R)), none, none, some (.int (iI (k : Int)))] [.int (iI (u.1 25 1)), .ref (G.2.1 25)]
                            rw [e25r]
                            show M X G 9 u 257 [some (.ref (G.2.1 25)), some (.int (iI kd)), some (.int (iI a)), some (.int (iI b)), some (.int (iI c)), some (.int (iI R)), none, none, some (.int (iI (k : Int)))] [.int (iI (g_r g)), .ref (G.2.1 25)]
                            refine m_iconst h dX8_row_257 ?_
                            refine m_iadd h dX8_row_258 ?_
                            refine m_putJ h fw_X8_64 (by decide) rfl (Nat.le_of_ble_eq_true rfl) (kz := 1) rfl rfl dX8_row_259 ?_
                            have hS1 := rwF_s ⟨s0, s1, s2, s3⟩ hg hr12 hw hz8
                            have hF1 : FrM v (wI u 25 1 ((g_r g) + 1)) := FrM.w ⟨fun i hi => hw.1 i (by omega) (by omega) (by omega) (by omega), hw.2.1⟩ (by omega)
                            refine m_aload_n h dX8_row_262 rfl rfl ?_
                            refine m_vV h (m_anew _ hG _ (by intro x x0 x1; exact hS1.2.2.1.z x x0 x1)) moX8_anew voX8_anew lk_X8_73 dX8_row_263 (by decide) (by decide) rfl rfl rfl (Nat.le_of_ble_eq_true rfl) (fun ua p42 => ?_)
                            have hRa := RM_an hS1 p42 t
                            have hFa := hF1.tr (ANW.m p42)
                            have hAn := p42
                            refine m_aload_n h dX8_row_266 rfl rfl ?_
                            refine m_get h fo_X8_64 (by decide) rfl rfl dX8_row_267 ?_
                            refine m_iconst h dX8_row_270 ?_
                            refine m_isub h dX8_row_271 ?_
                            refine m_iret h hR rfl dX8_row_272 ?_
                            refine Or.inr ⟨hgd, Or.inr ⟨hr12, ?_, hRa, hFa⟩⟩
                            have : ua.1 25 1 = g_r g + 1 := hRa.1.2.1
                            omega
                          · skip
                            refine m_aload_n h dX8_row_230 rfl rfl ?_
                            refine m_get h fo_X8_26 (by decide) rfl rfl dX8_row_231 ?_
                            refine m_bipush h dX8_row_234 (by decide) ?_
                            refine m_aload_n h dX8_row_236 rfl rfl ?_
                            refine m_get h fo_X8_64 (by decide) rfl rfl dX8_row_237 ?_
                            show M X G 9 u 240 [some (.ref (G.2.1 25)), some (.int (iI kd)), some (.int (iI a)), some (.int (iI b)), some (.int (iI c)), some (.int (iI R)), none, none, some (.int (iI (k : Int)))] [.int (iI (u.1 25 1)), .int (iI 8), .ref (G.2.1 31)]
                            rw [e25r]
                            show M X G 9 u 240 [some (.ref (G.2.1 25)), some (.int (iI kd)), some (.int (iI a)), some (.int (iI b)), some (.int (iI c)), some (.int (iI R)), none, none, some (.int (iI (k : Int)))] [.int (iI (g_r g)), .int (iI 8), .ref (G.2.1 31)]
                            refine m_imul h dX8_row_240 ?_
                            refine m_iload h dX8_row_241 rfl ?_
                            refine m_iadd h dX8_row_243 ?_
                            refine m_iconst h dX8_row_244 ?_
                            refine m_iast h (ar_31 G) (by omega) (by omega) dX8_row_245 ?_
                            refine m_iinc h dX8_row_246 rfl (by decide) rfl ?_
                            refine m_goto h dX8_row_249 (tgt := 223) (by decide) ?_
                            refine ih (k + 1) _ (by omega) (by omega) (rwF_w hw (by omega)) (fun x x0 x1 => ?_)
                            by_cases e : x = (k : Int)
                            · subst e; rw [wI_s]
                            · rw [wI_n (by omega)]; exact hz x x0 (by omega)
                      exact lp223 100 0 _ (by omega) (by omega) (rwF_i (by rw [if_pos (by omega)]; exact (mN_nn (by have : isNm g a := hgd.2.2.1 (by omega); exact this.1)).symm) (by rw [if_neg (by omega)]; rfl) (by rw [if_neg (by omega)]; rfl)) (fun x q1 q2 => by omega)
                    · skip
                      refine m_iload h dX8_row_200 rfl ?_
                      refine m_goto h dX8_row_202 (tgt := 208) (by decide) ?_
                      refine m_iast h (ar_29 G) (by omega) (by omega) dX8_row_208 ?_
                      refine m_aload_n h dX8_row_209 rfl rfl ?_
                      refine m_get h fo_X8_23 (by decide) rfl rfl dX8_row_210 ?_
                      refine m_aload_n h dX8_row_213 rfl rfl ?_
                      refine m_get h fo_X8_64 (by decide) rfl rfl dX8_row_214 ?_
                      show M X G 9 (wI (wI (wI (wI v 28 (g_r g) kd) 29 (3 * (g_r g)) a) 29 ((3 * (g_r g)) + 1) (-1000)) 29 ((3 * (g_r g)) + 2) c) 217 [some (.ref (G.2.1 25)), some (.int (iI kd)), some (.int (iI a)), some (.int (iI b)), some (.int (iI c)), some (.int (iI R)), some (.int (iI ow)), some (.int (iI 1)), none] [.int (iI (v.1 25 1)), .ref (G.2.1 30)]
                      show M X G 9 (wI (wI (wI (wI v 28 (g_r g) kd) 29 (3 * (g_r g)) a) 29 ((3 * (g_r g)) + 1) (-1000)) 29 ((3 * (g_r g)) + 2) c) 217 [some (.ref (G.2.1 25)), some (.int (iI kd)), some (.int (iI a)), some (.int (iI b)), some (.int (iI c)), some (.int (iI R)), some (.int (iI ow)), some (.int (iI 1)), none] [.int (iI (v.1 25 1)), .ref (G.2.1 30)]
                      rw [s1]
                      show M X G 9 (wI (wI (wI (wI v 28 (g_r g) kd) 29 (3 * (g_r g)) a) 29 ((3 * (g_r g)) + 1) (-1000)) 29 ((3 * (g_r g)) + 2) c) 217 [some (.ref (G.2.1 25)), some (.int (iI kd)), some (.int (iI a)), some (.int (iI b)), some (.int (iI c)), some (.int (iI R)), some (.int (iI ow)), some (.int (iI 1)), none] [.int (iI (g_r g)), .ref (G.2.1 30)]
                      refine m_iload h dX8_row_217 rfl ?_
                      refine m_iast h (ar_30 G) (by omega) (by omega) dX8_row_219 ?_
                      refine m_iconst h dX8_row_220 ?_
                      refine m_istore h dX8_row_221 (by decide) rfl ?_
                      refine m_kill 6 ?_
                      refine m_kill 7 ?_
                      have lp223 : ∀ (fuel : Nat) (k : Nat) (u : Mem), k ≤ 8 → 20 - k < fuel → rwF v (g_r g) kd (if 1 ≤ NKs kd then a else -1) (if 2 ≤ NKs kd then b else -1) (if 3 ≤ NKs kd then c else -1) R u → (∀ x, 0 ≤ x → x < (k : Int) → u.1 31 (8 * g_r g + x) = 0) → M X G 9 u 223 [some (.ref (G.2.1 25)), some (.int (iI kd)), some (.int (iI a)), some (.int (iI b)), some (.int (iI c)), some (.int (iI R)), none, none, some (.int (iI (k : Int)))] [] := by
                        intro fuel
                        induction fuel with
                        | zero => intro k u hk8 hfu hw hz; exfalso; omega
                        | succ fuel ih =>
                          intro k u hk8 hfu hw hz
                          have e25r : u.1 25 1 = g_r g := by rw [hw.1 25 (by decide) (by decide) (by decide) (by decide)]; exact s1
                          refine m_iload h dX8_row_223 rfl ?_
                          refine m_bipush h dX8_row_225 (by decide) ?_
                          refine m_icmp_ge h dX8_row_227 (tgt := 252) (by decide) (by omega) (by omega) (fun c43 => ?_) (fun c43 => ?_)
                          · skip
                            have hz8 : ∀ x, 0 ≤ x → x < 8 → u.1 31 (8 * g_r g + x) = 0 := fun x q1 q2 => hz x q1 (by omega)
                            refine m_aload_n h dX8_row_252 rfl rfl ?_
                            refine m_dup h dX8_row_253 rfl ?_
                            refine m_get h fo_X8_64 (by decide) rfl rfl dX8_row_254 ?_
                            show M X G 9 u 257 [some (.ref (G.2.1 25)), some (.int (iI kd)), some (.int (iI a)), some (.int (iI b)), some (.int (iI c)), some (.int (iI R)), none, none, some (.int (iI (k : Int)))] [.int (iI (u.1 25 1)), .ref (G.2.1 25)]
                            rw [e25r]
                            show M X G 9 u 257 [some (.ref (G.2.1 25)), some (.int (iI kd)), some (.int (iI a)), some (.int (iI b)), some (.int (iI c)), some (.int (iI R)), none, none, some (.int (iI (k : Int)))] [.int (iI (g_r g)), .ref (G.2.1 25)]
                            refine m_iconst h dX8_row_257 ?_
                            refine m_iadd h dX8_row_258 ?_
                            refine m_putJ h fw_X8_64 (by decide) rfl (Nat.le_of_ble_eq_true rfl) (kz := 1) rfl rfl dX8_row_259 ?_
                            have hS1 := rwF_s ⟨s0, s1, s2, s3⟩ hg hr12 hw hz8
                            have hF1 : FrM v (wI u 25 1 ((g_r g) + 1)) := FrM.w ⟨fun i hi => hw.1 i (by omega) (by omega) (by omega) (by omega), hw.2.1⟩ (by omega)
                            refine m_aload_n h dX8_row_262 rfl rfl ?_
                            refine m_vV h (m_anew _ hG _ (by intro x x0 x1; exact hS1.2.2.1.z x x0 x1)) moX8_anew voX8_anew lk_X8_73 dX8_row_263 (by decide) (by decide) rfl rfl rfl (Nat.le_of_ble_eq_true rfl) (fun ua p46 => ?_)
                            have hRa := RM_an hS1 p46 t
                            have hFa := hF1.tr (ANW.m p46)
                            have hAn := p46
                            refine m_aload_n h dX8_row_266 rfl rfl ?_
                            refine m_get h fo_X8_64 (by decide) rfl rfl dX8_row_267 ?_
                            refine m_iconst h dX8_row_270 ?_
                            refine m_isub h dX8_row_271 ?_
                            refine m_iret h hR rfl dX8_row_272 ?_
                            refine Or.inr ⟨hgd, Or.inr ⟨hr12, ?_, hRa, hFa⟩⟩
                            have : ua.1 25 1 = g_r g + 1 := hRa.1.2.1
                            omega
                          · skip
                            refine m_aload_n h dX8_row_230 rfl rfl ?_
                            refine m_get h fo_X8_26 (by decide) rfl rfl dX8_row_231 ?_
                            refine m_bipush h dX8_row_234 (by decide) ?_
                            refine m_aload_n h dX8_row_236 rfl rfl ?_
                            refine m_get h fo_X8_64 (by decide) rfl rfl dX8_row_237 ?_
                            show M X G 9 u 240 [some (.ref (G.2.1 25)), some (.int (iI kd)), some (.int (iI a)), some (.int (iI b)), some (.int (iI c)), some (.int (iI R)), none, none, some (.int (iI (k : Int)))] [.int (iI (u.1 25 1)), .int (iI 8), .ref (G.2.1 31)]
                            rw [e25r]
                            show M X G 9 u 240 [some (.ref (G.2.1 25)), some (.int (iI kd)), some (.int (iI a)), some (.int (iI b)), some (.int (iI c)), some (.int (iI R)), none, none, some (.int (iI (k : Int)))] [.int (iI (g_r g)), .int (iI 8), .ref (G.2.1 31)]
                            refine m_imul h dX8_row_240 ?_
                            refine m_iload h dX8_row_241 rfl ?_
                            refine m_iadd h dX8_row_243 ?_
                            refine m_iconst h dX8_row_244 ?_
                            refine m_iast h (ar_31 G) (by omega) (by omega) dX8_row_245 ?_
                            refine m_iinc h dX8_row_246 rfl (by decide) rfl ?_
                            refine m_goto h dX8_row_249 (tgt := 223) (by decide) ?_
                            refine ih (k + 1) _ (by omega) (by omega) (rwF_w hw (by omega)) (fun x x0 x1 => ?_)
                            by_cases e : x = (k : Int)
                            · subst e; rw [wI_s]
                            · rw [wI_n (by omega)]; exact hz x x0 (by omega)
                      exact lp223 100 0 _ (by omega) (by omega) (rwF_i (by rw [if_pos (by omega)]; exact (mN_nn (by have : isNm g a := hgd.2.2.1 (by omega); exact this.1)).symm) (by rw [if_neg (by omega)]; rfl) (by rw [if_pos (by omega)]; exact (mN_nn (by have : isNm g c := (hgd.2.2.2.2 (by omega)).1; exact this.1)).symm)) (fun x q1 q2 => by omega)
                  · skip
                    refine m_iload_n h dX8_row_174 rfl rfl ?_
                    refine m_goto h dX8_row_175 (tgt := 181) (by decide) ?_
                    refine m_iast h (ar_29 G) (by omega) (by omega) dX8_row_181 ?_
                    refine m_aload_n h dX8_row_182 rfl rfl ?_
                    refine m_get h fo_X8_20 (by decide) rfl rfl dX8_row_183 ?_
                    refine m_iconst h dX8_row_186 ?_
                    refine m_aload_n h dX8_row_187 rfl rfl ?_
                    refine m_get h fo_X8_64 (by decide) rfl rfl dX8_row_188 ?_
                    show M X G 9 (wI (wI (wI v 28 (g_r g) kd) 29 (3 * (g_r g)) a) 29 ((3 * (g_r g)) + 1) b) 191 [some (.ref (G.2.1 25)), some (.int (iI kd)), some (.int (iI a)), some (.int (iI b)), some (.int (iI c)), some (.int (iI R)), some (.int (iI ow)), some (.int (iI 1)), none] [.int (iI (v.1 25 1)), .int (iI 3), .ref (G.2.1 29)]
                    show M X G 9 (wI (wI (wI v 28 (g_r g) kd) 29 (3 * (g_r g)) a) 29 ((3 * (g_r g)) + 1) b) 191 [some (.ref (G.2.1 25)), some (.int (iI kd)), some (.int (iI a)), some (.int (iI b)), some (.int (iI c)), some (.int (iI R)), some (.int (iI ow)), some (.int (iI 1)), none] [.int (iI (v.1 25 1)), .int (iI 3), .ref (G.2.1 29)]
                    rw [s1]
                    show M X G 9 (wI (wI (wI v 28 (g_r g) kd) 29 (3 * (g_r g)) a) 29 ((3 * (g_r g)) + 1) b) 191 [some (.ref (G.2.1 25)), some (.int (iI kd)), some (.int (iI a)), some (.int (iI b)), some (.int (iI c)), some (.int (iI R)), some (.int (iI ow)), some (.int (iI 1)), none] [.int (iI (g_r g)), .int (iI 3), .ref (G.2.1 29)]
                    refine m_imul h dX8_row_191 ?_
                    refine m_iconst h dX8_row_192 ?_
                    refine m_iadd h dX8_row_193 ?_
                    refine m_iload h dX8_row_194 rfl ?_
                    refine m_iconst h dX8_row_196 ?_
                    refine m_icmp_le h dX8_row_197 (tgt := 205) (by decide) (by omega) (by omega) (fun c47 => ?_) (fun c47 => ?_)
                    · skip
                      refine m_sipush h dX8_row_205 (by decide) ?_
                      refine m_iast h (ar_29 G) (by omega) (by omega) dX8_row_208 ?_
                      refine m_aload_n h dX8_row_209 rfl rfl ?_
                      refine m_get h fo_X8_23 (by decide) rfl rfl dX8_row_210 ?_
                      refine m_aload_n h dX8_row_213 rfl rfl ?_
                      refine m_get h fo_X8_64 (by decide) rfl rfl dX8_row_214 ?_
                      show M X G 9 (wI (wI (wI (wI v 28 (g_r g) kd) 29 (3 * (g_r g)) a) 29 ((3 * (g_r g)) + 1) b) 29 ((3 * (g_r g)) + 2) (-1000)) 217 [some (.ref (G.2.1 25)), some (.int (iI kd)), some (.int (iI a)), some (.int (iI b)), some (.int (iI c)), some (.int (iI R)), some (.int (iI ow)), some (.int (iI 1)), none] [.int (iI (v.1 25 1)), .ref (G.2.1 30)]
                      show M X G 9 (wI (wI (wI (wI v 28 (g_r g) kd) 29 (3 * (g_r g)) a) 29 ((3 * (g_r g)) + 1) b) 29 ((3 * (g_r g)) + 2) (-1000)) 217 [some (.ref (G.2.1 25)), some (.int (iI kd)), some (.int (iI a)), some (.int (iI b)), some (.int (iI c)), some (.int (iI R)), some (.int (iI ow)), some (.int (iI 1)), none] [.int (iI (v.1 25 1)), .ref (G.2.1 30)]
                      rw [s1]
                      show M X G 9 (wI (wI (wI (wI v 28 (g_r g) kd) 29 (3 * (g_r g)) a) 29 ((3 * (g_r g)) + 1) b) 29 ((3 * (g_r g)) + 2) (-1000)) 217 [some (.ref (G.2.1 25)), some (.int (iI kd)), some (.int (iI a)), some (.int (iI b)), some (.int (iI c)), some (.int (iI R)), some (.int (iI ow)), some (.int (iI 1)), none] [.int (iI (g_r g)), .ref (G.2.1 30)]
                      refine m_iload h dX8_row_217 rfl ?_
                      refine m_iast h (ar_30 G) (by omega) (by omega) dX8_row_219 ?_
                      refine m_iconst h dX8_row_220 ?_
                      refine m_istore h dX8_row_221 (by decide) rfl ?_
                      refine m_kill 6 ?_
                      refine m_kill 7 ?_
                      have lp223 : ∀ (fuel : Nat) (k : Nat) (u : Mem), k ≤ 8 → 20 - k < fuel → rwF v (g_r g) kd (if 1 ≤ NKs kd then a else -1) (if 2 ≤ NKs kd then b else -1) (if 3 ≤ NKs kd then c else -1) R u → (∀ x, 0 ≤ x → x < (k : Int) → u.1 31 (8 * g_r g + x) = 0) → M X G 9 u 223 [some (.ref (G.2.1 25)), some (.int (iI kd)), some (.int (iI a)), some (.int (iI b)), some (.int (iI c)), some (.int (iI R)), none, none, some (.int (iI (k : Int)))] [] := by
                        intro fuel
                        induction fuel with
                        | zero => intro k u hk8 hfu hw hz; exfalso; omega
                        | succ fuel ih =>
                          intro k u hk8 hfu hw hz
                          have e25r : u.1 25 1 = g_r g := by rw [hw.1 25 (by decide) (by decide) (by decide) (by decide)]; exact s1
                          refine m_iload h dX8_row_223 rfl ?_
                          refine m_bipush h dX8_row_225 (by decide) ?_
                          refine m_icmp_ge h dX8_row_227 (tgt := 252) (by decide) (by omega) (by omega) (fun c48 => ?_) (fun c48 => ?_)
                          · skip
                            have hz8 : ∀ x, 0 ≤ x → x < 8 → u.1 31 (8 * g_r g + x) = 0 := fun x q1 q2 => hz x q1 (by omega)
                            refine m_aload_n h dX8_row_252 rfl rfl ?_
                            refine m_dup h dX8_row_253 rfl ?_
                            refine m_get h fo_X8_64 (by decide) rfl rfl dX8_row_254 ?_
                            show M X G 9 u 257 [some (.ref (G.2.1 25)), some (.int (iI kd)), some (.int (iI a)), some (.int (iI b)), some (.int (iI c)), some (.int (iI R)), none, none, some (.int (iI (k : Int)))] [.int (iI (u.1 25 1)), .ref (G.2.1 25)]
                            rw [e25r]
                            show M X G 9 u 257 [some (.ref (G.2.1 25)), some (.int (iI kd)), some (.int (iI a)), some (.int (iI b)), some (.int (iI c)), some (.int (iI R)), none, none, some (.int (iI (k : Int)))] [.int (iI (g_r g)), .ref (G.2.1 25)]
                            refine m_iconst h dX8_row_257 ?_
                            refine m_iadd h dX8_row_258 ?_
                            refine m_putJ h fw_X8_64 (by decide) rfl (Nat.le_of_ble_eq_true rfl) (kz := 1) rfl rfl dX8_row_259 ?_
                            have hS1 := rwF_s ⟨s0, s1, s2, s3⟩ hg hr12 hw hz8
                            have hF1 : FrM v (wI u 25 1 ((g_r g) + 1)) := FrM.w ⟨fun i hi => hw.1 i (by omega) (by omega) (by omega) (by omega), hw.2.1⟩ (by omega)
                            refine m_aload_n h dX8_row_262 rfl rfl ?_
                            refine m_vV h (m_anew _ hG _ (by intro x x0 x1; exact hS1.2.2.1.z x x0 x1)) moX8_anew voX8_anew lk_X8_73 dX8_row_263 (by decide) (by decide) rfl rfl rfl (Nat.le_of_ble_eq_true rfl) (fun ua p51 => ?_)
                            have hRa := RM_an hS1 p51 t
                            have hFa := hF1.tr (ANW.m p51)
                            have hAn := p51
                            refine m_aload_n h dX8_row_266 rfl rfl ?_
                            refine m_get h fo_X8_64 (by decide) rfl rfl dX8_row_267 ?_
                            refine m_iconst h dX8_row_270 ?_
                            refine m_isub h dX8_row_271 ?_
                            refine m_iret h hR rfl dX8_row_272 ?_
                            refine Or.inr ⟨hgd, Or.inr ⟨hr12, ?_, hRa, hFa⟩⟩
                            have : ua.1 25 1 = g_r g + 1 := hRa.1.2.1
                            omega
                          · skip
                            refine m_aload_n h dX8_row_230 rfl rfl ?_
                            refine m_get h fo_X8_26 (by decide) rfl rfl dX8_row_231 ?_
                            refine m_bipush h dX8_row_234 (by decide) ?_
                            refine m_aload_n h dX8_row_236 rfl rfl ?_
                            refine m_get h fo_X8_64 (by decide) rfl rfl dX8_row_237 ?_
                            show M X G 9 u 240 [some (.ref (G.2.1 25)), some (.int (iI kd)), some (.int (iI a)), some (.int (iI b)), some (.int (iI c)), some (.int (iI R)), none, none, some (.int (iI (k : Int)))] [.int (iI (u.1 25 1)), .int (iI 8), .ref (G.2.1 31)]
                            rw [e25r]
                            show M X G 9 u 240 [some (.ref (G.2.1 25)), some (.int (iI kd)), some (.int (iI a)), some (.int (iI b)), some (.int (iI c)), some (.int (iI R)), none, none, some (.int (iI (k : Int)))] [.int (iI (g_r g)), .int (iI 8), .ref (G.2.1 31)]
                            refine m_imul h dX8_row_240 ?_
                            refine m_iload h dX8_row_241 rfl ?_
                            refine m_iadd h dX8_row_243 ?_
                            refine m_iconst h dX8_row_244 ?_
                            refine m_iast h (ar_31 G) (by omega) (by omega) dX8_row_245 ?_
                            refine m_iinc h dX8_row_246 rfl (by decide) rfl ?_
                            refine m_goto h dX8_row_249 (tgt := 223) (by decide) ?_
                            refine ih (k + 1) _ (by omega) (by omega) (rwF_w hw (by omega)) (fun x x0 x1 => ?_)
                            by_cases e : x = (k : Int)
                            · subst e; rw [wI_s]
                            · rw [wI_n (by omega)]; exact hz x x0 (by omega)
                      exact lp223 100 0 _ (by omega) (by omega) (rwF_i (by rw [if_pos (by omega)]; exact (mN_nn (by have : isNm g a := hgd.2.2.1 (by omega); exact this.1)).symm) (by rw [if_pos (by omega)]; exact (mN_nn (by have : isNm g b := (hgd.2.2.2.1 (by omega)).1; exact this.1)).symm) (by rw [if_neg (by omega)]; rfl)) (fun x q1 q2 => by omega)
                    · skip
                      refine m_iload h dX8_row_200 rfl ?_
                      refine m_goto h dX8_row_202 (tgt := 208) (by decide) ?_
                      refine m_iast h (ar_29 G) (by omega) (by omega) dX8_row_208 ?_
                      refine m_aload_n h dX8_row_209 rfl rfl ?_
                      refine m_get h fo_X8_23 (by decide) rfl rfl dX8_row_210 ?_
                      refine m_aload_n h dX8_row_213 rfl rfl ?_
                      refine m_get h fo_X8_64 (by decide) rfl rfl dX8_row_214 ?_
                      show M X G 9 (wI (wI (wI (wI v 28 (g_r g) kd) 29 (3 * (g_r g)) a) 29 ((3 * (g_r g)) + 1) b) 29 ((3 * (g_r g)) + 2) c) 217 [some (.ref (G.2.1 25)), some (.int (iI kd)), some (.int (iI a)), some (.int (iI b)), some (.int (iI c)), some (.int (iI R)), some (.int (iI ow)), some (.int (iI 1)), none] [.int (iI (v.1 25 1)), .ref (G.2.1 30)]
                      show M X G 9 (wI (wI (wI (wI v 28 (g_r g) kd) 29 (3 * (g_r g)) a) 29 ((3 * (g_r g)) + 1) b) 29 ((3 * (g_r g)) + 2) c) 217 [some (.ref (G.2.1 25)), some (.int (iI kd)), some (.int (iI a)), some (.int (iI b)), some (.int (iI c)), some (.int (iI R)), some (.int (iI ow)), some (.int (iI 1)), none] [.int (iI (v.1 25 1)), .ref (G.2.1 30)]
                      rw [s1]
                      show M X G 9 (wI (wI (wI (wI v 28 (g_r g) kd) 29 (3 * (g_r g)) a) 29 ((3 * (g_r g)) + 1) b) 29 ((3 * (g_r g)) + 2) c) 217 [some (.ref (G.2.1 25)), some (.int (iI kd)), some (.int (iI a)), some (.int (iI b)), some (.int (iI c)), some (.int (iI R)), some (.int (iI ow)), some (.int (iI 1)), none] [.int (iI (g_r g)), .ref (G.2.1 30)]
                      refine m_iload h dX8_row_217 rfl ?_
                      refine m_iast h (ar_30 G) (by omega) (by omega) dX8_row_219 ?_
                      refine m_iconst h dX8_row_220 ?_
                      refine m_istore h dX8_row_221 (by decide) rfl ?_
                      refine m_kill 6 ?_
                      refine m_kill 7 ?_
                      have lp223 : ∀ (fuel : Nat) (k : Nat) (u : Mem), k ≤ 8 → 20 - k < fuel → rwF v (g_r g) kd (if 1 ≤ NKs kd then a else -1) (if 2 ≤ NKs kd then b else -1) (if 3 ≤ NKs kd then c else -1) R u → (∀ x, 0 ≤ x → x < (k : Int) → u.1 31 (8 * g_r g + x) = 0) → M X G 9 u 223 [some (.ref (G.2.1 25)), some (.int (iI kd)), some (.int (iI a)), some (.int (iI b)), some (.int (iI c)), some (.int (iI R)), none, none, some (.int (iI (k : Int)))] [] := by
                        intro fuel
                        induction fuel with
                        | zero => intro k u hk8 hfu hw hz; exfalso; omega
                        | succ fuel ih =>
                          intro k u hk8 hfu hw hz
                          have e25r : u.1 25 1 = g_r g := by rw [hw.1 25 (by decide) (by decide) (by decide) (by decide)]; exact s1
                          refine m_iload h dX8_row_223 rfl ?_
                          refine m_bipush h dX8_row_225 (by decide) ?_
                          refine m_icmp_ge h dX8_row_227 (tgt := 252) (by decide) (by omega) (by omega) (fun c52 => ?_) (fun c52 => ?_)
                          · skip
                            have hz8 : ∀ x, 0 ≤ x → x < 8 → u.1 31 (8 * g_r g + x) = 0 := fun x q1 q2 => hz x q1 (by omega)
                            refine m_aload_n h dX8_row_252 rfl rfl ?_
                            refine m_dup h dX8_row_253 rfl ?_
                            refine m_get h fo_X8_64 (by decide) rfl rfl dX8_row_254 ?_
                            show M X G 9 u 257 [some (.ref (G.2.1 25)), some (.int (iI kd)), some (.int (iI a)), some (.int (iI b)), some (.int (iI c)), some (.int (iI R)), none, none, some (.int (iI (k : Int)))] [.int (iI (u.1 25 1)), .ref (G.2.1 25)]
                            rw [e25r]
                            show M X G 9 u 257 [some (.ref (G.2.1 25)), some (.int (iI kd)), some (.int (iI a)), some (.int (iI b)), some (.int (iI c)), some (.int (iI R)), none, none, some (.int (iI (k : Int)))] [.int (iI (g_r g)), .ref (G.2.1 25)]
                            refine m_iconst h dX8_row_257 ?_
                            refine m_iadd h dX8_row_258 ?_
                            refine m_putJ h fw_X8_64 (by decide) rfl (Nat.le_of_ble_eq_true rfl) (kz := 1) rfl rfl dX8_row_259 ?_
                            have hS1 := rwF_s ⟨s0, s1, s2, s3⟩ hg hr12 hw hz8
                            have hF1 : FrM v (wI u 25 1 ((g_r g) + 1)) := FrM.w ⟨fun i hi => hw.1 i (by omega) (by omega) (by omega) (by omega), hw.2.1⟩ (by omega)
                            refine m_aload_n h dX8_row_262 rfl rfl ?_
                            refine m_vV h (m_anew _ hG _ (by intro x x0 x1; exact hS1.2.2.1.z x x0 x1)) moX8_anew voX8_anew lk_X8_73 dX8_row_263 (by decide) (by decide) rfl rfl rfl (Nat.le_of_ble_eq_true rfl) (fun ua p55 => ?_)
                            have hRa := RM_an hS1 p55 t
                            have hFa := hF1.tr (ANW.m p55)
                            have hAn := p55
                            refine m_aload_n h dX8_row_266 rfl rfl ?_
                            refine m_get h fo_X8_64 (by decide) rfl rfl dX8_row_267 ?_
                            refine m_iconst h dX8_row_270 ?_
                            refine m_isub h dX8_row_271 ?_
                            refine m_iret h hR rfl dX8_row_272 ?_
                            refine Or.inr ⟨hgd, Or.inr ⟨hr12, ?_, hRa, hFa⟩⟩
                            have : ua.1 25 1 = g_r g + 1 := hRa.1.2.1
                            omega
                          · skip
                            refine m_aload_n h dX8_row_230 rfl rfl ?_
                            refine m_get h fo_X8_26 (by decide) rfl rfl dX8_row_231 ?_
                            refine m_bipush h dX8_row_234 (by decide) ?_
                            refine m_aload_n h dX8_row_236 rfl rfl ?_
                            refine m_get h fo_X8_64 (by decide) rfl rfl dX8_row_237 ?_
                            show M X G 9 u 240 [some (.ref (G.2.1 25)), some (.int (iI kd)), some (.int (iI a)), some (.int (iI b)), some (.int (iI c)), some (.int (iI R)), none, none, some (.int (iI (k : Int)))] [.int (iI (u.1 25 1)), .int (iI 8), .ref (G.2.1 31)]
                            rw [e25r]
                            show M X G 9 u 240 [some (.ref (G.2.1 25)), some (.int (iI kd)), some (.int (iI a)), some (.int (iI b)), some (.int (iI c)), some (.int (iI R)), none, none, some (.int (iI (k : Int)))] [.int (iI (g_r g)), .int (iI 8), .ref (G.2.1 31)]
                            refine m_imul h dX8_row_240 ?_
                            refine m_iload h dX8_row_241 rfl ?_
                            refine m_iadd h dX8_row_243 ?_
                            refine m_iconst h dX8_row_244 ?_
                            refine m_iast h (ar_31 G) (by omega) (by omega) dX8_row_245 ?_
                            refine m_iinc h dX8_row_246 rfl (by decide) rfl ?_
                            refine m_goto h dX8_row_249 (tgt := 223) (by decide) ?_
                            refine ih (k + 1) _ (by omega) (by omega) (rwF_w hw (by omega)) (fun x x0 x1 => ?_)
                            by_cases e : x = (k : Int)
                            · subst e; rw [wI_s]
                            · rw [wI_n (by omega)]; exact hz x x0 (by omega)
                      exact lp223 100 0 _ (by omega) (by omega) (rwF_i (by rw [if_pos (by omega)]; exact (mN_nn (by have : isNm g a := hgd.2.2.1 (by omega); exact this.1)).symm) (by rw [if_pos (by omega)]; exact (mN_nn (by have : isNm g b := (hgd.2.2.2.1 (by omega)).1; exact this.1)).symm) (by rw [if_pos (by omega)]; exact (mN_nn (by have : isNm g c := (hgd.2.2.2.2 (by omega)).1; exact this.1)).symm)) (fun x q1 q2 => by omega)
              · skip
                refine m_sipush h dX8_row_119 (by decide) ?_
                refine m_iret h hR rfl dX8_row_122 ?_
                exact Or.inr ⟨⟨h1, h2, hgd3⟩, Or.inl ⟨by omega, rfl, rfl⟩⟩
            · skip
              omega
          · skip
            refine m_aload_n h dX8_row_73 rfl rfl ?_
            refine m_iload h dX8_row_74 rfl ?_
            refine m_vI h (m_isName _ hG _ c hc (by omega)) moX8_isName voX8_isName lk_X8_76 dX8_row_76 (by decide) (by decide) rfl rfl rfl (Nat.le_of_ble_eq_true rfl) (fun r56 u57 p58 => ?_)
            obtain ⟨hu9, hbc⟩ := p58
            rw [hu9]
            rw [s0] at hbc
            have hbc : bz r56 (isNm g c) := hbc
            have hbci := hbc.in
            refine m_if_eq h dX8_row_79 (tgt := 98) (by decide) (by omega) (fun c59 => ?_) (fun c59 => ?_)
            · skip
              have hgd4 : ¬ ((1 ≤ NKs kd → isNm g a) ∧ (2 ≤ NKs kd → isNm g b ∧ b ≠ a) ∧ (3 ≤ NKs kd → isNm g c ∧ c ≠ a ∧ c ≠ b)) := fun q => by
                first
                  | exact absurd (q.2.2 (by omega)).2.2 (by omega)
                  | exact absurd (q.2.2 (by omega)).2.1 (by omega)
                  | exact hbc.no (by omega) (q.2.2 (by omega)).1
                  | exact absurd (q.2.1 (by omega)).2 (by omega)
                  | exact hbb.no (by omega) (q.2.1 (by omega)).1
                  | exact hba.no (by omega) (q.1 (by omega))
              refine m_iconst h dX8_row_98 ?_
              refine m_istore h dX8_row_99 (by decide) rfl ?_
              refine m_iload h dX8_row_101 rfl ?_
              refine m_if_ne h dX8_row_103 (tgt := 110) (by decide) (by omega) (fun c60 => ?_) (fun c60 => ?_)
              · skip
                omega
              · skip
                refine m_sipush h dX8_row_106 (by decide) ?_
                refine m_iret h hR rfl dX8_row_109 ?_
                refine Or.inl ⟨fun q => ?_, rfl, rfl⟩
                exact hgd4 q.2.2
            · skip
              refine m_iload h dX8_row_82 rfl ?_
              refine m_iload_n h dX8_row_84 rfl rfl ?_
              refine m_icmp_eq h dX8_row_85 (tgt := 98) (by decide) (by omega) (by omega) (fun c61 => ?_) (fun c61 => ?_)
              · skip
                have hgd4 : ¬ ((1 ≤ NKs kd → isNm g a) ∧ (2 ≤ NKs kd → isNm g b ∧ b ≠ a) ∧ (3 ≤ NKs kd → isNm g c ∧ c ≠ a ∧ c ≠ b)) := fun q => by
                  first
                    | exact absurd (q.2.2 (by omega)).2.2 (by omega)
                    | exact absurd (q.2.2 (by omega)).2.1 (by omega)
                    | exact hbc.no (by omega) (q.2.2 (by omega)).1
                    | exact absurd (q.2.1 (by omega)).2 (by omega)
                    | exact hbb.no (by omega) (q.2.1 (by omega)).1
                    | exact hba.no (by omega) (q.1 (by omega))
                refine m_iconst h dX8_row_98 ?_
                refine m_istore h dX8_row_99 (by decide) rfl ?_
                refine m_iload h dX8_row_101 rfl ?_
                refine m_if_ne h dX8_row_103 (tgt := 110) (by decide) (by omega) (fun c62 => ?_) (fun c62 => ?_)
                · skip
                  omega
                · skip
                  refine m_sipush h dX8_row_106 (by decide) ?_
                  refine m_iret h hR rfl dX8_row_109 ?_
                  refine Or.inl ⟨fun q => ?_, rfl, rfl⟩
                  exact hgd4 q.2.2
              · skip
                refine m_iload h dX8_row_88 rfl ?_
                refine m_iload_n h dX8_row_90 rfl rfl ?_
                refine m_icmp_eq h dX8_row_91 (tgt := 98) (by decide) (by omega) (by omega) (fun c63 => ?_) (fun c63 => ?_)
                · skip
                  have hgd4 : ¬ ((1 ≤ NKs kd → isNm g a) ∧ (2 ≤ NKs kd → isNm g b ∧ b ≠ a) ∧ (3 ≤ NKs kd → isNm g c ∧ c ≠ a ∧ c ≠ b)) := fun q => by
                    first
                      | exact absurd (q.2.2 (by omega)).2.2 (by omega)
                      | exact absurd (q.2.2 (by omega)).2.1 (by omega)
                      | exact hbc.no (by omega) (q.2.2 (by omega)).1
                      | exact absurd (q.2.1 (by omega)).2 (by omega)
                      | exact hbb.no (by omega) (q.2.1 (by omega)).1
                      | exact hba.no (by omega) (q.1 (by omega))
                  refine m_iconst h dX8_row_98 ?_
                  refine m_istore h dX8_row_99 (by decide) rfl ?_
                  refine m_iload h dX8_row_101 rfl ?_
                  refine m_if_ne h dX8_row_103 (tgt := 110) (by decide) (by omega) (fun c64 => ?_) (fun c64 => ?_)
                  · skip
                    omega
                  · skip
                    refine m_sipush h dX8_row_106 (by decide) ?_
                    refine m_iret h hR rfl dX8_row_109 ?_
                    refine Or.inl ⟨fun q => ?_, rfl, rfl⟩
                    exact hgd4 q.2.2
                · skip
                  have hgd3 : ((1 ≤ NKs kd → isNm g a) ∧ (2 ≤ NKs kd → isNm g b ∧ b ≠ a) ∧ (3 ≤ NKs kd → isNm g c ∧ c ≠ a ∧ c ≠ b)) := by
                    refine ⟨fun q => ?_, fun q => ?_, fun q => ?_⟩
                    · first | omega | exact hba.yes (by omega)
                    · first | omega | exact ⟨hbb.yes (by omega), by omega⟩
                    · first | omega | exact ⟨hbc.yes (by omega), by omega, by omega⟩
                  refine m_iconst h dX8_row_94 ?_
                  refine m_goto h dX8_row_95 (tgt := 99) (by decide) ?_
                  refine m_istore h dX8_row_99 (by decide) rfl ?_
                  refine m_iload h dX8_row_101 rfl ?_
                  refine m_if_ne h dX8_row_103 (tgt := 110) (by decide) (by omega) (fun c65 => ?_) (fun c65 => ?_)
                  · skip
                    refine m_aload_n h dX8_row_110 rfl rfl ?_
                    refine m_get h fo_X8_64 (by decide) rfl rfl dX8_row_111 ?_
                    refine m_bipush h dX8_row_114 (by decide) ?_
                    refine m_icmp_ne h dX8_row_116 (tgt := 123) (by decide) (by omega) (by omega) (fun c66 => ?_) (fun c66 => ?_)
                    · skip
                      have hgd : RwGood g kd a b c R := ⟨h1, h2, hgd3⟩
                      have hr12 : g_r g < 12 := by omega
                      have hNr := nks_rg kd
                      refine m_aload_n h dX8_row_123 rfl rfl ?_
                      refine m_get h fo_X8_16 (by decide) rfl rfl dX8_row_124 ?_
                      refine m_aload_n h dX8_row_127 rfl rfl ?_
                      refine m_get h fo_X8_64 (by decide) rfl rfl dX8_row_128 ?_
                      show M X G 9 v 131 [some (.ref (G.2.1 25)), some (.int (iI kd)), some (.int (iI a)), some (.int (iI b)), some (.int (iI c)), some (.int (iI R)), some (.int (iI ow)), some (.int (iI 1)), none] [.int (iI (v.1 25 1)), .ref (G.2.1 28)]
                      rw [s1]
                      show M X G 9 v 131 [some (.ref (G.2.1 25)), some (.int (iI kd)), some (.int (iI a)), some (.int (iI b)), some (.int (iI c)), some (.int (iI R)), some (.int (iI ow)), some (.int (iI 1)), none] [.int (iI (g_r g)), .ref (G.2.1 28)]
                      refine m_iload_n h dX8_row_131 rfl rfl ?_
                      refine m_iast h (ar_28 G) (by omega) (by omega) dX8_row_132 ?_
                      refine m_aload_n h dX8_row_133 rfl rfl ?_
                      refine m_get h fo_X8_20 (by decide) rfl rfl dX8_row_134 ?_
                      refine m_iconst h dX8_row_137 ?_
                      refine m_aload_n h dX8_row_138 rfl rfl ?_
                      refine m_get h fo_X8_64 (by decide) rfl rfl dX8_row_139 ?_
                      show M X G 9 (wI v 28 (g_r g) kd) 142 [some (.ref (G.2.1 25)), some (.int (iI kd)), some (.int (iI a)), some (.int (iI b)), some (.int (iI c)), some (.int (iI R)), some (.int (iI ow)), some (.int (iI 1)), none] [.int (iI (v.1 25 1)), .int (iI 3), .ref (G.2.1 29)]
                      show M X G 9 (wI v 28 (g_r g) kd) 142 [some (.ref (G.2.1 25)), some (.int (iI kd)), some (.int (iI a)), some (.int (iI b)), some (.int (iI c)), some (.int (iI R)), some (.int (iI ow)), some (.int (iI 1)), none] [.int (iI (v.1 25 1)), .int (iI 3), .ref (G.2.1 29)]
                      rw [s1]
                      show M X G 9 (wI v 28 (g_r g) kd) 142 [some (.ref (G.2.1 25)), some (.int (iI kd)), some (.int (iI a)), some (.int (iI b)), some (.int (iI c)), some (.int (iI R)), some (.int (iI ow)), some (.int (iI 1)), none] [.int (iI (g_r g)), .int (iI 3), .ref (G.2.1 29)]
                      refine m_imul h dX8_row_142 ?_
                      refine m_iload h dX8_row_143 rfl ?_
                      refine m_if_le h dX8_row_145 (tgt := 152) (by decide) (by omega) (fun c67 => ?_) (fun c67 => ?_)
                      · skip
                        refine m_sipush h dX8_row_152 (by decide) ?_
                        refine m_iast h (ar_29 G) (by omega) (by omega) dX8_row_155 ?_
                        refine m_aload_n h dX8_row_156 rfl rfl ?_
                        refine m_get h fo_X8_20 (by decide) rfl rfl dX8_row_157 ?_
                        refine m_iconst h dX8_row_160 ?_
                        refine m_aload_n h dX8_row_161 rfl rfl ?_
                        refine m_get h fo_X8_64 (by decide) rfl rfl dX8_row_162 ?_
                        show M X G 9 (wI (wI v 28 (g_r g) kd) 29 (3 * (g_r g)) (-1000)) 165 [some (.ref (G.2.1 25)), some (.int (iI kd)), some (.int (iI a)), some (.int (iI b)), some (.int (iI c)), some (.int (iI R)), some (.int (iI ow)), some (.int (iI 1)), none] [.int (iI (v.1 25 1)), .int (iI 3), .ref (G.2.1 29)]
                        show M X G 9 (wI (wI v 28 (g_r g) kd) 29 (3 * (g_r g)) (-1000)) 165 [some (.ref (G.2.1 25)), some (.int (iI kd)), some (.int (iI a)), some (.int (iI b)), some (.int (iI c)), some (.int (iI R)), some (.int (iI ow)), some (.int (iI 1)), none] [.int (iI (v.1 25 1)), .int (iI 3), .ref (G.2.1 29)]
                        rw [s1]
                        show M X G 9 (wI (wI v 28 (g_r g) kd) 29 (3 * (g_r g)) (-1000)) 165 [some (.ref (G.2.1 25)), some (.int (iI kd)), some (.int (iI a)), some (.int (iI b)), some (.int (iI c)), some (.int (iI R)), some (.int (iI ow)), some (.int (iI 1)), none] [.int (iI (g_r g)), .int (iI 3), .ref (G.2.1 29)]
                        refine m_imul h dX8_row_165 ?_
                        refine m_iconst h dX8_row_166 ?_
                        refine m_iadd h dX8_row_167 ?_
                        refine m_iload h dX8_row_168 rfl ?_
                        refine m_iconst h dX8_row_170 ?_
                        refine m_icmp_le h dX8_row_171 (tgt := 178) (by decide) (by omega) (by omega) (fun c68 => ?_) (fun c68 => ?_)
                        · skip
                          refine m_sipush h dX8_row_178 (by decide) ?_
                          refine m_iast h (ar_29 G) (by omega) (by omega) dX8_row_181 ?_
                          refine m_aload_n h dX8_row_182 rfl rfl ?_
                          refine m_get h fo_X8_20 (by decide) rfl rfl dX8_row_183 ?_
                          refine m_iconst h dX8_row_186 ?_
                          refine m_aload_n h dX8_row_187 rfl rfl ?_
                          refine m_get h fo_X8_64 (by decide) rfl rfl dX8_row_188 ?_
                          show M X G 9 (wI (wI (wI v 28 (g_r g) kd) 29 (3 * (g_r g)) (-1000)) 29 ((3 * (g_r g)) + 1) (-1000)) 191 [some (.ref (G.2.1 25)), some (.int (iI kd)), some (.int (iI a)), some (.int (iI b)), some (.int (iI c)), some (.int (iI R)), some (.int (iI ow)), some (.int (iI 1)), none] [.int (iI (v.1 25 1)), .int (iI 3), .ref (G.2.1 29)]
                          show M X G 9 (wI (wI (wI v 28 (g_r g) kd) 29 (3 * (g_r g)) (-1000)) 29 ((3 * (g_r g)) + 1) (-1000)) 191 [some (.ref (G.2.1 25)), some (.int (iI kd)), some (.int (iI a)), some (.int (iI b)), some (.int (iI c)), some (.int (iI R)), some (.int (iI ow)), some (.int (iI 1)), none] [.int (iI (v.1 25 1)), .int (iI 3), .ref (G.2.1 29)]
                          rw [s1]
                          show M X G 9 (wI (wI (wI v 28 (g_r g) kd) 29 (3 * (g_r g)) (-1000)) 29 ((3 * (g_r g)) + 1) (-1000)) 191 [some (.ref (G.2.1 25)), some (.int (iI kd)), some (.int (iI a)), some (.int (iI b)), some (.int (iI c)), some (.int (iI R)), some (.int (iI ow)), some (.int (iI 1)), none] [.int (iI (g_r g)), .int (iI 3), .ref (G.2.1 29)]
                          refine m_imul h dX8_row_191 ?_
                          refine m_iconst h dX8_row_192 ?_
                          refine m_iadd h dX8_row_193 ?_
                          refine m_iload h dX8_row_194 rfl ?_
                          refine m_iconst h dX8_row_196 ?_
                          refine m_icmp_le h dX8_row_197 (tgt := 205) (by decide) (by omega) (by omega) (fun c69 => ?_) (fun c69 => ?_)
                          · skip
                            refine m_sipush h dX8_row_205 (by decide) ?_
                            refine m_iast h (ar_29 G) (by omega) (by omega) dX8_row_208 ?_
                            refine m_aload_n h dX8_row_209 rfl rfl ?_
                            refine m_get h fo_X8_23 (by decide) rfl rfl dX8_row_210 ?_
                            refine m_aload_n h dX8_row_213 rfl rfl ?_
                            refine m_get h fo_X8_64 (by decide) rfl rfl dX8_row_214 ?_
                            show M X G 9 (wI (wI (wI (wI v 28 (g_r g) kd) 29 (3 * (g_r g)) (-1000)) 29 ((3 * (g_r g)) + 1) (-1000)) 29 ((3 * (g_r g)) + 2) (-1000)) 217 [some (.ref (G.2.1 25)), some (.int (iI kd)), some (.int (iI a)), some (.int (iI b)), some (.int (iI c)), some (.int (iI R)), some (.int (iI ow)), some (.int (iI 1)), none] [.int (iI (v.1 25 1)), .ref (G.2.1 30)]
                            show M X G 9 (wI (wI (wI (wI v 28 (g_r g) kd) 29 (3 * (g_r g)) (-1000)) 29 ((3 * (g_r g)) + 1) (-1000)) 29 ((3 * (g_r g)) + 2) (-1000)) 217 [some (.ref (G.2.1 25)), some (.int (iI kd)), some (.int (iI a)), some (.int (iI b)), some (.int (iI c)), some (.int (iI R)), some (.int (iI ow)), some (.int (iI 1)), none] [.int (iI (v.1 25 1)), .ref (G.2.1 30)]
                            rw [s1]
                            show M X G 9 (wI (wI (wI (wI v 28 (g_r g) kd) 29 (3 * (g_r g)) (-1000)) 29 ((3 * (g_r g)) + 1) (-1000)) 29 ((3 * (g_r g)) + 2) (-1000)) 217 [some (.ref (G.2.1 25)), some (.int (iI kd)), some (.int (iI a)), some (.int (iI b)), some (.int (iI c)), some (.int (iI R)), some (.int (iI ow)), some (.int (iI 1)), none] [.int (iI (g_r g)), .ref (G.2.1 30)]
                            refine m_iload h dX8_row_217 rfl ?_
                            refine m_iast h (ar_30 G) (by omega) (by omega) dX8_row_219 ?_
                            refine m_iconst h dX8_row_220 ?_
                            refine m_istore h dX8_row_221 (by decide) rfl ?_
                            refine m_kill 6 ?_
                            refine m_kill 7 ?_
                            have lp223 : ∀ (fuel : Nat) (k : Nat) (u : Mem), k ≤ 8 → 20 - k < fuel → rwF v (g_r g) kd (if 1 ≤ NKs kd then a else -1) (if 2 ≤ NKs kd then b else -1) (if 3 ≤ NKs kd then c else -1) R u → (∀ x, 0 ≤ x → x < (k : Int) → u.1 31 (8 * g_r g + x) = 0) → M X G 9 u 223 [some (.ref (G.2.1 25)), some (.int (iI kd)), some (.int (iI a)), some (.int (iI b)), some (.int (iI c)), some (.int (iI R)), none, none, some (.int (iI (k : Int)))] [] := by
                              intro fuel
                              induction fuel with
                              | zero => intro k u hk8 hfu hw hz; exfalso; omega
                              | succ fuel ih =>
                                intro k u hk8 hfu hw hz
                                have e25r : u.1 25 1 = g_r g := by rw [hw.1 25 (by decide) (by decide) (by decide) (by decide)]; exact s1
                                refine m_iload h dX8_row_223 rfl ?_
                                refine m_bipush h dX8_row_225 (by decide) ?_
                                refine m_icmp_ge h dX8_row_227 (tgt := 252) (by decide) (by omega) (by omega) (fun c70 => ?_) (fun c70 => ?_)
                                · skip
                                  have hz8 : ∀ x, 0 ≤ x → x < 8 → u.1 31 (8 * g_r g + x) = 0 := fun x q1 q2 => hz x q1 (by omega)
                                  refine m_aload_n h dX8_row_252 rfl rfl ?_
                                  refine m_dup h dX8_row_253 rfl ?_
                                  refine m_get h fo_X8_64 (by decide) rfl rfl dX8_row_254 ?_
                                  show M X G 9 u 257 [some (.ref (G.2.1 25)), some (.int (iI kd)), some (.int (iI a)), some (.int (iI b)), some (.int (iI c)), some (.int (iI R)), none, none, some (.int (iI (k : Int)))] [.int (iI (u.1 25 1)), .ref (G.2.1 25)]
                                  rw [e25r]
                                  show M X G 9 u 257 [some (.ref (G.2.1 25)), some (.int (iI kd)), some (.int (iI a)), some (.int (iI b)), some (.int (iI c)), some (.int (iI R)), none, none, some (.int (iI (k : Int)))] [.int (iI (g_r g)), .ref (G.2.1 25)]
                                  refine m_iconst h dX8_row_257 ?_
                                  refine m_iadd h dX8_row_258 ?_
                                  refine m_putJ h fw_X8_64 (by decide) rfl (Nat.le_of_ble_eq_true rfl) (kz := 1) rfl rfl dX8_row_259 ?_
                                  have hS1 := rwF_s ⟨s0, s1, s2, s3⟩ hg hr12 hw hz8
                                  have hF1 : FrM v (wI u 25 1 ((g_r g) + 1)) := FrM.w ⟨fun i hi => hw.1 i (by omega) (by omega) (by omega) (by omega), hw.2.1⟩ (by omega)
                                  refine m_aload_n h dX8_row_262 rfl rfl ?_
                                  refine m_vV h (m_anew _ hG _ (by intro x x0 x1; exact hS1.2.2.1.z x x0 x1)) moX8_anew voX8_anew lk_X8_73 dX8_row_263 (by decide) (by decide) rfl rfl rfl (Nat.le_of_ble_eq_true rfl) (fun ua p73 => ?_)
                                  have hRa := RM_an hS1 p73 t
                                  have hFa := hF1.tr (ANW.m p73)
                                  have hAn := p73
                                  refine m_aload_n h dX8_row_266 rfl rfl ?_
                                  refine m_get h fo_X8_64 (by decide) rfl rfl dX8_row_267 ?_
                                  refine m_iconst h dX8_row_270 ?_
                                  refine m_isub h dX8_row_271 ?_
                                  refine m_iret h hR rfl dX8_row_272 ?_
                                  refine Or.inr ⟨hgd, Or.inr ⟨hr12, ?_, hRa, hFa⟩⟩
                                  have : ua.1 25 1 = g_r g + 1 := hRa.1.2.1
                                  omega
                                · skip
                                  refine m_aload_n h dX8_row_230 rfl rfl ?_
                                  refine m_get h fo_X8_26 (by decide) rfl rfl dX8_row_231 ?_
                                  refine m_bipush h dX8_row_234 (by decide) ?_
                                  refine m_aload_n h dX8_row_236 rfl rfl ?_
                                  refine m_get h fo_X8_64 (by decide) rfl rfl dX8_row_237 ?_
                                  show M X G 9 u 240 [some (.ref (G.2.1 25)), some (.int (iI kd)), some (.int (iI a)), some (.int (iI b)), some (.int (iI c)), some (.int (iI R)), none, none, some (.int (iI (k : Int)))] [.int (iI (u.1 25 1)), .int (iI 8), .ref (G.2.1 31)]
                                  rw [e25r]
                                  show M X G 9 u 240 [some (.ref (G.2.1 25)), some (.int (iI kd)), some (.int (iI a)), some (.int (iI b)), some (.int (iI c)), some (.int (iI R)), none, none, some (.int (iI (k : Int)))] [.int (iI (g_r g)), .int (iI 8), .ref (G.2.1 31)]
                                  refine m_imul h dX8_row_240 ?_
                                  refine m_iload h dX8_row_241 rfl ?_
                                  refine m_iadd h dX8_row_243 ?_
                                  refine m_iconst h dX8_row_244 ?_
                                  refine m_iast h (ar_31 G) (by omega) (by omega) dX8_row_245 ?_
                                  refine m_iinc h dX8_row_246 rfl (by decide) rfl ?_
                                  refine m_goto h dX8_row_249 (tgt := 223) (by decide) ?_
                                  refine ih (k + 1) _ (by omega) (by omega) (rwF_w hw (by omega)) (fun x x0 x1 => ?_)
                                  by_cases e : x = (k : Int)
                                  · subst e; rw [wI_s]
                                  · rw [wI_n (by omega)]; exact hz x x0 (by omega)
                            exact lp223 100 0 _ (by omega) (by omega) (rwF_i (by rw [if_neg (by omega)]; rfl) (by rw [if_neg (by omega)]; rfl) (by rw [if_neg (by omega)]; rfl)) (fun x q1 q2 => by omega)
                          · skip
                            refine m_iload h dX8_row_200 rfl ?_
                            refine m_goto h dX8_row_202 (tgt := 208) (by decide) ?_
                            refine m_iast h (ar_29 G) (by omega) (by omega) dX8_row_208 ?_
                            refine m_aload_n h dX8_row_209 rfl rfl ?_
                            refine m_get h fo_X8_23 (by decide) rfl rfl dX8_row_210 ?_
                            refine m_aload_n h dX8_row_213 rfl rfl ?_
                            refine m_get h fo_X8_64 (by decide) rfl rfl dX8_row_214 ?_
                            show M X G 9 (wI (wI (wI (wI v 28 (g_r g) kd) 29 (3 * (g_r g)) (-1000)) 29 ((3 * (g_r g)) + 1) (-1000)) 29 ((3 * (g_r g)) + 2) c) 217 [some (.ref (G.2.1 25)), some (.int (iI kd)), some (.int (iI a)), some (.int (iI b)), some (.int (iI c)), some (.int (iI R)), some (.int (iI ow)), some (.int (iI 1)), none] [.int (iI (v.1 25 1)), .ref (G.2.1 30)]
                            show M X G 9 (wI (wI (wI (wI v 28 (g_r g) kd) 29 (3 * (g_r g)) (-1000)) 29 ((3 * (g_r g)) + 1) (-1000)) 29 ((3 * (g_r g)) + 2) c) 217 [some (.ref (G.2.1 25)), some (.int (iI kd)), some (.int (iI a)), some (.int (iI b)), some (.int (iI c)), some (.int (iI R)), some (.int (iI ow)), some (.int (iI 1)), none] [.int (iI (v.1 25 1)), .ref (G.2.1 30)]
                            rw [s1]
                            show M X G 9 (wI (wI (wI (wI v 28 (g_r g) kd) 29 (3 * (g_r g)) (-1000)) 29 ((3 * (g_r g)) + 1) (-1000)) 29 ((3 * (g_r g)) + 2) c) 217 [some (.ref (G.2.1 25)), some (.int (iI kd)), some (.int (iI a)), some (.int (iI b)), some (.int (iI c)), some (.int (iI R)), some (.int (iI ow)), some (.int (iI 1)), none] [.int (iI (g_r g)), .ref (G.2.1 30)]
                            refine m_iload h dX8_row_217 rfl ?_
                            refine m_iast h (ar_30 G) (by omega) (by omega) dX8_row_219 ?_
                            refine m_iconst h dX8_row_220 ?_
                            refine m_istore h dX8_row_221 (by decide) rfl ?_
                            refine m_kill 6 ?_
                            refine m_kill 7 ?_
                            have lp223 : ∀ (fuel : Nat) (k : Nat) (u : Mem), k ≤ 8 → 20 - k < fuel → rwF v (g_r g) kd (if 1 ≤ NKs kd then a else -1) (if 2 ≤ NKs kd then b else -1) (if 3 ≤ NKs kd then c else -1) R u → (∀ x, 0 ≤ x → x < (k : Int) → u.1 31 (8 * g_r g + x) = 0) → M X G 9 u 223 [some (.ref (G.2.1 25)), some (.int (iI kd)), some (.int (iI a)), some (.int (iI b)), some (.int (iI c)), some (.int (iI R)), none, none, some (.int (iI (k : Int)))] [] := by
                              intro fuel
                              induction fuel with
                              | zero => intro k u hk8 hfu hw hz; exfalso; omega
                              | succ fuel ih =>
                                intro k u hk8 hfu hw hz
                                have e25r : u.1 25 1 = g_r g := by rw [hw.1 25 (by decide) (by decide) (by decide) (by decide)]; exact s1
                                refine m_iload h dX8_row_223 rfl ?_
                                refine m_bipush h dX8_row_225 (by decide) ?_
                                refine m_icmp_ge h dX8_row_227 (tgt := 252) (by decide) (by omega) (by omega) (fun c74 => ?_) (fun c74 => ?_)
                                · skip
                                  have hz8 : ∀ x, 0 ≤ x → x < 8 → u.1 31 (8 * g_r g + x) = 0 := fun x q1 q2 => hz x q1 (by omega)
                                  refine m_aload_n h dX8_row_252 rfl rfl ?_
                                  refine m_dup h dX8_row_253 rfl ?_
                                  refine m_get h fo_X8_64 (by decide) rfl rfl dX8_row_254 ?_
                                  show M X G 9 u 257 [some (.ref (G.2.1 25)), some (.int (iI kd)), some (.int (iI a)), some (.int (iI b)), some (.int (iI c)), some (.int (iI R)), none, none, some (.int (iI (k : Int)))] [.int (iI (u.1 25 1)), .ref (G.2.1 25)]
                                  rw [e25r]
                                  show M X G 9 u 257 [some (.ref (G.2.1 25)), some (.int (iI kd)), some (.int (iI a)), some (.int (iI b)), some (.int (iI c)), some (.int (iI R)), none, none, some (.int (iI (k : Int)))] [.int (iI (g_r g)), .ref (G.2.1 25)]
                                  refine m_iconst h dX8_row_257 ?_
                                  refine m_iadd h dX8_row_258 ?_
                                  refine m_putJ h fw_X8_64 (by decide) rfl (Nat.le_of_ble_eq_true rfl) (kz := 1) rfl rfl dX8_row_259 ?_
                                  have hS1 := rwF_s ⟨s0, s1, s2, s3⟩ hg hr12 hw hz8
                                  have hF1 : FrM v (wI u 25 1 ((g_r g) + 1)) := FrM.w ⟨fun i hi => hw.1 i (by omega) (by omega) (by omega) (by omega), hw.2.1⟩ (by omega)
                                  refine m_aload_n h dX8_row_262 rfl rfl ?_
                                  refine m_vV h (m_anew _ hG _ (by intro x x0 x1; exact hS1.2.2.1.z x x0 x1)) moX8_anew voX8_anew lk_X8_73 dX8_row_263 (by decide) (by decide) rfl rfl rfl (Nat.le_of_ble_eq_true rfl) (fun ua p77 => ?_)
                                  have hRa := RM_an hS1 p77 t
                                  have hFa := hF1.tr (ANW.m p77)
                                  have hAn := p77
                                  refine m_aload_n h dX8_row_266 rfl rfl ?_
                                  refine m_get h fo_X8_64 (by decide) rfl rfl dX8_row_267 ?_
                                  refine m_iconst h dX8_row_270 ?_
                                  refine m_isub h dX8_row_271 ?_
                                  refine m_iret h hR rfl dX8_row_272 ?_
                                  refine Or.inr ⟨hgd, Or.inr ⟨hr12, ?_, hRa, hFa⟩⟩
                                  have : ua.1 25 1 = g_r g + 1 := hRa.1.2.1
                                  omega
                                · skip
                                  refine m_aload_n h dX8_row_230 rfl rfl ?_
                                  refine m_get h fo_X8_26 (by decide) rfl rfl dX8_row_231 ?_
                                  refine m_bipush h dX8_row_234 (by decide) ?_
                                  refine m_aload_n h dX8_row_236 rfl rfl ?_
                                  refine m_get h fo_X8_64 (by decide) rfl rfl dX8_row_237 ?_
                                  show M X G 9 u 240 [some (.ref (G.2.1 25)), some (.int (iI kd)), some (.int (iI a)), some (.int (iI b)), some (.int (iI c)), some (.int (iI R)), none, none, some (.int (iI (k : Int)))] [.int (iI (u.1 25 1)), .int (iI 8), .ref (G.2.1 31)]
                                  rw [e25r]
                                  show M X G 9 u 240 [some (.ref (G.2.1 25)), some (.int (iI kd)), some (.int (iI a)), some (.int (iI b)), some (.int (iI c)), some (.int (iI R)), none, none, some (.int (iI (k : Int)))] [.int (iI (g_r g)), .int (iI 8), .ref (G.2.1 31)]
                                  refine m_imul h dX8_row_240 ?_
                                  refine m_iload h dX8_row_241 rfl ?_
                                  refine m_iadd h dX8_row_243 ?_
                                  refine m_iconst h dX8_row_244 ?_
                                  refine m_iast h (ar_31 G) (by omega) (by omega) dX8_row_245 ?_
                                  refine m_iinc h dX8_row_246 rfl (by decide) rfl ?_
                                  refine m_goto h dX8_row_249 (tgt := 223) (by decide) ?_
                                  refine ih (k + 1) _ (by omega) (by omega) (rwF_w hw (by omega)) (fun x x0 x1 => ?_)
                                  by_cases e : x = (k : Int)
                                  · subst e; rw [wI_s]
                                  · rw [wI_n (by omega)]; exact hz x x0 (by omega)
                            exact lp223 100 0 _ (by omega) (by omega) (rwF_i (by rw [if_neg (by omega)]; rfl) (by rw [if_neg (by omega)]; rfl) (by rw [if_pos (by omega)]; exact (mN_nn (by have : isNm g c := (hgd.2.2.2.2 (by omega)).1; exact this.1)).symm)) (fun x q1 q2 => by omega)
                        · skip
                          refine m_iload_n h dX8_row_174 rfl rfl ?_
                          refine m_goto h dX8_row_175 (tgt := 181) (by decide) ?_
                          refine m_iast h (ar_29 G) (by omega) (by omega) dX8_row_181 ?_
                          refine m_aload_n h dX8_row_182 rfl rfl ?_
                          refine m_get h fo_X8_20 (by decide) rfl rfl dX8_row_183 ?_
                          refine m_iconst h dX8_row_186 ?_
                          refine m_aload_n h dX8_row_187 rfl rfl ?_
                          refine m_get h fo_X8_64 (by decide) rfl rfl dX8_row_188 ?_
                          show M X G 9 (wI (wI (wI v 28 (g_r g) kd) 29 (3 * (g_r g)) (-1000)) 29 ((3 * (g_r g)) + 1) b) 191 [some (.ref (G.2.1 25)), some (.int (iI kd)), some (.int (iI a)), some (.int (iI b)), some (.int (iI c)), some (.int (iI R)), some (.int (iI ow)), some (.int (iI 1)), none] [.int (iI (v.1 25 1)), .int (iI 3), .ref (G.2.1 29)]
                          show M X G 9 (wI (wI (wI v 28 (g_r g) kd) 29 (3 * (g_r g)) (-1000)) 29 ((3 * (g_r g)) + 1) b) 191 [some (.ref (G.2.1 25)), some (.int (iI kd)), some (.int (iI a)), some (.int (iI b)), some (.int (iI c)), some (.int (iI R)), some (.int (iI ow)), some (.int (iI 1)), none] [.int (iI (v.1 25 1)), .int (iI 3), .ref (G.2.1 29)]
                          rw [s1]
                          show M X G 9 (wI (wI (wI v 28 (g_r g) kd) 29 (3 * (g_r g)) (-1000)) 29 ((3 * (g_r g)) + 1) b) 191 [some (.ref (G.2.1 25)), some (.int (iI kd)), some (.int (iI a)), some (.int (iI b)), some (.int (iI c)), some (.int (iI R)), some (.int (iI ow)), some (.int (iI 1)), none] [.int (iI (g_r g)), .int (iI 3), .ref (G.2.1 29)]
                          refine m_imul h dX8_row_191 ?_
                          refine m_iconst h dX8_row_192 ?_
                          refine m_iadd h dX8_row_193 ?_
                          refine m_iload h dX8_row_194 rfl ?_
                          refine m_iconst h dX8_row_196 ?_
                          refine m_icmp_le h dX8_row_197 (tgt := 205) (by decide) (by omega) (by omega) (fun c78 => ?_) (fun c78 => ?_)
                          · skip
                            refine m_sipush h dX8_row_205 (by decide) ?_
                            refine m_iast h (ar_29 G) (by omega) (by omega) dX8_row_208 ?_
                            refine m_aload_n h dX8_row_209 rfl rfl ?_
                            refine m_get h fo_X8_23 (by decide) rfl rfl dX8_row_210 ?_
                            refine m_aload_n h dX8_row_213 rfl rfl ?_
                            refine m_get h fo_X8_64 (by decide) rfl rfl dX8_row_214 ?_
                            show M X G 9 (wI (wI (wI (wI v 28 (g_r g) kd) 29 (3 * (g_r g)) (-1000)) 29 ((3 * (g_r g)) + 1) b) 29 ((3 * (g_r g)) + 2) (-1000)) 217 [some (.ref (G.2.1 25)), some (.int (iI kd)), some (.int (iI a)), some (.int (iI b)), some (.int (iI c)), some (.int (iI R)), some (.int (iI ow)), some (.int (iI 1)), none] [.int (iI (v.1 25 1)), .ref (G.2.1 30)]
                            show M X G 9 (wI (wI (wI (wI v 28 (g_r g) kd) 29 (3 * (g_r g)) (-1000)) 29 ((3 * (g_r g)) + 1) b) 29 ((3 * (g_r g)) + 2) (-1000)) 217 [some (.ref (G.2.1 25)), some (.int (iI kd)), some (.int (iI a)), some (.int (iI b)), some (.int (iI c)), some (.int (iI R)), some (.int (iI ow)), some (.int (iI 1)), none] [.int (iI (v.1 25 1)), .ref (G.2.1 30)]
                            rw [s1]
                            show M X G 9 (wI (wI (wI (wI v 28 (g_r g) kd) 29 (3 * (g_r g)) (-1000)) 29 ((3 * (g_r g)) + 1) b) 29 ((3 * (g_r g)) + 2) (-1000)) 217 [some (.ref (G.2.1 25)), some (.int (iI kd)), some (.int (iI a)), some (.int (iI b)), some (.int (iI c)), some (.int (iI R)), some (.int (iI ow)), some (.int (iI 1)), none] [.int (iI (g_r g)), .ref (G.2.1 30)]
                            refine m_iload h dX8_row_217 rfl ?_
                            refine m_iast h (ar_30 G) (by omega) (by omega) dX8_row_219 ?_
                            refine m_iconst h dX8_row_220 ?_
                            refine m_istore h dX8_row_221 (by decide) rfl ?_
                            refine m_kill 6 ?_
                            refine m_kill 7 ?_
                            have lp223 : ∀ (fuel : Nat) (k : Nat) (u : Mem), k ≤ 8 → 20 - k < fuel → rwF v (g_r g) kd (if 1 ≤ NKs kd then a else -1) (if 2 ≤ NKs kd then b else -1) (if 3 ≤ NKs kd then c else -1) R u → (∀ x, 0 ≤ x → x < (k : Int) → u.1 31 (8 * g_r g + x) = 0) → M X G 9 u 223 [some (.ref (G.2.1 25)), some (.int (iI kd)), some (.int (iI a)), some (.int (iI b)), some (.int (iI c)), some (.int (iI R)), none, none, some (.int (iI (k : Int)))] [] := by
                              intro fuel
                              induction fuel with
                              | zero => intro k u hk8 hfu hw hz; exfalso; omega
                              | succ fuel ih =>
                                intro k u hk8 hfu hw hz
                                have e25r : u.1 25 1 = g_r g := by rw [hw.1 25 (by decide) (by decide) (by decide) (by decide)]; exact s1
                                refine m_iload h dX8_row_223 rfl ?_
                                refine m_bipush h dX8_row_225 (by decide) ?_
                                refine m_icmp_ge h dX8_row_227 (tgt := 252) (by decide) (by omega) (by omega) (fun c79 => ?_) (fun c79 => ?_)
                                · skip
                                  have hz8 : ∀ x, 0 ≤ x → x < 8 → u.1 31 (8 * g_r g + x) = 0 := fun x q1 q2 => hz x q1 (by omega)
                                  refine m_aload_n h dX8_row_252 rfl rfl ?_
                                  refine m_dup h dX8_row_253 rfl ?_
                                  refine m_get h fo_X8_64 (by decide) rfl rfl dX8_row_254 ?_
                                  show M X G 9 u 257 [some (.ref (G.2.1 25)), some (.int (iI kd)), some (.int (iI a)), some (.int (iI b)), some (.int (iI c)), some (.int (iI R)), none, none, some (.int (iI (k : Int)))] [.int (iI (u.1 25 1)), .ref (G.2.1 25)]
                                  rw [e25r]
                                  show M X G 9 u 257 [some (.ref (G.2.1 25)), some (.int (iI kd)), some (.int (iI a)), some (.int (iI b)), some (.int (iI c)), some (.int (iI R)), none, none, some (.int (iI (k : Int)))] [.int (iI (g_r g)), .ref (G.2.1 25)]
                                  refine m_iconst h dX8_row_257 ?_
                                  refine m_iadd h dX8_row_258 ?_
                                  refine m_putJ h fw_X8_64 (by decide) rfl (Nat.le_of_ble_eq_true rfl) (kz := 1) rfl rfl dX8_row_259 ?_
                                  have hS1 := rwF_s ⟨s0, s1, s2, s3⟩ hg hr12 hw hz8
                                  have hF1 : FrM v (wI u 25 1 ((g_r g) + 1)) := FrM.w ⟨fun i hi => hw.1 i (by omega) (by omega) (by omega) (by omega), hw.2.1⟩ (by omega)
                                  refine m_aload_n h dX8_row_262 rfl rfl ?_
                                  refine m_vV h (m_anew _ hG _ (by intro x x0 x1; exact hS1.2.2.1.z x x0 x1)) moX8_anew voX8_anew lk_X8_73 dX8_row_263 (by decide) (by decide) rfl rfl rfl (Nat.le_of_ble_eq_true rfl) (fun ua p82 => ?_)
                                  have hRa := RM_an hS1 p82 t
                                  have hFa := hF1.tr (ANW.m p82)
                                  have hAn := p82
                                  refine m_aload_n h dX8_row_266 rfl rfl ?_
                                  refine m_get h fo_X8_64 (by decide) rfl rfl dX8_row_267 ?_
                                  refine m_iconst h dX8_row_270 ?_
                                  refine m_isub h dX8_row_271 ?_
                                  refine m_iret h hR rfl dX8_row_272 ?_
                                  refine Or.inr ⟨hgd, Or.inr ⟨hr12, ?_, hRa, hFa⟩⟩
                                  have : ua.1 25 1 = g_r g + 1 := hRa.1.2.1
                                  omega
                                · skip
                                  refine m_aload_n h dX8_row_230 rfl rfl ?_
                                  refine m_get h fo_X8_26 (by decide) rfl rfl dX8_row_231 ?_
                                  refine m_bipush h dX8_row_234 (by decide) ?_
                                  refine m_aload_n h dX8_row_236 rfl rfl ?_
                                  refine m_get h fo_X8_64 (by decide) rfl rfl dX8_row_237 ?_
                                  show M X G 9 u 240 [some (.ref (G.2.1 25)), some (.int (iI kd)), some (.int (iI a)), some (.int (iI b)), some (.int (iI c)), some (.int (iI R)), none, none, some (.int (iI (k : Int)))] [.int (iI (u.1 25 1)), .int (iI 8), .ref (G.2.1 31)]
                                  rw [e25r]
                                  show M X G 9 u 240 [some (.ref (G.2.1 25)), some (.int (iI kd)), some (.int (iI a)), some (.int (iI b)), some (.int (iI c)), some (.int (iI R)), none, none, some (.int (iI (k : Int)))] [.int (iI (g_r g)), .int (iI 8), .ref (G.2.1 31)]
                                  refine m_imul h dX8_row_240 ?_
                                  refine m_iload h dX8_row_241 rfl ?_
                                  refine m_iadd h dX8_row_243 ?_
                                  refine m_iconst h dX8_row_244 ?_
                                  refine m_iast h (ar_31 G) (by omega) (by omega) dX8_row_245 ?_
                                  refine m_iinc h dX8_row_246 rfl (by decide) rfl ?_
                                  refine m_goto h dX8_row_249 (tgt := 223) (by decide) ?_
                                  refine ih (k + 1) _ (by omega) (by omega) (rwF_w hw (by omega)) (fun x x0 x1 => ?_)
                                  by_cases e : x = (k : Int)
                                  · subst e; rw [wI_s]
                                  · rw [wI_n (by omega)]; exact hz x x0 (by omega)
                            exact lp223 100 0 _ (by omega) (by omega) (rwF_i (by rw [if_neg (by omega)]; rfl) (by rw [if_pos (by omega)]; exact (mN_nn (by have : isNm g b := (hgd.2.2.2.1 (by omega)).1; exact this.1)).symm) (by rw [if_neg (by omega)]; rfl)) (fun x q1 q2 => by omega)
                          · skip
                            refine m_iload h dX8_row_200 rfl ?_
                            refine m_goto h dX8_row_202 (tgt := 208) (by decide) ?_
                            refine m_iast h (ar_29 G) (by omega) (by omega) dX8_row_208 ?_
                            refine m_aload_n h dX8_row_209 rfl rfl ?_
                            refine m_get h fo_X8_23 (by decide) rfl rfl dX8_row_210 ?_
                            refine m_aload_n h dX8_row_213 rfl rfl ?_
                            refine m_get h fo_X8_64 (by decide) rfl rfl dX8_row_214 ?_
                            show M X G 9 (wI (wI (wI (wI v 28 (g_r g) kd) 29 (3 * (g_r g)) (-1000)) 29 ((3 * (g_r g)) + 1) b) 29 ((3 * (g_r g)) + 2) c) 217 [some (.ref (G.2.1 25)), some (.int (iI kd)), some (.int (iI a)), some (.int (iI b)), some (.int (iI c)), some (.int (iI R)), some (.int (iI ow)), some (.int (iI 1)), none] [.int (iI (v.1 25 1)), .ref (G.2.1 30)]
                            show M X G 9 (wI (wI (wI (wI v 28 (g_r g) kd) 29 (3 * (g_r g)) (-1000)) 29 ((3 * (g_r g)) + 1) b) 29 ((3 * (g_r g)) + 2) c) 217 [some (.ref (G.2.1 25)), some (.int (iI kd)), some (.int (iI a)), some (.int (iI b)), some (.int (iI c)), some (.int (iI R)), some (.int (iI ow)), some (.int (iI 1)), none] [.int (iI (v.1 25 1)), .ref (G.2.1 30)]
                            rw [s1]
                            show M X G 9 (wI (wI (wI (wI v 28 (g_r g) kd) 29 (3 * (g_r g)) (-1000)) 29 ((3 * (g_r g)) + 1) b) 29 ((3 * (g_r g)) + 2) c) 217 [some (.ref (G.2.1 25)), some (.int (iI kd)), some (.int (iI a)), some (.int (iI b)), some (.int (iI c)), some (.int (iI R)), some (.int (iI ow)), some (.int (iI 1)), none] [.int (iI (g_r g)), .ref (G.2.1 30)]
                            refine m_iload h dX8_row_217 rfl ?_
                            refine m_iast h (ar_30 G) (by omega) (by omega) dX8_row_219 ?_
                            refine m_iconst h dX8_row_220 ?_
                            refine m_istore h dX8_row_221 (by decide) rfl ?_
                            refine m_kill 6 ?_
                            refine m_kill 7 ?_
                            have lp223 : ∀ (fuel : Nat) (k : Nat) (u : Mem), k ≤ 8 → 20 - k < fuel → rwF v (g_r g) kd (if 1 ≤ NKs kd then a else -1) (if 2 ≤ NKs kd then b else -1) (if 3 ≤ NKs kd then c else -1) R u → (∀ x, 0 ≤ x → x < (k : Int) → u.1 31 (8 * g_r g + x) = 0) → M X G 9 u 223 [some (.ref (G.2.1 25)), some (.int (iI kd)), some (.int (iI a)), some (.int (iI b)), some (.int (iI c)), some (.int (iI R)), none, none, some (.int (iI (k : Int)))] [] := by
                              intro fuel
                              induction fuel with
                              | zero => intro k u hk8 hfu hw hz; exfalso; omega
                              | succ fuel ih =>
                                intro k u hk8 hfu hw hz
                                have e25r : u.1 25 1 = g_r g := by rw [hw.1 25 (by decide) (by decide) (by decide) (by decide)]; exact s1
                                refine m_iload h dX8_row_223 rfl ?_
                                refine m_bipush h dX8_row_225 (by decide) ?_
                                refine m_icmp_ge h dX8_row_227 (tgt := 252) (by decide) (by omega) (by omega) (fun c83 => ?_) (fun c83 => ?_)
                                · skip
                                  have hz8 : ∀ x, 0 ≤ x → x < 8 → u.1 31 (8 * g_r g + x) = 0 := fun x q1 q2 => hz x q1 (by omega)
                                  refine m_aload_n h dX8_row_252 rfl rfl ?_
                                  refine m_dup h dX8_row_253 rfl ?_
                                  refine m_get h fo_X8_64 (by decide) rfl rfl dX8_row_254 ?_
                                  show M X G 9 u 257 [some (.ref (G.2.1 25)), some (.int (iI kd)), some (.int (iI a)), some (.int (iI b)), some (.int (iI c)), some (.int (iI R)), none, none, some (.int (iI (k : Int)))] [.int (iI (u.1 25 1)), .ref (G.2.1 25)]
                                  rw [e25r]
                                  show M X G 9 u 257 [some (.ref (G.2.1 25)), some (.int (iI kd)), some (.int (iI a)), some (.int (iI b)), some (.int (iI c)), some (.int (iI R)), none, none, some (.int (iI (k : Int)))] [.int (iI (g_r g)), .ref (G.2.1 25)]
                                  refine m_iconst h dX8_row_257 ?_
                                  refine m_iadd h dX8_row_258 ?_
                                  refine m_putJ h fw_X8_64 (by decide) rfl (Nat.le_of_ble_eq_true rfl) (kz := 1) rfl rfl dX8_row_259 ?_
                                  have hS1 := rwF_s ⟨s0, s1, s2, s3⟩ hg hr12 hw hz8
                                  have hF1 : FrM v (wI u 25 1 ((g_r g) + 1)) := FrM.w ⟨fun i hi => hw.1 i (by omega) (by omega) (by omega) (by omega), hw.2.1⟩ (by omega)
                                  refine m_aload_n h dX8_row_262 rfl rfl ?_
                                  refine m_vV h (m_anew _ hG _ (by intro x x0 x1; exact hS1.2.2.1.z x x0 x1)) moX8_anew voX8_anew lk_X8_73 dX8_row_263 (by decide) (by decide) rfl rfl rfl (Nat.le_of_ble_eq_true rfl) (fun ua p86 => ?_)
                                  have hRa := RM_an hS1 p86 t
                                  have hFa := hF1.tr (ANW.m p86)
                                  have hAn := p86
                                  refine m_aload_n h dX8_row_266 rfl rfl ?_
                                  refine m_get h fo_X8_64 (by decide) rfl rfl dX8_row_267 ?_
                                  refine m_iconst h dX8_row_270 ?_
                                  refine m_isub h dX8_row_271 ?_
                                  refine m_iret h hR rfl dX8_row_272 ?_
                                  refine Or.inr ⟨hgd, Or.inr ⟨hr12, ?_, hRa, hFa⟩⟩
                                  have : ua.1 25 1 = g_r g + 1 := hRa.1.2.1
                                  omega
                                · skip
                                  refine m_aload_n h dX8_row_230 rfl rfl ?_
                                  refine m_get h fo_X8_26 (by decide) rfl rfl dX8_row_231 ?_
                                  refine m_bipush h dX8_row_234 (by decide) ?_
                                  refine m_aload_n h dX8_row_236 rfl rfl ?_
                                  refine m_get h fo_X8_64 (by decide) rfl rfl dX8_row_237 ?_
                                  show M X G 9 u 240 [some (.ref (G.2.1 25)), some (.int (iI kd)), some (.int (iI a)), some (.int (iI b)), some (.int (iI c)), some (.int (iI R)), none, none, some (.int (iI (k : Int)))] [.int (iI (u.1 25 1)), .int (iI 8), .ref (G.2.1 31)]
                                  rw [e25r]
                                  show M X G 9 u 240 [some (.ref (G.2.1 25)), some (.int (iI kd)), some (.int (iI a)), some (.int (iI b)), some (.int (iI c)), some (.int (iI R)), none, none, some (.int (iI (k : Int)))] [.int (iI (g_r g)), .int (iI 8), .ref (G.2.1 31)]
                                  refine m_imul h dX8_row_240 ?_
                                  refine m_iload h dX8_row_241 rfl ?_
                                  refine m_iadd h dX8_row_243 ?_
                                  refine m_iconst h dX8_row_244 ?_
                                  refine m_iast h (ar_31 G) (by omega) (by omega) dX8_row_245 ?_
                                  refine m_iinc h dX8_row_246 rfl (by decide) rfl ?_
                                  refine m_goto h dX8_row_249 (tgt := 223) (by decide) ?_
                                  refine ih (k + 1) _ (by omega) (by omega) (rwF_w hw (by omega)) (fun x x0 x1 => ?_)
                                  by_cases e : x = (k : Int)
                                  · subst e; rw [wI_s]
                                  · rw [wI_n (by omega)]; exact hz x x0 (by omega)
                            exact lp223 100 0 _ (by omega) (by omega) (rwF_i (by rw [if_neg (by omega)]; rfl) (by rw [if_pos (by omega)]; exact (mN_nn (by have : isNm g b := (hgd.2.2.2.1 (by omega)).1; exact this.1)).symm) (by rw [if_pos (by omega)]; exact (mN_nn (by have : isNm g c := (hgd.2.2.2.2 (by omega)).1; exact this.1)).symm)) (fun x q1 q2 => by omega)
                      · skip
                        refine m_iload_n h dX8_row_148 rfl rfl ?_
                        refine m_goto h dX8_row_149 (tgt := 155) (by decide) ?_
                        refine m_iast h (ar_29 G) (by omega) (by omega) dX8_row_155 ?_
                        refine m_aload_n h dX8_row_156 rfl rfl ?_
                        refine m_get h fo_X8_20 (by decide) rfl rfl dX8_row_157 ?_
                        refine m_iconst h dX8_row_160 ?_
                        refine m_aload_n h dX8_row_161 rfl rfl ?_
                        refine m_get h fo_X8_64 (by decide) rfl rfl dX8_row_162 ?_
                        show M X G 9 (wI (wI v 28 (g_r g) kd) 29 (3 * (g_r g)) a) 165 [some (.ref (G.2.1 25)), some (.int (iI kd)), some (.int (iI a)), some (.int (iI b)), some (.int (iI c)), some (.int (iI R)), some (.int (iI ow)), some (.int (iI 1)), none] [.int (iI (v.1 25 1)), .int (iI 3), .ref (G.2.1 29)]
                        show M X G 9 (wI (wI v 28 (g_r g) kd) 29 (3 * (g_r g)) a) 165 [some (.ref (G.2.1 25)), some (.int (iI kd)), some (.int (iI a)), some (.int (iI b)), some (.int (iI c)), some (.int (iI R)), some (.int (iI ow)), some (.int (iI 1)), none] [.int (iI (v.1 25 1)), .int (iI 3), .ref (G.2.1 29)]
                        rw [s1]
                        show M X G 9 (wI (wI v 28 (g_r g) kd) 29 (3 * (g_r g)) a) 165 [some (.ref (G.2.1 25)), some (.int (iI kd)), some (.int (iI a)), some (.int (iI b)), some (.int (iI c)), some (.int (iI R)), some (.int (iI ow)), some (.int (iI 1)), none] [.int (iI (g_r g)), .int (iI 3), .ref (G.2.1 29)]
                        refine m_imul h dX8_row_165 ?_
                        refine m_iconst h dX8_row_166 ?_
                        refine m_iadd h dX8_row_167 ?_
                        refine m_iload h dX8_row_168 rfl ?_
                        refine m_iconst h dX8_row_170 ?_
                        refine m_icmp_le h dX8_row_171 (tgt := 178) (by decide) (by omega) (by omega) (fun c87 => ?_) (fun c87 => ?_)
                        · skip
                          refine m_sipush h dX8_row_178 (by decide) ?_
                          refine m_iast h (ar_29 G) (by omega) (by omega) dX8_row_181 ?_
                          refine m_aload_n h dX8_row_182 rfl rfl ?_
                          refine m_get h fo_X8_20 (by decide) rfl rfl dX8_row_183 ?_
                          refine m_iconst h dX8_row_186 ?_
                          refine m_aload_n h dX8_row_187 rfl rfl ?_
                          refine m_get h fo_X8_64 (by decide) rfl rfl dX8_row_188 ?_
                          show M X G 9 (wI (wI (wI v 28 (g_r g) kd) 29 (3 * (g_r g)) a) 29 ((3 * (g_r g)) + 1) (-1000)) 191 [some (.ref (G.2.1 25)), some (.int (iI kd)), some (.int (iI a)), some (.int (iI b)), some (.int (iI c)), some (.int (iI R)), some (.int (iI ow)), some (.int (iI 1)), none] [.int (iI (v.1 25 1)), .int (iI 3), .ref (G.2.1 29)]
                          show M X G 9 (wI (wI (wI v 28 (g_r g) kd) 29 (3 * (g_r g)) a) 29 ((3 * (g_r g)) + 1) (-1000)) 191 [some (.ref (G.2.1 25)), some (.int (iI kd)), some (.int (iI a)), some (.int (iI b)), some (.int (iI c)), some (.int (iI R)), some (.int (iI ow)), some (.int (iI 1)), none] [.int (iI (v.1 25 1)), .int (iI 3), .ref (G.2.1 29)]
                          rw [s1]
                          show M X G 9 (wI (wI (wI v 28 (g_r g) kd) 29 (3 * (g_r g)) a) 29 ((3 * (g_r g)) + 1) (-1000)) 191 [some (.ref (G.2.1 25)), some (.int (iI kd)), some (.int (iI a)), some (.int (iI b)), some (.int (iI c)), some (.int (iI R)), some (.int (iI ow)), some (.int (iI 1)), none] [.int (iI (g_r g)), .int (iI 3), .ref (G.2.1 29)]
                          refine m_imul h dX8_row_191 ?_
                          refine m_iconst h dX8_row_192 ?_
                          refine m_iadd h dX8_row_193 ?_
                          refine m_iload h dX8_row_194 rfl ?_
                          refine m_iconst h dX8_row_196 ?_
                          refine m_icmp_le h dX8_row_197 (tgt := 205) (by decide) (by omega) (by omega) (fun c88 => ?_) (fun c88 => ?_)
                          · skip
                            refine m_sipush h dX8_row_205 (by decide) ?_
                            refine m_iast h (ar_29 G) (by omega) (by omega) dX8_row_208 ?_
                            refine m_aload_n h dX8_row_209 rfl rfl ?_
                            refine m_get h fo_X8_23 (by decide) rfl rfl dX8_row_210 ?_
                            refine m_aload_n h dX8_row_213 rfl rfl ?_
                            refine m_get h fo_X8_64 (by decide) rfl rfl dX8_row_214 ?_
                            show M X G 9 (wI (wI (wI (wI v 28 (g_r g) kd) 29 (3 * (g_r g)) a) 29 ((3 * (g_r g)) + 1) (-1000)) 29 ((3 * (g_r g)) + 2) (-1000)) 217 [some (.ref (G.2.1 25)), some (.int (iI kd)), some (.int (iI a)), some (.int (iI b)), some (.int (iI c)), some (.int (iI R)), some (.int (iI ow)), some (.int (iI 1)), none] [.int (iI (v.1 25 1)), .ref (G.2.1 30)]
                            show M X G 9 (wI (wI (wI (wI v 28 (g_r g) kd) 29 (3 * (g_r g)) a) 29 ((3 * (g_r g)) + 1) (-1000)) 29 ((3 * (g_r g)) + 2) (-1000)) 217 [some (.ref (G.2.1 25)), some (.int (iI kd)), some (.int (iI a)), some (.int (iI b)), some (.int (iI c)), some (.int (iI R)), some (.int (iI ow)), some (.int (iI 1)), none] [.int (iI (v.1 25 1)), .ref (G.2.1 30)]
                            rw [s1]
                            show M X G 9 (wI (wI (wI (wI v 28 (g_r g) kd) 29 (3 * (g_r g)) a) 29 ((3 * (g_r g)) + 1) (-1000)) 29 ((3 * (g_r g)) + 2) (-1000)) 217 [some (.ref (G.2.1 25)), some (.int (iI kd)), some (.int (iI a)), some (.int (iI b)), some (.int (iI c)), some (.int (iI R)), some (.int (iI ow)), some (.int (iI 1)), none] [.int (iI (g_r g)), .ref (G.2.1 30)]
                            refine m_iload h dX8_row_217 rfl ?_
                            refine m_iast h (ar_30 G) (by omega) (by omega) dX8_row_219 ?_
                            refine m_iconst h dX8_row_220 ?_
                            refine m_istore h dX8_row_221 (by decide) rfl ?_
                            refine m_kill 6 ?_
                            refine m_kill 7 ?_
                            have lp223 : ∀ (fuel : Nat) (k : Nat) (u : Mem), k ≤ 8 → 20 - k < fuel → rwF v (g_r g) kd (if 1 ≤ NKs kd then a else -1) (if 2 ≤ NKs kd then b else -1) (if 3 ≤ NKs kd then c else -1) R u → (∀ x, 0 ≤ x → x < (k : Int) → u.1 31 (8 * g_r g + x) = 0) → M X G 9 u 223 [some (.ref (G.2.1 25)), some (.int (iI kd)), some (.int (iI a)), some (.int (iI b)), some (.int (iI c)), some (.int (iI R)), none, none, some (.int (iI (k : Int)))] [] := by
                              intro fuel
                              induction fuel with
                              | zero => intro k u hk8 hfu hw hz; exfalso; omega
                              | succ fuel ih =>
                                intro k u hk8 hfu hw hz
                                have e25r : u.1 25 1 = g_r g := by rw [hw.1 25 (by decide) (by decide) (by decide) (by decide)]; exact s1
                                refine m_iload h dX8_row_223 rfl ?_
                                refine m_bipush h dX8_row_225 (by decide) ?_
                                refine m_icmp_ge h dX8_row_227 (tgt := 252) (by decide) (by omega) (by omega) (fun c89 => ?_) (fun c89 => ?_)
                                · skip
                                  have hz8 : ∀ x, 0 ≤ x → x < 8 → u.1 31 (8 * g_r g + x) = 0 := fun x q1 q2 => hz x q1 (by omega)
                                  refine m_aload_n h dX8_row_252 rfl rfl ?_
                                  refine m_dup h dX8_row_253 rfl ?_
                                  refine m_get h fo_X8_64 (by decide) rfl rfl dX8_row_254 ?_
                                  show M X G 9 u 257 [some (.ref (G.2.1 25)), some (.int (iI kd)), some (.int (iI a)), some (.int (iI b)), some (.int (iI c)), some (.int (iI R)), none, none, some (.int (iI (k : Int)))] [.int (iI (u.1 25 1)), .ref (G.2.1 25)]
                                  rw [e25r]
                                  show M X G 9 u 257 [some (.ref (G.2.1 25)), some (.int (iI kd)), some (.int (iI a)), some (.int (iI b)), some (.int (iI c)), some (.int (iI R)), none, none, some (.int (iI (k : Int)))] [.int (iI (g_r g)), .ref (G.2.1 25)]
                                  refine m_iconst h dX8_row_257 ?_
                                  refine m_iadd h dX8_row_258 ?_
                                  refine m_putJ h fw_X8_64 (by decide) rfl (Nat.le_of_ble_eq_true rfl) (kz := 1) rfl rfl dX8_row_259 ?_
                                  have hS1 := rwF_s ⟨s0, s1, s2, s3⟩ hg hr12 hw hz8
                                  have hF1 : FrM v (wI u 25 1 ((g_r g) + 1)) := FrM.w ⟨fun i hi => hw.1 i (by omega) (by omega) (by omega) (by omega), hw.2.1⟩ (by omega)
                                  refine m_aload_n h dX8_row_262 rfl rfl ?_
                                  refine m_vV h (m_anew _ hG _ (by intro x x0 x1; exact hS1.2.2.1.z x x0 x1)) moX8_anew voX8_anew lk_X8_73 dX8_row_263 (by decide) (by decide) rfl rfl rfl (Nat.le_of_ble_eq_true rfl) (fun ua p92 => ?_)
                                  have hRa := RM_an hS1 p92 t
                                  have hFa := hF1.tr (ANW.m p92)
                                  have hAn := p92
                                  refine m_aload_n h dX8_row_266 rfl rfl ?_
                                  refine m_get h fo_X8_64 (by decide) rfl rfl dX8_row_267 ?_
                                  refine m_iconst h dX8_row_270 ?_
                                  refine m_isub h dX8_row_271 ?_
                                  refine m_iret h hR rfl dX8_row_272 ?_
                                  refine Or.inr ⟨hgd, Or.inr ⟨hr12, ?_, hRa, hFa⟩⟩
                                  have : ua.1 25 1 = g_r g + 1 := hRa.1.2.1
                                  omega
                                · skip
                                  refine m_aload_n h dX8_row_230 rfl rfl ?_
                                  refine m_get h fo_X8_26 (by decide) rfl rfl dX8_row_231 ?_
                                  refine m_bipush h dX8_row_234 (by decide) ?_
                                  refine m_aload_n h dX8_row_236 rfl rfl ?_
                                  refine m_get h fo_X8_64 (by decide) rfl rfl dX8_row_237 ?_
                                  show M X G 9 u 240 [some (.ref (G.2.1 25)), some (.int (iI kd)), some (.int (iI a)), some (.int (iI b)), some (.int (iI c)), some (.int (iI R)), none, none, some (.int (iI (k : Int)))] [.int (iI (u.1 25 1)), .int (iI 8), .ref (G.2.1 31)]
                                  rw [e25r]
                                  show M X G 9 u 240 [some (.ref (G.2.1 25)), some (.int (iI kd)), some (.int (iI a)), some (.int (iI b)), some (.int (iI c)), some (.int (iI R)), none, none, some (.int (iI (k : Int)))] [.int (iI (g_r g)), .int (iI 8), .ref (G.2.1 31)]
                                  refine m_imul h dX8_row_240 ?_
                                  refine m_iload h dX8_row_241 rfl ?_
                                  refine m_iadd h dX8_row_243 ?_
                                  refine m_iconst h dX8_row_244 ?_
                                  refine m_iast h (ar_31 G) (by omega) (by omega) dX8_row_245 ?_
                                  refine m_iinc h dX8_row_246 rfl (by decide) rfl ?_
                                  refine m_goto h dX8_row_249 (tgt := 223) (by decide) ?_
                                  refine ih (k + 1) _ (by omega) (by omega) (rwF_w hw (by omega)) (fun x x0 x1 => ?_)
                                  by_cases e : x = (k : Int)
                                  · subst e; rw [wI_s]
                                  · rw [wI_n (by omega)]; exact hz x x0 (by omega)
                            exact lp223 100 0 _ (by omega) (by omega) (rwF_i (by rw [if_pos (by omega)]; exact (mN_nn (by have : isNm g a := hgd.2.2.1 (by omega); exact this.1)).symm) (by rw [if_neg (by omega)]; rfl) (by rw [if_neg (by omega)]; rfl)) (fun x q1 q2 => by omega)
                          · skip
                            refine m_iload h dX8_row_200 rfl ?_
                            refine m_goto h dX8_row_202 (tgt := 208) (by decide) ?_
                            refine m_iast h (ar_29 G) (by omega) (by omega) dX8_row_208 ?_
                            refine m_aload_n h dX8_row_209 rfl rfl ?_
                            refine m_get h fo_X8_23 (by decide) rfl rfl dX8_row_210 ?_
                            refine m_aload_n h dX8_row_213 rfl rfl ?_
                            refine m_get h fo_X8_64 (by decide) rfl rfl dX8_row_214 ?_
                            show M X G 9 (wI (wI (wI (wI v 28 (g_r g) kd) 29 (3 * (g_r g)) a) 29 ((3 * (g_r g)) + 1) (-1000)) 29 ((3 * (g_r g)) + 2) c) 217 [some (.ref (G.2.1 25)), some (.int (iI kd)), some (.int (iI a)), some (.int (iI b)), some (.int (iI c)), some (.int (iI R)), some (.int (iI ow)), some (.int (iI 1)), none] [.int (iI (v.1 25 1)), .ref (G.2.1 30)]
                            show M X G 9 (wI (wI (wI (wI v 28 (g_r g) kd) 29 (3 * (g_r g)) a) 29 ((3 * (g_r g)) + 1) (-1000)) 29 ((3 * (g_r g)) + 2) c) 217 [some (.ref (G.2.1 25)), some (.int (iI kd)), some (.int (iI a)), some (.int (iI b)), some (.int (iI c)), some (.int (iI R)), some (.int (iI ow)), some (.int (iI 1)), none] [.int (iI (v.1 25 1)), .ref (G.2.1 30)]
                            rw [s1]
                            show M X G 9 (wI (wI (wI (wI v 28 (g_r g) kd) 29 (3 * (g_r g)) a) 29 ((3 * (g_r g)) + 1) (-1000)) 29 ((3 * (g_r g)) + 2) c) 217 [some (.ref (G.2.1 25)), some (.int (iI kd)), some (.int (iI a)), some (.int (iI b)), some (.int (iI c)), some (.int (iI R)), some (.int (iI ow)), some (.int (iI 1)), none] [.int (iI (g_r g)), .ref (G.2.1 30)]
                            refine m_iload h dX8_row_217 rfl ?_
                            refine m_iast h (ar_30 G) (by omega) (by omega) dX8_row_219 ?_
                            refine m_iconst h dX8_row_220 ?_
                            refine m_istore h dX8_row_221 (by decide) rfl ?_
                            refine m_kill 6 ?_
                            refine m_kill 7 ?_
                            have lp223 : ∀ (fuel : Nat) (k : Nat) (u : Mem), k ≤ 8 → 20 - k < fuel → rwF v (g_r g) kd (if 1 ≤ NKs kd then a else -1) (if 2 ≤ NKs kd then b else -1) (if 3 ≤ NKs kd then c else -1) R u → (∀ x, 0 ≤ x → x < (k : Int) → u.1 31 (8 * g_r g + x) = 0) → M X G 9 u 223 [some (.ref (G.2.1 25)), some (.int (iI kd)), some (.int (iI a)), some (.int (iI b)), some (.int (iI c)), some (.int (iI R)), none, none, some (.int (iI (k : Int)))] [] := by
                              intro fuel
                              induction fuel with
                              | zero => intro k u hk8 hfu hw hz; exfalso; omega
                              | succ fuel ih =>
                                intro k u hk8 hfu hw hz
                                have e25r : u.1 25 1 = g_r g := by rw [hw.1 25 (by decide) (by decide) (by decide) (by decide)]; exact s1
                                refine m_iload h dX8_row_223 rfl ?_
                                refine m_bipush h dX8_row_225 (by decide) ?_
                                refine m_icmp_ge h dX8_row_227 (tgt := 252) (by decide) (by omega) (by omega) (fun c93 => ?_) (fun c93 => ?_)
                                · skip
                                  have hz8 : ∀ x, 0 ≤ x → x < 8 → u.1 31 (8 * g_r g + x) = 0 := fun x q1 q2 => hz x q1 (by omega)
                                  refine m_aload_n h dX8_row_252 rfl rfl ?_
                                  refine m_dup h dX8_row_253 rfl ?_
                                  refine m_get h fo_X8_64 (by decide) rfl rfl dX8_row_254 ?_
                                  show M X G 9 u 257 [some (.ref (G.2.1 25)), some (.int (iI kd)), some (.int (iI a)), some (.int (iI b)), some (.int (iI c)), some (.int (iI R)), none, none, some (.int (iI (k : Int)))] [.int (iI (u.1 25 1)), .ref (G.2.1 25)]
                                  rw [e25r]
                                  show M X G 9 u 257 [some (.ref (G.2.1 25)), some (.int (iI kd)), some (.int (iI a)), some (.int (iI b)), some (.int (iI c)), some (.int (iI R)), none, none, some (.int (iI (k : Int)))] [.int (iI (g_r g)), .ref (G.2.1 25)]
                                  refine m_iconst h dX8_row_257 ?_
                                  refine m_iadd h dX8_row_258 ?_
                                  refine m_putJ h fw_X8_64 (by decide) rfl (Nat.le_of_ble_eq_true rfl) (kz := 1) rfl rfl dX8_row_259 ?_
                                  have hS1 := rwF_s ⟨s0, s1, s2, s3⟩ hg hr12 hw hz8
                                  have hF1 : FrM v (wI u 25 1 ((g_r g) + 1)) := FrM.w ⟨fun i hi => hw.1 i (by omega) (by omega) (by omega) (by omega), hw.2.1⟩ (by omega)
                                  refine m_aload_n h dX8_row_262 rfl rfl ?_
                                  refine m_vV h (m_anew _ hG _ (by intro x x0 x1; exact hS1.2.2.1.z x x0 x1)) moX8_anew voX8_anew lk_X8_73 dX8_row_263 (by decide) (by decide) rfl rfl rfl (Nat.le_of_ble_eq_true rfl) (fun ua p96 => ?_)
                                  have hRa := RM_an hS1 p96 t
                                  have hFa := hF1.tr (ANW.m p96)
                                  have hAn := p96
                                  refine m_aload_n h dX8_row_266 rfl rfl ?_
                                  refine m_get h fo_X8_64 (by decide) rfl rfl dX8_row_267 ?_
                                  refine m_iconst h dX8_row_270 ?_
                                  refine m_isub h dX8_row_271 ?_
                                  refine m_iret h hR rfl dX8_row_272 ?_
                                  refine Or.inr ⟨hgd, Or.inr ⟨hr12, ?_, hRa, hFa⟩⟩
                                  have : ua.1 25 1 = g_r g + 1 := hRa.1.2.1
                                  omega
                                · skip
                                  refine m_aload_n h dX8_row_230 rfl rfl ?_
                                  refine m_get h fo_X8_26 (by decide) rfl rfl dX8_row_231 ?_
                                  refine m_bipush h dX8_row_234 (by decide) ?_
                                  refine m_aload_n h dX8_row_236 rfl rfl ?_
                                  refine m_get h fo_X8_64 (by decide) rfl rfl dX8_row_237 ?_
                                  show M X G 9 u 240 [some (.ref (G.2.1 25)), some (.int (iI kd)), some (.int (iI a)), some (.int (iI b)), some (.int (iI c)), some (.int (iI R)), none, none, some (.int (iI (k : Int)))] [.int (iI (u.1 25 1)), .int (iI 8), .ref (G.2.1 31)]
                                  rw [e25r]
                                  show M X G 9 u 240 [some (.ref (G.2.1 25)), some (.int (iI kd)), some (.int (iI a)), some (.int (iI b)), some (.int (iI c)), some (.int (iI R)), none, none, some (.int (iI (k : Int)))] [.int (iI (g_r g)), .int (iI 8), .ref (G.2.1 31)]
                                  refine m_imul h dX8_row_240 ?_
                                  refine m_iload h dX8_row_241 rfl ?_
                                  refine m_iadd h dX8_row_243 ?_
                                  refine m_iconst h dX8_row_244 ?_
                                  refine m_iast h (ar_31 G) (by omega) (by omega) dX8_row_245 ?_
                                  refine m_iinc h dX8_row_246 rfl (by decide) rfl ?_
                                  refine m_goto h dX8_row_249 (tgt := 223) (by decide) ?_
                                  refine ih (k + 1) _ (by omega) (by omega) (rwF_w hw (by omega)) (fun x x0 x1 => ?_)
                                  by_cases e : x = (k : Int)
                                  · subst e; rw [wI_s]
                                  · rw [wI_n (by omega)]; exact hz x x0 (by omega)
                            exact lp223 100 0 _ (by omega) (by omega) (rwF_i (by rw [if_pos (by omega)]; exact (mN_nn (by have : isNm g a := hgd.2.2.1 (by omega); exact this.1)).symm) (by rw [if_neg (by omega)]; rfl) (by rw [if_pos (by omega)]; exact (mN_nn (by have : isNm g c := (hgd.2.2.2.2 (by omega)).1; exact this.1)).symm)) (fun x q1 q2 => by omega)
                        · skip
                          refine m_iload_n h dX8_row_174 rfl rfl ?_
                          refine m_goto h dX8_row_175 (tgt := 181) (by decide) ?_
                          refine m_iast h (ar_29 G) (by omega) (by omega) dX8_row_181 ?_
                          refine m_aload_n h dX8_row_182 rfl rfl ?_
                          refine m_get h fo_X8_20 (by decide) rfl rfl dX8_row_183 ?_
                          refine m_iconst h dX8_row_186 ?_
                          refine m_aload_n h dX8_row_187 rfl rfl ?_
                          refine m_get h fo_X8_64 (by decide) rfl rfl dX8_row_188 ?_
                          show M X G 9 (wI (wI (wI v 28 (g_r g) kd) 29 (3 * (g_r g)) a) 29 ((3 * (g_r g)) + 1) b) 191 [some (.ref (G.2.1 25)), some (.int (iI kd)), some (.int (iI a)), some (.int (iI b)), some (.int (iI c)), some (.int (iI R)), some (.int (iI ow)), some (.int (iI 1)), none] [.int (iI (v.1 25 1)), .int (iI 3), .ref (G.2.1 29)]
                          show M X G 9 (wI (wI (wI v 28 (g_r g) kd) 29 (3 * (g_r g)) a) 29 ((3 * (g_r g)) + 1) b) 191 [some (.ref (G.2.1 25)), some (.int (iI kd)), some (.int (iI a)), some (.int (iI b)), some (.int (iI c)), some (.int (iI R)), some (.int (iI ow)), some (.int (iI 1)), none] [.int (iI (v.1 25 1)), .int (iI 3), .ref (G.2.1 29)]
                          rw [s1]
                          show M X G 9 (wI (wI (wI v 28 (g_r g) kd) 29 (3 * (g_r g)) a) 29 ((3 * (g_r g)) + 1) b) 191 [some (.ref (G.2.1 25)), some (.int (iI kd)), some (.int (iI a)), some (.int (iI b)), some (.int (iI c)), some (.int (iI R)), some (.int (iI ow)), some (.int (iI 1)), none] [.int (iI (g_r g)), .int (iI 3), .ref (G.2.1 29)]
                          refine m_imul h dX8_row_191 ?_
                          refine m_iconst h dX8_row_192 ?_
                          refine m_iadd h dX8_row_193 ?_
                          refine m_iload h dX8_row_194 rfl ?_
                          refine m_iconst h dX8_row_196 ?_
                          refine m_icmp_le h dX8_row_197 (tgt := 205) (by decide) (by omega) (by omega) (fun c97 => ?_) (fun c97 => ?_)
                          · skip
                            refine m_sipush h dX8_row_205 (by decide) ?_
                            refine m_iast h (ar_29 G) (by omega) (by omega) dX8_row_208 ?_
                            refine m_aload_n h dX8_row_209 rfl rfl ?_
                            refine m_get h fo_X8_23 (by decide) rfl rfl dX8_row_210 ?_
                            refine m_aload_n h dX8_row_213 rfl rfl ?_
                            refine m_get h fo_X8_64 (by decide) rfl rfl dX8_row_214 ?_
                            show M X G 9 (wI (wI (wI (wI v 28 (g_r g) kd) 29 (3 * (g_r g)) a) 29 ((3 * (g_r g)) + 1) b) 29 ((3 * (g_r g)) + 2) (-1000)) 217 [some (.ref (G.2.1 25)), some (.int (iI kd)), some (.int (iI a)), some (.int (iI b)), some (.int (iI c)), some (.int (iI R)), some (.int (iI ow)), some (.int (iI 1)), none] [.int (iI (v.1 25 1)), .ref (G.2.1 30)]
                            show M X G 9 (wI (wI (wI (wI v 28 (g_r g) kd) 29 (3 * (g_r g)) a) 29 ((3 * (g_r g)) + 1) b) 29 ((3 * (g_r g)) + 2) (-1000)) 217 [some (.ref (G.2.1 25)), some (.int (iI kd)), some (.int (iI a)), some (.int (iI b)), some (.int (iI c)), some (.int (iI R)), some (.int (iI ow)), some (.int (iI 1)), none] [.int (iI (v.1 25 1)), .ref (G.2.1 30)]
                            rw [s1]
                            show M X G 9 (wI (wI (wI (wI v 28 (g_r g) kd) 29 (3 * (g_r g)) a) 29 ((3 * (g_r g)) + 1) b) 29 ((3 * (g_r g)) + 2) (-1000)) 217 [some (.ref (G.2.1 25)), some (.int (iI kd)), some (.int (iI a)), some (.int (iI b)), some (.int (iI c)), some (.int (iI R)), some (.int (iI ow)), some (.int (iI 1)), none] [.int (iI (g_r g)), .ref (G.2.1 30)]
                            refine m_iload h dX8_row_217 rfl ?_
                            refine m_iast h (ar_30 G) (by omega) (by omega) dX8_row_219 ?_
                            refine m_iconst h dX8_row_220 ?_
                            refine m_istore h dX8_row_221 (by decide) rfl ?_
                            refine m_kill 6 ?_
                            refine m_kill 7 ?_
                            have lp223 : ∀ (fuel : Nat) (k : Nat) (u : Mem), k ≤ 8 → 20 - k < fuel → rwF v (g_r g) kd (if 1 ≤ NKs kd then a else -1) (if 2 ≤ NKs kd then b else -1) (if 3 ≤ NKs kd then c else -1) R u → (∀ x, 0 ≤ x → x < (k : Int) → u.1 31 (8 * g_r g + x) = 0) → M X G 9 u 223 [some (.ref (G.2.1 25)), some (.int (iI kd)), some (.int (iI a)), some (.int (iI b)), some (.int (iI c)), some (.int (iI R)), none, none, some (.int (iI (k : Int)))] [] := by
                              intro fuel
                              induction fuel with
                              | zero => intro k u hk8 hfu hw hz; exfalso; omega
                              | succ fuel ih =>
                                intro k u hk8 hfu hw hz
                                have e25r : u.1 25 1 = g_r g := by rw [hw.1 25 (by decide) (by decide) (by decide) (by decide)]; exact s1
                                refine m_iload h dX8_row_223 rfl ?_
                                refine m_bipush h dX8_row_225 (by decide) ?_
                                refine m_icmp_ge h dX8_row_227 (tgt := 252) (by decide) (by omega) (by omega) (fun c98 => ?_) (fun c98 => ?_)
                                · skip
                                  have hz8 : ∀ x, 0 ≤ x → x < 8 → u.1 31 (8 * g_r g + x) = 0 := fun x q1 q2 => hz x q1 (by omega)
                                  refine m_aload_n h dX8_row_252 rfl rfl ?_
                                  refine m_dup h dX8_row_253 rfl ?_
                                  refine m_get h fo_X8_64 (by decide) rfl rfl dX8_row_254 ?_
                                  show M X G 9 u 257 [some (.ref (G.2.1 25)), some (.int (iI kd)), some (.int (iI a)), some (.int (iI b)), some (.int (iI c)), some (.int (iI R)), none, none, some (.int (iI (k : Int)))] [.int (iI (u.1 25 1)), .ref (G.2.1 25)]
                                  rw [e25r]
                                  show M X G 9 u 257 [some (.ref (G.2.1 25)), some (.int (iI kd)), some (.int (iI a)), some (.int (iI b)), some (.int (iI c)), some (.int (iI R)), none, none, some (.int (iI (k : Int)))] [.int (iI (g_r g)), .ref (G.2.1 25)]
                                  refine m_iconst h dX8_row_257 ?_
                                  refine m_iadd h dX8_row_258 ?_
                                  refine m_putJ h fw_X8_64 (by decide) rfl (Nat.le_of_ble_eq_true rfl) (kz := 1) rfl rfl dX8_row_259 ?_
                                  have hS1 := rwF_s ⟨s0, s1, s2, s3⟩ hg hr12 hw hz8
                                  have hF1 : FrM v (wI u 25 1 ((g_r g) + 1)) := FrM.w ⟨fun i hi => hw.1 i (by omega) (by omega) (by omega) (by omega), hw.2.1⟩ (by omega)
                                  refine m_aload_n h dX8_row_262 rfl rfl ?_
                                  refine m_vV h (m_anew _ hG _ (by intro x x0 x1; exact hS1.2.2.1.z x x0 x1)) moX8_anew voX8_anew lk_X8_73 dX8_row_263 (by decide) (by decide) rfl rfl rfl (Nat.le_of_ble_eq_true rfl) (fun ua p101 => ?_)
                                  have hRa := RM_an hS1 p101 t
                                  have hFa := hF1.tr (ANW.m p101)
                                  have hAn := p101
                                  refine m_aload_n h dX8_row_266 rfl rfl ?_
                                  refine m_get h fo_X8_64 (by decide) rfl rfl dX8_row_267 ?_
                                  refine m_iconst h dX8_row_270 ?_
                                  refine m_isub h dX8_row_271 ?_
                                  refine m_iret h hR rfl dX8_row_272 ?_
                                  refine Or.inr ⟨hgd, Or.inr ⟨hr12, ?_, hRa, hFa⟩⟩
                                  have : ua.1 25 1 = g_r g + 1 := hRa.1.2.1
                                  omega
                                · skip
                                  refine m_aload_n h dX8_row_230 rfl rfl ?_
                                  refine m_get h fo_X8_26 (by decide) rfl rfl dX8_row_231 ?_
                                  refine m_bipush h dX8_row_234 (by decide) ?_
                                  refine m_aload_n h dX8_row_236 rfl rfl ?_
                                  refine m_get h fo_X8_64 (by decide) rfl rfl dX8_row_237 ?_
                                  show M X G 9 u 240 [some (.ref (G.2.1 25)), some (.int (iI kd)), some (.int (iI a)), some (.int (iI b)), some (.int (iI c)), some (.int (iI R)), none, none, some (.int (iI (k : Int)))] [.int (iI (u.1 25 1)), .int (iI 8), .ref (G.2.1 31)]
                                  rw [e25r]
                                  show M X G 9 u 240 [some (.ref (G.2.1 25)), some (.int (iI kd)), some (.int (iI a)), some (.int (iI b)), some (.int (iI c)), some (.int (iI R)), none, none, some (.int (iI (k : Int)))] [.int (iI (g_r g)), .int (iI 8), .ref (G.2.1 31)]
                                  refine m_imul h dX8_row_240 ?_
                                  refine m_iload h dX8_row_241 rfl ?_
                                  refine m_iadd h dX8_row_243 ?_
                                  refine m_iconst h dX8_row_244 ?_
                                  refine m_iast h (ar_31 G) (by omega) (by omega) dX8_row_245 ?_
                                  refine m_iinc h dX8_row_246 rfl (by decide) rfl ?_
                                  refine m_goto h dX8_row_249 (tgt := 223) (by decide) ?_
                                  refine ih (k + 1) _ (by omega) (by omega) (rwF_w hw (by omega)) (fun x x0 x1 => ?_)
                                  by_cases e : x = (k : Int)
                                  · subst e; rw [wI_s]
                                  · rw [wI_n (by omega)]; exact hz x x0 (by omega)
                            exact lp223 100 0 _ (by omega) (by omega) (rwF_i (by rw [if_pos (by omega)]; exact (mN_nn (by have : isNm g a := hgd.2.2.1 (by omega); exact this.1)).symm) (by rw [if_pos (by omega)]; exact (mN_nn (by have : isNm g b := (hgd.2.2.2.1 (by omega)).1; exact this.1)).symm) (by rw [if_neg (by omega)]; rfl)) (fun x q1 q2 => by omega)
                          · skip
                            refine m_iload h dX8_row_200 rfl ?_
                            refine m_goto h dX8_row_202 (tgt := 208) (by decide) ?_
                            refine m_iast h (ar_29 G) (by omega) (by omega) dX8_row_208 ?_
                            refine m_aload_n h dX8_row_209 rfl rfl ?_
                            refine m_get h fo_X8_23 (by decide) rfl rfl dX8_row_210 ?_
                            refine m_aload_n h dX8_row_213 rfl rfl ?_
                            refine m_get h fo_X8_64 (by decide) rfl rfl dX8_row_214 ?_
                            show M X G 9 (wI (wI (wI (wI v 28 (g_r g) kd) 29 (3 * (g_r g)) a) 29 ((3 * (g_r g)) + 1) b) 29 ((3 * (g_r g)) + 2) c) 217 [some (.ref (G.2.1 25)), some (.int (iI kd)), some (.int (iI a)), some (.int (iI b)), some (.int (iI c)), some (.int (iI R)), some (.int (iI ow)), some (.int (iI 1)), none] [.int (iI (v.1 25 1)), .ref (G.2.1 30)]
                            show M X G 9 (wI (wI (wI (wI v 28 (g_r g) kd) 29 (3 * (g_r g)) a) 29 ((3 * (g_r g)) + 1) b) 29 ((3 * (g_r g)) + 2) c) 217 [some (.ref (G.2.1 25)), some (.int (iI kd)), some (.int (iI a)), some (.int (iI b)), some (.int (iI c)), some (.int (iI R)), some (.int (iI ow)), some (.int (iI 1)), none] [.int (iI (v.1 25 1)), .ref (G.2.1 30)]
                            rw [s1]
                            show M X G 9 (wI (wI (wI (wI v 28 (g_r g) kd) 29 (3 * (g_r g)) a) 29 ((3 * (g_r g)) + 1) b) 29 ((3 * (g_r g)) + 2) c) 217 [some (.ref (G.2.1 25)), some (.int (iI kd)), some (.int (iI a)), some (.int (iI b)), some (.int (iI c)), some (.int (iI R)), some (.int (iI ow)), some (.int (iI 1)), none] [.int (iI (g_r g)), .ref (G.2.1 30)]
                            refine m_iload h dX8_row_217 rfl ?_
                            refine m_iast h (ar_30 G) (by omega) (by omega) dX8_row_219 ?_
                            refine m_iconst h dX8_row_220 ?_
                            refine m_istore h dX8_row_221 (by decide) rfl ?_
                            refine m_kill 6 ?_
                            refine m_kill 7 ?_
                            have lp223 : ∀ (fuel : Nat) (k : Nat) (u : Mem), k ≤ 8 → 20 - k < fuel → rwF v (g_r g) kd (if 1 ≤ NKs kd then a else -1) (if 2 ≤ NKs kd then b else -1) (if 3 ≤ NKs kd then c else -1) R u → (∀ x, 0 ≤ x → x < (k : Int) → u.1 31 (8 * g_r g + x) = 0) → M X G 9 u 223 [some (.ref (G.2.1 25)), some (.int (iI kd)), some (.int (iI a)), some (.int (iI b)), some (.int (iI c)), some (.int (iI R)), none, none, some (.int (iI (k : Int)))] [] := by
                              intro fuel
                              induction fuel with
                              | zero => intro k u hk8 hfu hw hz; exfalso; omega
                              | succ fuel ih =>
                                intro k u hk8 hfu hw hz
                                have e25r : u.1 25 1 = g_r g := by rw [hw.1 25 (by decide) (by decide) (by decide) (by decide)]; exact s1
                                refine m_iload h dX8_row_223 rfl ?_
                                refine m_bipush h dX8_row_225 (by decide) ?_
                                refine m_icmp_ge h dX8_row_227 (tgt := 252) (by decide) (by omega) (by omega) (fun c102 => ?_) (fun c102 => ?_)
                                · skip
                                  have hz8 : ∀ x, 0 ≤ x → x < 8 → u.1 31 (8 * g_r g + x) = 0 := fun x q1 q2 => hz x q1 (by omega)
                                  refine m_aload_n h dX8_row_252 rfl rfl ?_
                                  refine m_dup h dX8_row_253 rfl ?_
                                  refine m_get h fo_X8_64 (by decide) rfl rfl dX8_row_254 ?_
                                  show M X G 9 u 257 [some (.ref (G.2.1 25)), some (.int (iI kd)), some (.int (iI a)), some (.int (iI b)), some (.int (iI c)), some (.int (iI R)), none, none, some (.int (iI (k : Int)))] [.int (iI (u.1 25 1)), .ref (G.2.1 25)]
                                  rw [e25r]
                                  show M X G 9 u 257 [some (.ref (G.2.1 25)), some (.int (iI kd)), some (.int (iI a)), some (.int (iI b)), some (.int (iI c)), some (.int (iI R)), none, none, some (.int (iI (k : Int)))] [.int (iI (g_r g)), .ref (G.2.1 25)]
                                  refine m_iconst h dX8_row_257 ?_
                                  refine m_iadd h dX8_row_258 ?_
                                  refine m_putJ h fw_X8_64 (by decide) rfl (Nat.le_of_ble_eq_true rfl) (kz := 1) rfl rfl dX8_row_259 ?_
                                  have hS1 := rwF_s ⟨s0, s1, s2, s3⟩ hg hr12 hw hz8
                                  have hF1 : FrM v (wI u 25 1 ((g_r g) + 1)) := FrM.w ⟨fun i hi => hw.1 i (by omega) (by omega) (by omega) (by omega), hw.2.1⟩ (by omega)
                                  refine m_aload_n h dX8_row_262 rfl rfl ?_
                                  refine m_vV h (m_anew _ hG _ (by intro x x0 x1; exact hS1.2.2.1.z x x0 x1)) moX8_anew voX8_anew lk_X8_73 dX8_row_263 (by decide) (by decide) rfl rfl rfl (Nat.le_of_ble_eq_true rfl) (fun ua p105 => ?_)
                                  have hRa := RM_an hS1 p105 t
                                  have hFa := hF1.tr (ANW.m p105)
                                  have hAn := p105
                                  refine m_aload_n h dX8_row_266 rfl rfl ?_
                                  refine m_get h fo_X8_64 (by decide) rfl rfl dX8_row_267 ?_
                                  refine m_iconst h dX8_row_270 ?_
                                  refine m_isub h dX8_row_271 ?_
                                  refine m_iret h hR rfl dX8_row_272 ?_
                                  refine Or.inr ⟨hgd, Or.inr ⟨hr12, ?_, hRa, hFa⟩⟩
                                  have : ua.1 25 1 = g_r g + 1 := hRa.1.2.1
                                  omega
                                · skip
                                  refine m_aload_n h dX8_row_230 rfl rfl ?_
                                  refine m_get h fo_X8_26 (by decide) rfl rfl dX8_row_231 ?_
                                  refine m_bipush h dX8_row_234 (by decide) ?_
                                  refine m_aload_n h dX8_row_236 rfl rfl ?_
                                  refine m_get h fo_X8_64 (by decide) rfl rfl dX8_row_237 ?_
                                  show M X G 9 u 240 [some (.ref (G.2.1 25)), some (.int (iI kd)), some (.int (iI a)), some (.int (iI b)), some (.int (iI c)), some (.int (iI R)), none, none, some (.int (iI (k : Int)))] [.int (iI (u.1 25 1)), .int (iI 8), .ref (G.2.1 31)]
                                  rw [e25r]
                                  show M X G 9 u 240 [some (.ref (G.2.1 25)), some (.int (iI kd)), some (.int (iI a)), some (.int (iI b)), some (.int (iI c)), some (.int (iI R)), none, none, some (.int (iI (k : Int)))] [.int (iI (g_r g)), .int (iI 8), .ref (G.2.1 31)]
                                  refine m_imul h dX8_row_240 ?_
                                  refine m_iload h dX8_row_241 rfl ?_
                                  refine m_iadd h dX8_row_243 ?_
                                  refine m_iconst h dX8_row_244 ?_
                                  refine m_iast h (ar_31 G) (by omega) (by omega) dX8_row_245 ?_
                                  refine m_iinc h dX8_row_246 rfl (by decide) rfl ?_
                                  refine m_goto h dX8_row_249 (tgt := 223) (by decide) ?_
                                  refine ih (k + 1) _ (by omega) (by omega) (rwF_w hw (by omega)) (fun x x0 x1 => ?_)
                                  by_cases e : x = (k : Int)
                                  · subst e; rw [wI_s]
                                  · rw [wI_n (by omega)]; exact hz x x0 (by omega)
                            exact lp223 100 0 _ (by omega) (by omega) (rwF_i (by rw [if_pos (by omega)]; exact (mN_nn (by have : isNm g a := hgd.2.2.1 (by omega); exact this.1)).symm) (by rw [if_pos (by omega)]; exact (mN_nn (by have : isNm g b := (hgd.2.2.2.1 (by omega)).1; exact this.1)).symm) (by rw [if_pos (by omega)]; exact (mN_nn (by have : isNm g c := (hgd.2.2.2.2 (by omega)).1; exact this.1)).symm)) (fun x q1 q2 => by omega)
                    · skip
                      refine m_sipush h dX8_row_119 (by decide) ?_
                      refine m_iret h hR rfl dX8_row_122 ?_
                      exact Or.inr ⟨⟨h1, h2, hgd3⟩, Or.inl ⟨by omega, rfl, rfl⟩⟩
                  · skip
                    omega
        · skip
          refine m_aload_n h dX8_row_54 rfl rfl ?_
          refine m_iload_n h dX8_row_55 rfl rfl ?_
          refine m_vI h (m_isName _ hG _ b hb (by omega)) moX8_isName voX8_isName lk_X8_76 dX8_row_56 (by decide) (by decide) rfl rfl rfl (Nat.le_of_ble_eq_true rfl) (fun r106 u107 p108 => ?_)
          obtain ⟨hu9, hbb⟩ := p108
          rw [hu9]
          rw [s0] at hbb
          have hbb : bz r106 (isNm g b) := hbb
          have hbbi := hbb.in
          refine m_if_eq h dX8_row_59 (tgt := 98) (by decide) (by omega) (fun c109 => ?_) (fun c109 => ?_)
          · skip
            have hgd4 : ¬ ((1 ≤ NKs kd → isNm g a) ∧ (2 ≤ NKs kd → isNm g b ∧ b ≠ a) ∧ (3 ≤ NKs kd → isNm g c ∧ c ≠ a ∧ c ≠ b)) := fun q => by
              first
                | exact absurd (q.2.2 (by omega)).2.2 (by omega)
                | exact absurd (q.2.2 (by omega)).2.1 (by omega)
                | exact hbc.no (by omega) (q.2.2 (by omega)).1
                | exact absurd (q.2.1 (by omega)).2 (by omega)
                | exact hbb.no (by omega) (q.2.1 (by omega)).1
                | exact hba.no (by omega) (q.1 (by omega))
            refine m_iconst h dX8_row_98 ?_
            refine m_istore h dX8_row_99 (by decide) rfl ?_
            refine m_iload h dX8_row_101 rfl ?_
            refine m_if_ne h dX8_row_103 (tgt := 110) (by decide) (by omega) (fun c110 => ?_) (fun c110 => ?_)
            · skip
              omega
            · skip
              refine m_sipush h dX8_row_106 (by decide) ?_
              refine m_iret h hR rfl dX8_row_109 ?_
              refine Or.inl ⟨fun q => ?_, rfl, rfl⟩
              exact hgd4 q.2.2
          · skip
            refine m_iload_n h dX8_row_62 rfl rfl ?_
            refine m_iload_n h dX8_row_63 rfl rfl ?_
            refine m_icmp_eq h dX8_row_64 (tgt := 98) (by decide) (by omega) (by omega) (fun c111 => ?_) (fun c111 => ?_)
            · skip
              have hgd4 : ¬ ((1 ≤ NKs kd → isNm g a) ∧ (2 ≤ NKs kd → isNm g b ∧ b ≠ a) ∧ (3 ≤ NKs kd → isNm g c ∧ c ≠ a ∧ c ≠ b)) := fun q => by
                first
                  | exact absurd (q.2.2 (by omega)).2.2 (by omega)
                  | exact absurd (q.2.2 (by omega)).2.1 (by omega)
                  | exact hbc.no (by omega) (q.2.2 (by omega)).1
                  | exact absurd (q.2.1 (by omega)).2 (by omega)
                  | exact hbb.no (by omega) (q.2.1 (by omega)).1
                  | exact hba.no (by omega) (q.1 (by omega))
              refine m_iconst h dX8_row_98 ?_
              refine m_istore h dX8_row_99 (by decide) rfl ?_
              refine m_iload h dX8_row_101 rfl ?_
              refine m_if_ne h dX8_row_103 (tgt := 110) (by decide) (by omega) (fun c112 => ?_) (fun c112 => ?_)
              · skip
                omega
              · skip
                refine m_sipush h dX8_row_106 (by decide) ?_
                refine m_iret h hR rfl dX8_row_109 ?_
                refine Or.inl ⟨fun q => ?_, rfl, rfl⟩
                exact hgd4 q.2.2
            · skip
              refine m_iload h dX8_row_67 rfl ?_
              refine m_iconst h dX8_row_69 ?_
              refine m_icmp_lt h dX8_row_70 (tgt := 94) (by decide) (by omega) (by omega) (fun c113 => ?_) (fun c113 => ?_)
              · skip
                have hgd3 : ((1 ≤ NKs kd → isNm g a) ∧ (2 ≤ NKs kd → isNm g b ∧ b ≠ a) ∧ (3 ≤ NKs kd → isNm g c ∧ c ≠ a ∧ c ≠ b)) := by
                  refine ⟨fun q => ?_, fun q => ?_, fun q => ?_⟩
                  · first | omega | exact hba.yes (by omega)
                  · first | omega | exact ⟨hbb.yes (by omega), by omega⟩
                  · first | omega | exact ⟨hbc.yes (by omega), by omega, by omega⟩
                refine m_iconst h dX8_row_94 ?_
                refine m_goto h dX8_row_95 (tgt := 99) (by decide) ?_
                refine m_istore h dX8_row_99 (by decide) rfl ?_
                refine m_iload h dX8_row_101 rfl ?_
                refine m_if_ne h dX8_row_103 (tgt := 110) (by decide) (by omega) (fun c114 => ?_) (fun c114 => ?_)
                · skip
                  refine m_aload_n h dX8_row_110 rfl rfl ?_
                  refine m_get h fo_X8_64 (by decide) rfl rfl dX8_row_111 ?_
                  refine m_bipush h dX8_row_114 (by decide) ?_
                  refine m_icmp_ne h dX8_row_116 (tgt := 123) (by decide) (by omega) (by omega) (fun c115 => ?_) (fun c115 => ?_)
                  · skip
                    have hgd : RwGood g kd a b c R := ⟨h1, h2, hgd3⟩
                    have hr12 : g_r g < 12 := by omega
                    have hNr := nks_rg kd
                    refine m_aload_n h dX8_row_123 rfl rfl ?_
                    refine m_get h fo_X8_16 (by decide) rfl rfl dX8_row_124 ?_
                    refine m_aload_n h dX8_row_127 rfl rfl ?_
                    refine m_get h fo_X8_64 (by decide) rfl rfl dX8_row_128 ?_
                    show M X G 9 v 131 [some (.ref (G.2.1 25)), some (.int (iI kd)), some (.int (iI a)), some (.int (iI b)), some (.int (iI c)), some (.int (iI R)), some (.int (iI ow)), some (.int (iI 1)), none] [.int (iI (v.1 25 1)), .ref (G.2.1 28)]
                    rw [s1]
                    show M X G 9 v 131 [some (.ref (G.2.1 25)), some (.int (iI kd)), some (.int (iI a)), some (.int (iI b)), some (.int (iI c)), some (.int (iI R)), some (.int (iI ow)), some (.int (iI 1)), none] [.int (iI (g_r g)), .ref (G.2.1 28)]
                    refine m_iload_n h dX8_row_131 rfl rfl ?_
                    refine m_iast h (ar_28 G) (by omega) (by omega) dX8_row_132 ?_
                    refine m_aload_n h dX8_row_133 rfl rfl ?_
                    refine m_get h fo_X8_20 (by decide) rfl rfl dX8_row_134 ?_
                    refine m_iconst h dX8_row_137 ?_
                    refine m_aload_n h dX8_row_138 rfl rfl ?_
                    refine m_get h fo_X8_64 (by decide) rfl rfl dX8_row_139 ?_
                    show M X G 9 (wI v 28 (g_r g) kd) 142 [some (.ref (G.2.1 25)), some (.int (iI kd)), some (.int (iI a)), some (.int (iI b)), some (.int (iI c)), some (.int (iI R)), some (.int (iI ow)), some (.int (iI 1)), none] [.int (iI (v.1 25 1)), .int (iI 3), .ref (G.2.1 29)]
                    show M X G 9 (wI v 28 (g_r g) kd) 142 [some (.ref (G.2.1 25)), some (.int (iI kd)), some (.int (iI a)), some (.int (iI b)), some (.int (iI c)), some (.int (iI R)), some (.int (iI ow)), some (.int (iI 1)), none] [.int (iI (v.1 25 1)), .int (iI 3), .ref (G.2.1 29)]
                    rw [s1]
                    show M X G 9 (wI v 28 (g_r g) kd) 142 [some (.ref (G.2.1 25)), some (.int (iI kd)), some (.int (iI a)), some (.int (iI b)), some (.int (iI c)), some (.int (iI R)), some (.int (iI ow)), some (.int (iI 1)), none] [.int (iI (g_r g)), .int (iI 3), .ref (G.2.1 29)]
                    refine m_imul h dX8_row_142 ?_
                    refine m_iload h dX8_row_143 rfl ?_
                    refine m_if_le h dX8_row_145 (tgt := 152) (by decide) (by omega) (fun c116 => ?_) (fun c116 => ?_)
                    · skip
                      refine m_sipush h dX8_row_152 (by decide) ?_
                      refine m_iast h (ar_29 G) (by omega) (by omega) dX8_row_155 ?_
                      refine m_aload_n h dX8_row_156 rfl rfl ?_
                      refine m_get h fo_X8_20 (by decide) rfl rfl dX8_row_157 ?_
                      refine m_iconst h dX8_row_160 ?_
                      refine m_aload_n h dX8_row_161 rfl rfl ?_
                      refine m_get h fo_X8_64 (by decide) rfl rfl dX8_row_162 ?_
                      show M X G 9 (wI (wI v 28 (g_r g) kd) 29 (3 * (g_r g)) (-1000)) 165 [some (.ref (G.2.1 25)), some (.int (iI kd)), some (.int (iI a)), some (.int (iI b)), some (.int (iI c)), some (.int (iI R)), some (.int (iI ow)), some (.int (iI 1)), none] [.int (iI (v.1 25 1)), .int (iI 3), .ref (G.2.1 29)]
                      show M X G 9 (wI (wI v 28 (g_r g) kd) 29 (3 * (g_r g)) (-1000)) 165 [some (.ref (G.2.1 25)), some (.int (iI kd)), some (.int (iI a)), some (.int (iI b)), some (.int (iI c)), some (.int (iI R)), some (.int (iI ow)), some (.int (iI 1)), none] [.int (iI (v.1 25 1)), .int (iI 3), .ref (G.2.1 29)]
                      rw [s1]
                      show M X G 9 (wI (wI v 28 (g_r g) kd) 29 (3 * (g_r g)) (-1000)) 165 [some (.ref (G.2.1 25)), some (.int (iI kd)), some (.int (iI a)), some (.int (iI b)), some (.int (iI c)), some (.int (iI R)), some (.int (iI ow)), some (.int (iI 1)), none] [.int (iI (g_r g)), .int (iI 3), .ref (G.2.1 29)]
                      refine m_imul h dX8_row_165 ?_
                      refine m_iconst h dX8_row_166 ?_
                      refine m_iadd h dX8_row_167 ?_
                      refine m_iload h dX8_row_168 rfl ?_
                      refine m_iconst h dX8_row_170 ?_
                      refine m_icmp_le h dX8_row_171 (tgt := 178) (by decide) (by omega) (by omega) (fun c117 => ?_) (fun c117 => ?_)
                      · skip
                        refine m_sipush h dX8_row_178 (by decide) ?_
                        refine m_iast h (ar_29 G) (by omega) (by omega) dX8_row_181 ?_
                        refine m_aload_n h dX8_row_182 rfl rfl ?_
                        refine m_get h fo_X8_20 (by decide) rfl rfl dX8_row_183 ?_
                        refine m_iconst h dX8_row_186 ?_
                        refine m_aload_n h dX8_row_187 rfl rfl ?_
                        refine m_get h fo_X8_64 (by decide) rfl rfl dX8_row_188 ?_
                        show M X G 9 (wI (wI (wI v 28 (g_r g) kd) 29 (3 * (g_r g)) (-1000)) 29 ((3 * (g_r g)) + 1) (-1000)) 191 [some (.ref (G.2.1 25)), some (.int (iI kd)), some (.int (iI a)), some (.int (iI b)), some (.int (iI c)), some (.int (iI R)), some (.int (iI ow)), some (.int (iI 1)), none] [.int (iI (v.1 25 1)), .int (iI 3), .ref (G.2.1 29)]
                        show M X G 9 (wI (wI (wI v 28 (g_r g) kd) 29 (3 * (g_r g)) (-1000)) 29 ((3 * (g_r g)) + 1) (-1000)) 191 [some (.ref (G.2.1 25)), some (.int (iI kd)), some (.int (iI a)), some (.int (iI b)), some (.int (iI c)), some (.int (iI R)), some (.int (iI ow)), some (.int (iI 1)), none] [.int (iI (v.1 25 1)), .int (iI 3), .ref (G.2.1 29)]
                        rw [s1]
                        show M X G 9 (wI (wI (wI v 28 (g_r g) kd) 29 (3 * (g_r g)) (-1000)) 29 ((3 * (g_r g)) + 1) (-1000)) 191 [some (.ref (G.2.1 25)), some (.int (iI kd)), some (.int (iI a)), some (.int (iI b)), some (.int (iI c)), some (.int (iI R)), some (.int (iI ow)), some (.int (iI 1)), none] [.int (iI (g_r g)), .int (iI 3), .ref (G.2.1 29)]
                        refine m_imul h dX8_row_191 ?_
                        refine m_iconst h dX8_row_192 ?_
                        refine m_iadd h dX8_row_193 ?_
                        refine m_iload h dX8_row_194 rfl ?_
                        refine m_iconst h dX8_row_196 ?_
                        refine m_icmp_le h dX8_row_197 (tgt := 205) (by decide) (by omega) (by omega) (fun c118 => ?_) (fun c118 => ?_)
                        · skip
                          refine m_sipush h dX8_row_205 (by decide) ?_
                          refine m_iast h (ar_29 G) (by omega) (by omega) dX8_row_208 ?_
                          refine m_aload_n h dX8_row_209 rfl rfl ?_
                          refine m_get h fo_X8_23 (by decide) rfl rfl dX8_row_210 ?_
                          refine m_aload_n h dX8_row_213 rfl rfl ?_
                          refine m_get h fo_X8_64 (by decide) rfl rfl dX8_row_214 ?_
                          show M X G 9 (wI (wI (wI (wI v 28 (g_r g) kd) 29 (3 * (g_r g)) (-1000)) 29 ((3 * (g_r g)) + 1) (-1000)) 29 ((3 * (g_r g)) + 2) (-1000)) 217 [some (.ref (G.2.1 25)), some (.int (iI kd)), some (.int (iI a)), some (.int (iI b)), some (.int (iI c)), some (.int (iI R)), some (.int (iI ow)), some (.int (iI 1)), none] [.int (iI (v.1 25 1)), .ref (G.2.1 30)]
                          show M X G 9 (wI (wI (wI (wI v 28 (g_r g) kd) 29 (3 * (g_r g)) (-1000)) 29 ((3 * (g_r g)) + 1) (-1000)) 29 ((3 * (g_r g)) + 2) (-1000)) 217 [some (.ref (G.2.1 25)), some (.int (iI kd)), some (.int (iI a)), some (.int (iI b)), some (.int (iI c)), some (.int (iI R)), some (.int (iI ow)), some (.int (iI 1)), none] [.int (iI (v.1 25 1)), .ref (G.2.1 30)]
                          rw [s1]
                          show M X G 9 (wI (wI (wI (wI v 28 (g_r g) kd) 29 (3 * (g_r g)) (-1000)) 29 ((3 * (g_r g)) + 1) (-1000)) 29 ((3 * (g_r g)) + 2) (-1000)) 217 [some (.ref (G.2.1 25)), some (.int (iI kd)), some (.int (iI a)), some (.int (iI b)), some (.int (iI c)), some (.int (iI R)), some (.int (iI ow)), some (.int (iI 1)), none] [.int (iI (g_r g)), .ref (G.2.1 30)]
                          refine m_iload h dX8_row_217 rfl ?_
                          refine m_iast h (ar_30 G) (by omega) (by omega) dX8_row_219 ?_
                          refine m_iconst h dX8_row_220 ?_
                          refine m_istore h dX8_row_221 (by decide) rfl ?_
                          refine m_kill 6 ?_
                          refine m_kill 7 ?_
                          have lp223 : ∀ (fuel : Nat) (k : Nat) (u : Mem), k ≤ 8 → 20 - k < fuel → rwF v (g_r g) kd (if 1 ≤ NKs kd then a else -1) (if 2 ≤ NKs kd then b else -1) (if 3 ≤ NKs kd then c else -1) R u → (∀ x, 0 ≤ x → x < (k : Int) → u.1 31 (8 * g_r g + x) = 0) → M X G 9 u 223 [some (.ref (G.2.1 25)), some (.int (iI kd)), some (.int (iI a)), some (.int (iI b)), some (.int (iI c)), some (.int (iI R)), none, none, some (.int (iI (k : Int)))] [] := by
                            intro fuel
                            induction fuel with
                            | zero => intro k u hk8 hfu hw hz; exfalso; omega
                            | succ fuel ih =>
                              intro k u hk8 hfu hw hz
                              have e25r : u.1 25 1 = g_r g := by rw [hw.1 25 (by decide) (by decide) (by decide) (by decide)]; exact s1
                              refine m_iload h dX8_row_223 rfl ?_
                              refine m_bipush h dX8_row_225 (by decide) ?_
                              refine m_icmp_ge h dX8_row_227 (tgt := 252) (by decide) (by omega) (by omega) (fun c119 => ?_) (fun c119 => ?_)
                              · skip
                                have hz8 : ∀ x, 0 ≤ x → x < 8 → u.1 31 (8 * g_r g + x) = 0 := fun x q1 q2 => hz x q1 (by omega)
                                refine m_aload_n h dX8_row_252 rfl rfl ?_
                                refine m_dup h dX8_row_253 rfl ?_
                                refine m_get h fo_X8_64 (by decide) rfl rfl dX8_row_254 ?_
                                show M X G 9 u 257 [some (.ref (G.2.1 25)), some (.int (iI kd)), some (.int (iI a)), some (.int (iI b)), some (.int (iI c)), some (.int (iI R)), none, none, some (.int (iI (k : Int)))] [.int (iI (u.1 25 1)), .ref (G.2.1 25)]
                                rw [e25r]
                                show M X G 9 u 257 [some (.ref (G.2.1 25)), some (.int (iI kd)), some (.int (iI a)), some (.int (iI b)), some (.int (iI c)), some (.int (iI R)), none, none, some (.int (iI (k : Int)))] [.int (iI (g_r g)), .ref (G.2.1 25)]
                                refine m_iconst h dX8_row_257 ?_
                                refine m_iadd h dX8_row_258 ?_
                                refine m_putJ h fw_X8_64 (by decide) rfl (Nat.le_of_ble_eq_true rfl) (kz := 1) rfl rfl dX8_row_259 ?_
                                have hS1 := rwF_s ⟨s0, s1, s2, s3⟩ hg hr12 hw hz8
                                have hF1 : FrM v (wI u 25 1 ((g_r g) + 1)) := FrM.w ⟨fun i hi => hw.1 i (by omega) (by omega) (by omega) (by omega), hw.2.1⟩ (by omega)
                                refine m_aload_n h dX8_row_262 rfl rfl ?_
                                refine m_vV h (m_anew _ hG _ (by intro x x0 x1; exact hS1.2.2.1.z x x0 x1)) moX8_anew voX8_anew lk_X8_73 dX8_row_263 (by decide) (by decide) rfl rfl rfl (Nat.le_of_ble_eq_true rfl) (fun ua p122 => ?_)
                                have hRa := RM_an hS1 p122 t
                                have hFa := hF1.tr (ANW.m p122)
                                have hAn := p122
                                refine m_aload_n h dX8_row_266 rfl rfl ?_
                                refine m_get h fo_X8_64 (by decide) rfl rfl dX8_row_267 ?_
                                refine m_iconst h dX8_row_270 ?_
                                refine m_isub h dX8_row_271 ?_
                                refine m_iret h hR rfl dX8_row_272 ?_
                                refine Or.inr ⟨hgd, Or.inr ⟨hr12, ?_, hRa, hFa⟩⟩
                                have : ua.1 25 1 = g_r g + 1 := hRa.1.2.1
                                omega
                              · skip
                                refine m_aload_n h dX8_row_230 rfl rfl ?_
                                refine m_get h fo_X8_26 (by decide) rfl rfl dX8_row_231 ?_
                                refine m_bipush h dX8_row_234 (by decide) ?_
                                refine m_aload_n h dX8_row_236 rfl rfl ?_
                                refine m_get h fo_X8_64 (by decide) rfl rfl dX8_row_237 ?_
                                show M X G 9 u 240 [some (.ref (G.2.1 25)), some (.int (iI kd)), some (.int (iI a)), some (.int (iI b)), some (.int (iI c)), some (.int (iI R)), none, none, some (.int (iI (k : Int)))] [.int (iI (u.1 25 1)), .int (iI 8), .ref (G.2.1 31)]
                                rw [e25r]
                                show M X G 9 u 240 [some (.ref (G.2.1 25)), some (.int (iI kd)), some (.int (iI a)), some (.int (iI b)), some (.int (iI c)), some (.int (iI R)), none, none, some (.int (iI (k : Int)))] [.int (iI (g_r g)), .int (iI 8), .ref (G.2.1 31)]
                                refine m_imul h dX8_row_240 ?_
                                refine m_iload h dX8_row_241 rfl ?_
                                refine m_iadd h dX8_row_243 ?_
                                refine m_iconst h dX8_row_244 ?_
                                refine m_iast h (ar_31 G) (by omega) (by omega) dX8_row_245 ?_
                                refine m_iinc h dX8_row_246 rfl (by decide) rfl ?_
                                refine m_goto h dX8_row_249 (tgt := 223) (by decide) ?_
                                refine ih (k + 1) _ (by omega) (by omega) (rwF_w hw (by omega)) (fun x x0 x1 => ?_)
                                by_cases e : x = (k : Int)
                                · subst e; rw [wI_s]
                                · rw [wI_n (by omega)]; exact hz x x0 (by omega)
                          exact lp223 100 0 _ (by omega) (by omega) (rwF_i (by rw [if_neg (by omega)]; rfl) (by rw [if_neg (by omega)]; rfl) (by rw [if_neg (by omega)]; rfl)) (fun x q1 q2 => by omega)
                        · skip
                          refine m_iload h dX8_row_200 rfl ?_
                          refine m_goto h dX8_row_202 (tgt := 208) (by decide) ?_
                          refine m_iast h (ar_29 G) (by omega) (by omega) dX8_row_208 ?_
                          refine m_aload_n h dX8_row_209 rfl rfl ?_
                          refine m_get h fo_X8_23 (by decide) rfl rfl dX8_row_210 ?_
                          refine m_aload_n h dX8_row_213 rfl rfl ?_
                          refine m_get h fo_X8_64 (by decide) rfl rfl dX8_row_214 ?_
                          show M X G 9 (wI (wI (wI (wI v 28 (g_r g) kd) 29 (3 * (g_r g)) (-1000)) 29 ((3 * (g_r g)) + 1) (-1000)) 29 ((3 * (g_r g)) + 2) c) 217 [some (.ref (G.2.1 25)), some (.int (iI kd)), some (.int (iI a)), some (.int (iI b)), some (.int (iI c)), some (.int (iI R)), some (.int (iI ow)), some (.int (iI 1)), none] [.int (iI (v.1 25 1)), .ref (G.2.1 30)]
                          show M X G 9 (wI (wI (wI (wI v 28 (g_r g) kd) 29 (3 * (g_r g)) (-1000)) 29 ((3 * (g_r g)) + 1) (-1000)) 29 ((3 * (g_r g)) + 2) c) 217 [some (.ref (G.2.1 25)), some (.int (iI kd)), some (.int (iI a)), some (.int (iI b)), some (.int (iI c)), some (.int (iI R)), some (.int (iI ow)), some (.int (iI 1)), none] [.int (iI (v.1 25 1)), .ref (G.2.1 30)]
                          rw [s1]
                          show M X G 9 (wI (wI (wI (wI v 28 (g_r g) kd) 29 (3 * (g_r g)) (-1000)) 29 ((3 * (g_r g)) + 1) (-1000)) 29 ((3 * (g_r g)) + 2) c) 217 [some (.ref (G.2.1 25)), some (.int (iI kd)), some (.int (iI a)), some (.int (iI b)), some (.int (iI c)), some (.int (iI R)), some (.int (iI ow)), some (.int (iI 1)), none] [.int (iI (g_r g)), .ref (G.2.1 30)]
                          refine m_iload h dX8_row_217 rfl ?_
                          refine m_iast h (ar_30 G) (by omega) (by omega) dX8_row_219 ?_
                          refine m_iconst h dX8_row_220 ?_
                          refine m_istore h dX8_row_221 (by decide) rfl ?_
                          refine m_kill 6 ?_
                          refine m_kill 7 ?_
                          have lp223 : ∀ (fuel : Nat) (k : Nat) (u : Mem), k ≤ 8 → 20 - k < fuel → rwF v (g_r g) kd (if 1 ≤ NKs kd then a else -1) (if 2 ≤ NKs kd then b else -1) (if 3 ≤ NKs kd then c else -1) R u → (∀ x, 0 ≤ x → x < (k : Int) → u.1 31 (8 * g_r g + x) = 0) → M X G 9 u 223 [some (.ref (G.2.1 25)), some (.int (iI kd)), some (.int (iI a)), some (.int (iI b)), some (.int (iI c)), some (.int (iI R)), none, none, some (.int (iI (k : Int)))] [] := by
                            intro fuel
                            induction fuel with
                            | zero => intro k u hk8 hfu hw hz; exfalso; omega
                            | succ fuel ih =>
                              intro k u hk8 hfu hw hz
                              have e25r : u.1 25 1 = g_r g := by rw [hw.1 25 (by decide) (by decide) (by decide) (by decide)]; exact s1
                              refine m_iload h dX8_row_223 rfl ?_
                              refine m_bipush h dX8_row_225 (by decide) ?_
                              refine m_icmp_ge h dX8_row_227 (tgt := 252) (by decide) (by omega) (by omega) (fun c123 => ?_) (fun c123 => ?_)
                              · skip
                                have hz8 : ∀ x, 0 ≤ x → x < 8 → u.1 31 (8 * g_r g + x) = 0 := fun x q1 q2 => hz x q1 (by omega)
                                refine m_aload_n h dX8_row_252 rfl rfl ?_
                                refine m_dup h dX8_row_253 rfl ?_
                                refine m_get h fo_X8_64 (by decide) rfl rfl dX8_row_254 ?_
                                show M X G 9 u 257 [some (.ref (G.2.1 25)), some (.int (iI kd)), some (.int (iI a)), some (.int (iI b)), some (.int (iI c)), some (.int (iI R)), none, none, some (.int (iI (k : Int)))] [.int (iI (u.1 25 1)), .ref (G.2.1 25)]
                                rw [e25r]
                                show M X G 9 u 257 [some (.ref (G.2.1 25)), some (.int (iI kd)), some (.int (iI a)), some (.int (iI b)), some (.int (iI c)), some (.int (iI R)), none, none, some (.int (iI (k : Int)))] [.int (iI (g_r g)), .ref (G.2.1 25)]
                                refine m_iconst h dX8_row_257 ?_
                                refine m_iadd h dX8_row_258 ?_
                                refine m_putJ h fw_X8_64 (by decide) rfl (Nat.le_of_ble_eq_true rfl) (kz := 1) rfl rfl dX8_row_259 ?_
                                have hS1 := rwF_s ⟨s0, s1, s2, s3⟩ hg hr12 hw hz8
                                have hF1 : FrM v (wI u 25 1 ((g_r g) + 1)) := FrM.w ⟨fun i hi => hw.1 i (by omega) (by omega) (by omega) (by omega), hw.2.1⟩ (by omega)
                                refine m_aload_n h dX8_row_262 rfl rfl ?_
                                refine m_vV h (m_anew _ hG _ (by intro x x0 x1; exact hS1.2.2.1.z x x0 x1)) moX8_anew voX8_anew lk_X8_73 dX8_row_263 (by decide) (by decide) rfl rfl rfl (Nat.le_of_ble_eq_true rfl) (fun ua p126 => ?_)
                                have hRa := RM_an hS1 p126 t
                                have hFa := hF1.tr (ANW.m p126)
                                have hAn := p126
                                refine m_aload_n h dX8_row_266 rfl rfl ?_
                                refine m_get h fo_X8_64 (by decide) rfl rfl dX8_row_267 ?_
                                refine m_iconst h dX8_row_270 ?_
                                refine m_isub h dX8_row_271 ?_
                                refine m_iret h hR rfl dX8_row_272 ?_
                                refine Or.inr ⟨hgd, Or.inr ⟨hr12, ?_, hRa, hFa⟩⟩
                                have : ua.1 25 1 = g_r g + 1 := hRa.1.2.1
                                omega
                              · skip
                                refine m_aload_n h dX8_row_230 rfl rfl ?_
                                refine m_get h fo_X8_26 (by decide) rfl rfl dX8_row_231 ?_
                                refine m_bipush h dX8_row_234 (by decide) ?_
                                refine m_aload_n h dX8_row_236 rfl rfl ?_
                                refine m_get h fo_X8_64 (by decide) rfl rfl dX8_row_237 ?_
                                show M X G 9 u 240 [some (.ref (G.2.1 25)), some (.int (iI kd)), some (.int (iI a)), some (.int (iI b)), some (.int (iI c)), some (.int (iI R)), none, none, some (.int (iI (k : Int)))] [.int (iI (u.1 25 1)), .int (iI 8), .ref (G.2.1 31)]
                                rw [e25r]
                                show M X G 9 u 240 [some (.ref (G.2.1 25)), some (.int (iI kd)), some (.int (iI a)), some (.int (iI b)), some (.int (iI c)), some (.int (iI R)), none, none, some (.int (iI (k : Int)))] [.int (iI (g_r g)), .int (iI 8), .ref (G.2.1 31)]
                                refine m_imul h dX8_row_240 ?_
                                refine m_iload h dX8_row_241 rfl ?_
                                refine m_iadd h dX8_row_243 ?_
                                refine m_iconst h dX8_row_244 ?_
                                refine m_iast h (ar_31 G) (by omega) (by omega) dX8_row_245 ?_
                                refine m_iinc h dX8_row_246 rfl (by decide) rfl ?_
                                refine m_goto h dX8_row_249 (tgt := 223) (by decide) ?_
                                refine ih (k + 1) _ (by omega) (by omega) (rwF_w hw (by omega)) (fun x x0 x1 => ?_)
                                by_cases e : x = (k : Int)
                                · subst e; rw [wI_s]
                                · rw [wI_n (by omega)]; exact hz x x0 (by omega)
                          exact lp223 100 0 _ (by omega) (by omega) (rwF_i (by rw [if_neg (by omega)]; rfl) (by rw [if_neg (by omega)]; rfl) (by rw [if_pos (by omega)]; exact (mN_nn (by have : isNm g c := (hgd.2.2.2.2 (by omega)).1; exact this.1)).symm)) (fun x q1 q2 => by omega)
                      · skip
                        refine m_iload_n h dX8_row_174 rfl rfl ?_
                        refine m_goto h dX8_row_175 (tgt := 181) (by decide) ?_
                        refine m_iast h (ar_29 G) (by omega) (by omega) dX8_row_181 ?_
                        refine m_aload_n h dX8_row_182 rfl rfl ?_
                        refine m_get h fo_X8_20 (by decide) rfl rfl dX8_row_183 ?_
                        refine m_iconst h dX8_row_186 ?_
                        refine m_aload_n h dX8_row_187 rfl rfl ?_
                        refine m_get h fo_X8_64 (by decide) rfl rfl dX8_row_188 ?_
                        show M X G 9 (wI (wI (wI v 28 (g_r g) kd) 29 (3 * (g_r g)) (-1000)) 29 ((3 * (g_r g)) + 1) b) 191 [some (.ref (G.2.1 25)), some (.int (iI kd)), some (.int (iI a)), some (.int (iI b)), some (.int (iI c)), some (.int (iI R)), some (.int (iI ow)), some (.int (iI 1)), none] [.int (iI (v.1 25 1)), .int (iI 3), .ref (G.2.1 29)]
                        show M X G 9 (wI (wI (wI v 28 (g_r g) kd) 29 (3 * (g_r g)) (-1000)) 29 ((3 * (g_r g)) + 1) b) 191 [some (.ref (G.2.1 25)), some (.int (iI kd)), some (.int (iI a)), some (.int (iI b)), some (.int (iI c)), some (.int (iI R)), some (.int (iI ow)), some (.int (iI 1)), none] [.int (iI (v.1 25 1)), .int (iI 3), .ref (G.2.1 29)]
                        rw [s1]
                        show M X G 9 (wI (wI (wI v 28 (g_r g) kd) 29 (3 * (g_r g)) (-1000)) 29 ((3 * (g_r g)) + 1) b) 191 [some (.ref (G.2.1 25)), some (.int (iI kd)), some (.int (iI a)), some (.int (iI b)), some (.int (iI c)), some (.int (iI R)), some (.int (iI ow)), some (.int (iI 1)), none] [.int (iI (g_r g)), .int (iI 3), .ref (G.2.1 29)]
                        refine m_imul h dX8_row_191 ?_
                        refine m_iconst h dX8_row_192 ?_
                        refine m_iadd h dX8_row_193 ?_
                        refine m_iload h dX8_row_194 rfl ?_
                        refine m_iconst h dX8_row_196 ?_
                        refine m_icmp_le h dX8_row_197 (tgt := 205) (by decide) (by omega) (by omega) (fun c127 => ?_) (fun c127 => ?_)
                        · skip
                          refine m_sipush h dX8_row_205 (by decide) ?_
                          refine m_iast h (ar_29 G) (by omega) (by omega) dX8_row_208 ?_
                          refine m_aload_n h dX8_row_209 rfl rfl ?_
                          refine m_get h fo_X8_23 (by decide) rfl rfl dX8_row_210 ?_
                          refine m_aload_n h dX8_row_213 rfl rfl ?_
                          refine m_get h fo_X8_64 (by decide) rfl rfl dX8_row_214 ?_
                          show M X G 9 (wI (wI (wI (wI v 28 (g_r g) kd) 29 (3 * (g_r g)) (-1000)) 29 ((3 * (g_r g)) + 1) b) 29 ((3 * (g_r g)) + 2) (-1000)) 217 [some (.ref (G.2.1 25)), some (.int (iI kd)), some (.int (iI a)), some (.int (iI b)), some (.int (iI c)), some (.int (iI R)), some (.int (iI ow)), some (.int (iI 1)), none] [.int (iI (v.1 25 1)), .ref (G.2.1 30)]
                          show M X G 9 (wI (wI (wI (wI v 28 (g_r g) kd) 29 (3 * (g_r g)) (-1000)) 29 ((3 * (g_r g)) + 1) b) 29 ((3 * (g_r g)) + 2) (-1000)) 217 [some (.ref (G.2.1 25)), some (.int (iI kd)), some (.int (iI a)), some (.int (iI b)), some (.int (iI c)), some (.int (iI R)), some (.int (iI ow)), some (.int (iI 1)), none] [.int (iI (v.1 25 1)), .ref (G.2.1 30)]
                          rw [s1]
                          show M X G 9 (wI (wI (wI (wI v 28 (g_r g) kd) 29 (3 * (g_r g)) (-1000)) 29 ((3 * (g_r g)) + 1) b) 29 ((3 * (g_r g)) + 2) (-1000)) 217 [some (.ref (G.2.1 25)), some (.int (iI kd)), some (.int (iI a)), some (.int (iI b)), some (.int (iI c)), some (.int (iI R)), some (.int (iI ow)), some (.int (iI 1)), none] [.int (iI (g_r g)), .ref (G.2.1 30)]
                          refine m_iload h dX8_row_217 rfl ?_
                          refine m_iast h (ar_30 G) (by omega) (by omega) dX8_row_219 ?_
                          refine m_iconst h dX8_row_220 ?_
                          refine m_istore h dX8_row_221 (by decide) rfl ?_
                          refine m_kill 6 ?_
                          refine m_kill 7 ?_
                          have lp223 : ∀ (fuel : Nat) (k : Nat) (u : Mem), k ≤ 8 → 20 - k < fuel → rwF v (g_r g) kd (if 1 ≤ NKs kd then a else -1) (if 2 ≤ NKs kd then b else -1) (if 3 ≤ NKs kd then c else -1) R u → (∀ x, 0 ≤ x → x < (k : Int) → u.1 31 (8 * g_r g + x) = 0) → M X G 9 u 223 [some (.ref (G.2.1 25)), some (.int (iI kd)), some (.int (iI a)), some (.int (iI b)), some (.int (iI c)), some (.int (iI R)), none, none, some (.int (iI (k : Int)))] [] := by
                            intro fuel
                            induction fuel with
                            | zero => intro k u hk8 hfu hw hz; exfalso; omega
                            | succ fuel ih =>
                              intro k u hk8 hfu hw hz
                              have e25r : u.1 25 1 = g_r g := by rw [hw.1 25 (by decide) (by decide) (by decide) (by decide)]; exact s1
                              refine m_iload h dX8_row_223 rfl ?_
                              refine m_bipush h dX8_row_225 (by decide) ?_
                              refine m_icmp_ge h dX8_row_227 (tgt := 252) (by decide) (by omega) (by omega) (fun c128 => ?_) (fun c128 => ?_)
                              · skip
                                have hz8 : ∀ x, 0 ≤ x → x < 8 → u.1 31 (8 * g_r g + x) = 0 := fun x q1 q2 => hz x q1 (by omega)
                                refine m_aload_n h dX8_row_252 rfl rfl ?_
                                refine m_dup h dX8_row_253 rfl ?_
                                refine m_get h fo_X8_64 (by decide) rfl rfl dX8_row_254 ?_
                                show M X G 9 u 257 [some (.ref (G.2.1 25)), some (.int (iI kd)), some (.int (iI a)), some (.int (iI b)), some (.int (iI c)), some (.int (iI R)), none, none, some (.int (iI (k : Int)))] [.int (iI (u.1 25 1)), .ref (G.2.1 25)]
                                rw [e25r]
                                show M X G 9 u 257 [some (.ref (G.2.1 25)), some (.int (iI kd)), some (.int (iI a)), some (.int (iI b)), some (.int (iI c)), some (.int (iI R)), none, none, some (.int (iI (k : Int)))] [.int (iI (g_r g)), .ref (G.2.1 25)]
                                refine m_iconst h dX8_row_257 ?_
                                refine m_iadd h dX8_row_258 ?_
                                refine m_putJ h fw_X8_64 (by decide) rfl (Nat.le_of_ble_eq_true rfl) (kz := 1) rfl rfl dX8_row_259 ?_
                                have hS1 := rwF_s ⟨s0, s1, s2, s3⟩ hg hr12 hw hz8
                                have hF1 : FrM v (wI u 25 1 ((g_r g) + 1)) := FrM.w ⟨fun i hi => hw.1 i (by omega) (by omega) (by omega) (by omega), hw.2.1⟩ (by omega)
                                refine m_aload_n h dX8_row_262 rfl rfl ?_
                                refine m_vV h (m_anew _ hG _ (by intro x x0 x1; exact hS1.2.2.1.z x x0 x1)) moX8_anew voX8_anew lk_X8_73 dX8_row_263 (by decide) (by decide) rfl rfl rfl (Nat.le_of_ble_eq_true rfl) (fun ua p131 => ?_)
                                have hRa := RM_an hS1 p131 t
                                have hFa := hF1.tr (ANW.m p131)
                                have hAn := p131
                                refine m_aload_n h dX8_row_266 rfl rfl ?_
                                refine m_get h fo_X8_64 (by decide) rfl rfl dX8_row_267 ?_
                                refine m_iconst h dX8_row_270 ?_
                                refine m_isub h dX8_row_271 ?_
                                refine m_iret h hR rfl dX8_row_272 ?_
                                refine Or.inr ⟨hgd, Or.inr ⟨hr12, ?_, hRa, hFa⟩⟩
                                have : ua.1 25 1 = g_r g + 1 := hRa.1.2.1
                                omega
                              · skip
                                refine m_aload_n h dX8_row_230 rfl rfl ?_
                                refine m_get h fo_X8_26 (by decide) rfl rfl dX8_row_231 ?_
                                refine m_bipush h dX8_row_234 (by decide) ?_
                                refine m_aload_n h dX8_row_236 rfl rfl ?_
                                refine m_get h fo_X8_64 (by decide) rfl rfl dX8_row_237 ?_
                                show M X G 9 u 240 [some (.ref (G.2.1 25)), some (.int (iI kd)), some (.int (iI a)), some (.int (iI b)), some (.int (iI c)), some (.int (iI R)), none, none, some (.int (iI (k : Int)))] [.int (iI (u.1 25 1)), .int (iI 8), .ref (G.2.1 31)]
                                rw [e25r]
                                show M X G 9 u 240 [some (.ref (G.2.1 25)), some (.int (iI kd)), some (.int (iI a)), some (.int (iI b)), some (.int (iI c)), some (.int (iI R)), none, none, some (.int (iI (k : Int)))] [.int (iI (g_r g)), .int (iI 8), .ref (G.2.1 31)]
                                refine m_imul h dX8_row_240 ?_
                                refine m_iload h dX8_row_241 rfl ?_
                                refine m_iadd h dX8_row_243 ?_
                                refine m_iconst h dX8_row_244 ?_
                                refine m_iast h (ar_31 G) (by omega) (by omega) dX8_row_245 ?_
                                refine m_iinc h dX8_row_246 rfl (by decide) rfl ?_
                                refine m_goto h dX8_row_249 (tgt := 223) (by decide) ?_
                                refine ih (k + 1) _ (by omega) (by omega) (rwF_w hw (by omega)) (fun x x0 x1 => ?_)
                                by_cases e : x = (k : Int)
                                · subst e; rw [wI_s]
                                · rw [wI_n (by omega)]; exact hz x x0 (by omega)
                          exact lp223 100 0 _ (by omega) (by omega) (rwF_i (by rw [if_neg (by omega)]; rfl) (by rw [if_pos (by omega)]; exact (mN_nn (by have : isNm g b := (hgd.2.2.2.1 (by omega)).1; exact this.1)).symm) (by rw [if_neg (by omega)]; rfl)) (fun x q1 q2 => by omega)
                        · skip
                          refine m_iload h dX8_row_200 rfl ?_
                          refine m_goto h dX8_row_202 (tgt := 208) (by decide) ?_
                          refine m_iast h (ar_29 G) (by omega) (by omega) dX8_row_208 ?_
                          refine m_aload_n h dX8_row_209 rfl rfl ?_
                          refine m_get h fo_X8_23 (by decide) rfl rfl dX8_row_210 ?_
                          refine m_aload_n h dX8_row_213 rfl rfl ?_
                          refine m_get h fo_X8_64 (by decide) rfl rfl dX8_row_214 ?_
                          show M X G 9 (wI (wI (wI (wI v 28 (g_r g) kd) 29 (3 * (g_r g)) (-1000)) 29 ((3 * (g_r g)) + 1) b) 29 ((3 * (g_r g)) + 2) c) 217 [some (.ref (G.2.1 25)), some (.int (iI kd)), some (.int (iI a)), some (.int (iI b)), some (.int (iI c)), some (.int (iI R)), some (.int (iI ow)), some (.int (iI 1)), none] [.int (iI (v.1 25 1)), .ref (G.2.1 30)]
                          show M X G 9 (wI (wI (wI (wI v 28 (g_r g) kd) 29 (3 * (g_r g)) (-1000)) 29 ((3 * (g_r g)) + 1) b) 29 ((3 * (g_r g)) + 2) c) 217 [some (.ref (G.2.1 25)), some (.int (iI kd)), some (.int (iI a)), some (.int (iI b)), some (.int (iI c)), some (.int (iI R)), some (.int (iI ow)), some (.int (iI 1)), none] [.int (iI (v.1 25 1)), .ref (G.2.1 30)]
                          rw [s1]
                          show M X G 9 (wI (wI (wI (wI v 28 (g_r g) kd) 29 (3 * (g_r g)) (-1000)) 29 ((3 * (g_r g)) + 1) b) 29 ((3 * (g_r g)) + 2) c) 217 [some (.ref (G.2.1 25)), some (.int (iI kd)), some (.int (iI a)), some (.int (iI b)), some (.int (iI c)), some (.int (iI R)), some (.int (iI ow)), some (.int (iI 1)), none] [.int (iI (g_r g)), .ref (G.2.1 30)]
                          refine m_iload h dX8_row_217 rfl ?_
                          refine m_iast h (ar_30 G) (by omega) (by omega) dX8_row_219 ?_
                          refine m_iconst h dX8_row_220 ?_
                          refine m_istore h dX8_row_221 (by decide) rfl ?_
                          refine m_kill 6 ?_
                          refine m_kill 7 ?_
                          have lp223 : ∀ (fuel : Nat) (k : Nat) (u : Mem), k ≤ 8 → 20 - k < fuel → rwF v (g_r g) kd (if 1 ≤ NKs kd then a else -1) (if 2 ≤ NKs kd then b else -1) (if 3 ≤ NKs kd then c else -1) R u → (∀ x, 0 ≤ x → x < (k : Int) → u.1 31 (8 * g_r g + x) = 0) → M X G 9 u 223 [some (.ref (G.2.1 25)), some (.int (iI kd)), some (.int (iI a)), some (.int (iI b)), some (.int (iI c)), some (.int (iI R)), none, none, some (.int (iI (k : Int)))] [] := by
                            intro fuel
                            induction fuel with
                            | zero => intro k u hk8 hfu hw hz; exfalso; omega
                            | succ fuel ih =>
                              intro k u hk8 hfu hw hz
                              have e25r : u.1 25 1 = g_r g := by rw [hw.1 25 (by decide) (by decide) (by decide) (by decide)]; exact s1
                              refine m_iload h dX8_row_223 rfl ?_
                              refine m_bipush h dX8_row_225 (by decide) ?_
                              refine m_icmp_ge h dX8_row_227 (tgt := 252) (by decide) (by omega) (by omega) (fun c132 => ?_) (fun c132 => ?_)
                              · skip
                                have hz8 : ∀ x, 0 ≤ x → x < 8 → u.1 31 (8 * g_r g + x) = 0 := fun x q1 q2 => hz x q1 (by omega)
                                refine m_aload_n h dX8_row_252 rfl rfl ?_
                                refine m_dup h dX8_row_253 rfl ?_
                                refine m_get h fo_X8_64 (by decide) rfl rfl dX8_row_254 ?_
                                show M X G 9 u 257 [some (.ref (G.2.1 25)), some (.int (iI kd)), some (.int (iI a)), some (.int (iI b)), some (.int (iI c)), some (.int (iI R)), none, none, some (.int (iI (k : Int)))] [.int (iI (u.1 25 1)), .ref (G.2.1 25)]
                                rw [e25r]
                                show M X G 9 u 257 [some (.ref (G.2.1 25)), some (.int (iI kd)), some (.int (iI a)), some (.int (iI b)), some (.int (iI c)), some (.int (iI R)), none, none, some (.int (iI (k : Int)))] [.int (iI (g_r g)), .ref (G.2.1 25)]
                                refine m_iconst h dX8_row_257 ?_
                                refine m_iadd h dX8_row_258 ?_
                                refine m_putJ h fw_X8_64 (by decide) rfl (Nat.le_of_ble_eq_true rfl) (kz := 1) rfl rfl dX8_row_259 ?_
                                have hS1 := rwF_s ⟨s0, s1, s2, s3⟩ hg hr12 hw hz8
                                have hF1 : FrM v (wI u 25 1 ((g_r g) + 1)) := FrM.w ⟨fun i hi => hw.1 i (by omega) (by omega) (by omega) (by omega), hw.2.1⟩ (by omega)
                                refine m_aload_n h dX8_row_262 rfl rfl ?_
                                refine m_vV h (m_anew _ hG _ (by intro x x0 x1; exact hS1.2.2.1.z x x0 x1)) moX8_anew voX8_anew lk_X8_73 dX8_row_263 (by decide) (by decide) rfl rfl rfl (Nat.le_of_ble_eq_true rfl) (fun ua p135 => ?_)
                                have hRa := RM_an hS1 p135 t
                                have hFa := hF1.tr (ANW.m p135)
                                have hAn := p135
                                refine m_aload_n h dX8_row_266 rfl rfl ?_
                                refine m_get h fo_X8_64 (by decide) rfl rfl dX8_row_267 ?_
                                refine m_iconst h dX8_row_270 ?_
                                refine m_isub h dX8_row_271 ?_
                                refine m_iret h hR rfl dX8_row_272 ?_
                                refine Or.inr ⟨hgd, Or.inr ⟨hr12, ?_, hRa, hFa⟩⟩
                                have : ua.1 25 1 = g_r g + 1 := hRa.1.2.1
                                omega
                              · skip
                                refine m_aload_n h dX8_row_230 rfl rfl ?_
                                refine m_get h fo_X8_26 (by decide) rfl rfl dX8_row_231 ?_
                                refine m_bipush h dX8_row_234 (by decide) ?_
                                refine m_aload_n h dX8_row_236 rfl rfl ?_
                                refine m_get h fo_X8_64 (by decide) rfl rfl dX8_row_237 ?_
                                show M X G 9 u 240 [some (.ref (G.2.1 25)), some (.int (iI kd)), some (.int (iI a)), some (.int (iI b)), some (.int (iI c)), some (.int (iI R)), none, none, some (.int (iI (k : Int)))] [.int (iI (u.1 25 1)), .int (iI 8), .ref (G.2.1 31)]
                                rw [e25r]
                                show M X G 9 u 240 [some (.ref (G.2.1 25)), some (.int (iI kd)), some (.int (iI a)), some (.int (iI b)), some (.int (iI c)), some (.int (iI R)), none, none, some (.int (iI (k : Int)))] [.int (iI (g_r g)), .int (iI 8), .ref (G.2.1 31)]
                                refine m_imul h dX8_row_240 ?_
                                refine m_iload h dX8_row_241 rfl ?_
                                refine m_iadd h dX8_row_243 ?_
                                refine m_iconst h dX8_row_244 ?_
                                refine m_iast h (ar_31 G) (by omega) (by omega) dX8_row_245 ?_
                                refine m_iinc h dX8_row_246 rfl (by decide) rfl ?_
                                refine m_goto h dX8_row_249 (tgt := 223) (by decide) ?_
                                refine ih (k + 1) _ (by omega) (by omega) (rwF_w hw (by omega)) (fun x x0 x1 => ?_)
                                by_cases e : x = (k : Int)
                                · subst e; rw [wI_s]
                                · rw [wI_n (by omega)]; exact hz x x0 (by omega)
                          exact lp223 100 0 _ (by omega) (by omega) (rwF_i (by rw [if_neg (by omega)]; rfl) (by rw [if_pos (by omega)]; exact (mN_nn (by have : isNm g b := (hgd.2.2.2.1 (by omega)).1; exact this.1)).symm) (by rw [if_pos (by omega)]; exact (mN_nn (by have : isNm g c := (hgd.2.2.2.2 (by omega)).1; exact this.1)).symm)) (fun x q1 q2 => by omega)
                    · skip
                      refine m_iload_n h dX8_row_148 rfl rfl ?_
                      refine m_goto h dX8_row_149 (tgt := 155) (by decide) ?_
                      refine m_iast h (ar_29 G) (by omega) (by omega) dX8_row_155 ?_
                      refine m_aload_n h dX8_row_156 rfl rfl ?_
                      refine m_get h fo_X8_20 (by decide) rfl rfl dX8_row_157 ?_
                      refine m_iconst h dX8_row_160 ?_
                      refine m_aload_n h dX8_row_161 rfl rfl ?_
                      refine m_get h fo_X8_64 (by decide) rfl rfl dX8_row_162 ?_
                      show M X G 9 (wI (wI v 28 (g_r g) kd) 29 (3 * (g_r g)) a) 165 [some (.ref (G.2.1 25)), some (.int (iI kd)), some (.int (iI a)), some (.int (iI b)), some (.int (iI c)), some (.int (iI R)), some (.int (iI ow)), some (.int (iI 1)), none] [.int (iI (v.1 25 1)), .int (iI 3), .ref (G.2.1 29)]
                      show M X G 9 (wI (wI v 28 (g_r g) kd) 29 (3 * (g_r g)) a) 165 [some (.ref (G.2.1 25)), some (.int (iI kd)), some (.int (iI a)), some (.int (iI b)), some (.int (iI c)), some (.int (iI R)), some (.int (iI ow)), some (.int (iI 1)), none] [.int (iI (v.1 25 1)), .int (iI 3), .ref (G.2.1 29)]
                      rw [s1]
                      show M X G 9 (wI (wI v 28 (g_r g) kd) 29 (3 * (g_r g)) a) 165 [some (.ref (G.2.1 25)), some (.int (iI kd)), some (.int (iI a)), some (.int (iI b)), some (.int (iI c)), some (.int (iI R)), some (.int (iI ow)), some (.int (iI 1)), none] [.int (iI (g_r g)), .int (iI 3), .ref (G.2.1 29)]
                      refine m_imul h dX8_row_165 ?_
                      refine m_iconst h dX8_row_166 ?_
                      refine m_iadd h dX8_row_167 ?_
                      refine m_iload h dX8_row_168 rfl ?_
                      refine m_iconst h dX8_row_170 ?_
                      refine m_icmp_le h dX8_row_171 (tgt := 178) (by decide) (by omega) (by omega) (fun c136 => ?_) (fun c136 => ?_)
                      · skip
                        refine m_sipush h dX8_row_178 (by decide) ?_
                        refine m_iast h (ar_29 G) (by omega) (by omega) dX8_row_181 ?_
                        refine m_aload_n h dX8_row_182 rfl rfl ?_
                        refine m_get h fo_X8_20 (by decide) rfl rfl dX8_row_183 ?_
                        refine m_iconst h dX8_row_186 ?_
                        refine m_aload_n h dX8_row_187 rfl rfl ?_
                        refine m_get h fo_X8_64 (by decide) rfl rfl dX8_row_188 ?_
                        show M X G 9 (wI (wI (wI v 28 (g_r g) kd) 29 (3 * (g_r g)) a) 29 ((3 * (g_r g)) + 1) (-1000)) 191 [some (.ref (G.2.1 25)), some (.int (iI kd)), some (.int (iI a)), some (.int (iI b)), some (.int (iI c)), some (.int (iI R)), some (.int (iI ow)), some (.int (iI 1)), none] [.int (iI (v.1 25 1)), .int (iI 3), .ref (G.2.1 29)]
                        show M X G 9 (wI (wI (wI v 28 (g_r g) kd) 29 (3 * (g_r g)) a) 29 ((3 * (g_r g)) + 1) (-1000)) 191 [some (.ref (G.2.1 25)), some (.int (iI kd)), some (.int (iI a)), some (.int (iI b)), some (.int (iI c)), some (.int (iI R)), some (.int (iI ow)), some (.int (iI 1)), none] [.int (iI (v.1 25 1)), .int (iI 3), .ref (G.2.1 29)]
                        rw [s1]
                        show M X G 9 (wI (wI (wI v 28 (g_r g) kd) 29 (3 * (g_r g)) a) 29 ((3 * (g_r g)) + 1) (-1000)) 191 [some (.ref (G.2.1 25)), some (.int (iI kd)), some (.int (iI a)), some (.int (iI b)), some (.int (iI c)), some (.int (iI R)), some (.int (iI ow)), some (.int (iI 1)), none] [.int (iI (g_r g)), .int (iI 3), .ref (G.2.1 29)]
                        refine m_imul h dX8_row_191 ?_
                        refine m_iconst h dX8_row_192 ?_
                        refine m_iadd h dX8_row_193 ?_
                        refine m_iload h dX8_row_194 rfl ?_
                        refine m_iconst h dX8_row_196 ?_
                        refine m_icmp_le h dX8_row_197 (tgt := 205) (by decide) (by omega) (by omega) (fun c137 => ?_) (fun c137 => ?_)
                        · skip
                          refine m_sipush h dX8_row_205 (by decide) ?_
                          refine m_iast h (ar_29 G) (by omega) (by omega) dX8_row_208 ?_
                          refine m_aload_n h dX8_row_209 rfl rfl ?_
                          refine m_get h fo_X8_23 (by decide) rfl rfl dX8_row_210 ?_
                          refine m_aload_n h dX8_row_213 rfl rfl ?_
                          refine m_get h fo_X8_64 (by decide) rfl rfl dX8_row_214 ?_
                          show M X G 9 (wI (wI (wI (wI v 28 (g_r g) kd) 29 (3 * (g_r g)) a) 29 ((3 * (g_r g)) + 1) (-1000)) 29 ((3 * (g_r g)) + 2) (-1000)) 217 [some (.ref (G.2.1 25)), some (.int (iI kd)), some (.int (iI a)), some (.int (iI b)), some (.int (iI c)), some (.int (iI R)), some (.int (iI ow)), some (.int (iI 1)), none] [.int (iI (v.1 25 1)), .ref (G.2.1 30)]
                          show M X G 9 (wI (wI (wI (wI v 28 (g_r g) kd) 29 (3 * (g_r g)) a) 29 ((3 * (g_r g)) + 1) (-1000)) 29 ((3 * (g_r g)) + 2) (-1000)) 217 [some (.ref (G.2.1 25)), some (.int (iI kd)), some (.int (iI a)), some (.int (iI b)), some (.int (iI c)), some (.int (iI R)), some (.int (iI ow)), some (.int (iI 1)), none] [.int (iI (v.1 25 1)), .ref (G.2.1 30)]
                          rw [s1]
                          show M X G 9 (wI (wI (wI (wI v 28 (g_r g) kd) 29 (3 * (g_r g)) a) 29 ((3 * (g_r g)) + 1) (-1000)) 29 ((3 * (g_r g)) + 2) (-1000)) 217 [some (.ref (G.2.1 25)), some (.int (iI kd)), some (.int (iI a)), some (.int (iI b)), some (.int (iI c)), some (.int (iI R)), some (.int (iI ow)), some (.int (iI 1)), none] [.int (iI (g_r g)), .ref (G.2.1 30)]
                          refine m_iload h dX8_row_217 rfl ?_
                          refine m_iast h (ar_30 G) (by omega) (by omega) dX8_row_219 ?_
                          refine m_iconst h dX8_row_220 ?_
                          refine m_istore h dX8_row_221 (by decide) rfl ?_
                          refine m_kill 6 ?_
                          refine m_kill 7 ?_
                          have lp223 : ∀ (fuel : Nat) (k : Nat) (u : Mem), k ≤ 8 → 20 - k < fuel → rwF v (g_r g) kd (if 1 ≤ NKs kd then a else -1) (if 2 ≤ NKs kd then b else -1) (if 3 ≤ NKs kd then c else -1) R u → (∀ x, 0 ≤ x → x < (k : Int) → u.1 31 (8 * g_r g + x) = 0) → M X G 9 u 223 [some (.ref (G.2.1 25)), some (.int (iI kd)), some (.int (iI a)), some (.int (iI b)), some (.int (iI c)), some (.int (iI R)), none, none, some (.int (iI (k : Int)))] [] := by
                            intro fuel
                            induction fuel with
                            | zero => intro k u hk8 hfu hw hz; exfalso; omega
                            | succ fuel ih =>
                              intro k u hk8 hfu hw hz
                              have e25r : u.1 25 1 = g_r g := by rw [hw.1 25 (by decide) (by decide) (by decide) (by decide)]; exact s1
                              refine m_iload h dX8_row_223 rfl ?_
                              refine m_bipush h dX8_row_225 (by decide) ?_
                              refine m_icmp_ge h dX8_row_227 (tgt := 252) (by decide) (by omega) (by omega) (fun c138 => ?_) (fun c138 => ?_)
                              · skip
                                have hz8 : ∀ x, 0 ≤ x → x < 8 → u.1 31 (8 * g_r g + x) = 0 := fun x q1 q2 => hz x q1 (by omega)
                                refine m_aload_n h dX8_row_252 rfl rfl ?_
                                refine m_dup h dX8_row_253 rfl ?_
                                refine m_get h fo_X8_64 (by decide) rfl rfl dX8_row_254 ?_
                                show M X G 9 u 257 [some (.ref (G.2.1 25)), some (.int (iI kd)), some (.int (iI a)), some (.int (iI b)), some (.int (iI c)), some (.int (iI R)), none, none, some (.int (iI (k : Int)))] [.int (iI (u.1 25 1)), .ref (G.2.1 25)]
                                rw [e25r]
                                show M X G 9 u 257 [some (.ref (G.2.1 25)), some (.int (iI kd)), some (.int (iI a)), some (.int (iI b)), some (.int (iI c)), some (.int (iI R)), none, none, some (.int (iI (k : Int)))] [.int (iI (g_r g)), .ref (G.2.1 25)]
                                refine m_iconst h dX8_row_257 ?_
                                refine m_iadd h dX8_row_258 ?_
                                refine m_putJ h fw_X8_64 (by decide) rfl (Nat.le_of_ble_eq_true rfl) (kz := 1) rfl rfl dX8_row_259 ?_
                                have hS1 := rwF_s ⟨s0, s1, s2, s3⟩ hg hr12 hw hz8
                                have hF1 : FrM v (wI u 25 1 ((g_r g) + 1)) := FrM.w ⟨fun i hi => hw.1 i (by omega) (by omega) (by omega) (by omega), hw.2.1⟩ (by omega)
                                refine m_aload_n h dX8_row_262 rfl rfl ?_
                                refine m_vV h (m_anew _ hG _ (by intro x x0 x1; exact hS1.2.2.1.z x x0 x1)) moX8_anew voX8_anew lk_X8_73 dX8_row_263 (by decide) (by decide) rfl rfl rfl (Nat.le_of_ble_eq_true rfl) (fun ua p141 => ?_)
                                have hRa := RM_an hS1 p141 t
                                have hFa := hF1.tr (ANW.m p141)
                                have hAn := p141
                                refine m_aload_n h dX8_row_266 rfl rfl ?_
                                refine m_get h fo_X8_64 (by decide) rfl rfl dX8_row_267 ?_
                                refine m_iconst h dX8_row_270 ?_
                                refine m_isub h dX8_row_271 ?_
                                refine m_iret h hR rfl dX8_row_272 ?_
                                refine Or.inr ⟨hgd, Or.inr ⟨hr12, ?_, hRa, hFa⟩⟩
                                have : ua.1 25 1 = g_r g + 1 := hRa.1.2.1
                                omega
                              · skip
                                refine m_aload_n h dX8_row_230 rfl rfl ?_
                                refine m_get h fo_X8_26 (by decide) rfl rfl dX8_row_231 ?_
                                refine m_bipush h dX8_row_234 (by decide) ?_
                                refine m_aload_n h dX8_row_236 rfl rfl ?_
                                refine m_get h fo_X8_64 (by decide) rfl rfl dX8_row_237 ?_
                                show M X G 9 u 240 [some (.ref (G.2.1 25)), some (.int (iI kd)), some (.int (iI a)), some (.int (iI b)), some (.int (iI c)), some (.int (iI R)), none, none, some (.int (iI (k : Int)))] [.int (iI (u.1 25 1)), .int (iI 8), .ref (G.2.1 31)]
                                rw [e25r]
                                show M X G 9 u 240 [some (.ref (G.2.1 25)), some (.int (iI kd)), some (.int (iI a)), some (.int (iI b)), some (.int (iI c)), some (.int (iI R)), none, none, some (.int (iI (k : Int)))] [.int (iI (g_r g)), .int (iI 8), .ref (G.2.1 31)]
                                refine m_imul h dX8_row_240 ?_
                                refine m_iload h dX8_row_241 rfl ?_
                                refine m_iadd h dX8_row_243 ?_
                                refine m_iconst h dX8_row_244 ?_
                                refine m_iast h (ar_31 G) (by omega) (by omega) dX8_row_245 ?_
                                refine m_iinc h dX8_row_246 rfl (by decide) rfl ?_
                                refine m_goto h dX8_row_249 (tgt := 223) (by decide) ?_
                                refine ih (k + 1) _ (by omega) (by omega) (rwF_w hw (by omega)) (fun x x0 x1 => ?_)
                                by_cases e : x = (k : Int)
                                · subst e; rw [wI_s]
                                · rw [wI_n (by omega)]; exact hz x x0 (by omega)
                          exact lp223 100 0 _ (by omega) (by omega) (rwF_i (by rw [if_pos (by omega)]; exact (mN_nn (by have : isNm g a := hgd.2.2.1 (by omega); exact this.1)).symm) (by rw [if_neg (by omega)]; rfl) (by rw [if_neg (by omega)]; rfl)) (fun x q1 q2 => by omega)
                        · skip
                          refine m_iload h dX8_row_200 rfl ?_
                          refine m_goto h dX8_row_202 (tgt := 208) (by decide) ?_
                          refine m_iast h (ar_29 G) (by omega) (by omega) dX8_row_208 ?_
                          refine m_aload_n h dX8_row_209 rfl rfl ?_
                          refine m_get h fo_X8_23 (by decide) rfl rfl dX8_row_210 ?_
                          refine m_aload_n h dX8_row_213 rfl rfl ?_
                          refine m_get h fo_X8_64 (by decide) rfl rfl dX8_row_214 ?_
                          show M X G 9 (wI (wI (wI (wI v 28 (g_r g) kd) 29 (3 * (g_r g)) a) 29 ((3 * (g_r g)) + 1) (-1000)) 29 ((3 * (g_r g)) + 2) c) 217 [some (.ref (G.2.1 25)), some (.int (iI kd)), some (.int (iI a)), some (.int (iI b)), some (.int (iI c)), some (.int (iI R)), some (.int (iI ow)), some (.int (iI 1)), none] [.int (iI (v.1 25 1)), .ref (G.2.1 30)]
                          show M X G 9 (wI (wI (wI (wI v 28 (g_r g) kd) 29 (3 * (g_r g)) a) 29 ((3 * (g_r g)) + 1) (-1000)) 29 ((3 * (g_r g)) + 2) c) 217 [some (.ref (G.2.1 25)), some (.int (iI kd)), some (.int (iI a)), some (.int (iI b)), some (.int (iI c)), some (.int (iI R)), some (.int (iI ow)), some (.int (iI 1)), none] [.int (iI (v.1 25 1)), .ref (G.2.1 30)]
                          rw [s1]
                          show M X G 9 (wI (wI (wI (wI v 28 (g_r g) kd) 29 (3 * (g_r g)) a) 29 ((3 * (g_r g)) + 1) (-1000)) 29 ((3 * (g_r g)) + 2) c) 217 [some (.ref (G.2.1 25)), some (.int (iI kd)), some (.int (iI a)), some (.int (iI b)), some (.int (iI c)), some (.int (iI R)), some (.int (iI ow)), some (.int (iI 1)), none] [.int (iI (g_r g)), .ref (G.2.1 30)]
                          refine m_iload h dX8_row_217 rfl ?_
                          refine m_iast h (ar_30 G) (by omega) (by omega) dX8_row_219 ?_
                          refine m_iconst h dX8_row_220 ?_
                          refine m_istore h dX8_row_221 (by decide) rfl ?_
                          refine m_kill 6 ?_
                          refine m_kill 7 ?_
                          have lp223 : ∀ (fuel : Nat) (k : Nat) (u : Mem), k ≤ 8 → 20 - k < fuel → rwF v (g_r g) kd (if 1 ≤ NKs kd then a else -1) (if 2 ≤ NKs kd then b else -1) (if 3 ≤ NKs kd then c else -1) R u → (∀ x, 0 ≤ x → x < (k : Int) → u.1 31 (8 * g_r g + x) = 0) → M X G 9 u 223 [some (.ref (G.2.1 25)), some (.int (iI kd)), some (.int (iI a)), some (.int (iI b)), some (.int (iI c)), some (.int (iI R)), none, none, some (.int (iI (k : Int)))] [] := by
                            intro fuel
                            induction fuel with
                            | zero => intro k u hk8 hfu hw hz; exfalso; omega
                            | succ fuel ih =>
                              intro k u hk8 hfu hw hz
                              have e25r : u.1 25 1 = g_r g := by rw [hw.1 25 (by decide) (by decide) (by decide) (by decide)]; exact s1
                              refine m_iload h dX8_row_223 rfl ?_
                              refine m_bipush h dX8_row_225 (by decide) ?_
                              refine m_icmp_ge h dX8_row_227 (tgt := 252) (by decide) (by omega) (by omega) (fun c142 => ?_) (fun c142 => ?_)
                              · skip
                                have hz8 : ∀ x, 0 ≤ x → x < 8 → u.1 31 (8 * g_r g + x) = 0 := fun x q1 q2 => hz x q1 (by omega)
                                refine m_aload_n h dX8_row_252 rfl rfl ?_
                                refine m_dup h dX8_row_253 rfl ?_
                                refine m_get h fo_X8_64 (by decide) rfl rfl dX8_row_254 ?_
                                show M X G 9 u 257 [some (.ref (G.2.1 25)), some (.int (iI kd)), some (.int (iI a)), some (.int (iI b)), some (.int (iI c)), some (.int (iI R)), none, none, some (.int (iI (k : Int)))] [.int (iI (u.1 25 1)), .ref (G.2.1 25)]
                                rw [e25r]
                                show M X G 9 u 257 [some (.ref (G.2.1 25)), some (.int (iI kd)), some (.int (iI a)), some (.int (iI b)), some (.int (iI c)), some (.int (iI R)), none, none, some (.int (iI (k : Int)))] [.int (iI (g_r g)), .ref (G.2.1 25)]
                                refine m_iconst h dX8_row_257 ?_
                                refine m_iadd h dX8_row_258 ?_
                                refine m_putJ h fw_X8_64 (by decide) rfl (Nat.le_of_ble_eq_true rfl) (kz := 1) rfl rfl dX8_row_259 ?_
                                have hS1 := rwF_s ⟨s0, s1, s2, s3⟩ hg hr12 hw hz8
                                have hF1 : FrM v (wI u 25 1 ((g_r g) + 1)) := FrM.w ⟨fun i hi => hw.1 i (by omega) (by omega) (by omega) (by omega), hw.2.1⟩ (by omega)
                                refine m_aload_n h dX8_row_262 rfl rfl ?_
                                refine m_vV h (m_anew _ hG _ (by intro x x0 x1; exact hS1.2.2.1.z x x0 x1)) moX8_anew voX8_anew lk_X8_73 dX8_row_263 (by decide) (by decide) rfl rfl rfl (Nat.le_of_ble_eq_true rfl) (fun ua p145 => ?_)
                                have hRa := RM_an hS1 p145 t
                                have hFa := hF1.tr (ANW.m p145)
                                have hAn := p145
                                refine m_aload_n h dX8_row_266 rfl rfl ?_
                                refine m_get h fo_X8_64 (by decide) rfl rfl dX8_row_267 ?_
                                refine m_iconst h dX8_row_270 ?_
                                refine m_isub h dX8_row_271 ?_
                                refine m_iret h hR rfl dX8_row_272 ?_
                                refine Or.inr ⟨hgd, Or.inr ⟨hr12, ?_, hRa, hFa⟩⟩
                                have : ua.1 25 1 = g_r g + 1 := hRa.1.2.1
                                omega
                              · skip
                                refine m_aload_n h dX8_row_230 rfl rfl ?_
                                refine m_get h fo_X8_26 (by decide) rfl rfl dX8_row_231 ?_
                                refine m_bipush h dX8_row_234 (by decide) ?_
                                refine m_aload_n h dX8_row_236 rfl rfl ?_
                                refine m_get h fo_X8_64 (by decide) rfl rfl dX8_row_237 ?_
                                show M X G 9 u 240 [some (.ref (G.2.1 25)), some (.int (iI kd)), some (.int (iI a)), some (.int (iI b)), some (.int (iI c)), some (.int (iI R)), none, none, some (.int (iI (k : Int)))] [.int (iI (u.1 25 1)), .int (iI 8), .ref (G.2.1 31)]
                                rw [e25r]
                                show M X G 9 u 240 [some (.ref (G.2.1 25)), some (.int (iI kd)), some (.int (iI a)), some (.int (iI b)), some (.int (iI c)), some (.int (iI R)), none, none, some (.int (iI (k : Int)))] [.int (iI (g_r g)), .int (iI 8), .ref (G.2.1 31)]
                                refine m_imul h dX8_row_240 ?_
                                refine m_iload h dX8_row_241 rfl ?_
                                refine m_iadd h dX8_row_243 ?_
                                refine m_iconst h dX8_row_244 ?_
                                refine m_iast h (ar_31 G) (by omega) (by omega) dX8_row_245 ?_
                                refine m_iinc h dX8_row_246 rfl (by decide) rfl ?_
                                refine m_goto h dX8_row_249 (tgt := 223) (by decide) ?_
                                refine ih (k + 1) _ (by omega) (by omega) (rwF_w hw (by omega)) (fun x x0 x1 => ?_)
                                by_cases e : x = (k : Int)
                                · subst e; rw [wI_s]
                                · rw [wI_n (by omega)]; exact hz x x0 (by omega)
                          exact lp223 100 0 _ (by omega) (by omega) (rwF_i (by rw [if_pos (by omega)]; exact (mN_nn (by have : isNm g a := hgd.2.2.1 (by omega); exact this.1)).symm) (by rw [if_neg (by omega)]; rfl) (by rw [if_pos (by omega)]; exact (mN_nn (by have : isNm g c := (hgd.2.2.2.2 (by omega)).1; exact this.1)).symm)) (fun x q1 q2 => by omega)
                      · skip
                        refine m_iload_n h dX8_row_174 rfl rfl ?_
                        refine m_goto h dX8_row_175 (tgt := 181) (by decide) ?_
                        refine m_iast h (ar_29 G) (by omega) (by omega) dX8_row_181 ?_
                        refine m_aload_n h dX8_row_182 rfl rfl ?_
                        refine m_get h fo_X8_20 (by decide) rfl rfl dX8_row_183 ?_
                        refine m_iconst h dX8_row_186 ?_
                        refine m_aload_n h dX8_row_187 rfl rfl ?_
                        refine m_get h fo_X8_64 (by decide) rfl rfl dX8_row_188 ?_
                        show M X G 9 (wI (wI (wI v 28 (g_r g) kd) 29 (3 * (g_r g)) a) 29 ((3 * (g_r g)) + 1) b) 191 [some (.ref (G.2.1 25)), some (.int (iI kd)), some (.int (iI a)), some (.int (iI b)), some (.int (iI c)), some (.int (iI R)), some (.int (iI ow)), some (.int (iI 1)), none] [.int (iI (v.1 25 1)), .int (iI 3), .ref (G.2.1 29)]
                        show M X G 9 (wI (wI (wI v 28 (g_r g) kd) 29 (3 * (g_r g)) a) 29 ((3 * (g_r g)) + 1) b) 191 [some (.ref (G.2.1 25)), some (.int (iI kd)), some (.int (iI a)), some (.int (iI b)), some (.int (iI c)), some (.int (iI R)), some (.int (iI ow)), some (.int (iI 1)), none] [.int (iI (v.1 25 1)), .int (iI 3), .ref (G.2.1 29)]
                        rw [s1]
                        show M X G 9 (wI (wI (wI v 28 (g_r g) kd) 29 (3 * (g_r g)) a) 29 ((3 * (g_r g)) + 1) b) 191 [some (.ref (G.2.1 25)), some (.int (iI kd)), some (.int (iI a)), some (.int (iI b)), some (.int (iI c)), some (.int (iI R)), some (.int (iI ow)), some (.int (iI 1)), none] [.int (iI (g_r g)), .int (iI 3), .ref (G.2.1 29)]
                        refine m_imul h dX8_row_191 ?_
                        refine m_iconst h dX8_row_192 ?_
                        refine m_iadd h dX8_row_193 ?_
                        refine m_iload h dX8_row_194 rfl ?_
                        refine m_iconst h dX8_row_196 ?_
                        refine m_icmp_le h dX8_row_197 (tgt := 205) (by decide) (by omega) (by omega) (fun c146 => ?_) (fun c146 => ?_)
                        · skip
                          refine m_sipush h dX8_row_205 (by decide) ?_
                          refine m_iast h (ar_29 G) (by omega) (by omega) dX8_row_208 ?_
                          refine m_aload_n h dX8_row_209 rfl rfl ?_
                          refine m_get h fo_X8_23 (by decide) rfl rfl dX8_row_210 ?_
                          refine m_aload_n h dX8_row_213 rfl rfl ?_
                          refine m_get h fo_X8_64 (by decide) rfl rfl dX8_row_214 ?_
                          show M X G 9 (wI (wI (wI (wI v 28 (g_r g) kd) 29 (3 * (g_r g)) a) 29 ((3 * (g_r g)) + 1) b) 29 ((3 * (g_r g)) + 2) (-1000)) 217 [some (.ref (G.2.1 25)), some (.int (iI kd)), some (.int (iI a)), some (.int (iI b)), some (.int (iI c)), some (.int (iI R)), some (.int (iI ow)), some (.int (iI 1)), none] [.int (iI (v.1 25 1)), .ref (G.2.1 30)]
                          show M X G 9 (wI (wI (wI (wI v 28 (g_r g) kd) 29 (3 * (g_r g)) a) 29 ((3 * (g_r g)) + 1) b) 29 ((3 * (g_r g)) + 2) (-1000)) 217 [some (.ref (G.2.1 25)), some (.int (iI kd)), some (.int (iI a)), some (.int (iI b)), some (.int (iI c)), some (.int (iI R)), some (.int (iI ow)), some (.int (iI 1)), none] [.int (iI (v.1 25 1)), .ref (G.2.1 30)]
                          rw [s1]
                          show M X G 9 (wI (wI (wI (wI v 28 (g_r g) kd) 29 (3 * (g_r g)) a) 29 ((3 * (g_r g)) + 1) b) 29 ((3 * (g_r g)) + 2) (-1000)) 217 [some (.ref (G.2.1 25)), some (.int (iI kd)), some (.int (iI a)), some (.int (iI b)), some (.int (iI c)), some (.int (iI R)), some (.int (iI ow)), some (.int (iI 1)), none] [.int (iI (g_r g)), .ref (G.2.1 30)]
                          refine m_iload h dX8_row_217 rfl ?_
                          refine m_iast h (ar_30 G) (by omega) (by omega) dX8_row_219 ?_
                          refine m_iconst h dX8_row_220 ?_
                          refine m_istore h dX8_row_221 (by decide) rfl ?_
                          refine m_kill 6 ?_
                          refine m_kill 7 ?_
                          have lp223 : ∀ (fuel : Nat) (k : Nat) (u : Mem), k ≤ 8 → 20 - k < fuel → rwF v (g_r g) kd (if 1 ≤ NKs kd then a else -1) (if 2 ≤ NKs kd then b else -1) (if 3 ≤ NKs kd then c else -1) R u → (∀ x, 0 ≤ x → x < (k : Int) → u.1 31 (8 * g_r g + x) = 0) → M X G 9 u 223 [some (.ref (G.2.1 25)), some (.int (iI kd)), some (.int (iI a)), some (.int (iI b)), some (.int (iI c)), some (.int (iI R)), none, none, some (.int (iI (k : Int)))] [] := by
                            intro fuel
                            induction fuel with
                            | zero => intro k u hk8 hfu hw hz; exfalso; omega
                            | succ fuel ih =>
                              intro k u hk8 hfu hw hz
                              have e25r : u.1 25 1 = g_r g := by rw [hw.1 25 (by decide) (by decide) (by decide) (by decide)]; exact s1
                              refine m_iload h dX8_row_223 rfl ?_
                              refine m_bipush h dX8_row_225 (by decide) ?_
                              refine m_icmp_ge h dX8_row_227 (tgt := 252) (by decide) (by omega) (by omega) (fun c147 => ?_) (fun c147 => ?_)
                              · skip
                                have hz8 : ∀ x, 0 ≤ x → x < 8 → u.1 31 (8 * g_r g + x) = 0 := fun x q1 q2 => hz x q1 (by omega)
                                refine m_aload_n h dX8_row_252 rfl rfl ?_
                                refine m_dup h dX8_row_253 rfl ?_
                                refine m_get h fo_X8_64 (by decide) rfl rfl dX8_row_254 ?_
                                show M X G 9 u 257 [some (.ref (G.2.1 25)), some (.int (iI kd)), some (.int (iI a)), some (.int (iI b)), some (.int (iI c)), some (.int (iI R)), none, none, some (.int (iI (k : Int)))] [.int (iI (u.1 25 1)), .ref (G.2.1 25)]
                                rw [e25r]
                                show M X G 9 u 257 [some (.ref (G.2.1 25)), some (.int (iI kd)), some (.int (iI a)), some (.int (iI b)), some (.int (iI c)), some (.int (iI R)), none, none, some (.int (iI (k : Int)))] [.int (iI (g_r g)), .ref (G.2.1 25)]
                                refine m_iconst h dX8_row_257 ?_
                                refine m_iadd h dX8_row_258 ?_
                                refine m_putJ h fw_X8_64 (by decide) rfl (Nat.le_of_ble_eq_true rfl) (kz := 1) rfl rfl dX8_row_259 ?_
                                have hS1 := rwF_s ⟨s0, s1, s2, s3⟩ hg hr12 hw hz8
                                have hF1 : FrM v (wI u 25 1 ((g_r g) + 1)) := FrM.w ⟨fun i hi => hw.1 i (by omega) (by omega) (by omega) (by omega), hw.2.1⟩ (by omega)
                                refine m_aload_n h dX8_row_262 rfl rfl ?_
                                refine m_vV h (m_anew _ hG _ (by intro x x0 x1; exact hS1.2.2.1.z x x0 x1)) moX8_anew voX8_anew lk_X8_73 dX8_row_263 (by decide) (by decide) rfl rfl rfl (Nat.le_of_ble_eq_true rfl) (fun ua p150 => ?_)
                                have hRa := RM_an hS1 p150 t
                                have hFa := hF1.tr (ANW.m p150)
                                have hAn := p150
                                refine m_aload_n h dX8_row_266 rfl rfl ?_
                                refine m_get h fo_X8_64 (by decide) rfl rfl dX8_row_267 ?_
                                refine m_iconst h dX8_row_270 ?_
                                refine m_isub h dX8_row_271 ?_
                                refine m_iret h hR rfl dX8_row_272 ?_
                                refine Or.inr ⟨hgd, Or.inr ⟨hr12, ?_, hRa, hFa⟩⟩
                                have : ua.1 25 1 = g_r g + 1 := hRa.1.2.1
                                omega
                              · skip
                                refine m_aload_n h dX8_row_230 rfl rfl ?_
                                refine m_get h fo_X8_26 (by decide) rfl rfl dX8_row_231 ?_
                                refine m_bipush h dX8_row_234 (by decide) ?_
                                refine m_aload_n h dX8_row_236 rfl rfl ?_
                                refine m_get h fo_X8_64 (by decide) rfl rfl dX8_row_237 ?_
                                show M X G 9 u 240 [some (.ref (G.2.1 25)), some (.int (iI kd)), some (.int (iI a)), some (.int (iI b)), some (.int (iI c)), some (.int (iI R)), none, none, some (.int (iI (k : Int)))] [.int (iI (u.1 25 1)), .int (iI 8), .ref (G.2.1 31)]
                                rw [e25r]
                                show M X G 9 u 240 [some (.ref (G.2.1 25)), some (.int (iI kd)), some (.int (iI a)), some (.int (iI b)), some (.int (iI c)), some (.int (iI R)), none, none, some (.int (iI (k : Int)))] [.int (iI (g_r g)), .int (iI 8), .ref (G.2.1 31)]
                                refine m_imul h dX8_row_240 ?_
                                refine m_iload h dX8_row_241 rfl ?_
                                refine m_iadd h dX8_row_243 ?_
                                refine m_iconst h dX8_row_244 ?_
                                refine m_iast h (ar_31 G) (by omega) (by omega) dX8_row_245 ?_
                                refine m_iinc h dX8_row_246 rfl (by decide) rfl ?_
                                refine m_goto h dX8_row_249 (tgt := 223) (by decide) ?_
                                refine ih (k + 1) _ (by omega) (by omega) (rwF_w hw (by omega)) (fun x x0 x1 => ?_)
                                by_cases e : x = (k : Int)
                                · subst e; rw [wI_s]
                                · rw [wI_n (by omega)]; exact hz x x0 (by omega)
                          exact lp223 100 0 _ (by omega) (by omega) (rwF_i (by rw [if_pos (by omega)]; exact (mN_nn (by have : isNm g a := hgd.2.2.1 (by omega); exact this.1)).symm) (by rw [if_pos (by omega)]; exact (mN_nn (by have : isNm g b := (hgd.2.2.2.1 (by omega)).1; exact this.1)).symm) (by rw [if_neg (by omega)]; rfl)) (fun x q1 q2 => by omega)
                        · skip
                          refine m_iload h dX8_row_200 rfl ?_
                          refine m_goto h dX8_row_202 (tgt := 208) (by decide) ?_
                          refine m_iast h (ar_29 G) (by omega) (by omega) dX8_row_208 ?_
                          refine m_aload_n h dX8_row_209 rfl rfl ?_
                          refine m_get h fo_X8_23 (by decide) rfl rfl dX8_row_210 ?_
                          refine m_aload_n h dX8_row_213 rfl rfl ?_
                          refine m_get h fo_X8_64 (by decide) rfl rfl dX8_row_214 ?_
                          show M X G 9 (wI (wI (wI (wI v 28 (g_r g) kd) 29 (3 * (g_r g)) a) 29 ((3 * (g_r g)) + 1) b) 29 ((3 * (g_r g)) + 2) c) 217 [some (.ref (G.2.1 25)), some (.int (iI kd)), some (.int (iI a)), some (.int (iI b)), some (.int (iI c)), some (.int (iI R)), some (.int (iI ow)), some (.int (iI 1)), none] [.int (iI (v.1 25 1)), .ref (G.2.1 30)]
                          show M X G 9 (wI (wI (wI (wI v 28 (g_r g) kd) 29 (3 * (g_r g)) a) 29 ((3 * (g_r g)) + 1) b) 29 ((3 * (g_r g)) + 2) c) 217 [some (.ref (G.2.1 25)), some (.int (iI kd)), some (.int (iI a)), some (.int (iI b)), some (.int (iI c)), some (.int (iI R)), some (.int (iI ow)), some (.int (iI 1)), none] [.int (iI (v.1 25 1)), .ref (G.2.1 30)]
                          rw [s1]
                          show M X G 9 (wI (wI (wI (wI v 28 (g_r g) kd) 29 (3 * (g_r g)) a) 29 ((3 * (g_r g)) + 1) b) 29 ((3 * (g_r g)) + 2) c) 217 [some (.ref (G.2.1 25)), some (.int (iI kd)), some (.int (iI a)), some (.int (iI b)), some (.int (iI c)), some (.int (iI R)), some (.int (iI ow)), some (.int (iI 1)), none] [.int (iI (g_r g)), .ref (G.2.1 30)]
                          refine m_iload h dX8_row_217 rfl ?_
                          refine m_iast h (ar_30 G) (by omega) (by omega) dX8_row_219 ?_
                          refine m_iconst h dX8_row_220 ?_
                          refine m_istore h dX8_row_221 (by decide) rfl ?_
                          refine m_kill 6 ?_
                          refine m_kill 7 ?_
                          have lp223 : ∀ (fuel : Nat) (k : Nat) (u : Mem), k ≤ 8 → 20 - k < fuel → rwF v (g_r g) kd (if 1 ≤ NKs kd then a else -1) (if 2 ≤ NKs kd then b else -1) (if 3 ≤ NKs kd then c else -1) R u → (∀ x, 0 ≤ x → x < (k : Int) → u.1 31 (8 * g_r g + x) = 0) → M X G 9 u 223 [some (.ref (G.2.1 25)), some (.int (iI kd)), some (.int (iI a)), some (.int (iI b)), some (.int (iI c)), some (.int (iI R)), none, none, some (.int (iI (k : Int)))] [] := by
                            intro fuel
                            induction fuel with
                            | zero => intro k u hk8 hfu hw hz; exfalso; omega
                            | succ fuel ih =>
                              intro k u hk8 hfu hw hz
                              have e25r : u.1 25 1 = g_r g := by rw [hw.1 25 (by decide) (by decide) (by decide) (by decide)]; exact s1
                              refine m_iload h dX8_row_223 rfl ?_
                              refine m_bipush h dX8_row_225 (by decide) ?_
                              refine m_icmp_ge h dX8_row_227 (tgt := 252) (by decide) (by omega) (by omega) (fun c151 => ?_) (fun c151 => ?_)
                              · skip
                                have hz8 : ∀ x, 0 ≤ x → x < 8 → u.1 31 (8 * g_r g + x) = 0 := fun x q1 q2 => hz x q1 (by omega)
                                refine m_aload_n h dX8_row_252 rfl rfl ?_
                                refine m_dup h dX8_row_253 rfl ?_
                                refine m_get h fo_X8_64 (by decide) rfl rfl dX8_row_254 ?_
                                show M X G 9 u 257 [some (.ref (G.2.1 25)), some (.int (iI kd)), some (.int (iI a)), some (.int (iI b)), some (.int (iI c)), some (.int (iI R)), none, none, some (.int (iI (k : Int)))] [.int (iI (u.1 25 1)), .ref (G.2.1 25)]
                                rw [e25r]
                                show M X G 9 u 257 [some (.ref (G.2.1 25)), some (.int (iI kd)), some (.int (iI a)), some (.int (iI b)), some (.int (iI c)), some (.int (iI R)), none, none, some (.int (iI (k : Int)))] [.int (iI (g_r g)), .ref (G.2.1 25)]
                                refine m_iconst h dX8_row_257 ?_
                                refine m_iadd h dX8_row_258 ?_
                                refine m_putJ h fw_X8_64 (by decide) rfl (Nat.le_of_ble_eq_true rfl) (kz := 1) rfl rfl dX8_row_259 ?_
                                have hS1 := rwF_s ⟨s0, s1, s2, s3⟩ hg hr12 hw hz8
                                have hF1 : FrM v (wI u 25 1 ((g_r g) + 1)) := FrM.w ⟨fun i hi => hw.1 i (by omega) (by omega) (by omega) (by omega), hw.2.1⟩ (by omega)
                                refine m_aload_n h dX8_row_262 rfl rfl ?_
                                refine m_vV h (m_anew _ hG _ (by intro x x0 x1; exact hS1.2.2.1.z x x0 x1)) moX8_anew voX8_anew lk_X8_73 dX8_row_263 (by decide) (by decide) rfl rfl rfl (Nat.le_of_ble_eq_true rfl) (fun ua p154 => ?_)
                                have hRa := RM_an hS1 p154 t
                                have hFa := hF1.tr (ANW.m p154)
                                have hAn := p154
                                refine m_aload_n h dX8_row_266 rfl rfl ?_
                                refine m_get h fo_X8_64 (by decide) rfl rfl dX8_row_267 ?_
                                refine m_iconst h dX8_row_270 ?_
                                refine m_isub h dX8_row_271 ?_
                                refine m_iret h hR rfl dX8_row_272 ?_
                                refine Or.inr ⟨hgd, Or.inr ⟨hr12, ?_, hRa, hFa⟩⟩
                                have : ua.1 25 1 = g_r g + 1 := hRa.1.2.1
                                omega
                              · skip
                                refine m_aload_n h dX8_row_230 rfl rfl ?_
                                refine m_get h fo_X8_26 (by decide) rfl rfl dX8_row_231 ?_
                                refine m_bipush h dX8_row_234 (by decide) ?_
                                refine m_aload_n h dX8_row_236 rfl rfl ?_
                                refine m_get h fo_X8_64 (by decide) rfl rfl dX8_row_237 ?_
                                show M X G 9 u 240 [some (.ref (G.2.1 25)), some (.int (iI kd)), some (.int (iI a)), some (.int (iI b)), some (.int (iI c)), some (.int (iI R)), none, none, some (.int (iI (k : Int)))] [.int (iI (u.1 25 1)), .int (iI 8), .ref (G.2.1 31)]
                                rw [e25r]
                                show M X G 9 u 240 [some (.ref (G.2.1 25)), some (.int (iI kd)), some (.int (iI a)), some (.int (iI b)), some (.int (iI c)), some (.int (iI R)), none, none, some (.int (iI (k : Int)))] [.int (iI (g_r g)), .int (iI 8), .ref (G.2.1 31)]
                                refine m_imul h dX8_row_240 ?_
                                refine m_iload h dX8_row_241 rfl ?_
                                refine m_iadd h dX8_row_243 ?_
                                refine m_iconst h dX8_row_244 ?_
                                refine m_iast h (ar_31 G) (by omega) (by omega) dX8_row_245 ?_
                                refine m_iinc h dX8_row_246 rfl (by decide) rfl ?_
                                refine m_goto h dX8_row_249 (tgt := 223) (by decide) ?_
                                refine ih (k + 1) _ (by omega) (by omega) (rwF_w hw (by omega)) (fun x x0 x1 => ?_)
                                by_cases e : x = (k : Int)
                                · subst e; rw [wI_s]
                                · rw [wI_n (by omega)]; exact hz x x0 (by omega)
                          exact lp223 100 0 _ (by omega) (by omega) (rwF_i (by rw [if_pos (by omega)]; exact (mN_nn (by have : isNm g a := hgd.2.2.1 (by omega); exact this.1)).symm) (by rw [if_pos (by omega)]; exact (mN_nn (by have : isNm g b := (hgd.2.2.2.1 (by omega)).1; exact this.1)).symm) (by rw [if_pos (by omega)]; exact (mN_nn (by have : isNm g c := (hgd.2.2.2.2 (by omega)).1; exact this.1)).symm)) (fun x q1 q2 => by omega)
                  · skip
                    refine m_sipush h dX8_row_119 (by decide) ?_
                    refine m_iret h hR rfl dX8_row_122 ?_
                    exact Or.inr ⟨⟨h1, h2, hgd3⟩, Or.inl ⟨by omega, rfl, rfl⟩⟩
                · skip
                  omega
              · skip
                refine m_aload_n h dX8_row_73 rfl rfl ?_
                refine m_iload h dX8_row_74 rfl ?_
                refine m_vI h (m_isName _ hG _ c hc (by omega)) moX8_isName voX8_isName lk_X8_76 dX8_row_76 (by decide) (by decide) rfl rfl rfl (Nat.le_of_ble_eq_true rfl) (fun r155 u156 p157 => ?_)
                obtain ⟨hu9, hbc⟩ := p157
                rw [hu9]
                rw [s0] at hbc
                have hbc : bz r155 (isNm g c) := hbc
                have hbci := hbc.in
                refine m_if_eq h dX8_row_79 (tgt := 98) (by decide) (by omega) (fun c158 => ?_) (fun c158 => ?_)
                · skip
                  have hgd4 : ¬ ((1 ≤ NKs kd → isNm g a) ∧ (2 ≤ NKs kd → isNm g b ∧ b ≠ a) ∧ (3 ≤ NKs kd → isNm g c ∧ c ≠ a ∧ c ≠ b)) := fun q => by
                    first
                      | exact absurd (q.2.2 (by omega)).2.2 (by omega)
                      | exact absurd (q.2.2 (by omega)).2.1 (by omega)
                      | exact hbc.no (by omega) (q.2.2 (by omega)).1
                      | exact absurd (q.2.1 (by omega)).2 (by omega)
                      | exact hbb.no (by omega) (q.2.1 (by omega)).1
                      | exact hba.no (by omega) (q.1 (by omega))
                  refine m_iconst h dX8_row_98 ?_
                  refine m_istore h dX8_row_99 (by decide) rfl ?_
                  refine m_iload h dX8_row_101 rfl ?_
                  refine m_if_ne h dX8_row_103 (tgt := 110) (by decide) (by omega) (fun c159 => ?_) (fun c159 => ?_)
                  · skip
                    omega
                  · skip
                    refine m_sipush h dX8_row_106 (by decide) ?_
                    refine m_iret h hR rfl dX8_row_109 ?_
                    refine Or.inl ⟨fun q => ?_, rfl, rfl⟩
                    exact hgd4 q.2.2
                · skip
                  refine m_iload h dX8_row_82 rfl ?_
                  refine m_iload_n h dX8_row_84 rfl rfl ?_
                  refine m_icmp_eq h dX8_row_85 (tgt := 98) (by decide) (by omega) (by omega) (fun c160 => ?_) (fun c160 => ?_)
                  · skip
                    have hgd4 : ¬ ((1 ≤ NKs kd → isNm g a) ∧ (2 ≤ NKs kd → isNm g b ∧ b ≠ a) ∧ (3 ≤ NKs kd → isNm g c ∧ c ≠ a ∧ c ≠ b)) := fun q => by
                      first
                        | exact absurd (q.2.2 (by omega)).2.2 (by omega)
                        | exact absurd (q.2.2 (by omega)).2.1 (by omega)
                        | exact hbc.no (by omega) (q.2.2 (by omega)).1
                        | exact absurd (q.2.1 (by omega)).2 (by omega)
                        | exact hbb.no (by omega) (q.2.1 (by omega)).1
                        | exact hba.no (by omega) (q.1 (by omega))
                    refine m_iconst h dX8_row_98 ?_
                    refine m_istore h dX8_row_99 (by decide) rfl ?_
                    refine m_iload h dX8_row_101 rfl ?_
                    refine m_if_ne h dX8_row_103 (tgt := 110) (by decide) (by omega) (fun c161 => ?_) (fun c161 => ?_)
                    · skip
                      omega
                    · skip
                      refine m_sipush h dX8_row_106 (by decide) ?_
                      refine m_iret h hR rfl dX8_row_109 ?_
                      refine Or.inl ⟨fun q => ?_, rfl, rfl⟩
                      exact hgd4 q.2.2
                  · skip
                    refine m_iload h dX8_row_88 rfl ?_
                    refine m_iload_n h dX8_row_90 rfl rfl ?_
                    refine m_icmp_eq h dX8_row_91 (tgt := 98) (by decide) (by omega) (by omega) (fun c162 => ?_) (fun c162 => ?_)
                    · skip
                      have hgd4 : ¬ ((1 ≤ NKs kd → isNm g a) ∧ (2 ≤ NKs kd → isNm g b ∧ b ≠ a) ∧ (3 ≤ NKs kd → isNm g c ∧ c ≠ a ∧ c ≠ b)) := fun q => by
                        first
                          | exact absurd (q.2.2 (by omega)).2.2 (by omega)
                          | exact absurd (q.2.2 (by omega)).2.1 (by omega)
                          | exact hbc.no (by omega) (q.2.2 (by omega)).1
                          | exact absurd (q.2.1 (by omega)).2 (by omega)
                          | exact hbb.no (by omega) (q.2.1 (by omega)).1
                          | exact hba.no (by omega) (q.1 (by omega))
                      refine m_iconst h dX8_row_98 ?_
                      refine m_istore h dX8_row_99 (by decide) rfl ?_
                      refine m_iload h dX8_row_101 rfl ?_
                      refine m_if_ne h dX8_row_103 (tgt := 110) (by decide) (by omega) (fun c163 => ?_) (fun c163 => ?_)
                      · skip
                        omega
                      · skip
                        refine m_sipush h dX8_row_106 (by decide) ?_
                        refine m_iret h hR rfl dX8_row_109 ?_
                        refine Or.inl ⟨fun q => ?_, rfl, rfl⟩
                        exact hgd4 q.2.2
                    · skip
                      have hgd3 : ((1 ≤ NKs kd → isNm g a) ∧ (2 ≤ NKs kd → isNm g b ∧ b ≠ a) ∧ (3 ≤ NKs kd → isNm g c ∧ c ≠ a ∧ c ≠ b)) := by
                        refine ⟨fun q => ?_, fun q => ?_, fun q => ?_⟩
                        · first | omega | exact hba.yes (by omega)
                        · first | omega | exact ⟨hbb.yes (by omega), by omega⟩
                        · first | omega | exact ⟨hbc.yes (by omega), by omega, by omega⟩
                      refine m_iconst h dX8_row_94 ?_
                      refine m_goto h dX8_row_95 (tgt := 99) (by decide) ?_
                      refine m_istore h dX8_row_99 (by decide) rfl ?_
                      refine m_iload h dX8_row_101 rfl ?_
                      refine m_if_ne h dX8_row_103 (tgt := 110) (by decide) (by omega) (fun c164 => ?_) (fun c164 => ?_)
                      · skip
                        refine m_aload_n h dX8_row_110 rfl rfl ?_
                        refine m_get h fo_X8_64 (by decide) rfl rfl dX8_row_111 ?_
                        refine m_bipush h dX8_row_114 (by decide) ?_
                        refine m_icmp_ne h dX8_row_116 (tgt := 123) (by decide) (by omega) (by omega) (fun c165 => ?_) (fun c165 => ?_)
                        · skip
                          have hgd : RwGood g kd a b c R := ⟨h1, h2, hgd3⟩
                          have hr12 : g_r g < 12 := by omega
                          have hNr := nks_rg kd
                          refine m_aload_n h dX8_row_123 rfl rfl ?_
                          refine m_get h fo_X8_16 (by decide) rfl rfl dX8_row_124 ?_
                          refine m_aload_n h dX8_row_127 rfl rfl ?_
                          refine m_get h fo_X8_64 (by decide) rfl rfl dX8_row_128 ?_
                          show M X G 9 v 131 [some (.ref (G.2.1 25)), some (.int (iI kd)), some (.int (iI a)), some (.int (iI b)), some (.int (iI c)), some (.int (iI R)), some (.int (iI ow)), some (.int (iI 1)), none] [.int (iI (v.1 25 1)), .ref (G.2.1 28)]
                          rw [s1]
                          show M X G 9 v 131 [some (.ref (G.2.1 25)), some (.int (iI kd)), some (.int (iI a)), some (.int (iI b)), some (.int (iI c)), some (.int (iI R)), some (.int (iI ow)), some (.int (iI 1)), none] [.int (iI (g_r g)), .ref (G.2.1 28)]
                          refine m_iload_n h dX8_row_131 rfl rfl ?_
                          refine m_iast h (ar_28 G) (by omega) (by omega) dX8_row_132 ?_
                          refine m_aload_n h dX8_row_133 rfl rfl ?_
                          refine m_get h fo_X8_20 (by decide) rfl rfl dX8_row_134 ?_
                          refine m_iconst h dX8_row_137 ?_
                          refine m_aload_n h dX8_row_138 rfl rfl ?_
                          refine m_get h fo_X8_64 (by decide) rfl rfl dX8_row_139 ?_
                          show M X G 9 (wI v 28 (g_r g) kd) 142 [some (.ref (G.2.1 25)), some (.int (iI kd)), some (.int (iI a)), some (.int (iI b)), some (.int (iI c)), some (.int (iI R)), some (.int (iI ow)), some (.int (iI 1)), none] [.int (iI (v.1 25 1)), .int (iI 3), .ref (G.2.1 29)]
                          show M X G 9 (wI v 28 (g_r g) kd) 142 [some (.ref (G.2.1 25)), some (.int (iI kd)), some (.int (iI a)), some (.int (iI b)), some (.int (iI c)), some (.int (iI R)), some (.int (iI ow)), some (.int (iI 1)), none] [.int (iI (v.1 25 1)), .int (iI 3), .ref (G.2.1 29)]
                          rw [s1]
                          show M X G 9 (wI v 28 (g_r g) kd) 142 [some (.ref (G.2.1 25)), some (.int (iI kd)), some (.int (iI a)), some (.int (iI b)), some (.int (iI c)), some (.int (iI R)), some (.int (iI ow)), some (.int (iI 1)), none] [.int (iI (g_r g)), .int (iI 3), .ref (G.2.1 29)]
                          refine m_imul h dX8_row_142 ?_
                          refine m_iload h dX8_row_143 rfl ?_
                          refine m_if_le h dX8_row_145 (tgt := 152) (by decide) (by omega) (fun c166 => ?_) (fun c166 => ?_)
                          · skip
                            refine m_sipush h dX8_row_152 (by decide) ?_
                            refine m_iast h (ar_29 G) (by omega) (by omega) dX8_row_155 ?_
                            refine m_aload_n h dX8_row_156 rfl rfl ?_
                            refine m_get h fo_X8_20 (by decide) rfl rfl dX8_row_157 ?_
                            refine m_iconst h dX8_row_160 ?_
                            refine m_aload_n h dX8_row_161 rfl rfl ?_
                            refine m_get h fo_X8_64 (by decide) rfl rfl dX8_row_162 ?_
                            show M X G 9 (wI (wI v 28 (g_r g) kd) 29 (3 * (g_r g)) (-1000)) 165 [some (.ref (G.2.1 25)), some (.int (iI kd)), some (.int (iI a)), some (.int (iI b)), some (.int (iI c)), some (.int (iI R)), some (.int (iI ow)), some (.int (iI 1)), none] [.int (iI (v.1 25 1)), .int (iI 3), .ref (G.2.1 29)]
                            show M X G 9 (wI (wI v 28 (g_r g) kd) 29 (3 * (g_r g)) (-1000)) 165 [some (.ref (G.2.1 25)), some (.int (iI kd)), some (.int (iI a)), some (.int (iI b)), some (.int (iI c)), some (.int (iI R)), some (.int (iI ow)), some (.int (iI 1)), none] [.int (iI (v.1 25 1)), .int (iI 3), .ref (G.2.1 29)]
                            rw [s1]
                            show M X G 9 (wI (wI v 28 (g_r g) kd) 29 (3 * (g_r g)) (-1000)) 165 [some (.ref (G.2.1 25)), some (.int (iI kd)), some (.int (iI a)), some (.int (iI b)), some (.int (iI c)), some (.int (iI R)), some (.int (iI ow)), some (.int (iI 1)), none] [.int (iI (g_r g)), .int (iI 3), .ref (G.2.1 29)]
                            refine m_imul h dX8_row_165 ?_
                            refine m_iconst h dX8_row_166 ?_
                            refine m_iadd h dX8_row_167 ?_
                            refine m_iload h dX8_row_168 rfl ?_
                            refine m_iconst h dX8_row_170 ?_
                            refine m_icmp_le h dX8_row_171 (tgt := 178) (by decide) (by omega) (by omega) (fun c167 => ?_) (fun c167 => ?_)
                            · skip
                              refine m_sipush h dX8_row_178 (by decide) ?_
                              refine m_iast h (ar_29 G) (by omega) (by omega) dX8_row_181 ?_
                              refine m_aload_n h dX8_row_182 rfl rfl ?_
                              refine m_get h fo_X8_20 (by decide) rfl rfl dX8_row_183 ?_
                              refine m_iconst h dX8_row_186 ?_
                              refine m_aload_n h dX8_row_187 rfl rfl ?_
                              refine m_get h fo_X8_64 (by decide) rfl rfl dX8_row_188 ?_
                              show M X G 9 (wI (wI (wI v 28 (g_r g) kd) 29 (3 * (g_r g)) (-1000)) 29 ((3 * (g_r g)) + 1) (-1000)) 191 [some (.ref (G.2.1 25)), some (.int (iI kd)), some (.int (iI a)), some (.int (iI b)), some (.int (iI c)), some (.int (iI R)), some (.int (iI ow)), some (.int (iI 1)), none] [.int (iI (v.1 25 1)), .int (iI 3), .ref (G.2.1 29)]
                              show M X G 9 (wI (wI (wI v 28 (g_r g) kd) 29 (3 * (g_r g)) (-1000)) 29 ((3 * (g_r g)) + 1) (-1000)) 191 [some (.ref (G.2.1 25)), some (.int (iI kd)), some (.int (iI a)), some (.int (iI b)), some (.int (iI c)), some (.int (iI R)), some (.int (iI ow)), some (.int (iI 1)), none] [.int (iI (v.1 25 1)), .int (iI 3), .ref (G.2.1 29)]
                              rw [s1]
                              show M X G 9 (wI (wI (wI v 28 (g_r g) kd) 29 (3 * (g_r g)) (-1000)) 29 ((3 * (g_r g)) + 1) (-1000)) 191 [some (.ref (G.2.1 25)), some (.int (iI kd)), some (.int (iI a)), some (.int (iI b)), some (.int (iI c)), some (.int (iI R)), some (.int (iI ow)), some (.int (iI 1)), none] [.int (iI (g_r g)), .int (iI 3), .ref (G.2.1 29)]
                              refine m_imul h dX8_row_191 ?_
                              refine m_iconst h dX8_row_192 ?_
                              refine m_iadd h dX8_row_193 ?_
                              refine m_iload h dX8_row_194 rfl ?_
                              refine m_iconst h dX8_row_196 ?_
                              refine m_icmp_le h dX8_row_197 (tgt := 205) (by decide) (by omega) (by omega) (fun c168 => ?_) (fun c168 => ?_)
                              · skip
                                refine m_sipush h dX8_row_205 (by decide) ?_
                                refine m_iast h (ar_29 G) (by omega) (by omega) dX8_row_208 ?_
                                refine m_aload_n h dX8_row_209 rfl rfl ?_
                                refine m_get h fo_X8_23 (by decide) rfl rfl dX8_row_210 ?_
                                refine m_aload_n h dX8_row_213 rfl rfl ?_
                                refine m_get h fo_X8_64 (by decide) rfl rfl dX8_row_214 ?_
                                show M X G 9 (wI (wI (wI (wI v 28 (g_r g) kd) 29 (3 * (g_r g)) (-1000)) 29 ((3 * (g_r g)) + 1) (-1000)) 29 ((3 * (g_r g)) + 2) (-1000)) 217 [some (.ref (G.2.1 25)), some (.int (iI kd)), some (.int (iI a)), some (.int (iI b)), some (.int (iI c)), some (.int (iI R)), some (.int (iI ow)), some (.int (iI 1)), none] [.int (iI (v.1 25 1)), .ref (G.2.1 30)]
                                show M X G 9 (wI (wI (wI (wI v 28 (g_r g) kd) 29 (3 * (g_r g)) (-1000)) 29 ((3 * (g_r g)) + 1) (-1000)) 29 ((3 * (g_r g)) + 2) (-1000)) 217 [some (.ref (G.2.1 25)), some (.int (iI kd)), some (.int (iI a)), some (.int (iI b)), some (.int (iI c)), some (.int (iI R)), some (.int (iI ow)), some (.int (iI 1)), none] [.int (iI (v.1 25 1)), .ref (G.2.1 30)]
                                rw [s1]
                                show M X G 9 (wI (wI (wI (wI v 28 (g_r g) kd) 29 (3 * (g_r g)) (-1000)) 29 ((3 * (g_r g)) + 1) (-1000)) 29 ((3 * (g_r g)) + 2) (-1000)) 217 [some (.ref (G.2.1 25)), some (.int (iI kd)), some (.int (iI a)), some (.int (iI b)), some (.int (iI c)), some (.int (iI R)), some (.int (iI ow)), some (.int (iI 1)), none] [.int (iI (g_r g)), .ref (G.2.1 30)]
                                refine m_iload h dX8_row_217 rfl ?_
                                refine m_iast h (ar_30 G) (by omega) (by omega) dX8_row_219 ?_
                                refine m_iconst h dX8_row_220 ?_
                                refine m_istore h dX8_row_221 (by decide) rfl ?_
                                refine m_kill 6 ?_
                                refine m_kill 7 ?_
                                have lp223 : ∀ (fuel : Nat) (k : Nat) (u : Mem), k ≤ 8 → 20 - k < fuel → rwF v (g_r g) kd (if 1 ≤ NKs kd then a else -1) (if 2 ≤ NKs kd then b else -1) (if 3 ≤ NKs kd then c else -1) R u → (∀ x, 0 ≤ x → x < (k : Int) → u.1 31 (8 * g_r g + x) = 0) → M X G 9 u 223 [some (.ref (G.2.1 25)), some (.int (iI kd)), some (.int (iI a)), some (.int (iI b)), some (.int (iI c)), some (.int (iI R)), none, none, some (.int (iI (k : Int)))] [] := by
                                  intro fuel
                                  induction fuel with
                                  | zero => intro k u hk8 hfu hw hz; exfalso; omega
                                  | succ fuel ih =>
                                    intro k u hk8 hfu hw hz
                                    have e25r : u.1 25 1 = g_r g := by rw [hw.1 25 (by decide) (by decide) (by decide) (by decide)]; exact s1
                                    refine m_iload h dX8_row_223 rfl ?_
                                    refine m_bipush h dX8_row_225 (by decide) ?_
                                    refine m_icmp_ge h dX8_row_227 (tgt := 252) (by decide) (by omega) (by omega) (fun c169 => ?_) (fun c169 => ?_)
                                    · skip
                                      have hz8 : ∀ x, 0 ≤ x → x < 8 → u.1 31 (8 * g_r g + x) = 0 := fun x q1 q2 => hz x q1 (by omega)
                                      refine m_aload_n h dX8_row_252 rfl rfl ?_
                                      refine m_dup h dX8_row_253 rfl ?_
                                      refine m_get h fo_X8_64 (by decide) rfl rfl dX8_row_254 ?_
                                      show M X G 9 u 257 [some (.ref (G.2.1 25)), some (.int (iI kd)), some (.int (iI a)), some (.int (iI b)), some (.int (iI c)), some (.int (iI R)), none, none, some (.int (iI (k : Int)))] [.int (iI (u.1 25 1)), .ref (G.2.1 25)]
                                      rw [e25r]
                                      show M X G 9 u 257 [some (.ref (G.2.1 25)), some (.int (iI kd)), some (.int (iI a)), some (.int (iI b)), some (.int (iI c)), some (.int (iI R)), none, none, some (.int (iI (k : Int)))] [.int (iI (g_r g)), .ref (G.2.1 25)]
                                      refine m_iconst h dX8_row_257 ?_
                                      refine m_iadd h dX8_row_258 ?_
                                      refine m_putJ h fw_X8_64 (by decide) rfl (Nat.le_of_ble_eq_true rfl) (kz := 1) rfl rfl dX8_row_259 ?_
                                      have hS1 := rwF_s ⟨s0, s1, s2, s3⟩ hg hr12 hw hz8
                                      have hF1 : FrM v (wI u 25 1 ((g_r g) + 1)) := FrM.w ⟨fun i hi => hw.1 i (by omega) (by omega) (by omega) (by omega), hw.2.1⟩ (by omega)
                                      refine m_aload_n h dX8_row_262 rfl rfl ?_
                                      refine m_vV h (m_anew _ hG _ (by intro x x0 x1; exact hS1.2.2.1.z x x0 x1)) moX8_anew voX8_anew lk_X8_73 dX8_row_263 (by decide) (by decide) rfl rfl rfl (Nat.le_of_ble_eq_true rfl) (fun ua p172 => ?_)
                                      have hRa := RM_an hS1 p172 t
                                      have hFa := hF1.tr (ANW.m p172)
                                      have hAn := p172
                                      refine m_aload_n h dX8_row_266 rfl rfl ?_
                                      refine m_get h fo_X8_64 (by decide) rfl rfl dX8_row_267 ?_
                                      refine m_iconst h dX8_row_270 ?_
                                      refine m_isub h dX8_row_271 ?_
                                      refine m_iret h hR rfl dX8_row_272 ?_
                                      refine Or.inr ⟨hgd, Or.inr ⟨hr12, ?_, hRa, hFa⟩⟩
                                      have : ua.1 25 1 = g_r g + 1 := hRa.1.2.1
                                      omega
                                    · skip
                                      refine m_aload_n h dX8_row_230 rfl rfl ?_
                                      refine m_get h fo_X8_26 (by decide) rfl rfl dX8_row_231 ?_
                                      refine m_bipush h dX8_row_234 (by decide) ?_
                                      refine m_aload_n h dX8_row_236 rfl rfl ?_
                                      refine m_get h fo_X8_64 (by decide) rfl rfl dX8_row_237 ?_
                                      show M X G 9 u 240 [some (.ref (G.2.1 25)), some (.int (iI kd)), some (.int (iI a)), some (.int (iI b)), some (.int (iI c)), some (.int (iI R)), none, none, some (.int (iI (k : Int)))] [.int (iI (u.1 25 1)), .int (iI 8), .ref (G.2.1 31)]
                                      rw [e25r]
                                      show M X G 9 u 240 [some (.ref (G.2.1 25)), some (.int (iI kd)), some (.int (iI a)), some (.int (iI b)), some (.int (iI c)), some (.int (iI R)), none, none, some (.int (iI (k : Int)))] [.int (iI (g_r g)), .int (iI 8), .ref (G.2.1 31)]
                                      refine m_imul h dX8_row_240 ?_
                                      refine m_iload h dX8_row_241 rfl ?_
                                      refine m_iadd h dX8_row_243 ?_
                                      refine m_iconst h dX8_row_244 ?_
                                      refine m_iast h (ar_31 G) (by omega) (by omega) dX8_row_245 ?_
                                      refine m_iinc h dX8_row_246 rfl (by decide) rfl ?_
                                      refine m_goto h dX8_row_249 (tgt := 223) (by decide) ?_
                                      refine ih (k + 1) _ (by omega) (by omega) (rwF_w hw (by omega)) (fun x x0 x1 => ?_)
                                      by_cases e : x = (k : Int)
                                      · subst e; rw [wI_s]
                                      · rw [wI_n (by omega)]; exact hz x x0 (by omega)
                                exact lp223 100 0 _ (by omega) (by omega) (rwF_i (by rw [if_neg (by omega)]; rfl) (by rw [if_neg (by omega)]; rfl) (by rw [if_neg (by omega)]; rfl)) (fun x q1 q2 => by omega)
                              · skip
                                refine m_iload h dX8_row_200 rfl ?_
                                refine m_goto h dX8_row_202 (tgt := 208) (by decide) ?_
                                refine m_iast h (ar_29 G) (by omega) (by omega) dX8_row_208 ?_
                                refine m_aload_n h dX8_row_209 rfl rfl ?_
                                refine m_get h fo_X8_23 (by decide) rfl rfl dX8_row_210 ?_
                                refine m_aload_n h dX8_row_213 rfl rfl ?_
                                refine m_get h fo_X8_64 (by decide) rfl rfl dX8_row_214 ?_
                                show M X G 9 (wI (wI (wI (wI v 28 (g_r g) kd) 29 (3 * (g_r g)) (-1000)) 29 ((3 * (g_r g)) + 1) (-1000)) 29 ((3 * (g_r g)) + 2) c) 217 [some (.ref (G.2.1 25)), some (.int (iI kd)), some (.int (iI a)), some (.int (iI b)), some (.int (iI c)), some (.int (iI R)), some (.int (iI ow)), some (.int (iI 1)), none] [.int (iI (v.1 25 1)), .ref (G.2.1 30)]
                                show M X G 9 (wI (wI (wI (wI v 28 (g_r g) kd) 29 (3 * (g_r g)) (-1000)) 29 ((3 * (g_r g)) + 1) (-1000)) 29 ((3 * (g_r g)) + 2) c) 217 [some (.ref (G.2.1 25)), some (.int (iI kd)), some (.int (iI a)), some (.int (iI b)), some (.int (iI c)), some (.int (iI R)), some (.int (iI ow)), some (.int (iI 1)), none] [.int (iI (v.1 25 1)), .ref (G.2.1 30)]
                                rw [s1]
                                show M X G 9 (wI (wI (wI (wI v 28 (g_r g) kd) 29 (3 * (g_r g)) (-1000)) 29 ((3 * (g_r g)) + 1) (-1000)) 29 ((3 * (g_r g)) + 2) c) 217 [some (.ref (G.2.1 25)), some (.int (iI kd)), some (.int (iI a)), some (.int (iI b)), some (.int (iI c)), some (.int (iI R)), some (.int (iI ow)), some (.int (iI 1)), none] [.int (iI (g_r g)), .ref (G.2.1 30)]
                                refine m_iload h dX8_row_217 rfl ?_
                                refine m_iast h (ar_30 G) (by omega) (by omega) dX8_row_219 ?_
                                refine m_iconst h dX8_row_220 ?_
                                refine m_istore h dX8_row_221 (by decide) rfl ?_
                                refine m_kill 6 ?_
                                refine m_kill 7 ?_
                                have lp223 : ∀ (fuel : Nat) (k : Nat) (u : Mem), k ≤ 8 → 20 - k < fuel → rwF v (g_r g) kd (if 1 ≤ NKs kd then a else -1) (if 2 ≤ NKs kd then b else -1) (if 3 ≤ NKs kd then c else -1) R u → (∀ x, 0 ≤ x → x < (k : Int) → u.1 31 (8 * g_r g + x) = 0) → M X G 9 u 223 [some (.ref (G.2.1 25)), some (.int (iI kd)), some (.int (iI a)), some (.int (iI b)), some (.int (iI c)), some (.int (iI R)), none, none, some (.int (iI (k : Int)))] [] := by
                                  intro fuel
                                  induction fuel with
                                  | zero => intro k u hk8 hfu hw hz; exfalso; omega
                                  | succ fuel ih =>
                                    intro k u hk8 hfu hw hz
                                    have e25r : u.1 25 1 = g_r g := by rw [hw.1 25 (by decide) (by decide) (by decide) (by decide)]; exact s1
                                    refine m_iload h dX8_row_223 rfl ?_
                                    refine m_bipush h dX8_row_225 (by decide) ?_
                                    refine m_icmp_ge h dX8_row_227 (tgt := 252) (by decide) (by omega) (by omega) (fun c173 => ?_) (fun c173 => ?_)
                                    · skip
                                      have hz8 : ∀ x, 0 ≤ x → x < 8 → u.1 31 (8 * g_r g + x) = 0 := fun x q1 q2 => hz x q1 (by omega)
                                      refine m_aload_n h dX8_row_252 rfl rfl ?_
                                      refine m_dup h dX8_row_253 rfl ?_
                                      refine m_get h fo_X8_64 (by decide) rfl rfl dX8_row_254 ?_
                                      show M X G 9 u 257 [some (.ref (G.2.1 25)), some (.int (iI kd)), some (.int (iI a)), some (.int (iI b)), some (.int (iI c)), some (.int (iI R)), none, none, some (.int (iI (k : Int)))] [.int (iI (u.1 25 1)), .ref (G.2.1 25)]
                                      rw [e25r]
                                      show M X G 9 u 257 [some (.ref (G.2.1 25)), some (.int (iI kd)), some (.int (iI a)), some (.int (iI b)), some (.int (iI c)), some (.int (iI R)), none, none, some (.int (iI (k : Int)))] [.int (iI (g_r g)), .ref (G.2.1 25)]
                                      refine m_iconst h dX8_row_257 ?_
                                      refine m_iadd h dX8_row_258 ?_
                                      refine m_putJ h fw_X8_64 (by decide) rfl (Nat.le_of_ble_eq_true rfl) (kz := 1) rfl rfl dX8_row_259 ?_
                                      have hS1 := rwF_s ⟨s0, s1, s2, s3⟩ hg hr12 hw hz8
                                      have hF1 : FrM v (wI u 25 1 ((g_r g) + 1)) := FrM.w ⟨fun i hi => hw.1 i (by omega) (by omega) (by omega) (by omega), hw.2.1⟩ (by omega)
                                      refine m_aload_n h dX8_row_262 rfl rfl ?_
                                      refine m_vV h (m_anew _ hG _ (by intro x x0 x1; exact hS1.2.2.1.z x x0 x1)) moX8_anew voX8_anew lk_X8_73 dX8_row_263 (by decide) (by decide) rfl rfl rfl (Nat.le_of_ble_eq_true rfl) (fun ua p176 => ?_)
                                      have hRa := RM_an hS1 p176 t
                                      have hFa := hF1.tr (ANW.m p176)
                                      have hAn := p176
                                      refine m_aload_n h dX8_row_266 rfl rfl ?_
                                      refine m_get h fo_X8_64 (by decide) rfl rfl dX8_row_267 ?_
                                      refine m_iconst h dX8_row_270 ?_
                                      refine m_isub h dX8_row_271 ?_
                                      refine m_iret h hR rfl dX8_row_272 ?_
                                      refine Or.inr ⟨hgd, Or.inr ⟨hr12, ?_, hRa, hFa⟩⟩
                                      have : ua.1 25 1 = g_r g + 1 := hRa.1.2.1
                                      omega
                                    · skip
                                      refine m_aload_n h dX8_row_230 rfl rfl ?_
                                      refine m_get h fo_X8_26 (by decide) rfl rfl dX8_row_231 ?_
                                      refine m_bipush h dX8_row_234 (by decide) ?_
                                      refine m_aload_n h dX8_row_236 rfl rfl ?_
                                      refine m_get h fo_X8_64 (by decide) rfl rfl dX8_row_237 ?_
                                      show M X G 9 u 240 [some (.ref (G.2.1 25)), some (.int (iI kd)), some (.int (iI a)), some (.int (iI b)), some (.int (iI c)), some (.int (iI R)), none, none, some (.int (iI (k : Int)))] [.int (iI (u.1 25 1)), .int (iI 8), .ref (G.2.1 31)]
                                      rw [e25r]
                                      show M X G 9 u 240 [some (.ref (G.2.1 25)), some (.int (iI kd)), some (.int (iI a)), some (.int (iI b)), some (.int (iI c)), some (.int (iI R)), none, none, some (.int (iI (k : Int)))] [.int (iI (g_r g)), .int (iI 8), .ref (G.2.1 31)]
                                      refine m_imul h dX8_row_240 ?_
                                      refine m_iload h dX8_row_241 rfl ?_
                                      refine m_iadd h dX8_row_243 ?_
                                      refine m_iconst h dX8_row_244 ?_
                                      refine m_iast h (ar_31 G) (by omega) (by omega) dX8_row_245 ?_
                                      refine m_iinc h dX8_row_246 rfl (by decide) rfl ?_
                                      refine m_goto h dX8_row_249 (tgt := 223) (by decide) ?_
                                      refine ih (k + 1) _ (by omega) (by omega) (rwF_w hw (by omega)) (fun x x0 x1 => ?_)
                                      by_cases e : x = (k : Int)
                                      · subst e; rw [wI_s]
                                      · rw [wI_n (by omega)]; exact hz x x0 (by omega)
                                exact lp223 100 0 _ (by omega) (by omega) (rwF_i (by rw [if_neg (by omega)]; rfl) (by rw [if_neg (by omega)]; rfl) (by rw [if_pos (by omega)]; exact (mN_nn (by have : isNm g c := (hgd.2.2.2.2 (by omega)).1; exact this.1)).symm)) (fun x q1 q2 => by omega)
                            · skip
                              refine m_iload_n h dX8_row_174 rfl rfl ?_
                              refine m_goto h dX8_row_175 (tgt := 181) (by decide) ?_
                              refine m_iast h (ar_29 G) (by omega) (by omega) dX8_row_181 ?_
                              refine m_aload_n h dX8_row_182 rfl rfl ?_
                              refine m_get h fo_X8_20 (by decide) rfl rfl dX8_row_183 ?_
                              refine m_iconst h dX8_row_186 ?_
                              refine m_aload_n h dX8_row_187 rfl rfl ?_
                              refine m_get h fo_X8_64 (by decide) rfl rfl dX8_row_188 ?_
                              show M X G 9 (wI (wI (wI v 28 (g_r g) kd) 29 (3 * (g_r g)) (-1000)) 29 ((3 * (g_r g)) + 1) b) 191 [some (.ref (G.2.1 25)), some (.int (iI kd)), some (.int (iI a)), some (.int (iI b)), some (.int (iI c)), some (.int (iI R)), some (.int (iI ow)), some (.int (iI 1)), none] [.int (iI (v.1 25 1)), .int (iI 3), .ref (G.2.1 29)]
                              show M X G 9 (wI (wI (wI v 28 (g_r g) kd) 29 (3 * (g_r g)) (-1000)) 29 ((3 * (g_r g)) + 1) b) 191 [some (.ref (G.2.1 25)), some (.int (iI kd)), some (.int (iI a)), some (.int (iI b)), some (.int (iI c)), some (.int (iI R)), some (.int (iI ow)), some (.int (iI 1)), none] [.int (iI (v.1 25 1)), .int (iI 3), .ref (G.2.1 29)]
                              rw [s1]
                              show M X G 9 (wI (wI (wI v 28 (g_r g) kd) 29 (3 * (g_r g)) (-1000)) 29 ((3 * (g_r g)) + 1) b) 191 [some (.ref (G.2.1 25)), some (.int (iI kd)), some (.int (iI a)), some (.int (iI b)), some (.int (iI c)), some (.int (iI R)), some (.int (iI ow)), some (.int (iI 1)), none] [.int (iI (g_r g)), .int (iI 3), .ref (G.2.1 29)]
                              refine m_imul h dX8_row_191 ?_
                              refine m_iconst h dX8_row_192 ?_
                              refine m_iadd h dX8_row_193 ?_
                              refine m_iload h dX8_row_194 rfl ?_
                              refine m_iconst h dX8_row_196 ?_
                              refine m_icmp_le h dX8_row_197 (tgt := 205) (by decide) (by omega) (by omega) (fun c177 => ?_) (fun c177 => ?_)
                              · skip
                                refine m_sipush h dX8_row_205 (by decide) ?_
                                refine m_iast h (ar_29 G) (by omega) (by omega) dX8_row_208 ?_
                                refine m_aload_n h dX8_row_209 rfl rfl ?_
                                refine m_get h fo_X8_23 (by decide) rfl rfl dX8_row_210 ?_
                                refine m_aload_n h dX8_row_213 rfl rfl ?_
                                refine m_get h fo_X8_64 (by decide) rfl rfl dX8_row_214 ?_
                                show M X G 9 (wI (wI (wI (wI v 28 (g_r g) kd) 29 (3 * (g_r g)) (-1000)) 29 ((3 * (g_r g)) + 1) b) 29 ((3 * (g_r g)) + 2) (-1000)) 217 [some (.ref (G.2.1 25)), some (.int (iI kd)), some (.int (iI a)), some (.int (iI b)), some (.int (iI c)), some (.int (iI R)), some (.int (iI ow)), some (.int (iI 1)), none] [.int (iI (v.1 25 1)), .ref (G.2.1 30)]
                                show M X G 9 (wI (wI (wI (wI v 28 (g_r g) kd) 29 (3 * (g_r g)) (-1000)) 29 ((3 * (g_r g)) + 1) b) 29 ((3 * (g_r g)) + 2) (-1000)) 217 [some (.ref (G.2.1 25)), some (.int (iI kd)), some (.int (iI a)), some (.int (iI b)), some (.int (iI c)), some (.int (iI R)), some (.int (iI ow)), some (.int (iI 1)), none] [.int (iI (v.1 25 1)), .ref (G.2.1 30)]
                                rw [s1]
                                show M X G 9 (wI (wI (wI (wI v 28 (g_r g) kd) 29 (3 * (g_r g)) (-1000)) 29 ((3 * (g_r g)) + 1) b) 29 ((3 * (g_r g)) + 2) (-1000)) 217 [some (.ref (G.2.1 25)), some (.int (iI kd)), some (.int (iI a)), some (.int (iI b)), some (.int (iI c)), some (.int (iI R)), some (.int (iI ow)), some (.int (iI 1)), none] [.int (iI (g_r g)), .ref (G.2.1 30)]
                                refine m_iload h dX8_row_217 rfl ?_
                                refine m_iast h (ar_30 G) (by omega) (by omega) dX8_row_219 ?_
                                refine m_iconst h dX8_row_220 ?_
                                refine m_istore h dX8_row_221 (by decide) rfl ?_
                                refine m_kill 6 ?_
                                refine m_kill 7 ?_
                                have lp223 : ∀ (fuel : Nat) (k : Nat) (u : Mem), k ≤ 8 → 20 - k < fuel → rwF v (g_r g) kd (if 1 ≤ NKs kd then a else -1) (if 2 ≤ NKs kd then b else -1) (if 3 ≤ NKs kd then c else -1) R u → (∀ x, 0 ≤ x → x < (k : Int) → u.1 31 (8 * g_r g + x) = 0) → M X G 9 u 223 [some (.ref (G.2.1 25)), some (.int (iI kd)), some (.int (iI a)), some (.int (iI b)), some (.int (iI c)), some (.int (iI R)), none, none, some (.int (iI (k : Int)))] [] := by
                                  intro fuel
                                  induction fuel with
                                  | zero => intro k u hk8 hfu hw hz; exfalso; omega
                                  | succ fuel ih =>
                                    intro k u hk8 hfu hw hz
                                    have e25r : u.1 25 1 = g_r g := by rw [hw.1 25 (by decide) (by decide) (by decide) (by decide)]; exact s1
                                    refine m_iload h dX8_row_223 rfl ?_
                                    refine m_bipush h dX8_row_225 (by decide) ?_
                                    refine m_icmp_ge h dX8_row_227 (tgt := 252) (by decide) (by omega) (by omega) (fun c178 => ?_) (fun c178 => ?_)
                                    · skip
                                      have hz8 : ∀ x, 0 ≤ x → x < 8 → u.1 31 (8 * g_r g + x) = 0 := fun x q1 q2 => hz x q1 (by omega)
                                      refine m_aload_n h dX8_row_252 rfl rfl ?_
                                      refine m_dup h dX8_row_253 rfl ?_
                                      refine m_get h fo_X8_64 (by decide) rfl rfl dX8_row_254 ?_
                                      show M X G 9 u 257 [some (.ref (G.2.1 25)), some (.int (iI kd)), some (.int (iI a)), some (.int (iI b)), some (.int (iI c)), some (.int (iI R)), none, none, some (.int (iI (k : Int)))] [.int (iI (u.1 25 1)), .ref (G.2.1 25)]
                                      rw [e25r]
                                      show M X G 9 u 257 [some (.ref (G.2.1 25)), some (.int (iI kd)), some (.int (iI a)), some (.int (iI b)), some (.int (iI c)), some (.int (iI R)), none, none, some (.int (iI (k : Int)))] [.int (iI (g_r g)), .ref (G.2.1 25)]
                                      refine m_iconst h dX8_row_257 ?_
                                      refine m_iadd h dX8_row_258 ?_
                                      refine m_putJ h fw_X8_64 (by decide) rfl (Nat.le_of_ble_eq_true rfl) (kz := 1) rfl rfl dX8_row_259 ?_
                                      have hS1 := rwF_s ⟨s0, s1, s2, s3⟩ hg hr12 hw hz8
                                      have hF1 : FrM v (wI u 25 1 ((g_r g) + 1)) := FrM.w ⟨fun i hi => hw.1 i (by omega) (by omega) (by omega) (by omega), hw.2.1⟩ (by omega)
                                      refine m_aload_n h dX8_row_262 rfl rfl ?_
                                      refine m_vV h (m_anew _ hG _ (by intro x x0 x1; exact hS1.2.2.1.z x x0 x1)) moX8_anew voX8_anew lk_X8_73 dX8_row_263 (by decide) (by decide) rfl rfl rfl (Nat.le_of_ble_eq_true rfl) (fun ua p181 => ?_)
                                      have hRa := RM_an hS1 p181 t
                                      have hFa := hF1.tr (ANW.m p181)
                                      have hAn := p181
                                      refine m_aload_n h dX8_row_266 rfl rfl ?_
                                      refine m_get h fo_X8_64 (by decide) rfl rfl dX8_row_267 ?_
                                      refine m_iconst h dX8_row_270 ?_
                                      refine m_isub h dX8_row_271 ?_
                                      refine m_iret h hR rfl dX8_row_272 ?_
                                      refine Or.inr ⟨hgd, Or.inr ⟨hr12, ?_, hRa, hFa⟩⟩
                                      have : ua.1 25 1 = g_r g + 1 := hRa.1.2.1
                                      omega
                                    · skip
                                      refine m_aload_n h dX8_row_230 rfl rfl ?_
                                      refine m_get h fo_X8_26 (by decide) rfl rfl dX8_row_231 ?_
                                      refine m_bipush h dX8_row_234 (by decide) ?_
                                      refine m_aload_n h dX8_row_236 rfl rfl ?_
                                      refine m_get h fo_X8_64 (by decide) rfl rfl dX8_row_237 ?_
                                      show M X G 9 u 240 [some (.ref (G.2.1 25)), some (.int (iI kd)), some (.int (iI a)), some (.int (iI b)), some (.int (iI c)), some (.int (iI R)), none, none, some (.int (iI (k : Int)))] [.int (iI (u.1 25 1)), .int (iI 8), .ref (G.2.1 31)]
                                      rw [e25r]
                                      show M X G 9 u 240 [some (.ref (G.2.1 25)), some (.int (iI kd)), some (.int (iI a)), some (.int (iI b)), some (.int (iI c)), some (.int (iI R)), none, none, some (.int (iI (k : Int)))] [.int (iI (g_r g)), .int (iI 8), .ref (G.2.1 31)]
                                      refine m_imul h dX8_row_240 ?_
                                      refine m_iload h dX8_row_241 rfl ?_
                                      refine m_iadd h dX8_row_243 ?_
                                      refine m_iconst h dX8_row_244 ?_
                                      refine m_iast h (ar_31 G) (by omega) (by omega) dX8_row_245 ?_
                                      refine m_iinc h dX8_row_246 rfl (by decide) rfl ?_
                                      refine m_goto h dX8_row_249 (tgt := 223) (by decide) ?_
                                      refine ih (k + 1) _ (by omega) (by omega) (rwF_w hw (by omega)) (fun x x0 x1 => ?_)
                                      by_cases e : x = (k : Int)
                                      · subst e; rw [wI_s]
                                      · rw [wI_n (by omega)]; exact hz x x0 (by omega)
                                exact lp223 100 0 _ (by omega) (by omega) (rwF_i (by rw [if_neg (by omega)]; rfl) (by rw [if_pos (by omega)]; exact (mN_nn (by have : isNm g b := (hgd.2.2.2.1 (by omega)).1; exact this.1)).symm) (by rw [if_neg (by omega)]; rfl)) (fun x q1 q2 => by omega)
                              · skip
                                refine m_iload h dX8_row_200 rfl ?_
                                refine m_goto h dX8_row_202 (tgt := 208) (by decide) ?_
                                refine m_iast h (ar_29 G) (by omega) (by omega) dX8_row_208 ?_
                                refine m_aload_n h dX8_row_209 rfl rfl ?_
                                refine m_get h fo_X8_23 (by decide) rfl rfl dX8_row_210 ?_
                                refine m_aload_n h dX8_row_213 rfl rfl ?_
                                refine m_get h fo_X8_64 (by decide) rfl rfl dX8_row_214 ?_
                                show M X G 9 (wI (wI (wI (wI v 28 (g_r g) kd) 29 (3 * (g_r g)) (-1000)) 29 ((3 * (g_r g)) + 1) b) 29 ((3 * (g_r g)) + 2) c) 217 [some (.ref (G.2.1 25)), some (.int (iI kd)), some (.int (iI a)), some (.int (iI b)), some (.int (iI c)), some (.int (iI R)), some (.int (iI ow)), some (.int (iI 1)), none] [.int (iI (v.1 25 1)), .ref (G.2.1 30)]
                                show M X G 9 (wI (wI (wI (wI v 28 (g_r g) kd) 29 (3 * (g_r g)) (-1000)) 29 ((3 * (g_r g)) + 1) b) 29 ((3 * (g_r g)) + 2) c) 217 [some (.ref (G.2.1 25)), some (.int (iI kd)), some (.int (iI a)), some (.int (iI b)), some (.int (iI c)), some (.int (iI R)), some (.int (iI ow)), some (.int (iI 1)), none] [.int (iI (v.1 25 1)), .ref (G.2.1 30)]
                                rw [s1]
                                show M X G 9 (wI (wI (wI (wI v 28 (g_r g) kd) 29 (3 * (g_r g)) (-1000)) 29 ((3 * (g_r g)) + 1) b) 29 ((3 * (g_r g)) + 2) c) 217 [some (.ref (G.2.1 25)), some (.int (iI kd)), some (.int (iI a)), some (.int (iI b)), some (.int (iI c)), some (.int (iI R)), some (.int (iI ow)), some (.int (iI 1)), none] [.int (iI (g_r g)), .ref (G.2.1 30)]
                                refine m_iload h dX8_row_217 rfl ?_
                                refine m_iast h (ar_30 G) (by omega) (by omega) dX8_row_219 ?_
                                refine m_iconst h dX8_row_220 ?_
                                refine m_istore h dX8_row_221 (by decide) rfl ?_
                                refine m_kill 6 ?_
                                refine m_kill 7 ?_
                                have lp223 : ∀ (fuel : Nat) (k : Nat) (u : Mem), k ≤ 8 → 20 - k < fuel → rwF v (g_r g) kd (if 1 ≤ NKs kd then a else -1) (if 2 ≤ NKs kd then b else -1) (if 3 ≤ NKs kd then c else -1) R u → (∀ x, 0 ≤ x → x < (k : Int) → u.1 31 (8 * g_r g + x) = 0) → M X G 9 u 223 [some (.ref (G.2.1 25)), some (.int (iI kd)), some (.int (iI a)), some (.int (iI b)), some (.int (iI c)), some (.int (iI R)), none, none, some (.int (iI (k : Int)))] [] := by
                                  intro fuel
                                  induction fuel with
                                  | zero => intro k u hk8 hfu hw hz; exfalso; omega
                                  | succ fuel ih =>
                                    intro k u hk8 hfu hw hz
                                    have e25r : u.1 25 1 = g_r g := by rw [hw.1 25 (by decide) (by decide) (by decide) (by decide)]; exact s1
                                    refine m_iload h dX8_row_223 rfl ?_
                                    refine m_bipush h dX8_row_225 (by decide) ?_
                                    refine m_icmp_ge h dX8_row_227 (tgt := 252) (by decide) (by omega) (by omega) (fun c182 => ?_) (fun c182 => ?_)
                                    · skip
                                      have hz8 : ∀ x, 0 ≤ x → x < 8 → u.1 31 (8 * g_r g + x) = 0 := fun x q1 q2 => hz x q1 (by omega)
                                      refine m_aload_n h dX8_row_252 rfl rfl ?_
                                      refine m_dup h dX8_row_253 rfl ?_
                                      refine m_get h fo_X8_64 (by decide) rfl rfl dX8_row_254 ?_
                                      show M X G 9 u 257 [some (.ref (G.2.1 25)), some (.int (iI kd)), some (.int (iI a)), some (.int (iI b)), some (.int (iI c)), some (.int (iI R)), none, none, some (.int (iI (k : Int)))] [.int (iI (u.1 25 1)), .ref (G.2.1 25)]
                                      rw [e25r]
                                      show M X G 9 u 257 [some (.ref (G.2.1 25)), some (.int (iI kd)), some (.int (iI a)), some (.int (iI b)), some (.int (iI c)), some (.int (iI R)), none, none, some (.int (iI (k : Int)))] [.int (iI (g_r g)), .ref (G.2.1 25)]
                                      refine m_iconst h dX8_row_257 ?_
                                      refine m_iadd h dX8_row_258 ?_
                                      refine m_putJ h fw_X8_64 (by decide) rfl (Nat.le_of_ble_eq_true rfl) (kz := 1) rfl rfl dX8_row_259 ?_
                                      have hS1 := rwF_s ⟨s0, s1, s2, s3⟩ hg hr12 hw hz8
                                      have hF1 : FrM v (wI u 25 1 ((g_r g) + 1)) := FrM.w ⟨fun i hi => hw.1 i (by omega) (by omega) (by omega) (by omega), hw.2.1⟩ (by omega)
                                      refine m_aload_n h dX8_row_262 rfl rfl ?_
                                      refine m_vV h (m_anew _ hG _ (by intro x x0 x1; exact hS1.2.2.1.z x x0 x1)) moX8_anew voX8_anew lk_X8_73 dX8_row_263 (by decide) (by decide) rfl rfl rfl (Nat.le_of_ble_eq_true rfl) (fun ua p185 => ?_)
                                      have hRa := RM_an hS1 p185 t
                                      have hFa := hF1.tr (ANW.m p185)
                                      have hAn := p185
                                      refine m_aload_n h dX8_row_266 rfl rfl ?_
                                      refine m_get h fo_X8_64 (by decide) rfl rfl dX8_row_267 ?_
                                      refine m_iconst h dX8_row_270 ?_
                                      refine m_isub h dX8_row_271 ?_
                                      refine m_iret h hR rfl dX8_row_272 ?_
                                      refine Or.inr ⟨hgd, Or.inr ⟨hr12, ?_, hRa, hFa⟩⟩
                                      have : ua.1 25 1 = g_r g + 1 := hRa.1.2.1
                                      omega
                                    · skip
                                      refine m_aload_n h dX8_row_230 rfl rfl ?_
                                      refine m_get h fo_X8_26 (by decide) rfl rfl dX8_row_231 ?_
                                      refine m_bipush h dX8_row_234 (by decide) ?_
                                      refine m_aload_n h dX8_row_236 rfl rfl ?_
                                      refine m_get h fo_X8_64 (by decide) rfl rfl dX8_row_237 ?_
                                      show M X G 9 u 240 [some (.ref (G.2.1 25)), some (.int (iI kd)), some (.int (iI a)), some (.int (iI b)), some (.int (iI c)), some (.int (iI R)), none, none, some (.int (iI (k : Int)))] [.int (iI (u.1 25 1)), .int (iI 8), .ref (G.2.1 31)]
                                      rw [e25r]
                                      show M X G 9 u 240 [some (.ref (G.2.1 25)), some (.int (iI kd)), some (.int (iI a)), some (.int (iI b)), some (.int (iI c)), some (.int (iI R)), none, none, some (.int (iI (k : Int)))] [.int (iI (g_r g)), .int (iI 8), .ref (G.2.1 31)]
                                      refine m_imul h dX8_row_240 ?_
                                      refine m_iload h dX8_row_241 rfl ?_
                                      refine m_iadd h dX8_row_243 ?_
                                      refine m_iconst h dX8_row_244 ?_
                                      refine m_iast h (ar_31 G) (by omega) (by omega) dX8_row_245 ?_
                                      refine m_iinc h dX8_row_246 rfl (by decide) rfl ?_
                                      refine m_goto h dX8_row_249 (tgt := 223) (by decide) ?_
                                      refine ih (k + 1) _ (by omega) (by omega) (rwF_w hw (by omega)) (fun x x0 x1 => ?_)
                                      by_cases e : x = (k : Int)
                                      · subst e; rw [wI_s]
                                      · rw [wI_n (by omega)]; exact hz x x0 (by omega)
                                exact lp223 100 0 _ (by omega) (by omega) (rwF_i (by rw [if_neg (by omega)]; rfl) (by rw [if_pos (by omega)]; exact (mN_nn (by have : isNm g b := (hgd.2.2.2.1 (by omega)).1; exact this.1)).symm) (by rw [if_pos (by omega)]; exact (mN_nn (by have : isNm g c := (hgd.2.2.2.2 (by omega)).1; exact this.1)).symm)) (fun x q1 q2 => by omega)
                          · skip
                            refine m_iload_n h dX8_row_148 rfl rfl ?_
                            refine m_goto h dX8_row_149 (tgt := 155) (by decide) ?_
                            refine m_iast h (ar_29 G) (by omega) (by omega) dX8_row_155 ?_
                            refine m_aload_n h dX8_row_156 rfl rfl ?_
                            refine m_get h fo_X8_20 (by decide) rfl rfl dX8_row_157 ?_
                            refine m_iconst h dX8_row_160 ?_
                            refine m_aload_n h dX8_row_161 rfl rfl ?_
                            refine m_get h fo_X8_64 (by decide) rfl rfl dX8_row_162 ?_
                            show M X G 9 (wI (wI v 28 (g_r g) kd) 29 (3 * (g_r g)) a) 165 [some (.ref (G.2.1 25)), some (.int (iI kd)), some (.int (iI a)), some (.int (iI b)), some (.int (iI c)), some (.int (iI R)), some (.int (iI ow)), some (.int (iI 1)), none] [.int (iI (v.1 25 1)), .int (iI 3), .ref (G.2.1 29)]
                            show M X G 9 (wI (wI v 28 (g_r g) kd) 29 (3 * (g_r g)) a) 165 [some (.ref (G.2.1 25)), some (.int (iI kd)), some (.int (iI a)), some (.int (iI b)), some (.int (iI c)), some (.int (iI R)), some (.int (iI ow)), some (.int (iI 1)), none] [.int (iI (v.1 25 1)), .int (iI 3), .ref (G.2.1 29)]
                            rw [s1]
                            show M X G 9 (wI (wI v 28 (g_r g) kd) 29 (3 * (g_r g)) a) 165 [some (.ref (G.2.1 25)), some (.int (iI kd)), some (.int (iI a)), some (.int (iI b)), some (.int (iI c)), some (.int (iI R)), some (.int (iI ow)), some (.int (iI 1)), none] [.int (iI (g_r g)), .int (iI 3), .ref (G.2.1 29)]
                            refine m_imul h dX8_row_165 ?_
                            refine m_iconst h dX8_row_166 ?_
                            refine m_iadd h dX8_row_167 ?_
                            refine m_iload h dX8_row_168 rfl ?_
                            refine m_iconst h dX8_row_170 ?_
                            refine m_icmp_le h dX8_row_171 (tgt := 178) (by decide) (by omega) (by omega) (fun c186 => ?_) (fun c186 => ?_)
                            · skip
                              refine m_sipush h dX8_row_178 (by decide) ?_
                              refine m_iast h (ar_29 G) (by omega) (by omega) dX8_row_181 ?_
                              refine m_aload_n h dX8_row_182 rfl rfl ?_
                              refine m_get h fo_X8_20 (by decide) rfl rfl dX8_row_183 ?_
                              refine m_iconst h dX8_row_186 ?_
                              refine m_aload_n h dX8_row_187 rfl rfl ?_
                              refine m_get h fo_X8_64 (by decide) rfl rfl dX8_row_188 ?_
                              show M X G 9 (wI (wI (wI v 28 (g_r g) kd) 29 (3 * (g_r g)) a) 29 ((3 * (g_r g)) + 1) (-1000)) 191 [some (.ref (G.2.1 25)), some (.int (iI kd)), some (.int (iI a)), some (.int (iI b)), some (.int (iI c)), some (.int (iI R)), some (.int (iI ow)), some (.int (iI 1)), none] [.int (iI (v.1 25 1)), .int (iI 3), .ref (G.2.1 29)]
                              show M X G 9 (wI (wI (wI v 28 (g_r g) kd) 29 (3 * (g_r g)) a) 29 ((3 * (g_r g)) + 1) (-1000)) 191 [some (.ref (G.2.1 25)), some (.int (iI kd)), some (.int (iI a)), some (.int (iI b)), some (.int (iI c)), some (.int (iI R)), some (.int (iI ow)), some (.int (iI 1)), none] [.int (iI (v.1 25 1)), .int (iI 3), .ref (G.2.1 29)]
                              rw [s1]
                              show M X G 9 (wI (wI (wI v 28 (g_r g) kd) 29 (3 * (g_r g)) a) 29 ((3 * (g_r g)) + 1) (-1000)) 191 [some (.ref (G.2.1 25)), some (.int (iI kd)), some (.int (iI a)), some (.int (iI b)), some (.int (iI c)), some (.int (iI R)), some (.int (iI ow)), some (.int (iI 1)), none] [.int (iI (g_r g)), .int (iI 3), .ref (G.2.1 29)]
                              refine m_imul h dX8_row_191 ?_
                              refine m_iconst h dX8_row_192 ?_
                              refine m_iadd h dX8_row_193 ?_
                              refine m_iload h dX8_row_194 rfl ?_
                              refine m_iconst h dX8_row_196 ?_
                              refine m_icmp_le h dX8_row_197 (tgt := 205) (by decide) (by omega) (by omega) (fun c187 => ?_) (fun c187 => ?_)
                              · skip
                                refine m_sipush h dX8_row_205 (by decide) ?_
                                refine m_iast h (ar_29 G) (by omega) (by omega) dX8_row_208 ?_
                                refine m_aload_n h dX8_row_209 rfl rfl ?_
                                refine m_get h fo_X8_23 (by decide) rfl rfl dX8_row_210 ?_
                                refine m_aload_n h dX8_row_213 rfl rfl ?_
                                refine m_get h fo_X8_64 (by decide) rfl rfl dX8_row_214 ?_
                                show M X G 9 (wI (wI (wI (wI v 28 (g_r g) kd) 29 (3 * (g_r g)) a) 29 ((3 * (g_r g)) + 1) (-1000)) 29 ((3 * (g_r g)) + 2) (-1000)) 217 [some (.ref (G.2.1 25)), some (.int (iI kd)), some (.int (iI a)), some (.int (iI b)), some (.int (iI c)), some (.int (iI R)), some (.int (iI ow)), some (.int (iI 1)), none] [.int (iI (v.1 25 1)), .ref (G.2.1 30)]
                                show M X G 9 (wI (wI (wI (wI v 28 (g_r g) kd) 29 (3 * (g_r g)) a) 29 ((3 * (g_r g)) + 1) (-1000)) 29 ((3 * (g_r g)) + 2) (-1000)) 217 [some (.ref (G.2.1 25)), some (.int (iI kd)), some (.int (iI a)), some (.int (iI b)), some (.int (iI c)), some (.int (iI R)), some (.int (iI ow)), some (.int (iI 1)), none] [.int (iI (v.1 25 1)), .ref (G.2.1 30)]
                                rw [s1]
                                show M X G 9 (wI (wI (wI (wI v 28 (g_r g) kd) 29 (3 * (g_r g)) a) 29 ((3 * (g_r g)) + 1) (-1000)) 29 ((3 * (g_r g)) + 2) (-1000)) 217 [some (.ref (G.2.1 25)), some (.int (iI kd)), some (.int (iI a)), some (.int (iI b)), some (.int (iI c)), some (.int (iI R)), some (.int (iI ow)), some (.int (iI 1)), none] [.int (iI (g_r g)), .ref (G.2.1 30)]
                                refine m_iload h dX8_row_217 rfl ?_
                                refine m_iast h (ar_30 G) (by omega) (by omega) dX8_row_219 ?_
                                refine m_iconst h dX8_row_220 ?_
                                refine m_istore h dX8_row_221 (by decide) rfl ?_
                                refine m_kill 6 ?_
                                refine m_kill 7 ?_
                                have lp223 : ∀ (fuel : Nat) (k : Nat) (u : Mem), k ≤ 8 → 20 - k < fuel → rwF v (g_r g) kd (if 1 ≤ NKs kd then a else -1) (if 2 ≤ NKs kd then b else -1) (if 3 ≤ NKs kd then c else -1) R u → (∀ x, 0 ≤ x → x < (k : Int) → u.1 31 (8 * g_r g + x) = 0) → M X G 9 u 223 [some (.ref (G.2.1 25)), some (.int (iI kd)), some (.int (iI a)), some (.int (iI b)), some (.int (iI c)), some (.int (iI R)), none, none, some (.int (iI (k : Int)))] [] := by
                                  intro fuel
                                  induction fuel with
                                  | zero => intro k u hk8 hfu hw hz; exfalso; omega
                                  | succ fuel ih =>
                                    intro k u hk8 hfu hw hz
                                    have e25r : u.1 25 1 = g_r g := by rw [hw.1 25 (by decide) (by decide) (by decide) (by decide)]; exact s1
                                    refine m_iload h dX8_row_223 rfl ?_
                                    refine m_bipush h dX8_row_225 (by decide) ?_
                                    refine m_icmp_ge h dX8_row_227 (tgt := 252) (by decide) (by omega) (by omega) (fun c188 => ?_) (fun c188 => ?_)
                                    · skip
                                      have hz8 : ∀ x, 0 ≤ x → x < 8 → u.1 31 (8 * g_r g + x) = 0 := fun x q1 q2 => hz x q1 (by omega)
                                      refine m_aload_n h dX8_row_252 rfl rfl ?_
                                      refine m_dup h dX8_row_253 rfl ?_
                                      refine m_get h fo_X8_64 (by decide) rfl rfl dX8_row_254 ?_
                                      show M X G 9 u 257 [some (.ref (G.2.1 25)), some (.int (iI kd)), some (.int (iI a)), some (.int (iI b)), some (.int (iI c)), some (.int (iI R)), none, none, some (.int (iI (k : Int)))] [.int (iI (u.1 25 1)), .ref (G.2.1 25)]
                                      rw [e25r]
                                      show M X G 9 u 257 [some (.ref (G.2.1 25)), some (.int (iI kd)), some (.int (iI a)), some (.int (iI b)), some (.int (iI c)), some (.int (iI R)), none, none, some (.int (iI (k : Int)))] [.int (iI (g_r g)), .ref (G.2.1 25)]
                                      refine m_iconst h dX8_row_257 ?_
                                      refine m_iadd h dX8_row_258 ?_
                                      refine m_putJ h fw_X8_64 (by decide) rfl (Nat.le_of_ble_eq_true rfl) (kz := 1) rfl rfl dX8_row_259 ?_
                                      have hS1 := rwF_s ⟨s0, s1, s2, s3⟩ hg hr12 hw hz8
                                      have hF1 : FrM v (wI u 25 1 ((g_r g) + 1)) := FrM.w ⟨fun i hi => hw.1 i (by omega) (by omega) (by omega) (by omega), hw.2.1⟩ (by omega)
                                      refine m_aload_n h dX8_row_262 rfl rfl ?_
                                      refine m_vV h (m_anew _ hG _ (by intro x x0 x1; exact hS1.2.2.1.z x x0 x1)) moX8_anew voX8_anew lk_X8_73 dX8_row_263 (by decide) (by decide) rfl rfl rfl (Nat.le_of_ble_eq_true rfl) (fun ua p191 => ?_)
                                      have hRa := RM_an hS1 p191 t
                                      have hFa := hF1.tr (ANW.m p191)
                                      have hAn := p191
                                      refine m_aload_n h dX8_row_266 rfl rfl ?_
                                      refine m_get h fo_X8_64 (by decide) rfl rfl dX8_row_267 ?_
                                      refine m_iconst h dX8_row_270 ?_
                                      refine m_isub h dX8_row_271 ?_
                                      refine m_iret h hR rfl dX8_row_272 ?_
                                      refine Or.inr ⟨hgd, Or.inr ⟨hr12, ?_, hRa, hFa⟩⟩
                                      have : ua.1 25 1 = g_r g + 1 := hRa.1.2.1
                                      omega
                                    · skip
                                      refine m_aload_n h dX8_row_230 rfl rfl ?_
                                      refine m_get h fo_X8_26 (by decide) rfl rfl dX8_row_231 ?_
                                      refine m_bipush h dX8_row_234 (by decide) ?_
                                      refine m_aload_n h dX8_row_236 rfl rfl ?_
                                      refine m_get h fo_X8_64 (by decide) rfl rfl dX8_row_237 ?_
                                      show M X G 9 u 240 [some (.ref (G.2.1 25)), some (.int (iI kd)), some (.int (iI a)), some (.int (iI b)), some (.int (iI c)), some (.int (iI R)), none, none, some (.int (iI (k : Int)))] [.int (iI (u.1 25 1)), .int (iI 8), .ref (G.2.1 31)]
                                      rw [e25r]
                                      show M X G 9 u 240 [some (.ref (G.2.1 25)), some (.int (iI kd)), some (.int (iI a)), some (.int (iI b)), some (.int (iI c)), some (.int (iI R)), none, none, some (.int (iI (k : Int)))] [.int (iI (g_r g)), .int (iI 8), .ref (G.2.1 31)]
                                      refine m_imul h dX8_row_240 ?_
                                      refine m_iload h dX8_row_241 rfl ?_
                                      refine m_iadd h dX8_row_243 ?_
                                      refine m_iconst h dX8_row_244 ?_
                                      refine m_iast h (ar_31 G) (by omega) (by omega) dX8_row_245 ?_
                                      refine m_iinc h dX8_row_246 rfl (by decide) rfl ?_
                                      refine m_goto h dX8_row_249 (tgt := 223) (by decide) ?_
                                      refine ih (k + 1) _ (by omega) (by omega) (rwF_w hw (by omega)) (fun x x0 x1 => ?_)
                                      by_cases e : x = (k : Int)
                                      · subst e; rw [wI_s]
                                      · rw [wI_n (by omega)]; exact hz x x0 (by omega)
                                exact lp223 100 0 _ (by omega) (by omega) (rwF_i (by rw [if_pos (by omega)]; exact (mN_nn (by have : isNm g a := hgd.2.2.1 (by omega); exact this.1)).symm) (by rw [if_neg (by omega)]; rfl) (by rw [if_neg (by omega)]; rfl)) (fun x q1 q2 => by omega)
                              · skip
                                refine m_iload h dX8_row_200 rfl ?_
                                refine m_goto h dX8_row_202 (tgt := 208) (by decide) ?_
                                refine m_iast h (ar_29 G) (by omega) (by omega) dX8_row_208 ?_
                                refine m_aload_n h dX8_row_209 rfl rfl ?_
                                refine m_get h fo_X8_23 (by decide) rfl rfl dX8_row_210 ?_
                                refine m_aload_n h dX8_row_213 rfl rfl ?_
                                refine m_get h fo_X8_64 (by decide) rfl rfl dX8_row_214 ?_
                                show M X G 9 (wI (wI (wI (wI v 28 (g_r g) kd) 29 (3 * (g_r g)) a) 29 ((3 * (g_r g)) + 1) (-1000)) 29 ((3 * (g_r g)) + 2) c) 217 [some (.ref (G.2.1 25)), some (.int (iI kd)), some (.int (iI a)), some (.int (iI b)), some (.int (iI c)), some (.int (iI R)), some (.int (iI ow)), some (.int (iI 1)), none] [.int (iI (v.1 25 1)), .ref (G.2.1 30)]
                                show M X G 9 (wI (wI (wI (wI v 28 (g_r g) kd) 29 (3 * (g_r g)) a) 29 ((3 * (g_r g)) + 1) (-1000)) 29 ((3 * (g_r g)) + 2) c) 217 [some (.ref (G.2.1 25)), some (.int (iI kd)), some (.int (iI a)), some (.int (iI b)), some (.int (iI c)), some (.int (iI R)), some (.int (iI ow)), some (.int (iI 1)), none] [.int (iI (v.1 25 1)), .ref (G.2.1 30)]
                                rw [s1]
                                show M X G 9 (wI (wI (wI (wI v 28 (g_r g) kd) 29 (3 * (g_r g)) a) 29 ((3 * (g_r g)) + 1) (-1000)) 29 ((3 * (g_r g)) + 2) c) 217 [some (.ref (G.2.1 25)), some (.int (iI kd)), some (.int (iI a)), some (.int (iI b)), some (.int (iI c)), some (.int (iI R)), some (.int (iI ow)), some (.int (iI 1)), none] [.int (iI (g_r g)), .ref (G.2.1 30)]
                                refine m_iload h dX8_row_217 rfl ?_
                                refine m_iast h (ar_30 G) (by omega) (by omega) dX8_row_219 ?_
                                refine m_iconst h dX8_row_220 ?_
                                refine m_istore h dX8_row_221 (by decide) rfl ?_
                                refine m_kill 6 ?_
                                refine m_kill 7 ?_
                                have lp223 : ∀ (fuel : Nat) (k : Nat) (u : Mem), k ≤ 8 → 20 - k < fuel → rwF v (g_r g) kd (if 1 ≤ NKs kd then a else -1) (if 2 ≤ NKs kd then b else -1) (if 3 ≤ NKs kd then c else -1) R u → (∀ x, 0 ≤ x → x < (k : Int) → u.1 31 (8 * g_r g + x) = 0) → M X G 9 u 223 [some (.ref (G.2.1 25)), some (.int (iI kd)), some (.int (iI a)), some (.int (iI b)), some (.int (iI c)), some (.int (iI R)), none, none, some (.int (iI (k : Int)))] [] := by
                                  intro fuel
                                  induction fuel with
                                  | zero => intro k u hk8 hfu hw hz; exfalso; omega
                                  | succ fuel ih =>
                                    intro k u hk8 hfu hw hz
                                    have e25r : u.1 25 1 = g_r g := by rw [hw.1 25 (by decide) (by decide) (by decide) (by decide)]; exact s1
                                    refine m_iload h dX8_row_223 rfl ?_
                                    refine m_bipush h dX8_row_225 (by decide) ?_
                                    refine m_icmp_ge h dX8_row_227 (tgt := 252) (by decide) (by omega) (by omega) (fun c192 => ?_) (fun c192 => ?_)
                                    · skip
                                      have hz8 : ∀ x, 0 ≤ x → x < 8 → u.1 31 (8 * g_r g + x) = 0 := fun x q1 q2 => hz x q1 (by omega)
                                      refine m_aload_n h dX8_row_252 rfl rfl ?_
                                      refine m_dup h dX8_row_253 rfl ?_
                                      refine m_get h fo_X8_64 (by decide) rfl rfl dX8_row_254 ?_
                                      show M X G 9 u 257 [some (.ref (G.2.1 25)), some (.int (iI kd)), some (.int (iI a)), some (.int (iI b)), some (.int (iI c)), some (.int (iI R)), none, none, some (.int (iI (k : Int)))] [.int (iI (u.1 25 1)), .ref (G.2.1 25)]
                                      rw [e25r]
                                      show M X G 9 u 257 [some (.ref (G.2.1 25)), some (.int (iI kd)), some (.int (iI a)), some (.int (iI b)), some (.int (iI c)), some (.int (iI R)), none, none, some (.int (iI (k : Int)))] [.int (iI (g_r g)), .ref (G.2.1 25)]
                                      refine m_iconst h dX8_row_257 ?_
                                      refine m_iadd h dX8_row_258 ?_
                                      refine m_putJ h fw_X8_64 (by decide) rfl (Nat.le_of_ble_eq_true rfl) (kz := 1) rfl rfl dX8_row_259 ?_
                                      have hS1 := rwF_s ⟨s0, s1, s2, s3⟩ hg hr12 hw hz8
                                      have hF1 : FrM v (wI u 25 1 ((g_r g) + 1)) := FrM.w ⟨fun i hi => hw.1 i (by omega) (by omega) (by omega) (by omega), hw.2.1⟩ (by omega)
                                      refine m_aload_n h dX8_row_262 rfl rfl ?_
                                      refine m_vV h (m_anew _ hG _ (by intro x x0 x1; exact hS1.2.2.1.z x x0 x1)) moX8_anew voX8_anew lk_X8_73 dX8_row_263 (by decide) (by decide) rfl rfl rfl (Nat.le_of_ble_eq_true rfl) (fun ua p195 => ?_)
                                      have hRa := RM_an hS1 p195 t
                                      have hFa := hF1.tr (ANW.m p195)
                                      have hAn := p195
                                      refine m_aload_n h dX8_row_266 rfl rfl ?_
                                      refine m_get h fo_X8_64 (by decide) rfl rfl dX8_row_267 ?_
                                      refine m_iconst h dX8_row_270 ?_
                                      refine m_isub h dX8_row_271 ?_
                                      refine m_iret h hR rfl dX8_row_272 ?_
                                      refine Or.inr ⟨hgd, Or.inr ⟨hr12, ?_, hRa, hFa⟩⟩
                                      have : ua.1 25 1 = g_r g + 1 := hRa.1.2.1
                                      omega
                                    · skip
                                      refine m_aload_n h dX8_row_230 rfl rfl ?_
                                      refine m_get h fo_X8_26 (by decide) rfl rfl dX8_row_231 ?_
                                      refine m_bipush h dX8_row_234 (by decide) ?_
                                      refine m_aload_n h dX8_row_236 rfl rfl ?_
                                      refine m_get h fo_X8_64 (by decide) rfl rfl dX8_row_237 ?_
                                      show M X G 9 u 240 [some (.ref (G.2.1 25)), some (.int (iI kd)), some (.int (iI a)), some (.int (iI b)), some (.int (iI c)), some (.int (iI R)), none, none, some (.int (iI (k : Int)))] [.int (iI (u.1 25 1)), .int (iI 8), .ref (G.2.1 31)]
                                      rw [e25r]
                                      show M X G 9 u 240 [some (.ref (G.2.1 25)), some (.int (iI kd)), some (.int (iI a)), some (.int (iI b)), some (.int (iI c)), some (.int (iI R)), none, none, some (.int (iI (k : Int)))] [.int (iI (g_r g)), .int (iI 8), .ref (G.2.1 31)]
                                      refine m_imul h dX8_row_240 ?_
                                      refine m_iload h dX8_row_241 rfl ?_
                                      refine m_iadd h dX8_row_243 ?_
                                      refine m_iconst h dX8_row_244 ?_
                                      refine m_iast h (ar_31 G) (by omega) (by omega) dX8_row_245 ?_
                                      refine m_iinc h dX8_row_246 rfl (by decide) rfl ?_
                                      refine m_goto h dX8_row_249 (tgt := 223) (by decide) ?_
                                      refine ih (k + 1) _ (by omega) (by omega) (rwF_w hw (by omega)) (fun x x0 x1 => ?_)
                                      by_cases e : x = (k : Int)
                                      · subst e; rw [wI_s]
                                      · rw [wI_n (by omega)]; exact hz x x0 (by omega)
                                exact lp223 100 0 _ (by omega) (by omega) (rwF_i (by rw [if_pos (by omega)]; exact (mN_nn (by have : isNm g a := hgd.2.2.1 (by omega); exact this.1)).symm) (by rw [if_neg (by omega)]; rfl) (by rw [if_pos (by omega)]; exact (mN_nn (by have : isNm g c := (hgd.2.2.2.2 (by omega)).1; exact this.1)).symm)) (fun x q1 q2 => by omega)
                            · skip
                              refine m_iload_n h dX8_row_174 rfl rfl ?_
                              refine m_goto h dX8_row_175 (tgt := 181) (by decide) ?_
                              refine m_iast h (ar_29 G) (by omega) (by omega) dX8_row_181 ?_
                              refine m_aload_n h dX8_row_182 rfl rfl ?_
                              refine m_get h fo_X8_20 (by decide) rfl rfl dX8_row_183 ?_
                              refine m_iconst h dX8_row_186 ?_
                              refine m_aload_n h dX8_row_187 rfl rfl ?_
                              refine m_get h fo_X8_64 (by decide) rfl rfl dX8_row_188 ?_
                              show M X G 9 (wI (wI (wI v 28 (g_r g) kd) 29 (3 * (g_r g)) a) 29 ((3 * (g_r g)) + 1) b) 191 [some (.ref (G.2.1 25)), some (.int (iI kd)), some (.int (iI a)), some (.int (iI b)), some (.int (iI c)), some (.int (iI R)), some (.int (iI ow)), some (.int (iI 1)), none] [.int (iI (v.1 25 1)), .int (iI 3), .ref (G.2.1 29)]
                              show M X G 9 (wI (wI (wI v 28 (g_r g) kd) 29 (3 * (g_r g)) a) 29 ((3 * (g_r g)) + 1) b) 191 [some (.ref (G.2.1 25)), some (.int (iI kd)), some (.int (iI a)), some (.int (iI b)), some (.int (iI c)), some (.int (iI R)), some (.int (iI ow)), some (.int (iI 1)), none] [.int (iI (v.1 25 1)), .int (iI 3), .ref (G.2.1 29)]
                              rw [s1]
                              show M X G 9 (wI (wI (wI v 28 (g_r g) kd) 29 (3 * (g_r g)) a) 29 ((3 * (g_r g)) + 1) b) 191 [some (.ref (G.2.1 25)), some (.int (iI kd)), some (.int (iI a)), some (.int (iI b)), some (.int (iI c)), some (.int (iI R)), some (.int (iI ow)), some (.int (iI 1)), none] [.int (iI (g_r g)), .int (iI 3), .ref (G.2.1 29)]
                              refine m_imul h dX8_row_191 ?_
                              refine m_iconst h dX8_row_192 ?_
                              refine m_iadd h dX8_row_193 ?_
                              refine m_iload h dX8_row_194 rfl ?_
                              refine m_iconst h dX8_row_196 ?_
                              refine m_icmp_le h dX8_row_197 (tgt := 205) (by decide) (by omega) (by omega) (fun c196 => ?_) (fun c196 => ?_)
                              · skip
                                refine m_sipush h dX8_row_205 (by decide) ?_
                                refine m_iast h (ar_29 G) (by omega) (by omega) dX8_row_208 ?_
                                refine m_aload_n h dX8_row_209 rfl rfl ?_
                                refine m_get h fo_X8_23 (by decide) rfl rfl dX8_row_210 ?_
                                refine m_aload_n h dX8_row_213 rfl rfl ?_
                                refine m_get h fo_X8_64 (by decide) rfl rfl dX8_row_214 ?_
                                show M X G 9 (wI (wI (wI (wI v 28 (g_r g) kd) 29 (3 * (g_r g)) a) 29 ((3 * (g_r g)) + 1) b) 29 ((3 * (g_r g)) + 2) (-1000)) 217 [some (.ref (G.2.1 25)), some (.int (iI kd)), some (.int (iI a)), some (.int (iI b)), some (.int (iI c)), some (.int (iI R)), some (.int (iI ow)), some (.int (iI 1)), none] [.int (iI (v.1 25 1)), .ref (G.2.1 30)]
                                show M X G 9 (wI (wI (wI (wI v 28 (g_r g) kd) 29 (3 * (g_r g)) a) 29 ((3 * (g_r g)) + 1) b) 29 ((3 * (g_r g)) + 2) (-1000)) 217 [some (.ref (G.2.1 25)), some (.int (iI kd)), some (.int (iI a)), some (.int (iI b)), some (.int (iI c)), some (.int (iI R)), some (.int (iI ow)), some (.int (iI 1)), none] [.int (iI (v.1 25 1)), .ref (G.2.1 30)]
                                rw [s1]
                                show M X G 9 (wI (wI (wI (wI v 28 (g_r g) kd) 29 (3 * (g_r g)) a) 29 ((3 * (g_r g)) + 1) b) 29 ((3 * (g_r g)) + 2) (-1000)) 217 [some (.ref (G.2.1 25)), some (.int (iI kd)), some (.int (iI a)), some (.int (iI b)), some (.int (iI c)), some (.int (iI R)), some (.int (iI ow)), some (.int (iI 1)), none] [.int (iI (g_r g)), .ref (G.2.1 30)]
                                refine m_iload h dX8_row_217 rfl ?_
                                refine m_iast h (ar_30 G) (by omega) (by omega) dX8_row_219 ?_
                                refine m_iconst h dX8_row_220 ?_
                                refine m_istore h dX8_row_221 (by decide) rfl ?_
                                refine m_kill 6 ?_
                                refine m_kill 7 ?_
                                have lp223 : ∀ (fuel : Nat) (k : Nat) (u : Mem), k ≤ 8 → 20 - k < fuel → rwF v (g_r g) kd (if 1 ≤ NKs kd then a else -1) (if 2 ≤ NKs kd then b else -1) (if 3 ≤ NKs kd then c else -1) R u → (∀ x, 0 ≤ x → x < (k : Int) → u.1 31 (8 * g_r g + x) = 0) → M X G 9 u 223 [some (.ref (G.2.1 25)), some (.int (iI kd)), some (.int (iI a)), some (.int (iI b)), some (.int (iI c)), some (.int (iI R)), none, none, some (.int (iI (k : Int)))] [] := by
                                  intro fuel
                                  induction fuel with
                                  | zero => intro k u hk8 hfu hw hz; exfalso; omega
                                  | succ fuel ih =>
                                    intro k u hk8 hfu hw hz
                                    have e25r : u.1 25 1 = g_r g := by rw [hw.1 25 (by decide) (by decide) (by decide) (by decide)]; exact s1
                                    refine m_iload h dX8_row_223 rfl ?_
                                    refine m_bipush h dX8_row_225 (by decide) ?_
                                    refine m_icmp_ge h dX8_row_227 (tgt := 252) (by decide) (by omega) (by omega) (fun c197 => ?_) (fun c197 => ?_)
                                    · skip
                                      have hz8 : ∀ x, 0 ≤ x → x < 8 → u.1 31 (8 * g_r g + x) = 0 := fun x q1 q2 => hz x q1 (by omega)
                                      refine m_aload_n h dX8_row_252 rfl rfl ?_
                                      refine m_dup h dX8_row_253 rfl ?_
                                      refine m_get h fo_X8_64 (by decide) rfl rfl dX8_row_254 ?_
                                      show M X G 9 u 257 [some (.ref (G.2.1 25)), some (.int (iI kd)), some (.int (iI a)), some (.int (iI b)), some (.int (iI c)), some (.int (iI R)), none, none, some (.int (iI (k : Int)))] [.int (iI (u.1 25 1)), .ref (G.2.1 25)]
                                      rw [e25r]
                                      show M X G 9 u 257 [some (.ref (G.2.1 25)), some (.int (iI kd)), some (.int (iI a)), some (.int (iI b)), some (.int (iI c)), some (.int (iI R)), none, none, some (.int (iI (k : Int)))] [.int (iI (g_r g)), .ref (G.2.1 25)]
                                      refine m_iconst h dX8_row_257 ?_
                                      refine m_iadd h dX8_row_258 ?_
                                      refine m_putJ h fw_X8_64 (by decide) rfl (Nat.le_of_ble_eq_true rfl) (kz := 1) rfl rfl dX8_row_259 ?_
                                      have hS1 := rwF_s ⟨s0, s1, s2, s3⟩ hg hr12 hw hz8
                                      have hF1 : FrM v (wI u 25 1 ((g_r g) + 1)) := FrM.w ⟨fun i hi => hw.1 i (by omega) (by omega) (by omega) (by omega), hw.2.1⟩ (by omega)
                                      refine m_aload_n h dX8_row_262 rfl rfl ?_
                                      refine m_vV h (m_anew _ hG _ (by intro x x0 x1; exact hS1.2.2.1.z x x0 x1)) moX8_anew voX8_anew lk_X8_73 dX8_row_263 (by decide) (by decide) rfl rfl rfl (Nat.le_of_ble_eq_true rfl) (fun ua p200 => ?_)
                                      have hRa := RM_an hS1 p200 t
                                      have hFa := hF1.tr (ANW.m p200)
                                      have hAn := p200
                                      refine m_aload_n h dX8_row_266 rfl rfl ?_
                                      refine m_get h fo_X8_64 (by decide) rfl rfl dX8_row_267 ?_
                                      refine m_iconst h dX8_row_270 ?_
                                      refine m_isub h dX8_row_271 ?_
                                      refine m_iret h hR rfl dX8_row_272 ?_
                                      refine Or.inr ⟨hgd, Or.inr ⟨hr12, ?_, hRa, hFa⟩⟩
                                      have : ua.1 25 1 = g_r g + 1 := hRa.1.2.1
                                      omega
                                    · skip
                                      refine m_aload_n h dX8_row_230 rfl rfl ?_
                                      refine m_get h fo_X8_26 (by decide) rfl rfl dX8_row_231 ?_
                                      refine m_bipush h dX8_row_234 (by decide) ?_
                                      refine m_aload_n h dX8_row_236 rfl rfl ?_
                                      refine m_get h fo_X8_64 (by decide) rfl rfl dX8_row_237 ?_
                                      show M X G 9 u 240 [some (.ref (G.2.1 25)), some (.int (iI kd)), some (.int (iI a)), some (.int (iI b)), some (.int (iI c)), some (.int (iI R)), none, none, some (.int (iI (k : Int)))] [.int (iI (u.1 25 1)), .int (iI 8), .ref (G.2.1 31)]
                                      rw [e25r]
                                      show M X G 9 u 240 [some (.ref (G.2.1 25)), some (.int (iI kd)), some (.int (iI a)), some (.int (iI b)), some (.int (iI c)), some (.int (iI R)), none, none, some (.int (iI (k : Int)))] [.int (iI (g_r g)), .int (iI 8), .ref (G.2.1 31)]
                                      refine m_imul h dX8_row_240 ?_
                                      refine m_iload h dX8_row_241 rfl ?_
                                      refine m_iadd h dX8_row_243 ?_
                                      refine m_iconst h dX8_row_244 ?_
                                      refine m_iast h (ar_31 G) (by omega) (by omega) dX8_row_245 ?_
                                      refine m_iinc h dX8_row_246 rfl (by decide) rfl ?_
                                      refine m_goto h dX8_row_249 (tgt := 223) (by decide) ?_
                                      refine ih (k + 1) _ (by omega) (by omega) (rwF_w hw (by omega)) (fun x x0 x1 => ?_)
                                      by_cases e : x = (k : Int)
                                      · subst e; rw [wI_s]
                                      · rw [wI_n (by omega)]; exact hz x x0 (by omega)
                                exact lp223 100 0 _ (by omega) (by omega) (rwF_i (by rw [if_pos (by omega)]; exact (mN_nn (by have : isNm g a := hgd.2.2.1 (by omega); exact this.1)).symm) (by rw [if_pos (by omega)]; exact (mN_nn (by have : isNm g b := (hgd.2.2.2.1 (by omega)).1; exact this.1)).symm) (by rw [if_neg (by omega)]; rfl)) (fun x q1 q2 => by omega)
                              · skip
                                refine m_iload h dX8_row_200 rfl ?_
                                refine m_goto h dX8_row_202 (tgt := 208) (by decide) ?_
                                refine m_iast h (ar_29 G) (by omega) (by omega) dX8_row_208 ?_
                                refine m_aload_n h dX8_row_209 rfl rfl ?_
                                refine m_get h fo_X8_23 (by decide) rfl rfl dX8_row_210 ?_
                                refine m_aload_n h dX8_row_213 rfl rfl ?_
                                refine m_get h fo_X8_64 (by decide) rfl rfl dX8_row_214 ?_
                                show M X G 9 (wI (wI (wI (wI v 28 (g_r g) kd) 29 (3 * (g_r g)) a) 29 ((3 * (g_r g)) + 1) b) 29 ((3 * (g_r g)) + 2) c) 217 [some (.ref (G.2.1 25)), some (.int (iI kd)), some (.int (iI a)), some (.int (iI b)), some (.int (iI c)), some (.int (iI R)), some (.int (iI ow)), some (.int (iI 1)), none] [.int (iI (v.1 25 1)), .ref (G.2.1 30)]
                                show M X G 9 (wI (wI (wI (wI v 28 (g_r g) kd) 29 (3 * (g_r g)) a) 29 ((3 * (g_r g)) + 1) b) 29 ((3 * (g_r g)) + 2) c) 217 [some (.ref (G.2.1 25)), some (.int (iI kd)), some (.int (iI a)), some (.int (iI b)), some (.int (iI c)), some (.int (iI R)), some (.int (iI ow)), some (.int (iI 1)), none] [.int (iI (v.1 25 1)), .ref (G.2.1 30)]
                                rw [s1]
                                show M X G 9 (wI (wI (wI (wI v 28 (g_r g) kd) 29 (3 * (g_r g)) a) 29 ((3 * (g_r g)) + 1) b) 29 ((3 * (g_r g)) + 2) c) 217 [some (.ref (G.2.1 25)), some (.int (iI kd)), some (.int (iI a)), some (.int (iI b)), some (.int (iI c)), some (.int (iI R)), some (.int (iI ow)), some (.int (iI 1)), none] [.int (iI (g_r g)), .ref (G.2.1 30)]
                                refine m_iload h dX8_row_217 rfl ?_
                                refine m_iast h (ar_30 G) (by omega) (by omega) dX8_row_219 ?_
                                refine m_iconst h dX8_row_220 ?_
                                refine m_istore h dX8_row_221 (by decide) rfl ?_
                                refine m_kill 6 ?_
                                refine m_kill 7 ?_
                                have lp223 : ∀ (fuel : Nat) (k : Nat) (u : Mem), k ≤ 8 → 20 - k < fuel → rwF v (g_r g) kd (if 1 ≤ NKs kd then a else -1) (if 2 ≤ NKs kd then b else -1) (if 3 ≤ NKs kd then c else -1) R u → (∀ x, 0 ≤ x → x < (k : Int) → u.1 31 (8 * g_r g + x) = 0) → M X G 9 u 223 [some (.ref (G.2.1 25)), some (.int (iI kd)), some (.int (iI a)), some (.int (iI b)), some (.int (iI c)), some (.int (iI R)), none, none, some (.int (iI (k : Int)))] [] := by
                                  intro fuel
                                  induction fuel with
                                  | zero => intro k u hk8 hfu hw hz; exfalso; omega
                                  | succ fuel ih =>
                                    intro k u hk8 hfu hw hz
                                    have e25r : u.1 25 1 = g_r g := by rw [hw.1 25 (by decide) (by decide) (by decide) (by decide)]; exact s1
                                    refine m_iload h dX8_row_223 rfl ?_
                                    refine m_bipush h dX8_row_225 (by decide) ?_
                                    refine m_icmp_ge h dX8_row_227 (tgt := 252) (by decide) (by omega) (by omega) (fun c201 => ?_) (fun c201 => ?_)
                                    · skip
                                      have hz8 : ∀ x, 0 ≤ x → x < 8 → u.1 31 (8 * g_r g + x) = 0 := fun x q1 q2 => hz x q1 (by omega)
                                      refine m_aload_n h dX8_row_252 rfl rfl ?_
                                      refine m_dup h dX8_row_253 rfl ?_
                                      refine m_get h fo_X8_64 (by decide) rfl rfl dX8_row_254 ?_
                                      show M X G 9 u 257 [some (.ref (G.2.1 25)), some (.int (iI kd)), some (.int (iI a)), some (.int (iI b)), some (.int (iI c)), some (.int (iI R)), none, none, some (.int (iI (k : Int)))] [.int (iI (u.1 25 1)), .ref (G.2.1 25)]
                                      rw [e25r]
                                      show M X G 9 u 257 [some (.ref (G.2.1 25)), some (.int (iI kd)), some (.int (iI a)), some (.int (iI b)), some (.int (iI c)), some (.int (iI R)), none, none, some (.int (iI (k : Int)))] [.int (iI (g_r g)), .ref (G.2.1 25)]
                                      refine m_iconst h dX8_row_257 ?_
                                      refine m_iadd h dX8_row_258 ?_
                                      refine m_putJ h fw_X8_64 (by decide) rfl (Nat.le_of_ble_eq_true rfl) (kz := 1) rfl rfl dX8_row_259 ?_
                                      have hS1 := rwF_s ⟨s0, s1, s2, s3⟩ hg hr12 hw hz8
                                      have hF1 : FrM v (wI u 25 1 ((g_r g) + 1)) := FrM.w ⟨fun i hi => hw.1 i (by omega) (by omega) (by omega) (by omega), hw.2.1⟩ (by omega)
                                      refine m_aload_n h dX8_row_262 rfl rfl ?_
                                      refine m_vV h (m_anew _ hG _ (by intro x x0 x1; exact hS1.2.2.1.z x x0 x1)) moX8_anew voX8_anew lk_X8_73 dX8_row_263 (by decide) (by decide) rfl rfl rfl (Nat.le_of_ble_eq_true rfl) (fun ua p204 => ?_)
                                      have hRa := RM_an hS1 p204 t
                                      have hFa := hF1.tr (ANW.m p204)
                                      have hAn := p204
                                      refine m_aload_n h dX8_row_266 rfl rfl ?_
                                      refine m_get h fo_X8_64 (by decide) rfl rfl dX8_row_267 ?_
                                      refine m_iconst h dX8_row_270 ?_
                                      refine m_isub h dX8_row_271 ?_
                                      refine m_iret h hR rfl dX8_row_272 ?_
                                      refine Or.inr ⟨hgd, Or.inr ⟨hr12, ?_, hRa, hFa⟩⟩
                                      have : ua.1 25 1 = g_r g + 1 := hRa.1.2.1
                                      omega
                                    · skip
                                      refine m_aload_n h dX8_row_230 rfl rfl ?_
                                      refine m_get h fo_X8_26 (by decide) rfl rfl dX8_row_231 ?_
                                      refine m_bipush h dX8_row_234 (by decide) ?_
                                      refine m_aload_n h dX8_row_236 rfl rfl ?_
                                      refine m_get h fo_X8_64 (by decide) rfl rfl dX8_row_237 ?_
                                      show M X G 9 u 240 [some (.ref (G.2.1 25)), some (.int (iI kd)), some (.int (iI a)), some (.int (iI b)), some (.int (iI c)), some (.int (iI R)), none, none, some (.int (iI (k : Int)))] [.int (iI (u.1 25 1)), .int (iI 8), .ref (G.2.1 31)]
                                      rw [e25r]
                                      show M X G 9 u 240 [some (.ref (G.2.1 25)), some (.int (iI kd)), some (.int (iI a)), some (.int (iI b)), some (.int (iI c)), some (.int (iI R)), none, none, some (.int (iI (k : Int)))] [.int (iI (g_r g)), .int (iI 8), .ref (G.2.1 31)]
                                      refine m_imul h dX8_row_240 ?_
                                      refine m_iload h dX8_row_241 rfl ?_
                                      refine m_iadd h dX8_row_243 ?_
                                      refine m_iconst h dX8_row_244 ?_
                                      refine m_iast h (ar_31 G) (by omega) (by omega) dX8_row_245 ?_
                                      refine m_iinc h dX8_row_246 rfl (by decide) rfl ?_
                                      refine m_goto h dX8_row_249 (tgt := 223) (by decide) ?_
                                      refine ih (k + 1) _ (by omega) (by omega) (rwF_w hw (by omega)) (fun x x0 x1 => ?_)
                                      by_cases e : x = (k : Int)
                                      · subst e; rw [wI_s]
                                      · rw [wI_n (by omega)]; exact hz x x0 (by omega)
                                exact lp223 100 0 _ (by omega) (by omega) (rwF_i (by rw [if_pos (by omega)]; exact (mN_nn (by have : isNm g a := hgd.2.2.1 (by omega); exact this.1)).symm) (by rw [if_pos (by omega)]; exact (mN_nn (by have : isNm g b := (hgd.2.2.2.1 (by omega)).1; exact this.1)).symm) (by rw [if_pos (by omega)]; exact (mN_nn (by have : isNm g c := (hgd.2.2.2.2 (by omega)).1; exact this.1)).symm)) (fun x q1 q2 => by omega)
                        · skip
                          refine m_sipush h dX8_row_119 (by decide) ?_
                          refine m_iret h hR rfl dX8_row_122 ?_
                          exact Or.inr ⟨⟨h1, h2, hgd3⟩, Or.inl ⟨by omega, rfl, rfl⟩⟩
                      · skip
                        omega
      · skip
        refine m_aload_n h dX8_row_40 rfl rfl ?_
        refine m_iload_n h dX8_row_41 rfl rfl ?_
        refine m_vI h (m_isName _ hG _ a ha (by omega)) moX8_isName voX8_isName lk_X8_76 dX8_row_42 (by decide) (by decide) rfl rfl rfl (Nat.le_of_ble_eq_true rfl) (fun r205 u206 p207 => ?_)
        obtain ⟨hu9, hba⟩ := p207
        rw [hu9]
        rw [s0] at hba
        have hba : bz r205 (isNm g a) := hba
        have hbai := hba.in
        refine m_if_eq h dX8_row_45 (tgt := 98) (by decide) (by omega) (fun c208 => ?_) (fun c208 => ?_)
        · skip
          have hgd4 : ¬ ((1 ≤ NKs kd → isNm g a) ∧ (2 ≤ NKs kd → isNm g b ∧ b ≠ a) ∧ (3 ≤ NKs kd → isNm g c ∧ c ≠ a ∧ c ≠ b)) := fun q => by
            first
              | exact absurd (q.2.2 (by omega)).2.2 (by omega)
              | exact absurd (q.2.2 (by omega)).2.1 (by omega)
              | exact hbc.no (by omega) (q.2.2 (by omega)).1
              | exact absurd (q.2.1 (by omega)).2 (by omega)
              | exact hbb.no (by omega) (q.2.1 (by omega)).1
              | exact hba.no (by omega) (q.1 (by omega))
          refine m_iconst h dX8_row_98 ?_
          refine m_istore h dX8_row_99 (by decide) rfl ?_
          refine m_iload h dX8_row_101 rfl ?_
          refine m_if_ne h dX8_row_103 (tgt := 110) (by decide) (by omega) (fun c209 => ?_) (fun c209 => ?_)
          · skip
            omega
          · skip
            refine m_sipush h dX8_row_106 (by decide) ?_
            refine m_iret h hR rfl dX8_row_109 ?_
            refine Or.inl ⟨fun q => ?_, rfl, rfl⟩
            exact hgd4 q.2.2
        · skip
          refine m_iload h dX8_row_48 rfl ?_
          refine m_iconst h dX8_row_50 ?_
          refine m_icmp_lt h dX8_row_51 (tgt := 67) (by decide) (by omega) (by omega) (fun c210 => ?_) (fun c210 => ?_)
          · skip
            refine m_iload h dX8_row_67 rfl ?_
            refine m_iconst h dX8_row_69 ?_
            refine m_icmp_lt h dX8_row_70 (tgt := 94) (by decide) (by omega) (by omega) (fun c211 => ?_) (fun c211 => ?_)
            · skip
              have hgd3 : ((1 ≤ NKs kd → isNm g a) ∧ (2 ≤ NKs kd → isNm g b ∧ b ≠ a) ∧ (3 ≤ NKs kd → isNm g c ∧ c ≠ a ∧ c ≠ b)) := by
                refine ⟨fun q => ?_, fun q => ?_, fun q => ?_⟩
                · first | omega | exact hba.yes (by omega)
                · first | omega | exact ⟨hbb.yes (by omega), by omega⟩
                · first | omega | exact ⟨hbc.yes (by omega), by omega, by omega⟩
              refine m_iconst h dX8_row_94 ?_
              refine m_goto h dX8_row_95 (tgt := 99) (by decide) ?_
              refine m_istore h dX8_row_99 (by decide) rfl ?_
              refine m_iload h dX8_row_101 rfl ?_
              refine m_if_ne h dX8_row_103 (tgt := 110) (by decide) (by omega) (fun c212 => ?_) (fun c212 => ?_)
              · skip
                refine m_aload_n h dX8_row_110 rfl rfl ?_
                refine m_get h fo_X8_64 (by decide) rfl rfl dX8_row_111 ?_
                refine m_bipush h dX8_row_114 (by decide) ?_
                refine m_icmp_ne h dX8_row_116 (tgt := 123) (by decide) (by omega) (by omega) (fun c213 => ?_) (fun c213 => ?_)
                · skip
                  have hgd : RwGood g kd a b c R := ⟨h1, h2, hgd3⟩
                  have hr12 : g_r g < 12 := by omega
                  have hNr := nks_rg kd
                  refine m_aload_n h dX8_row_123 rfl rfl ?_
                  refine m_get h fo_X8_16 (by decide) rfl rfl dX8_row_124 ?_
                  refine m_aload_n h dX8_row_127 rfl rfl ?_
                  refine m_get h fo_X8_64 (by decide) rfl rfl dX8_row_128 ?_
                  show M X G 9 v 131 [some (.ref (G.2.1 25)), some (.int (iI kd)), some (.int (iI a)), some (.int (iI b)), some (.int (iI c)), some (.int (iI R)), some (.int (iI ow)), some (.int (iI 1)), none] [.int (iI (v.1 25 1)), .ref (G.2.1 28)]
                  rw [s1]
                  show M X G 9 v 131 [some (.ref (G.2.1 25)), some (.int (iI kd)), some (.int (iI a)), some (.int (iI b)), some (.int (iI c)), some (.int (iI R)), some (.int (iI ow)), some (.int (iI 1)), none] [.int (iI (g_r g)), .ref (G.2.1 28)]
                  refine m_iload_n h dX8_row_131 rfl rfl ?_
                  refine m_iast h (ar_28 G) (by omega) (by omega) dX8_row_132 ?_
                  refine m_aload_n h dX8_row_133 rfl rfl ?_
                  refine m_get h fo_X8_20 (by decide) rfl rfl dX8_row_134 ?_
                  refine m_iconst h dX8_row_137 ?_
                  refine m_aload_n h dX8_row_138 rfl rfl ?_
                  refine m_get h fo_X8_64 (by decide) rfl rfl dX8_row_139 ?_
                  show M X G 9 (wI v 28 (g_r g) kd) 142 [some (.ref (G.2.1 25)), some (.int (iI kd)), some (.int (iI a)), some (.int (iI b)), some (.int (iI c)), some (.int (iI R)), some (.int (iI ow)), some (.int (iI 1)), none] [.int (iI (v.1 25 1)), .int (iI 3), .ref (G.2.1 29)]
                  show M X G 9 (wI v 28 (g_r g) kd) 142 [some (.ref (G.2.1 25)), some (.int (iI kd)), some (.int (iI a)), some (.int (iI b)), some (.int (iI c)), some (.int (iI R)), some (.int (iI ow)), some (.int (iI 1)), none] [.int (iI (v.1 25 1)), .int (iI 3), .ref (G.2.1 29)]
                  rw [s1]
                  show M X G 9 (wI v 28 (g_r g) kd) 142 [some (.ref (G.2.1 25)), some (.int (iI kd)), some (.int (iI a)), some (.int (iI b)), some (.int (iI c)), some (.int (iI R)), some (.int (iI ow)), some (.int (iI 1)), none] [.int (iI (g_r g)), .int (iI 3), .ref (G.2.1 29)]
                  refine m_imul h dX8_row_142 ?_
                  refine m_iload h dX8_row_143 rfl ?_
                  refine m_if_le h dX8_row_145 (tgt := 152) (by decide) (by omega) (fun c214 => ?_) (fun c214 => ?_)
                  · skip
                    refine m_sipush h dX8_row_152 (by decide) ?_
                    refine m_iast h (ar_29 G) (by omega) (by omega) dX8_row_155 ?_
                    refine m_aload_n h dX8_row_156 rfl rfl ?_
                    refine m_get h fo_X8_20 (by decide) rfl rfl dX8_row_157 ?_
                    refine m_iconst h dX8_row_160 ?_
                    refine m_aload_n h dX8_row_161 rfl rfl ?_
                    refine m_get h fo_X8_64 (by decide) rfl rfl dX8_row_162 ?_
                    show M X G 9 (wI (wI v 28 (g_r g) kd) 29 (3 * (g_r g)) (-1000)) 165 [some (.ref (G.2.1 25)), some (.int (iI kd)), some (.int (iI a)), some (.int (iI b)), some (.int (iI c)), some (.int (iI R)), some (.int (iI ow)), some (.int (iI 1)), none] [.int (iI (v.1 25 1)), .int (iI 3), .ref (G.2.1 29)]
                    show M X G 9 (wI (wI v 28 (g_r g) kd) 29 (3 * (g_r g)) (-1000)) 165 [some (.ref (G.2.1 25)), some (.int (iI kd)), some (.int (iI a)), some (.int (iI b)), some (.int (iI c)), some (.int (iI R)), some (.int (iI ow)), some (.int (iI 1)), none] [.int (iI (v.1 25 1)), .int (iI 3), .ref (G.2.1 29)]
                    rw [s1]
                    show M X G 9 (wI (wI v 28 (g_r g) kd) 29 (3 * (g_r g)) (-1000)) 165 [some (.ref (G.2.1 25)), some (.int (iI kd)), some (.int (iI a)), some (.int (iI b)), some (.int (iI c)), some (.int (iI R)), some (.int (iI ow)), some (.int (iI 1)), none] [.int (iI (g_r g)), .int (iI 3), .ref (G.2.1 29)]
                    refine m_imul h dX8_row_165 ?_
                    refine m_iconst h dX8_row_166 ?_
                    refine m_iadd h dX8_row_167 ?_
                    refine m_iload h dX8_row_168 rfl ?_
                    refine m_iconst h dX8_row_170 ?_
                    refine m_icmp_le h dX8_row_171 (tgt := 178) (by decide) (by omega) (by omega) (fun c215 => ?_) (fun c215 => ?_)
                    · skip
                      refine m_sipush h dX8_row_178 (by decide) ?_
                      refine m_iast h (ar_29 G) (by omega) (by omega) dX8_row_181 ?_
                      refine m_aload_n h dX8_row_182 rfl rfl ?_
                      refine m_get h fo_X8_20 (by decide) rfl rfl dX8_row_183 ?_
                      refine m_iconst h dX8_row_186 ?_
                      refine m_aload_n h dX8_row_187 rfl rfl ?_
                      refine m_get h fo_X8_64 (by decide) rfl rfl dX8_row_188 ?_
                      show M X G 9 (wI (wI (wI v 28 (g_r g) kd) 29 (3 * (g_r g)) (-1000)) 29 ((3 * (g_r g)) + 1) (-1000)) 191 [some (.ref (G.2.1 25)), some (.int (iI kd)), some (.int (iI a)), some (.int (iI b)), some (.int (iI c)), some (.int (iI R)), some (.int (iI ow)), some (.int (iI 1)), none] [.int (iI (v.1 25 1)), .int (iI 3), .ref (G.2.1 29)]
                      show M X G 9 (wI (wI (wI v 28 (g_r g) kd) 29 (3 * (g_r g)) (-1000)) 29 ((3 * (g_r g)) + 1) (-1000)) 191 [some (.ref (G.2.1 25)), some (.int (iI kd)), some (.int (iI a)), some (.int (iI b)), some (.int (iI c)), some (.int (iI R)), some (.int (iI ow)), some (.int (iI 1)), none] [.int (iI (v.1 25 1)), .int (iI 3), .ref (G.2.1 29)]
                      rw [s1]
                      show M X G 9 (wI (wI (wI v 28 (g_r g) kd) 29 (3 * (g_r g)) (-1000)) 29 ((3 * (g_r g)) + 1) (-1000)) 191 [some (.ref (G.2.1 25)), some (.int (iI kd)), some (.int (iI a)), some (.int (iI b)), some (.int (iI c)), some (.int (iI R)), some (.int (iI ow)), some (.int (iI 1)), none] [.int (iI (g_r g)), .int (iI 3), .ref (G.2.1 29)]
                      refine m_imul h dX8_row_191 ?_
                      refine m_iconst h dX8_row_192 ?_
                      refine m_iadd h dX8_row_193 ?_
                      refine m_iload h dX8_row_194 rfl ?_
                      refine m_iconst h dX8_row_196 ?_
                      refine m_icmp_le h dX8_row_197 (tgt := 205) (by decide) (by omega) (by omega) (fun c216 => ?_) (fun c216 => ?_)
                      · skip
                        refine m_sipush h dX8_row_205 (by decide) ?_
                        refine m_iast h (ar_29 G) (by omega) (by omega) dX8_row_208 ?_
                        refine m_aload_n h dX8_row_209 rfl rfl ?_
                        refine m_get h fo_X8_23 (by decide) rfl rfl dX8_row_210 ?_
                        refine m_aload_n h dX8_row_213 rfl rfl ?_
                        refine m_get h fo_X8_64 (by decide) rfl rfl dX8_row_214 ?_
                        show M X G 9 (wI (wI (wI (wI v 28 (g_r g) kd) 29 (3 * (g_r g)) (-1000)) 29 ((3 * (g_r g)) + 1) (-1000)) 29 ((3 * (g_r g)) + 2) (-1000)) 217 [some (.ref (G.2.1 25)), some (.int (iI kd)), some (.int (iI a)), some (.int (iI b)), some (.int (iI c)), some (.int (iI R)), some (.int (iI ow)), some (.int (iI 1)), none] [.int (iI (v.1 25 1)), .ref (G.2.1 30)]
                        show M X G 9 (wI (wI (wI (wI v 28 (g_r g) kd) 29 (3 * (g_r g)) (-1000)) 29 ((3 * (g_r g)) + 1) (-1000)) 29 ((3 * (g_r g)) + 2) (-1000)) 217 [some (.ref (G.2.1 25)), some (.int (iI kd)), some (.int (iI a)), some (.int (iI b)), some (.int (iI c)), some (.int (iI R)), some (.int (iI ow)), some (.int (iI 1)), none] [.int (iI (v.1 25 1)), .ref (G.2.1 30)]
                        rw [s1]
                        show M X G 9 (wI (wI (wI (wI v 28 (g_r g) kd) 29 (3 * (g_r g)) (-1000)) 29 ((3 * (g_r g)) + 1) (-1000)) 29 ((3 * (g_r g)) + 2) (-1000)) 217 [some (.ref (G.2.1 25)), some (.int (iI kd)), some (.int (iI a)), some (.int (iI b)), some (.int (iI c)), some (.int (iI R)), some (.int (iI ow)), some (.int (iI 1)), none] [.int (iI (g_r g)), .ref (G.2.1 30)]
                        refine m_iload h dX8_row_217 rfl ?_
                        refine m_iast h (ar_30 G) (by omega) (by omega) dX8_row_219 ?_
                        refine m_iconst h dX8_row_220 ?_
                        refine m_istore h dX8_row_221 (by decide) rfl ?_
                        refine m_kill 6 ?_
                        refine m_kill 7 ?_
                        have lp223 : ∀ (fuel : Nat) (k : Nat) (u : Mem), k ≤ 8 → 20 - k < fuel → rwF v (g_r g) kd (if 1 ≤ NKs kd then a else -1) (if 2 ≤ NKs kd then b else -1) (if 3 ≤ NKs kd then c else -1) R u → (∀ x, 0 ≤ x → x < (k : Int) → u.1 31 (8 * g_r g + x) = 0) → M X G 9 u 223 [some (.ref (G.2.1 25)), some (.int (iI kd)), some (.int (iI a)), some (.int (iI b)), some (.int (iI c)), some (.int (iI R)), none, none, some (.int (iI (k : Int)))] [] := by
                          intro fuel
                          induction fuel with
                          | zero => intro k u hk8 hfu hw hz; exfalso; omega
                          | succ fuel ih =>
                            intro k u hk8 hfu hw hz
                            have e25r : u.1 25 1 = g_r g := by rw [hw.1 25 (by decide) (by decide) (by decide) (by decide)]; exact s1
                            refine m_iload h dX8_row_223 rfl ?_
                            refine m_bipush h dX8_row_225 (by decide) ?_
                            refine m_icmp_ge h dX8_row_227 (tgt := 252) (by decide) (by omega) (by omega) (fun c217 => ?_) (fun c217 => ?_)
                            · skip
                              have hz8 : ∀ x, 0 ≤ x → x < 8 → u.1 31 (8 * g_r g + x) = 0 := fun x q1 q2 => hz x q1 (by omega)
                              refine m_aload_n h dX8_row_252 rfl rfl ?_
                              refine m_dup h dX8_row_253 rfl ?_
                              refine m_get h fo_X8_64 (by decide) rfl rfl dX8_row_254 ?_
                              show M X G 9 u 257 [some (.ref (G.2.1 25)), some (.int (iI kd)), some (.int (iI a)), some (.int (iI b)), some (.int (iI c)), some (.int (iI R)), none, none, some (.int (iI (k : Int)))] [.int (iI (u.1 25 1)), .ref (G.2.1 25)]
                              rw [e25r]
                              show M X G 9 u 257 [some (.ref (G.2.1 25)), some (.int (iI kd)), some (.int (iI a)), some (.int (iI b)), some (.int (iI c)), some (.int (iI R)), none, none, some (.int (iI (k : Int)))] [.int (iI (g_r g)), .ref (G.2.1 25)]
                              refine m_iconst h dX8_row_257 ?_
                              refine m_iadd h dX8_row_258 ?_
                              refine m_putJ h fw_X8_64 (by decide) rfl (Nat.le_of_ble_eq_true rfl) (kz := 1) rfl rfl dX8_row_259 ?_
                              have hS1 := rwF_s ⟨s0, s1, s2, s3⟩ hg hr12 hw hz8
                              have hF1 : FrM v (wI u 25 1 ((g_r g) + 1)) := FrM.w ⟨fun i hi => hw.1 i (by omega) (by omega) (by omega) (by omega), hw.2.1⟩ (by omega)
                              refine m_aload_n h dX8_row_262 rfl rfl ?_
                              refine m_vV h (m_anew _ hG _ (by intro x x0 x1; exact hS1.2.2.1.z x x0 x1)) moX8_anew voX8_anew lk_X8_73 dX8_row_263 (by decide) (by decide) rfl rfl rfl (Nat.le_of_ble_eq_true rfl) (fun ua p220 => ?_)
                              have hRa := RM_an hS1 p220 t
                              have hFa := hF1.tr (ANW.m p220)
                              have hAn := p220
                              refine m_aload_n h dX8_row_266 rfl rfl ?_
                              refine m_get h fo_X8_64 (by decide) rfl rfl dX8_row_267 ?_
                              refine m_iconst h dX8_row_270 ?_
                              refine m_isub h dX8_row_271 ?_
                              refine m_iret h hR rfl dX8_row_272 ?_
                              refine Or.inr ⟨hgd, Or.inr ⟨hr12, ?_, hRa, hFa⟩⟩
                              have : ua.1 25 1 = g_r g + 1 := hRa.1.2.1
                              omega
                            · skip
                              refine m_aload_n h dX8_row_230 rfl rfl ?_
                              refine m_get h fo_X8_26 (by decide) rfl rfl dX8_row_231 ?_
                              refine m_bipush h dX8_row_234 (by decide) ?_
                              refine m_aload_n h dX8_row_236 rfl rfl ?_
                              refine m_get h fo_X8_64 (by decide) rfl rfl dX8_row_237 ?_
                              show M X G 9 u 240 [some (.ref (G.2.1 25)), some (.int (iI kd)), some (.int (iI a)), some (.int (iI b)), some (.int (iI c)), some (.int (iI R)), none, none, some (.int (iI (k : Int)))] [.int (iI (u.1 25 1)), .int (iI 8), .ref (G.2.1 31)]
                              rw [e25r]
                              show M X G 9 u 240 [some (.ref (G.2.1 25)), some (.int (iI kd)), some (.int (iI a)), some (.int (iI b)), some (.int (iI c)), some (.int (iI R)), none, none, some (.int (iI (k : Int)))] [.int (iI (g_r g)), .int (iI 8), .ref (G.2.1 31)]
                              refine m_imul h dX8_row_240 ?_
                              refine m_iload h dX8_row_241 rfl ?_
                              refine m_iadd h dX8_row_243 ?_
                              refine m_iconst h dX8_row_244 ?_
                              refine m_iast h (ar_31 G) (by omega) (by omega) dX8_row_245 ?_
                              refine m_iinc h dX8_row_246 rfl (by decide) rfl ?_
                              refine m_goto h dX8_row_249 (tgt := 223) (by decide) ?_
                              refine ih (k + 1) _ (by omega) (by omega) (rwF_w hw (by omega)) (fun x x0 x1 => ?_)
                              by_cases e : x = (k : Int)
                              · subst e; rw [wI_s]
                              · rw [wI_n (by omega)]; exact hz x x0 (by omega)
                        exact lp223 100 0 _ (by omega) (by omega) (rwF_i (by rw [if_neg (by omega)]; rfl) (by rw [if_neg (by omega)]; rfl) (by rw [if_neg (by omega)]; rfl)) (fun x q1 q2 => by omega)
                      · skip
                        refine m_iload h dX8_row_200 rfl ?_
                        refine m_goto h dX8_row_202 (tgt := 208) (by decide) ?_
                        refine m_iast h (ar_29 G) (by omega) (by omega) dX8_row_208 ?_
                        refine m_aload_n h dX8_row_209 rfl rfl ?_
                        refine m_get h fo_X8_23 (by decide) rfl rfl dX8_row_210 ?_
                        refine m_aload_n h dX8_row_213 rfl rfl ?_
                        refine m_get h fo_X8_64 (by decide) rfl rfl dX8_row_214 ?_
                        show M X G 9 (wI (wI (wI (wI v 28 (g_r g) kd) 29 (3 * (g_r g)) (-1000)) 29 ((3 * (g_r g)) + 1) (-1000)) 29 ((3 * (g_r g)) + 2) c) 217 [some (.ref (G.2.1 25)), some (.int (iI kd)), some (.int (iI a)), some (.int (iI b)), some (.int (iI c)), some (.int (iI R)), some (.int (iI ow)), some (.int (iI 1)), none] [.int (iI (v.1 25 1)), .ref (G.2.1 30)]
                        show M X G 9 (wI (wI (wI (wI v 28 (g_r g) kd) 29 (3 * (g_r g)) (-1000)) 29 ((3 * (g_r g)) + 1) (-1000)) 29 ((3 * (g_r g)) + 2) c) 217 [some (.ref (G.2.1 25)), some (.int (iI kd)), some (.int (iI a)), some (.int (iI b)), some (.int (iI c)), some (.int (iI R)), some (.int (iI ow)), some (.int (iI 1)), none] [.int (iI (v.1 25 1)), .ref (G.2.1 30)]
                        rw [s1]
                        show M X G 9 (wI (wI (wI (wI v 28 (g_r g) kd) 29 (3 * (g_r g)) (-1000)) 29 ((3 * (g_r g)) + 1) (-1000)) 29 ((3 * (g_r g)) + 2) c) 217 [some (.ref (G.2.1 25)), some (.int (iI kd)), some (.int (iI a)), some (.int (iI b)), some (.int (iI c)), some (.int (iI R)), some (.int (iI ow)), some (.int (iI 1)), none] [.int (iI (g_r g)), .ref (G.2.1 30)]
                        refine m_iload h dX8_row_217 rfl ?_
                        refine m_iast h (ar_30 G) (by omega) (by omega) dX8_row_219 ?_
                        refine m_iconst h dX8_row_220 ?_
                        refine m_istore h dX8_row_221 (by decide) rfl ?_
                        refine m_kill 6 ?_
                        refine m_kill 7 ?_
                        have lp223 : ∀ (fuel : Nat) (k : Nat) (u : Mem), k ≤ 8 → 20 - k < fuel → rwF v (g_r g) kd (if 1 ≤ NKs kd then a else -1) (if 2 ≤ NKs kd then b else -1) (if 3 ≤ NKs kd then c else -1) R u → (∀ x, 0 ≤ x → x < (k : Int) → u.1 31 (8 * g_r g + x) = 0) → M X G 9 u 223 [some (.ref (G.2.1 25)), some (.int (iI kd)), some (.int (iI a)), some (.int (iI b)), some (.int (iI c)), some (.int (iI R)), none, none, some (.int (iI (k : Int)))] [] := by
                          intro fuel
                          induction fuel with
                          | zero => intro k u hk8 hfu hw hz; exfalso; omega
                          | succ fuel ih =>
                            intro k u hk8 hfu hw hz
                            have e25r : u.1 25 1 = g_r g := by rw [hw.1 25 (by decide) (by decide) (by decide) (by decide)]; exact s1
                            refine m_iload h dX8_row_223 rfl ?_
                            refine m_bipush h dX8_row_225 (by decide) ?_
                            refine m_icmp_ge h dX8_row_227 (tgt := 252) (by decide) (by omega) (by omega) (fun c221 => ?_) (fun c221 => ?_)
                            · skip
                              have hz8 : ∀ x, 0 ≤ x → x < 8 → u.1 31 (8 * g_r g + x) = 0 := fun x q1 q2 => hz x q1 (by omega)
                              refine m_aload_n h dX8_row_252 rfl rfl ?_
                              refine m_dup h dX8_row_253 rfl ?_
                              refine m_get h fo_X8_64 (by decide) rfl rfl dX8_row_254 ?_
                              show M X G 9 u 257 [some (.ref (G.2.1 25)), some (.int (iI kd)), some (.int (iI a)), some (.int (iI b)), some (.int (iI c)), some (.int (iI R)), none, none, some (.int (iI (k : Int)))] [.int (iI (u.1 25 1)), .ref (G.2.1 25)]
                              rw [e25r]
                              show M X G 9 u 257 [some (.ref (G.2.1 25)), some (.int (iI kd)), some (.int (iI a)), some (.int (iI b)), some (.int (iI c)), some (.int (iI R)), none, none, some (.int (iI (k : Int)))] [.int (iI (g_r g)), .ref (G.2.1 25)]
                              refine m_iconst h dX8_row_257 ?_
                              refine m_iadd h dX8_row_258 ?_
                              refine m_putJ h fw_X8_64 (by decide) rfl (Nat.le_of_ble_eq_true rfl) (kz := 1) rfl rfl dX8_row_259 ?_
                              have hS1 := rwF_s ⟨s0, s1, s2, s3⟩ hg hr12 hw hz8
                              have hF1 : FrM v (wI u 25 1 ((g_r g) + 1)) := FrM.w ⟨fun i hi => hw.1 i (by omega) (by omega) (by omega) (by omega), hw.2.1⟩ (by omega)
                              refine m_aload_n h dX8_row_262 rfl rfl ?_
                              refine m_vV h (m_anew _ hG _ (by intro x x0 x1; exact hS1.2.2.1.z x x0 x1)) moX8_anew voX8_anew lk_X8_73 dX8_row_263 (by decide) (by decide) rfl rfl rfl (Nat.le_of_ble_eq_true rfl) (fun ua p224 => ?_)
                              have hRa := RM_an hS1 p224 t
                              have hFa := hF1.tr (ANW.m p224)
                              have hAn := p224
                              refine m_aload_n h dX8_row_266 rfl rfl ?_
                              refine m_get h fo_X8_64 (by decide) rfl rfl dX8_row_267 ?_
                              refine m_iconst h dX8_row_270 ?_
                              refine m_isub h dX8_row_271 ?_
                              refine m_iret h hR rfl dX8_row_272 ?_
                              refine Or.inr ⟨hgd, Or.inr ⟨hr12, ?_, hRa, hFa⟩⟩
                              have : ua.1 25 1 = g_r g + 1 := hRa.1.2.1
                              omega
                            · skip
                              refine m_aload_n h dX8_row_230 rfl rfl ?_
                              refine m_get h fo_X8_26 (by decide) rfl rfl dX8_row_231 ?_
                              refine m_bipush h dX8_row_234 (by decide) ?_
                              refine m_aload_n h dX8_row_236 rfl rfl ?_
                              refine m_get h fo_X8_64 (by decide) rfl rfl dX8_row_237 ?_
                              show M X G 9 u 240 [some (.ref (G.2.1 25)), some (.int (iI kd)), some (.int (iI a)), some (.int (iI b)), some (.int (iI c)), some (.int (iI R)), none, none, some (.int (iI (k : Int)))] [.int (iI (u.1 25 1)), .int (iI 8), .ref (G.2.1 31)]
                              rw [e25r]
                              show M X G 9 u 240 [some (.ref (G.2.1 25)), some (.int (iI kd)), some (.int (iI a)), some (.int (iI b)), some (.int (iI c)), some (.int (iI R)), none, none, some (.int (iI (k : Int)))] [.int (iI (g_r g)), .int (iI 8), .ref (G.2.1 31)]
                              refine m_imul h dX8_row_240 ?_
                              refine m_iload h dX8_row_241 rfl ?_
                              refine m_iadd h dX8_row_243 ?_
                              refine m_iconst h dX8_row_244 ?_
                              refine m_iast h (ar_31 G) (by omega) (by omega) dX8_row_245 ?_
                              refine m_iinc h dX8_row_246 rfl (by decide) rfl ?_
                              refine m_goto h dX8_row_249 (tgt := 223) (by decide) ?_
                              refine ih (k + 1) _ (by omega) (by omega) (rwF_w hw (by omega)) (fun x x0 x1 => ?_)
                              by_cases e : x = (k : Int)
                              · subst e; rw [wI_s]
                              · rw [wI_n (by omega)]; exact hz x x0 (by omega)
                        exact lp223 100 0 _ (by omega) (by omega) (rwF_i (by rw [if_neg (by omega)]; rfl) (by rw [if_neg (by omega)]; rfl) (by rw [if_pos (by omega)]; exact (mN_nn (by have : isNm g c := (hgd.2.2.2.2 (by omega)).1; exact this.1)).symm)) (fun x q1 q2 => by omega)
                    · skip
                      refine m_iload_n h dX8_row_174 rfl rfl ?_
                      refine m_goto h dX8_row_175 (tgt := 181) (by decide) ?_
                      refine m_iast h (ar_29 G) (by omega) (by omega) dX8_row_181 ?_
                      refine m_aload_n h dX8_row_182 rfl rfl ?_
                      refine m_get h fo_X8_20 (by decide) rfl rfl dX8_row_183 ?_
                      refine m_iconst h dX8_row_186 ?_
                      refine m_aload_n h dX8_row_187 rfl rfl ?_
                      refine m_get h fo_X8_64 (by decide) rfl rfl dX8_row_188 ?_
                      show M X G 9 (wI (wI (wI v 28 (g_r g) kd) 29 (3 * (g_r g)) (-1000)) 29 ((3 * (g_r g)) + 1) b) 191 [some (.ref (G.2.1 25)), some (.int (iI kd)), some (.int (iI a)), some (.int (iI b)), some (.int (iI c)), some (.int (iI R)), some (.int (iI ow)), some (.int (iI 1)), none] [.int (iI (v.1 25 1)), .int (iI 3), .ref (G.2.1 29)]
                      show M X G 9 (wI (wI (wI v 28 (g_r g) kd) 29 (3 * (g_r g)) (-1000)) 29 ((3 * (g_r g)) + 1) b) 191 [some (.ref (G.2.1 25)), some (.int (iI kd)), some (.int (iI a)), some (.int (iI b)), some (.int (iI c)), some (.int (iI R)), some (.int (iI ow)), some (.int (iI 1)), none] [.int (iI (v.1 25 1)), .int (iI 3), .ref (G.2.1 29)]
                      rw [s1]
                      show M X G 9 (wI (wI (wI v 28 (g_r g) kd) 29 (3 * (g_r g)) (-1000)) 29 ((3 * (g_r g)) + 1) b) 191 [some (.ref (G.2.1 25)), some (.int (iI kd)), some (.int (iI a)), some (.int (iI b)), some (.int (iI c)), some (.int (iI R)), some (.int (iI ow)), some (.int (iI 1)), none] [.int (iI (g_r g)), .int (iI 3), .ref (G.2.1 29)]
                      refine m_imul h dX8_row_191 ?_
                      refine m_iconst h dX8_row_192 ?_
                      refine m_iadd h dX8_row_193 ?_
                      refine m_iload h dX8_row_194 rfl ?_
                      refine m_iconst h dX8_row_196 ?_
                      refine m_icmp_le h dX8_row_197 (tgt := 205) (by decide) (by omega) (by omega) (fun c225 => ?_) (fun c225 => ?_)
                      · skip
                        refine m_sipush h dX8_row_205 (by decide) ?_
                        refine m_iast h (ar_29 G) (by omega) (by omega) dX8_row_208 ?_
                        refine m_aload_n h dX8_row_209 rfl rfl ?_
                        refine m_get h fo_X8_23 (by decide) rfl rfl dX8_row_210 ?_
                        refine m_aload_n h dX8_row_213 rfl rfl ?_
                        refine m_get h fo_X8_64 (by decide) rfl rfl dX8_row_214 ?_
                        show M X G 9 (wI (wI (wI (wI v 28 (g_r g) kd) 29 (3 * (g_r g)) (-1000)) 29 ((3 * (g_r g)) + 1) b) 29 ((3 * (g_r g)) + 2) (-1000)) 217 [some (.ref (G.2.1 25)), some (.int (iI kd)), some (.int (iI a)), some (.int (iI b)), some (.int (iI c)), some (.int (iI R)), some (.int (iI ow)), some (.int (iI 1)), none] [.int (iI (v.1 25 1)), .ref (G.2.1 30)]
                        show M X G 9 (wI (wI (wI (wI v 28 (g_r g) kd) 29 (3 * (g_r g)) (-1000)) 29 ((3 * (g_r g)) + 1) b) 29 ((3 * (g_r g)) + 2) (-1000)) 217 [some (.ref (G.2.1 25)), some (.int (iI kd)), some (.int (iI a)), some (.int (iI b)), some (.int (iI c)), some (.int (iI R)), some (.int (iI ow)), some (.int (iI 1)), none] [.int (iI (v.1 25 1)), .ref (G.2.1 30)]
                        rw [s1]
                        show M X G 9 (wI (wI (wI (wI v 28 (g_r g) kd) 29 (3 * (g_r g)) (-1000)) 29 ((3 * (g_r g)) + 1) b) 29 ((3 * (g_r g)) + 2) (-1000)) 217 [some (.ref (G.2.1 25)), some (.int (iI kd)), some (.int (iI a)), some (.int (iI b)), some (.int (iI c)), some (.int (iI R)), some (.int (iI ow)), some (.int (iI 1)), none] [.int (iI (g_r g)), .ref (G.2.1 30)]
                        refine m_iload h dX8_row_217 rfl ?_
                        refine m_iast h (ar_30 G) (by omega) (by omega) dX8_row_219 ?_
                        refine m_iconst h dX8_row_220 ?_
                        refine m_istore h dX8_row_221 (by decide) rfl ?_
                        refine m_kill 6 ?_
                        refine m_kill 7 ?_
                        have lp223 : ∀ (fuel : Nat) (k : Nat) (u : Mem), k ≤ 8 → 20 - k < fuel → rwF v (g_r g) kd (if 1 ≤ NKs kd then a else -1) (if 2 ≤ NKs kd then b else -1) (if 3 ≤ NKs kd then c else -1) R u → (∀ x, 0 ≤ x → x < (k : Int) → u.1 31 (8 * g_r g + x) = 0) → M X G 9 u 223 [some (.ref (G.2.1 25)), some (.int (iI kd)), some (.int (iI a)), some (.int (iI b)), some (.int (iI c)), some (.int (iI R)), none, none, some (.int (iI (k : Int)))] [] := by
                          intro fuel
                          induction fuel with
                          | zero => intro k u hk8 hfu hw hz; exfalso; omega
                          | succ fuel ih =>
                            intro k u hk8 hfu hw hz
                            have e25r : u.1 25 1 = g_r g := by rw [hw.1 25 (by decide) (by decide) (by decide) (by decide)]; exact s1
                            refine m_iload h dX8_row_223 rfl ?_
                            refine m_bipush h dX8_row_225 (by decide) ?_
                            refine m_icmp_ge h dX8_row_227 (tgt := 252) (by decide) (by omega) (by omega) (fun c226 => ?_) (fun c226 => ?_)
                            · skip
                              have hz8 : ∀ x, 0 ≤ x → x < 8 → u.1 31 (8 * g_r g + x) = 0 := fun x q1 q2 => hz x q1 (by omega)
                              refine m_aload_n h dX8_row_252 rfl rfl ?_
                              refine m_dup h dX8_row_253 rfl ?_
                              refine m_get h fo_X8_64 (by decide) rfl rfl dX8_row_254 ?_
                              show M X G 9 u 257 [some (.ref (G.2.1 25)), some (.int (iI kd)), some (.int (iI a)), some (.int (iI b)), some (.int (iI c)), some (.int (iI R)), none, none, some (.int (iI (k : Int)))] [.int (iI (u.1 25 1)), .ref (G.2.1 25)]
                              rw [e25r]
                              show M X G 9 u 257 [some (.ref (G.2.1 25)), some (.int (iI kd)), some (.int (iI a)), some (.int (iI b)), some (.int (iI c)), some (.int (iI R)), none, none, some (.int (iI (k : Int)))] [.int (iI (g_r g)), .ref (G.2.1 25)]
                              refine m_iconst h dX8_row_257 ?_
                              refine m_iadd h dX8_row_258 ?_
                              refine m_putJ h fw_X8_64 (by decide) rfl (Nat.le_of_ble_eq_true rfl) (kz := 1) rfl rfl dX8_row_259 ?_
                              have hS1 := rwF_s ⟨s0, s1, s2, s3⟩ hg hr12 hw hz8
                              have hF1 : FrM v (wI u 25 1 ((g_r g) + 1)) := FrM.w ⟨fun i hi => hw.1 i (by omega) (by omega) (by omega) (by omega), hw.2.1⟩ (by omega)
                              refine m_aload_n h dX8_row_262 rfl rfl ?_
                              refine m_vV h (m_anew _ hG _ (by intro x x0 x1; exact hS1.2.2.1.z x x0 x1)) moX8_anew voX8_anew lk_X8_73 dX8_row_263 (by decide) (by decide) rfl rfl rfl (Nat.le_of_ble_eq_true rfl) (fun ua p229 => ?_)
                              have hRa := RM_an hS1 p229 t
                              have hFa := hF1.tr (ANW.m p229)
                              have hAn := p229
                              refine m_aload_n h dX8_row_266 rfl rfl ?_
                              refine m_get h fo_X8_64 (by decide) rfl rfl dX8_row_267 ?_
                              refine m_iconst h dX8_row_270 ?_
                              refine m_isub h dX8_row_271 ?_
                              refine m_iret h hR rfl dX8_row_272 ?_
                              refine Or.inr ⟨hgd, Or.inr ⟨hr12, ?_, hRa, hFa⟩⟩
                              have : ua.1 25 1 = g_r g + 1 := hRa.1.2.1
                              omega
                            · skip
                              refine m_aload_n h dX8_row_230 rfl rfl ?_
                              refine m_get h fo_X8_26 (by decide) rfl rfl dX8_row_231 ?_
                              refine m_bipush h dX8_row_234 (by decide) ?_
                              refine m_aload_n h dX8_row_236 rfl rfl ?_
                              refine m_get h fo_X8_64 (by decide) rfl rfl dX8_row_237 ?_
                              show M X G 9 u 240 [some (.ref (G.2.1 25)), some (.int (iI kd)), some (.int (iI a)), some (.int (iI b)), some (.int (iI c)), some (.int (iI R)), none, none, some (.int (iI (k : Int)))] [.int (iI (u.1 25 1)), .int (iI 8), .ref (G.2.1 31)]
                              rw [e25r]
                              show M X G 9 u 240 [some (.ref (G.2.1 25)), some (.int (iI kd)), some (.int (iI a)), some (.int (iI b)), some (.int (iI c)), some (.int (iI R)), none, none, some (.int (iI (k : Int)))] [.int (iI (g_r g)), .int (iI 8), .ref (G.2.1 31)]
                              refine m_imul h dX8_row_240 ?_
                              refine m_iload h dX8_row_241 rfl ?_
                              refine m_iadd h dX8_row_243 ?_
                              refine m_iconst h dX8_row_244 ?_
                              refine m_iast h (ar_31 G) (by omega) (by omega) dX8_row_245 ?_
                              refine m_iinc h dX8_row_246 rfl (by decide) rfl ?_
                              refine m_goto h dX8_row_249 (tgt := 223) (by decide) ?_
                              refine ih (k + 1) _ (by omega) (by omega) (rwF_w hw (by omega)) (fun x x0 x1 => ?_)
                              by_cases e : x = (k : Int)
                              · subst e; rw [wI_s]
                              · rw [wI_n (by omega)]; exact hz x x0 (by omega)
                        exact lp223 100 0 _ (by omega) (by omega) (rwF_i (by rw [if_neg (by omega)]; rfl) (by rw [if_pos (by omega)]; exact (mN_nn (by have : isNm g b := (hgd.2.2.2.1 (by omega)).1; exact this.1)).symm) (by rw [if_neg (by omega)]; rfl)) (fun x q1 q2 => by omega)
                      · skip
                        refine m_iload h dX8_row_200 rfl ?_
                        refine m_goto h dX8_row_202 (tgt := 208) (by decide) ?_
                        refine m_iast h (ar_29 G) (by omega) (by omega) dX8_row_208 ?_
                        refine m_aload_n h dX8_row_209 rfl rfl ?_
                        refine m_get h fo_X8_23 (by decide) rfl rfl dX8_row_210 ?_
                        refine m_aload_n h dX8_row_213 rfl rfl ?_
                        refine m_get h fo_X8_64 (by decide) rfl rfl dX8_row_214 ?_
                        show M X G 9 (wI (wI (wI (wI v 28 (g_r g) kd) 29 (3 * (g_r g)) (-1000)) 29 ((3 * (g_r g)) + 1) b) 29 ((3 * (g_r g)) + 2) c) 217 [some (.ref (G.2.1 25)), some (.int (iI kd)), some (.int (iI a)), some (.int (iI b)), some (.int (iI c)), some (.int (iI R)), some (.int (iI ow)), some (.int (iI 1)), none] [.int (iI (v.1 25 1)), .ref (G.2.1 30)]
                        show M X G 9 (wI (wI (wI (wI v 28 (g_r g) kd) 29 (3 * (g_r g)) (-1000)) 29 ((3 * (g_r g)) + 1) b) 29 ((3 * (g_r g)) + 2) c) 217 [some (.ref (G.2.1 25)), some (.int (iI kd)), some (.int (iI a)), some (.int (iI b)), some (.int (iI c)), some (.int (iI R)), some (.int (iI ow)), some (.int (iI 1)), none] [.int (iI (v.1 25 1)), .ref (G.2.1 30)]
                        rw [s1]
                        show M X G 9 (wI (wI (wI (wI v 28 (g_r g) kd) 29 (3 * (g_r g)) (-1000)) 29 ((3 * (g_r g)) + 1) b) 29 ((3 * (g_r g)) + 2) c) 217 [some (.ref (G.2.1 25)), some (.int (iI kd)), some (.int (iI a)), some (.int (iI b)), some (.int (iI c)), some (.int (iI R)), some (.int (iI ow)), some (.int (iI 1)), none] [.int (iI (g_r g)), .ref (G.2.1 30)]
                        refine m_iload h dX8_row_217 rfl ?_
                        refine m_iast h (ar_30 G) (by omega) (by omega) dX8_row_219 ?_
                        refine m_iconst h dX8_row_220 ?_
                        refine m_istore h dX8_row_221 (by decide) rfl ?_
                        refine m_kill 6 ?_
                        refine m_kill 7 ?_
                        have lp223 : ∀ (fuel : Nat) (k : Nat) (u : Mem), k ≤ 8 → 20 - k < fuel → rwF v (g_r g) kd (if 1 ≤ NKs kd then a else -1) (if 2 ≤ NKs kd then b else -1) (if 3 ≤ NKs kd then c else -1) R u → (∀ x, 0 ≤ x → x < (k : Int) → u.1 31 (8 * g_r g + x) = 0) → M X G 9 u 223 [some (.ref (G.2.1 25)), some (.int (iI kd)), some (.int (iI a)), some (.int (iI b)), some (.int (iI c)), some (.int (iI R)), none, none, some (.int (iI (k : Int)))] [] := by
                          intro fuel
                          induction fuel with
                          | zero => intro k u hk8 hfu hw hz; exfalso; omega
                          | succ fuel ih =>
                            intro k u hk8 hfu hw hz
                            have e25r : u.1 25 1 = g_r g := by rw [hw.1 25 (by decide) (by decide) (by decide) (by decide)]; exact s1
                            refine m_iload h dX8_row_223 rfl ?_
                            refine m_bipush h dX8_row_225 (by decide) ?_
                            refine m_icmp_ge h dX8_row_227 (tgt := 252) (by decide) (by omega) (by omega) (fun c230 => ?_) (fun c230 => ?_)
                            · skip
                              have hz8 : ∀ x, 0 ≤ x → x < 8 → u.1 31 (8 * g_r g + x) = 0 := fun x q1 q2 => hz x q1 (by omega)
                              refine m_aload_n h dX8_row_252 rfl rfl ?_
                              refine m_dup h dX8_row_253 rfl ?_
                              refine m_get h fo_X8_64 (by decide) rfl rfl dX8_row_254 ?_
                              show M X G 9 u 257 [some (.ref (G.2.1 25)), some (.int (iI kd)), some (.int (iI a)), some (.int (iI b)), some (.int (iI c)), some (.int (iI R)), none, none, some (.int (iI (k : Int)))] [.int (iI (u.1 25 1)), .ref (G.2.1 25)]
                              rw [e25r]
                              show M X G 9 u 257 [some (.ref (G.2.1 25)), some (.int (iI kd)), some (.int (iI a)), some (.int (iI b)), some (.int (iI c)), some (.int (iI R)), none, none, some (.int (iI (k : Int)))] [.int (iI (g_r g)), .ref (G.2.1 25)]
                              refine m_iconst h dX8_row_257 ?_
                              refine m_iadd h dX8_row_258 ?_
                              refine m_putJ h fw_X8_64 (by decide) rfl (Nat.le_of_ble_eq_true rfl) (kz := 1) rfl rfl dX8_row_259 ?_
                              have hS1 := rwF_s ⟨s0, s1, s2, s3⟩ hg hr12 hw hz8
                              have hF1 : FrM v (wI u 25 1 ((g_r g) + 1)) := FrM.w ⟨fun i hi => hw.1 i (by omega) (by omega) (by omega) (by omega), hw.2.1⟩ (by omega)
                              refine m_aload_n h dX8_row_262 rfl rfl ?_
                              refine m_vV h (m_anew _ hG _ (by intro x x0 x1; exact hS1.2.2.1.z x x0 x1)) moX8_anew voX8_anew lk_X8_73 dX8_row_263 (by decide) (by decide) rfl rfl rfl (Nat.le_of_ble_eq_true rfl) (fun ua p233 => ?_)
                              have hRa := RM_an hS1 p233 t
                              have hFa := hF1.tr (ANW.m p233)
                              have hAn := p233
                              refine m_aload_n h dX8_row_266 rfl rfl ?_
                              refine m_get h fo_X8_64 (by decide) rfl rfl dX8_row_267 ?_
                              refine m_iconst h dX8_row_270 ?_
                              refine m_isub h dX8_row_271 ?_
                              refine m_iret h hR rfl dX8_row_272 ?_
                              refine Or.inr ⟨hgd, Or.inr ⟨hr12, ?_, hRa, hFa⟩⟩
                              have : ua.1 25 1 = g_r g + 1 := hRa.1.2.1
                              omega
                            · skip
                              refine m_aload_n h dX8_row_230 rfl rfl ?_
                              refine m_get h fo_X8_26 (by decide) rfl rfl dX8_row_231 ?_
                              refine m_bipush h dX8_row_234 (by decide) ?_
                              refine m_aload_n h dX8_row_236 rfl rfl ?_
                              refine m_get h fo_X8_64 (by decide) rfl rfl dX8_row_237 ?_
                              show M X G 9 u 240 [some (.ref (G.2.1 25)), some (.int (iI kd)), some (.int (iI a)), some (.int (iI b)), some (.int (iI c)), some (.int (iI R)), none, none, some (.int (iI (k : Int)))] [.int (iI (u.1 25 1)), .int (iI 8), .ref (G.2.1 31)]
                              rw [e25r]
                              show M X G 9 u 240 [some (.ref (G.2.1 25)), some (.int (iI kd)), some (.int (iI a)), some (.int (iI b)), some (.int (iI c)), some (.int (iI R)), none, none, some (.int (iI (k : Int)))] [.int (iI (g_r g)), .int (iI 8), .ref (G.2.1 31)]
                              refine m_imul h dX8_row_240 ?_
                              refine m_iload h dX8_row_241 rfl ?_
                              refine m_iadd h dX8_row_243 ?_
                              refine m_iconst h dX8_row_244 ?_
                              refine m_iast h (ar_31 G) (by omega) (by omega) dX8_row_245 ?_
                              refine m_iinc h dX8_row_246 rfl (by decide) rfl ?_
                              refine m_goto h dX8_row_249 (tgt := 223) (by decide) ?_
                              refine ih (k + 1) _ (by omega) (by omega) (rwF_w hw (by omega)) (fun x x0 x1 => ?_)
                              by_cases e : x = (k : Int)
                              · subst e; rw [wI_s]
                              · rw [wI_n (by omega)]; exact hz x x0 (by omega)
                        exact lp223 100 0 _ (by omega) (by omega) (rwF_i (by rw [if_neg (by omega)]; rfl) (by rw [if_pos (by omega)]; exact (mN_nn (by have : isNm g b := (hgd.2.2.2.1 (by omega)).1; exact this.1)).symm) (by rw [if_pos (by omega)]; exact (mN_nn (by have : isNm g c := (hgd.2.2.2.2 (by omega)).1; exact this.1)).symm)) (fun x q1 q2 => by omega)
                  · skip
                    refine m_iload_n h dX8_row_148 rfl rfl ?_
                    refine m_goto h dX8_row_149 (tgt := 155) (by decide) ?_
                    refine m_iast h (ar_29 G) (by omega) (by omega) dX8_row_155 ?_
                    refine m_aload_n h dX8_row_156 rfl rfl ?_
                    refine m_get h fo_X8_20 (by decide) rfl rfl dX8_row_157 ?_
                    refine m_iconst h dX8_row_160 ?_
                    refine m_aload_n h dX8_row_161 rfl rfl ?_
                    refine m_get h fo_X8_64 (by decide) rfl rfl dX8_row_162 ?_
                    show M X G 9 (wI (wI v 28 (g_r g) kd) 29 (3 * (g_r g)) a) 165 [some (.ref (G.2.1 25)), some (.int (iI kd)), some (.int (iI a)), some (.int (iI b)), some (.int (iI c)), some (.int (iI R)), some (.int (iI ow)), some (.int (iI 1)), none] [.int (iI (v.1 25 1)), .int (iI 3), .ref (G.2.1 29)]
                    show M X G 9 (wI (wI v 28 (g_r g) kd) 29 (3 * (g_r g)) a) 165 [some (.ref (G.2.1 25)), some (.int (iI kd)), some (.int (iI a)), some (.int (iI b)), some (.int (iI c)), some (.int (iI R)), some (.int (iI ow)), some (.int (iI 1)), none] [.int (iI (v.1 25 1)), .int (iI 3), .ref (G.2.1 29)]
                    rw [s1]
                    show M X G 9 (wI (wI v 28 (g_r g) kd) 29 (3 * (g_r g)) a) 165 [some (.ref (G.2.1 25)), some (.int (iI kd)), some (.int (iI a)), some (.int (iI b)), some (.int (iI c)), some (.int (iI R)), some (.int (iI ow)), some (.int (iI 1)), none] [.int (iI (g_r g)), .int (iI 3), .ref (G.2.1 29)]
                    refine m_imul h dX8_row_165 ?_
                    refine m_iconst h dX8_row_166 ?_
                    refine m_iadd h dX8_row_167 ?_
                    refine m_iload h dX8_row_168 rfl ?_
                    refine m_iconst h dX8_row_170 ?_
                    refine m_icmp_le h dX8_row_171 (tgt := 178) (by decide) (by omega) (by omega) (fun c234 => ?_) (fun c234 => ?_)
                    · skip
                      refine m_sipush h dX8_row_178 (by decide) ?_
                      refine m_iast h (ar_29 G) (by omega) (by omega) dX8_row_181 ?_
                      refine m_aload_n h dX8_row_182 rfl rfl ?_
                      refine m_get h fo_X8_20 (by decide) rfl rfl dX8_row_183 ?_
                      refine m_iconst h dX8_row_186 ?_
                      refine m_aload_n h dX8_row_187 rfl rfl ?_
                      refine m_get h fo_X8_64 (by decide) rfl rfl dX8_row_188 ?_
                      show M X G 9 (wI (wI (wI v 28 (g_r g) kd) 29 (3 * (g_r g)) a) 29 ((3 * (g_r g)) + 1) (-1000)) 191 [some (.ref (G.2.1 25)), some (.int (iI kd)), some (.int (iI a)), some (.int (iI b)), some (.int (iI c)), some (.int (iI R)), some (.int (iI ow)), some (.int (iI 1)), none] [.int (iI (v.1 25 1)), .int (iI 3), .ref (G.2.1 29)]
                      show M X G 9 (wI (wI (wI v 28 (g_r g) kd) 29 (3 * (g_r g)) a) 29 ((3 * (g_r g)) + 1) (-1000)) 191 [some (.ref (G.2.1 25)), some (.int (iI kd)), some (.int (iI a)), some (.int (iI b)), some (.int (iI c)), some (.int (iI R)), some (.int (iI ow)), some (.int (iI 1)), none] [.int (iI (v.1 25 1)), .int (iI 3), .ref (G.2.1 29)]
                      rw [s1]
                      show M X G 9 (wI (wI (wI v 28 (g_r g) kd) 29 (3 * (g_r g)) a) 29 ((3 * (g_r g)) + 1) (-1000)) 191 [some (.ref (G.2.1 25)), some (.int (iI kd)), some (.int (iI a)), some (.int (iI b)), some (.int (iI c)), some (.int (iI R)), some (.int (iI ow)), some (.int (iI 1)), none] [.int (iI (g_r g)), .int (iI 3), .ref (G.2.1 29)]
                      refine m_imul h dX8_row_191 ?_
                      refine m_iconst h dX8_row_192 ?_
                      refine m_iadd h dX8_row_193 ?_
                      refine m_iload h dX8_row_194 rfl ?_
                      refine m_iconst h dX8_row_196 ?_
                      refine m_icmp_le h dX8_row_197 (tgt := 205) (by decide) (by omega) (by omega) (fun c235 => ?_) (fun c235 => ?_)
                      · skip
                        refine m_sipush h dX8_row_205 (by decide) ?_
                        refine m_iast h (ar_29 G) (by omega) (by omega) dX8_row_208 ?_
                        refine m_aload_n h dX8_row_209 rfl rfl ?_
                        refine m_get h fo_X8_23 (by decide) rfl rfl dX8_row_210 ?_
                        refine m_aload_n h dX8_row_213 rfl rfl ?_
                        refine m_get h fo_X8_64 (by decide) rfl rfl dX8_row_214 ?_
                        show M X G 9 (wI (wI (wI (wI v 28 (g_r g) kd) 29 (3 * (g_r g)) a) 29 ((3 * (g_r g)) + 1) (-1000)) 29 ((3 * (g_r g)) + 2) (-1000)) 217 [some (.ref (G.2.1 25)), some (.int (iI kd)), some (.int (iI a)), some (.int (iI b)), some (.int (iI c)), some (.int (iI R)), some (.int (iI ow)), some (.int (iI 1)), none] [.int (iI (v.1 25 1)), .ref (G.2.1 30)]
                        show M X G 9 (wI (wI (wI (wI v 28 (g_r g) kd) 29 (3 * (g_r g)) a) 29 ((3 * (g_r g)) + 1) (-1000)) 29 ((3 * (g_r g)) + 2) (-1000)) 217 [some (.ref (G.2.1 25)), some (.int (iI kd)), some (.int (iI a)), some (.int (iI b)), some (.int (iI c)), some (.int (iI R)), some (.int (iI ow)), some (.int (iI 1)), none] [.int (iI (v.1 25 1)), .ref (G.2.1 30)]
                        rw [s1]
                        show M X G 9 (wI (wI (wI (wI v 28 (g_r g) kd) 29 (3 * (g_r g)) a) 29 ((3 * (g_r g)) + 1) (-1000)) 29 ((3 * (g_r g)) + 2) (-1000)) 217 [some (.ref (G.2.1 25)), some (.int (iI kd)), some (.int (iI a)), some (.int (iI b)), some (.int (iI c)), some (.int (iI R)), some (.int (iI ow)), some (.int (iI 1)), none] [.int (iI (g_r g)), .ref (G.2.1 30)]
                        refine m_iload h dX8_row_217 rfl ?_
                        refine m_iast h (ar_30 G) (by omega) (by omega) dX8_row_219 ?_
                        refine m_iconst h dX8_row_220 ?_
                        refine m_istore h dX8_row_221 (by decide) rfl ?_
                        refine m_kill 6 ?_
                        refine m_kill 7 ?_
                        have lp223 : ∀ (fuel : Nat) (k : Nat) (u : Mem), k ≤ 8 → 20 - k < fuel → rwF v (g_r g) kd (if 1 ≤ NKs kd then a else -1) (if 2 ≤ NKs kd then b else -1) (if 3 ≤ NKs kd then c else -1) R u → (∀ x, 0 ≤ x → x < (k : Int) → u.1 31 (8 * g_r g + x) = 0) → M X G 9 u 223 [some (.ref (G.2.1 25)), some (.int (iI kd)), some (.int (iI a)), some (.int (iI b)), some (.int (iI c)), some (.int (iI R)), none, none, some (.int (iI (k : Int)))] [] := by
                          intro fuel
                          induction fuel with
                          | zero => intro k u hk8 hfu hw hz; exfalso; omega
                          | succ fuel ih =>
                            intro k u hk8 hfu hw hz
                            have e25r : u.1 25 1 = g_r g := by rw [hw.1 25 (by decide) (by decide) (by decide) (by decide)]; exact s1
                            refine m_iload h dX8_row_223 rfl ?_
                            refine m_bipush h dX8_row_225 (by decide) ?_
                            refine m_icmp_ge h dX8_row_227 (tgt := 252) (by decide) (by omega) (by omega) (fun c236 => ?_) (fun c236 => ?_)
                            · skip
                              have hz8 : ∀ x, 0 ≤ x → x < 8 → u.1 31 (8 * g_r g + x) = 0 := fun x q1 q2 => hz x q1 (by omega)
                              refine m_aload_n h dX8_row_252 rfl rfl ?_
                              refine m_dup h dX8_row_253 rfl ?_
                              refine m_get h fo_X8_64 (by decide) rfl rfl dX8_row_254 ?_
                              show M X G 9 u 257 [some (.ref (G.2.1 25)), some (.int (iI kd)), some (.int (iI a)), some (.int (iI b)), some (.int (iI c)), some (.int (iI R)), none, none, some (.int (iI (k : Int)))] [.int (iI (u.1 25 1)), .ref (G.2.1 25)]
                              rw [e25r]
                              show M X G 9 u 257 [some (.ref (G.2.1 25)), some (.int (iI kd)), some (.int (iI a)), some (.int (iI b)), some (.int (iI c)), some (.int (iI R)), none, none, some (.int (iI (k : Int)))] [.int (iI (g_r g)), .ref (G.2.1 25)]
                              refine m_iconst h dX8_row_257 ?_
                              refine m_iadd h dX8_row_258 ?_
                              refine m_putJ h fw_X8_64 (by decide) rfl (Nat.le_of_ble_eq_true rfl) (kz := 1) rfl rfl dX8_row_259 ?_
                              have hS1 := rwF_s ⟨s0, s1, s2, s3⟩ hg hr12 hw hz8
                              have hF1 : FrM v (wI u 25 1 ((g_r g) + 1)) := FrM.w ⟨fun i hi => hw.1 i (by omega) (by omega) (by omega) (by omega), hw.2.1⟩ (by omega)
                              refine m_aload_n h dX8_row_262 rfl rfl ?_
                              refine m_vV h (m_anew _ hG _ (by intro x x0 x1; exact hS1.2.2.1.z x x0 x1)) moX8_anew voX8_anew lk_X8_73 dX8_row_263 (by decide) (by decide) rfl rfl rfl (Nat.le_of_ble_eq_true rfl) (fun ua p239 => ?_)
                              have hRa := RM_an hS1 p239 t
                              have hFa := hF1.tr (ANW.m p239)
                              have hAn := p239
                              refine m_aload_n h dX8_row_266 rfl rfl ?_
                              refine m_get h fo_X8_64 (by decide) rfl rfl dX8_row_267 ?_
                              refine m_iconst h dX8_row_270 ?_
                              refine m_isub h dX8_row_271 ?_
                              refine m_iret h hR rfl dX8_row_272 ?_
                              refine Or.inr ⟨hgd, Or.inr ⟨hr12, ?_, hRa, hFa⟩⟩
                              have : ua.1 25 1 = g_r g + 1 := hRa.1.2.1
                              omega
                            · skip
                              refine m_aload_n h dX8_row_230 rfl rfl ?_
                              refine m_get h fo_X8_26 (by decide) rfl rfl dX8_row_231 ?_
                              refine m_bipush h dX8_row_234 (by decide) ?_
                              refine m_aload_n h dX8_row_236 rfl rfl ?_
                              refine m_get h fo_X8_64 (by decide) rfl rfl dX8_row_237 ?_
                              show M X G 9 u 240 [some (.ref (G.2.1 25)), some (.int (iI kd)), some (.int (iI a)), some (.int (iI b)), some (.int (iI c)), some (.int (iI R)), none, none, some (.int (iI (k : Int)))] [.int (iI (u.1 25 1)), .int (iI 8), .ref (G.2.1 31)]
                              rw [e25r]
                              show M X G 9 u 240 [some (.ref (G.2.1 25)), some (.int (iI kd)), some (.int (iI a)), some (.int (iI b)), some (.int (iI c)), some (.int (iI R)), none, none, some (.int (iI (k : Int)))] [.int (iI (g_r g)), .int (iI 8), .ref (G.2.1 31)]
                              refine m_imul h dX8_row_240 ?_
                              refine m_iload h dX8_row_241 rfl ?_
                              refine m_iadd h dX8_row_243 ?_
                              refine m_iconst h dX8_row_244 ?_
                              refine m_iast h (ar_31 G) (by omega) (by omega) dX8_row_245 ?_
                              refine m_iinc h dX8_row_246 rfl (by decide) rfl ?_
                              refine m_goto h dX8_row_249 (tgt := 223) (by decide) ?_
                              refine ih (k + 1) _ (by omega) (by omega) (rwF_w hw (by omega)) (fun x x0 x1 => ?_)
                              by_cases e : x = (k : Int)
                              · subst e; rw [wI_s]
                              · rw [wI_n (by omega)]; exact hz x x0 (by omega)
                        exact lp223 100 0 _ (by omega) (by omega) (rwF_i (by rw [if_pos (by omega)]; exact (mN_nn (by have : isNm g a := hgd.2.2.1 (by omega); exact this.1)).symm) (by rw [if_neg (by omega)]; rfl) (by rw [if_neg (by omega)]; rfl)) (fun x q1 q2 => by omega)
                      · skip
                        refine m_iload h dX8_row_200 rfl ?_
                        refine m_goto h dX8_row_202 (tgt := 208) (by decide) ?_
                        refine m_iast h (ar_29 G) (by omega) (by omega) dX8_row_208 ?_
                        refine m_aload_n h dX8_row_209 rfl rfl ?_
                        refine m_get h fo_X8_23 (by decide) rfl rfl dX8_row_210 ?_
                        refine m_aload_n h dX8_row_213 rfl rfl ?_
                        refine m_get h fo_X8_64 (by decide) rfl rfl dX8_row_214 ?_
                        show M X G 9 (wI (wI (wI (wI v 28 (g_r g) kd) 29 (3 * (g_r g)) a) 29 ((3 * (g_r g)) + 1) (-1000)) 29 ((3 * (g_r g)) + 2) c) 217 [some (.ref (G.2.1 25)), some (.int (iI kd)), some (.int (iI a)), some (.int (iI b)), some (.int (iI c)), some (.int (iI R)), some (.int (iI ow)), some (.int (iI 1)), none] [.int (iI (v.1 25 1)), .ref (G.2.1 30)]
                        show M X G 9 (wI (wI (wI (wI v 28 (g_r g) kd) 29 (3 * (g_r g)) a) 29 ((3 * (g_r g)) + 1) (-1000)) 29 ((3 * (g_r g)) + 2) c) 217 [some (.ref (G.2.1 25)), some (.int (iI kd)), some (.int (iI a)), some (.int (iI b)), some (.int (iI c)), some (.int (iI R)), some (.int (iI ow)), some (.int (iI 1)), none] [.int (iI (v.1 25 1)), .ref (G.2.1 30)]
                        rw [s1]
                        show M X G 9 (wI (wI (wI (wI v 28 (g_r g) kd) 29 (3 * (g_r g)) a) 29 ((3 * (g_r g)) + 1) (-1000)) 29 ((3 * (g_r g)) + 2) c) 217 [some (.ref (G.2.1 25)), some (.int (iI kd)), some (.int (iI a)), some (.int (iI b)), some (.int (iI c)), some (.int (iI R)), some (.int (iI ow)), some (.int (iI 1)), none] [.int (iI (g_r g)), .ref (G.2.1 30)]
                        refine m_iload h dX8_row_217 rfl ?_
                        refine m_iast h (ar_30 G) (by omega) (by omega) dX8_row_219 ?_
                        refine m_iconst h dX8_row_220 ?_
                        refine m_istore h dX8_row_221 (by decide) rfl ?_
                        refine m_kill 6 ?_
                        refine m_kill 7 ?_
                        have lp223 : ∀ (fuel : Nat) (k : Nat) (u : Mem), k ≤ 8 → 20 - k < fuel → rwF v (g_r g) kd (if 1 ≤ NKs kd then a else -1) (if 2 ≤ NKs kd then b else -1) (if 3 ≤ NKs kd then c else -1) R u → (∀ x, 0 ≤ x → x < (k : Int) → u.1 31 (8 * g_r g + x) = 0) → M X G 9 u 223 [some (.ref (G.2.1 25)), some (.int (iI kd)), some (.int (iI a)), some (.int (iI b)), some (.int (iI c)), some (.int (iI R)), none, none, some (.int (iI (k : Int)))] [] := by
                          intro fuel
                          induction fuel with
                          | zero => intro k u hk8 hfu hw hz; exfalso; omega
                          | succ fuel ih =>
                            intro k u hk8 hfu hw hz
                            have e25r : u.1 25 1 = g_r g := by rw [hw.1 25 (by decide) (by decide) (by decide) (by decide)]; exact s1
                            refine m_iload h dX8_row_223 rfl ?_
                            refine m_bipush h dX8_row_225 (by decide) ?_
                            refine m_icmp_ge h dX8_row_227 (tgt := 252) (by decide) (by omega) (by omega) (fun c240 => ?_) (fun c240 => ?_)
                            · skip
                              have hz8 : ∀ x, 0 ≤ x → x < 8 → u.1 31 (8 * g_r g + x) = 0 := fun x q1 q2 => hz x q1 (by omega)
                              refine m_aload_n h dX8_row_252 rfl rfl ?_
                              refine m_dup h dX8_row_253 rfl ?_
                              refine m_get h fo_X8_64 (by decide) rfl rfl dX8_row_254 ?_
                              show M X G 9 u 257 [some (.ref (G.2.1 25)), some (.int (iI kd)), some (.int (iI a)), some (.int (iI b)), some (.int (iI c)), some (.int (iI R)), none, none, some (.int (iI (k : Int)))] [.int (iI (u.1 25 1)), .ref (G.2.1 25)]
                              rw [e25r]
                              show M X G 9 u 257 [some (.ref (G.2.1 25)), some (.int (iI kd)), some (.int (iI a)), some (.int (iI b)), some (.int (iI c)), some (.int (iI R)), none, none, some (.int (iI (k : Int)))] [.int (iI (g_r g)), .ref (G.2.1 25)]
                              refine m_iconst h dX8_row_257 ?_
                              refine m_iadd h dX8_row_258 ?_
                              refine m_putJ h fw_X8_64 (by decide) rfl (Nat.le_of_ble_eq_true rfl) (kz := 1) rfl rfl dX8_row_259 ?_
                              have hS1 := rwF_s ⟨s0, s1, s2, s3⟩ hg hr12 hw hz8
                              have hF1 : FrM v (wI u 25 1 ((g_r g) + 1)) := FrM.w ⟨fun i hi => hw.1 i (by omega) (by omega) (by omega) (by omega), hw.2.1⟩ (by omega)
                              refine m_aload_n h dX8_row_262 rfl rfl ?_
                              refine m_vV h (m_anew _ hG _ (by intro x x0 x1; exact hS1.2.2.1.z x x0 x1)) moX8_anew voX8_anew lk_X8_73 dX8_row_263 (by decide) (by decide) rfl rfl rfl (Nat.le_of_ble_eq_true rfl) (fun ua p243 => ?_)
                              have hRa := RM_an hS1 p243 t
                              have hFa := hF1.tr (ANW.m p243)
                              have hAn := p243
                              refine m_aload_n h dX8_row_266 rfl rfl ?_
                              refine m_get h fo_X8_64 (by decide) rfl rfl dX8_row_267 ?_
                              refine m_iconst h dX8_row_270 ?_
                              refine m_isub h dX8_row_271 ?_
                              refine m_iret h hR rfl dX8_row_272 ?_
                              refine Or.inr ⟨hgd, Or.inr ⟨hr12, ?_, hRa, hFa⟩⟩
                              have : ua.1 25 1 = g_r g + 1 := hRa.1.2.1
                              omega
                            · skip
                              refine m_aload_n h dX8_row_230 rfl rfl ?_
                              refine m_get h fo_X8_26 (by decide) rfl rfl dX8_row_231 ?_
                              refine m_bipush h dX8_row_234 (by decide) ?_
                              refine m_aload_n h dX8_row_236 rfl rfl ?_
                              refine m_get h fo_X8_64 (by decide) rfl rfl dX8_row_237 ?_
                              show M X G 9 u 240 [some (.ref (G.2.1 25)), some (.int (iI kd)), some (.int (iI a)), some (.int (iI b)), some (.int (iI c)), some (.int (iI R)), none, none, some (.int (iI (k : Int)))] [.int (iI (u.1 25 1)), .int (iI 8), .ref (G.2.1 31)]
                              rw [e25r]
                              show M X G 9 u 240 [some (.ref (G.2.1 25)), some (.int (iI kd)), some (.int (iI a)), some (.int (iI b)), some (.int (iI c)), some (.int (iI R)), none, none, some (.int (iI (k : Int)))] [.int (iI (g_r g)), .int (iI 8), .ref (G.2.1 31)]
                              refine m_imul h dX8_row_240 ?_
                              refine m_iload h dX8_row_241 rfl ?_
                              refine m_iadd h dX8_row_243 ?_
                              refine m_iconst h dX8_row_244 ?_
                              refine m_iast h (ar_31 G) (by omega) (by omega) dX8_row_245 ?_
                              refine m_iinc h dX8_row_246 rfl (by decide) rfl ?_
                              refine m_goto h dX8_row_249 (tgt := 223) (by decide) ?_
                              refine ih (k + 1) _ (by omega) (by omega) (rwF_w hw (by omega)) (fun x x0 x1 => ?_)
                              by_cases e : x = (k : Int)
                              · subst e; rw [wI_s]
                              · rw [wI_n (by omega)]; exact hz x x0 (by omega)
                        exact lp223 100 0 _ (by omega) (by omega) (rwF_i (by rw [if_pos (by omega)]; exact (mN_nn (by have : isNm g a := hgd.2.2.1 (by omega); exact this.1)).symm) (by rw [if_neg (by omega)]; rfl) (by rw [if_pos (by omega)]; exact (mN_nn (by have : isNm g c := (hgd.2.2.2.2 (by omega)).1; exact this.1)).symm)) (fun x q1 q2 => by omega)
                    · skip
                      refine m_iload_n h dX8_row_174 rfl rfl ?_
                      refine m_goto h dX8_row_175 (tgt := 181) (by decide) ?_
                      refine m_iast h (ar_29 G) (by omega) (by omega) dX8_row_181 ?_
                      refine m_aload_n h dX8_row_182 rfl rfl ?_
                      refine m_get h fo_X8_20 (by decide) rfl rfl dX8_row_183 ?_
                      refine m_iconst h dX8_row_186 ?_
                      refine m_aload_n h dX8_row_187 rfl rfl ?_
                      refine m_get h fo_X8_64 (by decide) rfl rfl dX8_row_188 ?_
                      show M X G 9 (wI (wI (wI v 28 (g_r g) kd) 29 (3 * (g_r g)) a) 29 ((3 * (g_r g)) + 1) b) 191 [some (.ref (G.2.1 25)), some (.int (iI kd)), some (.int (iI a)), some (.int (iI b)), some (.int (iI c)), some (.int (iI R)), some (.int (iI ow)), some (.int (iI 1)), none] [.int (iI (v.1 25 1)), .int (iI 3), .ref (G.2.1 29)]
                      show M X G 9 (wI (wI (wI v 28 (g_r g) kd) 29 (3 * (g_r g)) a) 29 ((3 * (g_r g)) + 1) b) 191 [some (.ref (G.2.1 25)), some (.int (iI kd)), some (.int (iI a)), some (.int (iI b)), some (.int (iI c)), some (.int (iI R)), some (.int (iI ow)), some (.int (iI 1)), none] [.int (iI (v.1 25 1)), .int (iI 3), .ref (G.2.1 29)]
                      rw [s1]
                      show M X G 9 (wI (wI (wI v 28 (g_r g) kd) 29 (3 * (g_r g)) a) 29 ((3 * (g_r g)) + 1) b) 191 [some (.ref (G.2.1 25)), some (.int (iI kd)), some (.int (iI a)), some (.int (iI b)), some (.int (iI c)), some (.int (iI R)), some (.int (iI ow)), some (.int (iI 1)), none] [.int (iI (g_r g)), .int (iI 3), .ref (G.2.1 29)]
                      refine m_imul h dX8_row_191 ?_
                      refine m_iconst h dX8_row_192 ?_
                      refine m_iadd h dX8_row_193 ?_
                      refine m_iload h dX8_row_194 rfl ?_
                      refine m_iconst h dX8_row_196 ?_
                      refine m_icmp_le h dX8_row_197 (tgt := 205) (by decide) (by omega) (by omega) (fun c244 => ?_) (fun c244 => ?_)
                      · skip
                        refine m_sipush h dX8_row_205 (by decide) ?_
                        refine m_iast h (ar_29 G) (by omega) (by omega) dX8_row_208 ?_
                        refine m_aload_n h dX8_row_209 rfl rfl ?_
                        refine m_get h fo_X8_23 (by decide) rfl rfl dX8_row_210 ?_
                        refine m_aload_n h dX8_row_213 rfl rfl ?_
                        refine m_get h fo_X8_64 (by decide) rfl rfl dX8_row_214 ?_
                        show M X G 9 (wI (wI (wI (wI v 28 (g_r g) kd) 29 (3 * (g_r g)) a) 29 ((3 * (g_r g)) + 1) b) 29 ((3 * (g_r g)) + 2) (-1000)) 217 [some (.ref (G.2.1 25)), some (.int (iI kd)), some (.int (iI a)), some (.int (iI b)), some (.int (iI c)), some (.int (iI R)), some (.int (iI ow)), some (.int (iI 1)), none] [.int (iI (v.1 25 1)), .ref (G.2.1 30)]
                        show M X G 9 (wI (wI (wI (wI v 28 (g_r g) kd) 29 (3 * (g_r g)) a) 29 ((3 * (g_r g)) + 1) b) 29 ((3 * (g_r g)) + 2) (-1000)) 217 [some (.ref (G.2.1 25)), some (.int (iI kd)), some (.int (iI a)), some (.int (iI b)), some (.int (iI c)), some (.int (iI R)), some (.int (iI ow)), some (.int (iI 1)), none] [.int (iI (v.1 25 1)), .ref (G.2.1 30)]
                        rw [s1]
                        show M X G 9 (wI (wI (wI (wI v 28 (g_r g) kd) 29 (3 * (g_r g)) a) 29 ((3 * (g_r g)) + 1) b) 29 ((3 * (g_r g)) + 2) (-1000)) 217 [some (.ref (G.2.1 25)), some (.int (iI kd)), some (.int (iI a)), some (.int (iI b)), some (.int (iI c)), some (.int (iI R)), some (.int (iI ow)), some (.int (iI 1)), none] [.int (iI (g_r g)), .ref (G.2.1 30)]
                        refine m_iload h dX8_row_217 rfl ?_
                        refine m_iast h (ar_30 G) (by omega) (by omega) dX8_row_219 ?_
                        refine m_iconst h dX8_row_220 ?_
                        refine m_istore h dX8_row_221 (by decide) rfl ?_
                        refine m_kill 6 ?_
                        refine m_kill 7 ?_
                        have lp223 : ∀ (fuel : Nat) (k : Nat) (u : Mem), k ≤ 8 → 20 - k < fuel → rwF v (g_r g) kd (if 1 ≤ NKs kd then a else -1) (if 2 ≤ NKs kd then b else -1) (if 3 ≤ NKs kd then c else -1) R u → (∀ x, 0 ≤ x → x < (k : Int) → u.1 31 (8 * g_r g + x) = 0) → M X G 9 u 223 [some (.ref (G.2.1 25)), some (.int (iI kd)), some (.int (iI a)), some (.int (iI b)), some (.int (iI c)), some (.int (iI R)), none, none, some (.int (iI (k : Int)))] [] := by
                          intro fuel
                          induction fuel with
                          | zero => intro k u hk8 hfu hw hz; exfalso; omega
                          | succ fuel ih =>
                            intro k u hk8 hfu hw hz
                            have e25r : u.1 25 1 = g_r g := by rw [hw.1 25 (by decide) (by decide) (by decide) (by decide)]; exact s1
                            refine m_iload h dX8_row_223 rfl ?_
                            refine m_bipush h dX8_row_225 (by decide) ?_
                            refine m_icmp_ge h dX8_row_227 (tgt := 252) (by decide) (by omega) (by omega) (fun c245 => ?_) (fun c245 => ?_)
                            · skip
                              have hz8 : ∀ x, 0 ≤ x → x < 8 → u.1 31 (8 * g_r g + x) = 0 := fun x q1 q2 => hz x q1 (by omega)
                              refine m_aload_n h dX8_row_252 rfl rfl ?_
                              refine m_dup h dX8_row_253 rfl ?_
                              refine m_get h fo_X8_64 (by decide) rfl rfl dX8_row_254 ?_
                              show M X G 9 u 257 [some (.ref (G.2.1 25)), some (.int (iI kd)), some (.int (iI a)), some (.int (iI b)), some (.int (iI c)), some (.int (iI R)), none, none, some (.int (iI (k : Int)))] [.int (iI (u.1 25 1)), .ref (G.2.1 25)]
                              rw [e25r]
                              show M X G 9 u 257 [some (.ref (G.2.1 25)), some (.int (iI kd)), some (.int (iI a)), some (.int (iI b)), some (.int (iI c)), some (.int (iI R)), none, none, some (.int (iI (k : Int)))] [.int (iI (g_r g)), .ref (G.2.1 25)]
                              refine m_iconst h dX8_row_257 ?_
                              refine m_iadd h dX8_row_258 ?_
                              refine m_putJ h fw_X8_64 (by decide) rfl (Nat.le_of_ble_eq_true rfl) (kz := 1) rfl rfl dX8_row_259 ?_
                              have hS1 := rwF_s ⟨s0, s1, s2, s3⟩ hg hr12 hw hz8
                              have hF1 : FrM v (wI u 25 1 ((g_r g) + 1)) := FrM.w ⟨fun i hi => hw.1 i (by omega) (by omega) (by omega) (by omega), hw.2.1⟩ (by omega)
                              refine m_aload_n h dX8_row_262 rfl rfl ?_
                              refine m_vV h (m_anew _ hG _ (by intro x x0 x1; exact hS1.2.2.1.z x x0 x1)) moX8_anew voX8_anew lk_X8_73 dX8_row_263 (by decide) (by decide) rfl rfl rfl (Nat.le_of_ble_eq_true rfl) (fun ua p248 => ?_)
                              have hRa := RM_an hS1 p248 t
                              have hFa := hF1.tr (ANW.m p248)
                              have hAn := p248
                              refine m_aload_n h dX8_row_266 rfl rfl ?_
                              refine m_get h fo_X8_64 (by decide) rfl rfl dX8_row_267 ?_
                              refine m_iconst h dX8_row_270 ?_
                              refine m_isub h dX8_row_271 ?_
                              refine m_iret h hR rfl dX8_row_272 ?_
                              refine Or.inr ⟨hgd, Or.inr ⟨hr12, ?_, hRa, hFa⟩⟩
                              have : ua.1 25 1 = g_r g + 1 := hRa.1.2.1
                              omega
                            · skip
                              refine m_aload_n h dX8_row_230 rfl rfl ?_
                              refine m_get h fo_X8_26 (by decide) rfl rfl dX8_row_231 ?_
                              refine m_bipush h dX8_row_234 (by decide) ?_
                              refine m_aload_n h dX8_row_236 rfl rfl ?_
                              refine m_get h fo_X8_64 (by decide) rfl rfl dX8_row_237 ?_
                              show M X G 9 u 240 [some (.ref (G.2.1 25)), some (.int (iI kd)), some (.int (iI a)), some (.int (iI b)), some (.int (iI c)), some (.int (iI R)), none, none, some (.int (iI (k : Int)))] [.int (iI (u.1 25 1)), .int (iI 8), .ref (G.2.1 31)]
                              rw [e25r]
                              show M X G 9 u 240 [some (.ref (G.2.1 25)), some (.int (iI kd)), some (.int (iI a)), some (.int (iI b)), some (.int (iI c)), some (.int (iI R)), none, none, some (.int (iI (k : Int)))] [.int (iI (g_r g)), .int (iI 8), .ref (G.2.1 31)]
                              refine m_imul h dX8_row_240 ?_
                              refine m_iload h dX8_row_241 rfl ?_
                              refine m_iadd h dX8_row_243 ?_
                              refine m_iconst h dX8_row_244 ?_
                              refine m_iast h (ar_31 G) (by omega) (by omega) dX8_row_245 ?_
                              refine m_iinc h dX8_row_246 rfl (by decide) rfl ?_
                              refine m_goto h dX8_row_249 (tgt := 223) (by decide) ?_
                              refine ih (k + 1) _ (by omega) (by omega) (rwF_w hw (by omega)) (fun x x0 x1 => ?_)
                              by_cases e : x = (k : Int)
                              · subst e; rw [wI_s]
                              · rw [wI_n (by omega)]; exact hz x x0 (by omega)
                        exact lp223 100 0 _ (by omega) (by omega) (rwF_i (by rw [if_pos (by omega)]; exact (mN_nn (by have : isNm g a := hgd.2.2.1 (by omega); exact this.1)).symm) (by rw [if_pos (by omega)]; exact (mN_nn (by have : isNm g b := (hgd.2.2.2.1 (by omega)).1; exact this.1)).symm) (by rw [if_neg (by omega)]; rfl)) (fun x q1 q2 => by omega)
                      · skip
                        refine m_iload h dX8_row_200 rfl ?_
                        refine m_goto h dX8_row_202 (tgt := 208) (by decide) ?_
                        refine m_iast h (ar_29 G) (by omega) (by omega) dX8_row_208 ?_
                        refine m_aload_n h dX8_row_209 rfl rfl ?_
                        refine m_get h fo_X8_23 (by decide) rfl rfl dX8_row_210 ?_
                        refine m_aload_n h dX8_row_213 rfl rfl ?_
                        refine m_get h fo_X8_64 (by decide) rfl rfl dX8_row_214 ?_
                        show M X G 9 (wI (wI (wI (wI v 28 (g_r g) kd) 29 (3 * (g_r g)) a) 29 ((3 * (g_r g)) + 1) b) 29 ((3 * (g_r g)) + 2) c) 217 [some (.ref (G.2.1 25)), some (.int (iI kd)), some (.int (iI a)), some (.int (iI b)), some (.int (iI c)), some (.int (iI R)), some (.int (iI ow)), some (.int (iI 1)), none] [.int (iI (v.1 25 1)), .ref (G.2.1 30)]
                        show M X G 9 (wI (wI (wI (wI v 28 (g_r g) kd) 29 (3 * (g_r g)) a) 29 ((3 * (g_r g)) + 1) b) 29 ((3 * (g_r g)) + 2) c) 217 [some (.ref (G.2.1 25)), some (.int (iI kd)), some (.int (iI a)), some (.int (iI b)), some (.int (iI c)), some (.int (iI R)), some (.int (iI ow)), some (.int (iI 1)), none] [.int (iI (v.1 25 1)), .ref (G.2.1 30)]
                        rw [s1]
                        show M X G 9 (wI (wI (wI (wI v 28 (g_r g) kd) 29 (3 * (g_r g)) a) 29 ((3 * (g_r g)) + 1) b) 29 ((3 * (g_r g)) + 2) c) 217 [some (.ref (G.2.1 25)), some (.int (iI kd)), some (.int (iI a)), some (.int (iI b)), some (.int (iI c)), some (.int (iI R)), some (.int (iI ow)), some (.int (iI 1)), none] [.int (iI (g_r g)), .ref (G.2.1 30)]
                        refine m_iload h dX8_row_217 rfl ?_
                        refine m_iast h (ar_30 G) (by omega) (by omega) dX8_row_219 ?_
                        refine m_iconst h dX8_row_220 ?_
                        refine m_istore h dX8_row_221 (by decide) rfl ?_
                        refine m_kill 6 ?_
                        refine m_kill 7 ?_
                        have lp223 : ∀ (fuel : Nat) (k : Nat) (u : Mem), k ≤ 8 → 20 - k < fuel → rwF v (g_r g) kd (if 1 ≤ NKs kd then a else -1) (if 2 ≤ NKs kd then b else -1) (if 3 ≤ NKs kd then c else -1) R u → (∀ x, 0 ≤ x → x < (k : Int) → u.1 31 (8 * g_r g + x) = 0) → M X G 9 u 223 [some (.ref (G.2.1 25)), some (.int (iI kd)), some (.int (iI a)), some (.int (iI b)), some (.int (iI c)), some (.int (iI R)), none, none, some (.int (iI (k : Int)))] [] := by
                          intro fuel
                          induction fuel with
                          | zero => intro k u hk8 hfu hw hz; exfalso; omega
                          | succ fuel ih =>
                            intro k u hk8 hfu hw hz
                            have e25r : u.1 25 1 = g_r g := by rw [hw.1 25 (by decide) (by decide) (by decide) (by decide)]; exact s1
                            refine m_iload h dX8_row_223 rfl ?_
                            refine m_bipush h dX8_row_225 (by decide) ?_
                            refine m_icmp_ge h dX8_row_227 (tgt := 252) (by decide) (by omega) (by omega) (fun c249 => ?_) (fun c249 => ?_)
                            · skip
                              have hz8 : ∀ x, 0 ≤ x → x < 8 → u.1 31 (8 * g_r g + x) = 0 := fun x q1 q2 => hz x q1 (by omega)
                              refine m_aload_n h dX8_row_252 rfl rfl ?_
                              refine m_dup h dX8_row_253 rfl ?_
                              refine m_get h fo_X8_64 (by decide) rfl rfl dX8_row_254 ?_
                              show M X G 9 u 257 [some (.ref (G.2.1 25)), some (.int (iI kd)), some (.int (iI a)), some (.int (iI b)), some (.int (iI c)), some (.int (iI R)), none, none, some (.int (iI (k : Int)))] [.int (iI (u.1 25 1)), .ref (G.2.1 25)]
                              rw [e25r]
                              show M X G 9 u 257 [some (.ref (G.2.1 25)), some (.int (iI kd)), some (.int (iI a)), some (.int (iI b)), some (.int (iI c)), some (.int (iI R)), none, none, some (.int (iI (k : Int)))] [.int (iI (g_r g)), .ref (G.2.1 25)]
                              refine m_iconst h dX8_row_257 ?_
                              refine m_iadd h dX8_row_258 ?_
                              refine m_putJ h fw_X8_64 (by decide) rfl (Nat.le_of_ble_eq_true rfl) (kz := 1) rfl rfl dX8_row_259 ?_
                              have hS1 := rwF_s ⟨s0, s1, s2, s3⟩ hg hr12 hw hz8
                              have hF1 : FrM v (wI u 25 1 ((g_r g) + 1)) := FrM.w ⟨fun i hi => hw.1 i (by omega) (by omega) (by omega) (by omega), hw.2.1⟩ (by omega)
                              refine m_aload_n h dX8_row_262 rfl rfl ?_
                              refine m_vV h (m_anew _ hG _ (by intro x x0 x1; exact hS1.2.2.1.z x x0 x1)) moX8_anew voX8_anew lk_X8_73 dX8_row_263 (by decide) (by decide) rfl rfl rfl (Nat.le_of_ble_eq_true rfl) (fun ua p252 => ?_)
                              have hRa := RM_an hS1 p252 t
                              have hFa := hF1.tr (ANW.m p252)
                              have hAn := p252
                              refine m_aload_n h dX8_row_266 rfl rfl ?_
                              refine m_get h fo_X8_64 (by decide) rfl rfl dX8_row_267 ?_
                              refine m_iconst h dX8_row_270 ?_
                              refine m_isub h dX8_row_271 ?_
                              refine m_iret h hR rfl dX8_row_272 ?_
                              refine Or.inr ⟨hgd, Or.inr ⟨hr12, ?_, hRa, hFa⟩⟩
                              have : ua.1 25 1 = g_r g + 1 := hRa.1.2.1
                              omega
                            · skip
                              refine m_aload_n h dX8_row_230 rfl rfl ?_
                              refine m_get h fo_X8_26 (by decide) rfl rfl dX8_row_231 ?_
                              refine m_bipush h dX8_row_234 (by decide) ?_
                              refine m_aload_n h dX8_row_236 rfl rfl ?_
                              refine m_get h fo_X8_64 (by decide) rfl rfl dX8_row_237 ?_
                              show M X G 9 u 240 [some (.ref (G.2.1 25)), some (.int (iI kd)), some (.int (iI a)), some (.int (iI b)), some (.int (iI c)), some (.int (iI R)), none, none, some (.int (iI (k : Int)))] [.int (iI (u.1 25 1)), .int (iI 8), .ref (G.2.1 31)]
                              rw [e25r]
                              show M X G 9 u 240 [some (.ref (G.2.1 25)), some (.int (iI kd)), some (.int (iI a)), some (.int (iI b)), some (.int (iI c)), some (.int (iI R)), none, none, some (.int (iI (k : Int)))] [.int (iI (g_r g)), .int (iI 8), .ref (G.2.1 31)]
                              refine m_imul h dX8_row_240 ?_
                              refine m_iload h dX8_row_241 rfl ?_
                              refine m_iadd h dX8_row_243 ?_
                              refine m_iconst h dX8_row_244 ?_
                              refine m_iast h (ar_31 G) (by omega) (by omega) dX8_row_245 ?_
                              refine m_iinc h dX8_row_246 rfl (by decide) rfl ?_
                              refine m_goto h dX8_row_249 (tgt := 223) (by decide) ?_
                              refine ih (k + 1) _ (by omega) (by omega) (rwF_w hw (by omega)) (fun x x0 x1 => ?_)
                              by_cases e : x = (k : Int)
                              · subst e; rw [wI_s]
                              · rw [wI_n (by omega)]; exact hz x x0 (by omega)
                        exact lp223 100 0 _ (by omega) (by omega) (rwF_i (by rw [if_pos (by omega)]; exact (mN_nn (by have : isNm g a := hgd.2.2.1 (by omega); exact this.1)).symm) (by rw [if_pos (by omega)]; exact (mN_nn (by have : isNm g b := (hgd.2.2.2.1 (by omega)).1; exact this.1)).symm) (by rw [if_pos (by omega)]; exact (mN_nn (by have : isNm g c := (hgd.2.2.2.2 (by omega)).1; exact this.1)).symm)) (fun x q1 q2 => by omega)
                · skip
                  refine m_sipush h dX8_row_119 (by decide) ?_
                  refine m_iret h hR rfl dX8_row_122 ?_
                  exact Or.inr ⟨⟨h1, h2, hgd3⟩, Or.inl ⟨by omega, rfl, rfl⟩⟩
              · skip
                omega
            · skip
              refine m_aload_n h dX8_row_73 rfl rfl ?_
              refine m_iload h dX8_row_74 rfl ?_
              refine m_vI h (m_isName _ hG _ c hc (by omega)) moX8_isName voX8_isName lk_X8_76 dX8_row_76 (by decide) (by decide) rfl rfl rfl (Nat.le_of_ble_eq_true rfl) (fun r253 u254 p255 => ?_)
              obtain ⟨hu9, hbc⟩ := p255
              rw [hu9]
              rw [s0] at hbc
              have hbc : bz r253 (isNm g c) := hbc
              have hbci := hbc.in
              refine m_if_eq h dX8_row_79 (tgt := 98) (by decide) (by omega) (fun c256 => ?_) (fun c256 => ?_)
              · skip
                have hgd4 : ¬ ((1 ≤ NKs kd → isNm g a) ∧ (2 ≤ NKs kd → isNm g b ∧ b ≠ a) ∧ (3 ≤ NKs kd → isNm g c ∧ c ≠ a ∧ c ≠ b)) := fun q => by
                  first
                    | exact absurd (q.2.2 (by omega)).2.2 (by omega)
                    | exact absurd (q.2.2 (by omega)).2.1 (by omega)
                    | exact hbc.no (by omega) (q.2.2 (by omega)).1
                    | exact absurd (q.2.1 (by omega)).2 (by omega)
                    | exact hbb.no (by omega) (q.2.1 (by omega)).1
                    | exact hba.no (by omega) (q.1 (by omega))
                refine m_iconst h dX8_row_98 ?_
                refine m_istore h dX8_row_99 (by decide) rfl ?_
                refine m_iload h dX8_row_101 rfl ?_
                refine m_if_ne h dX8_row_103 (tgt := 110) (by decide) (by omega) (fun c257 => ?_) (fun c257 => ?_)
                · skip
                  omega
                · skip
                  refine m_sipush h dX8_row_106 (by decide) ?_
                  refine m_iret h hR rfl dX8_row_109 ?_
                  refine Or.inl ⟨fun q => ?_, rfl, rfl⟩
                  exact hgd4 q.2.2
              · skip
                refine m_iload h dX8_row_82 rfl ?_
                refine m_iload_n h dX8_row_84 rfl rfl ?_
                refine m_icmp_eq h dX8_row_85 (tgt := 98) (by decide) (by omega) (by omega) (fun c258 => ?_) (fun c258 => ?_)
                · skip
                  have hgd4 : ¬ ((1 ≤ NKs kd → isNm g a) ∧ (2 ≤ NKs kd → isNm g b ∧ b ≠ a) ∧ (3 ≤ NKs kd → isNm g c ∧ c ≠ a ∧ c ≠ b)) := fun q => by
                    first
                      | exact absurd (q.2.2 (by omega)).2.2 (by omega)
                      | exact absurd (q.2.2 (by omega)).2.1 (by omega)
                      | exact hbc.no (by omega) (q.2.2 (by omega)).1
                      | exact absurd (q.2.1 (by omega)).2 (by omega)
                      | exact hbb.no (by omega) (q.2.1 (by omega)).1
                      | exact hba.no (by omega) (q.1 (by omega))
                  refine m_iconst h dX8_row_98 ?_
                  refine m_istore h dX8_row_99 (by decide) rfl ?_
                  refine m_iload h dX8_row_101 rfl ?_
                  refine m_if_ne h dX8_row_103 (tgt := 110) (by decide) (by omega) (fun c259 => ?_) (fun c259 => ?_)
                  · skip
                    omega
                  · skip
                    refine m_sipush h dX8_row_106 (by decide) ?_
                    refine m_iret h hR rfl dX8_row_109 ?_
                    refine Or.inl ⟨fun q => ?_, rfl, rfl⟩
                    exact hgd4 q.2.2
                · skip
                  refine m_iload h dX8_row_88 rfl ?_
                  refine m_iload_n h dX8_row_90 rfl rfl ?_
                  refine m_icmp_eq h dX8_row_91 (tgt := 98) (by decide) (by omega) (by omega) (fun c260 => ?_) (fun c260 => ?_)
                  · skip
                    have hgd4 : ¬ ((1 ≤ NKs kd → isNm g a) ∧ (2 ≤ NKs kd → isNm g b ∧ b ≠ a) ∧ (3 ≤ NKs kd → isNm g c ∧ c ≠ a ∧ c ≠ b)) := fun q => by
                      first
                        | exact absurd (q.2.2 (by omega)).2.2 (by omega)
                        | exact absurd (q.2.2 (by omega)).2.1 (by omega)
                        | exact hbc.no (by omega) (q.2.2 (by omega)).1
                        | exact absurd (q.2.1 (by omega)).2 (by omega)
                        | exact hbb.no (by omega) (q.2.1 (by omega)).1
                        | exact hba.no (by omega) (q.1 (by omega))
                    refine m_iconst h dX8_row_98 ?_
                    refine m_istore h dX8_row_99 (by decide) rfl ?_
                    refine m_iload h dX8_row_101 rfl ?_
                    refine m_if_ne h dX8_row_103 (tgt := 110) (by decide) (by omega) (fun c261 => ?_) (fun c261 => ?_)
                    · skip
                      omega
                    · skip
                      refine m_sipush h dX8_row_106 (by decide) ?_
                      refine m_iret h hR rfl dX8_row_109 ?_
                      refine Or.inl ⟨fun q => ?_, rfl, rfl⟩
                      exact hgd4 q.2.2
                  · skip
                    have hgd3 : ((1 ≤ NKs kd → isNm g a) ∧ (2 ≤ NKs kd → isNm g b ∧ b ≠ a) ∧ (3 ≤ NKs kd → isNm g c ∧ c ≠ a ∧ c ≠ b)) := by
                      refine ⟨fun q => ?_, fun q => ?_, fun q => ?_⟩
                      · first | omega | exact hba.yes (by omega)
                      · first | omega | exact ⟨hbb.yes (by omega), by omega⟩
                      · first | omega | exact ⟨hbc.yes (by omega), by omega, by omega⟩
                    refine m_iconst h dX8_row_94 ?_
                    refine m_goto h dX8_row_95 (tgt := 99) (by decide) ?_
                    refine m_istore h dX8_row_99 (by decide) rfl ?_
                    refine m_iload h dX8_row_101 rfl ?_
                    refine m_if_ne h dX8_row_103 (tgt := 110) (by decide) (by omega) (fun c262 => ?_) (fun c262 => ?_)
                    · skip
                      refine m_aload_n h dX8_row_110 rfl rfl ?_
                      refine m_get h fo_X8_64 (by decide) rfl rfl dX8_row_111 ?_
                      refine m_bipush h dX8_row_114 (by decide) ?_
                      refine m_icmp_ne h dX8_row_116 (tgt := 123) (by decide) (by omega) (by omega) (fun c263 => ?_) (fun c263 => ?_)
                      · skip
                        have hgd : RwGood g kd a b c R := ⟨h1, h2, hgd3⟩
                        have hr12 : g_r g < 12 := by omega
                        have hNr := nks_rg kd
                        refine m_aload_n h dX8_row_123 rfl rfl ?_
                        refine m_get h fo_X8_16 (by decide) rfl rfl dX8_row_124 ?_
                        refine m_aload_n h dX8_row_127 rfl rfl ?_
                        refine m_get h fo_X8_64 (by decide) rfl rfl dX8_row_128 ?_
                        show M X G 9 v 131 [some (.ref (G.2.1 25)), some (.int (iI kd)), some (.int (iI a)), some (.int (iI b)), some (.int (iI c)), some (.int (iI R)), some (.int (iI ow)), some (.int (iI 1)), none] [.int (iI (v.1 25 1)), .ref (G.2.1 28)]
                        rw [s1]
                        show M X G 9 v 131 [some (.ref (G.2.1 25)), some (.int (iI kd)), some (.int (iI a)), some (.int (iI b)), some (.int (iI c)), some (.int (iI R)), some (.int (iI ow)), some (.int (iI 1)), none] [.int (iI (g_r g)), .ref (G.2.1 28)]
                        refine m_iload_n h dX8_row_131 rfl rfl ?_
                        refine m_iast h (ar_28 G) (by omega) (by omega) dX8_row_132 ?_
                        refine m_aload_n h dX8_row_133 rfl rfl ?_
                        refine m_get h fo_X8_20 (by decide) rfl rfl dX8_row_134 ?_
                        refine m_iconst h dX8_row_137 ?_
                        refine m_aload_n h dX8_row_138 rfl rfl ?_
                        refine m_get h fo_X8_64 (by decide) rfl rfl dX8_row_139 ?_
                        show M X G 9 (wI v 28 (g_r g) kd) 142 [some (.ref (G.2.1 25)), some (.int (iI kd)), some (.int (iI a)), some (.int (iI b)), some (.int (iI c)), some (.int (iI R)), some (.int (iI ow)), some (.int (iI 1)), none] [.int (iI (v.1 25 1)), .int (iI 3), .ref (G.2.1 29)]
                        show M X G 9 (wI v 28 (g_r g) kd) 142 [some (.ref (G.2.1 25)), some (.int (iI kd)), some (.int (iI a)), some (.int (iI b)), some (.int (iI c)), some (.int (iI R)), some (.int (iI ow)), some (.int (iI 1)), none] [.int (iI (v.1 25 1)), .int (iI 3), .ref (G.2.1 29)]
                        rw [s1]
                        show M X G 9 (wI v 28 (g_r g) kd) 142 [some (.ref (G.2.1 25)), some (.int (iI kd)), some (.int (iI a)), some (.int (iI b)), some (.int (iI c)), some (.int (iI R)), some (.int (iI ow)), some (.int (iI 1)), none] [.int (iI (g_r g)), .int (iI 3), .ref (G.2.1 29)]
                        refine m_imul h dX8_row_142 ?_
                        refine m_iload h dX8_row_143 rfl ?_
                        refine m_if_le h dX8_row_145 (tgt := 152) (by decide) (by omega) (fun c264 => ?_) (fun c264 => ?_)
                        · skip
                          refine m_sipush h dX8_row_152 (by decide) ?_
                          refine m_iast h (ar_29 G) (by omega) (by omega) dX8_row_155 ?_
                          refine m_aload_n h dX8_row_156 rfl rfl ?_
                          refine m_get h fo_X8_20 (by decide) rfl rfl dX8_row_157 ?_
                          refine m_iconst h dX8_row_160 ?_
                          refine m_aload_n h dX8_row_161 rfl rfl ?_
                          refine m_get h fo_X8_64 (by decide) rfl rfl dX8_row_162 ?_
                          show M X G 9 (wI (wI v 28 (g_r g) kd) 29 (3 * (g_r g)) (-1000)) 165 [some (.ref (G.2.1 25)), some (.int (iI kd)), some (.int (iI a)), some (.int (iI b)), some (.int (iI c)), some (.int (iI R)), some (.int (iI ow)), some (.int (iI 1)), none] [.int (iI (v.1 25 1)), .int (iI 3), .ref (G.2.1 29)]
                          show M X G 9 (wI (wI v 28 (g_r g) kd) 29 (3 * (g_r g)) (-1000)) 165 [some (.ref (G.2.1 25)), some (.int (iI kd)), some (.int (iI a)), some (.int (iI b)), some (.int (iI c)), some (.int (iI R)), some (.int (iI ow)), some (.int (iI 1)), none] [.int (iI (v.1 25 1)), .int (iI 3), .ref (G.2.1 29)]
                          rw [s1]
                          show M X G 9 (wI (wI v 28 (g_r g) kd) 29 (3 * (g_r g)) (-1000)) 165 [some (.ref (G.2.1 25)), some (.int (iI kd)), some (.int (iI a)), some (.int (iI b)), some (.int (iI c)), some (.int (iI R)), some (.int (iI ow)), some (.int (iI 1)), none] [.int (iI (g_r g)), .int (iI 3), .ref (G.2.1 29)]
                          refine m_imul h dX8_row_165 ?_
                          refine m_iconst h dX8_row_166 ?_
                          refine m_iadd h dX8_row_167 ?_
                          refine m_iload h dX8_row_168 rfl ?_
                          refine m_iconst h dX8_row_170 ?_
                          refine m_icmp_le h dX8_row_171 (tgt := 178) (by decide) (by omega) (by omega) (fun c265 => ?_) (fun c265 => ?_)
                          · skip
                            refine m_sipush h dX8_row_178 (by decide) ?_
                            refine m_iast h (ar_29 G) (by omega) (by omega) dX8_row_181 ?_
                            refine m_aload_n h dX8_row_182 rfl rfl ?_
                            refine m_get h fo_X8_20 (by decide) rfl rfl dX8_row_183 ?_
                            refine m_iconst h dX8_row_186 ?_
                            refine m_aload_n h dX8_row_187 rfl rfl ?_
                            refine m_get h fo_X8_64 (by decide) rfl rfl dX8_row_188 ?_
                            show M X G 9 (wI (wI (wI v 28 (g_r g) kd) 29 (3 * (g_r g)) (-1000)) 29 ((3 * (g_r g)) + 1) (-1000)) 191 [some (.ref (G.2.1 25)), some (.int (iI kd)), some (.int (iI a)), some (.int (iI b)), some (.int (iI c)), some (.int (iI R)), some (.int (iI ow)), some (.int (iI 1)), none] [.int (iI (v.1 25 1)), .int (iI 3), .ref (G.2.1 29)]
                            show M X G 9 (wI (wI (wI v 28 (g_r g) kd) 29 (3 * (g_r g)) (-1000)) 29 ((3 * (g_r g)) + 1) (-1000)) 191 [some (.ref (G.2.1 25)), some (.int (iI kd)), some (.int (iI a)), some (.int (iI b)), some (.int (iI c)), some (.int (iI R)), some (.int (iI ow)), some (.int (iI 1)), none] [.int (iI (v.1 25 1)), .int (iI 3), .ref (G.2.1 29)]
                            rw [s1]
                            show M X G 9 (wI (wI (wI v 28 (g_r g) kd) 29 (3 * (g_r g)) (-1000)) 29 ((3 * (g_r g)) + 1) (-1000)) 191 [some (.ref (G.2.1 25)), some (.int (iI kd)), some (.int (iI a)), some (.int (iI b)), some (.int (iI c)), some (.int (iI R)), some (.int (iI ow)), some (.int (iI 1)), none] [.int (iI (g_r g)), .int (iI 3), .ref (G.2.1 29)]
                            refine m_imul h dX8_row_191 ?_
                            refine m_iconst h dX8_row_192 ?_
                            refine m_iadd h dX8_row_193 ?_
                            refine m_iload h dX8_row_194 rfl ?_
                            refine m_iconst h dX8_row_196 ?_
                            refine m_icmp_le h dX8_row_197 (tgt := 205) (by decide) (by omega) (by omega) (fun c266 => ?_) (fun c266 => ?_)
                            · skip
                              refine m_sipush h dX8_row_205 (by decide) ?_
                              refine m_iast h (ar_29 G) (by omega) (by omega) dX8_row_208 ?_
                              refine m_aload_n h dX8_row_209 rfl rfl ?_
                              refine m_get h fo_X8_23 (by decide) rfl rfl dX8_row_210 ?_
                              refine m_aload_n h dX8_row_213 rfl rfl ?_
                              refine m_get h fo_X8_64 (by decide) rfl rfl dX8_row_214 ?_
                              show M X G 9 (wI (wI (wI (wI v 28 (g_r g) kd) 29 (3 * (g_r g)) (-1000)) 29 ((3 * (g_r g)) + 1) (-1000)) 29 ((3 * (g_r g)) + 2) (-1000)) 217 [some (.ref (G.2.1 25)), some (.int (iI kd)), some (.int (iI a)), some (.int (iI b)), some (.int (iI c)), some (.int (iI R)), some (.int (iI ow)), some (.int (iI 1)), none] [.int (iI (v.1 25 1)), .ref (G.2.1 30)]
                              show M X G 9 (wI (wI (wI (wI v 28 (g_r g) kd) 29 (3 * (g_r g)) (-1000)) 29 ((3 * (g_r g)) + 1) (-1000)) 29 ((3 * (g_r g)) + 2) (-1000)) 217 [some (.ref (G.2.1 25)), some (.int (iI kd)), some (.int (iI a)), some (.int (iI b)), some (.int (iI c)), some (.int (iI R)), some (.int (iI ow)), some (.int (iI 1)), none] [.int (iI (v.1 25 1)), .ref (G.2.1 30)]
                              rw [s1]
                              show M X G 9 (wI (wI (wI (wI v 28 (g_r g) kd) 29 (3 * (g_r g)) (-1000)) 29 ((3 * (g_r g)) + 1) (-1000)) 29 ((3 * (g_r g)) + 2) (-1000)) 217 [some (.ref (G.2.1 25)), some (.int (iI kd)), some (.int (iI a)), some (.int (iI b)), some (.int (iI c)), some (.int (iI R)), some (.int (iI ow)), some (.int (iI 1)), none] [.int (iI (g_r g)), .ref (G.2.1 30)]
                              refine m_iload h dX8_row_217 rfl ?_
                              refine m_iast h (ar_30 G) (by omega) (by omega) dX8_row_219 ?_
                              refine m_iconst h dX8_row_220 ?_
                              refine m_istore h dX8_row_221 (by decide) rfl ?_
                              refine m_kill 6 ?_
                              refine m_kill 7 ?_
                              have lp223 : ∀ (fuel : Nat) (k : Nat) (u : Mem), k ≤ 8 → 20 - k < fuel → rwF v (g_r g) kd (if 1 ≤ NKs kd then a else -1) (if 2 ≤ NKs kd then b else -1) (if 3 ≤ NKs kd then c else -1) R u → (∀ x, 0 ≤ x → x < (k : Int) → u.1 31 (8 * g_r g + x) = 0) → M X G 9 u 223 [some (.ref (G.2.1 25)), some (.int (iI kd)), some (.int (iI a)), some (.int (iI b)), some (.int (iI c)), some (.int (iI R)), none, none, some (.int (iI (k : Int)))] [] := by
                                intro fuel
                                induction fuel with
                                | zero => intro k u hk8 hfu hw hz; exfalso; omega
                                | succ fuel ih =>
                                  intro k u hk8 hfu hw hz
                                  have e25r : u.1 25 1 = g_r g := by rw [hw.1 25 (by decide) (by decide) (by decide) (by decide)]; exact s1
                                  refine m_iload h dX8_row_223 rfl ?_
                                  refine m_bipush h dX8_row_225 (by decide) ?_
                                  refine m_icmp_ge h dX8_row_227 (tgt := 252) (by decide) (by omega) (by omega) (fun c267 => ?_) (fun c267 => ?_)
                                  · skip
                                    have hz8 : ∀ x, 0 ≤ x → x < 8 → u.1 31 (8 * g_r g + x) = 0 := fun x q1 q2 => hz x q1 (by omega)
                                    refine m_aload_n h dX8_row_252 rfl rfl ?_
                                    refine m_dup h dX8_row_253 rfl ?_
                                    refine m_get h fo_X8_64 (by decide) rfl rfl dX8_row_254 ?_
                                    show M X G 9 u 257 [some (.ref (G.2.1 25)), some (.int (iI kd)), some (.int (iI a)), some (.int (iI b)), some (.int (iI c)), some (.int (iI R)), none, none, some (.int (iI (k : Int)))] [.int (iI (u.1 25 1)), .ref (G.2.1 25)]
                                    rw [e25r]
                                    show M X G 9 u 257 [some (.ref (G.2.1 25)), some (.int (iI kd)), some (.int (iI a)), some (.int (iI b)), some (.int (iI c)), some (.int (iI R)), none, none, some (.int (iI (k : Int)))] [.int (iI (g_r g)), .ref (G.2.1 25)]
                                    refine m_iconst h dX8_row_257 ?_
                                    refine m_iadd h dX8_row_258 ?_
                                    refine m_putJ h fw_X8_64 (by decide) rfl (Nat.le_of_ble_eq_true rfl) (kz := 1) rfl rfl dX8_row_259 ?_
                                    have hS1 := rwF_s ⟨s0, s1, s2, s3⟩ hg hr12 hw hz8
                                    have hF1 : FrM v (wI u 25 1 ((g_r g) + 1)) := FrM.w ⟨fun i hi => hw.1 i (by omega) (by omega) (by omega) (by omega), hw.2.1⟩ (by omega)
                                    refine m_aload_n h dX8_row_262 rfl rfl ?_
                                    refine m_vV h (m_anew _ hG _ (by intro x x0 x1; exact hS1.2.2.1.z x x0 x1)) moX8_anew voX8_anew lk_X8_73 dX8_row_263 (by decide) (by decide) rfl rfl rfl (Nat.le_of_ble_eq_true rfl) (fun ua p270 => ?_)
                                    have hRa := RM_an hS1 p270 t
                                    have hFa := hF1.tr (ANW.m p270)
                                    have hAn := p270
                                    refine m_aload_n h dX8_row_266 rfl rfl ?_
                                    refine m_get h fo_X8_64 (by decide) rfl rfl dX8_row_267 ?_
                                    refine m_iconst h dX8_row_270 ?_
                                    refine m_isub h dX8_row_271 ?_
                                    refine m_iret h hR rfl dX8_row_272 ?_
                                    refine Or.inr ⟨hgd, Or.inr ⟨hr12, ?_, hRa, hFa⟩⟩
                                    have : ua.1 25 1 = g_r g + 1 := hRa.1.2.1
                                    omega
                                  · skip
                                    refine m_aload_n h dX8_row_230 rfl rfl ?_
                                    refine m_get h fo_X8_26 (by decide) rfl rfl dX8_row_231 ?_
                                    refine m_bipush h dX8_row_234 (by decide) ?_
                                    refine m_aload_n h dX8_row_236 rfl rfl ?_
                                    refine m_get h fo_X8_64 (by decide) rfl rfl dX8_row_237 ?_
                                    show M X G 9 u 240 [some (.ref (G.2.1 25)), some (.int (iI kd)), some (.int (iI a)), some (.int (iI b)), some (.int (iI c)), some (.int (iI R)), none, none, some (.int (iI (k : Int)))] [.int (iI (u.1 25 1)), .int (iI 8), .ref (G.2.1 31)]
                                    rw [e25r]
                                    show M X G 9 u 240 [some (.ref (G.2.1 25)), some (.int (iI kd)), some (.int (iI a)), some (.int (iI b)), some (.int (iI c)), some (.int (iI R)), none, none, some (.int (iI (k : Int)))] [.int (iI (g_r g)), .int (iI 8), .ref (G.2.1 31)]
                                    refine m_imul h dX8_row_240 ?_
                                    refine m_iload h dX8_row_241 rfl ?_
                                    refine m_iadd h dX8_row_243 ?_
                                    refine m_iconst h dX8_row_244 ?_
                                    refine m_iast h (ar_31 G) (by omega) (by omega) dX8_row_245 ?_
                                    refine m_iinc h dX8_row_246 rfl (by decide) rfl ?_
                                    refine m_goto h dX8_row_249 (tgt := 223) (by decide) ?_
                                    refine ih (k + 1) _ (by omega) (by omega) (rwF_w hw (by omega)) (fun x x0 x1 => ?_)
                                    by_cases e : x = (k : Int)
                                    · subst e; rw [wI_s]
                                    · rw [wI_n (by omega)]; exact hz x x0 (by omega)
                              exact lp223 100 0 _ (by omega) (by omega) (rwF_i (by rw [if_neg (by omega)]; rfl) (by rw [if_neg (by omega)]; rfl) (by rw [if_neg (by omega)]; rfl)) (fun x q1 q2 => by omega)
                            · skip
                              refine m_iload h dX8_row_200 rfl ?_
                              refine m_goto h dX8_row_202 (tgt := 208) (by decide) ?_
                              refine m_iast h (ar_29 G) (by omega) (by omega) dX8_row_208 ?_
                              refine m_aload_n h dX8_row_209 rfl rfl ?_
                              refine m_get h fo_X8_23 (by decide) rfl rfl dX8_row_210 ?_
                              refine m_aload_n h dX8_row_213 rfl rfl ?_
                              refine m_get h fo_X8_64 (by decide) rfl rfl dX8_row_214 ?_
                              show M X G 9 (wI (wI (wI (wI v 28 (g_r g) kd) 29 (3 * (g_r g)) (-1000)) 29 ((3 * (g_r g)) + 1) (-1000)) 29 ((3 * (g_r g)) + 2) c) 217 [some (.ref (G.2.1 25)), some (.int (iI kd)), some (.int (iI a)), some (.int (iI b)), some (.int (iI c)), some (.int (iI R)), some (.int (iI ow)), some (.int (iI 1)), none] [.int (iI (v.1 25 1)), .ref (G.2.1 30)]
                              show M X G 9 (wI (wI (wI (wI v 28 (g_r g) kd) 29 (3 * (g_r g)) (-1000)) 29 ((3 * (g_r g)) + 1) (-1000)) 29 ((3 * (g_r g)) + 2) c) 217 [some (.ref (G.2.1 25)), some (.int (iI kd)), some (.int (iI a)), some (.int (iI b)), some (.int (iI c)), some (.int (iI R)), some (.int (iI ow)), some (.int (iI 1)), none] [.int (iI (v.1 25 1)), .ref (G.2.1 30)]
                              rw [s1]
                              show M X G 9 (wI (wI (wI (wI v 28 (g_r g) kd) 29 (3 * (g_r g)) (-1000)) 29 ((3 * (g_r g)) + 1) (-1000)) 29 ((3 * (g_r g)) + 2) c) 217 [some (.ref (G.2.1 25)), some (.int (iI kd)), some (.int (iI a)), some (.int (iI b)), some (.int (iI c)), some (.int (iI R)), some (.int (iI ow)), some (.int (iI 1)), none] [.int (iI (g_r g)), .ref (G.2.1 30)]
                              refine m_iload h dX8_row_217 rfl ?_
                              refine m_iast h (ar_30 G) (by omega) (by omega) dX8_row_219 ?_
                              refine m_iconst h dX8_row_220 ?_
                              refine m_istore h dX8_row_221 (by decide) rfl ?_
                              refine m_kill 6 ?_
                              refine m_kill 7 ?_
                              have lp223 : ∀ (fuel : Nat) (k : Nat) (u : Mem), k ≤ 8 → 20 - k < fuel → rwF v (g_r g) kd (if 1 ≤ NKs kd then a else -1) (if 2 ≤ NKs kd then b else -1) (if 3 ≤ NKs kd then c else -1) R u → (∀ x, 0 ≤ x → x < (k : Int) → u.1 31 (8 * g_r g + x) = 0) → M X G 9 u 223 [some (.ref (G.2.1 25)), some (.int (iI kd)), some (.int (iI a)), some (.int (iI b)), some (.int (iI c)), some (.int (iI R)), none, none, some (.int (iI (k : Int)))] [] := by
                                intro fuel
                                induction fuel with
                                | zero => intro k u hk8 hfu hw hz; exfalso; omega
                                | succ fuel ih =>
                                  intro k u hk8 hfu hw hz
                                  have e25r : u.1 25 1 = g_r g := by rw [hw.1 25 (by decide) (by decide) (by decide) (by decide)]; exact s1
                                  refine m_iload h dX8_row_223 rfl ?_
                                  refine m_bipush h dX8_row_225 (by decide) ?_
                                  refine m_icmp_ge h dX8_row_227 (tgt := 252) (by decide) (by omega) (by omega) (fun c271 => ?_) (fun c271 => ?_)
                                  · skip
                                    have hz8 : ∀ x, 0 ≤ x → x < 8 → u.1 31 (8 * g_r g + x) = 0 := fun x q1 q2 => hz x q1 (by omega)
                                    refine m_aload_n h dX8_row_252 rfl rfl ?_
                                    refine m_dup h dX8_row_253 rfl ?_
                                    refine m_get h fo_X8_64 (by decide) rfl rfl dX8_row_254 ?_
                                    show M X G 9 u 257 [some (.ref (G.2.1 25)), some (.int (iI kd)), some (.int (iI a)), some (.int (iI b)), some (.int (iI c)), some (.int (iI R)), none, none, some (.int (iI (k : Int)))] [.int (iI (u.1 25 1)), .ref (G.2.1 25)]
                                    rw [e25r]
                                    show M X G 9 u 257 [some (.ref (G.2.1 25)), some (.int (iI kd)), some (.int (iI a)), some (.int (iI b)), some (.int (iI c)), some (.int (iI R)), none, none, some (.int (iI (k : Int)))] [.int (iI (g_r g)), .ref (G.2.1 25)]
                                    refine m_iconst h dX8_row_257 ?_
                                    refine m_iadd h dX8_row_258 ?_
                                    refine m_putJ h fw_X8_64 (by decide) rfl (Nat.le_of_ble_eq_true rfl) (kz := 1) rfl rfl dX8_row_259 ?_
                                    have hS1 := rwF_s ⟨s0, s1, s2, s3⟩ hg hr12 hw hz8
                                    have hF1 : FrM v (wI u 25 1 ((g_r g) + 1)) := FrM.w ⟨fun i hi => hw.1 i (by omega) (by omega) (by omega) (by omega), hw.2.1⟩ (by omega)
                                    refine m_aload_n h dX8_row_262 rfl rfl ?_
                                    refine m_vV h (m_anew _ hG _ (by intro x x0 x1; exact hS1.2.2.1.z x x0 x1)) moX8_anew voX8_anew lk_X8_73 dX8_row_263 (by decide) (by decide) rfl rfl rfl (Nat.le_of_ble_eq_true rfl) (fun ua p274 => ?_)
                                    have hRa := RM_an hS1 p274 t
                                    have hFa := hF1.tr (ANW.m p274)
                                    have hAn := p274
                                    refine m_aload_n h dX8_row_266 rfl rfl ?_
                                    refine m_get h fo_X8_64 (by decide) rfl rfl dX8_row_267 ?_
                                    refine m_iconst h dX8_row_270 ?_
                                    refine m_isub h dX8_row_271 ?_
                                    refine m_iret h hR rfl dX8_row_272 ?_
                                    refine Or.inr ⟨hgd, Or.inr ⟨hr12, ?_, hRa, hFa⟩⟩
                                    have : ua.1 25 1 = g_r g + 1 := hRa.1.2.1
                                    omega
                                  · skip
                                    refine m_aload_n h dX8_row_230 rfl rfl ?_
                                    refine m_get h fo_X8_26 (by decide) rfl rfl dX8_row_231 ?_
                                    refine m_bipush h dX8_row_234 (by decide) ?_
                                    refine m_aload_n h dX8_row_236 rfl rfl ?_
                                    refine m_get h fo_X8_64 (by decide) rfl rfl dX8_row_237 ?_
                                    show M X G 9 u 240 [some (.ref (G.2.1 25)), some (.int (iI kd)), some (.int (iI a)), some (.int (iI b)), some (.int (iI c)), some (.int (iI R)), none, none, some (.int (iI (k : Int)))] [.int (iI (u.1 25 1)), .int (iI 8), .ref (G.2.1 31)]
                                    rw [e25r]
                                    show M X G 9 u 240 [some (.ref (G.2.1 25)), some (.int (iI kd)), some (.int (iI a)), some (.int (iI b)), some (.int (iI c)), some (.int (iI R)), none, none, some (.int (iI (k : Int)))] [.int (iI (g_r g)), .int (iI 8), .ref (G.2.1 31)]
                                    refine m_imul h dX8_row_240 ?_
                                    refine m_iload h dX8_row_241 rfl ?_
                                    refine m_iadd h dX8_row_243 ?_
                                    refine m_iconst h dX8_row_244 ?_
                                    refine m_iast h (ar_31 G) (by omega) (by omega) dX8_row_245 ?_
                                    refine m_iinc h dX8_row_246 rfl (by decide) rfl ?_
                                    refine m_goto h dX8_row_249 (tgt := 223) (by decide) ?_
                                    refine ih (k + 1) _ (by omega) (by omega) (rwF_w hw (by omega)) (fun x x0 x1 => ?_)
                                    by_cases e : x = (k : Int)
                                    · subst e; rw [wI_s]
                                    · rw [wI_n (by omega)]; exact hz x x0 (by omega)
                              exact lp223 100 0 _ (by omega) (by omega) (rwF_i (by rw [if_neg (by omega)]; rfl) (by rw [if_neg (by omega)]; rfl) (by rw [if_pos (by omega)]; exact (mN_nn (by have : isNm g c := (hgd.2.2.2.2 (by omega)).1; exact this.1)).symm)) (fun x q1 q2 => by omega)
                          · skip
                            refine m_iload_n h dX8_row_174 rfl rfl ?_
                            refine m_goto h dX8_row_175 (tgt := 181) (by decide) ?_
                            refine m_iast h (ar_29 G) (by omega) (by omega) dX8_row_181 ?_
                            refine m_aload_n h dX8_row_182 rfl rfl ?_
                            refine m_get h fo_X8_20 (by decide) rfl rfl dX8_row_183 ?_
                            refine m_iconst h dX8_row_186 ?_
                            refine m_aload_n h dX8_row_187 rfl rfl ?_
                            refine m_get h fo_X8_64 (by decide) rfl rfl dX8_row_188 ?_
                            show M X G 9 (wI (wI (wI v 28 (g_r g) kd) 29 (3 * (g_r g)) (-1000)) 29 ((3 * (g_r g)) + 1) b) 191 [some (.ref (G.2.1 25)), some (.int (iI kd)), some (.int (iI a)), some (.int (iI b)), some (.int (iI c)), some (.int (iI R)), some (.int (iI ow)), some (.int (iI 1)), none] [.int (iI (v.1 25 1)), .int (iI 3), .ref (G.2.1 29)]
                            show M X G 9 (wI (wI (wI v 28 (g_r g) kd) 29 (3 * (g_r g)) (-1000)) 29 ((3 * (g_r g)) + 1) b) 191 [some (.ref (G.2.1 25)), some (.int (iI kd)), some (.int (iI a)), some (.int (iI b)), some (.int (iI c)), some (.int (iI R)), some (.int (iI ow)), some (.int (iI 1)), none] [.int (iI (v.1 25 1)), .int (iI 3), .ref (G.2.1 29)]
                            rw [s1]
                            show M X G 9 (wI (wI (wI v 28 (g_r g) kd) 29 (3 * (g_r g)) (-1000)) 29 ((3 * (g_r g)) + 1) b) 191 [some (.ref (G.2.1 25)), some (.int (iI kd)), some (.int (iI a)), some (.int (iI b)), some (.int (iI c)), some (.int (iI R)), some (.int (iI ow)), some (.int (iI 1)), none] [.int (iI (g_r g)), .int (iI 3), .ref (G.2.1 29)]
                            refine m_imul h dX8_row_191 ?_
                            refine m_iconst h dX8_row_192 ?_
                            refine m_iadd h dX8_row_193 ?_
                            refine m_iload h dX8_row_194 rfl ?_
                            refine m_iconst h dX8_row_196 ?_
                            refine m_icmp_le h dX8_row_197 (tgt := 205) (by decide) (by omega) (by omega) (fun c275 => ?_) (fun c275 => ?_)
                            · skip
                              refine m_sipush h dX8_row_205 (by decide) ?_
                              refine m_iast h (ar_29 G) (by omega) (by omega) dX8_row_208 ?_
                              refine m_aload_n h dX8_row_209 rfl rfl ?_
                              refine m_get h fo_X8_23 (by decide) rfl rfl dX8_row_210 ?_
                              refine m_aload_n h dX8_row_213 rfl rfl ?_
                              refine m_get h fo_X8_64 (by decide) rfl rfl dX8_row_214 ?_
                              show M X G 9 (wI (wI (wI (wI v 28 (g_r g) kd) 29 (3 * (g_r g)) (-1000)) 29 ((3 * (g_r g)) + 1) b) 29 ((3 * (g_r g)) + 2) (-1000)) 217 [some (.ref (G.2.1 25)), some (.int (iI kd)), some (.int (iI a)), some (.int (iI b)), some (.int (iI c)), some (.int (iI R)), some (.int (iI ow)), some (.int (iI 1)), none] [.int (iI (v.1 25 1)), .ref (G.2.1 30)]
                              show M X G 9 (wI (wI (wI (wI v 28 (g_r g) kd) 29 (3 * (g_r g)) (-1000)) 29 ((3 * (g_r g)) + 1) b) 29 ((3 * (g_r g)) + 2) (-1000)) 217 [some (.ref (G.2.1 25)), some (.int (iI kd)), some (.int (iI a)), some (.int (iI b)), some (.int (iI c)), some (.int (iI R)), some (.int (iI ow)), some (.int (iI 1)), none] [.int (iI (v.1 25 1)), .ref (G.2.1 30)]
                              rw [s1]
                              show M X G 9 (wI (wI (wI (wI v 28 (g_r g) kd) 29 (3 * (g_r g)) (-1000)) 29 ((3 * (g_r g)) + 1) b) 29 ((3 * (g_r g)) + 2) (-1000)) 217 [some (.ref (G.2.1 25)), some (.int (iI kd)), some (.int (iI a)), some (.int (iI b)), some (.int (iI c)), some (.int (iI R)), some (.int (iI ow)), some (.int (iI 1)), none] [.int (iI (g_r g)), .ref (G.2.1 30)]
                              refine m_iload h dX8_row_217 rfl ?_
                              refine m_iast h (ar_30 G) (by omega) (by omega) dX8_row_219 ?_
                              refine m_iconst h dX8_row_220 ?_
                              refine m_istore h dX8_row_221 (by decide) rfl ?_
                              refine m_kill 6 ?_
                              refine m_kill 7 ?_
                              have lp223 : ∀ (fuel : Nat) (k : Nat) (u : Mem), k ≤ 8 → 20 - k < fuel → rwF v (g_r g) kd (if 1 ≤ NKs kd then a else -1) (if 2 ≤ NKs kd then b else -1) (if 3 ≤ NKs kd then c else -1) R u → (∀ x, 0 ≤ x → x < (k : Int) → u.1 31 (8 * g_r g + x) = 0) → M X G 9 u 223 [some (.ref (G.2.1 25)), some (.int (iI kd)), some (.int (iI a)), some (.int (iI b)), some (.int (iI c)), some (.int (iI R)), none, none, some (.int (iI (k : Int)))] [] := by
                                intro fuel
                                induction fuel with
                                | zero => intro k u hk8 hfu hw hz; exfalso; omega
                                | succ fuel ih =>
                                  intro k u hk8 hfu hw hz
                                  have e25r : u.1 25 1 = g_r g := by rw [hw.1 25 (by decide) (by decide) (by decide) (by decide)]; exact s1
                                  refine m_iload h dX8_row_223 rfl ?_
                                  refine m_bipush h dX8_row_225 (by decide) ?_
                                  refine m_icmp_ge h dX8_row_227 (tgt := 252) (by decide) (by omega) (by omega) (fun c276 => ?_) (fun c276 => ?_)
                                  · skip
                                    have hz8 : ∀ x, 0 ≤ x → x < 8 → u.1 31 (8 * g_r g + x) = 0 := fun x q1 q2 => hz x q1 (by omega)
                                    refine m_aload_n h dX8_row_252 rfl rfl ?_
                                    refine m_dup h dX8_row_253 rfl ?_
                                    refine m_get h fo_X8_64 (by decide) rfl rfl dX8_row_254 ?_
                                    show M X G 9 u 257 [some (.ref (G.2.1 25)), some (.int (iI kd)), some (.int (iI a)), some (.int (iI b)), some (.int (iI c)), some (.int (iI R)), none, none, some (.int (iI (k : Int)))] [.int (iI (u.1 25 1)), .ref (G.2.1 25)]
                                    rw [e25r]
                                    show M X G 9 u 257 [some (.ref (G.2.1 25)), some (.int (iI kd)), some (.int (iI a)), some (.int (iI b)), some (.int (iI c)), some (.int (iI R)), none, none, some (.int (iI (k : Int)))] [.int (iI (g_r g)), .ref (G.2.1 25)]
                                    refine m_iconst h dX8_row_257 ?_
                                    refine m_iadd h dX8_row_258 ?_
                                    refine m_putJ h fw_X8_64 (by decide) rfl (Nat.le_of_ble_eq_true rfl) (kz := 1) rfl rfl dX8_row_259 ?_
                                    have hS1 := rwF_s ⟨s0, s1, s2, s3⟩ hg hr12 hw hz8
                                    have hF1 : FrM v (wI u 25 1 ((g_r g) + 1)) := FrM.w ⟨fun i hi => hw.1 i (by omega) (by omega) (by omega) (by omega), hw.2.1⟩ (by omega)
                                    refine m_aload_n h dX8_row_262 rfl rfl ?_
                                    refine m_vV h (m_anew _ hG _ (by intro x x0 x1; exact hS1.2.2.1.z x x0 x1)) moX8_anew voX8_anew lk_X8_73 dX8_row_263 (by decide) (by decide) rfl rfl rfl (Nat.le_of_ble_eq_true rfl) (fun ua p279 => ?_)
                                    have hRa := RM_an hS1 p279 t
                                    have hFa := hF1.tr (ANW.m p279)
                                    have hAn := p279
                                    refine m_aload_n h dX8_row_266 rfl rfl ?_
                                    refine m_get h fo_X8_64 (by decide) rfl rfl dX8_row_267 ?_
                                    refine m_iconst h dX8_row_270 ?_
                                    refine m_isub h dX8_row_271 ?_
                                    refine m_iret h hR rfl dX8_row_272 ?_
                                    refine Or.inr ⟨hgd, Or.inr ⟨hr12, ?_, hRa, hFa⟩⟩
                                    have : ua.1 25 1 = g_r g + 1 := hRa.1.2.1
                                    omega
                                  · skip
                                    refine m_aload_n h dX8_row_230 rfl rfl ?_
                                    refine m_get h fo_X8_26 (by decide) rfl rfl dX8_row_231 ?_
                                    refine m_bipush h dX8_row_234 (by decide) ?_
                                    refine m_aload_n h dX8_row_236 rfl rfl ?_
                                    refine m_get h fo_X8_64 (by decide) rfl rfl dX8_row_237 ?_
                                    show M X G 9 u 240 [some (.ref (G.2.1 25)), some (.int (iI kd)), some (.int (iI a)), some (.int (iI b)), some (.int (iI c)), some (.int (iI R)), none, none, some (.int (iI (k : Int)))] [.int (iI (u.1 25 1)), .int (iI 8), .ref (G.2.1 31)]
                                    rw [e25r]
                                    show M X G 9 u 240 [some (.ref (G.2.1 25)), some (.int (iI kd)), some (.int (iI a)), some (.int (iI b)), some (.int (iI c)), some (.int (iI R)), none, none, some (.int (iI (k : Int)))] [.int (iI (g_r g)), .int (iI 8), .ref (G.2.1 31)]
                                    refine m_imul h dX8_row_240 ?_
                                    refine m_iload h dX8_row_241 rfl ?_
                                    refine m_iadd h dX8_row_243 ?_
                                    refine m_iconst h dX8_row_244 ?_
                                    refine m_iast h (ar_31 G) (by omega) (by omega) dX8_row_245 ?_
                                    refine m_iinc h dX8_row_246 rfl (by decide) rfl ?_
                                    refine m_goto h dX8_row_249 (tgt := 223) (by decide) ?_
                                    refine ih (k + 1) _ (by omega) (by omega) (rwF_w hw (by omega)) (fun x x0 x1 => ?_)
                                    by_cases e : x = (k : Int)
                                    · subst e; rw [wI_s]
                                    · rw [wI_n (by omega)]; exact hz x x0 (by omega)
                              exact lp223 100 0 _ (by omega) (by omega) (rwF_i (by rw [if_neg (by omega)]; rfl) (by rw [if_pos (by omega)]; exact (mN_nn (by have : isNm g b := (hgd.2.2.2.1 (by omega)).1; exact this.1)).symm) (by rw [if_neg (by omega)]; rfl)) (fun x q1 q2 => by omega)
                            · skip
                              refine m_iload h dX8_row_200 rfl ?_
                              refine m_goto h dX8_row_202 (tgt := 208) (by decide) ?_
                              refine m_iast h (ar_29 G) (by omega) (by omega) dX8_row_208 ?_
                              refine m_aload_n h dX8_row_209 rfl rfl ?_
                              refine m_get h fo_X8_23 (by decide) rfl rfl dX8_row_210 ?_
                              refine m_aload_n h dX8_row_213 rfl rfl ?_
                              refine m_get h fo_X8_64 (by decide) rfl rfl dX8_row_214 ?_
                              show M X G 9 (wI (wI (wI (wI v 28 (g_r g) kd) 29 (3 * (g_r g)) (-1000)) 29 ((3 * (g_r g)) + 1) b) 29 ((3 * (g_r g)) + 2) c) 217 [some (.ref (G.2.1 25)), some (.int (iI kd)), some (.int (iI a)), some (.int (iI b)), some (.int (iI c)), some (.int (iI R)), some (.int (iI ow)), some (.int (iI 1)), none] [.int (iI (v.1 25 1)), .ref (G.2.1 30)]
                              show M X G 9 (wI (wI (wI (wI v 28 (g_r g) kd) 29 (3 * (g_r g)) (-1000)) 29 ((3 * (g_r g)) + 1) b) 29 ((3 * (g_r g)) + 2) c) 217 [some (.ref (G.2.1 25)), some (.int (iI kd)), some (.int (iI a)), some (.int (iI b)), some (.int (iI c)), some (.int (iI R)), some (.int (iI ow)), some (.int (iI 1)), none] [.int (iI (v.1 25 1)), .ref (G.2.1 30)]
                              rw [s1]
                              show M X G 9 (wI (wI (wI (wI v 28 (g_r g) kd) 29 (3 * (g_r g)) (-1000)) 29 ((3 * (g_r g)) + 1) b) 29 ((3 * (g_r g)) + 2) c) 217 [some (.ref (G.2.1 25)), some (.int (iI kd)), some (.int (iI a)), some (.int (iI b)), some (.int (iI c)), some (.int (iI R)), some (.int (iI ow)), some (.int (iI 1)), none] [.int (iI (g_r g)), .ref (G.2.1 30)]
                              refine m_iload h dX8_row_217 rfl ?_
                              refine m_iast h (ar_30 G) (by omega) (by omega) dX8_row_219 ?_
                              refine m_iconst h dX8_row_220 ?_
                              refine m_istore h dX8_row_221 (by decide) rfl ?_
                              refine m_kill 6 ?_
                              refine m_kill 7 ?_
                              have lp223 : ∀ (fuel : Nat) (k : Nat) (u : Mem), k ≤ 8 → 20 - k < fuel → rwF v (g_r g) kd (if 1 ≤ NKs kd then a else -1) (if 2 ≤ NKs kd then b else -1) (if 3 ≤ NKs kd then c else -1) R u → (∀ x, 0 ≤ x → x < (k : Int) → u.1 31 (8 * g_r g + x) = 0) → M X G 9 u 223 [some (.ref (G.2.1 25)), some (.int (iI kd)), some (.int (iI a)), some (.int (iI b)), some (.int (iI c)), some (.int (iI R)), none, none, some (.int (iI (k : Int)))] [] := by
                                intro fuel
                                induction fuel with
                                | zero => intro k u hk8 hfu hw hz; exfalso; omega
                                | succ fuel ih =>
                                  intro k u hk8 hfu hw hz
                                  have e25r : u.1 25 1 = g_r g := by rw [hw.1 25 (by decide) (by decide) (by decide) (by decide)]; exact s1
                                  refine m_iload h dX8_row_223 rfl ?_
                                  refine m_bipush h dX8_row_225 (by decide) ?_
                                  refine m_icmp_ge h dX8_row_227 (tgt := 252) (by decide) (by omega) (by omega) (fun c280 => ?_) (fun c280 => ?_)
                                  · skip
                                    have hz8 : ∀ x, 0 ≤ x → x < 8 → u.1 31 (8 * g_r g + x) = 0 := fun x q1 q2 => hz x q1 (by omega)
                                    refine m_aload_n h dX8_row_252 rfl rfl ?_
                                    refine m_dup h dX8_row_253 rfl ?_
                                    refine m_get h fo_X8_64 (by decide) rfl rfl dX8_row_254 ?_
                                    show M X G 9 u 257 [some (.ref (G.2.1 25)), some (.int (iI kd)), some (.int (iI a)), some (.int (iI b)), some (.int (iI c)), some (.int (iI R)), none, none, some (.int (iI (k : Int)))] [.int (iI (u.1 25 1)), .ref (G.2.1 25)]
                                    rw [e25r]
                                    show M X G 9 u 257 [some (.ref (G.2.1 25)), some (.int (iI kd)), some (.int (iI a)), some (.int (iI b)), some (.int (iI c)), some (.int (iI R)), none, none, some (.int (iI (k : Int)))] [.int (iI (g_r g)), .ref (G.2.1 25)]
                                    refine m_iconst h dX8_row_257 ?_
                                    refine m_iadd h dX8_row_258 ?_
                                    refine m_putJ h fw_X8_64 (by decide) rfl (Nat.le_of_ble_eq_true rfl) (kz := 1) rfl rfl dX8_row_259 ?_
                                    have hS1 := rwF_s ⟨s0, s1, s2, s3⟩ hg hr12 hw hz8
                                    have hF1 : FrM v (wI u 25 1 ((g_r g) + 1)) := FrM.w ⟨fun i hi => hw.1 i (by omega) (by omega) (by omega) (by omega), hw.2.1⟩ (by omega)
                                    refine m_aload_n h dX8_row_262 rfl rfl ?_
                                    refine m_vV h (m_anew _ hG _ (by intro x x0 x1; exact hS1.2.2.1.z x x0 x1)) moX8_anew voX8_anew lk_X8_73 dX8_row_263 (by decide) (by decide) rfl rfl rfl (Nat.le_of_ble_eq_true rfl) (fun ua p283 => ?_)
                                    have hRa := RM_an hS1 p283 t
                                    have hFa := hF1.tr (ANW.m p283)
                                    have hAn := p283
                                    refine m_aload_n h dX8_row_266 rfl rfl ?_
                                    refine m_get h fo_X8_64 (by decide) rfl rfl dX8_row_267 ?_
                                    refine m_iconst h dX8_row_270 ?_
                                    refine m_isub h dX8_row_271 ?_
                                    refine m_iret h hR rfl dX8_row_272 ?_
                                    refine Or.inr ⟨hgd, Or.inr ⟨hr12, ?_, hRa, hFa⟩⟩
                                    have : ua.1 25 1 = g_r g + 1 := hRa.1.2.1
                                    omega
                                  · skip
                                    refine m_aload_n h dX8_row_230 rfl rfl ?_
                                    refine m_get h fo_X8_26 (by decide) rfl rfl dX8_row_231 ?_
                                    refine m_bipush h dX8_row_234 (by decide) ?_
                                    refine m_aload_n h dX8_row_236 rfl rfl ?_
                                    refine m_get h fo_X8_64 (by decide) rfl rfl dX8_row_237 ?_
                                    show M X G 9 u 240 [some (.ref (G.2.1 25)), some (.int (iI kd)), some (.int (iI a)), some (.int (iI b)), some (.int (iI c)), some (.int (iI R)), none, none, some (.int (iI (k : Int)))] [.int (iI (u.1 25 1)), .int (iI 8), .ref (G.2.1 31)]
                                    rw [e25r]
                                    show M X G 9 u 240 [some (.ref (G.2.1 25)), some (.int (iI kd)), some (.int (iI a)), some (.int (iI b)), some (.int (iI c)), some (.int (iI R)), none, none, some (.int (iI (k : Int)))] [.int (iI (g_r g)), .int (iI 8), .ref (G.2.1 31)]
                                    refine m_imul h dX8_row_240 ?_
                                    refine m_iload h dX8_row_241 rfl ?_
                                    refine m_iadd h dX8_row_243 ?_
                                    refine m_iconst h dX8_row_244 ?_
                                    refine m_iast h (ar_31 G) (by omega) (by omega) dX8_row_245 ?_
                                    refine m_iinc h dX8_row_246 rfl (by decide) rfl ?_
                                    refine m_goto h dX8_row_249 (tgt := 223) (by decide) ?_
                                    refine ih (k + 1) _ (by omega) (by omega) (rwF_w hw (by omega)) (fun x x0 x1 => ?_)
                                    by_cases e : x = (k : Int)
                                    · subst e; rw [wI_s]
                                    · rw [wI_n (by omega)]; exact hz x x0 (by omega)
                              exact lp223 100 0 _ (by omega) (by omega) (rwF_i (by rw [if_neg (by omega)]; rfl) (by rw [if_pos (by omega)]; exact (mN_nn (by have : isNm g b := (hgd.2.2.2.1 (by omega)).1; exact this.1)).symm) (by rw [if_pos (by omega)]; exact (mN_nn (by have : isNm g c := (hgd.2.2.2.2 (by omega)).1; exact this.1)).symm)) (fun x q1 q2 => by omega)
                        · skip
                          refine m_iload_n h dX8_row_148 rfl rfl ?_
                          refine m_goto h dX8_row_149 (tgt := 155) (by decide) ?_
                          refine m_iast h (ar_29 G) (by omega) (by omega) dX8_row_155 ?_
                          refine m_aload_n h dX8_row_156 rfl rfl ?_
                          refine m_get h fo_X8_20 (by decide) rfl rfl dX8_row_157 ?_
                          refine m_iconst h dX8_row_160 ?_
                          refine m_aload_n h dX8_row_161 rfl rfl ?_
                          refine m_get h fo_X8_64 (by decide) rfl rfl dX8_row_162 ?_
                          show M X G 9 (wI (wI v 28 (g_r g) kd) 29 (3 * (g_r g)) a) 165 [some (.ref (G.2.1 25)), some (.int (iI kd)), some (.int (iI a)), some (.int (iI b)), some (.int (iI c)), some (.int (iI R)), some (.int (iI ow)), some (.int (iI 1)), none] [.int (iI (v.1 25 1)), .int (iI 3), .ref (G.2.1 29)]
                          show M X G 9 (wI (wI v 28 (g_r g) kd) 29 (3 * (g_r g)) a) 165 [some (.ref (G.2.1 25)), some (.int (iI kd)), some (.int (iI a)), some (.int (iI b)), some (.int (iI c)), some (.int (iI R)), some (.int (iI ow)), some (.int (iI 1)), none] [.int (iI (v.1 25 1)), .int (iI 3), .ref (G.2.1 29)]
                          rw [s1]
                          show M X G 9 (wI (wI v 28 (g_r g) kd) 29 (3 * (g_r g)) a) 165 [some (.ref (G.2.1 25)), some (.int (iI kd)), some (.int (iI a)), some (.int (iI b)), some (.int (iI c)), some (.int (iI R)), some (.int (iI ow)), some (.int (iI 1)), none] [.int (iI (g_r g)), .int (iI 3), .ref (G.2.1 29)]
                          refine m_imul h dX8_row_165 ?_
                          refine m_iconst h dX8_row_166 ?_
                          refine m_iadd h dX8_row_167 ?_
                          refine m_iload h dX8_row_168 rfl ?_
                          refine m_iconst h dX8_row_170 ?_
                          refine m_icmp_le h dX8_row_171 (tgt := 178) (by decide) (by omega) (by omega) (fun c284 => ?_) (fun c284 => ?_)
                          · skip
                            refine m_sipush h dX8_row_178 (by decide) ?_
                            refine m_iast h (ar_29 G) (by omega) (by omega) dX8_row_181 ?_
                            refine m_aload_n h dX8_row_182 rfl rfl ?_
                            refine m_get h fo_X8_20 (by decide) rfl rfl dX8_row_183 ?_
                            refine m_iconst h dX8_row_186 ?_
                            refine m_aload_n h dX8_row_187 rfl rfl ?_
                            refine m_get h fo_X8_64 (by decide) rfl rfl dX8_row_188 ?_
                            show M X G 9 (wI (wI (wI v 28 (g_r g) kd) 29 (3 * (g_r g)) a) 29 ((3 * (g_r g)) + 1) (-1000)) 191 [some (.ref (G.2.1 25)), some (.int (iI kd)), some (.int (iI a)), some (.int (iI b)), some (.int (iI c)), some (.int (iI R)), some (.int (iI ow)), some (.int (iI 1)), none] [.int (iI (v.1 25 1)), .int (iI 3), .ref (G.2.1 29)]
                            show M X G 9 (wI (wI (wI v 28 (g_r g) kd) 29 (3 * (g_r g)) a) 29 ((3 * (g_r g)) + 1) (-1000)) 191 [some (.ref (G.2.1 25)), some (.int (iI kd)), some (.int (iI a)), some (.int (iI b)), some (.int (iI c)), some (.int (iI R)), some (.int (iI ow)), some (.int (iI 1)), none] [.int (iI (v.1 25 1)), .int (iI 3), .ref (G.2.1 29)]
                            rw [s1]
                            show M X G 9 (wI (wI (wI v 28 (g_r g) kd) 29 (3 * (g_r g)) a) 29 ((3 * (g_r g)) + 1) (-1000)) 191 [some (.ref (G.2.1 25)), some (.int (iI kd)), some (.int (iI a)), some (.int (iI b)), some (.int (iI c)), some (.int (iI R)), some (.int (iI ow)), some (.int (iI 1)), none] [.int (iI (g_r g)), .int (iI 3), .ref (G.2.1 29)]
                            refine m_imul h dX8_row_191 ?_
                            refine m_iconst h dX8_row_192 ?_
                            refine m_iadd h dX8_row_193 ?_
                            refine m_iload h dX8_row_194 rfl ?_
                            refine m_iconst h dX8_row_196 ?_
                            refine m_icmp_le h dX8_row_197 (tgt := 205) (by decide) (by omega) (by omega) (fun c285 => ?_) (fun c285 => ?_)
                            · skip
                              refine m_sipush h dX8_row_205 (by decide) ?_
                              refine m_iast h (ar_29 G) (by omega) (by omega) dX8_row_208 ?_
                              refine m_aload_n h dX8_row_209 rfl rfl ?_
                              refine m_get h fo_X8_23 (by decide) rfl rfl dX8_row_210 ?_
                              refine m_aload_n h dX8_row_213 rfl rfl ?_
                              refine m_get h fo_X8_64 (by decide) rfl rfl dX8_row_214 ?_
                              show M X G 9 (wI (wI (wI (wI v 28 (g_r g) kd) 29 (3 * (g_r g)) a) 29 ((3 * (g_r g)) + 1) (-1000)) 29 ((3 * (g_r g)) + 2) (-1000)) 217 [some (.ref (G.2.1 25)), some (.int (iI kd)), some (.int (iI a)), some (.int (iI b)), some (.int (iI c)), some (.int (iI R)), some (.int (iI ow)), some (.int (iI 1)), none] [.int (iI (v.1 25 1)), .ref (G.2.1 30)]
                              show M X G 9 (wI (wI (wI (wI v 28 (g_r g) kd) 29 (3 * (g_r g)) a) 29 ((3 * (g_r g)) + 1) (-1000)) 29 ((3 * (g_r g)) + 2) (-1000)) 217 [some (.ref (G.2.1 25)), some (.int (iI kd)), some (.int (iI a)), some (.int (iI b)), some (.int (iI c)), some (.int (iI R)), some (.int (iI ow)), some (.int (iI 1)), none] [.int (iI (v.1 25 1)), .ref (G.2.1 30)]
                              rw [s1]
                              show M X G 9 (wI (wI (wI (wI v 28 (g_r g) kd) 29 (3 * (g_r g)) a) 29 ((3 * (g_r g)) + 1) (-1000)) 29 ((3 * (g_r g)) + 2) (-1000)) 217 [some (.ref (G.2.1 25)), some (.int (iI kd)), some (.int (iI a)), some (.int (iI b)), some (.int (iI c)), some (.int (iI R)), some (.int (iI ow)), some (.int (iI 1)), none] [.int (iI (g_r g)), .ref (G.2.1 30)]
                              refine m_iload h dX8_row_217 rfl ?_
                              refine m_iast h (ar_30 G) (by omega) (by omega) dX8_row_219 ?_
                              refine m_iconst h dX8_row_220 ?_
                              refine m_istore h dX8_row_221 (by decide) rfl ?_
                              refine m_kill 6 ?_
                              refine m_kill 7 ?_
                              have lp223 : ∀ (fuel : Nat) (k : Nat) (u : Mem), k ≤ 8 → 20 - k < fuel → rwF v (g_r g) kd (if 1 ≤ NKs kd then a else -1) (if 2 ≤ NKs kd then b else -1) (if 3 ≤ NKs kd then c else -1) R u → (∀ x, 0 ≤ x → x < (k : Int) → u.1 31 (8 * g_r g + x) = 0) → M X G 9 u 223 [some (.ref (G.2.1 25)), some (.int (iI kd)), some (.int (iI a)), some (.int (iI b)), some (.int (iI c)), some (.int (iI R)), none, none, some (.int (iI (k : Int)))] [] := by
                                intro fuel
                                induction fuel with
                                | zero => intro k u hk8 hfu hw hz; exfalso; omega
                                | succ fuel ih =>
                                  intro k u hk8 hfu hw hz
                                  have e25r : u.1 25 1 = g_r g := by rw [hw.1 25 (by decide) (by decide) (by decide) (by decide)]; exact s1
                                  refine m_iload h dX8_row_223 rfl ?_
                                  refine m_bipush h dX8_row_225 (by decide) ?_
                                  refine m_icmp_ge h dX8_row_227 (tgt := 252) (by decide) (by omega) (by omega) (fun c286 => ?_) (fun c286 => ?_)
                                  · skip
                                    have hz8 : ∀ x, 0 ≤ x → x < 8 → u.1 31 (8 * g_r g + x) = 0 := fun x q1 q2 => hz x q1 (by omega)
                                    refine m_aload_n h dX8_row_252 rfl rfl ?_
                                    refine m_dup h dX8_row_253 rfl ?_
                                    refine m_get h fo_X8_64 (by decide) rfl rfl dX8_row_254 ?_
                                    show M X G 9 u 257 [some (.ref (G.2.1 25)), some (.int (iI kd)), some (.int (iI a)), some (.int (iI b)), some (.int (iI c)), some (.int (iI R)), none, none, some (.int (iI (k : Int)))] [.int (iI (u.1 25 1)), .ref (G.2.1 25)]
                                    rw [e25r]
                                    show M X G 9 u 257 [some (.ref (G.2.1 25)), some (.int (iI kd)), some (.int (iI a)), some (.int (iI b)), some (.int (iI c)), some (.int (iI R)), none, none, some (.int (iI (k : Int)))] [.int (iI (g_r g)), .ref (G.2.1 25)]
                                    refine m_iconst h dX8_row_257 ?_
                                    refine m_iadd h dX8_row_258 ?_
                                    refine m_putJ h fw_X8_64 (by decide) rfl (Nat.le_of_ble_eq_true rfl) (kz := 1) rfl rfl dX8_row_259 ?_
                                    have hS1 := rwF_s ⟨s0, s1, s2, s3⟩ hg hr12 hw hz8
                                    have hF1 : FrM v (wI u 25 1 ((g_r g) + 1)) := FrM.w ⟨fun i hi => hw.1 i (by omega) (by omega) (by omega) (by omega), hw.2.1⟩ (by omega)
                                    refine m_aload_n h dX8_row_262 rfl rfl ?_
                                    refine m_vV h (m_anew _ hG _ (by intro x x0 x1; exact hS1.2.2.1.z x x0 x1)) moX8_anew voX8_anew lk_X8_73 dX8_row_263 (by decide) (by decide) rfl rfl rfl (Nat.le_of_ble_eq_true rfl) (fun ua p289 => ?_)
                                    have hRa := RM_an hS1 p289 t
                                    have hFa := hF1.tr (ANW.m p289)
                                    have hAn := p289
                                    refine m_aload_n h dX8_row_266 rfl rfl ?_
                                    refine m_get h fo_X8_64 (by decide) rfl rfl dX8_row_267 ?_
                                    refine m_iconst h dX8_row_270 ?_
                                    refine m_isub h dX8_row_271 ?_
                                    refine m_iret h hR rfl dX8_row_272 ?_
                                    refine Or.inr ⟨hgd, Or.inr ⟨hr12, ?_, hRa, hFa⟩⟩
                                    have : ua.1 25 1 = g_r g + 1 := hRa.1.2.1
                                    omega
                                  · skip
                                    refine m_aload_n h dX8_row_230 rfl rfl ?_
                                    refine m_get h fo_X8_26 (by decide) rfl rfl dX8_row_231 ?_
                                    refine m_bipush h dX8_row_234 (by decide) ?_
                                    refine m_aload_n h dX8_row_236 rfl rfl ?_
                                    refine m_get h fo_X8_64 (by decide) rfl rfl dX8_row_237 ?_
                                    show M X G 9 u 240 [some (.ref (G.2.1 25)), some (.int (iI kd)), some (.int (iI a)), some (.int (iI b)), some (.int (iI c)), some (.int (iI R)), none, none, some (.int (iI (k : Int)))] [.int (iI (u.1 25 1)), .int (iI 8), .ref (G.2.1 31)]
                                    rw [e25r]
                                    show M X G 9 u 240 [some (.ref (G.2.1 25)), some (.int (iI kd)), some (.int (iI a)), some (.int (iI b)), some (.int (iI c)), some (.int (iI R)), none, none, some (.int (iI (k : Int)))] [.int (iI (g_r g)), .int (iI 8), .ref (G.2.1 31)]
                                    refine m_imul h dX8_row_240 ?_
                                    refine m_iload h dX8_row_241 rfl ?_
                                    refine m_iadd h dX8_row_243 ?_
                                    refine m_iconst h dX8_row_244 ?_
                                    refine m_iast h (ar_31 G) (by omega) (by omega) dX8_row_245 ?_
                                    refine m_iinc h dX8_row_246 rfl (by decide) rfl ?_
                                    refine m_goto h dX8_row_249 (tgt := 223) (by decide) ?_
                                    refine ih (k + 1) _ (by omega) (by omega) (rwF_w hw (by omega)) (fun x x0 x1 => ?_)
                                    by_cases e : x = (k : Int)
                                    · subst e; rw [wI_s]
                                    · rw [wI_n (by omega)]; exact hz x x0 (by omega)
                              exact lp223 100 0 _ (by omega) (by omega) (rwF_i (by rw [if_pos (by omega)]; exact (mN_nn (by have : isNm g a := hgd.2.2.1 (by omega); exact this.1)).symm) (by rw [if_neg (by omega)]; rfl) (by rw [if_neg (by omega)]; rfl)) (fun x q1 q2 => by omega)
                            · skip
                              refine m_iload h dX8_row_200 rfl ?_
                              refine m_goto h dX8_row_202 (tgt := 208) (by decide) ?_
                              refine m_iast h (ar_29 G) (by omega) (by omega) dX8_row_208 ?_
                              refine m_aload_n h dX8_row_209 rfl rfl ?_
                              refine m_get h fo_X8_23 (by decide) rfl rfl dX8_row_210 ?_
                              refine m_aload_n h dX8_row_213 rfl rfl ?_
                              refine m_get h fo_X8_64 (by decide) rfl rfl dX8_row_214 ?_
                              show M X G 9 (wI (wI (wI (wI v 28 (g_r g) kd) 29 (3 * (g_r g)) a) 29 ((3 * (g_r g)) + 1) (-1000)) 29 ((3 * (g_r g)) + 2) c) 217 [some (.ref (G.2.1 25)), some (.int (iI kd)), some (.int (iI a)), some (.int (iI b)), some (.int (iI c)), some (.int (iI R)), some (.int (iI ow)), some (.int (iI 1)), none] [.int (iI (v.1 25 1)), .ref (G.2.1 30)]
                              show M X G 9 (wI (wI (wI (wI v 28 (g_r g) kd) 29 (3 * (g_r g)) a) 29 ((3 * (g_r g)) + 1) (-1000)) 29 ((3 * (g_r g)) + 2) c) 217 [some (.ref (G.2.1 25)), some (.int (iI kd)), some (.int (iI a)), some (.int (iI b)), some (.int (iI c)), some (.int (iI R)), some (.int (iI ow)), some (.int (iI 1)), none] [.int (iI (v.1 25 1)), .ref (G.2.1 30)]
                              rw [s1]
                              show M X G 9 (wI (wI (wI (wI v 28 (g_r g) kd) 29 (3 * (g_r g)) a) 29 ((3 * (g_r g)) + 1) (-1000)) 29 ((3 * (g_r g)) + 2) c) 217 [some (.ref (G.2.1 25)), some (.int (iI kd)), some (.int (iI a)), some (.int (iI b)), some (.int (iI c)), some (.int (iI R)), some (.int (iI ow)), some (.int (iI 1)), none] [.int (iI (g_r g)), .ref (G.2.1 30)]
                              refine m_iload h dX8_row_217 rfl ?_
                              refine m_iast h (ar_30 G) (by omega) (by omega) dX8_row_219 ?_
                              refine m_iconst h dX8_row_220 ?_
                              refine m_istore h dX8_row_221 (by decide) rfl ?_
                              refine m_kill 6 ?_
                              refine m_kill 7 ?_
                              have lp223 : ∀ (fuel : Nat) (k : Nat) (u : Mem), k ≤ 8 → 20 - k < fuel → rwF v (g_r g) kd (if 1 ≤ NKs kd then a else -1) (if 2 ≤ NKs kd then b else -1) (if 3 ≤ NKs kd then c else -1) R u → (∀ x, 0 ≤ x → x < (k : Int) → u.1 31 (8 * g_r g + x) = 0) → M X G 9 u 223 [some (.ref (G.2.1 25)), some (.int (iI kd)), some (.int (iI a)), some (.int (iI b)), some (.int (iI c)), some (.int (iI R)), none, none, some (.int (iI (k : Int)))] [] := by
                                intro fuel
                                induction fuel with
                                | zero => intro k u hk8 hfu hw hz; exfalso; omega
                                | succ fuel ih =>
                                  intro k u hk8 hfu hw hz
                                  have e25r : u.1 25 1 = g_r g := by rw [hw.1 25 (by decide) (by decide) (by decide) (by decide)]; exact s1
                                  refine m_iload h dX8_row_223 rfl ?_
                                  refine m_bipush h dX8_row_225 (by decide) ?_
                                  refine m_icmp_ge h dX8_row_227 (tgt := 252) (by decide) (by omega) (by omega) (fun c290 => ?_) (fun c290 => ?_)
                                  · skip
                                    have hz8 : ∀ x, 0 ≤ x → x < 8 → u.1 31 (8 * g_r g + x) = 0 := fun x q1 q2 => hz x q1 (by omega)
                                    refine m_aload_n h dX8_row_252 rfl rfl ?_
                                    refine m_dup h dX8_row_253 rfl ?_
                                    refine m_get h fo_X8_64 (by decide) rfl rfl dX8_row_254 ?_
                                    show M X G 9 u 257 [some (.ref (G.2.1 25)), some (.int (iI kd)), some (.int (iI a)), some (.int (iI b)), some (.int (iI c)), some (.int (iI R)), none, none, some (.int (iI (k : Int)))] [.int (iI (u.1 25 1)), .ref (G.2.1 25)]
                                    rw [e25r]
                                    show M X G 9 u 257 [some (.ref (G.2.1 25)), some (.int (iI kd)), some (.int (iI a)), some (.int (iI b)), some (.int (iI c)), some (.int (iI R)), none, none, some (.int (iI (k : Int)))] [.int (iI (g_r g)), .ref (G.2.1 25)]
                                    refine m_iconst h dX8_row_257 ?_
                                    refine m_iadd h dX8_row_258 ?_
                                    refine m_putJ h fw_X8_64 (by decide) rfl (Nat.le_of_ble_eq_true rfl) (kz := 1) rfl rfl dX8_row_259 ?_
                                    have hS1 := rwF_s ⟨s0, s1, s2, s3⟩ hg hr12 hw hz8
                                    have hF1 : FrM v (wI u 25 1 ((g_r g) + 1)) := FrM.w ⟨fun i hi => hw.1 i (by omega) (by omega) (by omega) (by omega), hw.2.1⟩ (by omega)
                                    refine m_aload_n h dX8_row_262 rfl rfl ?_
                                    refine m_vV h (m_anew _ hG _ (by intro x x0 x1; exact hS1.2.2.1.z x x0 x1)) moX8_anew voX8_anew lk_X8_73 dX8_row_263 (by decide) (by decide) rfl rfl rfl (Nat.le_of_ble_eq_true rfl) (fun ua p293 => ?_)
                                    have hRa := RM_an hS1 p293 t
                                    have hFa := hF1.tr (ANW.m p293)
                                    have hAn := p293
                                    refine m_aload_n h dX8_row_266 rfl rfl ?_
                                    refine m_get h fo_X8_64 (by decide) rfl rfl dX8_row_267 ?_
                                    refine m_iconst h dX8_row_270 ?_
                                    refine m_isub h dX8_row_271 ?_
                                    refine m_iret h hR rfl dX8_row_272 ?_
                                    refine Or.inr ⟨hgd, Or.inr ⟨hr12, ?_, hRa, hFa⟩⟩
                                    have : ua.1 25 1 = g_r g + 1 := hRa.1.2.1
                                    omega
                                  · skip
                                    refine m_aload_n h dX8_row_230 rfl rfl ?_
                                    refine m_get h fo_X8_26 (by decide) rfl rfl dX8_row_231 ?_
                                    refine m_bipush h dX8_row_234 (by decide) ?_
                                    refine m_aload_n h dX8_row_236 rfl rfl ?_
                                    refine m_get h fo_X8_64 (by decide) rfl rfl dX8_row_237 ?_
                                    show M X G 9 u 240 [some (.ref (G.2.1 25)), some (.int (iI kd)), some (.int (iI a)), some (.int (iI b)), some (.int (iI c)), some (.int (iI R)), none, none, some (.int (iI (k : Int)))] [.int (iI (u.1 25 1)), .int (iI 8), .ref (G.2.1 31)]
                                    rw [e25r]
                                    show M X G 9 u 240 [some (.ref (G.2.1 25)), some (.int (iI kd)), some (.int (iI a)), some (.int (iI b)), some (.int (iI c)), some (.int (iI R)), none, none, some (.int (iI (k : Int)))] [.int (iI (g_r g)), .int (iI 8), .ref (G.2.1 31)]
                                    refine m_imul h dX8_row_240 ?_
                                    refine m_iload h dX8_row_241 rfl ?_
                                    refine m_iadd h dX8_row_243 ?_
                                    refine m_iconst h dX8_row_244 ?_
                                    refine m_iast h (ar_31 G) (by omega) (by omega) dX8_row_245 ?_
                                    refine m_iinc h dX8_row_246 rfl (by decide) rfl ?_
                                    refine m_goto h dX8_row_249 (tgt := 223) (by decide) ?_
                                    refine ih (k + 1) _ (by omega) (by omega) (rwF_w hw (by omega)) (fun x x0 x1 => ?_)
                                    by_cases e : x = (k : Int)
                                    · subst e; rw [wI_s]
                                    · rw [wI_n (by omega)]; exact hz x x0 (by omega)
                              exact lp223 100 0 _ (by omega) (by omega) (rwF_i (by rw [if_pos (by omega)]; exact (mN_nn (by have : isNm g a := hgd.2.2.1 (by omega); exact this.1)).symm) (by rw [if_neg (by omega)]; rfl) (by rw [if_pos (by omega)]; exact (mN_nn (by have : isNm g c := (hgd.2.2.2.2 (by omega)).1; exact this.1)).symm)) (fun x q1 q2 => by omega)
                          · skip
                            refine m_iload_n h dX8_row_174 rfl rfl ?_
                            refine m_goto h dX8_row_175 (tgt := 181) (by decide) ?_
                            refine m_iast h (ar_29 G) (by omega) (by omega) dX8_row_181 ?_
                            refine m_aload_n h dX8_row_182 rfl rfl ?_
                            refine m_get h fo_X8_20 (by decide) rfl rfl dX8_row_183 ?_
                            refine m_iconst h dX8_row_186 ?_
                            refine m_aload_n h dX8_row_187 rfl rfl ?_
                            refine m_get h fo_X8_64 (by decide) rfl rfl dX8_row_188 ?_
                            show M X G 9 (wI (wI (wI v 28 (g_r g) kd) 29 (3 * (g_r g)) a) 29 ((3 * (g_r g)) + 1) b) 191 [some (.ref (G.2.1 25)), some (.int (iI kd)), some (.int (iI a)), some (.int (iI b)), some (.int (iI c)), some (.int (iI R)), some (.int (iI ow)), some (.int (iI 1)), none] [.int (iI (v.1 25 1)), .int (iI 3), .ref (G.2.1 29)]
                            show M X G 9 (wI (wI (wI v 28 (g_r g) kd) 29 (3 * (g_r g)) a) 29 ((3 * (g_r g)) + 1) b) 191 [some (.ref (G.2.1 25)), some (.int (iI kd)), some (.int (iI a)), some (.int (iI b)), some (.int (iI c)), some (.int (iI R)), some (.int (iI ow)), some (.int (iI 1)), none] [.int (iI (v.1 25 1)), .int (iI 3), .ref (G.2.1 29)]
                            rw [s1]
                            show M X G 9 (wI (wI (wI v 28 (g_r g) kd) 29 (3 * (g_r g)) a) 29 ((3 * (g_r g)) + 1) b) 191 [some (.ref (G.2.1 25)), some (.int (iI kd)), some (.int (iI a)), some (.int (iI b)), some (.int (iI c)), some (.int (iI R)), some (.int (iI ow)), some (.int (iI 1)), none] [.int (iI (g_r g)), .int (iI 3), .ref (G.2.1 29)]
                            refine m_imul h dX8_row_191 ?_
                            refine m_iconst h dX8_row_192 ?_
                            refine m_iadd h dX8_row_193 ?_
                            refine m_iload h dX8_row_194 rfl ?_
                            refine m_iconst h dX8_row_196 ?_
                            refine m_icmp_le h dX8_row_197 (tgt := 205) (by decide) (by omega) (by omega) (fun c294 => ?_) (fun c294 => ?_)
                            · skip
                              refine m_sipush h dX8_row_205 (by decide) ?_
                              refine m_iast h (ar_29 G) (by omega) (by omega) dX8_row_208 ?_
                              refine m_aload_n h dX8_row_209 rfl rfl ?_
                              refine m_get h fo_X8_23 (by decide) rfl rfl dX8_row_210 ?_
                              refine m_aload_n h dX8_row_213 rfl rfl ?_
                              refine m_get h fo_X8_64 (by decide) rfl rfl dX8_row_214 ?_
                              show M X G 9 (wI (wI (wI (wI v 28 (g_r g) kd) 29 (3 * (g_r g)) a) 29 ((3 * (g_r g)) + 1) b) 29 ((3 * (g_r g)) + 2) (-1000)) 217 [some (.ref (G.2.1 25)), some (.int (iI kd)), some (.int (iI a)), some (.int (iI b)), some (.int (iI c)), some (.int (iI R)), some (.int (iI ow)), some (.int (iI 1)), none] [.int (iI (v.1 25 1)), .ref (G.2.1 30)]
                              show M X G 9 (wI (wI (wI (wI v 28 (g_r g) kd) 29 (3 * (g_r g)) a) 29 ((3 * (g_r g)) + 1) b) 29 ((3 * (g_r g)) + 2) (-1000)) 217 [some (.ref (G.2.1 25)), some (.int (iI kd)), some (.int (iI a)), some (.int (iI b)), some (.int (iI c)), some (.int (iI R)), some (.int (iI ow)), some (.int (iI 1)), none] [.int (iI (v.1 25 1)), .ref (G.2.1 30)]
                              rw [s1]
                              show M X G 9 (wI (wI (wI (wI v 28 (g_r g) kd) 29 (3 * (g_r g)) a) 29 ((3 * (g_r g)) + 1) b) 29 ((3 * (g_r g)) + 2) (-1000)) 217 [some (.ref (G.2.1 25)), some (.int (iI kd)), some (.int (iI a)), some (.int (iI b)), some (.int (iI c)), some (.int (iI R)), some (.int (iI ow)), some (.int (iI 1)), none] [.int (iI (g_r g)), .ref (G.2.1 30)]
                              refine m_iload h dX8_row_217 rfl ?_
                              refine m_iast h (ar_30 G) (by omega) (by omega) dX8_row_219 ?_
                              refine m_iconst h dX8_row_220 ?_
                              refine m_istore h dX8_row_221 (by decide) rfl ?_
                              refine m_kill 6 ?_
                              refine m_kill 7 ?_
                              have lp223 : ∀ (fuel : Nat) (k : Nat) (u : Mem), k ≤ 8 → 20 - k < fuel → rwF v (g_r g) kd (if 1 ≤ NKs kd then a else -1) (if 2 ≤ NKs kd then b else -1) (if 3 ≤ NKs kd then c else -1) R u → (∀ x, 0 ≤ x → x < (k : Int) → u.1 31 (8 * g_r g + x) = 0) → M X G 9 u 223 [some (.ref (G.2.1 25)), some (.int (iI kd)), some (.int (iI a)), some (.int (iI b)), some (.int (iI c)), some (.int (iI R)), none, none, some (.int (iI (k : Int)))] [] := by
                                intro fuel
                                induction fuel with
                                | zero => intro k u hk8 hfu hw hz; exfalso; omega
                                | succ fuel ih =>
                                  intro k u hk8 hfu hw hz
                                  have e25r : u.1 25 1 = g_r g := by rw [hw.1 25 (by decide) (by decide) (by decide) (by decide)]; exact s1
                                  refine m_iload h dX8_row_223 rfl ?_
                                  refine m_bipush h dX8_row_225 (by decide) ?_
                                  refine m_icmp_ge h dX8_row_227 (tgt := 252) (by decide) (by omega) (by omega) (fun c295 => ?_) (fun c295 => ?_)
                                  · skip
                                    have hz8 : ∀ x, 0 ≤ x → x < 8 → u.1 31 (8 * g_r g + x) = 0 := fun x q1 q2 => hz x q1 (by omega)
                                    refine m_aload_n h dX8_row_252 rfl rfl ?_
                                    refine m_dup h dX8_row_253 rfl ?_
                                    refine m_get h fo_X8_64 (by decide) rfl rfl dX8_row_254 ?_
                                    show M X G 9 u 257 [some (.ref (G.2.1 25)), some (.int (iI kd)), some (.int (iI a)), some (.int (iI b)), some (.int (iI c)), some (.int (iI R)), none, none, some (.int (iI (k : Int)))] [.int (iI (u.1 25 1)), .ref (G.2.1 25)]
                                    rw [e25r]
                                    show M X G 9 u 257 [some (.ref (G.2.1 25)), some (.int (iI kd)), some (.int (iI a)), some (.int (iI b)), some (.int (iI c)), some (.int (iI R)), none, none, some (.int (iI (k : Int)))] [.int (iI (g_r g)), .ref (G.2.1 25)]
                                    refine m_iconst h dX8_row_257 ?_
                                    refine m_iadd h dX8_row_258 ?_
                                    refine m_putJ h fw_X8_64 (by decide) rfl (Nat.le_of_ble_eq_true rfl) (kz := 1) rfl rfl dX8_row_259 ?_
                                    have hS1 := rwF_s ⟨s0, s1, s2, s3⟩ hg hr12 hw hz8
                                    have hF1 : FrM v (wI u 25 1 ((g_r g) + 1)) := FrM.w ⟨fun i hi => hw.1 i (by omega) (by omega) (by omega) (by omega), hw.2.1⟩ (by omega)
                                    refine m_aload_n h dX8_row_262 rfl rfl ?_
                                    refine m_vV h (m_anew _ hG _ (by intro x x0 x1; exact hS1.2.2.1.z x x0 x1)) moX8_anew voX8_anew lk_X8_73 dX8_row_263 (by decide) (by decide) rfl rfl rfl (Nat.le_of_ble_eq_true rfl) (fun ua p298 => ?_)
                                    have hRa := RM_an hS1 p298 t
                                    have hFa := hF1.tr (ANW.m p298)
                                    have hAn := p298
                                    refine m_aload_n h dX8_row_266 rfl rfl ?_
                                    refine m_get h fo_X8_64 (by decide) rfl rfl dX8_row_267 ?_
                                    refine m_iconst h dX8_row_270 ?_
                                    refine m_isub h dX8_row_271 ?_
                                    refine m_iret h hR rfl dX8_row_272 ?_
                                    refine Or.inr ⟨hgd, Or.inr ⟨hr12, ?_, hRa, hFa⟩⟩
                                    have : ua.1 25 1 = g_r g + 1 := hRa.1.2.1
                                    omega
                                  · skip
                                    refine m_aload_n h dX8_row_230 rfl rfl ?_
                                    refine m_get h fo_X8_26 (by decide) rfl rfl dX8_row_231 ?_
                                    refine m_bipush h dX8_row_234 (by decide) ?_
                                    refine m_aload_n h dX8_row_236 rfl rfl ?_
                                    refine m_get h fo_X8_64 (by decide) rfl rfl dX8_row_237 ?_
                                    show M X G 9 u 240 [some (.ref (G.2.1 25)), some (.int (iI kd)), some (.int (iI a)), some (.int (iI b)), some (.int (iI c)), some (.int (iI R)), none, none, some (.int (iI (k : Int)))] [.int (iI (u.1 25 1)), .int (iI 8), .ref (G.2.1 31)]
                                    rw [e25r]
                                    show M X G 9 u 240 [some (.ref (G.2.1 25)), some (.int (iI kd)), some (.int (iI a)), some (.int (iI b)), some (.int (iI c)), some (.int (iI R)), none, none, some (.int (iI (k : Int)))] [.int (iI (g_r g)), .int (iI 8), .ref (G.2.1 31)]
                                    refine m_imul h dX8_row_240 ?_
                                    refine m_iload h dX8_row_241 rfl ?_
                                    refine m_iadd h dX8_row_243 ?_
                                    refine m_iconst h dX8_row_244 ?_
                                    refine m_iast h (ar_31 G) (by omega) (by omega) dX8_row_245 ?_
                                    refine m_iinc h dX8_row_246 rfl (by decide) rfl ?_
                                    refine m_goto h dX8_row_249 (tgt := 223) (by decide) ?_
                                    refine ih (k + 1) _ (by omega) (by omega) (rwF_w hw (by omega)) (fun x x0 x1 => ?_)
                                    by_cases e : x = (k : Int)
                                    · subst e; rw [wI_s]
                                    · rw [wI_n (by omega)]; exact hz x x0 (by omega)
                              exact lp223 100 0 _ (by omega) (by omega) (rwF_i (by rw [if_pos (by omega)]; exact (mN_nn (by have : isNm g a := hgd.2.2.1 (by omega); exact this.1)).symm) (by rw [if_pos (by omega)]; exact (mN_nn (by have : isNm g b := (hgd.2.2.2.1 (by omega)).1; exact this.1)).symm) (by rw [if_neg (by omega)]; rfl)) (fun x q1 q2 => by omega)
                            · skip
                              refine m_iload h dX8_row_200 rfl ?_
                              refine m_goto h dX8_row_202 (tgt := 208) (by decide) ?_
                              refine m_iast h (ar_29 G) (by omega) (by omega) dX8_row_208 ?_
                              refine m_aload_n h dX8_row_209 rfl rfl ?_
                              refine m_get h fo_X8_23 (by decide) rfl rfl dX8_row_210 ?_
                              refine m_aload_n h dX8_row_213 rfl rfl ?_
                              refine m_get h fo_X8_64 (by decide) rfl rfl dX8_row_214 ?_
                              show M X G 9 (wI (wI (wI (wI v 28 (g_r g) kd) 29 (3 * (g_r g)) a) 29 ((3 * (g_r g)) + 1) b) 29 ((3 * (g_r g)) + 2) c) 217 [some (.ref (G.2.1 25)), some (.int (iI kd)), some (.int (iI a)), some (.int (iI b)), some (.int (iI c)), some (.int (iI R)), some (.int (iI ow)), some (.int (iI 1)), none] [.int (iI (v.1 25 1)), .ref (G.2.1 30)]
                              show M X G 9 (wI (wI (wI (wI v 28 (g_r g) kd) 29 (3 * (g_r g)) a) 29 ((3 * (g_r g)) + 1) b) 29 ((3 * (g_r g)) + 2) c) 217 [some (.ref (G.2.1 25)), some (.int (iI kd)), some (.int (iI a)), some (.int (iI b)), some (.int (iI c)), some (.int (iI R)), some (.int (iI ow)), some (.int (iI 1)), none] [.int (iI (v.1 25 1)), .ref (G.2.1 30)]
                              rw [s1]
                              show M X G 9 (wI (wI (wI (wI v 28 (g_r g) kd) 29 (3 * (g_r g)) a) 29 ((3 * (g_r g)) + 1) b) 29 ((3 * (g_r g)) + 2) c) 217 [some (.ref (G.2.1 25)), some (.int (iI kd)), some (.int (iI a)), some (.int (iI b)), some (.int (iI c)), some (.int (iI R)), some (.int (iI ow)), some (.int (iI 1)), none] [.int (iI (g_r g)), .ref (G.2.1 30)]
                              refine m_iload h dX8_row_217 rfl ?_
                              refine m_iast h (ar_30 G) (by omega) (by omega) dX8_row_219 ?_
                              refine m_iconst h dX8_row_220 ?_
                              refine m_istore h dX8_row_221 (by decide) rfl ?_
                              refine m_kill 6 ?_
                              refine m_kill 7 ?_
                              have lp223 : ∀ (fuel : Nat) (k : Nat) (u : Mem), k ≤ 8 → 20 - k < fuel → rwF v (g_r g) kd (if 1 ≤ NKs kd then a else -1) (if 2 ≤ NKs kd then b else -1) (if 3 ≤ NKs kd then c else -1) R u → (∀ x, 0 ≤ x → x < (k : Int) → u.1 31 (8 * g_r g + x) = 0) → M X G 9 u 223 [some (.ref (G.2.1 25)), some (.int (iI kd)), some (.int (iI a)), some (.int (iI b)), some (.int (iI c)), some (.int (iI R)), none, none, some (.int (iI (k : Int)))] [] := by
                                intro fuel
                                induction fuel with
                                | zero => intro k u hk8 hfu hw hz; exfalso; omega
                                | succ fuel ih =>
                                  intro k u hk8 hfu hw hz
                                  have e25r : u.1 25 1 = g_r g := by rw [hw.1 25 (by decide) (by decide) (by decide) (by decide)]; exact s1
                                  refine m_iload h dX8_row_223 rfl ?_
                                  refine m_bipush h dX8_row_225 (by decide) ?_
                                  refine m_icmp_ge h dX8_row_227 (tgt := 252) (by decide) (by omega) (by omega) (fun c299 => ?_) (fun c299 => ?_)
                                  · skip
                                    have hz8 : ∀ x, 0 ≤ x → x < 8 → u.1 31 (8 * g_r g + x) = 0 := fun x q1 q2 => hz x q1 (by omega)
                                    refine m_aload_n h dX8_row_252 rfl rfl ?_
                                    refine m_dup h dX8_row_253 rfl ?_
                                    refine m_get h fo_X8_64 (by decide) rfl rfl dX8_row_254 ?_
                                    show M X G 9 u 257 [some (.ref (G.2.1 25)), some (.int (iI kd)), some (.int (iI a)), some (.int (iI b)), some (.int (iI c)), some (.int (iI R)), none, none, some (.int (iI (k : Int)))] [.int (iI (u.1 25 1)), .ref (G.2.1 25)]
                                    rw [e25r]
                                    show M X G 9 u 257 [some (.ref (G.2.1 25)), some (.int (iI kd)), some (.int (iI a)), some (.int (iI b)), some (.int (iI c)), some (.int (iI R)), none, none, some (.int (iI (k : Int)))] [.int (iI (g_r g)), .ref (G.2.1 25)]
                                    refine m_iconst h dX8_row_257 ?_
                                    refine m_iadd h dX8_row_258 ?_
                                    refine m_putJ h fw_X8_64 (by decide) rfl (Nat.le_of_ble_eq_true rfl) (kz := 1) rfl rfl dX8_row_259 ?_
                                    have hS1 := rwF_s ⟨s0, s1, s2, s3⟩ hg hr12 hw hz8
                                    have hF1 : FrM v (wI u 25 1 ((g_r g) + 1)) := FrM.w ⟨fun i hi => hw.1 i (by omega) (by omega) (by omega) (by omega), hw.2.1⟩ (by omega)
                                    refine m_aload_n h dX8_row_262 rfl rfl ?_
                                    refine m_vV h (m_anew _ hG _ (by intro x x0 x1; exact hS1.2.2.1.z x x0 x1)) moX8_anew voX8_anew lk_X8_73 dX8_row_263 (by decide) (by decide) rfl rfl rfl (Nat.le_of_ble_eq_true rfl) (fun ua p302 => ?_)
                                    have hRa := RM_an hS1 p302 t
                                    have hFa := hF1.tr (ANW.m p302)
                                    have hAn := p302
                                    refine m_aload_n h dX8_row_266 rfl rfl ?_
                                    refine m_get h fo_X8_64 (by decide) rfl rfl dX8_row_267 ?_
                                    refine m_iconst h dX8_row_270 ?_
                                    refine m_isub h dX8_row_271 ?_
                                    refine m_iret h hR rfl dX8_row_272 ?_
                                    refine Or.inr ⟨hgd, Or.inr ⟨hr12, ?_, hRa, hFa⟩⟩
                                    have : ua.1 25 1 = g_r g + 1 := hRa.1.2.1
                                    omega
                                  · skip
                                    refine m_aload_n h dX8_row_230 rfl rfl ?_
                                    refine m_get h fo_X8_26 (by decide) rfl rfl dX8_row_231 ?_
                                    refine m_bipush h dX8_row_234 (by decide) ?_
                                    refine m_aload_n h dX8_row_236 rfl rfl ?_
                                    refine m_get h fo_X8_64 (by decide) rfl rfl dX8_row_237 ?_
                                    show M X G 9 u 240 [some (.ref (G.2.1 25)), some (.int (iI kd)), some (.int (iI a)), some (.int (iI b)), some (.int (iI c)), some (.int (iI R)), none, none, some (.int (iI (k : Int)))] [.int (iI (u.1 25 1)), .int (iI 8), .ref (G.2.1 31)]
                                    rw [e25r]
                                    show M X G 9 u 240 [some (.ref (G.2.1 25)), some (.int (iI kd)), some (.int (iI a)), some (.int (iI b)), some (.int (iI c)), some (.int (iI R)), none, none, some (.int (iI (k : Int)))] [.int (iI (g_r g)), .int (iI 8), .ref (G.2.1 31)]
                                    refine m_imul h dX8_row_240 ?_
                                    refine m_iload h dX8_row_241 rfl ?_
                                    refine m_iadd h dX8_row_243 ?_
                                    refine m_iconst h dX8_row_244 ?_
                                    refine m_iast h (ar_31 G) (by omega) (by omega) dX8_row_245 ?_
                                    refine m_iinc h dX8_row_246 rfl (by decide) rfl ?_
                                    refine m_goto h dX8_row_249 (tgt := 223) (by decide) ?_
                                    refine ih (k + 1) _ (by omega) (by omega) (rwF_w hw (by omega)) (fun x x0 x1 => ?_)
                                    by_cases e : x = (k : Int)
                                    · subst e; rw [wI_s]
                                    · rw [wI_n (by omega)]; exact hz x x0 (by omega)
                              exact lp223 100 0 _ (by omega) (by omega) (rwF_i (by rw [if_pos (by omega)]; exact (mN_nn (by have : isNm g a := hgd.2.2.1 (by omega); exact this.1)).symm) (by rw [if_pos (by omega)]; exact (mN_nn (by have : isNm g b := (hgd.2.2.2.1 (by omega)).1; exact this.1)).symm) (by rw [if_pos (by omega)]; exact (mN_nn (by have : isNm g c := (hgd.2.2.2.2 (by omega)).1; exact this.1)).symm)) (fun x q1 q2 => by omega)
                      · skip
                        refine m_sipush h dX8_row_119 (by decide) ?_
                        refine m_iret h hR rfl dX8_row_122 ?_
                        exact Or.inr ⟨⟨h1, h2, hgd3⟩, Or.inl ⟨by omega, rfl, rfl⟩⟩
                    · skip
                      omega
          · skip
            refine m_aload_n h dX8_row_54 rfl rfl ?_
            refine m_iload_n h dX8_row_55 rfl rfl ?_
            refine m_vI h (m_isName _ hG _ b hb (by omega)) moX8_isName voX8_isName lk_X8_76 dX8_row_56 (by decide) (by decide) rfl rfl rfl (Nat.le_of_ble_eq_true rfl) (fun r303 u304 p305 => ?_)
            obtain ⟨hu9, hbb⟩ := p305
            rw [hu9]
            rw [s0] at hbb
            have hbb : bz r303 (isNm g b) := hbb
            have hbbi := hbb.in
            refine m_if_eq h dX8_row_59 (tgt := 98) (by decide) (by omega) (fun c306 => ?_) (fun c306 => ?_)
            · skip
              have hgd4 : ¬ ((1 ≤ NKs kd → isNm g a) ∧ (2 ≤ NKs kd → isNm g b ∧ b ≠ a) ∧ (3 ≤ NKs kd → isNm g c ∧ c ≠ a ∧ c ≠ b)) := fun q => by
                first
                  | exact absurd (q.2.2 (by omega)).2.2 (by omega)
                  | exact absurd (q.2.2 (by omega)).2.1 (by omega)
                  | exact hbc.no (by omega) (q.2.2 (by omega)).1
                  | exact absurd (q.2.1 (by omega)).2 (by omega)
                  | exact hbb.no (by omega) (q.2.1 (by omega)).1
                  | exact hba.no (by omega) (q.1 (by omega))
              refine m_iconst h dX8_row_98 ?_
              refine m_istore h dX8_row_99 (by decide) rfl ?_
              refine m_iload h dX8_row_101 rfl ?_
              refine m_if_ne h dX8_row_103 (tgt := 110) (by decide) (by omega) (fun c307 => ?_) (fun c307 => ?_)
              · skip
                omega
              · skip
                refine m_sipush h dX8_row_106 (by decide) ?_
                refine m_iret h hR rfl dX8_row_109 ?_
                refine Or.inl ⟨fun q => ?_, rfl, rfl⟩
                exact hgd4 q.2.2
            · skip
              refine m_iload_n h dX8_row_62 rfl rfl ?_
              refine m_iload_n h dX8_row_63 rfl rfl ?_
              refine m_icmp_eq h dX8_row_64 (tgt := 98) (by decide) (by omega) (by omega) (fun c308 => ?_) (fun c308 => ?_)
              · skip
                have hgd4 : ¬ ((1 ≤ NKs kd → isNm g a) ∧ (2 ≤ NKs kd → isNm g b ∧ b ≠ a) ∧ (3 ≤ NKs kd → isNm g c ∧ c ≠ a ∧ c ≠ b)) := fun q => by
                  first
                    | exact absurd (q.2.2 (by omega)).2.2 (by omega)
                    | exact absurd (q.2.2 (by omega)).2.1 (by omega)
                    | exact hbc.no (by omega) (q.2.2 (by omega)).1
                    | exact absurd (q.2.1 (by omega)).2 (by omega)
                    | exact hbb.no (by omega) (q.2.1 (by omega)).1
                    | exact hba.no (by omega) (q.1 (by omega))
                refine m_iconst h dX8_row_98 ?_
                refine m_istore h dX8_row_99 (by decide) rfl ?_
                refine m_iload h dX8_row_101 rfl ?_
                refine m_if_ne h dX8_row_103 (tgt := 110) (by decide) (by omega) (fun c309 => ?_) (fun c309 => ?_)
                · skip
                  omega
                · skip
                  refine m_sipush h dX8_row_106 (by decide) ?_
                  refine m_iret h hR rfl dX8_row_109 ?_
                  refine Or.inl ⟨fun q => ?_, rfl, rfl⟩
                  exact hgd4 q.2.2
              · skip
                refine m_iload h dX8_row_67 rfl ?_
                refine m_iconst h dX8_row_69 ?_
                refine m_icmp_lt h dX8_row_70 (tgt := 94) (by decide) (by omega) (by omega) (fun c310 => ?_) (fun c310 => ?_)
                · skip
                  have hgd3 : ((1 ≤ NKs kd → isNm g a) ∧ (2 ≤ NKs kd → isNm g b ∧ b ≠ a) ∧ (3 ≤ NKs kd → isNm g c ∧ c ≠ a ∧ c ≠ b)) := by
                    refine ⟨fun q => ?_, fun q => ?_, fun q => ?_⟩
                    · first | omega | exact hba.yes (by omega)
                    · first | omega | exact ⟨hbb.yes (by omega), by omega⟩
                    · first | omega | exact ⟨hbc.yes (by omega), by omega, by omega⟩
                  refine m_iconst h dX8_row_94 ?_
                  refine m_goto h dX8_row_95 (tgt := 99) (by decide) ?_
                  refine m_istore h dX8_row_99 (by decide) rfl ?_
                  refine m_iload h dX8_row_101 rfl ?_
                  refine m_if_ne h dX8_row_103 (tgt := 110) (by decide) (by omega) (fun c311 => ?_) (fun c311 => ?_)
                  · skip
                    refine m_aload_n h dX8_row_110 rfl rfl ?_
                    refine m_get h fo_X8_64 (by decide) rfl rfl dX8_row_111 ?_
                    refine m_bipush h dX8_row_114 (by decide) ?_
                    refine m_icmp_ne h dX8_row_116 (tgt := 123) (by decide) (by omega) (by omega) (fun c312 => ?_) (fun c312 => ?_)
                    · skip
                      have hgd : RwGood g kd a b c R := ⟨h1, h2, hgd3⟩
                      have hr12 : g_r g < 12 := by omega
                      have hNr := nks_rg kd
                      refine m_aload_n h dX8_row_123 rfl rfl ?_
                      refine m_get h fo_X8_16 (by decide) rfl rfl dX8_row_124 ?_
                      refine m_aload_n h dX8_row_127 rfl rfl ?_
                      refine m_get h fo_X8_64 (by decide) rfl rfl dX8_row_128 ?_
                      show M X G 9 v 131 [some (.ref (G.2.1 25)), some (.int (iI kd)), some (.int (iI a)), some (.int (iI b)), some (.int (iI c)), some (.int (iI R)), some (.int (iI ow)), some (.int (iI 1)), none] [.int (iI (v.1 25 1)), .ref (G.2.1 28)]
                      rw [s1]
                      show M X G 9 v 131 [some (.ref (G.2.1 25)), some (.int (iI kd)), some (.int (iI a)), some (.int (iI b)), some (.int (iI c)), some (.int (iI R)), some (.int (iI ow)), some (.int (iI 1)), none] [.int (iI (g_r g)), .ref (G.2.1 28)]
                      refine m_iload_n h dX8_row_131 rfl rfl ?_
                      refine m_iast h (ar_28 G) (by omega) (by omega) dX8_row_132 ?_
                      refine m_aload_n h dX8_row_133 rfl rfl ?_
                      refine m_get h fo_X8_20 (by decide) rfl rfl dX8_row_134 ?_
                      refine m_iconst h dX8_row_137 ?_
                      refine m_aload_n h dX8_row_138 rfl rfl ?_
                      refine m_get h fo_X8_64 (by decide) rfl rfl dX8_row_139 ?_
                      show M X G 9 (wI v 28 (g_r g) kd) 142 [some (.ref (G.2.1 25)), some (.int (iI kd)), some (.int (iI a)), some (.int (iI b)), some (.int (iI c)), some (.int (iI R)), some (.int (iI ow)), some (.int (iI 1)), none] [.int (iI (v.1 25 1)), .int (iI 3), .ref (G.2.1 29)]
                      show M X G 9 (wI v 28 (g_r g) kd) 142 [some (.ref (G.2.1 25)), some (.int (iI kd)), some (.int (iI a)), some (.int (iI b)), some (.int (iI c)), some (.int (iI R)), some (.int (iI ow)), some (.int (iI 1)), none] [.int (iI (v.1 25 1)), .int (iI 3), .ref (G.2.1 29)]
                      rw [s1]
                      show M X G 9 (wI v 28 (g_r g) kd) 142 [some (.ref (G.2.1 25)), some (.int (iI kd)), some (.int (iI a)), some (.int (iI b)), some (.int (iI c)), some (.int (iI R)), some (.int (iI ow)), some (.int (iI 1)), none] [.int (iI (g_r g)), .int (iI 3), .ref (G.2.1 29)]
                      refine m_imul h dX8_row_142 ?_
                      refine m_iload h dX8_row_143 rfl ?_
                      refine m_if_le h dX8_row_145 (tgt := 152) (by decide) (by omega) (fun c313 => ?_) (fun c313 => ?_)
                      · skip
                        refine m_sipush h dX8_row_152 (by decide) ?_
                        refine m_iast h (ar_29 G) (by omega) (by omega) dX8_row_155 ?_
                        refine m_aload_n h dX8_row_156 rfl rfl ?_
                        refine m_get h fo_X8_20 (by decide) rfl rfl dX8_row_157 ?_
                        refine m_iconst h dX8_row_160 ?_
                        refine m_aload_n h dX8_row_161 rfl rfl ?_
                        refine m_get h fo_X8_64 (by decide) rfl rfl dX8_row_162 ?_
                        show M X G 9 (wI (wI v 28 (g_r g) kd) 29 (3 * (g_r g)) (-1000)) 165 [some (.ref (G.2.1 25)), some (.int (iI kd)), some (.int (iI a)), some (.int (iI b)), some (.int (iI c)), some (.int (iI R)), some (.int (iI ow)), some (.int (iI 1)), none] [.int (iI (v.1 25 1)), .int (iI 3), .ref (G.2.1 29)]
                        show M X G 9 (wI (wI v 28 (g_r g) kd) 29 (3 * (g_r g)) (-1000)) 165 [some (.ref (G.2.1 25)), some (.int (iI kd)), some (.int (iI a)), some (.int (iI b)), some (.int (iI c)), some (.int (iI R)), some (.int (iI ow)), some (.int (iI 1)), none] [.int (iI (v.1 25 1)), .int (iI 3), .ref (G.2.1 29)]
                        rw [s1]
                        show M X G 9 (wI (wI v 28 (g_r g) kd) 29 (3 * (g_r g)) (-1000)) 165 [some (.ref (G.2.1 25)), some (.int (iI kd)), some (.int (iI a)), some (.int (iI b)), some (.int (iI c)), some (.int (iI R)), some (.int (iI ow)), some (.int (iI 1)), none] [.int (iI (g_r g)), .int (iI 3), .ref (G.2.1 29)]
                        refine m_imul h dX8_row_165 ?_
                        refine m_iconst h dX8_row_166 ?_
                        refine m_iadd h dX8_row_167 ?_
                        refine m_iload h dX8_row_168 rfl ?_
                        refine m_iconst h dX8_row_170 ?_
                        refine m_icmp_le h dX8_row_171 (tgt := 178) (by decide) (by omega) (by omega) (fun c314 => ?_) (fun c314 => ?_)
                        · skip
                          refine m_sipush h dX8_row_178 (by decide) ?_
                          refine m_iast h (ar_29 G) (by omega) (by omega) dX8_row_181 ?_
                          refine m_aload_n h dX8_row_182 rfl rfl ?_
                          refine m_get h fo_X8_20 (by decide) rfl rfl dX8_row_183 ?_
                          refine m_iconst h dX8_row_186 ?_
                          refine m_aload_n h dX8_row_187 rfl rfl ?_
                          refine m_get h fo_X8_64 (by decide) rfl rfl dX8_row_188 ?_
                          show M X G 9 (wI (wI (wI v 28 (g_r g) kd) 29 (3 * (g_r g)) (-1000)) 29 ((3 * (g_r g)) + 1) (-1000)) 191 [some (.ref (G.2.1 25)), some (.int (iI kd)), some (.int (iI a)), some (.int (iI b)), some (.int (iI c)), some (.int (iI R)), some (.int (iI ow)), some (.int (iI 1)), none] [.int (iI (v.1 25 1)), .int (iI 3), .ref (G.2.1 29)]
                          show M X G 9 (wI (wI (wI v 28 (g_r g) kd) 29 (3 * (g_r g)) (-1000)) 29 ((3 * (g_r g)) + 1) (-1000)) 191 [some (.ref (G.2.1 25)), some (.int (iI kd)), some (.int (iI a)), some (.int (iI b)), some (.int (iI c)), some (.int (iI R)), some (.int (iI ow)), some (.int (iI 1)), none] [.int (iI (v.1 25 1)), .int (iI 3), .ref (G.2.1 29)]
                          rw [s1]
                          show M X G 9 (wI (wI (wI v 28 (g_r g) kd) 29 (3 * (g_r g)) (-1000)) 29 ((3 * (g_r g)) + 1) (-1000)) 191 [some (.ref (G.2.1 25)), some (.int (iI kd)), some (.int (iI a)), some (.int (iI b)), some (.int (iI c)), some (.int (iI R)), some (.int (iI ow)), some (.int (iI 1)), none] [.int (iI (g_r g)), .int (iI 3), .ref (G.2.1 29)]
                          refine m_imul h dX8_row_191 ?_
                          refine m_iconst h dX8_row_192 ?_
                          refine m_iadd h dX8_row_193 ?_
                          refine m_iload h dX8_row_194 rfl ?_
                          refine m_iconst h dX8_row_196 ?_
                          refine m_icmp_le h dX8_row_197 (tgt := 205) (by decide) (by omega) (by omega) (fun c315 => ?_) (fun c315 => ?_)
                          · skip
                            refine m_sipush h dX8_row_205 (by decide) ?_
                            refine m_iast h (ar_29 G) (by omega) (by omega) dX8_row_208 ?_
                            refine m_aload_n h dX8_row_209 rfl rfl ?_
                            refine m_get h fo_X8_23 (by decide) rfl rfl dX8_row_210 ?_
                            refine m_aload_n h dX8_row_213 rfl rfl ?_
                            refine m_get h fo_X8_64 (by decide) rfl rfl dX8_row_214 ?_
                            show M X G 9 (wI (wI (wI (wI v 28 (g_r g) kd) 29 (3 * (g_r g)) (-1000)) 29 ((3 * (g_r g)) + 1) (-1000)) 29 ((3 * (g_r g)) + 2) (-1000)) 217 [some (.ref (G.2.1 25)), some (.int (iI kd)), some (.int (iI a)), some (.int (iI b)), some (.int (iI c)), some (.int (iI R)), some (.int (iI ow)), some (.int (iI 1)), none] [.int (iI (v.1 25 1)), .ref (G.2.1 30)]
                            show M X G 9 (wI (wI (wI (wI v 28 (g_r g) kd) 29 (3 * (g_r g)) (-1000)) 29 ((3 * (g_r g)) + 1) (-1000)) 29 ((3 * (g_r g)) + 2) (-1000)) 217 [some (.ref (G.2.1 25)), some (.int (iI kd)), some (.int (iI a)), some (.int (iI b)), some (.int (iI c)), some (.int (iI R)), some (.int (iI ow)), some (.int (iI 1)), none] [.int (iI (v.1 25 1)), .ref (G.2.1 30)]
                            rw [s1]
                            show M X G 9 (wI (wI (wI (wI v 28 (g_r g) kd) 29 (3 * (g_r g)) (-1000)) 29 ((3 * (g_r g)) + 1) (-1000)) 29 ((3 * (g_r g)) + 2) (-1000)) 217 [some (.ref (G.2.1 25)), some (.int (iI kd)), some (.int (iI a)), some (.int (iI b)), some (.int (iI c)), some (.int (iI R)), some (.int (iI ow)), some (.int (iI 1)), none] [.int (iI (g_r g)), .ref (G.2.1 30)]
                            refine m_iload h dX8_row_217 rfl ?_
                            refine m_iast h (ar_30 G) (by omega) (by omega) dX8_row_219 ?_
                            refine m_iconst h dX8_row_220 ?_
                            refine m_istore h dX8_row_221 (by decide) rfl ?_
                            refine m_kill 6 ?_
                            refine m_kill 7 ?_
                            have lp223 : ∀ (fuel : Nat) (k : Nat) (u : Mem), k ≤ 8 → 20 - k < fuel → rwF v (g_r g) kd (if 1 ≤ NKs kd then a else -1) (if 2 ≤ NKs kd then b else -1) (if 3 ≤ NKs kd then c else -1) R u → (∀ x, 0 ≤ x → x < (k : Int) → u.1 31 (8 * g_r g + x) = 0) → M X G 9 u 223 [some (.ref (G.2.1 25)), some (.int (iI kd)), some (.int (iI a)), some (.int (iI b)), some (.int (iI c)), some (.int (iI R)), none, none, some (.int (iI (k : Int)))] [] := by
                              intro fuel
                              induction fuel with
                              | zero => intro k u hk8 hfu hw hz; exfalso; omega
                              | succ fuel ih =>
                                intro k u hk8 hfu hw hz
                                have e25r : u.1 25 1 = g_r g := by rw [hw.1 25 (by decide) (by decide) (by decide) (by decide)]; exact s1
                                refine m_iload h dX8_row_223 rfl ?_
                                refine m_bipush h dX8_row_225 (by decide) ?_
                                refine m_icmp_ge h dX8_row_227 (tgt := 252) (by decide) (by omega) (by omega) (fun c316 => ?_) (fun c316 => ?_)
                                · skip
                                  have hz8 : ∀ x, 0 ≤ x → x < 8 → u.1 31 (8 * g_r g + x) = 0 := fun x q1 q2 => hz x q1 (by omega)
                                  refine m_aload_n h dX8_row_252 rfl rfl ?_
                                  refine m_dup h dX8_row_253 rfl ?_
                                  refine m_get h fo_X8_64 (by decide) rfl rfl dX8_row_254 ?_
                                  show M X G 9 u 257 [some (.ref (G.2.1 25)), some (.int (iI kd)), some (.int (iI a)), some (.int (iI b)), some (.int (iI c)), some (.int (iI R)), none, none, some (.int (iI (k : Int)))] [.int (iI (u.1 25 1)), .ref (G.2.1 25)]
                                  rw [e25r]
                                  show M X G 9 u 257 [some (.ref (G.2.1 25)), some (.int (iI kd)), some (.int (iI a)), some (.int (iI b)), some (.int (iI c)), some (.int (iI R)), none, none, some (.int (iI (k : Int)))] [.int (iI (g_r g)), .ref (G.2.1 25)]
                                  refine m_iconst h dX8_row_257 ?_
                                  refine m_iadd h dX8_row_258 ?_
                                  refine m_putJ h fw_X8_64 (by decide) rfl (Nat.le_of_ble_eq_true rfl) (kz := 1) rfl rfl dX8_row_259 ?_
                                  have hS1 := rwF_s ⟨s0, s1, s2, s3⟩ hg hr12 hw hz8
                                  have hF1 : FrM v (wI u 25 1 ((g_r g) + 1)) := FrM.w ⟨fun i hi => hw.1 i (by omega) (by omega) (by omega) (by omega), hw.2.1⟩ (by omega)
                                  refine m_aload_n h dX8_row_262 rfl rfl ?_
                                  refine m_vV h (m_anew _ hG _ (by intro x x0 x1; exact hS1.2.2.1.z x x0 x1)) moX8_anew voX8_anew lk_X8_73 dX8_row_263 (by decide) (by decide) rfl rfl rfl (Nat.le_of_ble_eq_true rfl) (fun ua p319 => ?_)
                                  have hRa := RM_an hS1 p319 t
                                  have hFa := hF1.tr (ANW.m p319)
                                  have hAn := p319
                                  refine m_aload_n h dX8_row_266 rfl rfl ?_
                                  refine m_get h fo_X8_64 (by decide) rfl rfl dX8_row_267 ?_
                                  refine m_iconst h dX8_row_270 ?_
                                  refine m_isub h dX8_row_271 ?_
                                  refine m_iret h hR rfl dX8_row_272 ?_
                                  refine Or.inr ⟨hgd, Or.inr ⟨hr12, ?_, hRa, hFa⟩⟩
                                  have : ua.1 25 1 = g_r g + 1 := hRa.1.2.1
                                  omega
                                · skip
                                  refine m_aload_n h dX8_row_230 rfl rfl ?_
                                  refine m_get h fo_X8_26 (by decide) rfl rfl dX8_row_231 ?_
                                  refine m_bipush h dX8_row_234 (by decide) ?_
                                  refine m_aload_n h dX8_row_236 rfl rfl ?_
                                  refine m_get h fo_X8_64 (by decide) rfl rfl dX8_row_237 ?_
                                  show M X G 9 u 240 [some (.ref (G.2.1 25)), some (.int (iI kd)), some (.int (iI a)), some (.int (iI b)), some (.int (iI c)), some (.int (iI R)), none, none, some (.int (iI (k : Int)))] [.int (iI (u.1 25 1)), .int (iI 8), .ref (G.2.1 31)]
                                  rw [e25r]
                                  show M X G 9 u 240 [some (.ref (G.2.1 25)), some (.int (iI kd)), some (.int (iI a)), some (.int (iI b)), some (.int (iI c)), some (.int (iI R)), none, none, some (.int (iI (k : Int)))] [.int (iI (g_r g)), .int (iI 8), .ref (G.2.1 31)]
                                  refine m_imul h dX8_row_240 ?_
                                  refine m_iload h dX8_row_241 rfl ?_
                                  refine m_iadd h dX8_row_243 ?_
                                  refine m_iconst h dX8_row_244 ?_
                                  refine m_iast h (ar_31 G) (by omega) (by omega) dX8_row_245 ?_
                                  refine m_iinc h dX8_row_246 rfl (by decide) rfl ?_
                                  refine m_goto h dX8_row_249 (tgt := 223) (by decide) ?_
                                  refine ih (k + 1) _ (by omega) (by omega) (rwF_w hw (by omega)) (fun x x0 x1 => ?_)
                                  by_cases e : x = (k : Int)
                                  · subst e; rw [wI_s]
                                  · rw [wI_n (by omega)]; exact hz x x0 (by omega)
                            exact lp223 100 0 _ (by omega) (by omega) (rwF_i (by rw [if_neg (by omega)]; rfl) (by rw [if_neg (by omega)]; rfl) (by rw [if_neg (by omega)]; rfl)) (fun x q1 q2 => by omega)
                          · skip
                            refine m_iload h dX8_row_200 rfl ?_
                            refine m_goto h dX8_row_202 (tgt := 208) (by decide) ?_
                            refine m_iast h (ar_29 G) (by omega) (by omega) dX8_row_208 ?_
                            refine m_aload_n h dX8_row_209 rfl rfl ?_
                            refine m_get h fo_X8_23 (by decide) rfl rfl dX8_row_210 ?_
                            refine m_aload_n h dX8_row_213 rfl rfl ?_
                            refine m_get h fo_X8_64 (by decide) rfl rfl dX8_row_214 ?_
                            show M X G 9 (wI (wI (wI (wI v 28 (g_r g) kd) 29 (3 * (g_r g)) (-1000)) 29 ((3 * (g_r g)) + 1) (-1000)) 29 ((3 * (g_r g)) + 2) c) 217 [some (.ref (G.2.1 25)), some (.int (iI kd)), some (.int (iI a)), some (.int (iI b)), some (.int (iI c)), some (.int (iI R)), some (.int (iI ow)), some (.int (iI 1)), none] [.int (iI (v.1 25 1)), .ref (G.2.1 30)]
                            show M X G 9 (wI (wI (wI (wI v 28 (g_r g) kd) 29 (3 * (g_r g)) (-1000)) 29 ((3 * (g_r g)) + 1) (-1000)) 29 ((3 * (g_r g)) + 2) c) 217 [some (.ref (G.2.1 25)), some (.int (iI kd)), some (.int (iI a)), some (.int (iI b)), some (.int (iI c)), some (.int (iI R)), some (.int (iI ow)), some (.int (iI 1)), none] [.int (iI (v.1 25 1)), .ref (G.2.1 30)]
                            rw [s1]
                            show M X G 9 (wI (wI (wI (wI v 28 (g_r g) kd) 29 (3 * (g_r g)) (-1000)) 29 ((3 * (g_r g)) + 1) (-1000)) 29 ((3 * (g_r g)) + 2) c) 217 [some (.ref (G.2.1 25)), some (.int (iI kd)), some (.int (iI a)), some (.int (iI b)), some (.int (iI c)), some (.int (iI R)), some (.int (iI ow)), some (.int (iI 1)), none] [.int (iI (g_r g)), .ref (G.2.1 30)]
                            refine m_iload h dX8_row_217 rfl ?_
                            refine m_iast h (ar_30 G) (by omega) (by omega) dX8_row_219 ?_
                            refine m_iconst h dX8_row_220 ?_
                            refine m_istore h dX8_row_221 (by decide) rfl ?_
                            refine m_kill 6 ?_
                            refine m_kill 7 ?_
                            have lp223 : ∀ (fuel : Nat) (k : Nat) (u : Mem), k ≤ 8 → 20 - k < fuel → rwF v (g_r g) kd (if 1 ≤ NKs kd then a else -1) (if 2 ≤ NKs kd then b else -1) (if 3 ≤ NKs kd then c else -1) R u → (∀ x, 0 ≤ x → x < (k : Int) → u.1 31 (8 * g_r g + x) = 0) → M X G 9 u 223 [some (.ref (G.2.1 25)), some (.int (iI kd)), some (.int (iI a)), some (.int (iI b)), some (.int (iI c)), some (.int (iI R)), none, none, some (.int (iI (k : Int)))] [] := by
                              intro fuel
                              induction fuel with
                              | zero => intro k u hk8 hfu hw hz; exfalso; omega
                              | succ fuel ih =>
                                intro k u hk8 hfu hw hz
                                have e25r : u.1 25 1 = g_r g := by rw [hw.1 25 (by decide) (by decide) (by decide) (by decide)]; exact s1
                                refine m_iload h dX8_row_223 rfl ?_
                                refine m_bipush h dX8_row_225 (by decide) ?_
                                refine m_icmp_ge h dX8_row_227 (tgt := 252) (by decide) (by omega) (by omega) (fun c320 => ?_) (fun c320 => ?_)
                                · skip
                                  have hz8 : ∀ x, 0 ≤ x → x < 8 → u.1 31 (8 * g_r g + x) = 0 := fun x q1 q2 => hz x q1 (by omega)
                                  refine m_aload_n h dX8_row_252 rfl rfl ?_
                                  refine m_dup h dX8_row_253 rfl ?_
                                  refine m_get h fo_X8_64 (by decide) rfl rfl dX8_row_254 ?_
                                  show M X G 9 u 257 [some (.ref (G.2.1 25)), some (.int (iI kd)), some (.int (iI a)), some (.int (iI b)), some (.int (iI c)), some (.int (iI R)), none, none, some (.int (iI (k : Int)))] [.int (iI (u.1 25 1)), .ref (G.2.1 25)]
                                  rw [e25r]
                                  show M X G 9 u 257 [some (.ref (G.2.1 25)), some (.int (iI kd)), some (.int (iI a)), some (.int (iI b)), some (.int (iI c)), some (.int (iI R)), none, none, some (.int (iI (k : Int)))] [.int (iI (g_r g)), .ref (G.2.1 25)]
                                  refine m_iconst h dX8_row_257 ?_
                                  refine m_iadd h dX8_row_258 ?_
                                  refine m_putJ h fw_X8_64 (by decide) rfl (Nat.le_of_ble_eq_true rfl) (kz := 1) rfl rfl dX8_row_259 ?_
                                  have hS1 := rwF_s ⟨s0, s1, s2, s3⟩ hg hr12 hw hz8
                                  have hF1 : FrM v (wI u 25 1 ((g_r g) + 1)) := FrM.w ⟨fun i hi => hw.1 i (by omega) (by omega) (by omega) (by omega), hw.2.1⟩ (by omega)
                                  refine m_aload_n h dX8_row_262 rfl rfl ?_
                                  refine m_vV h (m_anew _ hG _ (by intro x x0 x1; exact hS1.2.2.1.z x x0 x1)) moX8_anew voX8_anew lk_X8_73 dX8_row_263 (by decide) (by decide) rfl rfl rfl (Nat.le_of_ble_eq_true rfl) (fun ua p323 => ?_)
                                  have hRa := RM_an hS1 p323 t
                                  have hFa := hF1.tr (ANW.m p323)
                                  have hAn := p323
                                  refine m_aload_n h dX8_row_266 rfl rfl ?_
                                  refine m_get h fo_X8_64 (by decide) rfl rfl dX8_row_267 ?_
                                  refine m_iconst h dX8_row_270 ?_
                                  refine m_isub h dX8_row_271 ?_
                                  refine m_iret h hR rfl dX8_row_272 ?_
                                  refine Or.inr ⟨hgd, Or.inr ⟨hr12, ?_, hRa, hFa⟩⟩
                                  have : ua.1 25 1 = g_r g + 1 := hRa.1.2.1
                                  omega
                                · skip
                                  refine m_aload_n h dX8_row_230 rfl rfl ?_
                                  refine m_get h fo_X8_26 (by decide) rfl rfl dX8_row_231 ?_
                                  refine m_bipush h dX8_row_234 (by decide) ?_
                                  refine m_aload_n h dX8_row_236 rfl rfl ?_
                                  refine m_get h fo_X8_64 (by decide) rfl rfl dX8_row_237 ?_
                                  show M X G 9 u 240 [some (.ref (G.2.1 25)), some (.int (iI kd)), some (.int (iI a)), some (.int (iI b)), some (.int (iI c)), some (.int (iI R)), none, none, some (.int (iI (k : Int)))] [.int (iI (u.1 25 1)), .int (iI 8), .ref (G.2.1 31)]
                                  rw [e25r]
                                  show M X G 9 u 240 [some (.ref (G.2.1 25)), some (.int (iI kd)), some (.int (iI a)), some (.int (iI b)), some (.int (iI c)), some (.int (iI R)), none, none, some (.int (iI (k : Int)))] [.int (iI (g_r g)), .int (iI 8), .ref (G.2.1 31)]
                                  refine m_imul h dX8_row_240 ?_
                                  refine m_iload h dX8_row_241 rfl ?_
                                  refine m_iadd h dX8_row_243 ?_
                                  refine m_iconst h dX8_row_244 ?_
                                  refine m_iast h (ar_31 G) (by omega) (by omega) dX8_row_245 ?_
                                  refine m_iinc h dX8_row_246 rfl (by decide) rfl ?_
                                  refine m_goto h dX8_row_249 (tgt := 223) (by decide) ?_
                                  refine ih (k + 1) _ (by omega) (by omega) (rwF_w hw (by omega)) (fun x x0 x1 => ?_)
                                  by_cases e : x = (k : Int)
                                  · subst e; rw [wI_s]
                                  · rw [wI_n (by omega)]; exact hz x x0 (by omega)
                            exact lp223 100 0 _ (by omega) (by omega) (rwF_i (by rw [if_neg (by omega)]; rfl) (by rw [if_neg (by omega)]; rfl) (by rw [if_pos (by omega)]; exact (mN_nn (by have : isNm g c := (hgd.2.2.2.2 (by omega)).1; exact this.1)).symm)) (fun x q1 q2 => by omega)
                        · skip
                          refine m_iload_n h dX8_row_174 rfl rfl ?_
                          refine m_goto h dX8_row_175 (tgt := 181) (by decide) ?_
                          refine m_iast h (ar_29 G) (by omega) (by omega) dX8_row_181 ?_
                          refine m_aload_n h dX8_row_182 rfl rfl ?_
                          refine m_get h fo_X8_20 (by decide) rfl rfl dX8_row_183 ?_
                          refine m_iconst h dX8_row_186 ?_
                          refine m_aload_n h dX8_row_187 rfl rfl ?_
                          refine m_get h fo_X8_64 (by decide) rfl rfl dX8_row_188 ?_
                          show M X G 9 (wI (wI (wI v 28 (g_r g) kd) 29 (3 * (g_r g)) (-1000)) 29 ((3 * (g_r g)) + 1) b) 191 [some (.ref (G.2.1 25)), some (.int (iI kd)), some (.int (iI a)), some (.int (iI b)), some (.int (iI c)), some (.int (iI R)), some (.int (iI ow)), some (.int (iI 1)), none] [.int (iI (v.1 25 1)), .int (iI 3), .ref (G.2.1 29)]
                          show M X G 9 (wI (wI (wI v 28 (g_r g) kd) 29 (3 * (g_r g)) (-1000)) 29 ((3 * (g_r g)) + 1) b) 191 [some (.ref (G.2.1 25)), some (.int (iI kd)), some (.int (iI a)), some (.int (iI b)), some (.int (iI c)), some (.int (iI R)), some (.int (iI ow)), some (.int (iI 1)), none] [.int (iI (v.1 25 1)), .int (iI 3), .ref (G.2.1 29)]
                          rw [s1]
                          show M X G 9 (wI (wI (wI v 28 (g_r g) kd) 29 (3 * (g_r g)) (-1000)) 29 ((3 * (g_r g)) + 1) b) 191 [some (.ref (G.2.1 25)), some (.int (iI kd)), some (.int (iI a)), some (.int (iI b)), some (.int (iI c)), some (.int (iI R)), some (.int (iI ow)), some (.int (iI 1)), none] [.int (iI (g_r g)), .int (iI 3), .ref (G.2.1 29)]
                          refine m_imul h dX8_row_191 ?_
                          refine m_iconst h dX8_row_192 ?_
                          refine m_iadd h dX8_row_193 ?_
                          refine m_iload h dX8_row_194 rfl ?_
                          refine m_iconst h dX8_row_196 ?_
                          refine m_icmp_le h dX8_row_197 (tgt := 205) (by decide) (by omega) (by omega) (fun c324 => ?_) (fun c324 => ?_)
                          · skip
                            refine m_sipush h dX8_row_205 (by decide) ?_
                            refine m_iast h (ar_29 G) (by omega) (by omega) dX8_row_208 ?_
                            refine m_aload_n h dX8_row_209 rfl rfl ?_
                            refine m_get h fo_X8_23 (by decide) rfl rfl dX8_row_210 ?_
                            refine m_aload_n h dX8_row_213 rfl rfl ?_
                            refine m_get h fo_X8_64 (by decide) rfl rfl dX8_row_214 ?_
                            show M X G 9 (wI (wI (wI (wI v 28 (g_r g) kd) 29 (3 * (g_r g)) (-1000)) 29 ((3 * (g_r g)) + 1) b) 29 ((3 * (g_r g)) + 2) (-1000)) 217 [some (.ref (G.2.1 25)), some (.int (iI kd)), some (.int (iI a)), some (.int (iI b)), some (.int (iI c)), some (.int (iI R)), some (.int (iI ow)), some (.int (iI 1)), none] [.int (iI (v.1 25 1)), .ref (G.2.1 30)]
                            show M X G 9 (wI (wI (wI (wI v 28 (g_r g) kd) 29 (3 * (g_r g)) (-1000)) 29 ((3 * (g_r g)) + 1) b) 29 ((3 * (g_r g)) + 2) (-1000)) 217 [some (.ref (G.2.1 25)), some (.int (iI kd)), some (.int (iI a)), some (.int (iI b)), some (.int (iI c)), some (.int (iI R)), some (.int (iI ow)), some (.int (iI 1)), none] [.int (iI (v.1 25 1)), .ref (G.2.1 30)]
                            rw [s1]
                            show M X G 9 (wI (wI (wI (wI v 28 (g_r g) kd) 29 (3 * (g_r g)) (-1000)) 29 ((3 * (g_r g)) + 1) b) 29 ((3 * (g_r g)) + 2) (-1000)) 217 [some (.ref (G.2.1 25)), some (.int (iI kd)), some (.int (iI a)), some (.int (iI b)), some (.int (iI c)), some (.int (iI R)), some (.int (iI ow)), some (.int (iI 1)), none] [.int (iI (g_r g)), .ref (G.2.1 30)]
                            refine m_iload h dX8_row_217 rfl ?_
                            refine m_iast h (ar_30 G) (by omega) (by omega) dX8_row_219 ?_
                            refine m_iconst h dX8_row_220 ?_
                            refine m_istore h dX8_row_221 (by decide) rfl ?_
                            refine m_kill 6 ?_
                            refine m_kill 7 ?_
                            have lp223 : ∀ (fuel : Nat) (k : Nat) (u : Mem), k ≤ 8 → 20 - k < fuel → rwF v (g_r g) kd (if 1 ≤ NKs kd then a else -1) (if 2 ≤ NKs kd then b else -1) (if 3 ≤ NKs kd then c else -1) R u → (∀ x, 0 ≤ x → x < (k : Int) → u.1 31 (8 * g_r g + x) = 0) → M X G 9 u 223 [some (.ref (G.2.1 25)), some (.int (iI kd)), some (.int (iI a)), some (.int (iI b)), some (.int (iI c)), some (.int (iI R)), none, none, some (.int (iI (k : Int)))] [] := by
                              intro fuel
                              induction fuel with
                              | zero => intro k u hk8 hfu hw hz; exfalso; omega
                              | succ fuel ih =>
                                intro k u hk8 hfu hw hz
                                have e25r : u.1 25 1 = g_r g := by rw [hw.1 25 (by decide) (by decide) (by decide) (by decide)]; exact s1
                                refine m_iload h dX8_row_223 rfl ?_
                                refine m_bipush h dX8_row_225 (by decide) ?_
                                refine m_icmp_ge h dX8_row_227 (tgt := 252) (by decide) (by omega) (by omega) (fun c325 => ?_) (fun c325 => ?_)
                                · skip
                                  have hz8 : ∀ x, 0 ≤ x → x < 8 → u.1 31 (8 * g_r g + x) = 0 := fun x q1 q2 => hz x q1 (by omega)
                                  refine m_aload_n h dX8_row_252 rfl rfl ?_
                                  refine m_dup h dX8_row_253 rfl ?_
                                  refine m_get h fo_X8_64 (by decide) rfl rfl dX8_row_254 ?_
                                  show M X G 9 u 257 [some (.ref (G.2.1 25)), some (.int (iI kd)), some (.int (iI a)), some (.int (iI b)), some (.int (iI c)), some (.int (iI R)), none, none, some (.int (iI (k : Int)))] [.int (iI (u.1 25 1)), .ref (G.2.1 25)]
                                  rw [e25r]
                                  show M X G 9 u 257 [some (.ref (G.2.1 25)), some (.int (iI kd)), some (.int (iI a)), some (.int (iI b)), some (.int (iI c)), some (.int (iI R)), none, none, some (.int (iI (k : Int)))] [.int (iI (g_r g)), .ref (G.2.1 25)]
                                  refine m_iconst h dX8_row_257 ?_
                                  refine m_iadd h dX8_row_258 ?_
                                  refine m_putJ h fw_X8_64 (by decide) rfl (Nat.le_of_ble_eq_true rfl) (kz := 1) rfl rfl dX8_row_259 ?_
                                  have hS1 := rwF_s ⟨s0, s1, s2, s3⟩ hg hr12 hw hz8
                                  have hF1 : FrM v (wI u 25 1 ((g_r g) + 1)) := FrM.w ⟨fun i hi => hw.1 i (by omega) (by omega) (by omega) (by omega), hw.2.1⟩ (by omega)
                                  refine m_aload_n h dX8_row_262 rfl rfl ?_
                                  refine m_vV h (m_anew _ hG _ (by intro x x0 x1; exact hS1.2.2.1.z x x0 x1)) moX8_anew voX8_anew lk_X8_73 dX8_row_263 (by decide) (by decide) rfl rfl rfl (Nat.le_of_ble_eq_true rfl) (fun ua p328 => ?_)
                                  have hRa := RM_an hS1 p328 t
                                  have hFa := hF1.tr (ANW.m p328)
                                  have hAn := p328
                                  refine m_aload_n h dX8_row_266 rfl rfl ?_
                                  refine m_get h fo_X8_64 (by decide) rfl rfl dX8_row_267 ?_
                                  refine m_iconst h dX8_row_270 ?_
                                  refine m_isub h dX8_row_271 ?_
                                  refine m_iret h hR rfl dX8_row_272 ?_
                                  refine Or.inr ⟨hgd, Or.inr ⟨hr12, ?_, hRa, hFa⟩⟩
                                  have : ua.1 25 1 = g_r g + 1 := hRa.1.2.1
                                  omega
                                · skip
                                  refine m_aload_n h dX8_row_230 rfl rfl ?_
                                  refine m_get h fo_X8_26 (by decide) rfl rfl dX8_row_231 ?_
                                  refine m_bipush h dX8_row_234 (by decide) ?_
                                  refine m_aload_n h dX8_row_236 rfl rfl ?_
                                  refine m_get h fo_X8_64 (by decide) rfl rfl dX8_row_237 ?_
                                  show M X G 9 u 240 [some (.ref (G.2.1 25)), some (.int (iI kd)), some (.int (iI a)), some (.int (iI b)), some (.int (iI c)), some (.int (iI R)), none, none, some (.int (iI (k : Int)))] [.int (iI (u.1 25 1)), .int (iI 8), .ref (G.2.1 31)]
                                  rw [e25r]
                                  show M X G 9 u 240 [some (.ref (G.2.1 25)), some (.int (iI kd)), some (.int (iI a)), some (.int (iI b)), some (.int (iI c)), some (.int (iI R)), none, none, some (.int (iI (k : Int)))] [.int (iI (g_r g)), .int (iI 8), .ref (G.2.1 31)]
                                  refine m_imul h dX8_row_240 ?_
                                  refine m_iload h dX8_row_241 rfl ?_
                                  refine m_iadd h dX8_row_243 ?_
                                  refine m_iconst h dX8_row_244 ?_
                                  refine m_iast h (ar_31 G) (by omega) (by omega) dX8_row_245 ?_
                                  refine m_iinc h dX8_row_246 rfl (by decide) rfl ?_
                                  refine m_goto h dX8_row_249 (tgt := 223) (by decide) ?_
                                  refine ih (k + 1) _ (by omega) (by omega) (rwF_w hw (by omega)) (fun x x0 x1 => ?_)
                                  by_cases e : x = (k : Int)
                                  · subst e; rw [wI_s]
                                  · rw [wI_n (by omega)]; exact hz x x0 (by omega)
                            exact lp223 100 0 _ (by omega) (by omega) (rwF_i (by rw [if_neg (by omega)]; rfl) (by rw [if_pos (by omega)]; exact (mN_nn (by have : isNm g b := (hgd.2.2.2.1 (by omega)).1; exact this.1)).symm) (by rw [if_neg (by omega)]; rfl)) (fun x q1 q2 => by omega)
                          · skip
                            refine m_iload h dX8_row_200 rfl ?_
                            refine m_goto h dX8_row_202 (tgt := 208) (by decide) ?_
                            refine m_iast h (ar_29 G) (by omega) (by omega) dX8_row_208 ?_
                            refine m_aload_n h dX8_row_209 rfl rfl ?_
                            refine m_get h fo_X8_23 (by decide) rfl rfl dX8_row_210 ?_
                            refine m_aload_n h dX8_row_213 rfl rfl ?_
                            refine m_get h fo_X8_64 (by decide) rfl rfl dX8_row_214 ?_
                            show M X G 9 (wI (wI (wI (wI v 28 (g_r g) kd) 29 (3 * (g_r g)) (-1000)) 29 ((3 * (g_r g)) + 1) b) 29 ((3 * (g_r g)) + 2) c) 217 [some (.ref (G.2.1 25)), some (.int (iI kd)), some (.int (iI a)), some (.int (iI b)), some (.int (iI c)), some (.int (iI R)), some (.int (iI ow)), some (.int (iI 1)), none] [.int (iI (v.1 25 1)), .ref (G.2.1 30)]
                            show M X G 9 (wI (wI (wI (wI v 28 (g_r g) kd) 29 (3 * (g_r g)) (-1000)) 29 ((3 * (g_r g)) + 1) b) 29 ((3 * (g_r g)) + 2) c) 217 [some (.ref (G.2.1 25)), some (.int (iI kd)), some (.int (iI a)), some (.int (iI b)), some (.int (iI c)), some (.int (iI R)), some (.int (iI ow)), some (.int (iI 1)), none] [.int (iI (v.1 25 1)), .ref (G.2.1 30)]
                            rw [s1]
                            show M X G 9 (wI (wI (wI (wI v 28 (g_r g) kd) 29 (3 * (g_r g)) (-1000)) 29 ((3 * (g_r g)) + 1) b) 29 ((3 * (g_r g)) + 2) c) 217 [some (.ref (G.2.1 25)), some (.int (iI kd)), some (.int (iI a)), some (.int (iI b)), some (.int (iI c)), some (.int (iI R)), some (.int (iI ow)), some (.int (iI 1)), none] [.int (iI (g_r g)), .ref (G.2.1 30)]
                            refine m_iload h dX8_row_217 rfl ?_
                            refine m_iast h (ar_30 G) (by omega) (by omega) dX8_row_219 ?_
                            refine m_iconst h dX8_row_220 ?_
                            refine m_istore h dX8_row_221 (by decide) rfl ?_
                            refine m_kill 6 ?_
                            refine m_kill 7 ?_
                            have lp223 : ∀ (fuel : Nat) (k : Nat) (u : Mem), k ≤ 8 → 20 - k < fuel → rwF v (g_r g) kd (if 1 ≤ NKs kd then a else -1) (if 2 ≤ NKs kd then b else -1) (if 3 ≤ NKs kd then c else -1) R u → (∀ x, 0 ≤ x → x < (k : Int) → u.1 31 (8 * g_r g + x) = 0) → M X G 9 u 223 [some (.ref (G.2.1 25)), some (.int (iI kd)), some (.int (iI a)), some (.int (iI b)), some (.int (iI c)), some (.int (iI R)), none, none, some (.int (iI (k : Int)))] [] := by
                              intro fuel
                              induction fuel with
                              | zero => intro k u hk8 hfu hw hz; exfalso; omega
                              | succ fuel ih =>
                                intro k u hk8 hfu hw hz
                                have e25r : u.1 25 1 = g_r g := by rw [hw.1 25 (by decide) (by decide) (by decide) (by decide)]; exact s1
                                refine m_iload h dX8_row_223 rfl ?_
                                refine m_bipush h dX8_row_225 (by decide) ?_
                                refine m_icmp_ge h dX8_row_227 (tgt := 252) (by decide) (by omega) (by omega) (fun c329 => ?_) (fun c329 => ?_)
                                · skip
                                  have hz8 : ∀ x, 0 ≤ x → x < 8 → u.1 31 (8 * g_r g + x) = 0 := fun x q1 q2 => hz x q1 (by omega)
                                  refine m_aload_n h dX8_row_252 rfl rfl ?_
                                  refine m_dup h dX8_row_253 rfl ?_
                                  refine m_get h fo_X8_64 (by decide) rfl rfl dX8_row_254 ?_
                                  show M X G 9 u 257 [some (.ref (G.2.1 25)), some (.int (iI kd)), some (.int (iI a)), some (.int (iI b)), some (.int (iI c)), some (.int (iI R)), none, none, some (.int (iI (k : Int)))] [.int (iI (u.1 25 1)), .ref (G.2.1 25)]
                                  rw [e25r]
                                  show M X G 9 u 257 [some (.ref (G.2.1 25)), some (.int (iI kd)), some (.int (iI a)), some (.int (iI b)), some (.int (iI c)), some (.int (iI R)), none, none, some (.int (iI (k : Int)))] [.int (iI (g_r g)), .ref (G.2.1 25)]
                                  refine m_iconst h dX8_row_257 ?_
                                  refine m_iadd h dX8_row_258 ?_
                                  refine m_putJ h fw_X8_64 (by decide) rfl (Nat.le_of_ble_eq_true rfl) (kz := 1) rfl rfl dX8_row_259 ?_
                                  have hS1 := rwF_s ⟨s0, s1, s2, s3⟩ hg hr12 hw hz8
                                  have hF1 : FrM v (wI u 25 1 ((g_r g) + 1)) := FrM.w ⟨fun i hi => hw.1 i (by omega) (by omega) (by omega) (by omega), hw.2.1⟩ (by omega)
                                  refine m_aload_n h dX8_row_262 rfl rfl ?_
                                  refine m_vV h (m_anew _ hG _ (by intro x x0 x1; exact hS1.2.2.1.z x x0 x1)) moX8_anew voX8_anew lk_X8_73 dX8_row_263 (by decide) (by decide) rfl rfl rfl (Nat.le_of_ble_eq_true rfl) (fun ua p332 => ?_)
                                  have hRa := RM_an hS1 p332 t
                                  have hFa := hF1.tr (ANW.m p332)
                                  have hAn := p332
                                  refine m_aload_n h dX8_row_266 rfl rfl ?_
                                  refine m_get h fo_X8_64 (by decide) rfl rfl dX8_row_267 ?_
                                  refine m_iconst h dX8_row_270 ?_
                                  refine m_isub h dX8_row_271 ?_
                                  refine m_iret h hR rfl dX8_row_272 ?_
                                  refine Or.inr ⟨hgd, Or.inr ⟨hr12, ?_, hRa, hFa⟩⟩
                                  have : ua.1 25 1 = g_r g + 1 := hRa.1.2.1
                                  omega
                                · skip
                                  refine m_aload_n h dX8_row_230 rfl rfl ?_
                                  refine m_get h fo_X8_26 (by decide) rfl rfl dX8_row_231 ?_
                                  refine m_bipush h dX8_row_234 (by decide) ?_
                                  refine m_aload_n h dX8_row_236 rfl rfl ?_
                                  refine m_get h fo_X8_64 (by decide) rfl rfl dX8_row_237 ?_
                                  show M X G 9 u 240 [some (.ref (G.2.1 25)), some (.int (iI kd)), some (.int (iI a)), some (.int (iI b)), some (.int (iI c)), some (.int (iI R)), none, none, some (.int (iI (k : Int)))] [.int (iI (u.1 25 1)), .int (iI 8), .ref (G.2.1 31)]
                                  rw [e25r]
                                  show M X G 9 u 240 [some (.ref (G.2.1 25)), some (.int (iI kd)), some (.int (iI a)), some (.int (iI b)), some (.int (iI c)), some (.int (iI R)), none, none, some (.int (iI (k : Int)))] [.int (iI (g_r g)), .int (iI 8), .ref (G.2.1 31)]
                                  refine m_imul h dX8_row_240 ?_
                                  refine m_iload h dX8_row_241 rfl ?_
                                  refine m_iadd h dX8_row_243 ?_
                                  refine m_iconst h dX8_row_244 ?_
                                  refine m_iast h (ar_31 G) (by omega) (by omega) dX8_row_245 ?_
                                  refine m_iinc h dX8_row_246 rfl (by decide) rfl ?_
                                  refine m_goto h dX8_row_249 (tgt := 223) (by decide) ?_
                                  refine ih (k + 1) _ (by omega) (by omega) (rwF_w hw (by omega)) (fun x x0 x1 => ?_)
                                  by_cases e : x = (k : Int)
                                  · subst e; rw [wI_s]
                                  · rw [wI_n (by omega)]; exact hz x x0 (by omega)
                            exact lp223 100 0 _ (by omega) (by omega) (rwF_i (by rw [if_neg (by omega)]; rfl) (by rw [if_pos (by omega)]; exact (mN_nn (by have : isNm g b := (hgd.2.2.2.1 (by omega)).1; exact this.1)).symm) (by rw [if_pos (by omega)]; exact (mN_nn (by have : isNm g c := (hgd.2.2.2.2 (by omega)).1; exact this.1)).symm)) (fun x q1 q2 => by omega)
                      · skip
                        refine m_iload_n h dX8_row_148 rfl rfl ?_
                        refine m_goto h dX8_row_149 (tgt := 155) (by decide) ?_
                        refine m_iast h (ar_29 G) (by omega) (by omega) dX8_row_155 ?_
                        refine m_aload_n h dX8_row_156 rfl rfl ?_
                        refine m_get h fo_X8_20 (by decide) rfl rfl dX8_row_157 ?_
                        refine m_iconst h dX8_row_160 ?_
                        refine m_aload_n h dX8_row_161 rfl rfl ?_
                        refine m_get h fo_X8_64 (by decide) rfl rfl dX8_row_162 ?_
                        show M X G 9 (wI (wI v 28 (g_r g) kd) 29 (3 * (g_r g)) a) 165 [some (.ref (G.2.1 25)), some (.int (iI kd)), some (.int (iI a)), some (.int (iI b)), some (.int (iI c)), some (.int (iI R)), some (.int (iI ow)), some (.int (iI 1)), none] [.int (iI (v.1 25 1)), .int (iI 3), .ref (G.2.1 29)]
                        show M X G 9 (wI (wI v 28 (g_r g) kd) 29 (3 * (g_r g)) a) 165 [some (.ref (G.2.1 25)), some (.int (iI kd)), some (.int (iI a)), some (.int (iI b)), some (.int (iI c)), some (.int (iI R)), some (.int (iI ow)), some (.int (iI 1)), none] [.int (iI (v.1 25 1)), .int (iI 3), .ref (G.2.1 29)]
                        rw [s1]
                        show M X G 9 (wI (wI v 28 (g_r g) kd) 29 (3 * (g_r g)) a) 165 [some (.ref (G.2.1 25)), some (.int (iI kd)), some (.int (iI a)), some (.int (iI b)), some (.int (iI c)), some (.int (iI R)), some (.int (iI ow)), some (.int (iI 1)), none] [.int (iI (g_r g)), .int (iI 3), .ref (G.2.1 29)]
                        refine m_imul h dX8_row_165 ?_
                        refine m_iconst h dX8_row_166 ?_
                        refine m_iadd h dX8_row_167 ?_
                        refine m_iload h dX8_row_168 rfl ?_
                        refine m_iconst h dX8_row_170 ?_
                        refine m_icmp_le h dX8_row_171 (tgt := 178) (by decide) (by omega) (by omega) (fun c333 => ?_) (fun c333 => ?_)
                        · skip
                          refine m_sipush h dX8_row_178 (by decide) ?_
                          refine m_iast h (ar_29 G) (by omega) (by omega) dX8_row_181 ?_
                          refine m_aload_n h dX8_row_182 rfl rfl ?_
                          refine m_get h fo_X8_20 (by decide) rfl rfl dX8_row_183 ?_
                          refine m_iconst h dX8_row_186 ?_
                          refine m_aload_n h dX8_row_187 rfl rfl ?_
                          refine m_get h fo_X8_64 (by decide) rfl rfl dX8_row_188 ?_
                          show M X G 9 (wI (wI (wI v 28 (g_r g) kd) 29 (3 * (g_r g)) a) 29 ((3 * (g_r g)) + 1) (-1000)) 191 [some (.ref (G.2.1 25)), some (.int (iI kd)), some (.int (iI a)), some (.int (iI b)), some (.int (iI c)), some (.int (iI R)), some (.int (iI ow)), some (.int (iI 1)), none] [.int (iI (v.1 25 1)), .int (iI 3), .ref (G.2.1 29)]
                          show M X G 9 (wI (wI (wI v 28 (g_r g) kd) 29 (3 * (g_r g)) a) 29 ((3 * (g_r g)) + 1) (-1000)) 191 [some (.ref (G.2.1 25)), some (.int (iI kd)), some (.int (iI a)), some (.int (iI b)), some (.int (iI c)), some (.int (iI R)), some (.int (iI ow)), some (.int (iI 1)), none] [.int (iI (v.1 25 1)), .int (iI 3), .ref (G.2.1 29)]
                          rw [s1]
                          show M X G 9 (wI (wI (wI v 28 (g_r g) kd) 29 (3 * (g_r g)) a) 29 ((3 * (g_r g)) + 1) (-1000)) 191 [some (.ref (G.2.1 25)), some (.int (iI kd)), some (.int (iI a)), some (.int (iI b)), some (.int (iI c)), some (.int (iI R)), some (.int (iI ow)), some (.int (iI 1)), none] [.int (iI (g_r g)), .int (iI 3), .ref (G.2.1 29)]
                          refine m_imul h dX8_row_191 ?_
                          refine m_iconst h dX8_row_192 ?_
                          refine m_iadd h dX8_row_193 ?_
                          refine m_iload h dX8_row_194 rfl ?_
                          refine m_iconst h dX8_row_196 ?_
                          refine m_icmp_le h dX8_row_197 (tgt := 205) (by decide) (by omega) (by omega) (fun c334 => ?_) (fun c334 => ?_)
                          · skip
                            refine m_sipush h dX8_row_205 (by decide) ?_
                            refine m_iast h (ar_29 G) (by omega) (by omega) dX8_row_208 ?_
                            refine m_aload_n h dX8_row_209 rfl rfl ?_
                            refine m_get h fo_X8_23 (by decide) rfl rfl dX8_row_210 ?_
                            refine m_aload_n h dX8_row_213 rfl rfl ?_
                            refine m_get h fo_X8_64 (by decide) rfl rfl dX8_row_214 ?_
                            show M X G 9 (wI (wI (wI (wI v 28 (g_r g) kd) 29 (3 * (g_r g)) a) 29 ((3 * (g_r g)) + 1) (-1000)) 29 ((3 * (g_r g)) + 2) (-1000)) 217 [some (.ref (G.2.1 25)), some (.int (iI kd)), some (.int (iI a)), some (.int (iI b)), some (.int (iI c)), some (.int (iI R)), some (.int (iI ow)), some (.int (iI 1)), none] [.int (iI (v.1 25 1)), .ref (G.2.1 30)]
                            show M X G 9 (wI (wI (wI (wI v 28 (g_r g) kd) 29 (3 * (g_r g)) a) 29 ((3 * (g_r g)) + 1) (-1000)) 29 ((3 * (g_r g)) + 2) (-1000)) 217 [some (.ref (G.2.1 25)), some (.int (iI kd)), some (.int (iI a)), some (.int (iI b)), some (.int (iI c)), some (.int (iI R)), some (.int (iI ow)), some (.int (iI 1)), none] [.int (iI (v.1 25 1)), .ref (G.2.1 30)]
                            rw [s1]
                            show M X G 9 (wI (wI (wI (wI v 28 (g_r g) kd) 29 (3 * (g_r g)) a) 29 ((3 * (g_r g)) + 1) (-1000)) 29 ((3 * (g_r g)) + 2) (-1000)) 217 [some (.ref (G.2.1 25)), some (.int (iI kd)), some (.int (iI a)), some (.int (iI b)), some (.int (iI c)), some (.int (iI R)), some (.int (iI ow)), some (.int (iI 1)), none] [.int (iI (g_r g)), .ref (G.2.1 30)]
                            refine m_iload h dX8_row_217 rfl ?_
                            refine m_iast h (ar_30 G) (by omega) (by omega) dX8_row_219 ?_
                            refine m_iconst h dX8_row_220 ?_
                            refine m_istore h dX8_row_221 (by decide) rfl ?_
                            refine m_kill 6 ?_
                            refine m_kill 7 ?_
                            have lp223 : ∀ (fuel : Nat) (k : Nat) (u : Mem), k ≤ 8 → 20 - k < fuel → rwF v (g_r g) kd (if 1 ≤ NKs kd then a else -1) (if 2 ≤ NKs kd then b else -1) (if 3 ≤ NKs kd then c else -1) R u → (∀ x, 0 ≤ x → x < (k : Int) → u.1 31 (8 * g_r g + x) = 0) → M X G 9 u 223 [some (.ref (G.2.1 25)), some (.int (iI kd)), some (.int (iI a)), some (.int (iI b)), some (.int (iI c)), some (.int (iI R)), none, none, some (.int (iI (k : Int)))] [] := by
                              intro fuel
                              induction fuel with
                              | zero => intro k u hk8 hfu hw hz; exfalso; omega
                              | succ fuel ih =>
                                intro k u hk8 hfu hw hz
                                have e25r : u.1 25 1 = g_r g := by rw [hw.1 25 (by decide) (by decide) (by decide) (by decide)]; exact s1
                                refine m_iload h dX8_row_223 rfl ?_
                                refine m_bipush h dX8_row_225 (by decide) ?_
                                refine m_icmp_ge h dX8_row_227 (tgt := 252) (by decide) (by omega) (by omega) (fun c335 => ?_) (fun c335 => ?_)
                                · skip
                                  have hz8 : ∀ x, 0 ≤ x → x < 8 → u.1 31 (8 * g_r g + x) = 0 := fun x q1 q2 => hz x q1 (by omega)
                                  refine m_aload_n h dX8_row_252 rfl rfl ?_
                                  refine m_dup h dX8_row_253 rfl ?_
                                  refine m_get h fo_X8_64 (by decide) rfl rfl dX8_row_254 ?_
                                  show M X G 9 u 257 [some (.ref (G.2.1 25)), some (.int (iI kd)), some (.int (iI a)), some (.int (iI b)), some (.int (iI c)), some (.int (iI R)), none, none, some (.int (iI (k : Int)))] [.int (iI (u.1 25 1)), .ref (G.2.1 25)]
                                  rw [e25r]
                                  show M X G 9 u 257 [some (.ref (G.2.1 25)), some (.int (iI kd)), some (.int (iI a)), some (.int (iI b)), some (.int (iI c)), some (.int (iI R)), none, none, some (.int (iI (k : Int)))] [.int (iI (g_r g)), .ref (G.2.1 25)]
                                  refine m_iconst h dX8_row_257 ?_
                                  refine m_iadd h dX8_row_258 ?_
                                  refine m_putJ h fw_X8_64 (by decide) rfl (Nat.le_of_ble_eq_true rfl) (kz := 1) rfl rfl dX8_row_259 ?_
                                  have hS1 := rwF_s ⟨s0, s1, s2, s3⟩ hg hr12 hw hz8
                                  have hF1 : FrM v (wI u 25 1 ((g_r g) + 1)) := FrM.w ⟨fun i hi => hw.1 i (by omega) (by omega) (by omega) (by omega), hw.2.1⟩ (by omega)
                                  refine m_aload_n h dX8_row_262 rfl rfl ?_
                                  refine m_vV h (m_anew _ hG _ (by intro x x0 x1; exact hS1.2.2.1.z x x0 x1)) moX8_anew voX8_anew lk_X8_73 dX8_row_263 (by decide) (by decide) rfl rfl rfl (Nat.le_of_ble_eq_true rfl) (fun ua p338 => ?_)
                                  have hRa := RM_an hS1 p338 t
                                  have hFa := hF1.tr (ANW.m p338)
                                  have hAn := p338
                                  refine m_aload_n h dX8_row_266 rfl rfl ?_
                                  refine m_get h fo_X8_64 (by decide) rfl rfl dX8_row_267 ?_
                                  refine m_iconst h dX8_row_270 ?_
                                  refine m_isub h dX8_row_271 ?_
                                  refine m_iret h hR rfl dX8_row_272 ?_
                                  refine Or.inr ⟨hgd, Or.inr ⟨hr12, ?_, hRa, hFa⟩⟩
                                  have : ua.1 25 1 = g_r g + 1 := hRa.1.2.1
                                  omega
                                · skip
                                  refine m_aload_n h dX8_row_230 rfl rfl ?_
                                  refine m_get h fo_X8_26 (by decide) rfl rfl dX8_row_231 ?_
                                  refine m_bipush h dX8_row_234 (by decide) ?_
                                  refine m_aload_n h dX8_row_236 rfl rfl ?_
                                  refine m_get h fo_X8_64 (by decide) rfl rfl dX8_row_237 ?_
                                  show M X G 9 u 240 [some (.ref (G.2.1 25)), some (.int (iI kd)), some (.int (iI a)), some (.int (iI b)), some (.int (iI c)), some (.int (iI R)), none, none, some (.int (iI (k : Int)))] [.int (iI (u.1 25 1)), .int (iI 8), .ref (G.2.1 31)]
                                  rw [e25r]
                                  show M X G 9 u 240 [some (.ref (G.2.1 25)), some (.int (iI kd)), some (.int (iI a)), some (.int (iI b)), some (.int (iI c)), some (.int (iI R)), none, none, some (.int (iI (k : Int)))] [.int (iI (g_r g)), .int (iI 8), .ref (G.2.1 31)]
                                  refine m_imul h dX8_row_240 ?_
                                  refine m_iload h dX8_row_241 rfl ?_
                                  refine m_iadd h dX8_row_243 ?_
                                  refine m_iconst h dX8_row_244 ?_
                                  refine m_iast h (ar_31 G) (by omega) (by omega) dX8_row_245 ?_
                                  refine m_iinc h dX8_row_246 rfl (by decide) rfl ?_
                                  refine m_goto h dX8_row_249 (tgt := 223) (by decide) ?_
                                  refine ih (k + 1) _ (by omega) (by omega) (rwF_w hw (by omega)) (fun x x0 x1 => ?_)
                                  by_cases e : x = (k : Int)
                                  · subst e; rw [wI_s]
                                  · rw [wI_n (by omega)]; exact hz x x0 (by omega)
                            exact lp223 100 0 _ (by omega) (by omega) (rwF_i (by rw [if_pos (by omega)]; exact (mN_nn (by have : isNm g a := hgd.2.2.1 (by omega); exact this.1)).symm) (by rw [if_neg (by omega)]; rfl) (by rw [if_neg (by omega)]; rfl)) (fun x q1 q2 => by omega)
                          · skip
                            refine m_iload h dX8_row_200 rfl ?_
                            refine m_goto h dX8_row_202 (tgt := 208) (by decide) ?_
                            refine m_iast h (ar_29 G) (by omega) (by omega) dX8_row_208 ?_
                            refine m_aload_n h dX8_row_209 rfl rfl ?_
                            refine m_get h fo_X8_23 (by decide) rfl rfl dX8_row_210 ?_
                            refine m_aload_n h dX8_row_213 rfl rfl ?_
                            refine m_get h fo_X8_64 (by decide) rfl rfl dX8_row_214 ?_
                            show M X G 9 (wI (wI (wI (wI v 28 (g_r g) kd) 29 (3 * (g_r g)) a) 29 ((3 * (g_r g)) + 1) (-1000)) 29 ((3 * (g_r g)) + 2) c) 217 [some (.ref (G.2.1 25)), some (.int (iI kd)), some (.int (iI a)), some (.int (iI b)), some (.int (iI c)), some (.int (iI R)), some (.int (iI ow)), some (.int (iI 1)), none] [.int (iI (v.1 25 1)), .ref (G.2.1 30)]
                            show M X G 9 (wI (wI (wI (wI v 28 (g_r g) kd) 29 (3 * (g_r g)) a) 29 ((3 * (g_r g)) + 1) (-1000)) 29 ((3 * (g_r g)) + 2) c) 217 [some (.ref (G.2.1 25)), some (.int (iI kd)), some (.int (iI a)), some (.int (iI b)), some (.int (iI c)), some (.int (iI R)), some (.int (iI ow)), some (.int (iI 1)), none] [.int (iI (v.1 25 1)), .ref (G.2.1 30)]
                            rw [s1]
                            show M X G 9 (wI (wI (wI (wI v 28 (g_r g) kd) 29 (3 * (g_r g)) a) 29 ((3 * (g_r g)) + 1) (-1000)) 29 ((3 * (g_r g)) + 2) c) 217 [some (.ref (G.2.1 25)), some (.int (iI kd)), some (.int (iI a)), some (.int (iI b)), some (.int (iI c)), some (.int (iI R)), some (.int (iI ow)), some (.int (iI 1)), none] [.int (iI (g_r g)), .ref (G.2.1 30)]
                            refine m_iload h dX8_row_217 rfl ?_
                            refine m_iast h (ar_30 G) (by omega) (by omega) dX8_row_219 ?_
                            refine m_iconst h dX8_row_220 ?_
                            refine m_istore h dX8_row_221 (by decide) rfl ?_
                            refine m_kill 6 ?_
                            refine m_kill 7 ?_
                            have lp223 : ∀ (fuel : Nat) (k : Nat) (u : Mem), k ≤ 8 → 20 - k < fuel → rwF v (g_r g) kd (if 1 ≤ NKs kd then a else -1) (if 2 ≤ NKs kd then b else -1) (if 3 ≤ NKs kd then c else -1) R u → (∀ x, 0 ≤ x → x < (k : Int) → u.1 31 (8 * g_r g + x) = 0) → M X G 9 u 223 [some (.ref (G.2.1 25)), some (.int (iI kd)), some (.int (iI a)), some (.int (iI b)), some (.int (iI c)), some (.int (iI R)), none, none, some (.int (iI (k : Int)))] [] := by
                              intro fuel
                              induction fuel with
                              | zero => intro k u hk8 hfu hw hz; exfalso; omega
                              | succ fuel ih =>
                                intro k u hk8 hfu hw hz
                                have e25r : u.1 25 1 = g_r g := by rw [hw.1 25 (by decide) (by decide) (by decide) (by decide)]; exact s1
                                refine m_iload h dX8_row_223 rfl ?_
                                refine m_bipush h dX8_row_225 (by decide) ?_
                                refine m_icmp_ge h dX8_row_227 (tgt := 252) (by decide) (by omega) (by omega) (fun c339 => ?_) (fun c339 => ?_)
                                · skip
                                  have hz8 : ∀ x, 0 ≤ x → x < 8 → u.1 31 (8 * g_r g + x) = 0 := fun x q1 q2 => hz x q1 (by omega)
                                  refine m_aload_n h dX8_row_252 rfl rfl ?_
                                  refine m_dup h dX8_row_253 rfl ?_
                                  refine m_get h fo_X8_64 (by decide) rfl rfl dX8_row_254 ?_
                                  show M X G 9 u 257 [some (.ref (G.2.1 25)), some (.int (iI kd)), some (.int (iI a)), some (.int (iI b)), some (.int (iI c)), some (.int (iI R)), none, none, some (.int (iI (k : Int)))] [.int (iI (u.1 25 1)), .ref (G.2.1 25)]
                                  rw [e25r]
                                  show M X G 9 u 257 [some (.ref (G.2.1 25)), some (.int (iI kd)), some (.int (iI a)), some (.int (iI b)), some (.int (iI c)), some (.int (iI R)), none, none, some (.int (iI (k : Int)))] [.int (iI (g_r g)), .ref (G.2.1 25)]
                                  refine m_iconst h dX8_row_257 ?_
                                  refine m_iadd h dX8_row_258 ?_
                                  refine m_putJ h fw_X8_64 (by decide) rfl (Nat.le_of_ble_eq_true rfl) (kz := 1) rfl rfl dX8_row_259 ?_
                                  have hS1 := rwF_s ⟨s0, s1, s2, s3⟩ hg hr12 hw hz8
                                  have hF1 : FrM v (wI u 25 1 ((g_r g) + 1)) := FrM.w ⟨fun i hi => hw.1 i (by omega) (by omega) (by omega) (by omega), hw.2.1⟩ (by omega)
                                  refine m_aload_n h dX8_row_262 rfl rfl ?_
                                  refine m_vV h (m_anew _ hG _ (by intro x x0 x1; exact hS1.2.2.1.z x x0 x1)) moX8_anew voX8_anew lk_X8_73 dX8_row_263 (by decide) (by decide) rfl rfl rfl (Nat.le_of_ble_eq_true rfl) (fun ua p342 => ?_)
                                  have hRa := RM_an hS1 p342 t
                                  have hFa := hF1.tr (ANW.m p342)
                                  have hAn := p342
                                  refine m_aload_n h dX8_row_266 rfl rfl ?_
                                  refine m_get h fo_X8_64 (by decide) rfl rfl dX8_row_267 ?_
                                  refine m_iconst h dX8_row_270 ?_
                                  refine m_isub h dX8_row_271 ?_
                                  refine m_iret h hR rfl dX8_row_272 ?_
                                  refine Or.inr ⟨hgd, Or.inr ⟨hr12, ?_, hRa, hFa⟩⟩
                                  have : ua.1 25 1 = g_r g + 1 := hRa.1.2.1
                                  omega
                                · skip
                                  refine m_aload_n h dX8_row_230 rfl rfl ?_
                                  refine m_get h fo_X8_26 (by decide) rfl rfl dX8_row_231 ?_
                                  refine m_bipush h dX8_row_234 (by decide) ?_
                                  refine m_aload_n h dX8_row_236 rfl rfl ?_
                                  refine m_get h fo_X8_64 (by decide) rfl rfl dX8_row_237 ?_
                                  show M X G 9 u 240 [some (.ref (G.2.1 25)), some (.int (iI kd)), some (.int (iI a)), some (.int (iI b)), some (.int (iI c)), some (.int (iI R)), none, none, some (.int (iI (k : Int)))] [.int (iI (u.1 25 1)), .int (iI 8), .ref (G.2.1 31)]
                                  rw [e25r]
                                  show M X G 9 u 240 [some (.ref (G.2.1 25)), some (.int (iI kd)), some (.int (iI a)), some (.int (iI b)), some (.int (iI c)), some (.int (iI R)), none, none, some (.int (iI (k : Int)))] [.int (iI (g_r g)), .int (iI 8), .ref (G.2.1 31)]
                                  refine m_imul h dX8_row_240 ?_
                                  refine m_iload h dX8_row_241 rfl ?_
                                  refine m_iadd h dX8_row_243 ?_
                                  refine m_iconst h dX8_row_244 ?_
                                  refine m_iast h (ar_31 G) (by omega) (by omega) dX8_row_245 ?_
                                  refine m_iinc h dX8_row_246 rfl (by decide) rfl ?_
                                  refine m_goto h dX8_row_249 (tgt := 223) (by decide) ?_
                                  refine ih (k + 1) _ (by omega) (by omega) (rwF_w hw (by omega)) (fun x x0 x1 => ?_)
                                  by_cases e : x = (k : Int)
                                  · subst e; rw [wI_s]
                                  · rw [wI_n (by omega)]; exact hz x x0 (by omega)
                            exact lp223 100 0 _ (by omega) (by omega) (rwF_i (by rw [if_pos (by omega)]; exact (mN_nn (by have : isNm g a := hgd.2.2.1 (by omega); exact this.1)).symm) (by rw [if_neg (by omega)]; rfl) (by rw [if_pos (by omega)]; exact (mN_nn (by have : isNm g c := (hgd.2.2.2.2 (by omega)).1; exact this.1)).symm)) (fun x q1 q2 => by omega)
                        · skip
                          refine m_iload_n h dX8_row_174 rfl rfl ?_
                          refine m_goto h dX8_row_175 (tgt := 181) (by decide) ?_
                          refine m_iast h (ar_29 G) (by omega) (by omega) dX8_row_181 ?_
                          refine m_aload_n h dX8_row_182 rfl rfl ?_
                          refine m_get h fo_X8_20 (by decide) rfl rfl dX8_row_183 ?_
                          refine m_iconst h dX8_row_186 ?_
                          refine m_aload_n h dX8_row_187 rfl rfl ?_
                          refine m_get h fo_X8_64 (by decide) rfl rfl dX8_row_188 ?_
                          show M X G 9 (wI (wI (wI v 28 (g_r g) kd) 29 (3 * (g_r g)) a) 29 ((3 * (g_r g)) + 1) b) 191 [some (.ref (G.2.1 25)), some (.int (iI kd)), some (.int (iI a)), some (.int (iI b)), some (.int (iI c)), some (.int (iI R)), some (.int (iI ow)), some (.int (iI 1)), none] [.int (iI (v.1 25 1)), .int (iI 3), .ref (G.2.1 29)]
                          show M X G 9 (wI (wI (wI v 28 (g_r g) kd) 29 (3 * (g_r g)) a) 29 ((3 * (g_r g)) + 1) b) 191 [some (.ref (G.2.1 25)), some (.int (iI kd)), some (.int (iI a)), some (.int (iI b)), some (.int (iI c)), some (.int (iI R)), some (.int (iI ow)), some (.int (iI 1)), none] [.int (iI (v.1 25 1)), .int (iI 3), .ref (G.2.1 29)]
                          rw [s1]
                          show M X G 9 (wI (wI (wI v 28 (g_r g) kd) 29 (3 * (g_r g)) a) 29 ((3 * (g_r g)) + 1) b) 191 [some (.ref (G.2.1 25)), some (.int (iI kd)), some (.int (iI a)), some (.int (iI b)), some (.int (iI c)), some (.int (iI R)), some (.int (iI ow)), some (.int (iI 1)), none] [.int (iI (g_r g)), .int (iI 3), .ref (G.2.1 29)]
                          refine m_imul h dX8_row_191 ?_
                          refine m_iconst h dX8_row_192 ?_
                          refine m_iadd h dX8_row_193 ?_
                          refine m_iload h dX8_row_194 rfl ?_
                          refine m_iconst h dX8_row_196 ?_
                          refine m_icmp_le h dX8_row_197 (tgt := 205) (by decide) (by omega) (by omega) (fun c343 => ?_) (fun c343 => ?_)
                          · skip
                            refine m_sipush h dX8_row_205 (by decide) ?_
                            refine m_iast h (ar_29 G) (by omega) (by omega) dX8_row_208 ?_
                            refine m_aload_n h dX8_row_209 rfl rfl ?_
                            refine m_get h fo_X8_23 (by decide) rfl rfl dX8_row_210 ?_
                            refine m_aload_n h dX8_row_213 rfl rfl ?_
                            refine m_get h fo_X8_64 (by decide) rfl rfl dX8_row_214 ?_
                            show M X G 9 (wI (wI (wI (wI v 28 (g_r g) kd) 29 (3 * (g_r g)) a) 29 ((3 * (g_r g)) + 1) b) 29 ((3 * (g_r g)) + 2) (-1000)) 217 [some (.ref (G.2.1 25)), some (.int (iI kd)), some (.int (iI a)), some (.int (iI b)), some (.int (iI c)), some (.int (iI R)), some (.int (iI ow)), some (.int (iI 1)), none] [.int (iI (v.1 25 1)), .ref (G.2.1 30)]
                            show M X G 9 (wI (wI (wI (wI v 28 (g_r g) kd) 29 (3 * (g_r g)) a) 29 ((3 * (g_r g)) + 1) b) 29 ((3 * (g_r g)) + 2) (-1000)) 217 [some (.ref (G.2.1 25)), some (.int (iI kd)), some (.int (iI a)), some (.int (iI b)), some (.int (iI c)), some (.int (iI R)), some (.int (iI ow)), some (.int (iI 1)), none] [.int (iI (v.1 25 1)), .ref (G.2.1 30)]
                            rw [s1]
                            show M X G 9 (wI (wI (wI (wI v 28 (g_r g) kd) 29 (3 * (g_r g)) a) 29 ((3 * (g_r g)) + 1) b) 29 ((3 * (g_r g)) + 2) (-1000)) 217 [some (.ref (G.2.1 25)), some (.int (iI kd)), some (.int (iI a)), some (.int (iI b)), some (.int (iI c)), some (.int (iI R)), some (.int (iI ow)), some (.int (iI 1)), none] [.int (iI (g_r g)), .ref (G.2.1 30)]
                            refine m_iload h dX8_row_217 rfl ?_
                            refine m_iast h (ar_30 G) (by omega) (by omega) dX8_row_219 ?_
                            refine m_iconst h dX8_row_220 ?_
                            refine m_istore h dX8_row_221 (by decide) rfl ?_
                            refine m_kill 6 ?_
                            refine m_kill 7 ?_
                            have lp223 : ∀ (fuel : Nat) (k : Nat) (u : Mem), k ≤ 8 → 20 - k < fuel → rwF v (g_r g) kd (if 1 ≤ NKs kd then a else -1) (if 2 ≤ NKs kd then b else -1) (if 3 ≤ NKs kd then c else -1) R u → (∀ x, 0 ≤ x → x < (k : Int) → u.1 31 (8 * g_r g + x) = 0) → M X G 9 u 223 [some (.ref (G.2.1 25)), some (.int (iI kd)), some (.int (iI a)), some (.int (iI b)), some (.int (iI c)), some (.int (iI R)), none, none, some (.int (iI (k : Int)))] [] := by
                              intro fuel
                              induction fuel with
                              | zero => intro k u hk8 hfu hw hz; exfalso; omega
                              | succ fuel ih =>
                                intro k u hk8 hfu hw hz
                                have e25r : u.1 25 1 = g_r g := by rw [hw.1 25 (by decide) (by decide) (by decide) (by decide)]; exact s1
                                refine m_iload h dX8_row_223 rfl ?_
                                refine m_bipush h dX8_row_225 (by decide) ?_
                                refine m_icmp_ge h dX8_row_227 (tgt := 252) (by decide) (by omega) (by omega) (fun c344 => ?_) (fun c344 => ?_)
                                · skip
                                  have hz8 : ∀ x, 0 ≤ x → x < 8 → u.1 31 (8 * g_r g + x) = 0 := fun x q1 q2 => hz x q1 (by omega)
                                  refine m_aload_n h dX8_row_252 rfl rfl ?_
                                  refine m_dup h dX8_row_253 rfl ?_
                                  refine m_get h fo_X8_64 (by decide) rfl rfl dX8_row_254 ?_
                                  show M X G 9 u 257 [some (.ref (G.2.1 25)), some (.int (iI kd)), some (.int (iI a)), some (.int (iI b)), some (.int (iI c)), some (.int (iI R)), none, none, some (.int (iI (k : Int)))] [.int (iI (u.1 25 1)), .ref (G.2.1 25)]
                                  rw [e25r]
                                  show M X G 9 u 257 [some (.ref (G.2.1 25)), some (.int (iI kd)), some (.int (iI a)), some (.int (iI b)), some (.int (iI c)), some (.int (iI R)), none, none, some (.int (iI (k : Int)))] [.int (iI (g_r g)), .ref (G.2.1 25)]
                                  refine m_iconst h dX8_row_257 ?_
                                  refine m_iadd h dX8_row_258 ?_
                                  refine m_putJ h fw_X8_64 (by decide) rfl (Nat.le_of_ble_eq_true rfl) (kz := 1) rfl rfl dX8_row_259 ?_
                                  have hS1 := rwF_s ⟨s0, s1, s2, s3⟩ hg hr12 hw hz8
                                  have hF1 : FrM v (wI u 25 1 ((g_r g) + 1)) := FrM.w ⟨fun i hi => hw.1 i (by omega) (by omega) (by omega) (by omega), hw.2.1⟩ (by omega)
                                  refine m_aload_n h dX8_row_262 rfl rfl ?_
                                  refine m_vV h (m_anew _ hG _ (by intro x x0 x1; exact hS1.2.2.1.z x x0 x1)) moX8_anew voX8_anew lk_X8_73 dX8_row_263 (by decide) (by decide) rfl rfl rfl (Nat.le_of_ble_eq_true rfl) (fun ua p347 => ?_)
                                  have hRa := RM_an hS1 p347 t
                                  have hFa := hF1.tr (ANW.m p347)
                                  have hAn := p347
                                  refine m_aload_n h dX8_row_266 rfl rfl ?_
                                  refine m_get h fo_X8_64 (by decide) rfl rfl dX8_row_267 ?_
                                  refine m_iconst h dX8_row_270 ?_
                                  refine m_isub h dX8_row_271 ?_
                                  refine m_iret h hR rfl dX8_row_272 ?_
                                  refine Or.inr ⟨hgd, Or.inr ⟨hr12, ?_, hRa, hFa⟩⟩
                                  have : ua.1 25 1 = g_r g + 1 := hRa.1.2.1
                                  omega
                                · skip
                                  refine m_aload_n h dX8_row_230 rfl rfl ?_
                                  refine m_get h fo_X8_26 (by decide) rfl rfl dX8_row_231 ?_
                                  refine m_bipush h dX8_row_234 (by decide) ?_
                                  refine m_aload_n h dX8_row_236 rfl rfl ?_
                                  refine m_get h fo_X8_64 (by decide) rfl rfl dX8_row_237 ?_
                                  show M X G 9 u 240 [some (.ref (G.2.1 25)), some (.int (iI kd)), some (.int (iI a)), some (.int (iI b)), some (.int (iI c)), some (.int (iI R)), none, none, some (.int (iI (k : Int)))] [.int (iI (u.1 25 1)), .int (iI 8), .ref (G.2.1 31)]
                                  rw [e25r]
                                  show M X G 9 u 240 [some (.ref (G.2.1 25)), some (.int (iI kd)), some (.int (iI a)), some (.int (iI b)), some (.int (iI c)), some (.int (iI R)), none, none, some (.int (iI (k : Int)))] [.int (iI (g_r g)), .int (iI 8), .ref (G.2.1 31)]
                                  refine m_imul h dX8_row_240 ?_
                                  refine m_iload h dX8_row_241 rfl ?_
                                  refine m_iadd h dX8_row_243 ?_
                                  refine m_iconst h dX8_row_244 ?_
                                  refine m_iast h (ar_31 G) (by omega) (by omega) dX8_row_245 ?_
                                  refine m_iinc h dX8_row_246 rfl (by decide) rfl ?_
                                  refine m_goto h dX8_row_249 (tgt := 223) (by decide) ?_
                                  refine ih (k + 1) _ (by omega) (by omega) (rwF_w hw (by omega)) (fun x x0 x1 => ?_)
                                  by_cases e : x = (k : Int)
                                  · subst e; rw [wI_s]
                                  · rw [wI_n (by omega)]; exact hz x x0 (by omega)
                            exact lp223 100 0 _ (by omega) (by omega) (rwF_i (by rw [if_pos (by omega)]; exact (mN_nn (by have : isNm g a := hgd.2.2.1 (by omega); exact this.1)).symm) (by rw [if_pos (by omega)]; exact (mN_nn (by have : isNm g b := (hgd.2.2.2.1 (by omega)).1; exact this.1)).symm) (by rw [if_neg (by omega)]; rfl)) (fun x q1 q2 => by omega)
                          · skip
                            refine m_iload h dX8_row_200 rfl ?_
                            refine m_goto h dX8_row_202 (tgt := 208) (by decide) ?_
                            refine m_iast h (ar_29 G) (by omega) (by omega) dX8_row_208 ?_
                            refine m_aload_n h dX8_row_209 rfl rfl ?_
                            refine m_get h fo_X8_23 (by decide) rfl rfl dX8_row_210 ?_
                            refine m_aload_n h dX8_row_213 rfl rfl ?_
                            refine m_get h fo_X8_64 (by decide) rfl rfl dX8_row_214 ?_
                            show M X G 9 (wI (wI (wI (wI v 28 (g_r g) kd) 29 (3 * (g_r g)) a) 29 ((3 * (g_r g)) + 1) b) 29 ((3 * (g_r g)) + 2) c) 217 [some (.ref (G.2.1 25)), some (.int (iI kd)), some (.int (iI a)), some (.int (iI b)), some (.int (iI c)), some (.int (iI R)), some (.int (iI ow)), some (.int (iI 1)), none] [.int (iI (v.1 25 1)), .ref (G.2.1 30)]
                            show M X G 9 (wI (wI (wI (wI v 28 (g_r g) kd) 29 (3 * (g_r g)) a) 29 ((3 * (g_r g)) + 1) b) 29 ((3 * (g_r g)) + 2) c) 217 [some (.ref (G.2.1 25)), some (.int (iI kd)), some (.int (iI a)), some (.int (iI b)), some (.int (iI c)), some (.int (iI R)), some (.int (iI ow)), some (.int (iI 1)), none] [.int (iI (v.1 25 1)), .ref (G.2.1 30)]
                            rw [s1]
                            show M X G 9 (wI (wI (wI (wI v 28 (g_r g) kd) 29 (3 * (g_r g)) a) 29 ((3 * (g_r g)) + 1) b) 29 ((3 * (g_r g)) + 2) c) 217 [some (.ref (G.2.1 25)), some (.int (iI kd)), some (.int (iI a)), some (.int (iI b)), some (.int (iI c)), some (.int (iI R)), some (.int (iI ow)), some (.int (iI 1)), none] [.int (iI (g_r g)), .ref (G.2.1 30)]
                            refine m_iload h dX8_row_217 rfl ?_
                            refine m_iast h (ar_30 G) (by omega) (by omega) dX8_row_219 ?_
                            refine m_iconst h dX8_row_220 ?_
                            refine m_istore h dX8_row_221 (by decide) rfl ?_
                            refine m_kill 6 ?_
                            refine m_kill 7 ?_
                            have lp223 : ∀ (fuel : Nat) (k : Nat) (u : Mem), k ≤ 8 → 20 - k < fuel → rwF v (g_r g) kd (if 1 ≤ NKs kd then a else -1) (if 2 ≤ NKs kd then b else -1) (if 3 ≤ NKs kd then c else -1) R u → (∀ x, 0 ≤ x → x < (k : Int) → u.1 31 (8 * g_r g + x) = 0) → M X G 9 u 223 [some (.ref (G.2.1 25)), some (.int (iI kd)), some (.int (iI a)), some (.int (iI b)), some (.int (iI c)), some (.int (iI R)), none, none, some (.int (iI (k : Int)))] [] := by
                              intro fuel
                              induction fuel with
                              | zero => intro k u hk8 hfu hw hz; exfalso; omega
                              | succ fuel ih =>
                                intro k u hk8 hfu hw hz
                                have e25r : u.1 25 1 = g_r g := by rw [hw.1 25 (by decide) (by decide) (by decide) (by decide)]; exact s1
                                refine m_iload h dX8_row_223 rfl ?_
                                refine m_bipush h dX8_row_225 (by decide) ?_
                                refine m_icmp_ge h dX8_row_227 (tgt := 252) (by decide) (by omega) (by omega) (fun c348 => ?_) (fun c348 => ?_)
                                · skip
                                  have hz8 : ∀ x, 0 ≤ x → x < 8 → u.1 31 (8 * g_r g + x) = 0 := fun x q1 q2 => hz x q1 (by omega)
                                  refine m_aload_n h dX8_row_252 rfl rfl ?_
                                  refine m_dup h dX8_row_253 rfl ?_
                                  refine m_get h fo_X8_64 (by decide) rfl rfl dX8_row_254 ?_
                                  show M X G 9 u 257 [some (.ref (G.2.1 25)), some (.int (iI kd)), some (.int (iI a)), some (.int (iI b)), some (.int (iI c)), some (.int (iI R)), none, none, some (.int (iI (k : Int)))] [.int (iI (u.1 25 1)), .ref (G.2.1 25)]
                                  rw [e25r]
                                  show M X G 9 u 257 [some (.ref (G.2.1 25)), some (.int (iI kd)), some (.int (iI a)), some (.int (iI b)), some (.int (iI c)), some (.int (iI R)), none, none, some (.int (iI (k : Int)))] [.int (iI (g_r g)), .ref (G.2.1 25)]
                                  refine m_iconst h dX8_row_257 ?_
                                  refine m_iadd h dX8_row_258 ?_
                                  refine m_putJ h fw_X8_64 (by decide) rfl (Nat.le_of_ble_eq_true rfl) (kz := 1) rfl rfl dX8_row_259 ?_
                                  have hS1 := rwF_s ⟨s0, s1, s2, s3⟩ hg hr12 hw hz8
                                  have hF1 : FrM v (wI u 25 1 ((g_r g) + 1)) := FrM.w ⟨fun i hi => hw.1 i (by omega) (by omega) (by omega) (by omega), hw.2.1⟩ (by omega)
                                  refine m_aload_n h dX8_row_262 rfl rfl ?_
                                  refine m_vV h (m_anew _ hG _ (by intro x x0 x1; exact hS1.2.2.1.z x x0 x1)) moX8_anew voX8_anew lk_X8_73 dX8_row_263 (by decide) (by decide) rfl rfl rfl (Nat.le_of_ble_eq_true rfl) (fun ua p351 => ?_)
                                  have hRa := RM_an hS1 p351 t
                                  have hFa := hF1.tr (ANW.m p351)
                                  have hAn := p351
                                  refine m_aload_n h dX8_row_266 rfl rfl ?_
                                  refine m_get h fo_X8_64 (by decide) rfl rfl dX8_row_267 ?_
                                  refine m_iconst h dX8_row_270 ?_
                                  refine m_isub h dX8_row_271 ?_
                                  refine m_iret h hR rfl dX8_row_272 ?_
                                  refine Or.inr ⟨hgd, Or.inr ⟨hr12, ?_, hRa, hFa⟩⟩
                                  have : ua.1 25 1 = g_r g + 1 := hRa.1.2.1
                                  omega
                                · skip
                                  refine m_aload_n h dX8_row_230 rfl rfl ?_
                                  refine m_get h fo_X8_26 (by decide) rfl rfl dX8_row_231 ?_
                                  refine m_bipush h dX8_row_234 (by decide) ?_
                                  refine m_aload_n h dX8_row_236 rfl rfl ?_
                                  refine m_get h fo_X8_64 (by decide) rfl rfl dX8_row_237 ?_
                                  show M X G 9 u 240 [some (.ref (G.2.1 25)), some (.int (iI kd)), some (.int (iI a)), some (.int (iI b)), some (.int (iI c)), some (.int (iI R)), none, none, some (.int (iI (k : Int)))] [.int (iI (u.1 25 1)), .int (iI 8), .ref (G.2.1 31)]
                                  rw [e25r]
                                  show M X G 9 u 240 [some (.ref (G.2.1 25)), some (.int (iI kd)), some (.int (iI a)), some (.int (iI b)), some (.int (iI c)), some (.int (iI R)), none, none, some (.int (iI (k : Int)))] [.int (iI (g_r g)), .int (iI 8), .ref (G.2.1 31)]
                                  refine m_imul h dX8_row_240 ?_
                                  refine m_iload h dX8_row_241 rfl ?_
                                  refine m_iadd h dX8_row_243 ?_
                                  refine m_iconst h dX8_row_244 ?_
                                  refine m_iast h (ar_31 G) (by omega) (by omega) dX8_row_245 ?_
                                  refine m_iinc h dX8_row_246 rfl (by decide) rfl ?_
                                  refine m_goto h dX8_row_249 (tgt := 223) (by decide) ?_
                                  refine ih (k + 1) _ (by omega) (by omega) (rwF_w hw (by omega)) (fun x x0 x1 => ?_)
                                  by_cases e : x = (k : Int)
                                  · subst e; rw [wI_s]
                                  · rw [wI_n (by omega)]; exact hz x x0 (by omega)
                            exact lp223 100 0 _ (by omega) (by omega) (rwF_i (by rw [if_pos (by omega)]; exact (mN_nn (by have : isNm g a := hgd.2.2.1 (by omega); exact this.1)).symm) (by rw [if_pos (by omega)]; exact (mN_nn (by have : isNm g b := (hgd.2.2.2.1 (by omega)).1; exact this.1)).symm) (by rw [if_pos (by omega)]; exact (mN_nn (by have : isNm g c := (hgd.2.2.2.2 (by omega)).1; exact this.1)).symm)) (fun x q1 q2 => by omega)
                    · skip
                      refine m_sipush h dX8_row_119 (by decide) ?_
                      refine m_iret h hR rfl dX8_row_122 ?_
                      exact Or.inr ⟨⟨h1, h2, hgd3⟩, Or.inl ⟨by omega, rfl, rfl⟩⟩
                  · skip
                    omega
                · skip
                  refine m_aload_n h dX8_row_73 rfl rfl ?_
                  refine m_iload h dX8_row_74 rfl ?_
                  refine m_vI h (m_isName _ hG _ c hc (by omega)) moX8_isName voX8_isName lk_X8_76 dX8_row_76 (by decide) (by decide) rfl rfl rfl (Nat.le_of_ble_eq_true rfl) (fun r352 u353 p354 => ?_)
                  obtain ⟨hu9, hbc⟩ := p354
                  rw [hu9]
                  rw [s0] at hbc
                  have hbc : bz r352 (isNm g c) := hbc
                  have hbci := hbc.in
                  refine m_if_eq h dX8_row_79 (tgt := 98) (by decide) (by omega) (fun c355 => ?_) (fun c355 => ?_)
                  · skip
                    have hgd4 : ¬ ((1 ≤ NKs kd → isNm g a) ∧ (2 ≤ NKs kd → isNm g b ∧ b ≠ a) ∧ (3 ≤ NKs kd → isNm g c ∧ c ≠ a ∧ c ≠ b)) := fun q => by
                      first
                        | exact absurd (q.2.2 (by omega)).2.2 (by omega)
                        | exact absurd (q.2.2 (by omega)).2.1 (by omega)
                        | exact hbc.no (by omega) (q.2.2 (by omega)).1
                        | exact absurd (q.2.1 (by omega)).2 (by omega)
                        | exact hbb.no (by omega) (q.2.1 (by omega)).1
                        | exact hba.no (by omega) (q.1 (by omega))
                    refine m_iconst h dX8_row_98 ?_
                    refine m_istore h dX8_row_99 (by decide) rfl ?_
                    refine m_iload h dX8_row_101 rfl ?_
                    refine m_if_ne h dX8_row_103 (tgt := 110) (by decide) (by omega) (fun c356 => ?_) (fun c356 => ?_)
                    · skip
                      omega
                    · skip
                      refine m_sipush h dX8_row_106 (by decide) ?_
                      refine m_iret h hR rfl dX8_row_109 ?_
                      refine Or.inl ⟨fun q => ?_, rfl, rfl⟩
                      exact hgd4 q.2.2
                  · skip
                    refine m_iload h dX8_row_82 rfl ?_
                    refine m_iload_n h dX8_row_84 rfl rfl ?_
                    refine m_icmp_eq h dX8_row_85 (tgt := 98) (by decide) (by omega) (by omega) (fun c357 => ?_) (fun c357 => ?_)
                    · skip
                      have hgd4 : ¬ ((1 ≤ NKs kd → isNm g a) ∧ (2 ≤ NKs kd → isNm g b ∧ b ≠ a) ∧ (3 ≤ NKs kd → isNm g c ∧ c ≠ a ∧ c ≠ b)) := fun q => by
                        first
                          | exact absurd (q.2.2 (by omega)).2.2 (by omega)
                          | exact absurd (q.2.2 (by omega)).2.1 (by omega)
                          | exact hbc.no (by omega) (q.2.2 (by omega)).1
                          | exact absurd (q.2.1 (by omega)).2 (by omega)
                          | exact hbb.no (by omega) (q.2.1 (by omega)).1
                          | exact hba.no (by omega) (q.1 (by omega))
                      refine m_iconst h dX8_row_98 ?_
                      refine m_istore h dX8_row_99 (by decide) rfl ?_
                      refine m_iload h dX8_row_101 rfl ?_
                      refine m_if_ne h dX8_row_103 (tgt := 110) (by decide) (by omega) (fun c358 => ?_) (fun c358 => ?_)
                      · skip
                        omega
                      · skip
                        refine m_sipush h dX8_row_106 (by decide) ?_
                        refine m_iret h hR rfl dX8_row_109 ?_
                        refine Or.inl ⟨fun q => ?_, rfl, rfl⟩
                        exact hgd4 q.2.2
                    · skip
                      refine m_iload h dX8_row_88 rfl ?_
                      refine m_iload_n h dX8_row_90 rfl rfl ?_
                      refine m_icmp_eq h dX8_row_91 (tgt := 98) (by decide) (by omega) (by omega) (fun c359 => ?_) (fun c359 => ?_)
                      · skip
                        have hgd4 : ¬ ((1 ≤ NKs kd → isNm g a) ∧ (2 ≤ NKs kd → isNm g b ∧ b ≠ a) ∧ (3 ≤ NKs kd → isNm g c ∧ c ≠ a ∧ c ≠ b)) := fun q => by
                          first
                            | exact absurd (q.2.2 (by omega)).2.2 (by omega)
                            | exact absurd (q.2.2 (by omega)).2.1 (by omega)
                            | exact hbc.no (by omega) (q.2.2 (by omega)).1
                            | exact absurd (q.2.1 (by omega)).2 (by omega)
                            | exact hbb.no (by omega) (q.2.1 (by omega)).1
                            | exact hba.no (by omega) (q.1 (by omega))
                        refine m_iconst h dX8_row_98 ?_
                        refine m_istore h dX8_row_99 (by decide) rfl ?_
                        refine m_iload h dX8_row_101 rfl ?_
                        refine m_if_ne h dX8_row_103 (tgt := 110) (by decide) (by omega) (fun c360 => ?_) (fun c360 => ?_)
                        · skip
                          omega
                        · skip
                          refine m_sipush h dX8_row_106 (by decide) ?_
                          refine m_iret h hR rfl dX8_row_109 ?_
                          refine Or.inl ⟨fun q => ?_, rfl, rfl⟩
                          exact hgd4 q.2.2
                      · skip
                        have hgd3 : ((1 ≤ NKs kd → isNm g a) ∧ (2 ≤ NKs kd → isNm g b ∧ b ≠ a) ∧ (3 ≤ NKs kd → isNm g c ∧ c ≠ a ∧ c ≠ b)) := by
                          refine ⟨fun q => ?_, fun q => ?_, fun q => ?_⟩
                          · first | omega | exact hba.yes (by omega)
                          · first | omega | exact ⟨hbb.yes (by omega), by omega⟩
                          · first | omega | exact ⟨hbc.yes (by omega), by omega, by omega⟩
                        refine m_iconst h dX8_row_94 ?_
                        refine m_goto h dX8_row_95 (tgt := 99) (by decide) ?_
                        refine m_istore h dX8_row_99 (by decide) rfl ?_
                        refine m_iload h dX8_row_101 rfl ?_
                        refine m_if_ne h dX8_row_103 (tgt := 110) (by decide) (by omega) (fun c361 => ?_) (fun c361 => ?_)
                        · skip
                          refine m_aload_n h dX8_row_110 rfl rfl ?_
                          refine m_get h fo_X8_64 (by decide) rfl rfl dX8_row_111 ?_
                          refine m_bipush h dX8_row_114 (by decide) ?_
                          refine m_icmp_ne h dX8_row_116 (tgt := 123) (by decide) (by omega) (by omega) (fun c362 => ?_) (fun c362 => ?_)
                          · skip
                            have hgd : RwGood g kd a b c R := ⟨h1, h2, hgd3⟩
                            have hr12 : g_r g < 12 := by omega
                            have hNr := nks_rg kd
                            refine m_aload_n h dX8_row_123 rfl rfl ?_
                            refine m_get h fo_X8_16 (by decide) rfl rfl dX8_row_124 ?_
                            refine m_aload_n h dX8_row_127 rfl rfl ?_
                            refine m_get h fo_X8_64 (by decide) rfl rfl dX8_row_128 ?_
                            show M X G 9 v 131 [some (.ref (G.2.1 25)), some (.int (iI kd)), some (.int (iI a)), some (.int (iI b)), some (.int (iI c)), some (.int (iI R)), some (.int (iI ow)), some (.int (iI 1)), none] [.int (iI (v.1 25 1)), .ref (G.2.1 28)]
                            rw [s1]
                            show M X G 9 v 131 [some (.ref (G.2.1 25)), some (.int (iI kd)), some (.int (iI a)), some (.int (iI b)), some (.int (iI c)), some (.int (iI R)), some (.int (iI ow)), some (.int (iI 1)), none] [.int (iI (g_r g)), .ref (G.2.1 28)]
                            refine m_iload_n h dX8_row_131 rfl rfl ?_
                            refine m_iast h (ar_28 G) (by omega) (by omega) dX8_row_132 ?_
                            refine m_aload_n h dX8_row_133 rfl rfl ?_
                            refine m_get h fo_X8_20 (by decide) rfl rfl dX8_row_134 ?_
                            refine m_iconst h dX8_row_137 ?_
                            refine m_aload_n h dX8_row_138 rfl rfl ?_
                            refine m_get h fo_X8_64 (by decide) rfl rfl dX8_row_139 ?_
                            show M X G 9 (wI v 28 (g_r g) kd) 142 [some (.ref (G.2.1 25)), some (.int (iI kd)), some (.int (iI a)), some (.int (iI b)), some (.int (iI c)), some (.int (iI R)), some (.int (iI ow)), some (.int (iI 1)), none] [.int (iI (v.1 25 1)), .int (iI 3), .ref (G.2.1 29)]
                            show M X G 9 (wI v 28 (g_r g) kd) 142 [some (.ref (G.2.1 25)), some (.int (iI kd)), some (.int (iI a)), some (.int (iI b)), some (.int (iI c)), some (.int (iI R)), some (.int (iI ow)), some (.int (iI 1)), none] [.int (iI (v.1 25 1)), .int (iI 3), .ref (G.2.1 29)]
                            rw [s1]
                            show M X G 9 (wI v 28 (g_r g) kd) 142 [some (.ref (G.2.1 25)), some (.int (iI kd)), some (.int (iI a)), some (.int (iI b)), some (.int (iI c)), some (.int (iI R)), some (.int (iI ow)), some (.int (iI 1)), none] [.int (iI (g_r g)), .int (iI 3), .ref (G.2.1 29)]
                            refine m_imul h dX8_row_142 ?_
                            refine m_iload h dX8_row_143 rfl ?_
                            refine m_if_le h dX8_row_145 (tgt := 152) (by decide) (by omega) (fun c363 => ?_) (fun c363 => ?_)
                            · skip
                              refine m_sipush h dX8_row_152 (by decide) ?_
                              refine m_iast h (ar_29 G) (by omega) (by omega) dX8_row_155 ?_
                              refine m_aload_n h dX8_row_156 rfl rfl ?_
                              refine m_get h fo_X8_20 (by decide) rfl rfl dX8_row_157 ?_
                              refine m_iconst h dX8_row_160 ?_
                              refine m_aload_n h dX8_row_161 rfl rfl ?_
                              refine m_get h fo_X8_64 (by decide) rfl rfl dX8_row_162 ?_
                              show M X G 9 (wI (wI v 28 (g_r g) kd) 29 (3 * (g_r g)) (-1000)) 165 [some (.ref (G.2.1 25)), some (.int (iI kd)), some (.int (iI a)), some (.int (iI b)), some (.int (iI c)), some (.int (iI R)), some (.int (iI ow)), some (.int (iI 1)), none] [.int (iI (v.1 25 1)), .int (iI 3), .ref (G.2.1 29)]
                              show M X G 9 (wI (wI v 28 (g_r g) kd) 29 (3 * (g_r g)) (-1000)) 165 [some (.ref (G.2.1 25)), some (.int (iI kd)), some (.int (iI a)), some (.int (iI b)), some (.int (iI c)), some (.int (iI R)), some (.int (iI ow)), some (.int (iI 1)), none] [.int (iI (v.1 25 1)), .int (iI 3), .ref (G.2.1 29)]
                              rw [s1]
                              show M X G 9 (wI (wI v 28 (g_r g) kd) 29 (3 * (g_r g)) (-1000)) 165 [some (.ref (G.2.1 25)), some (.int (iI kd)), some (.int (iI a)), some (.int (iI b)), some (.int (iI c)), some (.int (iI R)), some (.int (iI ow)), some (.int (iI 1)), none] [.int (iI (g_r g)), .int (iI 3), .ref (G.2.1 29)]
                              refine m_imul h dX8_row_165 ?_
                              refine m_iconst h dX8_row_166 ?_
                              refine m_iadd h dX8_row_167 ?_
                              refine m_iload h dX8_row_168 rfl ?_
                              refine m_iconst h dX8_row_170 ?_
                              refine m_icmp_le h dX8_row_171 (tgt := 178) (by decide) (by omega) (by omega) (fun c364 => ?_) (fun c364 => ?_)
                              · skip
                                refine m_sipush h dX8_row_178 (by decide) ?_
                                refine m_iast h (ar_29 G) (by omega) (by omega) dX8_row_181 ?_
                                refine m_aload_n h dX8_row_182 rfl rfl ?_
                                refine m_get h fo_X8_20 (by decide) rfl rfl dX8_row_183 ?_
                                refine m_iconst h dX8_row_186 ?_
                                refine m_aload_n h dX8_row_187 rfl rfl ?_
                                refine m_get h fo_X8_64 (by decide) rfl rfl dX8_row_188 ?_
                                show M X G 9 (wI (wI (wI v 28 (g_r g) kd) 29 (3 * (g_r g)) (-1000)) 29 ((3 * (g_r g)) + 1) (-1000)) 191 [some (.ref (G.2.1 25)), some (.int (iI kd)), some (.int (iI a)), some (.int (iI b)), some (.int (iI c)), some (.int (iI R)), some (.int (iI ow)), some (.int (iI 1)), none] [.int (iI (v.1 25 1)), .int (iI 3), .ref (G.2.1 29)]
                                show M X G 9 (wI (wI (wI v 28 (g_r g) kd) 29 (3 * (g_r g)) (-1000)) 29 ((3 * (g_r g)) + 1) (-1000)) 191 [some (.ref (G.2.1 25)), some (.int (iI kd)), some (.int (iI a)), some (.int (iI b)), some (.int (iI c)), some (.int (iI R)), some (.int (iI ow)), some (.int (iI 1)), none] [.int (iI (v.1 25 1)), .int (iI 3), .ref (G.2.1 29)]
                                rw [s1]
                                show M X G 9 (wI (wI (wI v 28 (g_r g) kd) 29 (3 * (g_r g)) (-1000)) 29 ((3 * (g_r g)) + 1) (-1000)) 191 [some (.ref (G.2.1 25)), some (.int (iI kd)), some (.int (iI a)), some (.int (iI b)), some (.int (iI c)), some (.int (iI R)), some (.int (iI ow)), some (.int (iI 1)), none] [.int (iI (g_r g)), .int (iI 3), .ref (G.2.1 29)]
                                refine m_imul h dX8_row_191 ?_
                                refine m_iconst h dX8_row_192 ?_
                                refine m_iadd h dX8_row_193 ?_
                                refine m_iload h dX8_row_194 rfl ?_
                                refine m_iconst h dX8_row_196 ?_
                                refine m_icmp_le h dX8_row_197 (tgt := 205) (by decide) (by omega) (by omega) (fun c365 => ?_) (fun c365 => ?_)
                                · skip
                                  refine m_sipush h dX8_row_205 (by decide) ?_
                                  refine m_iast h (ar_29 G) (by omega) (by omega) dX8_row_208 ?_
                                  refine m_aload_n h dX8_row_209 rfl rfl ?_
                                  refine m_get h fo_X8_23 (by decide) rfl rfl dX8_row_210 ?_
                                  refine m_aload_n h dX8_row_213 rfl rfl ?_
                                  refine m_get h fo_X8_64 (by decide) rfl rfl dX8_row_214 ?_
                                  show M X G 9 (wI (wI (wI (wI v 28 (g_r g) kd) 29 (3 * (g_r g)) (-1000)) 29 ((3 * (g_r g)) + 1) (-1000)) 29 ((3 * (g_r g)) + 2) (-1000)) 217 [some (.ref (G.2.1 25)), some (.int (iI kd)), some (.int (iI a)), some (.int (iI b)), some (.int (iI c)), some (.int (iI R)), some (.int (iI ow)), some (.int (iI 1)), none] [.int (iI (v.1 25 1)), .ref (G.2.1 30)]
                                  show M X G 9 (wI (wI (wI (wI v 28 (g_r g) kd) 29 (3 * (g_r g)) (-1000)) 29 ((3 * (g_r g)) + 1) (-1000)) 29 ((3 * (g_r g)) + 2) (-1000)) 217 [some (.ref (G.2.1 25)), some (.int (iI kd)), some (.int (iI a)), some (.int (iI b)), some (.int (iI c)), some (.int (iI R)), some (.int (iI ow)), some (.int (iI 1)), none] [.int (iI (v.1 25 1)), .ref (G.2.1 30)]
                                  rw [s1]
                                  show M X G 9 (wI (wI (wI (wI v 28 (g_r g) kd) 29 (3 * (g_r g)) (-1000)) 29 ((3 * (g_r g)) + 1) (-1000)) 29 ((3 * (g_r g)) + 2) (-1000)) 217 [some (.ref (G.2.1 25)), some (.int (iI kd)), some (.int (iI a)), some (.int (iI b)), some (.int (iI c)), some (.int (iI R)), some (.int (iI ow)), some (.int (iI 1)), none] [.int (iI (g_r g)), .ref (G.2.1 30)]
                                  refine m_iload h dX8_row_217 rfl ?_
                                  refine m_iast h (ar_30 G) (by omega) (by omega) dX8_row_219 ?_
                                  refine m_iconst h dX8_row_220 ?_
                                  refine m_istore h dX8_row_221 (by decide) rfl ?_
                                  refine m_kill 6 ?_
                                  refine m_kill 7 ?_
                                  have lp223 : ∀ (fuel : Nat) (k : Nat) (u : Mem), k ≤ 8 → 20 - k < fuel → rwF v (g_r g) kd (if 1 ≤ NKs kd then a else -1) (if 2 ≤ NKs kd then b else -1) (if 3 ≤ NKs kd then c else -1) R u → (∀ x, 0 ≤ x → x < (k : Int) → u.1 31 (8 * g_r g + x) = 0) → M X G 9 u 223 [some (.ref (G.2.1 25)), some (.int (iI kd)), some (.int (iI a)), some (.int (iI b)), some (.int (iI c)), some (.int (iI R)), none, none, some (.int (iI (k : Int)))] [] := by
                                    intro fuel
                                    induction fuel with
                                    | zero => intro k u hk8 hfu hw hz; exfalso; omega
                                    | succ fuel ih =>
                                      intro k u hk8 hfu hw hz
                                      have e25r : u.1 25 1 = g_r g := by rw [hw.1 25 (by decide) (by decide) (by decide) (by decide)]; exact s1
                                      refine m_iload h dX8_row_223 rfl ?_
                                      refine m_bipush h dX8_row_225 (by decide) ?_
                                      refine m_icmp_ge h dX8_row_227 (tgt := 252) (by decide) (by omega) (by omega) (fun c366 => ?_) (fun c366 => ?_)
                                      · skip
                                        have hz8 : ∀ x, 0 ≤ x → x < 8 → u.1 31 (8 * g_r g + x) = 0 := fun x q1 q2 => hz x q1 (by omega)
                                        refine m_aload_n h dX8_row_252 rfl rfl ?_
                                        refine m_dup h dX8_row_253 rfl ?_
                                        refine m_get h fo_X8_64 (by decide) rfl rfl dX8_row_254 ?_
                                        show M X G 9 u 257 [some (.ref (G.2.1 25)), some (.int (iI kd)), some (.int (iI a)), some (.int (iI b)), some (.int (iI c)), some (.int (iI R)), none, none, some (.int (iI (k : Int)))] [.int (iI (u.1 25 1)), .ref (G.2.1 25)]
                                        rw [e25r]
                                        show M X G 9 u 257 [some (.ref (G.2.1 25)), some (.int (iI kd)), some (.int (iI a)), some (.int (iI b)), some (.int (iI c)), some (.int (iI R)), none, none, some (.int (iI (k : Int)))] [.int (iI (g_r g)), .ref (G.2.1 25)]
                                        refine m_iconst h dX8_row_257 ?_
                                        refine m_iadd h dX8_row_258 ?_
                                        refine m_putJ h fw_X8_64 (by decide) rfl (Nat.le_of_ble_eq_true rfl) (kz := 1) rfl rfl dX8_row_259 ?_
                                        have hS1 := rwF_s ⟨s0, s1, s2, s3⟩ hg hr12 hw hz8
                                        have hF1 : FrM v (wI u 25 1 ((g_r g) + 1)) := FrM.w ⟨fun i hi => hw.1 i (by omega) (by omega) (by omega) (by omega), hw.2.1⟩ (by omega)
                                        refine m_aload_n h dX8_row_262 rfl rfl ?_
                                        refine m_vV h (m_anew _ hG _ (by intro x x0 x1; exact hS1.2.2.1.z x x0 x1)) moX8_anew voX8_anew lk_X8_73 dX8_row_263 (by decide) (by decide) rfl rfl rfl (Nat.le_of_ble_eq_true rfl) (fun ua p369 => ?_)
                                        have hRa := RM_an hS1 p369 t
                                        have hFa := hF1.tr (ANW.m p369)
                                        have hAn := p369
                                        refine m_aload_n h dX8_row_266 rfl rfl ?_
                                        refine m_get h fo_X8_64 (by decide) rfl rfl dX8_row_267 ?_
                                        refine m_iconst h dX8_row_270 ?_
                                        refine m_isub h dX8_row_271 ?_
                                        refine m_iret h hR rfl dX8_row_272 ?_
                                        refine Or.inr ⟨hgd, Or.inr ⟨hr12, ?_, hRa, hFa⟩⟩
                                        have : ua.1 25 1 = g_r g + 1 := hRa.1.2.1
                                        omega
                                      · skip
                                        refine m_aload_n h dX8_row_230 rfl rfl ?_
                                        refine m_get h fo_X8_26 (by decide) rfl rfl dX8_row_231 ?_
                                        refine m_bipush h dX8_row_234 (by decide) ?_
                                        refine m_aload_n h dX8_row_236 rfl rfl ?_
                                        refine m_get h fo_X8_64 (by decide) rfl rfl dX8_row_237 ?_
                                        show M X G 9 u 240 [some (.ref (G.2.1 25)), some (.int (iI kd)), some (.int (iI a)), some (.int (iI b)), some (.int (iI c)), some (.int (iI R)), none, none, some (.int (iI (k : Int)))] [.int (iI (u.1 25 1)), .int (iI 8), .ref (G.2.1 31)]
                                        rw [e25r]
                                        show M X G 9 u 240 [some (.ref (G.2.1 25)), some (.int (iI kd)), some (.int (iI a)), some (.int (iI b)), some (.int (iI c)), some (.int (iI R)), none, none, some (.int (iI (k : Int)))] [.int (iI (g_r g)), .int (iI 8), .ref (G.2.1 31)]
                                        refine m_imul h dX8_row_240 ?_
                                        refine m_iload h dX8_row_241 rfl ?_
                                        refine m_iadd h dX8_row_243 ?_
                                        refine m_iconst h dX8_row_244 ?_
                                        refine m_iast h (ar_31 G) (by omega) (by omega) dX8_row_245 ?_
                                        refine m_iinc h dX8_row_246 rfl (by decide) rfl ?_
                                        refine m_goto h dX8_row_249 (tgt := 223) (by decide) ?_
                                        refine ih (k + 1) _ (by omega) (by omega) (rwF_w hw (by omega)) (fun x x0 x1 => ?_)
                                        by_cases e : x = (k : Int)
                                        · subst e; rw [wI_s]
                                        · rw [wI_n (by omega)]; exact hz x x0 (by omega)
                                  exact lp223 100 0 _ (by omega) (by omega) (rwF_i (by rw [if_neg (by omega)]; rfl) (by rw [if_neg (by omega)]; rfl) (by rw [if_neg (by omega)]; rfl)) (fun x q1 q2 => by omega)
                                · skip
                                  refine m_iload h dX8_row_200 rfl ?_
                                  refine m_goto h dX8_row_202 (tgt := 208) (by decide) ?_
                                  refine m_iast h (ar_29 G) (by omega) (by omega) dX8_row_208 ?_
                                  refine m_aload_n h dX8_row_209 rfl rfl ?_
                                  refine m_get h fo_X8_23 (by decide) rfl rfl dX8_row_210 ?_
                                  refine m_aload_n h dX8_row_213 rfl rfl ?_
                                  refine m_get h fo_X8_64 (by decide) rfl rfl dX8_row_214 ?_
                                  show M X G 9 (wI (wI (wI (wI v 28 (g_r g) kd) 29 (3 * (g_r g)) (-1000)) 29 ((3 * (g_r g)) + 1) (-1000)) 29 ((3 * (g_r g)) + 2) c) 217 [some (.ref (G.2.1 25)), some (.int (iI kd)), some (.int (iI a)), some (.int (iI b)), some (.int (iI c)), some (.int (iI R)), some (.int (iI ow)), some (.int (iI 1)), none] [.int (iI (v.1 25 1)), .ref (G.2.1 30)]
                                  show M X G 9 (wI (wI (wI (wI v 28 (g_r g) kd) 29 (3 * (g_r g)) (-1000)) 29 ((3 * (g_r g)) + 1) (-1000)) 29 ((3 * (g_r g)) + 2) c) 217 [some (.ref (G.2.1 25)), some (.int (iI kd)), some (.int (iI a)), some (.int (iI b)), some (.int (iI c)), some (.int (iI R)), some (.int (iI ow)), some (.int (iI 1)), none] [.int (iI (v.1 25 1)), .ref (G.2.1 30)]
                                  rw [s1]
                                  show M X G 9 (wI (wI (wI (wI v 28 (g_r g) kd) 29 (3 * (g_r g)) (-1000)) 29 ((3 * (g_r g)) + 1) (-1000)) 29 ((3 * (g_r g)) + 2) c) 217 [some (.ref (G.2.1 25)), some (.int (iI kd)), some (.int (iI a)), some (.int (iI b)), some (.int (iI c)), some (.int (iI R)), some (.int (iI ow)), some (.int (iI 1)), none] [.int (iI (g_r g)), .ref (G.2.1 30)]
                                  refine m_iload h dX8_row_217 rfl ?_
                                  refine m_iast h (ar_30 G) (by omega) (by omega) dX8_row_219 ?_
                                  refine m_iconst h dX8_row_220 ?_
                                  refine m_istore h dX8_row_221 (by decide) rfl ?_
                                  refine m_kill 6 ?_
                                  refine m_kill 7 ?_
                                  have lp223 : ∀ (fuel : Nat) (k : Nat) (u : Mem), k ≤ 8 → 20 - k < fuel → rwF v (g_r g) kd (if 1 ≤ NKs kd then a else -1) (if 2 ≤ NKs kd then b else -1) (if 3 ≤ NKs kd then c else -1) R u → (∀ x, 0 ≤ x → x < (k : Int) → u.1 31 (8 * g_r g + x) = 0) → M X G 9 u 223 [some (.ref (G.2.1 25)), some (.int (iI kd)), some (.int (iI a)), some (.int (iI b)), some (.int (iI c)), some (.int (iI R)), none, none, some (.int (iI (k : Int)))] [] := by
                                    intro fuel
                                    induction fuel with
                                    | zero => intro k u hk8 hfu hw hz; exfalso; omega
                                    | succ fuel ih =>
                                      intro k u hk8 hfu hw hz
                                      have e25r : u.1 25 1 = g_r g := by rw [hw.1 25 (by decide) (by decide) (by decide) (by decide)]; exact s1
                                      refine m_iload h dX8_row_223 rfl ?_
                                      refine m_bipush h dX8_row_225 (by decide) ?_
                                      refine m_icmp_ge h dX8_row_227 (tgt := 252) (by decide) (by omega) (by omega) (fun c370 => ?_) (fun c370 => ?_)
                                      · skip
                                        have hz8 : ∀ x, 0 ≤ x → x < 8 → u.1 31 (8 * g_r g + x) = 0 := fun x q1 q2 => hz x q1 (by omega)
                                        refine m_aload_n h dX8_row_252 rfl rfl ?_
                                        refine m_dup h dX8_row_253 rfl ?_
                                        refine m_get h fo_X8_64 (by decide) rfl rfl dX8_row_254 ?_
                                        show M X G 9 u 257 [some (.ref (G.2.1 25)), some (.int (iI kd)), some (.int (iI a)), some (.int (iI b)), some (.int (iI c)), some (.int (iI R)), none, none, some (.int (iI (k : Int)))] [.int (iI (u.1 25 1)), .ref (G.2.1 25)]
                                        rw [e25r]
                                        show M X G 9 u 257 [some (.ref (G.2.1 25)), some (.int (iI kd)), some (.int (iI a)), some (.int (iI b)), some (.int (iI c)), some (.int (iI R)), none, none, some (.int (iI (k : Int)))] [.int (iI (g_r g)), .ref (G.2.1 25)]
                                        refine m_iconst h dX8_row_257 ?_
                                        refine m_iadd h dX8_row_258 ?_
                                        refine m_putJ h fw_X8_64 (by decide) rfl (Nat.le_of_ble_eq_true rfl) (kz := 1) rfl rfl dX8_row_259 ?_
                                        have hS1 := rwF_s ⟨s0, s1, s2, s3⟩ hg hr12 hw hz8
                                        have hF1 : FrM v (wI u 25 1 ((g_r g) + 1)) := FrM.w ⟨fun i hi => hw.1 i (by omega) (by omega) (by omega) (by omega), hw.2.1⟩ (by omega)
                                        refine m_aload_n h dX8_row_262 rfl rfl ?_
                                        refine m_vV h (m_anew _ hG _ (by intro x x0 x1; exact hS1.2.2.1.z x x0 x1)) moX8_anew voX8_anew lk_X8_73 dX8_row_263 (by decide) (by decide) rfl rfl rfl (Nat.le_of_ble_eq_true rfl) (fun ua p373 => ?_)
                                        have hRa := RM_an hS1 p373 t
                                        have hFa := hF1.tr (ANW.m p373)
                                        have hAn := p373
                                        refine m_aload_n h dX8_row_266 rfl rfl ?_
                                        refine m_get h fo_X8_64 (by decide) rfl rfl dX8_row_267 ?_
                                        refine m_iconst h dX8_row_270 ?_
                                        refine m_isub h dX8_row_271 ?_
                                        refine m_iret h hR rfl dX8_row_272 ?_
                                        refine Or.inr ⟨hgd, Or.inr ⟨hr12, ?_, hRa, hFa⟩⟩
                                        have : ua.1 25 1 = g_r g + 1 := hRa.1.2.1
                                        omega
                                      · skip
                                        refine m_aload_n h dX8_row_230 rfl rfl ?_
                                        refine m_get h fo_X8_26 (by decide) rfl rfl dX8_row_231 ?_
                                        refine m_bipush h dX8_row_234 (by decide) ?_
                                        refine m_aload_n h dX8_row_236 rfl rfl ?_
                                        refine m_get h fo_X8_64 (by decide) rfl rfl dX8_row_237 ?_
                                        show M X G 9 u 240 [some (.ref (G.2.1 25)), some (.int (iI kd)), some (.int (iI a)), some (.int (iI b)), some (.int (iI c)), some (.int (iI R)), none, none, some (.int (iI (k : Int)))] [.int (iI (u.1 25 1)), .int (iI 8), .ref (G.2.1 31)]
                                        rw [e25r]
                                        show M X G 9 u 240 [some (.ref (G.2.1 25)), some (.int (iI kd)), some (.int (iI a)), some (.int (iI b)), some (.int (iI c)), some (.int (iI R)), none, none, some (.int (iI (k : Int)))] [.int (iI (g_r g)), .int (iI 8), .ref (G.2.1 31)]
                                        refine m_imul h dX8_row_240 ?_
                                        refine m_iload h dX8_row_241 rfl ?_
                                        refine m_iadd h dX8_row_243 ?_
                                        refine m_iconst h dX8_row_244 ?_
                                        refine m_iast h (ar_31 G) (by omega) (by omega) dX8_row_245 ?_
                                        refine m_iinc h dX8_row_246 rfl (by decide) rfl ?_
                                        refine m_goto h dX8_row_249 (tgt := 223) (by decide) ?_
                                        refine ih (k + 1) _ (by omega) (by omega) (rwF_w hw (by omega)) (fun x x0 x1 => ?_)
                                        by_cases e : x = (k : Int)
                                        · subst e; rw [wI_s]
                                        · rw [wI_n (by omega)]; exact hz x x0 (by omega)
                                  exact lp223 100 0 _ (by omega) (by omega) (rwF_i (by rw [if_neg (by omega)]; rfl) (by rw [if_neg (by omega)]; rfl) (by rw [if_pos (by omega)]; exact (mN_nn (by have : isNm g c := (hgd.2.2.2.2 (by omega)).1; exact this.1)).symm)) (fun x q1 q2 => by omega)
                              · skip
                                refine m_iload_n h dX8_row_174 rfl rfl ?_
                                refine m_goto h dX8_row_175 (tgt := 181) (by decide) ?_
                                refine m_iast h (ar_29 G) (by omega) (by omega) dX8_row_181 ?_
                                refine m_aload_n h dX8_row_182 rfl rfl ?_
                                refine m_get h fo_X8_20 (by decide) rfl rfl dX8_row_183 ?_
                                refine m_iconst h dX8_row_186 ?_
                                refine m_aload_n h dX8_row_187 rfl rfl ?_
                                refine m_get h fo_X8_64 (by decide) rfl rfl dX8_row_188 ?_
                                show M X G 9 (wI (wI (wI v 28 (g_r g) kd) 29 (3 * (g_r g)) (-1000)) 29 ((3 * (g_r g)) + 1) b) 191 [some (.ref (G.2.1 25)), some (.int (iI kd)), some (.int (iI a)), some (.int (iI b)), some (.int (iI c)), some (.int (iI R)), some (.int (iI ow)), some (.int (iI 1)), none] [.int (iI (v.1 25 1)), .int (iI 3), .ref (G.2.1 29)]
                                show M X G 9 (wI (wI (wI v 28 (g_r g) kd) 29 (3 * (g_r g)) (-1000)) 29 ((3 * (g_r g)) + 1) b) 191 [some (.ref (G.2.1 25)), some (.int (iI kd)), some (.int (iI a)), some (.int (iI b)), some (.int (iI c)), some (.int (iI R)), some (.int (iI ow)), some (.int (iI 1)), none] [.int (iI (v.1 25 1)), .int (iI 3), .ref (G.2.1 29)]
                                rw [s1]
                                show M X G 9 (wI (wI (wI v 28 (g_r g) kd) 29 (3 * (g_r g)) (-1000)) 29 ((3 * (g_r g)) + 1) b) 191 [some (.ref (G.2.1 25)), some (.int (iI kd)), some (.int (iI a)), some (.int (iI b)), some (.int (iI c)), some (.int (iI R)), some (.int (iI ow)), some (.int (iI 1)), none] [.int (iI (g_r g)), .int (iI 3), .ref (G.2.1 29)]
                                refine m_imul h dX8_row_191 ?_
                                refine m_iconst h dX8_row_192 ?_
                                refine m_iadd h dX8_row_193 ?_
                                refine m_iload h dX8_row_194 rfl ?_
                                refine m_iconst h dX8_row_196 ?_
                                refine m_icmp_le h dX8_row_197 (tgt := 205) (by decide) (by omega) (by omega) (fun c374 => ?_) (fun c374 => ?_)
                                · skip
                                  refine m_sipush h dX8_row_205 (by decide) ?_
                                  refine m_iast h (ar_29 G) (by omega) (by omega) dX8_row_208 ?_
                                  refine m_aload_n h dX8_row_209 rfl rfl ?_
                                  refine m_get h fo_X8_23 (by decide) rfl rfl dX8_row_210 ?_
                                  refine m_aload_n h dX8_row_213 rfl rfl ?_
                                  refine m_get h fo_X8_64 (by decide) rfl rfl dX8_row_214 ?_
                                  show M X G 9 (wI (wI (wI (wI v 28 (g_r g) kd) 29 (3 * (g_r g)) (-1000)) 29 ((3 * (g_r g)) + 1) b) 29 ((3 * (g_r g)) + 2) (-1000)) 217 [some (.ref (G.2.1 25)), some (.int (iI kd)), some (.int (iI a)), some (.int (iI b)), some (.int (iI c)), some (.int (iI R)), some (.int (iI ow)), some (.int (iI 1)), none] [.int (iI (v.1 25 1)), .ref (G.2.1 30)]
                                  show M X G 9 (wI (wI (wI (wI v 28 (g_r g) kd) 29 (3 * (g_r g)) (-1000)) 29 ((3 * (g_r g)) + 1) b) 29 ((3 * (g_r g)) + 2) (-1000)) 217 [some (.ref (G.2.1 25)), some (.int (iI kd)), some (.int (iI a)), some (.int (iI b)), some (.int (iI c)), some (.int (iI R)), some (.int (iI ow)), some (.int (iI 1)), none] [.int (iI (v.1 25 1)), .ref (G.2.1 30)]
                                  rw [s1]
                                  show M X G 9 (wI (wI (wI (wI v 28 (g_r g) kd) 29 (3 * (g_r g)) (-1000)) 29 ((3 * (g_r g)) + 1) b) 29 ((3 * (g_r g)) + 2) (-1000)) 217 [some (.ref (G.2.1 25)), some (.int (iI kd)), some (.int (iI a)), some (.int (iI b)), some (.int (iI c)), some (.int (iI R)), some (.int (iI ow)), some (.int (iI 1)), none] [.int (iI (g_r g)), .ref (G.2.1 30)]
                                  refine m_iload h dX8_row_217 rfl ?_
                                  refine m_iast h (ar_30 G) (by omega) (by omega) dX8_row_219 ?_
                                  refine m_iconst h dX8_row_220 ?_
                                  refine m_istore h dX8_row_221 (by decide) rfl ?_
                                  refine m_kill 6 ?_
                                  refine m_kill 7 ?_
                                  have lp223 : ∀ (fuel : Nat) (k : Nat) (u : Mem), k ≤ 8 → 20 - k < fuel → rwF v (g_r g) kd (if 1 ≤ NKs kd then a else -1) (if 2 ≤ NKs kd then b else -1) (if 3 ≤ NKs kd then c else -1) R u → (∀ x, 0 ≤ x → x < (k : Int) → u.1 31 (8 * g_r g + x) = 0) → M X G 9 u 223 [some (.ref (G.2.1 25)), some (.int (iI kd)), some (.int (iI a)), some (.int (iI b)), some (.int (iI c)), some (.int (iI R)), none, none, some (.int (iI (k : Int)))] [] := by
                                    intro fuel
                                    induction fuel with
                                    | zero => intro k u hk8 hfu hw hz; exfalso; omega
                                    | succ fuel ih =>
                                      intro k u hk8 hfu hw hz
                                      have e25r : u.1 25 1 = g_r g := by rw [hw.1 25 (by decide) (by decide) (by decide) (by decide)]; exact s1
                                      refine m_iload h dX8_row_223 rfl ?_
                                      refine m_bipush h dX8_row_225 (by decide) ?_
                                      refine m_icmp_ge h dX8_row_227 (tgt := 252) (by decide) (by omega) (by omega) (fun c375 => ?_) (fun c375 => ?_)
                                      · skip
                                        have hz8 : ∀ x, 0 ≤ x → x < 8 → u.1 31 (8 * g_r g + x) = 0 := fun x q1 q2 => hz x q1 (by omega)
                                        refine m_aload_n h dX8_row_252 rfl rfl ?_
                                        refine m_dup h dX8_row_253 rfl ?_
                                        refine m_get h fo_X8_64 (by decide) rfl rfl dX8_row_254 ?_
                                        show M X G 9 u 257 [some (.ref (G.2.1 25)), some (.int (iI kd)), some (.int (iI a)), some (.int (iI b)), some (.int (iI c)), some (.int (iI R)), none, none, some (.int (iI (k : Int)))] [.int (iI (u.1 25 1)), .ref (G.2.1 25)]
                                        rw [e25r]
                                        show M X G 9 u 257 [some (.ref (G.2.1 25)), some (.int (iI kd)), some (.int (iI a)), some (.int (iI b)), some (.int (iI c)), some (.int (iI R)), none, none, some (.int (iI (k : Int)))] [.int (iI (g_r g)), .ref (G.2.1 25)]
                                        refine m_iconst h dX8_row_257 ?_
                                        refine m_iadd h dX8_row_258 ?_
                                        refine m_putJ h fw_X8_64 (by decide) rfl (Nat.le_of_ble_eq_true rfl) (kz := 1) rfl rfl dX8_row_259 ?_
                                        have hS1 := rwF_s ⟨s0, s1, s2, s3⟩ hg hr12 hw hz8
                                        have hF1 : FrM v (wI u 25 1 ((g_r g) + 1)) := FrM.w ⟨fun i hi => hw.1 i (by omega) (by omega) (by omega) (by omega), hw.2.1⟩ (by omega)
                                        refine m_aload_n h dX8_row_262 rfl rfl ?_
                                        refine m_vV h (m_anew _ hG _ (by intro x x0 x1; exact hS1.2.2.1.z x x0 x1)) moX8_anew voX8_anew lk_X8_73 dX8_row_263 (by decide) (by decide) rfl rfl rfl (Nat.le_of_ble_eq_true rfl) (fun ua p378 => ?_)
                                        have hRa := RM_an hS1 p378 t
                                        have hFa := hF1.tr (ANW.m p378)
                                        have hAn := p378
                                        refine m_aload_n h dX8_row_266 rfl rfl ?_
                                        refine m_get h fo_X8_64 (by decide) rfl rfl dX8_row_267 ?_
                                        refine m_iconst h dX8_row_270 ?_
                                        refine m_isub h dX8_row_271 ?_
                                        refine m_iret h hR rfl dX8_row_272 ?_
                                        refine Or.inr ⟨hgd, Or.inr ⟨hr12, ?_, hRa, hFa⟩⟩
                                        have : ua.1 25 1 = g_r g + 1 := hRa.1.2.1
                                        omega
                                      · skip
                                        refine m_aload_n h dX8_row_230 rfl rfl ?_
                                        refine m_get h fo_X8_26 (by decide) rfl rfl dX8_row_231 ?_
                                        refine m_bipush h dX8_row_234 (by decide) ?_
                                        refine m_aload_n h dX8_row_236 rfl rfl ?_
                                        refine m_get h fo_X8_64 (by decide) rfl rfl dX8_row_237 ?_
                                        show M X G 9 u 240 [some (.ref (G.2.1 25)), some (.int (iI kd)), some (.int (iI a)), some (.int (iI b)), some (.int (iI c)), some (.int (iI R)), none, none, some (.int (iI (k : Int)))] [.int (iI (u.1 25 1)), .int (iI 8), .ref (G.2.1 31)]
                                        rw [e25r]
                                        show M X G 9 u 240 [some (.ref (G.2.1 25)), some (.int (iI kd)), some (.int (iI a)), some (.int (iI b)), some (.int (iI c)), some (.int (iI R)), none, none, some (.int (iI (k : Int)))] [.int (iI (g_r g)), .int (iI 8), .ref (G.2.1 31)]
                                        refine m_imul h dX8_row_240 ?_
                                        refine m_iload h dX8_row_241 rfl ?_
                                        refine m_iadd h dX8_row_243 ?_
                                        refine m_iconst h dX8_row_244 ?_
                                        refine m_iast h (ar_31 G) (by omega) (by omega) dX8_row_245 ?_
                                        refine m_iinc h dX8_row_246 rfl (by decide) rfl ?_
                                        refine m_goto h dX8_row_249 (tgt := 223) (by decide) ?_
                                        refine ih (k + 1) _ (by omega) (by omega) (rwF_w hw (by omega)) (fun x x0 x1 => ?_)
                                        by_cases e : x = (k : Int)
                                        · subst e; rw [wI_s]
                                        · rw [wI_n (by omega)]; exact hz x x0 (by omega)
                                  exact lp223 100 0 _ (by omega) (by omega) (rwF_i (by rw [if_neg (by omega)]; rfl) (by rw [if_pos (by omega)]; exact (mN_nn (by have : isNm g b := (hgd.2.2.2.1 (by omega)).1; exact this.1)).symm) (by rw [if_neg (by omega)]; rfl)) (fun x q1 q2 => by omega)
                                · skip
                                  refine m_iload h dX8_row_200 rfl ?_
                                  refine m_goto h dX8_row_202 (tgt := 208) (by decide) ?_
                                  refine m_iast h (ar_29 G) (by omega) (by omega) dX8_row_208 ?_
                                  refine m_aload_n h dX8_row_209 rfl rfl ?_
                                  refine m_get h fo_X8_23 (by decide) rfl rfl dX8_row_210 ?_
                                  refine m_aload_n h dX8_row_213 rfl rfl ?_
                                  refine m_get h fo_X8_64 (by decide) rfl rfl dX8_row_214 ?_
                                  show M X G 9 (wI (wI (wI (wI v 28 (g_r g) kd) 29 (3 * (g_r g)) (-1000)) 29 ((3 * (g_r g)) + 1) b) 29 ((3 * (g_r g)) + 2) c) 217 [some (.ref (G.2.1 25)), some (.int (iI kd)), some (.int (iI a)), some (.int (iI b)), some (.int (iI c)), some (.int (iI R)), some (.int (iI ow)), some (.int (iI 1)), none] [.int (iI (v.1 25 1)), .ref (G.2.1 30)]
                                  show M X G 9 (wI (wI (wI (wI v 28 (g_r g) kd) 29 (3 * (g_r g)) (-1000)) 29 ((3 * (g_r g)) + 1) b) 29 ((3 * (g_r g)) + 2) c) 217 [some (.ref (G.2.1 25)), some (.int (iI kd)), some (.int (iI a)), some (.int (iI b)), some (.int (iI c)), some (.int (iI R)), some (.int (iI ow)), some (.int (iI 1)), none] [.int (iI (v.1 25 1)), .ref (G.2.1 30)]
                                  rw [s1]
                                  show M X G 9 (wI (wI (wI (wI v 28 (g_r g) kd) 29 (3 * (g_r g)) (-1000)) 29 ((3 * (g_r g)) + 1) b) 29 ((3 * (g_r g)) + 2) c) 217 [some (.ref (G.2.1 25)), some (.int (iI kd)), some (.int (iI a)), some (.int (iI b)), some (.int (iI c)), some (.int (iI R)), some (.int (iI ow)), some (.int (iI 1)), none] [.int (iI (g_r g)), .ref (G.2.1 30)]
                                  refine m_iload h dX8_row_217 rfl ?_
                                  refine m_iast h (ar_30 G) (by omega) (by omega) dX8_row_219 ?_
                                  refine m_iconst h dX8_row_220 ?_
                                  refine m_istore h dX8_row_221 (by decide) rfl ?_
                                  refine m_kill 6 ?_
                                  refine m_kill 7 ?_
                                  have lp223 : ∀ (fuel : Nat) (k : Nat) (u : Mem), k ≤ 8 → 20 - k < fuel → rwF v (g_r g) kd (if 1 ≤ NKs kd then a else -1) (if 2 ≤ NKs kd then b else -1) (if 3 ≤ NKs kd then c else -1) R u → (∀ x, 0 ≤ x → x < (k : Int) → u.1 31 (8 * g_r g + x) = 0) → M X G 9 u 223 [some (.ref (G.2.1 25)), some (.int (iI kd)), some (.int (iI a)), some (.int (iI b)), some (.int (iI c)), some (.int (iI R)), none, none, some (.int (iI (k : Int)))] [] := by
                                    intro fuel
                                    induction fuel with
                                    | zero => intro k u hk8 hfu hw hz; exfalso; omega
                                    | succ fuel ih =>
                                      intro k u hk8 hfu hw hz
                                      have e25r : u.1 25 1 = g_r g := by rw [hw.1 25 (by decide) (by decide) (by decide) (by decide)]; exact s1
                                      refine m_iload h dX8_row_223 rfl ?_
                                      refine m_bipush h dX8_row_225 (by decide) ?_
                                      refine m_icmp_ge h dX8_row_227 (tgt := 252) (by decide) (by omega) (by omega) (fun c379 => ?_) (fun c379 => ?_)
                                      · skip
                                        have hz8 : ∀ x, 0 ≤ x → x < 8 → u.1 31 (8 * g_r g + x) = 0 := fun x q1 q2 => hz x q1 (by omega)
                                        refine m_aload_n h dX8_row_252 rfl rfl ?_
                                        refine m_dup h dX8_row_253 rfl ?_
                                        refine m_get h fo_X8_64 (by decide) rfl rfl dX8_row_254 ?_
                                        show M X G 9 u 257 [some (.ref (G.2.1 25)), some (.int (iI kd)), some (.int (iI a)), some (.int (iI b)), some (.int (iI c)), some (.int (iI R)), none, none, some (.int (iI (k : Int)))] [.int (iI (u.1 25 1)), .ref (G.2.1 25)]
                                        rw [e25r]
                                        show M X G 9 u 257 [some (.ref (G.2.1 25)), some (.int (iI kd)), some (.int (iI a)), some (.int (iI b)), some (.int (iI c)), some (.int (iI R)), none, none, some (.int (iI (k : Int)))] [.int (iI (g_r g)), .ref (G.2.1 25)]
                                        refine m_iconst h dX8_row_257 ?_
                                        refine m_iadd h dX8_row_258 ?_
                                        refine m_putJ h fw_X8_64 (by decide) rfl (Nat.le_of_ble_eq_true rfl) (kz := 1) rfl rfl dX8_row_259 ?_
                                        have hS1 := rwF_s ⟨s0, s1, s2, s3⟩ hg hr12 hw hz8
                                        have hF1 : FrM v (wI u 25 1 ((g_r g) + 1)) := FrM.w ⟨fun i hi => hw.1 i (by omega) (by omega) (by omega) (by omega), hw.2.1⟩ (by omega)
                                        refine m_aload_n h dX8_row_262 rfl rfl ?_
                                        refine m_vV h (m_anew _ hG _ (by intro x x0 x1; exact hS1.2.2.1.z x x0 x1)) moX8_anew voX8_anew lk_X8_73 dX8_row_263 (by decide) (by decide) rfl rfl rfl (Nat.le_of_ble_eq_true rfl) (fun ua p382 => ?_)
                                        have hRa := RM_an hS1 p382 t
                                        have hFa := hF1.tr (ANW.m p382)
                                        have hAn := p382
                                        refine m_aload_n h dX8_row_266 rfl rfl ?_
                                        refine m_get h fo_X8_64 (by decide) rfl rfl dX8_row_267 ?_
                                        refine m_iconst h dX8_row_270 ?_
                                        refine m_isub h dX8_row_271 ?_
                                        refine m_iret h hR rfl dX8_row_272 ?_
                                        refine Or.inr ⟨hgd, Or.inr ⟨hr12, ?_, hRa, hFa⟩⟩
                                        have : ua.1 25 1 = g_r g + 1 := hRa.1.2.1
                                        omega
                                      · skip
                                        refine m_aload_n h dX8_row_230 rfl rfl ?_
                                        refine m_get h fo_X8_26 (by decide) rfl rfl dX8_row_231 ?_
                                        refine m_bipush h dX8_row_234 (by decide) ?_
                                        refine m_aload_n h dX8_row_236 rfl rfl ?_
                                        refine m_get h fo_X8_64 (by decide) rfl rfl dX8_row_237 ?_
                                        show M X G 9 u 240 [some (.ref (G.2.1 25)), some (.int (iI kd)), some (.int (iI a)), some (.int (iI b)), some (.int (iI c)), some (.int (iI R)), none, none, some (.int (iI (k : Int)))] [.int (iI (u.1 25 1)), .int (iI 8), .ref (G.2.1 31)]
                                        rw [e25r]
                                        show M X G 9 u 240 [some (.ref (G.2.1 25)), some (.int (iI kd)), some (.int (iI a)), some (.int (iI b)), some (.int (iI c)), some (.int (iI R)), none, none, some (.int (iI (k : Int)))] [.int (iI (g_r g)), .int (iI 8), .ref (G.2.1 31)]
                                        refine m_imul h dX8_row_240 ?_
                                        refine m_iload h dX8_row_241 rfl ?_
                                        refine m_iadd h dX8_row_243 ?_
                                        refine m_iconst h dX8_row_244 ?_
                                        refine m_iast h (ar_31 G) (by omega) (by omega) dX8_row_245 ?_
                                        refine m_iinc h dX8_row_246 rfl (by decide) rfl ?_
                                        refine m_goto h dX8_row_249 (tgt := 223) (by decide) ?_
                                        refine ih (k + 1) _ (by omega) (by omega) (rwF_w hw (by omega)) (fun x x0 x1 => ?_)
                                        by_cases e : x = (k : Int)
                                        · subst e; rw [wI_s]
                                        · rw [wI_n (by omega)]; exact hz x x0 (by omega)
                                  exact lp223 100 0 _ (by omega) (by omega) (rwF_i (by rw [if_neg (by omega)]; rfl) (by rw [if_pos (by omega)]; exact (mN_nn (by have : isNm g b := (hgd.2.2.2.1 (by omega)).1; exact this.1)).symm) (by rw [if_pos (by omega)]; exact (mN_nn (by have : isNm g c := (hgd.2.2.2.2 (by omega)).1; exact this.1)).symm)) (fun x q1 q2 => by omega)
                            · skip
                              refine m_iload_n h dX8_row_148 rfl rfl ?_
                              refine m_goto h dX8_row_149 (tgt := 155) (by decide) ?_
                              refine m_iast h (ar_29 G) (by omega) (by omega) dX8_row_155 ?_
                              refine m_aload_n h dX8_row_156 rfl rfl ?_
                              refine m_get h fo_X8_20 (by decide) rfl rfl dX8_row_157 ?_
                              refine m_iconst h dX8_row_160 ?_
                              refine m_aload_n h dX8_row_161 rfl rfl ?_
                              refine m_get h fo_X8_64 (by decide) rfl rfl dX8_row_162 ?_
                              show M X G 9 (wI (wI v 28 (g_r g) kd) 29 (3 * (g_r g)) a) 165 [some (.ref (G.2.1 25)), some (.int (iI kd)), some (.int (iI a)), some (.int (iI b)), some (.int (iI c)), some (.int (iI R)), some (.int (iI ow)), some (.int (iI 1)), none] [.int (iI (v.1 25 1)), .int (iI 3), .ref (G.2.1 29)]
                              show M X G 9 (wI (wI v 28 (g_r g) kd) 29 (3 * (g_r g)) a) 165 [some (.ref (G.2.1 25)), some (.int (iI kd)), some (.int (iI a)), some (.int (iI b)), some (.int (iI c)), some (.int (iI R)), some (.int (iI ow)), some (.int (iI 1)), none] [.int (iI (v.1 25 1)), .int (iI 3), .ref (G.2.1 29)]
                              rw [s1]
                              show M X G 9 (wI (wI v 28 (g_r g) kd) 29 (3 * (g_r g)) a) 165 [some (.ref (G.2.1 25)), some (.int (iI kd)), some (.int (iI a)), some (.int (iI b)), some (.int (iI c)), some (.int (iI R)), some (.int (iI ow)), some (.int (iI 1)), none] [.int (iI (g_r g)), .int (iI 3), .ref (G.2.1 29)]
                              refine m_imul h dX8_row_165 ?_
                              refine m_iconst h dX8_row_166 ?_
                              refine m_iadd h dX8_row_167 ?_
                              refine m_iload h dX8_row_168 rfl ?_
                              refine m_iconst h dX8_row_170 ?_
                              refine m_icmp_le h dX8_row_171 (tgt := 178) (by decide) (by omega) (by omega) (fun c383 => ?_) (fun c383 => ?_)
                              · skip
                                refine m_sipush h dX8_row_178 (by decide) ?_
                                refine m_iast h (ar_29 G) (by omega) (by omega) dX8_row_181 ?_
                                refine m_aload_n h dX8_row_182 rfl rfl ?_
                                refine m_get h fo_X8_20 (by decide) rfl rfl dX8_row_183 ?_
                                refine m_iconst h dX8_row_186 ?_
                                refine m_aload_n h dX8_row_187 rfl rfl ?_
                                refine m_get h fo_X8_64 (by decide) rfl rfl dX8_row_188 ?_
                                show M X G 9 (wI (wI (wI v 28 (g_r g) kd) 29 (3 * (g_r g)) a) 29 ((3 * (g_r g)) + 1) (-1000)) 191 [some (.ref (G.2.1 25)), some (.int (iI kd)), some (.int (iI a)), some (.int (iI b)), some (.int (iI c)), some (.int (iI R)), some (.int (iI ow)), some (.int (iI 1)), none] [.int (iI (v.1 25 1)), .int (iI 3), .ref (G.2.1 29)]
                                show M X G 9 (wI (wI (wI v 28 (g_r g) kd) 29 (3 * (g_r g)) a) 29 ((3 * (g_r g)) + 1) (-1000)) 191 [some (.ref (G.2.1 25)), some (.int (iI kd)), some (.int (iI a)), some (.int (iI b)), some (.int (iI c)), some (.int (iI R)), some (.int (iI ow)), some (.int (iI 1)), none] [.int (iI (v.1 25 1)), .int (iI 3), .ref (G.2.1 29)]
                                rw [s1]
                                show M X G 9 (wI (wI (wI v 28 (g_r g) kd) 29 (3 * (g_r g)) a) 29 ((3 * (g_r g)) + 1) (-1000)) 191 [some (.ref (G.2.1 25)), some (.int (iI kd)), some (.int (iI a)), some (.int (iI b)), some (.int (iI c)), some (.int (iI R)), some (.int (iI ow)), some (.int (iI 1)), none] [.int (iI (g_r g)), .int (iI 3), .ref (G.2.1 29)]
                                refine m_imul h dX8_row_191 ?_
                                refine m_iconst h dX8_row_192 ?_
                                refine m_iadd h dX8_row_193 ?_
                                refine m_iload h dX8_row_194 rfl ?_
                                refine m_iconst h dX8_row_196 ?_
                                refine m_icmp_le h dX8_row_197 (tgt := 205) (by decide) (by omega) (by omega) (fun c384 => ?_) (fun c384 => ?_)
                                · skip
                                  refine m_sipush h dX8_row_205 (by decide) ?_
                                  refine m_iast h (ar_29 G) (by omega) (by omega) dX8_row_208 ?_
                                  refine m_aload_n h dX8_row_209 rfl rfl ?_
                                  refine m_get h fo_X8_23 (by decide) rfl rfl dX8_row_210 ?_
                                  refine m_aload_n h dX8_row_213 rfl rfl ?_
                                  refine m_get h fo_X8_64 (by decide) rfl rfl dX8_row_214 ?_
                                  show M X G 9 (wI (wI (wI (wI v 28 (g_r g) kd) 29 (3 * (g_r g)) a) 29 ((3 * (g_r g)) + 1) (-1000)) 29 ((3 * (g_r g)) + 2) (-1000)) 217 [some (.ref (G.2.1 25)), some (.int (iI kd)), some (.int (iI a)), some (.int (iI b)), some (.int (iI c)), some (.int (iI R)), some (.int (iI ow)), some (.int (iI 1)), none] [.int (iI (v.1 25 1)), .ref (G.2.1 30)]
                                  show M X G 9 (wI (wI (wI (wI v 28 (g_r g) kd) 29 (3 * (g_r g)) a) 29 ((3 * (g_r g)) + 1) (-1000)) 29 ((3 * (g_r g)) + 2) (-1000)) 217 [some (.ref (G.2.1 25)), some (.int (iI kd)), some (.int (iI a)), some (.int (iI b)), some (.int (iI c)), some (.int (iI R)), some (.int (iI ow)), some (.int (iI 1)), none] [.int (iI (v.1 25 1)), .ref (G.2.1 30)]
                                  rw [s1]
                                  show M X G 9 (wI (wI (wI (wI v 28 (g_r g) kd) 29 (3 * (g_r g)) a) 29 ((3 * (g_r g)) + 1) (-1000)) 29 ((3 * (g_r g)) + 2) (-1000)) 217 [some (.ref (G.2.1 25)), some (.int (iI kd)), some (.int (iI a)), some (.int (iI b)), some (.int (iI c)), some (.int (iI R)), some (.int (iI ow)), some (.int (iI 1)), none] [.int (iI (g_r g)), .ref (G.2.1 30)]
                                  refine m_iload h dX8_row_217 rfl ?_
                                  refine m_iast h (ar_30 G) (by omega) (by omega) dX8_row_219 ?_
                                  refine m_iconst h dX8_row_220 ?_
                                  refine m_istore h dX8_row_221 (by decide) rfl ?_
                                  refine m_kill 6 ?_
                                  refine m_kill 7 ?_
                                  have lp223 : ∀ (fuel : Nat) (k : Nat) (u : Mem), k ≤ 8 → 20 - k < fuel → rwF v (g_r g) kd (if 1 ≤ NKs kd then a else -1) (if 2 ≤ NKs kd then b else -1) (if 3 ≤ NKs kd then c else -1) R u → (∀ x, 0 ≤ x → x < (k : Int) → u.1 31 (8 * g_r g + x) = 0) → M X G 9 u 223 [some (.ref (G.2.1 25)), some (.int (iI kd)), some (.int (iI a)), some (.int (iI b)), some (.int (iI c)), some (.int (iI R)), none, none, some (.int (iI (k : Int)))] [] := by
                                    intro fuel
                                    induction fuel with
                                    | zero => intro k u hk8 hfu hw hz; exfalso; omega
                                    | succ fuel ih =>
                                      intro k u hk8 hfu hw hz
                                      have e25r : u.1 25 1 = g_r g := by rw [hw.1 25 (by decide) (by decide) (by decide) (by decide)]; exact s1
                                      refine m_iload h dX8_row_223 rfl ?_
                                      refine m_bipush h dX8_row_225 (by decide) ?_
                                      refine m_icmp_ge h dX8_row_227 (tgt := 252) (by decide) (by omega) (by omega) (fun c385 => ?_) (fun c385 => ?_)
                                      · skip
                                        have hz8 : ∀ x, 0 ≤ x → x < 8 → u.1 31 (8 * g_r g + x) = 0 := fun x q1 q2 => hz x q1 (by omega)
                                        refine m_aload_n h dX8_row_252 rfl rfl ?_
                                        refine m_dup h dX8_row_253 rfl ?_
                                        refine m_get h fo_X8_64 (by decide) rfl rfl dX8_row_254 ?_
                                        show M X G 9 u 257 [some (.ref (G.2.1 25)), some (.int (iI kd)), some (.int (iI a)), some (.int (iI b)), some (.int (iI c)), some (.int (iI R)), none, none, some (.int (iI (k : Int)))] [.int (iI (u.1 25 1)), .ref (G.2.1 25)]
                                        rw [e25r]
                                        show M X G 9 u 257 [some (.ref (G.2.1 25)), some (.int (iI kd)), some (.int (iI a)), some (.int (iI b)), some (.int (iI c)), some (.int (iI R)), none, none, some (.int (iI (k : Int)))] [.int (iI (g_r g)), .ref (G.2.1 25)]
                                        refine m_iconst h dX8_row_257 ?_
                                        refine m_iadd h dX8_row_258 ?_
                                        refine m_putJ h fw_X8_64 (by decide) rfl (Nat.le_of_ble_eq_true rfl) (kz := 1) rfl rfl dX8_row_259 ?_
                                        have hS1 := rwF_s ⟨s0, s1, s2, s3⟩ hg hr12 hw hz8
                                        have hF1 : FrM v (wI u 25 1 ((g_r g) + 1)) := FrM.w ⟨fun i hi => hw.1 i (by omega) (by omega) (by omega) (by omega), hw.2.1⟩ (by omega)
                                        refine m_aload_n h dX8_row_262 rfl rfl ?_
                                        refine m_vV h (m_anew _ hG _ (by intro x x0 x1; exact hS1.2.2.1.z x x0 x1)) moX8_anew voX8_anew lk_X8_73 dX8_row_263 (by decide) (by decide) rfl rfl rfl (Nat.le_of_ble_eq_true rfl) (fun ua p388 => ?_)
                                        have hRa := RM_an hS1 p388 t
                                        have hFa := hF1.tr (ANW.m p388)
                                        have hAn := p388
                                        refine m_aload_n h dX8_row_266 rfl rfl ?_
                                        refine m_get h fo_X8_64 (by decide) rfl rfl dX8_row_267 ?_
                                        refine m_iconst h dX8_row_270 ?_
                                        refine m_isub h dX8_row_271 ?_
                                        refine m_iret h hR rfl dX8_row_272 ?_
                                        refine Or.inr ⟨hgd, Or.inr ⟨hr12, ?_, hRa, hFa⟩⟩
                                        have : ua.1 25 1 = g_r g + 1 := hRa.1.2.1
                                        omega
                                      · skip
                                        refine m_aload_n h dX8_row_230 rfl rfl ?_
                                        refine m_get h fo_X8_26 (by decide) rfl rfl dX8_row_231 ?_
                                        refine m_bipush h dX8_row_234 (by decide) ?_
                                        refine m_aload_n h dX8_row_236 rfl rfl ?_
                                        refine m_get h fo_X8_64 (by decide) rfl rfl dX8_row_237 ?_
                                        show M X G 9 u 240 [some (.ref (G.2.1 25)), some (.int (iI kd)), some (.int (iI a)), some (.int (iI b)), some (.int (iI c)), some (.int (iI R)), none, none, some (.int (iI (k : Int)))] [.int (iI (u.1 25 1)), .int (iI 8), .ref (G.2.1 31)]
                                        rw [e25r]
                                        show M X G 9 u 240 [some (.ref (G.2.1 25)), some (.int (iI kd)), some (.int (iI a)), some (.int (iI b)), some (.int (iI c)), some (.int (iI R)), none, none, some (.int (iI (k : Int)))] [.int (iI (g_r g)), .int (iI 8), .ref (G.2.1 31)]
                                        refine m_imul h dX8_row_240 ?_
                                        refine m_iload h dX8_row_241 rfl ?_
                                        refine m_iadd h dX8_row_243 ?_
                                        refine m_iconst h dX8_row_244 ?_
                                        refine m_iast h (ar_31 G) (by omega) (by omega) dX8_row_245 ?_
                                        refine m_iinc h dX8_row_246 rfl (by decide) rfl ?_
                                        refine m_goto h dX8_row_249 (tgt := 223) (by decide) ?_
                                        refine ih (k + 1) _ (by omega) (by omega) (rwF_w hw (by omega)) (fun x x0 x1 => ?_)
                                        by_cases e : x = (k : Int)
                                        · subst e; rw [wI_s]
                                        · rw [wI_n (by omega)]; exact hz x x0 (by omega)
                                  exact lp223 100 0 _ (by omega) (by omega) (rwF_i (by rw [if_pos (by omega)]; exact (mN_nn (by have : isNm g a := hgd.2.2.1 (by omega); exact this.1)).symm) (by rw [if_neg (by omega)]; rfl) (by rw [if_neg (by omega)]; rfl)) (fun x q1 q2 => by omega)
                                · skip
                                  refine m_iload h dX8_row_200 rfl ?_
                                  refine m_goto h dX8_row_202 (tgt := 208) (by decide) ?_
                                  refine m_iast h (ar_29 G) (by omega) (by omega) dX8_row_208 ?_
                                  refine m_aload_n h dX8_row_209 rfl rfl ?_
                                  refine m_get h fo_X8_23 (by decide) rfl rfl dX8_row_210 ?_
                                  refine m_aload_n h dX8_row_213 rfl rfl ?_
                                  refine m_get h fo_X8_64 (by decide) rfl rfl dX8_row_214 ?_
                                  show M X G 9 (wI (wI (wI (wI v 28 (g_r g) kd) 29 (3 * (g_r g)) a) 29 ((3 * (g_r g)) + 1) (-1000)) 29 ((3 * (g_r g)) + 2) c) 217 [some (.ref (G.2.1 25)), some (.int (iI kd)), some (.int (iI a)), some (.int (iI b)), some (.int (iI c)), some (.int (iI R)), some (.int (iI ow)), some (.int (iI 1)), none] [.int (iI (v.1 25 1)), .ref (G.2.1 30)]
                                  show M X G 9 (wI (wI (wI (wI v 28 (g_r g) kd) 29 (3 * (g_r g)) a) 29 ((3 * (g_r g)) + 1) (-1000)) 29 ((3 * (g_r g)) + 2) c) 217 [some (.ref (G.2.1 25)), some (.int (iI kd)), some (.int (iI a)), some (.int (iI b)), some (.int (iI c)), some (.int (iI R)), some (.int (iI ow)), some (.int (iI 1)), none] [.int (iI (v.1 25 1)), .ref (G.2.1 30)]
                                  rw [s1]
                                  show M X G 9 (wI (wI (wI (wI v 28 (g_r g) kd) 29 (3 * (g_r g)) a) 29 ((3 * (g_r g)) + 1) (-1000)) 29 ((3 * (g_r g)) + 2) c) 217 [some (.ref (G.2.1 25)), some (.int (iI kd)), some (.int (iI a)), some (.int (iI b)), some (.int (iI c)), some (.int (iI R)), some (.int (iI ow)), some (.int (iI 1)), none] [.int (iI (g_r g)), .ref (G.2.1 30)]
                                  refine m_iload h dX8_row_217 rfl ?_
                                  refine m_iast h (ar_30 G) (by omega) (by omega) dX8_row_219 ?_
                                  refine m_iconst h dX8_row_220 ?_
                                  refine m_istore h dX8_row_221 (by decide) rfl ?_
                                  refine m_kill 6 ?_
                                  refine m_kill 7 ?_
                                  have lp223 : ∀ (fuel : Nat) (k : Nat) (u : Mem), k ≤ 8 → 20 - k < fuel → rwF v (g_r g) kd (if 1 ≤ NKs kd then a else -1) (if 2 ≤ NKs kd then b else -1) (if 3 ≤ NKs kd then c else -1) R u → (∀ x, 0 ≤ x → x < (k : Int) → u.1 31 (8 * g_r g + x) = 0) → M X G 9 u 223 [some (.ref (G.2.1 25)), some (.int (iI kd)), some (.int (iI a)), some (.int (iI b)), some (.int (iI c)), some (.int (iI R)), none, none, some (.int (iI (k : Int)))] [] := by
                                    intro fuel
                                    induction fuel with
                                    | zero => intro k u hk8 hfu hw hz; exfalso; omega
                                    | succ fuel ih =>
                                      intro k u hk8 hfu hw hz
                                      have e25r : u.1 25 1 = g_r g := by rw [hw.1 25 (by decide) (by decide) (by decide) (by decide)]; exact s1
                                      refine m_iload h dX8_row_223 rfl ?_
                                      refine m_bipush h dX8_row_225 (by decide) ?_
                                      refine m_icmp_ge h dX8_row_227 (tgt := 252) (by decide) (by omega) (by omega) (fun c389 => ?_) (fun c389 => ?_)
                                      · skip
                                        have hz8 : ∀ x, 0 ≤ x → x < 8 → u.1 31 (8 * g_r g + x) = 0 := fun x q1 q2 => hz x q1 (by omega)
                                        refine m_aload_n h dX8_row_252 rfl rfl ?_
                                        refine m_dup h dX8_row_253 rfl ?_
                                        refine m_get h fo_X8_64 (by decide) rfl rfl dX8_row_254 ?_
                                        show M X G 9 u 257 [some (.ref (G.2.1 25)), some (.int (iI kd)), some (.int (iI a)), some (.int (iI b)), some (.int (iI c)), some (.int (iI R)), none, none, some (.int (iI (k : Int)))] [.int (iI (u.1 25 1)), .ref (G.2.1 25)]
                                        rw [e25r]
                                        show M X G 9 u 257 [some (.ref (G.2.1 25)), some (.int (iI kd)), some (.int (iI a)), some (.int (iI b)), some (.int (iI c)), some (.int (iI R)), none, none, some (.int (iI (k : Int)))] [.int (iI (g_r g)), .ref (G.2.1 25)]
                                        refine m_iconst h dX8_row_257 ?_
                                        refine m_iadd h dX8_row_258 ?_
                                        refine m_putJ h fw_X8_64 (by decide) rfl (Nat.le_of_ble_eq_true rfl) (kz := 1) rfl rfl dX8_row_259 ?_
                                        have hS1 := rwF_s ⟨s0, s1, s2, s3⟩ hg hr12 hw hz8
                                        have hF1 : FrM v (wI u 25 1 ((g_r g) + 1)) := FrM.w ⟨fun i hi => hw.1 i (by omega) (by omega) (by omega) (by omega), hw.2.1⟩ (by omega)
                                        refine m_aload_n h dX8_row_262 rfl rfl ?_
                                        refine m_vV h (m_anew _ hG _ (by intro x x0 x1; exact hS1.2.2.1.z x x0 x1)) moX8_anew voX8_anew lk_X8_73 dX8_row_263 (by decide) (by decide) rfl rfl rfl (Nat.le_of_ble_eq_true rfl) (fun ua p392 => ?_)
                                        have hRa := RM_an hS1 p392 t
                                        have hFa := hF1.tr (ANW.m p392)
                                        have hAn := p392
                                        refine m_aload_n h dX8_row_266 rfl rfl ?_
                                        refine m_get h fo_X8_64 (by decide) rfl rfl dX8_row_267 ?_
                                        refine m_iconst h dX8_row_270 ?_
                                        refine m_isub h dX8_row_271 ?_
                                        refine m_iret h hR rfl dX8_row_272 ?_
                                        refine Or.inr ⟨hgd, Or.inr ⟨hr12, ?_, hRa, hFa⟩⟩
                                        have : ua.1 25 1 = g_r g + 1 := hRa.1.2.1
                                        omega
                                      · skip
                                        refine m_aload_n h dX8_row_230 rfl rfl ?_
                                        refine m_get h fo_X8_26 (by decide) rfl rfl dX8_row_231 ?_
                                        refine m_bipush h dX8_row_234 (by decide) ?_
                                        refine m_aload_n h dX8_row_236 rfl rfl ?_
                                        refine m_get h fo_X8_64 (by decide) rfl rfl dX8_row_237 ?_
                                        show M X G 9 u 240 [some (.ref (G.2.1 25)), some (.int (iI kd)), some (.int (iI a)), some (.int (iI b)), some (.int (iI c)), some (.int (iI R)), none, none, some (.int (iI (k : Int)))] [.int (iI (u.1 25 1)), .int (iI 8), .ref (G.2.1 31)]
                                        rw [e25r]
                                        show M X G 9 u 240 [some (.ref (G.2.1 25)), some (.int (iI kd)), some (.int (iI a)), some (.int (iI b)), some (.int (iI c)), some (.int (iI R)), none, none, some (.int (iI (k : Int)))] [.int (iI (g_r g)), .int (iI 8), .ref (G.2.1 31)]
                                        refine m_imul h dX8_row_240 ?_
                                        refine m_iload h dX8_row_241 rfl ?_
                                        refine m_iadd h dX8_row_243 ?_
                                        refine m_iconst h dX8_row_244 ?_
                                        refine m_iast h (ar_31 G) (by omega) (by omega) dX8_row_245 ?_
                                        refine m_iinc h dX8_row_246 rfl (by decide) rfl ?_
                                        refine m_goto h dX8_row_249 (tgt := 223) (by decide) ?_
                                        refine ih (k + 1) _ (by omega) (by omega) (rwF_w hw (by omega)) (fun x x0 x1 => ?_)
                                        by_cases e : x = (k : Int)
                                        · subst e; rw [wI_s]
                                        · rw [wI_n (by omega)]; exact hz x x0 (by omega)
                                  exact lp223 100 0 _ (by omega) (by omega) (rwF_i (by rw [if_pos (by omega)]; exact (mN_nn (by have : isNm g a := hgd.2.2.1 (by omega); exact this.1)).symm) (by rw [if_neg (by omega)]; rfl) (by rw [if_pos (by omega)]; exact (mN_nn (by have : isNm g c := (hgd.2.2.2.2 (by omega)).1; exact this.1)).symm)) (fun x q1 q2 => by omega)
                              · skip
                                refine m_iload_n h dX8_row_174 rfl rfl ?_
                                refine m_goto h dX8_row_175 (tgt := 181) (by decide) ?_
                                refine m_iast h (ar_29 G) (by omega) (by omega) dX8_row_181 ?_
                                refine m_aload_n h dX8_row_182 rfl rfl ?_
                                refine m_get h fo_X8_20 (by decide) rfl rfl dX8_row_183 ?_
                                refine m_iconst h dX8_row_186 ?_
                                refine m_aload_n h dX8_row_187 rfl rfl ?_
                                refine m_get h fo_X8_64 (by decide) rfl rfl dX8_row_188 ?_
                                show M X G 9 (wI (wI (wI v 28 (g_r g) kd) 29 (3 * (g_r g)) a) 29 ((3 * (g_r g)) + 1) b) 191 [some (.ref (G.2.1 25)), some (.int (iI kd)), some (.int (iI a)), some (.int (iI b)), some (.int (iI c)), some (.int (iI R)), some (.int (iI ow)), some (.int (iI 1)), none] [.int (iI (v.1 25 1)), .int (iI 3), .ref (G.2.1 29)]
                                show M X G 9 (wI (wI (wI v 28 (g_r g) kd) 29 (3 * (g_r g)) a) 29 ((3 * (g_r g)) + 1) b) 191 [some (.ref (G.2.1 25)), some (.int (iI kd)), some (.int (iI a)), some (.int (iI b)), some (.int (iI c)), some (.int (iI R)), some (.int (iI ow)), some (.int (iI 1)), none] [.int (iI (v.1 25 1)), .int (iI 3), .ref (G.2.1 29)]
                                rw [s1]
                                show M X G 9 (wI (wI (wI v 28 (g_r g) kd) 29 (3 * (g_r g)) a) 29 ((3 * (g_r g)) + 1) b) 191 [some (.ref (G.2.1 25)), some (.int (iI kd)), some (.int (iI a)), some (.int (iI b)), some (.int (iI c)), some (.int (iI R)), some (.int (iI ow)), some (.int (iI 1)), none] [.int (iI (g_r g)), .int (iI 3), .ref (G.2.1 29)]
                                refine m_imul h dX8_row_191 ?_
                                refine m_iconst h dX8_row_192 ?_
                                refine m_iadd h dX8_row_193 ?_
                                refine m_iload h dX8_row_194 rfl ?_
                                refine m_iconst h dX8_row_196 ?_
                                refine m_icmp_le h dX8_row_197 (tgt := 205) (by decide) (by omega) (by omega) (fun c393 => ?_) (fun c393 => ?_)
                                · skip
                                  refine m_sipush h dX8_row_205 (by decide) ?_
                                  refine m_iast h (ar_29 G) (by omega) (by omega) dX8_row_208 ?_
                                  refine m_aload_n h dX8_row_209 rfl rfl ?_
                                  refine m_get h fo_X8_23 (by decide) rfl rfl dX8_row_210 ?_
                                  refine m_aload_n h dX8_row_213 rfl rfl ?_
                                  refine m_get h fo_X8_64 (by decide) rfl rfl dX8_row_214 ?_
                                  show M X G 9 (wI (wI (wI (wI v 28 (g_r g) kd) 29 (3 * (g_r g)) a) 29 ((3 * (g_r g)) + 1) b) 29 ((3 * (g_r g)) + 2) (-1000)) 217 [some (.ref (G.2.1 25)), some (.int (iI kd)), some (.int (iI a)), some (.int (iI b)), some (.int (iI c)), some (.int (iI R)), some (.int (iI ow)), some (.int (iI 1)), none] [.int (iI (v.1 25 1)), .ref (G.2.1 30)]
                                  show M X G 9 (wI (wI (wI (wI v 28 (g_r g) kd) 29 (3 * (g_r g)) a) 29 ((3 * (g_r g)) + 1) b) 29 ((3 * (g_r g)) + 2) (-1000)) 217 [some (.ref (G.2.1 25)), some (.int (iI kd)), some (.int (iI a)), some (.int (iI b)), some (.int (iI c)), some (.int (iI R)), some (.int (iI ow)), some (.int (iI 1)), none] [.int (iI (v.1 25 1)), .ref (G.2.1 30)]
                                  rw [s1]
                                  show M X G 9 (wI (wI (wI (wI v 28 (g_r g) kd) 29 (3 * (g_r g)) a) 29 ((3 * (g_r g)) + 1) b) 29 ((3 * (g_r g)) + 2) (-1000)) 217 [some (.ref (G.2.1 25)), some (.int (iI kd)), some (.int (iI a)), some (.int (iI b)), some (.int (iI c)), some (.int (iI R)), some (.int (iI ow)), some (.int (iI 1)), none] [.int (iI (g_r g)), .ref (G.2.1 30)]
                                  refine m_iload h dX8_row_217 rfl ?_
                                  refine m_iast h (ar_30 G) (by omega) (by omega) dX8_row_219 ?_
                                  refine m_iconst h dX8_row_220 ?_
                                  refine m_istore h dX8_row_221 (by decide) rfl ?_
                                  refine m_kill 6 ?_
                                  refine m_kill 7 ?_
                                  have lp223 : ∀ (fuel : Nat) (k : Nat) (u : Mem), k ≤ 8 → 20 - k < fuel → rwF v (g_r g) kd (if 1 ≤ NKs kd then a else -1) (if 2 ≤ NKs kd then b else -1) (if 3 ≤ NKs kd then c else -1) R u → (∀ x, 0 ≤ x → x < (k : Int) → u.1 31 (8 * g_r g + x) = 0) → M X G 9 u 223 [some (.ref (G.2.1 25)), some (.int (iI kd)), some (.int (iI a)), some (.int (iI b)), some (.int (iI c)), some (.int (iI R)), none, none, some (.int (iI (k : Int)))] [] := by
                                    intro fuel
                                    induction fuel with
                                    | zero => intro k u hk8 hfu hw hz; exfalso; omega
                                    | succ fuel ih =>
                                      intro k u hk8 hfu hw hz
                                      have e25r : u.1 25 1 = g_r g := by rw [hw.1 25 (by decide) (by decide) (by decide) (by decide)]; exact s1
                                      refine m_iload h dX8_row_223 rfl ?_
                                      refine m_bipush h dX8_row_225 (by decide) ?_
                                      refine m_icmp_ge h dX8_row_227 (tgt := 252) (by decide) (by omega) (by omega) (fun c394 => ?_) (fun c394 => ?_)
                                      · skip
                                        have hz8 : ∀ x, 0 ≤ x → x < 8 → u.1 31 (8 * g_r g + x) = 0 := fun x q1 q2 => hz x q1 (by omega)
                                        refine m_aload_n h dX8_row_252 rfl rfl ?_
                                        refine m_dup h dX8_row_253 rfl ?_
                                        refine m_get h fo_X8_64 (by decide) rfl rfl dX8_row_254 ?_
                                        show M X G 9 u 257 [some (.ref (G.2.1 25)), some (.int (iI kd)), some (.int (iI a)), some (.int (iI b)), some (.int (iI c)), some (.int (iI R)), none, none, some (.int (iI (k : Int)))] [.int (iI (u.1 25 1)), .ref (G.2.1 25)]
                                        rw [e25r]
                                        show M X G 9 u 257 [some (.ref (G.2.1 25)), some (.int (iI kd)), some (.int (iI a)), some (.int (iI b)), some (.int (iI c)), some (.int (iI R)), none, none, some (.int (iI (k : Int)))] [.int (iI (g_r g)), .ref (G.2.1 25)]
                                        refine m_iconst h dX8_row_257 ?_
                                        refine m_iadd h dX8_row_258 ?_
                                        refine m_putJ h fw_X8_64 (by decide) rfl (Nat.le_of_ble_eq_true rfl) (kz := 1) rfl rfl dX8_row_259 ?_
                                        have hS1 := rwF_s ⟨s0, s1, s2, s3⟩ hg hr12 hw hz8
                                        have hF1 : FrM v (wI u 25 1 ((g_r g) + 1)) := FrM.w ⟨fun i hi => hw.1 i (by omega) (by omega) (by omega) (by omega), hw.2.1⟩ (by omega)
                                        refine m_aload_n h dX8_row_262 rfl rfl ?_
                                        refine m_vV h (m_anew _ hG _ (by intro x x0 x1; exact hS1.2.2.1.z x x0 x1)) moX8_anew voX8_anew lk_X8_73 dX8_row_263 (by decide) (by decide) rfl rfl rfl (Nat.le_of_ble_eq_true rfl) (fun ua p397 => ?_)
                                        have hRa := RM_an hS1 p397 t
                                        have hFa := hF1.tr (ANW.m p397)
                                        have hAn := p397
                                        refine m_aload_n h dX8_row_266 rfl rfl ?_
                                        refine m_get h fo_X8_64 (by decide) rfl rfl dX8_row_267 ?_
                                        refine m_iconst h dX8_row_270 ?_
                                        refine m_isub h dX8_row_271 ?_
                                        refine m_iret h hR rfl dX8_row_272 ?_
                                        refine Or.inr ⟨hgd, Or.inr ⟨hr12, ?_, hRa, hFa⟩⟩
                                        have : ua.1 25 1 = g_r g + 1 := hRa.1.2.1
                                        omega
                                      · skip
                                        refine m_aload_n h dX8_row_230 rfl rfl ?_
                                        refine m_get h fo_X8_26 (by decide) rfl rfl dX8_row_231 ?_
                                        refine m_bipush h dX8_row_234 (by decide) ?_
                                        refine m_aload_n h dX8_row_236 rfl rfl ?_
                                        refine m_get h fo_X8_64 (by decide) rfl rfl dX8_row_237 ?_
                                        show M X G 9 u 240 [some (.ref (G.2.1 25)), some (.int (iI kd)), some (.int (iI a)), some (.int (iI b)), some (.int (iI c)), some (.int (iI R)), none, none, some (.int (iI (k : Int)))] [.int (iI (u.1 25 1)), .int (iI 8), .ref (G.2.1 31)]
                                        rw [e25r]
                                        show M X G 9 u 240 [some (.ref (G.2.1 25)), some (.int (iI kd)), some (.int (iI a)), some (.int (iI b)), some (.int (iI c)), some (.int (iI R)), none, none, some (.int (iI (k : Int)))] [.int (iI (g_r g)), .int (iI 8), .ref (G.2.1 31)]
                                        refine m_imul h dX8_row_240 ?_
                                        refine m_iload h dX8_row_241 rfl ?_
                                        refine m_iadd h dX8_row_243 ?_
                                        refine m_iconst h dX8_row_244 ?_
                                        refine m_iast h (ar_31 G) (by omega) (by omega) dX8_row_245 ?_
                                        refine m_iinc h dX8_row_246 rfl (by decide) rfl ?_
                                        refine m_goto h dX8_row_249 (tgt := 223) (by decide) ?_
                                        refine ih (k + 1) _ (by omega) (by omega) (rwF_w hw (by omega)) (fun x x0 x1 => ?_)
                                        by_cases e : x = (k : Int)
                                        · subst e; rw [wI_s]
                                        · rw [wI_n (by omega)]; exact hz x x0 (by omega)
                                  exact lp223 100 0 _ (by omega) (by omega) (rwF_i (by rw [if_pos (by omega)]; exact (mN_nn (by have : isNm g a := hgd.2.2.1 (by omega); exact this.1)).symm) (by rw [if_pos (by omega)]; exact (mN_nn (by have : isNm g b := (hgd.2.2.2.1 (by omega)).1; exact this.1)).symm) (by rw [if_neg (by omega)]; rfl)) (fun x q1 q2 => by omega)
                                · skip
                                  refine m_iload h dX8_row_200 rfl ?_
                                  refine m_goto h dX8_row_202 (tgt := 208) (by decide) ?_
                                  refine m_iast h (ar_29 G) (by omega) (by omega) dX8_row_208 ?_
                                  refine m_aload_n h dX8_row_209 rfl rfl ?_
                                  refine m_get h fo_X8_23 (by decide) rfl rfl dX8_row_210 ?_
                                  refine m_aload_n h dX8_row_213 rfl rfl ?_
                                  refine m_get h fo_X8_64 (by decide) rfl rfl dX8_row_214 ?_
                                  show M X G 9 (wI (wI (wI (wI v 28 (g_r g) kd) 29 (3 * (g_r g)) a) 29 ((3 * (g_r g)) + 1) b) 29 ((3 * (g_r g)) + 2) c) 217 [some (.ref (G.2.1 25)), some (.int (iI kd)), some (.int (iI a)), some (.int (iI b)), some (.int (iI c)), some (.int (iI R)), some (.int (iI ow)), some (.int (iI 1)), none] [.int (iI (v.1 25 1)), .ref (G.2.1 30)]
                                  show M X G 9 (wI (wI (wI (wI v 28 (g_r g) kd) 29 (3 * (g_r g)) a) 29 ((3 * (g_r g)) + 1) b) 29 ((3 * (g_r g)) + 2) c) 217 [some (.ref (G.2.1 25)), some (.int (iI kd)), some (.int (iI a)), some (.int (iI b)), some (.int (iI c)), some (.int (iI R)), some (.int (iI ow)), some (.int (iI 1)), none] [.int (iI (v.1 25 1)), .ref (G.2.1 30)]
                                  rw [s1]
                                  show M X G 9 (wI (wI (wI (wI v 28 (g_r g) kd) 29 (3 * (g_r g)) a) 29 ((3 * (g_r g)) + 1) b) 29 ((3 * (g_r g)) + 2) c) 217 [some (.ref (G.2.1 25)), some (.int (iI kd)), some (.int (iI a)), some (.int (iI b)), some (.int (iI c)), some (.int (iI R)), some (.int (iI ow)), some (.int (iI 1)), none] [.int (iI (g_r g)), .ref (G.2.1 30)]
                                  refine m_iload h dX8_row_217 rfl ?_
                                  refine m_iast h (ar_30 G) (by omega) (by omega) dX8_row_219 ?_
                                  refine m_iconst h dX8_row_220 ?_
                                  refine m_istore h dX8_row_221 (by decide) rfl ?_
                                  refine m_kill 6 ?_
                                  refine m_kill 7 ?_
                                  have lp223 : ∀ (fuel : Nat) (k : Nat) (u : Mem), k ≤ 8 → 20 - k < fuel → rwF v (g_r g) kd (if 1 ≤ NKs kd then a else -1) (if 2 ≤ NKs kd then b else -1) (if 3 ≤ NKs kd then c else -1) R u → (∀ x, 0 ≤ x → x < (k : Int) → u.1 31 (8 * g_r g + x) = 0) → M X G 9 u 223 [some (.ref (G.2.1 25)), some (.int (iI kd)), some (.int (iI a)), some (.int (iI b)), some (.int (iI c)), some (.int (iI R)), none, none, some (.int (iI (k : Int)))] [] := by
                                    intro fuel
                                    induction fuel with
                                    | zero => intro k u hk8 hfu hw hz; exfalso; omega
                                    | succ fuel ih =>
                                      intro k u hk8 hfu hw hz
                                      have e25r : u.1 25 1 = g_r g := by rw [hw.1 25 (by decide) (by decide) (by decide) (by decide)]; exact s1
                                      refine m_iload h dX8_row_223 rfl ?_
                                      refine m_bipush h dX8_row_225 (by decide) ?_
                                      refine m_icmp_ge h dX8_row_227 (tgt := 252) (by decide) (by omega) (by omega) (fun c398 => ?_) (fun c398 => ?_)
                                      · skip
                                        have hz8 : ∀ x, 0 ≤ x → x < 8 → u.1 31 (8 * g_r g + x) = 0 := fun x q1 q2 => hz x q1 (by omega)
                                        refine m_aload_n h dX8_row_252 rfl rfl ?_
                                        refine m_dup h dX8_row_253 rfl ?_
                                        refine m_get h fo_X8_64 (by decide) rfl rfl dX8_row_254 ?_
                                        show M X G 9 u 257 [some (.ref (G.2.1 25)), some (.int (iI kd)), some (.int (iI a)), some (.int (iI b)), some (.int (iI c)), some (.int (iI R)), none, none, some (.int (iI (k : Int)))] [.int (iI (u.1 25 1)), .ref (G.2.1 25)]
                                        rw [e25r]
                                        show M X G 9 u 257 [some (.ref (G.2.1 25)), some (.int (iI kd)), some (.int (iI a)), some (.int (iI b)), some (.int (iI c)), some (.int (iI R)), none, none, some (.int (iI (k : Int)))] [.int (iI (g_r g)), .ref (G.2.1 25)]
                                        refine m_iconst h dX8_row_257 ?_
                                        refine m_iadd h dX8_row_258 ?_
                                        refine m_putJ h fw_X8_64 (by decide) rfl (Nat.le_of_ble_eq_true rfl) (kz := 1) rfl rfl dX8_row_259 ?_
                                        have hS1 := rwF_s ⟨s0, s1, s2, s3⟩ hg hr12 hw hz8
                                        have hF1 : FrM v (wI u 25 1 ((g_r g) + 1)) := FrM.w ⟨fun i hi => hw.1 i (by omega) (by omega) (by omega) (by omega), hw.2.1⟩ (by omega)
                                        refine m_aload_n h dX8_row_262 rfl rfl ?_
                                        refine m_vV h (m_anew _ hG _ (by intro x x0 x1; exact hS1.2.2.1.z x x0 x1)) moX8_anew voX8_anew lk_X8_73 dX8_row_263 (by decide) (by decide) rfl rfl rfl (Nat.le_of_ble_eq_true rfl) (fun ua p401 => ?_)
                                        have hRa := RM_an hS1 p401 t
                                        have hFa := hF1.tr (ANW.m p401)
                                        have hAn := p401
                                        refine m_aload_n h dX8_row_266 rfl rfl ?_
                                        refine m_get h fo_X8_64 (by decide) rfl rfl dX8_row_267 ?_
                                        refine m_iconst h dX8_row_270 ?_
                                        refine m_isub h dX8_row_271 ?_
                                        refine m_iret h hR rfl dX8_row_272 ?_
                                        refine Or.inr ⟨hgd, Or.inr ⟨hr12, ?_, hRa, hFa⟩⟩
                                        have : ua.1 25 1 = g_r g + 1 := hRa.1.2.1
                                        omega
                                      · skip
                                        refine m_aload_n h dX8_row_230 rfl rfl ?_
                                        refine m_get h fo_X8_26 (by decide) rfl rfl dX8_row_231 ?_
                                        refine m_bipush h dX8_row_234 (by decide) ?_
                                        refine m_aload_n h dX8_row_236 rfl rfl ?_
                                        refine m_get h fo_X8_64 (by decide) rfl rfl dX8_row_237 ?_
                                        show M X G 9 u 240 [some (.ref (G.2.1 25)), some (.int (iI kd)), some (.int (iI a)), some (.int (iI b)), some (.int (iI c)), some (.int (iI R)), none, none, some (.int (iI (k : Int)))] [.int (iI (u.1 25 1)), .int (iI 8), .ref (G.2.1 31)]
                                        rw [e25r]
                                        show M X G 9 u 240 [some (.ref (G.2.1 25)), some (.int (iI kd)), some (.int (iI a)), some (.int (iI b)), some (.int (iI c)), some (.int (iI R)), none, none, some (.int (iI (k : Int)))] [.int (iI (g_r g)), .int (iI 8), .ref (G.2.1 31)]
                                        refine m_imul h dX8_row_240 ?_
                                        refine m_iload h dX8_row_241 rfl ?_
                                        refine m_iadd h dX8_row_243 ?_
                                        refine m_iconst h dX8_row_244 ?_
                                        refine m_iast h (ar_31 G) (by omega) (by omega) dX8_row_245 ?_
                                        refine m_iinc h dX8_row_246 rfl (by decide) rfl ?_
                                        refine m_goto h dX8_row_249 (tgt := 223) (by decide) ?_
                                        refine ih (k + 1) _ (by omega) (by omega) (rwF_w hw (by omega)) (fun x x0 x1 => ?_)
                                        by_cases e : x = (k : Int)
                                        · subst e; rw [wI_s]
                                        · rw [wI_n (by omega)]; exact hz x x0 (by omega)
                                  exact lp223 100 0 _ (by omega) (by omega) (rwF_i (by rw [if_pos (by omega)]; exact (mN_nn (by have : isNm g a := hgd.2.2.1 (by omega); exact this.1)).symm) (by rw [if_pos (by omega)]; exact (mN_nn (by have : isNm g b := (hgd.2.2.2.1 (by omega)).1; exact this.1)).symm) (by rw [if_pos (by omega)]; exact (mN_nn (by have : isNm g c := (hgd.2.2.2.2 (by omega)).1; exact this.1)).symm)) (fun x q1 q2 => by omega)
                          · skip
                            refine m_sipush h dX8_row_119 (by decide) ?_
                            refine m_iret h hR rfl dX8_row_122 ?_
                            exact Or.inr ⟨⟨h1, h2, hgd3⟩, Or.inl ⟨by omega, rfl, rfl⟩⟩
                        · skip
                          omega
    · skip
      refine m_sipush h dX8_row_24 (by decide) ?_
      refine m_iret h hR rfl dX8_row_27 ?_
      refine Or.inl ⟨fun q => ?_, rfl, rfl⟩
      first | exact hb2.no (by omega) q.2.1 | exact hb1.no (by omega) q.1
