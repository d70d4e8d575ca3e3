/-! the law's loop -/
def zX (xs : Nat → Int32) (x : Int) : Int := (xs x.toNat).toInt
theorem zX_rg (xs : Nat → Int32) (x : Int) : -2147483648 ≤ zX xs x ∧ zX xs x ≤ 2147483647 := iI_rg _
theorem m_sldz {X : CX} {G : GT} {nL : Nat} {cc : ByteArray} {own : String} {D : Nat} {v : Mem} {pc : Nat} {lv : List (Option Value)} {st : List Value} (h : Ok X G nL cc own D) {b L : Nat} {xs : Nat → Int32} (hX : va_X b L xs (x_s X) (x_s X).heap) (hbl : b < (x_s X).heap.size) (hbA : ¬ x_A X b) (hL : L ≤ 3072) {x : Int} (hx : 0 ≤ x) (hxL : x < L) (hd : decode cc pc = .ok (.iaload, 1)) (k : M X G nL v (pc + 1) lv (.int (iI (zX xs x)) :: st)) : M X G nL v pc lv (.int (iI x) :: .ref b :: st) := m_sld h hX hbl hbA hL hx hxL hd k
set_option maxRecDepth 100000 in
set_option maxHeartbeats 4000000 in
theorem law_loop {X : CX} {G : GT} (hG : gok G) (h : Ok X G 4 cL_law RL 20) {b L : Nat} {xs : Nat → Int32} (hX : va_X b L xs (x_s X) (x_s X).heap) (hbl : b < (x_s X).heap.size) (hbA : ¬ x_A X b) (hL : L ≤ 3072) (hZs : Zs (x_A X) (x_s X) (x_s X).heap) (hend : ∀ (v : Mem) (lv : List (Option Value)), M X G 4 v 603 lv [.int (iI 1)]) :
    ∀ (fuel : Nat) (i : Int) (v : Mem), 0 ≤ i → i ≤ (L : Int) + 6 → ((L : Int) + 100 - i) < (fuel : Int) → INV v → M X G 4 v 18 [some (.ref b), some (.ref (G.2.1 0)), some (.ref (G.2.1 25)), some (.int (iI i))] [] := by
  intro fuel
  induction fuel with
  | zero => intro i v hi0 hi1 hfu hI; exfalso; omega
  | succ fuel ih =>
      intro i v hi0 hi1 hfu hI
      have hg := GO_of hI.1.1.1
      have ht := TO_of hI.1
      
      refine m_iload_n h dL_law_18 rfl rfl ?_
      refine m_aload_n h dL_law_19 rfl rfl ?_
      refine m_slen h hX hbl hbA dL_law_20 ?_
      refine m_bipush h dL_law_21 (by decide) ?_
      refine m_isub h dL_law_23 ?_
      refine m_icmp_gt h dL_law_24 (tgt := 602) (by decide) (by omega) (by omega) (fun c1 => ?_) (fun c1 => ?_)
      · skip
        refine m_iconst h dL_law_602 ?_
        exact hend _ _
      · skip
        refine m_aload_n h dL_law_27 rfl rfl ?_
        refine m_iload_n h dL_law_28 rfl rfl ?_
        refine m_sldz h hX hbl hbA hL (by omega) (by omega) dL_law_29 ?_
        refine m_bipush h dL_law_30 (by decide) ?_
        obtain ⟨sel, hsel, hse⟩ := and15 (iI (zX xs i))
        refine m_iand h dL_law_32 (c := sel) hse ?_
        rcases (show sel = 0 ∨ sel = 1 ∨ sel = 2 ∨ sel = 3 ∨ sel = 4 ∨ sel = 5 ∨ sel = 6 ∨ sel = 7 ∨ sel = 8 ∨ sel = 9 ∨ sel = 10 ∨ sel = 11 ∨ sel = 12 ∨ sel = 13 ∨ sel = 14 ∨ sel = 15 ∨ (sel < 0 ∨ 15 < sel) by omega) with sw2 | sw2 | sw2 | sw2 | sw2 | sw2 | sw2 | sw2 | sw2 | sw2 | sw2 | sw2 | sw2 | sw2 | sw2 | sw2 | sw2
        · skip
          refine m_tsIn h dL_law_33 (off := 79) (tgt := 112) (by omega) (by omega) (by omega) (by rw [sw2]; rfl) (by decide) ?_
          refine m_aload_n h dL_law_112 rfl rfl ?_
          refine m_aload_n h dL_law_113 rfl rfl ?_
          refine m_iload_n h dL_law_114 rfl rfl ?_
          refine m_iconst h dL_law_115 ?_
          refine m_iadd h dL_law_116 ?_
          refine m_sldz h hX hbl hbA hL (by omega) (by omega) dL_law_117 ?_
          refine m_aload_n h dL_law_118 rfl rfl ?_
          refine m_iload_n h dL_law_119 rfl rfl ?_
          refine m_iconst h dL_law_120 ?_
          refine m_iadd h dL_law_121 ?_
          refine m_sldz h hX hbl hbA hL (by omega) (by omega) dL_law_122 ?_
          refine m_vI h  (c_name _ hG v hI.1 (zX xs (i + 1)) (zX_rg _ _) (zX xs (i + 2)) (zX_rg _ _)) moX7_name voX7_name lk_L_13 dL_law_123 (by decide) (by decide) rfl rfl rfl (Nat.le_of_ble_eq_true rfl) (fun r1 u1 p5 => ?_)
          have p1 : cpost v ((-32 ≤ (zX xs (i + 1)) ∧ (zX xs (i + 1)) ≤ 31) ∧ (-32 ≤ (zX xs (i + 2)) ∧ (zX xs (i + 2)) ≤ 31) ∧ (zX xs (i + 1)) ≤ (zX xs (i + 2))) (g_n (gC v) = 8) (-1003) 0 (fun r => r = g_n (gC v)) (nmG (gC v) (zX xs (i + 1)) (zX xs (i + 2))) r1 u1 := by
            rcases p5 with q | ⟨bb, q | ⟨cc, q⟩⟩
            · exact Or.inl q
            · exact Or.inr ⟨bb, Or.inl q⟩
            · exact Or.inr ⟨bb, Or.inr ⟨by omega, q⟩⟩
          have hRu := hI.2.2.f8 (cp_f8 p1)
          refine m_aload_n h dL_law_126 rfl rfl ?_
          refine m_aload_n h dL_law_127 rfl rfl ?_
          refine m_iload_n h dL_law_128 rfl rfl ?_
          refine m_iconst h dL_law_129 ?_
          refine m_iadd h dL_law_130 ?_
          refine m_sldz h hX hbl hbA hL (by omega) (by omega) dL_law_131 ?_
          refine m_aload_n h dL_law_132 rfl rfl ?_
          refine m_iload_n h dL_law_133 rfl rfl ?_
          refine m_iconst h dL_law_134 ?_
          refine m_iadd h dL_law_135 ?_
          refine m_sldz h hX hbl hbA hL (by omega) (by omega) dL_law_136 ?_
          refine m_vI h  (m_name _ hG u1 (gC v) (tC v) hg hRu  (zX xs (i + 1)) (zX_rg _ _) (zX xs (i + 2)) (zX_rg _ _)) moX8_name voX8_name lk_L_17 dL_law_137 (by decide) (by decide) rfl rfl rfl (Nat.le_of_ble_eq_true rfl) (fun r2 u2 p8 => ?_)
          have p2 : mpost u1 (tC v) ((-32 ≤ (zX xs (i + 1)) ∧ (zX xs (i + 1)) ≤ 31) ∧ (-32 ≤ (zX xs (i + 2)) ∧ (zX xs (i + 2)) ≤ 31) ∧ (zX xs (i + 1)) ≤ (zX xs (i + 2))) (g_n (gC v) = 8) (-1003) 0 (fun r => r = g_n (gC v)) (nmG (gC v) (zX xs (i + 1)) (zX xs (i + 2))) r2 u2 := by
            rcases p8 with q | ⟨bb, q | ⟨cc, q⟩⟩
            · exact Or.inl q
            · exact Or.inr ⟨bb, Or.inl q⟩
            · exact Or.inr ⟨bb, Or.inr ⟨by omega, q⟩⟩
          obtain ⟨heq, hIn⟩ := pr_cm hI (fun _ _ e1 e2 => e1.trans e2.symm) p1 p2
          refine m_eqT h dL_law_140 (tgt := 596) (by decide) heq ?_
          refine m_iinc h dL_law_596 rfl (by decide) rfl ?_
          refine m_goto h dL_law_599 (tgt := 18) (by decide) ?_
          exact ih _ _ (by omega) (by omega) (by omega) hIn
        · skip
          refine m_tsIn h dL_law_33 (off := 112) (tgt := 145) (by omega) (by omega) (by omega) (by rw [sw2]; rfl) (by decide) ?_
          refine m_aload_n h dL_law_145 rfl rfl ?_
          refine m_aload_n h dL_law_146 rfl rfl ?_
          refine m_iload_n h dL_law_147 rfl rfl ?_
          refine m_iconst h dL_law_148 ?_
          refine m_iadd h dL_law_149 ?_
          refine m_sldz h hX hbl hbA hL (by omega) (by omega) dL_law_150 ?_
          refine m_aload_n h dL_law_151 rfl rfl ?_
          refine m_iload_n h dL_law_152 rfl rfl ?_
          refine m_iconst h dL_law_153 ?_
          refine m_iadd h dL_law_154 ?_
          refine m_sldz h hX hbl hbA hL (by omega) (by omega) dL_law_155 ?_
          refine m_vI h  (c_leave _ hG v hI.1 (zX xs (i + 1)) (zX_rg _ _) (zX xs (i + 2)) (zX_rg _ _)) moX7_leave voX7_leave lk_L_18 dL_law_156 (by decide) (by decide) rfl rfl rfl (Nat.le_of_ble_eq_true rfl) (fun r1 u1 p11 => ?_)
          have p1 : cpost v (isNm (gC v) (zX xs (i + 1)) ∧ -32 ≤ (zX xs (i + 2)) ∧ (zX xs (i + 2)) ≤ 31) (∀ k, g_i (gC v) (zX xs (i + 1)) k = decide (k = (zX xs (i + 2)) + 32)) (-1002) 0 (fun r => bz r (g_i (gC v) (zX xs (i + 1)) ((zX xs (i + 2)) + 32) = true)) (lvG (gC v) (zX xs (i + 1)) (zX xs (i + 2))) r1 u1 := by
            rcases p11 with q | ⟨bb, q | ⟨cc, q⟩⟩
            · exact Or.inl q
            · exact Or.inr ⟨bb, Or.inl q⟩
            · exact Or.inr ⟨bb, Or.inr ⟨cc, q⟩⟩
          have hRu := hI.2.2.f8 (cp_f8 p1)
          refine m_aload_n h dL_law_159 rfl rfl ?_
          refine m_aload_n h dL_law_160 rfl rfl ?_
          refine m_iload_n h dL_law_161 rfl rfl ?_
          refine m_iconst h dL_law_162 ?_
          refine m_iadd h dL_law_163 ?_
          refine m_sldz h hX hbl hbA hL (by omega) (by omega) dL_law_164 ?_
          refine m_aload_n h dL_law_165 rfl rfl ?_
          refine m_iload_n h dL_law_166 rfl rfl ?_
          refine m_iconst h dL_law_167 ?_
          refine m_iadd h dL_law_168 ?_
          refine m_sldz h hX hbl hbA hL (by omega) (by omega) dL_law_169 ?_
          refine m_vI h  (m_leave _ hG u1 (gC v) (tC v) hg hRu gC_Z (zX xs (i + 1)) (zX_rg _ _) (zX xs (i + 2)) (zX_rg _ _)) moX8_leave voX8_leave lk_L_21 dL_law_170 (by decide) (by decide) rfl rfl rfl (Nat.le_of_ble_eq_true rfl) (fun r2 u2 p14 => ?_)
          have p2 : mpost u1 (tC v) (isNm (gC v) (zX xs (i + 1)) ∧ -32 ≤ (zX xs (i + 2)) ∧ (zX xs (i + 2)) ≤ 31) (∀ k, g_i (gC v) (zX xs (i + 1)) k = decide (k = (zX xs (i + 2)) + 32)) (-1002) 0 (fun r => bz r (g_i (gC v) (zX xs (i + 1)) ((zX xs (i + 2)) + 32) = true)) (lvG (gC v) (zX xs (i + 1)) (zX xs (i + 2))) r2 u2 := by
            rcases p14 with q | ⟨bb, q | ⟨cc, q⟩⟩
            · exact Or.inl q
            · exact Or.inr ⟨bb, Or.inl q⟩
            · exact Or.inr ⟨bb, Or.inr ⟨cc, q⟩⟩
          obtain ⟨heq, hIn⟩ := pr_cm hI (fun _ _ => bz_u) p1 p2
          refine m_eqT h dL_law_173 (tgt := 596) (by decide) heq ?_
          refine m_iinc h dL_law_596 rfl (by decide) rfl ?_
          refine m_goto h dL_law_599 (tgt := 18) (by decide) ?_
          exact ih _ _ (by omega) (by omega) (by omega) hIn
        · skip
          refine m_tsIn h dL_law_33 (off := 145) (tgt := 178) (by omega) (by omega) (by omega) (by rw [sw2]; rfl) (by decide) ?_
          refine m_aload_n h dL_law_178 rfl rfl ?_
          refine m_aload_n h dL_law_179 rfl rfl ?_
          refine m_iload_n h dL_law_180 rfl rfl ?_
          refine m_iconst h dL_law_181 ?_
          refine m_iadd h dL_law_182 ?_
          refine m_sldz h hX hbl hbA hL (by omega) (by omega) dL_law_183 ?_
          refine m_aload_n h dL_law_184 rfl rfl ?_
          refine m_iload_n h dL_law_185 rfl rfl ?_
          refine m_iconst h dL_law_186 ?_
          refine m_iadd h dL_law_187 ?_
          refine m_sldz h hX hbl hbA hL (by omega) (by omega) dL_law_188 ?_
          refine m_aload_n h dL_law_189 rfl rfl ?_
          refine m_iload_n h dL_law_190 rfl rfl ?_
          refine m_iconst h dL_law_191 ?_
          refine m_iadd h dL_law_192 ?_
          refine m_sldz h hX hbl hbA hL (by omega) (by omega) dL_law_193 ?_
          refine m_aload_n h dL_law_194 rfl rfl ?_
          refine m_iload_n h dL_law_195 rfl rfl ?_
          refine m_iconst h dL_law_196 ?_
          refine m_iadd h dL_law_197 ?_
          refine m_sldz h hX hbl hbA hL (by omega) (by omega) dL_law_198 ?_
          refine m_aload_n h dL_law_199 rfl rfl ?_
          refine m_iload_n h dL_law_200 rfl rfl ?_
          refine m_iconst h dL_law_201 ?_
          refine m_iadd h dL_law_202 ?_
          refine m_sldz h hX hbl hbA hL (by omega) (by omega) dL_law_203 ?_
          refine m_vIz h hZs (c_row _ hG v hI.1 (zX xs (i + 1)) (zX_rg _ _) (zX xs (i + 2)) (zX_rg _ _) (zX xs (i + 3)) (zX_rg _ _) (zX xs (i + 4)) (zX_rg _ _) (zX xs (i + 5)) (zX_rg _ _)) moX7_row voX7_row lk_L_22 dL_law_204 (by decide) (by decide) rfl rfl rfl (Nat.le_of_ble_eq_true rfl) (fun r1 u1 p17 => ?_)
          have p1 : cpost v (RwGood (gC v) (zX xs (i + 1)) (zX xs (i + 2)) (zX xs (i + 3)) (zX xs (i + 4)) (zX xs (i + 5))) (g_r (gC v) = 12) (-1003) 0 (fun r => r = g_r (gC v)) (rwG (gC v) (zX xs (i + 1)) (if 1 ≤ NKs (zX xs (i + 1)) then (zX xs (i + 2)) else -1) (if 2 ≤ NKs (zX xs (i + 1)) then (zX xs (i + 3)) else -1) (if 3 ≤ NKs (zX xs (i + 1)) then (zX xs (i + 4)) else -1) (zX xs (i + 5))) r1 u1 := by
            rcases p17 with q | ⟨bb, q | ⟨cc, q⟩⟩
            · exact Or.inl q
            · exact Or.inr ⟨bb, Or.inl q⟩
            · exact Or.inr ⟨bb, Or.inr ⟨by omega, q⟩⟩
          have hRu := hI.2.2.f8 (cp_f8 p1)
          refine m_aload_n h dL_law_207 rfl rfl ?_
          refine m_aload_n h dL_law_208 rfl rfl ?_
          refine m_iload_n h dL_law_209 rfl rfl ?_
          refine m_iconst h dL_law_210 ?_
          refine m_iadd h dL_law_211 ?_
          refine m_sldz h hX hbl hbA hL (by omega) (by omega) dL_law_212 ?_
          refine m_aload_n h dL_law_213 rfl rfl ?_
          refine m_iload_n h dL_law_214 rfl rfl ?_
          refine m_iconst h dL_law_215 ?_
          refine m_iadd h dL_law_216 ?_
          refine m_sldz h hX hbl hbA hL (by omega) (by omega) dL_law_217 ?_
          refine m_aload_n h dL_law_218 rfl rfl ?_
          refine m_iload_n h dL_law_219 rfl rfl ?_
          refine m_iconst h dL_law_220 ?_
          refine m_iadd h dL_law_221 ?_
          refine m_sldz h hX hbl hbA hL (by omega) (by omega) dL_law_222 ?_
          refine m_aload_n h dL_law_223 rfl rfl ?_
          refine m_iload_n h dL_law_224 rfl rfl ?_
          refine m_iconst h dL_law_225 ?_
          refine m_iadd h dL_law_226 ?_
          refine m_sldz h hX hbl hbA hL (by omega) (by omega) dL_law_227 ?_
          refine m_aload_n h dL_law_228 rfl rfl ?_
          refine m_iload_n h dL_law_229 rfl rfl ?_
          refine m_iconst h dL_law_230 ?_
          refine m_iadd h dL_law_231 ?_
          refine m_sldz h hX hbl hbA hL (by omega) (by omega) dL_law_232 ?_
          refine m_vI h  (m_row _ hG u1 (gC v) (tC v) hg hRu  (zX xs (i + 1)) (zX_rg _ _) (zX xs (i + 2)) (zX_rg _ _) (zX xs (i + 3)) (zX_rg _ _) (zX xs (i + 4)) (zX_rg _ _) (zX xs (i + 5)) (zX_rg _ _)) moX8_row voX8_row lk_L_26 dL_law_233 (by decide) (by decide) rfl rfl rfl (Nat.le_of_ble_eq_true rfl) (fun r2 u2 p20 => ?_)
          have p2 : mpost u1 (tC v) (RwGood (gC v) (zX xs (i + 1)) (zX xs (i + 2)) (zX xs (i + 3)) (zX xs (i + 4)) (zX xs (i + 5))) (g_r (gC v) = 12) (-1003) 0 (fun r => r = g_r (gC v)) (rwG (gC v) (zX xs (i + 1)) (if 1 ≤ NKs (zX xs (i + 1)) then (zX xs (i + 2)) else -1) (if 2 ≤ NKs (zX xs (i + 1)) then (zX xs (i + 3)) else -1) (if 3 ≤ NKs (zX xs (i + 1)) then (zX xs (i + 4)) else -1) (zX xs (i + 5))) r2 u2 := by
            rcases p20 with q | ⟨bb, q | ⟨cc, q⟩⟩
            · exact Or.inl q
            · exact Or.inr ⟨bb, Or.inl q⟩
            · exact Or.inr ⟨bb, Or.inr ⟨by omega, q⟩⟩
          obtain ⟨heq, hIn⟩ := pr_cm hI (fun _ _ e1 e2 => e1.trans e2.symm) p1 p2
          refine m_eqT h dL_law_236 (tgt := 596) (by decide) heq ?_
          refine m_iinc h dL_law_596 rfl (by decide) rfl ?_
          refine m_goto h dL_law_599 (tgt := 18) (by decide) ?_
          exact ih _ _ (by omega) (by omega) (by omega) hIn
        · skip
          refine m_tsIn h dL_law_33 (off := 208) (tgt := 241) (by omega) (by omega) (by omega) (by rw [sw2]; rfl) (by decide) ?_
          refine m_aload_n h dL_law_241 rfl rfl ?_
          refine m_aload_n h dL_law_242 rfl rfl ?_
          refine m_iload_n h dL_law_243 rfl rfl ?_
          refine m_iconst h dL_law_244 ?_
          refine m_iadd h dL_law_245 ?_
          refine m_sldz h hX hbl hbA hL (by omega) (by omega) dL_law_246 ?_
          refine m_aload_n h dL_law_247 rfl rfl ?_
          refine m_iload_n h dL_law_248 rfl rfl ?_
          refine m_iconst h dL_law_249 ?_
          refine m_iadd h dL_law_250 ?_
          refine m_sldz h hX hbl hbA hL (by omega) (by omega) dL_law_251 ?_
          refine m_aload_n h dL_law_252 rfl rfl ?_
          refine m_iload_n h dL_law_253 rfl rfl ?_
          refine m_iconst h dL_law_254 ?_
          refine m_iadd h dL_law_255 ?_
          refine m_sldz h hX hbl hbA hL (by omega) (by omega) dL_law_256 ?_
          refine m_vI h  (c_factor _ hG v hI.1 (zX xs (i + 1)) (zX_rg _ _) (zX xs (i + 2)) (zX_rg _ _) (zX xs (i + 3)) (zX_rg _ _)) moX7_factor voX7_factor lk_L_27 dL_law_257 (by decide) (by decide) rfl rfl rfl (Nat.le_of_ble_eq_true rfl) (fun r1 u1 p23 => ?_)
          have p1 : cpost v ((0 ≤ (zX xs (i + 1)) ∧ (zX xs (i + 1)) < g_r (gC v)) ∧ isNm (gC v) (zX xs (i + 2)) ∧ -9 ≤ (zX xs (i + 3)) ∧ (zX xs (i + 3)) ≤ 9) ((2 ≤ g_a (gC v) (zX xs (i + 1)).toNat 0 ∧ g_a (gC v) (zX xs (i + 1)).toNat 0 ≤ 7) ∨ g_a (gC v) (zX xs (i + 1)).toNat 1 = (zX xs (i + 2))) (-1002) 0 (fun r => r = g_f (gC v) (zX xs (i + 1)).toNat (zX xs (i + 2))) (fcG (gC v) (zX xs (i + 1)).toNat (zX xs (i + 2)) (zX xs (i + 3))) r1 u1 := by
            rcases p23 with q | ⟨bb, q | ⟨cc, q⟩⟩
            · exact Or.inl q
            · exact Or.inr ⟨bb, Or.inl q⟩
            · obtain ⟨y1, y2, y3, y4, y5⟩ := q
              exact Or.inr ⟨bb, Or.inr ⟨cc, y1, y2, y3, y4, by rw [y5]; exact Fr8_bA (fun i a b => wI_c (by omega))⟩⟩
          have hRu := hI.2.2.f8 (cp_f8 p1)
          refine m_aload_n h dL_law_260 rfl rfl ?_
          refine m_aload_n h dL_law_261 rfl rfl ?_
          refine m_iload_n h dL_law_262 rfl rfl ?_
          refine m_iconst h dL_law_263 ?_
          refine m_iadd h dL_law_264 ?_
          refine m_sldz h hX hbl hbA hL (by omega) (by omega) dL_law_265 ?_
          refine m_aload_n h dL_law_266 rfl rfl ?_
          refine m_iload_n h dL_law_267 rfl rfl ?_
          refine m_iconst h dL_law_268 ?_
          refine m_iadd h dL_law_269 ?_
          refine m_sldz h hX hbl hbA hL (by omega) (by omega) dL_law_270 ?_
          refine m_aload_n h dL_law_271 rfl rfl ?_
          refine m_iload_n h dL_law_272 rfl rfl ?_
          refine m_iconst h dL_law_273 ?_
          refine m_iadd h dL_law_274 ?_
          refine m_sldz h hX hbl hbA hL (by omega) (by omega) dL_law_275 ?_
          refine m_vI h  (m_factor _ hG u1 (gC v) (tC v) hg hRu  (zX xs (i + 1)) (zX_rg _ _) (zX xs (i + 2)) (zX_rg _ _) (zX xs (i + 3)) (zX_rg _ _)) moX8_factor voX8_factor lk_L_31 dL_law_276 (by decide) (by decide) rfl rfl rfl (Nat.le_of_ble_eq_true rfl) (fun r2 u2 p26 => ?_)
          have p2 : mpost u1 (tC v) ((0 ≤ (zX xs (i + 1)) ∧ (zX xs (i + 1)) < g_r (gC v)) ∧ isNm (gC v) (zX xs (i + 2)) ∧ -9 ≤ (zX xs (i + 3)) ∧ (zX xs (i + 3)) ≤ 9) ((2 ≤ g_a (gC v) (zX xs (i + 1)).toNat 0 ∧ g_a (gC v) (zX xs (i + 1)).toNat 0 ≤ 7) ∨ g_a (gC v) (zX xs (i + 1)).toNat 1 = (zX xs (i + 2))) (-1002) 0 (fun r => r = g_f (gC v) (zX xs (i + 1)).toNat (zX xs (i + 2))) (fcG (gC v) (zX xs (i + 1)).toNat (zX xs (i + 2)) (zX xs (i + 3))) r2 u2 := by
            rcases p26 with q | ⟨bb, q | ⟨cc, q⟩⟩
            · exact Or.inl q
            · exact Or.inr ⟨bb, Or.inl q⟩
            · exact Or.inr ⟨bb, Or.inr ⟨cc, q⟩⟩
          obtain ⟨heq, hIn⟩ := pr_cm hI (fun _ _ e1 e2 => e1.trans e2.symm) p1 p2
          refine m_eqT h dL_law_279 (tgt := 596) (by decide) heq ?_
          refine m_iinc h dL_law_596 rfl (by decide) rfl ?_
          refine m_goto h dL_law_599 (tgt := 18) (by decide) ?_
          exact ih _ _ (by omega) (by omega) (by omega) hIn
        · skip
          refine m_tsIn h dL_law_33 (off := 251) (tgt := 284) (by omega) (by omega) (by omega) (by rw [sw2]; rfl) (by decide) ?_
          refine m_aload_n h dL_law_284 rfl rfl ?_
          refine m_vI h  (c_clear _ hG v hI.1 ) moX7_clear voX7_clear lk_L_32 dL_law_285 (by decide) (by decide) rfl rfl rfl (Nat.le_of_ble_eq_true rfl) (fun r1 u1 p29 => ?_)
          have p1 : cpost v (True) (False) (0) 0 (fun r => r = g_n (gC v)) (clG (gC v)) r1 u1 := by
            obtain ⟨y1, y2, y3, y4, y5⟩ := p29
            exact Or.inr ⟨trivial, Or.inr ⟨id, y1, y2, y3, y4, by rw [y5]; exact Fr8_bA (fun i a b => by rw [wI_c (by omega), wI_c (by omega)])⟩⟩
          have hRu := hI.2.2.f8 (cp_f8 p1)
          refine m_aload_n h dL_law_288 rfl rfl ?_
          refine m_vI h  (m_clear _ hG u1 (gC v) (tC v) hg hRu  ) moX8_clear voX8_clear lk_L_36 dL_law_289 (by decide) (by decide) rfl rfl rfl (Nat.le_of_ble_eq_true rfl) (fun r2 u2 p32 => ?_)
          have p2 : mpost u1 (tC v) (True) (False) (0) 0 (fun r => r = g_n (gC v)) (clG (gC v)) r2 u2 := by
            exact Or.inr ⟨trivial, Or.inr ⟨id, p32⟩⟩
          obtain ⟨heq, hIn⟩ := pr_cm hI (fun _ _ e1 e2 => e1.trans e2.symm) p1 p2
          refine m_eqT h dL_law_292 (tgt := 596) (by decide) heq ?_
          refine m_iinc h dL_law_596 rfl (by decide) rfl ?_
          refine m_goto h dL_law_599 (tgt := 18) (by decide) ?_
          exact ih _ _ (by omega) (by omega) (by omega) hIn
        · skip
          refine m_tsIn h dL_law_33 (off := 264) (tgt := 297) (by omega) (by omega) (by omega) (by rw [sw2]; rfl) (by decide) ?_
          refine m_aload_n h dL_law_297 rfl rfl ?_
          refine m_aload_n h dL_law_298 rfl rfl ?_
          refine m_iload_n h dL_law_299 rfl rfl ?_
          refine m_iconst h dL_law_300 ?_
          refine m_iadd h dL_law_301 ?_
          refine m_sldz h hX hbl hbA hL (by omega) (by omega) dL_law_302 ?_
          refine m_aload_n h dL_law_303 rfl rfl ?_
          refine m_iload_n h dL_law_304 rfl rfl ?_
          refine m_iconst h dL_law_305 ?_
          refine m_iadd h dL_law_306 ?_
          refine m_sldz h hX hbl hbA hL (by omega) (by omega) dL_law_307 ?_
          refine m_vI h  (c_run _ hG v hI.1 (zX xs (i + 1)) (zX_rg _ _) (zX xs (i + 2)) (zX_rg _ _)) moX7_run voX7_run lk_L_37 dL_law_308 (by decide) (by decide) rfl rfl rfl (Nat.le_of_ble_eq_true rfl) (fun r1 u1 p1 => ?_)
          have hRu := hI.2.2.f8 (run_f8 p1)
          refine m_aload_n h dL_law_311 rfl rfl ?_
          refine m_aload_n h dL_law_312 rfl rfl ?_
          refine m_iload_n h dL_law_313 rfl rfl ?_
          refine m_iconst h dL_law_314 ?_
          refine m_iadd h dL_law_315 ?_
          refine m_sldz h hX hbl hbA hL (by omega) (by omega) dL_law_316 ?_
          refine m_aload_n h dL_law_317 rfl rfl ?_
          refine m_iload_n h dL_law_318 rfl rfl ?_
          refine m_iconst h dL_law_319 ?_
          refine m_iadd h dL_law_320 ?_
          refine m_sldz h hX hbl hbA hL (by omega) (by omega) dL_law_321 ?_
          refine m_vI h  (m_runM _ hG u1 (gC v) (tC v) hg ht hRu (zX xs (i + 1)) (zX_rg _ _) (zX xs (i + 2)) (zX_rg _ _)) moX8_run voX8_run lk_L_40 dL_law_322 (by decide) (by decide) rfl rfl rfl (Nat.le_of_ble_eq_true rfl) (fun r2 u2 p2 => ?_)
          obtain ⟨heq, hIn⟩ := pr_run hI p1 p2
          refine m_eqT h dL_law_325 (tgt := 596) (by decide) heq ?_
          refine m_iinc h dL_law_596 rfl (by decide) rfl ?_
          refine m_goto h dL_law_599 (tgt := 18) (by decide) ?_
          exact ih _ _ (by omega) (by omega) (by omega) hIn
        · skip
          refine m_tsIn h dL_law_33 (off := 297) (tgt := 330) (by omega) (by omega) (by omega) (by rw [sw2]; rfl) (by decide) ?_
          refine m_aload_n h dL_law_330 rfl rfl ?_
          refine m_vI h  (c_clash _ hG v hI.1 ) moX7_clash voX7_clash lk_L_41 dL_law_331 (by decide) (by decide) rfl rfl rfl (Nat.le_of_ble_eq_true rfl) (fun r1 u40 p41 => ?_)
          obtain ⟨hu1, a1⟩ := p41
          rw [hu1]
          refine m_aload_n h dL_law_334 rfl rfl ?_
          refine m_vI h  (m_clash _ hG v (gC v) (tC v) hg ht hI.2.2 ) moX8_clash voX8_clash lk_L_44 dL_law_335 (by decide) (by decide) rfl rfl rfl (Nat.le_of_ble_eq_true rfl) (fun r2 u43 p44 => ?_)
          obtain ⟨hu2, a2⟩ := p44
          rw [hu2]
          have heq : r1 = r2 := a1.trans a2.symm
          have hIn : INV v := hI
          refine m_eqT h dL_law_338 (tgt := 596) (by decide) heq ?_
          refine m_iinc h dL_law_596 rfl (by decide) rfl ?_
          refine m_goto h dL_law_599 (tgt := 18) (by decide) ?_
          exact ih _ _ (by omega) (by omega) (by omega) hIn
        · skip
          refine m_tsIn h dL_law_33 (off := 310) (tgt := 343) (by omega) (by omega) (by omega) (by rw [sw2]; rfl) (by decide) ?_
          refine m_aload_n h dL_law_343 rfl rfl ?_
          refine m_aload_n h dL_law_344 rfl rfl ?_
          refine m_iload_n h dL_law_345 rfl rfl ?_
          refine m_iconst h dL_law_346 ?_
          refine m_iadd h dL_law_347 ?_
          refine m_sldz h hX hbl hbA hL (by omega) (by omega) dL_law_348 ?_
          refine m_aload_n h dL_law_349 rfl rfl ?_
          refine m_iload_n h dL_law_350 rfl rfl ?_
          refine m_iconst h dL_law_351 ?_
          refine m_iadd h dL_law_352 ?_
          refine m_sldz h hX hbl hbA hL (by omega) (by omega) dL_law_353 ?_
          refine m_vI h  (c_has _ hG v hI.1 (zX xs (i + 1)) (zX_rg _ _) (zX xs (i + 2)) (zX_rg _ _)) moX7_has voX7_has lk_L_45 dL_law_354 (by decide) (by decide) rfl rfl rfl (Nat.le_of_ble_eq_true rfl) (fun r1 u46 p47 => ?_)
          obtain ⟨hu1, a1⟩ := p47
          rw [hu1]
          refine m_aload_n h dL_law_357 rfl rfl ?_
          refine m_aload_n h dL_law_358 rfl rfl ?_
          refine m_iload_n h dL_law_359 rfl rfl ?_
          refine m_iconst h dL_law_360 ?_
          refine m_iadd h dL_law_361 ?_
          refine m_sldz h hX hbl hbA hL (by omega) (by omega) dL_law_362 ?_
          refine m_aload_n h dL_law_363 rfl rfl ?_
          refine m_iload_n h dL_law_364 rfl rfl ?_
          refine m_iconst h dL_law_365 ?_
          refine m_iadd h dL_law_366 ?_
          refine m_sldz h hX hbl hbA hL (by omega) (by omega) dL_law_367 ?_
          refine m_vI h  (m_has _ hG v (gC v) (tC v) hg ht hI.2.2 (zX xs (i + 1)) (zX_rg _ _) (zX xs (i + 2)) (zX_rg _ _)) moX8_has voX8_has lk_L_48 dL_law_368 (by decide) (by decide) rfl rfl rfl (Nat.le_of_ble_eq_true rfl) (fun r2 u49 p50 => ?_)
          obtain ⟨hu2, a2⟩ := p50
          rw [hu2]
          have heq : r1 = r2 := has_u a1 a2
          have hIn : INV v := hI
          refine m_eqT h dL_law_371 (tgt := 596) (by decide) heq ?_
          refine m_iinc h dL_law_596 rfl (by decide) rfl ?_
          refine m_goto h dL_law_599 (tgt := 18) (by decide) ?_
          exact ih _ _ (by omega) (by omega) (by omega) hIn
        · skip
          refine m_tsIn h dL_law_33 (off := 343) (tgt := 376) (by omega) (by omega) (by omega) (by rw [sw2]; rfl) (by decide) ?_
          refine m_aload_n h dL_law_376 rfl rfl ?_
          refine m_aload_n h dL_law_377 rfl rfl ?_
          refine m_iload_n h dL_law_378 rfl rfl ?_
          refine m_iconst h dL_law_379 ?_
          refine m_iadd h dL_law_380 ?_
          refine m_sldz h hX hbl hbA hL (by omega) (by omega) dL_law_381 ?_
          refine m_aload_n h dL_law_382 rfl rfl ?_
          refine m_iload_n h dL_law_383 rfl rfl ?_
          refine m_iconst h dL_law_384 ?_
          refine m_iadd h dL_law_385 ?_
          refine m_sldz h hX hbl hbA hL (by omega) (by omega) dL_law_386 ?_
          refine m_if_eq h dL_law_387 (tgt := 394) (by decide) (zX_rg _ _) (fun c51 => ?_) (fun c51 => ?_)
          · skip
            refine m_iconst h dL_law_394 ?_
            refine m_vI h  (c_end _ hG v hI.1 (zX xs (i + 1)) (zX_rg _ _) 0 (by omega)) moX7_end voX7_end lk_L_49 dL_law_395 (by decide) (by decide) rfl rfl rfl (Nat.le_of_ble_eq_true rfl) (fun rE0 u53 p54 => ?_)
            obtain ⟨hu1, a1⟩ := p54
            rw [hu1]
            refine m_aload_n h dL_law_398 rfl rfl ?_
            refine m_aload_n h dL_law_399 rfl rfl ?_
            refine m_iload_n h dL_law_400 rfl rfl ?_
            refine m_iconst h dL_law_401 ?_
            refine m_iadd h dL_law_402 ?_
            refine m_sldz h hX hbl hbA hL (by omega) (by omega) dL_law_403 ?_
            refine m_aload_n h dL_law_404 rfl rfl ?_
            refine m_iload_n h dL_law_405 rfl rfl ?_
            refine m_iconst h dL_law_406 ?_
            refine m_iadd h dL_law_407 ?_
            refine m_sldz h hX hbl hbA hL (by omega) (by omega) dL_law_408 ?_
            refine m_if_eq h dL_law_409 (tgt := 416) (by decide) (zX_rg _ _) (fun c55 => ?_) (fun c55 => ?_)
            · skip
              refine m_iconst h dL_law_416 ?_
              refine m_vI h  (m_end _ hG v (gC v) (tC v) hg ht hI.2.2 (zX xs (i + 1)) (zX_rg _ _) 0 (by omega)) moX8_end voX8_end lk_L_53 dL_law_417 (by decide) (by decide) rfl rfl rfl (Nat.le_of_ble_eq_true rfl) (fun r2 u57 p58 => ?_)
              obtain ⟨hu2, a2⟩ := p58
              rw [hu2]
              have heq : rE0 = r2 := end_u a1 a2
              have hIn : INV v := hI
              refine m_eqT h dL_law_420 (tgt := 596) (by decide) heq ?_
              refine m_iinc h dL_law_596 rfl (by decide) rfl ?_
              refine m_goto h dL_law_599 (tgt := 18) (by decide) ?_
              exact ih _ _ (by omega) (by omega) (by omega) hIn
            · skip
              omega
          · skip
            refine m_iconst h dL_law_390 ?_
            refine m_goto h dL_law_391 (tgt := 395) (by decide) ?_
            refine m_vI h  (c_end _ hG v hI.1 (zX xs (i + 1)) (zX_rg _ _) 1 (by omega)) moX7_end voX7_end lk_L_49 dL_law_395 (by decide) (by decide) rfl rfl rfl (Nat.le_of_ble_eq_true rfl) (fun rE1 u60 p61 => ?_)
            obtain ⟨hu1, a1⟩ := p61
            rw [hu1]
            refine m_aload_n h dL_law_398 rfl rfl ?_
            refine m_aload_n h dL_law_399 rfl rfl ?_
            refine m_iload_n h dL_law_400 rfl rfl ?_
            refine m_iconst h dL_law_401 ?_
            refine m_iadd h dL_law_402 ?_
            refine m_sldz h hX hbl hbA hL (by omega) (by omega) dL_law_403 ?_
            refine m_aload_n h dL_law_404 rfl rfl ?_
            refine m_iload_n h dL_law_405 rfl rfl ?_
            refine m_iconst h dL_law_406 ?_
            refine m_iadd h dL_law_407 ?_
            refine m_sldz h hX hbl hbA hL (by omega) (by omega) dL_law_408 ?_
            refine m_if_eq h dL_law_409 (tgt := 416) (by decide) (zX_rg _ _) (fun c62 => ?_) (fun c62 => ?_)
            · skip
              omega
            · skip
              refine m_iconst h dL_law_412 ?_
              refine m_goto h dL_law_413 (tgt := 417) (by decide) ?_
              refine m_vI h  (m_end _ hG v (gC v) (tC v) hg ht hI.2.2 (zX xs (i + 1)) (zX_rg _ _) 1 (by omega)) moX8_end voX8_end lk_L_53 dL_law_417 (by decide) (by decide) rfl rfl rfl (Nat.le_of_ble_eq_true rfl) (fun r2 u64 p65 => ?_)
              obtain ⟨hu2, a2⟩ := p65
              rw [hu2]
              have heq : rE1 = r2 := end_u a1 a2
              have hIn : INV v := hI
              refine m_eqT h dL_law_420 (tgt := 596) (by decide) heq ?_
              refine m_iinc h dL_law_596 rfl (by decide) rfl ?_
              refine m_goto h dL_law_599 (tgt := 18) (by decide) ?_
              exact ih _ _ (by omega) (by omega) (by omega) hIn
        · skip
          refine m_tsIn h dL_law_33 (off := 392) (tgt := 425) (by omega) (by omega) (by omega) (by rw [sw2]; rfl) (by decide) ?_
          refine m_aload_n h dL_law_425 rfl rfl ?_
          refine m_aload_n h dL_law_426 rfl rfl ?_
          refine m_iload_n h dL_law_427 rfl rfl ?_
          refine m_iconst h dL_law_428 ?_
          refine m_iadd h dL_law_429 ?_
          refine m_sldz h hX hbl hbA hL (by omega) (by omega) dL_law_430 ?_
          refine m_vI h  (c_size _ hG v hI.1 (zX xs (i + 1)) (zX_rg _ _)) moX7_size voX7_size lk_L_54 dL_law_431 (by decide) (by decide) rfl rfl rfl (Nat.le_of_ble_eq_true rfl) (fun r1 u67 p68 => ?_)
          obtain ⟨hu1, a1⟩ := p68
          rw [hu1]
          refine m_aload_n h dL_law_434 rfl rfl ?_
          refine m_aload_n h dL_law_435 rfl rfl ?_
          refine m_iload_n h dL_law_436 rfl rfl ?_
          refine m_iconst h dL_law_437 ?_
          refine m_iadd h dL_law_438 ?_
          refine m_sldz h hX hbl hbA hL (by omega) (by omega) dL_law_439 ?_
          refine m_vI h  (m_size _ hG v (gC v) (tC v) hg ht hI.2.2 (zX xs (i + 1)) (zX_rg _ _)) moX8_size voX8_size lk_L_58 dL_law_440 (by decide) (by decide) rfl rfl rfl (Nat.le_of_ble_eq_true rfl) (fun r2 u70 p71 => ?_)
          obtain ⟨hu2, a2⟩ := p71
          rw [hu2]
          have heq : r1 = r2 := size_u a1 a2
          have hIn : INV v := hI
          refine m_eqT h dL_law_443 (tgt := 596) (by decide) heq ?_
          refine m_iinc h dL_law_596 rfl (by decide) rfl ?_
          refine m_goto h dL_law_599 (tgt := 18) (by decide) ?_
          exact ih _ _ (by omega) (by omega) (by omega) hIn
        · skip
          refine m_tsIn h dL_law_33 (off := 415) (tgt := 448) (by omega) (by omega) (by omega) (by rw [sw2]; rfl) (by decide) ?_
          refine m_aload_n h dL_law_448 rfl rfl ?_
          refine m_vI h  (c_steps _ hG v hI.1 ) moX7_steps voX7_steps lk_L_59 dL_law_449 (by decide) (by decide) rfl rfl rfl (Nat.le_of_ble_eq_true rfl) (fun r1 u73 p74 => ?_)
          obtain ⟨hu1, a1⟩ := p74
          rw [hu1]
          refine m_aload_n h dL_law_452 rfl rfl ?_
          refine m_vI h  (m_steps _ hG v (gC v) (tC v) hg ht hI.2.2 ) moX8_steps voX8_steps lk_L_62 dL_law_453 (by decide) (by decide) rfl rfl rfl (Nat.le_of_ble_eq_true rfl) (fun r2 u76 p77 => ?_)
          obtain ⟨hu2, a2⟩ := p77
          rw [hu2]
          have heq : r1 = r2 := a1.trans a2.symm
          have hIn : INV v := hI
          refine m_eqT h dL_law_456 (tgt := 596) (by decide) heq ?_
          refine m_iinc h dL_law_596 rfl (by decide) rfl ?_
          refine m_goto h dL_law_599 (tgt := 18) (by decide) ?_
          exact ih _ _ (by omega) (by omega) (by omega) hIn
        · skip
          refine m_tsIn h dL_law_33 (off := 428) (tgt := 461) (by omega) (by omega) (by omega) (by rw [sw2]; rfl) (by decide) ?_
          refine m_aload_n h dL_law_461 rfl rfl ?_
          refine m_aload_n h dL_law_462 rfl rfl ?_
          refine m_iload_n h dL_law_463 rfl rfl ?_
          refine m_iconst h dL_law_464 ?_
          refine m_iadd h dL_law_465 ?_
          refine m_sldz h hX hbl hbA hL (by omega) (by omega) dL_law_466 ?_
          refine m_aload_n h dL_law_467 rfl rfl ?_
          refine m_iload_n h dL_law_468 rfl rfl ?_
          refine m_iconst h dL_law_469 ?_
          refine m_iadd h dL_law_470 ?_
          refine m_sldz h hX hbl hbA hL (by omega) (by omega) dL_law_471 ?_
          refine m_vI h  (c_step _ hG v hI.1 (zX xs (i + 1)) (zX_rg _ _) (zX xs (i + 2)) (zX_rg _ _)) moX7_step voX7_step lk_L_63 dL_law_472 (by decide) (by decide) rfl rfl rfl (Nat.le_of_ble_eq_true rfl) (fun r1 u79 p80 => ?_)
          obtain ⟨hu1, a1⟩ := p80
          rw [hu1]
          refine m_aload_n h dL_law_475 rfl rfl ?_
          refine m_aload_n h dL_law_476 rfl rfl ?_
          refine m_iload_n h dL_law_477 rfl rfl ?_
          refine m_iconst h dL_law_478 ?_
          refine m_iadd h dL_law_479 ?_
          refine m_sldz h hX hbl hbA hL (by omega) (by omega) dL_law_480 ?_
          refine m_aload_n h dL_law_481 rfl rfl ?_
          refine m_iload_n h dL_law_482 rfl rfl ?_
          refine m_iconst h dL_law_483 ?_
          refine m_iadd h dL_law_484 ?_
          refine m_sldz h hX hbl hbA hL (by omega) (by omega) dL_law_485 ?_
          refine m_vI h  (m_step _ hG v (gC v) (tC v) hg ht hI.2.2 (zX xs (i + 1)) (zX_rg _ _) (zX xs (i + 2)) (zX_rg _ _)) moX8_step voX8_step lk_L_66 dL_law_486 (by decide) (by decide) rfl rfl rfl (Nat.le_of_ble_eq_true rfl) (fun r2 u82 p83 => ?_)
          obtain ⟨hu2, a2⟩ := p83
          rw [hu2]
          have heq : r1 = r2 := step_u a1 a2
          have hIn : INV v := hI
          refine m_eqT h dL_law_489 (tgt := 596) (by decide) heq ?_
          refine m_iinc h dL_law_596 rfl (by decide) rfl ?_
          refine m_goto h dL_law_599 (tgt := 18) (by decide) ?_
          exact ih _ _ (by omega) (by omega) (by omega) hIn
        · skip
          refine m_tsIn h dL_law_33 (off := 461) (tgt := 494) (by omega) (by omega) (by omega) (by rw [sw2]; rfl) (by decide) ?_
          refine m_aload_n h dL_law_494 rfl rfl ?_
          refine m_aload_n h dL_law_495 rfl rfl ?_
          refine m_iload_n h dL_law_496 rfl rfl ?_
          refine m_iconst h dL_law_497 ?_
          refine m_iadd h dL_law_498 ?_
          refine m_sldz h hX hbl hbA hL (by omega) (by omega) dL_law_499 ?_
          refine m_vI h  (c_reason _ hG v hI.1 (zX xs (i + 1)) (zX_rg _ _)) moX7_reason voX7_reason lk_L_67 dL_law_500 (by decide) (by decide) rfl rfl rfl (Nat.le_of_ble_eq_true rfl) (fun r1 u85 p86 => ?_)
          obtain ⟨hu1, a1⟩ := p86
          rw [hu1]
          refine m_aload_n h dL_law_503 rfl rfl ?_
          refine m_aload_n h dL_law_504 rfl rfl ?_
          refine m_iload_n h dL_law_505 rfl rfl ?_
          refine m_iconst h dL_law_506 ?_
          refine m_iadd h dL_law_507 ?_
          refine m_sldz h hX hbl hbA hL (by omega) (by omega) dL_law_508 ?_
          refine m_vI h  (m_reason _ hG v (gC v) (tC v) hg ht hI.2.2 (zX xs (i + 1)) (zX_rg _ _)) moX8_reason voX8_reason lk_L_70 dL_law_509 (by decide) (by decide) rfl rfl rfl (Nat.le_of_ble_eq_true rfl) (fun r2 u88 p89 => ?_)
          obtain ⟨hu2, a2⟩ := p89
          rw [hu2]
          have heq : r1 = r2 := reason_u a1 a2
          have hIn : INV v := hI
          refine m_eqT h dL_law_512 (tgt := 596) (by decide) heq ?_
          refine m_iinc h dL_law_596 rfl (by decide) rfl ?_
          refine m_goto h dL_law_599 (tgt := 18) (by decide) ?_
          exact ih _ _ (by omega) (by omega) (by omega) hIn
        · skip
          refine m_tsIn h dL_law_33 (off := 484) (tgt := 517) (by omega) (by omega) (by omega) (by rw [sw2]; rfl) (by decide) ?_
          refine m_aload_n h dL_law_517 rfl rfl ?_
          refine m_aload_n h dL_law_518 rfl rfl ?_
          refine m_iload_n h dL_law_519 rfl rfl ?_
          refine m_iconst h dL_law_520 ?_
          refine m_iadd h dL_law_521 ?_
          refine m_sldz h hX hbl hbA hL (by omega) (by omega) dL_law_522 ?_
          refine m_aload_n h dL_law_523 rfl rfl ?_
          refine m_iload_n h dL_law_524 rfl rfl ?_
          refine m_iconst h dL_law_525 ?_
          refine m_iadd h dL_law_526 ?_
          refine m_sldz h hX hbl hbA hL (by omega) (by omega) dL_law_527 ?_
          refine m_vI h  (c_part _ hG v hI.1 (zX xs (i + 1)) (zX_rg _ _) (zX xs (i + 2)) (zX_rg _ _)) moX7_part voX7_part lk_L_71 dL_law_528 (by decide) (by decide) rfl rfl rfl (Nat.le_of_ble_eq_true rfl) (fun r1 u91 p92 => ?_)
          obtain ⟨hu1, a1⟩ := p92
          rw [hu1]
          refine m_aload_n h dL_law_531 rfl rfl ?_
          refine m_aload_n h dL_law_532 rfl rfl ?_
          refine m_iload_n h dL_law_533 rfl rfl ?_
          refine m_iconst h dL_law_534 ?_
          refine m_iadd h dL_law_535 ?_
          refine m_sldz h hX hbl hbA hL (by omega) (by omega) dL_law_536 ?_
          refine m_aload_n h dL_law_537 rfl rfl ?_
          refine m_iload_n h dL_law_538 rfl rfl ?_
          refine m_iconst h dL_law_539 ?_
          refine m_iadd h dL_law_540 ?_
          refine m_sldz h hX hbl hbA hL (by omega) (by omega) dL_law_541 ?_
          refine m_vI h  (m_part _ hG v (gC v) (tC v) hg ht hI.2.2 (zX xs (i + 1)) (zX_rg _ _) (zX xs (i + 2)) (zX_rg _ _)) moX8_part voX8_part lk_L_74 dL_law_542 (by decide) (by decide) rfl rfl rfl (Nat.le_of_ble_eq_true rfl) (fun r2 u94 p95 => ?_)
          obtain ⟨hu2, a2⟩ := p95
          rw [hu2]
          have heq : r1 = r2 := part_u a1 a2
          have hIn : INV v := hI
          refine m_eqT h dL_law_545 (tgt := 596) (by decide) heq ?_
          refine m_iinc h dL_law_596 rfl (by decide) rfl ?_
          refine m_goto h dL_law_599 (tgt := 18) (by decide) ?_
          exact ih _ _ (by omega) (by omega) (by omega) hIn
        · skip
          refine m_tsIn h dL_law_33 (off := 517) (tgt := 550) (by omega) (by omega) (by omega) (by rw [sw2]; rfl) (by decide) ?_
          refine m_aload_n h dL_law_550 rfl rfl ?_
          refine m_aload_n h dL_law_551 rfl rfl ?_
          refine m_iload_n h dL_law_552 rfl rfl ?_
          refine m_iconst h dL_law_553 ?_
          refine m_iadd h dL_law_554 ?_
          refine m_sldz h hX hbl hbA hL (by omega) (by omega) dL_law_555 ?_
          refine m_aload_n h dL_law_556 rfl rfl ?_
          refine m_iload_n h dL_law_557 rfl rfl ?_
          refine m_iconst h dL_law_558 ?_
          refine m_iadd h dL_law_559 ?_
          refine m_sldz h hX hbl hbA hL (by omega) (by omega) dL_law_560 ?_
          refine m_vI h  (c_told _ hG v hI.1 (zX xs (i + 1)) (zX_rg _ _) (zX xs (i + 2)) (zX_rg _ _)) moX7_told voX7_told lk_L_75 dL_law_561 (by decide) (by decide) rfl rfl rfl (Nat.le_of_ble_eq_true rfl) (fun r1 u97 p98 => ?_)
          obtain ⟨hu1, a1⟩ := p98
          rw [hu1]
          refine m_aload_n h dL_law_564 rfl rfl ?_
          refine m_aload_n h dL_law_565 rfl rfl ?_
          refine m_iload_n h dL_law_566 rfl rfl ?_
          refine m_iconst h dL_law_567 ?_
          refine m_iadd h dL_law_568 ?_
          refine m_sldz h hX hbl hbA hL (by omega) (by omega) dL_law_569 ?_
          refine m_aload_n h dL_law_570 rfl rfl ?_
          refine m_iload_n h dL_law_571 rfl rfl ?_
          refine m_iconst h dL_law_572 ?_
          refine m_iadd h dL_law_573 ?_
          refine m_sldz h hX hbl hbA hL (by omega) (by omega) dL_law_574 ?_
          refine m_vI h  (m_told _ hG v (gC v) (tC v) hg ht hI.2.2 (zX xs (i + 1)) (zX_rg _ _) (zX xs (i + 2)) (zX_rg _ _)) moX8_told voX8_told lk_L_78 dL_law_575 (by decide) (by decide) rfl rfl rfl (Nat.le_of_ble_eq_true rfl) (fun r2 u100 p101 => ?_)
          obtain ⟨hu2, a2⟩ := p101
          rw [hu2]
          have heq : r1 = r2 := told_u a1 a2
          have hIn : INV v := hI
          refine m_eqT h dL_law_578 (tgt := 596) (by decide) heq ?_
          refine m_iinc h dL_law_596 rfl (by decide) rfl ?_
          refine m_goto h dL_law_599 (tgt := 18) (by decide) ?_
          exact ih _ _ (by omega) (by omega) (by omega) hIn
        · skip
          refine m_tsIn h dL_law_33 (off := 550) (tgt := 583) (by omega) (by omega) (by omega) (by rw [sw2]; rfl) (by decide) ?_
          refine m_aload_n h dL_law_583 rfl rfl ?_
          refine m_vI h  (c_plans _ hG v hI.1 hI.2.1) moX7_plans voX7_plans lk_L_79 dL_law_584 (by decide) (by decide) rfl rfl rfl (Nat.le_of_ble_eq_true rfl) (fun r1 u1 p1 => ?_)
          have hRu := hI.2.2.k (u := u1) (fun i a b => p1.2.2.1 i (by omega) (by omega))
          refine m_aload_n h dL_law_587 rfl rfl ?_
          refine m_vI h  (m_plans _ hG u1 (gC v) (tC v) hg ht hRu) moX8_plans voX8_plans lk_L_82 dL_law_588 (by decide) (by decide) rfl rfl rfl (Nat.le_of_ble_eq_true rfl) (fun r2 u2 p2 => ?_)
          obtain ⟨heq, hIn⟩ := pr_plans hI p1 p2
          refine m_eqT h dL_law_591 (tgt := 596) (by decide) heq ?_
          refine m_iinc h dL_law_596 rfl (by decide) rfl ?_
          refine m_goto h dL_law_599 (tgt := 18) (by decide) ?_
          exact ih _ _ (by omega) (by omega) (by omega) hIn
        · skip
          omega
