/-! the model takes a number -/
def L0 (v u : Mem) : Prop := (∀ i : Nat, i ≠ 36 → i ≠ 37 → i ≠ 38 → i ≠ 39 → u.1 i = v.1 i) ∧ u.2 = v.2 ∧ ∀ x, x < 16 * v.1 25 10 → u.1 36 x = v.1 36 x ∧ u.1 37 x = v.1 37 x
theorem L0.w36 {v u : Mem} {p z : Int} (h : L0 v u) (hp : 0 ≤ p) : L0 v (wI u 36 (16 * v.1 25 10 + p) z) := ⟨fun i a b c d => by rw [wI_c a]; exact h.1 i a b c d, h.2.1, fun x hx => ⟨by rw [wI_n (by omega)]; exact (h.2.2 x hx).1, by rw [wI_c (by decide)]; exact (h.2.2 x hx).2⟩⟩
theorem L0.w37 {v u : Mem} {p z : Int} (h : L0 v u) (hp : 0 ≤ p) : L0 v (wI u 37 (16 * v.1 25 10 + p) z) := ⟨fun i a b c d => by rw [wI_c b]; exact h.1 i a b c d, h.2.1, fun x hx => ⟨by rw [wI_c (by decide)]; exact (h.2.2 x hx).1, by rw [wI_n (by omega)]; exact (h.2.2 x hx).2⟩⟩
theorem L0.w8 {v u : Mem} {i : Nat} {p z : Int} (h : L0 v u) (hi : i = 38 ∨ i = 39) : L0 v (wI u i p z) := ⟨fun j a b c d => by rw [wI_c (by omega)]; exact h.1 j a b c d, h.2.1, fun x hx => ⟨by rw [wI_c (by omega)]; exact (h.2.2 x hx).1, by rw [wI_c (by omega)]; exact (h.2.2 x hx).2⟩⟩
def L1 (g : Cfg) (r : Nat) (n : Int) (t : TT) (v : Mem) (k : Int) (u : Mem) : Prop := L0 v u ∧ u.1 38 = v.1 38 ∧ u.1 39 = v.1 39 ∧ ∀ p, 0 ≤ p → p < k → bz (u.1 36 (16 * v.1 25 10 + p)) (Abp g r n p ∧ nwp (t_s t) p ≠ nwp (g_i g) p) ∧ (Abp g r n p → u.1 37 (16 * v.1 25 10 + p) = nwp (t_s t) p)
theorem L1_step {g : Cfg} {r : Nat} {n : Int} {t : TT} {v u : Mem} {k b w : Int} (h : L1 g r n t v k u) (hk : 0 ≤ k) (hb : bz b (Abp g r n k ∧ nwp (t_s t) k ≠ nwp (g_i g) k)) (hw : Abp g r n k → w = nwp (t_s t) k) : L1 g r n t v (k + 1) (wI (wI u 36 (16 * v.1 25 10 + k) b) 37 (16 * v.1 25 10 + k) w) := by
  refine ⟨(h.1.w36 hk).w37 hk, by rw [wI_c (by decide), wI_c (by decide)]; exact h.2.1, by rw [wI_c (by decide), wI_c (by decide)]; exact h.2.2.1, fun p q1 q2 => ?_⟩
  by_cases e : p = k
  · subst e
    rw [wI_c (by decide), wI_s, wI_s]
    exact ⟨hb, hw⟩
  · rw [wI_c (by decide), wI_n (by omega), wI_n (by omega), wI_c (by decide)]
    exact h.2.2.2 p q1 (by omega)
def L2 (g : Cfg) (r : Nat) (n z : Int) (t : TT) (v : Mem) (j : Int) (u : Mem) : Prop := L0 v u ∧ (∀ p, 0 ≤ p → p < j → bz (u.1 36 (16 * v.1 25 10 + p)) (Abp g r n p ∧ nwp (t_s t) p ≠ nwp (g_i g) p)) ∧ (∀ p, 0 ≤ p → p < 16 → Abp g r n p → u.1 37 (16 * v.1 25 10 + p) = nwp (t_s t) p) ∧ (∀ p, j ≤ p → p < 16 → bz (u.1 36 (16 * v.1 25 10 + p)) (pb (EJ g r n z (t_s t) j).2.2 p = true) ∧ (pb (EJ g r n z (t_s t) j).2.2 p = true → Abp g r n p)) ∧ ∀ x, 0 ≤ x → x < g_n g → u.1 38 x = (EJ g r n z (t_s t) j).1 x ∧ u.1 39 x = (EJ g r n z (t_s t) j).2.1 x
theorem L2_init {g : Cfg} {r : Nat} {n z : Int} {t : TT} {v u : Mem} (h : L1 g r n t v 16 u) (hg : g_n g ≤ 8) (hl : ∀ x, 0 ≤ x → x < g_n g → v.1 38 x = lS (t_s t) x ∧ v.1 39 x = hS (t_s t) x) : L2 g r n z t v 16 u := by
  refine ⟨h.1, fun p q1 q2 => (h.2.2.2 p q1 q2).1, fun p q1 q2 => (h.2.2.2 p q1 q2).2, fun p q1 q2 => by omega, ?_⟩
  rw [EJ_hi (by omega), h.2.1, h.2.2.1]
  exact hl
theorem L2_skip {g : Cfg} {r : Nat} {n z : Int} {t : TT} {v u : Mem} {k : Int} (h : L2 g r n z t v (k + 1) u) (hk : 0 ≤ k) (hI : EInv g r n z (t_s t) (k + 1)) (h0 : u.1 36 (16 * v.1 25 10 + k) = 0) : L2 g r n z t v k u := by
  obtain ⟨h1, h2, h3, h4, h5⟩ := h
  have hno := (h2 k hk (by omega)).no h0
  have e := EJ_skip hk hI hno
  refine ⟨h1, fun p q1 q2 => h2 p q1 (by omega), h3, ?_, ?_⟩
  · rw [e]
    intro p q1 q2
    by_cases ep : p = k
    · subst ep
      rw [EJ_pbs hk, h0]
      exact ⟨bz0 (by simp), fun q => by cases q⟩
    · exact h4 p (by omega) q2
  · rw [e]; exact h5
theorem L2_no {g : Cfg} {r : Nat} {n z : Int} {t : TT} {v u : Mem} {k : Int} {i : Nat} (h : L2 g r n z t v (k + 1) u) (hk : 0 ≤ k ∧ k < 16) (hg : GO g) (hr : RwG g r) (ha : Abp g r n k) (hi : (k % 2 = 0 ∧ i = 38) ∨ (k % 2 = 1 ∧ i = 39)) (hc : ¬ CnR g r (up ((wI u i (k / 2) (nwp (g_i g) k)).1 38) n z) (up ((wI u i (k / 2) (nwp (g_i g) k)).1 39) n z)) : L2 g r n z t v k (wI (wI u i (k / 2) (nwp (g_i g) k)) 36 (16 * v.1 25 10 + k) 0) := by
  obtain ⟨h1, h2, h3, h4, h5⟩ := h
  have hy := (EJ_yes (lo' := (wI u i (k / 2) (nwp (g_i g) k)).1 38) (hi' := (wI u i (k / 2) (nwp (g_i g) k)).1 39) hk.1 ha hg hr h5 (by
    rcases hi with ⟨q, rfl⟩ | ⟨q, rfl⟩
    · exact Or.inl ⟨q, cell_u, wI_c (by decide)⟩
    · exact Or.inr ⟨q, wI_c (by decide), cell_u⟩)).2 hc
  have hi2 : i = 38 ∨ i = 39 := by omega
  refine ⟨(h1.w8 hi2).w36 hk.1, fun p q1 q2 => ?_, fun p q1 q2 => ?_, fun p q1 q2 => ?_, ?_⟩
  · rw [wI_n (by omega), wI_c (by omega)]; exact h2 p q1 (by omega)
  · rw [wI_c (by decide), wI_c (by omega)]; exact h3 p q1 q2
  · rw [hy.1]
    by_cases ep : p = k
    · subst ep
      rw [EJ_pbs hk.1, wI_s]
      exact ⟨bz0 (by simp), fun q => by cases q⟩
    · rw [wI_n (by omega), wI_c (by omega)]; exact h4 p (by omega) q2
  · exact hy.2
theorem L2_yes {g : Cfg} {r : Nat} {n z : Int} {t : TT} {v u : Mem} {k : Int} {i : Nat} (h : L2 g r n z t v (k + 1) u) (hk : 0 ≤ k ∧ k < 16) (hg : GO g) (hr : RwG g r) (ha : Abp g r n k) (hi : (k % 2 = 0 ∧ i = 38) ∨ (k % 2 = 1 ∧ i = 39)) (hc : CnR g r (up ((wI u i (k / 2) (nwp (g_i g) k)).1 38) n z) (up ((wI u i (k / 2) (nwp (g_i g) k)).1 39) n z)) : L2 g r n z t v k (wI (wI (wI u i (k / 2) (nwp (g_i g) k)) 36 (16 * v.1 25 10 + k) 1) i (k / 2) (nwp (t_s t) k)) := by
  obtain ⟨h1, h2, h3, h4, h5⟩ := h
  have hy := (EJ_yes (lo' := (wI u i (k / 2) (nwp (g_i g) k)).1 38) (hi' := (wI u i (k / 2) (nwp (g_i g) k)).1 39) hk.1 ha hg hr h5 (by
    rcases hi with ⟨q, rfl⟩ | ⟨q, rfl⟩
    · exact Or.inl ⟨q, cell_u, wI_c (by decide)⟩
    · exact Or.inr ⟨q, wI_c (by decide), cell_u⟩)).1 hc
  have hi2 : i = 38 ∨ i = 39 := by omega
  refine ⟨((h1.w8 hi2).w36 hk.1).w8 hi2, fun p q1 q2 => ?_, fun p q1 q2 => ?_, fun p q1 q2 => ?_, ?_⟩
  · rw [wI_c (by omega), wI_n (by omega), wI_c (by omega)]; exact h2 p q1 (by omega)
  · rw [wI_c (by omega), wI_c (by decide), wI_c (by omega)]; exact h3 p q1 q2
  · rw [hy.1 p q1]
    by_cases ep : p = k
    · subst ep
      rw [if_pos rfl, wI_c (by omega), wI_s]
      exact ⟨bz1 rfl, fun _ => ha⟩
    · rw [if_neg ep, wI_c (by omega), wI_n (by omega), wI_c (by omega)]; exact h4 p (by omega) q2
  · apply hy.2
    rcases hi with ⟨q, rfl⟩ | ⟨q, rfl⟩
    · exact Or.inl ⟨q, by rw [cell_u, wI_c (by decide)], by rw [wI_c (by decide), wI_c (by decide)]⟩
    · exact Or.inr ⟨q, by rw [wI_c (by decide), wI_c (by decide)], by rw [cell_u, wI_c (by decide)]⟩
theorem rgLS {s : Int → Int → Bool} {x : Int} (h : ¬ emp (s x)) : (-32 ≤ lS s x ∧ lS s x ≤ 31) ∧ -32 ≤ hS s x ∧ hS s x ≤ 31 := by
  have := SL_mono (nemp h) (T := s x) (fun _ q => q)
  unfold lS hS
  omega
theorem L2_lh {g : Cfg} {r : Nat} {n z : Int} {t : TT} {v u : Mem} {j : Int} (hI : EInv g r n z (t_s t) j) (h : L2 g r n z t v j u) (hg : GO g) (hne : ∀ x, 0 ≤ x → x < g_n g → ¬ emp (t_s t x)) : LHr (g_n g) u := by
  intro x x0 x1
  have a := h.2.2.2.2 x x0 x1
  have b := hI.2.2 x
  have c1 := rgLS (hne x x0 x1)
  have c2 := rgLS (hg.2.2.2 x x0 x1)
  omega

theorem RwM.cg {g : Cfg} {r : Nat} {v u : Mem} (h : RwM g r v) (h0 : L0 v u) : RwM g r u := by
  unfold RwM at *
  rw [h0.1 28 (by decide) (by decide) (by decide) (by decide), h0.1 29 (by decide) (by decide) (by decide) (by decide), h0.1 30 (by decide) (by decide) (by decide) (by decide), h0.1 31 (by decide) (by decide) (by decide) (by decide)]
  exact h

set_option maxRecDepth 100000 in
set_option maxHeartbeats 4000000 in
theorem m_take (l : Launch) {G : GT} (hG : gok G) (v : Mem) (g : Cfg) (t : TT) (hg : GO g) (ht : TO g t) (hRM : RMM g t v) (hne : ∀ x, 0 ≤ x → x < g_n g → ¬ emp (t_s t x)) (hlh : ∀ x, 0 ≤ x → x < g_n g → v.1 38 x = lS (t_s t) x ∧ v.1 39 x = hS (t_s t) x) (r : Nat) (hrg : (r : Int) < g_r g) (n : Int) (hn : 0 ≤ n ∧ n < g_n g) (z : Int) (hz : -32 ≤ z ∧ z ≤ 31) (hs : t_s t n (z + 32) = true) (hcn : ¬ CnR g r (up (lS (t_s t)) n z) (up (hS (t_s t)) n z)) : CC l G nX8_take 5 [.ref (G.2.1 25), .int (iI (r : Int)), .int (iI n), .int (iI z)] v (qV G (fun u => RMM g (tkS g r n z t) u ∧ FrM v u ∧ ∀ x, 0 ≤ x → x < g_n g → u.1 38 x = lS (t_s (tkS g r n z t)) x ∧ u.1 39 x = hS (t_s (tkS g r n z t)) x)) := by
  refine m_start (lv := [some (.ref (G.2.1 25)), some (.int (iI (r : Int))), some (.int (iI n)), some (.int (iI z)), none, none, none, none, none, none]) hG (by decide +kernel) rfl (Nat.le_of_ble_eq_true rfl) ?_
  intro X hL h hR
  subst hL
  obtain ⟨⟨s0, s1, s2, s3⟩, t0, t1, t2, t3, t4⟩ := id hRM
  have hgn := hg.1
  have hgr2 := hg.2.1
  have htc := ht.c
  have hgr := hg.2.2.1 r hrg
  have hr12 : r < 12 := by omega
  have htt := tot_clr (n := n) (k := z + 32) (by omega) (by omega) hs
  have htn := tot_nn (cS (t_s t) n (z + 32))
  have ht3 := ht.2.2.1
  obtain ⟨c, hcc⟩ : ∃ c : Nat, g_n g = c := ⟨(g_n g).toNat, by omega⟩
  have hEall := fun (k : Int) (hk : 0 ≤ k) => EInv_all hcn 16 k hk (by omega)
  clear t0 t1 t2 t4
  show M X G 10 v 0 [some (.ref (G.2.1 25)), some (.int (iI (r : Int))), some (.int (iI n)), some (.int (iI z)), none, none, none, none, none, none] []
  refine m_bipush h dX8_take_0 (by decide) ?_
  refine m_aload_n h dX8_take_2 rfl rfl ?_
  refine m_get h fo_X8_70 (by decide) rfl rfl dX8_take_3 ?_
  refine m_imul h dX8_take_6 ?_
  refine m_istore h dX8_take_7 (by decide) rfl ?_
  refine m_iconst h dX8_take_9 ?_
  refine m_istore h dX8_take_10 (by decide) rfl ?_
  have lp12 : ∀ (fuel : Nat) (k : Nat) (u : Mem), k ≤ 16 → 20 - k < fuel → L1 g r n t v (k : Int) u → M X G 10 u 12 [some (.ref (G.2.1 25)), some (.int (iI (r : Int))), some (.int (iI n)), some (.int (iI z)), some (.int (iI (16 * v.1 25 10))), some (.int (iI (k : Int))), none, none, none, none] [] := by
    intro fuel
    induction fuel with
    | zero => intro k u hk hfu hL1; exfalso; omega
    | succ fuel ih =>
      intro k u hk hfu hL1
      refine m_iload h dX8_take_12 rfl ?_
      refine m_bipush h dX8_take_14 (by decide) ?_
      refine m_icmp_ge h dX8_take_16 (tgt := 167) (by decide) (by omega) (by omega) (fun c1 => ?_) (fun c1 => ?_)
      · skip
        refine m_bipush h dX8_take_167 (by decide) ?_
        refine m_istore h dX8_take_169 (by decide) rfl ?_
        have lp171 : ∀ (fuel : Nat) (j : Nat) (u : Mem), j ≤ 16 → j < fuel → L2 g r n z t v (j : Int) u → M X G 10 u 171 [some (.ref (G.2.1 25)), some (.int (iI (r : Int))), some (.int (iI n)), some (.int (iI z)), some (.int (iI (16 * v.1 25 10))), some (.int (iI ((j : Int) - 1))), none, none, none, none] [] := by
          intro fuel
          induction fuel with
          | zero => intro j u hj hfu hL2; exfalso; omega
          | succ fuel ih =>
            intro j u hj hfu hL2
            refine m_iload h dX8_take_171 rfl ?_
            refine m_if_lt h dX8_take_173 (tgt := 289) (by decide) (by omega) (fun c2 => ?_) (fun c2 => ?_)
            · skip
              have e25p : u.1 25 10 = v.1 25 10 := by rw [hL2.1.1 25 (by decide) (by decide) (by decide) (by decide)]
              refine m_aload_n h dX8_take_289 rfl rfl ?_
              refine m_get h fo_X8_33 (by decide) rfl rfl dX8_take_290 ?_
              refine m_aload_n h dX8_take_293 rfl rfl ?_
              refine m_get h fo_X8_70 (by decide) rfl rfl dX8_take_294 ?_
              refine m_iload_n h dX8_take_297 rfl rfl ?_
              refine m_iast h (ar_32 G) (by omega) (by omega) dX8_take_298 ?_
              refine m_aload_n h dX8_take_299 rfl rfl ?_
              refine m_get h fo_X8_36 (by decide) rfl rfl dX8_take_300 ?_
              refine m_aload_n h dX8_take_303 rfl rfl ?_
              refine m_get h fo_X8_70 (by decide) rfl rfl dX8_take_304 ?_
              show M X G 10 (wI u 32 (u.1 25 10) (r : Int)) 307 [some (.ref (G.2.1 25)), some (.int (iI (r : Int))), some (.int (iI n)), some (.int (iI z)), some (.int (iI (16 * v.1 25 10))), some (.int (iI ((j : Int) - 1))), none, none, none, none] [.int (iI (u.1 25 10)), .ref (G.2.1 33)]
              refine m_iload_n h dX8_take_307 rfl rfl ?_
              refine m_iast h (ar_33 G) (by omega) (by omega) dX8_take_308 ?_
              refine m_aload_n h dX8_take_309 rfl rfl ?_
              refine m_get h fo_X8_39 (by decide) rfl rfl dX8_take_310 ?_
              refine m_aload_n h dX8_take_313 rfl rfl ?_
              refine m_get h fo_X8_70 (by decide) rfl rfl dX8_take_314 ?_
              show M X G 10 (wI (wI u 32 (u.1 25 10) (r : Int)) 33 (u.1 25 10) n) 317 [some (.ref (G.2.1 25)), some (.int (iI (r : Int))), some (.int (iI n)), some (.int (iI z)), some (.int (iI (16 * v.1 25 10))), some (.int (iI ((j : Int) - 1))), none, none, none, none] [.int (iI (u.1 25 10)), .ref (G.2.1 34)]
              refine m_iload_n h dX8_take_317 rfl rfl ?_
              refine m_iast h (ar_34 G) (by omega) (by omega) dX8_take_318 ?_
              refine m_aload_n h dX8_take_319 rfl rfl ?_
              refine m_get h fo_X8_42 (by decide) rfl rfl dX8_take_320 ?_
              refine m_aload_n h dX8_take_323 rfl rfl ?_
              refine m_get h fo_X8_70 (by decide) rfl rfl dX8_take_324 ?_
              show M X G 10 (wI (wI (wI u 32 (u.1 25 10) (r : Int)) 33 (u.1 25 10) n) 34 (u.1 25 10) z) 327 [some (.ref (G.2.1 25)), some (.int (iI (r : Int))), some (.int (iI n)), some (.int (iI z)), some (.int (iI (16 * v.1 25 10))), some (.int (iI ((j : Int) - 1))), none, none, none, none] [.int (iI (u.1 25 10)), .ref (G.2.1 35)]
              refine m_aload_n h dX8_take_327 rfl rfl ?_
              refine m_get h fo_X8_67 (by decide) rfl rfl dX8_take_328 ?_
              show M X G 10 (wI (wI (wI u 32 (u.1 25 10) (r : Int)) 33 (u.1 25 10) n) 34 (u.1 25 10) z) 331 [some (.ref (G.2.1 25)), some (.int (iI (r : Int))), some (.int (iI n)), some (.int (iI z)), some (.int (iI (16 * v.1 25 10))), some (.int (iI ((j : Int) - 1))), none, none, none, none] [.int (iI (u.1 25 8)), .int (iI (u.1 25 10)), .ref (G.2.1 35)]
              refine m_iast h (ar_35 G) (by omega) (by omega) dX8_take_331 ?_
              refine m_aload_n h dX8_take_332 rfl rfl ?_
              refine m_dup h dX8_take_333 rfl ?_
              refine m_get h fo_X8_70 (by decide) rfl rfl dX8_take_334 ?_
              show M X G 10 (wI (wI (wI (wI u 32 (u.1 25 10) (r : Int)) 33 (u.1 25 10) n) 34 (u.1 25 10) z) 35 (u.1 25 10) (u.1 25 8)) 337 [some (.ref (G.2.1 25)), some (.int (iI (r : Int))), some (.int (iI n)), some (.int (iI z)), some (.int (iI (16 * v.1 25 10))), some (.int (iI ((j : Int) - 1))), none, none, none, none] [.int (iI (u.1 25 10)), .ref (G.2.1 25)]
              refine m_iconst h dX8_take_337 ?_
              refine m_iadd h dX8_take_338 ?_
              refine m_putJ h fw_X8_70 (by decide) rfl (Nat.le_of_ble_eq_true rfl) (kz := 10) rfl rfl dX8_take_339 ?_
              refine m_aload_n h dX8_take_342 rfl rfl ?_
              refine m_get h fo_X8_13 (by decide) rfl rfl dX8_take_343 ?_
              refine m_bipush h dX8_take_346 (by decide) ?_
              refine m_iload_n h dX8_take_348 rfl rfl ?_
              refine m_imul h dX8_take_349 ?_
              refine m_iload_n h dX8_take_350 rfl rfl ?_
              refine m_iadd h dX8_take_351 ?_
              refine m_bipush h dX8_take_352 (by decide) ?_
              refine m_iadd h dX8_take_354 ?_
              refine m_iconst h dX8_take_355 ?_
              refine m_zast h (ar_27 G) (by omega) (by omega) (by omega) dX8_take_356 ?_
              obtain ⟨U, hU⟩ : ∃ U, U = wI (wI (wI (wI (wI (wI u 32 (u.1 25 10) (r : Int)) 33 (u.1 25 10) n) 34 (u.1 25 10) z) 35 (u.1 25 10) (u.1 25 8)) 25 10 ((u.1 25 10) + 1)) 27 (((64 * n) + z) + 32) 0 := ⟨_, rfl⟩
              rw [← hU]
              show M X G 10 U 357 [some (.ref (G.2.1 25)), some (.int (iI (r : Int))), some (.int (iI n)), some (.int (iI z)), some (.int (iI (16 * v.1 25 10))), some (.int (iI ((j : Int) - 1))), none, none, none, none] []
              have e25 : u.1 25 = v.1 25 := hL2.1.1 25 (by decide) (by decide) (by decide) (by decide)
              have hj0 : j = 0 := by omega
              subst hj0
              have hL3 : L2 g r n z t v 0 u := hL2
              have hRU : RMM g (tkS g r n z t) U := by
                have hcell : ∀ i : Nat, i ≠ 36 → i ≠ 37 → i ≠ 38 → i ≠ 39 → u.1 i = v.1 i := hL2.1.1
                have ex : u.1 25 10 = v.1 25 10 := by rw [e25]
                refine RM_take hg ht hRM hn hz hs hcn ?_ ?_ ?_ ?_ ?_ ?_ ?_ ?_ ?_
                · rw [hU, ← e25]; exact ⟨rfl, rfl, rfl, rfl, rfl⟩
                · intro i hi
                  rw [hU, wI_c (by omega), wI_c (by omega), wI_c (by omega), wI_c (by omega), wI_c (by omega), wI_c (by omega)]
                  exact hcell i (by omega) (by omega) (by omega) (by omega)
                · rw [hU, cell_u, wI_c (by decide), wI_c (by decide), wI_c (by decide), wI_c (by decide), wI_c (by decide), hcell 27 (by decide) (by decide) (by decide) (by decide)]
                · rw [hU, wI_c (by decide), wI_c (by decide), wI_c (by decide), wI_c (by decide), wI_c (by decide), cell_u, hcell 32 (by decide) (by decide) (by decide) (by decide), ex]
                · rw [hU, wI_c (by decide), wI_c (by decide), wI_c (by decide), wI_c (by decide), cell_u, wI_c (by decide), hcell 33 (by decide) (by decide) (by decide) (by decide), ex]
                · rw [hU, wI_c (by decide), wI_c (by decide), wI_c (by decide), cell_u, wI_c (by decide), wI_c (by decide), hcell 34 (by decide) (by decide) (by decide) (by decide), ex]
                · rw [hU, wI_c (by decide), wI_c (by decide), cell_u, wI_c (by decide), wI_c (by decide), wI_c (by decide), hcell 35 (by decide) (by decide) (by decide) (by decide), ex, e25]
                · intro x hx
                  rw [hU, wI_c (by decide), wI_c (by decide), wI_c (by decide), wI_c (by decide), wI_c (by decide), wI_c (by decide), wI_c (by decide), wI_c (by decide), wI_c (by decide), wI_c (by decide), wI_c (by decide), wI_c (by decide)]
                  exact hL2.1.2.2 x hx
                · intro p q1 q2
                  rw [hU, wI_c (by decide), wI_c (by decide), wI_c (by decide), wI_c (by decide), wI_c (by decide), wI_c (by decide), wI_c (by decide), wI_c (by decide), wI_c (by decide), wI_c (by decide), wI_c (by decide), wI_c (by decide)]
                  have q3 := hL3.2.2.2.1 p q1 q2
                  rw [EJ_0] at q3
                  exact ⟨q3.1, fun q => hL3.2.2.1 p q1 q2 (q3.2 q)⟩
              have hFU : FrM v U := by
                rw [hU]
                have h1 : FrM v u := ⟨fun i hi => hL2.1.1 i (by omega) (by omega) (by omega) (by omega), hL2.1.2.1⟩
                exact (((((h1.w (by omega)).w (by omega)).w (by omega)).w (by omega)).w (by omega)).w (by omega)
              refine m_aload_n h dX8_take_357 rfl rfl ?_
              refine m_vV h (m_bounds _ hG _ (t_s (tkS g r n z t)) hRU.2.1 c (by rw [hRU.1.1]; exact hcc) (by omega)) moX8_bounds voX8_bounds lk_X8_137 dX8_take_358 (by decide) (by decide) rfl rfl rfl (Nat.le_of_ble_eq_true rfl) (fun u9 p5 => ?_)
              obtain ⟨hf9, hl9⟩ := p5
              refine m_vret h hR rfl dX8_take_361 ?_
              exact ⟨hRU.b hf9, hFU.tr hf9.m, fun x q1 q2 => hl9 x q1 (by omega)⟩
            · skip
              obtain ⟨k, rfl⟩ : ∃ k : Nat, j = k + 1 := ⟨j - 1, by omega⟩
              rw [show ((k + 1 : Nat) : Int) - 1 = (k : Int) by omega]
              show M X G 10 u 176 [some (.ref (G.2.1 25)), some (.int (iI (r : Int))), some (.int (iI n)), some (.int (iI z)), some (.int (iI (16 * v.1 25 10))), some (.int (iI (k : Int))), none, none, none, none] []
              rw [show ((k + 1 : Nat) : Int) = (k : Int) + 1 by omega] at hL2
              have hdv : (k : Int).tdiv 2 = (k : Int) / 2 := Int.tdiv_eq_ediv_of_nonneg (by omega)
              have hmd : (k : Int).tmod 2 = (k : Int) % 2 := Int.tmod_eq_emod_of_nonneg (by omega)
              have hbk := hL2.2.1 (k : Int) (by omega) (by omega)
              have hbi := hbk.in
              have hEI := hEall ((k : Int) + 1) (by omega)
              refine m_aload_n h dX8_take_176 rfl rfl ?_
              refine m_get h fo_X8_45 (by decide) rfl rfl dX8_take_177 ?_
              refine m_iload h dX8_take_180 rfl ?_
              refine m_iload h dX8_take_182 rfl ?_
              refine m_iadd h dX8_take_184 ?_
              refine m_zald h (ar_36 G) (by omega) (by omega) dX8_take_185 ?_
              refine m_if_eq h dX8_take_186 (tgt := 283) (by decide) (by omega) (fun c6 => ?_) (fun c6 => ?_)
              · skip
                refine m_iinc h dX8_take_283 rfl (by decide) rfl ?_
                refine m_goto h dX8_take_286 (tgt := 171) (by decide) ?_
                refine ih k _ (by omega) (by omega) ?_
                exact L2_skip hL2 (by omega) hEI (by omega)
              · skip
                obtain ⟨hab, hnw⟩ := hbk.yes (by omega)
                have ho8 := hab.1
                have hnow := hL2.2.2.1 (k : Int) (by omega) (by omega) hab
                have f26 : ∀ q, 0 ≤ q → q < 64 → bz (u.1 26 (64 * ((k : Int) / 2) + q)) (g_i g ((k : Int) / 2) q = true) := fun q q1 q2 => by rw [hL2.1.1 26 (by decide) (by decide) (by decide) (by decide)]; exact s2 _ q (by omega) (by omega) q1 q2
                have hrwo := rgLS (hg.2.2.2 ((k : Int) / 2) (by omega) ho8)
                have hlru := L2_lh hEI hL2 hg hne
                refine m_iload h dX8_take_189 rfl ?_
                refine m_iconst h dX8_take_191 ?_
                refine m_idiv h dX8_take_192 (by omega) (by omega) (by omega) ?_
                rw [hdv]
                show M X G 10 u 193 [some (.ref (G.2.1 25)), some (.int (iI (r : Int))), some (.int (iI n)), some (.int (iI z)), some (.int (iI (16 * v.1 25 10))), some (.int (iI (k : Int))), none, none, none, none] [.int (iI ((k : Int) / 2))]
                refine m_istore h dX8_take_193 (by decide) rfl ?_
                refine m_aload_n h dX8_take_195 rfl rfl ?_
                refine m_get h fo_X8_48 (by decide) rfl rfl dX8_take_196 ?_
                refine m_iload h dX8_take_199 rfl ?_
                refine m_iload h dX8_take_201 rfl ?_
                refine m_iadd h dX8_take_203 ?_
                refine m_iald h (ar_37 G) (by omega) (by omega) dX8_take_204 ?_
                rw [hnow]
                show M X G 10 u 205 [some (.ref (G.2.1 25)), some (.int (iI (r : Int))), some (.int (iI n)), some (.int (iI z)), some (.int (iI (16 * v.1 25 10))), some (.int (iI (k : Int))), some (.int (iI ((k : Int) / 2))), none, none, none] [.int (iI (nwp (t_s t) k))]
                refine m_istore h dX8_take_205 (by decide) rfl ?_
                refine m_aload_n h dX8_take_207 rfl rfl ?_
                refine m_iload h dX8_take_208 rfl ?_
                refine m_iload h dX8_take_210 rfl ?_
                refine m_iconst h dX8_take_212 ?_
                refine m_irem h dX8_take_213 (by omega) (by omega) (by omega) ?_
                refine m_if_ne h dX8_take_214 (tgt := 227) (by decide) (by omega) (fun c7 => ?_) (fun c7 => ?_)
                · skip
                  refine m_aload_n h dX8_take_227 rfl rfl ?_
                  refine m_iload h dX8_take_228 rfl ?_
                  refine m_iconst h dX8_take_230 ?_
                  refine m_vI h (m_most1 _ hG _ ((k : Int) / 2) (by omega) (g_i g ((k : Int) / 2)) f26) moX8_most voX8_most lk_X8_124 dX8_take_231 (by decide) (by decide) rfl rfl rfl (Nat.le_of_ble_eq_true rfl) (fun wh u9 p10 => ?_)
                  obtain ⟨hu7, er⟩ := p10
                  rw [hu7]
                  have er' : wh = nwp (g_i g) k := by
                    unfold nwp
                    rw [if_neg (by omega)]
                    exact er
                  rw [er']
                  refine m_vV h (m_setBound _ hG _ (k : Int) (nwp (g_i g) k) (by omega)) moX8_setBound voX8_setBound lk_X8_130 dX8_take_234 (by decide) (by decide) rfl rfl rfl (Nat.le_of_ble_eq_true rfl) (fun u5 p13 => ?_)
                  obtain ⟨i8, hi8, hu5⟩ : ∃ i8 : Nat, (((k : Int) % 2 = 0 ∧ i8 = 38) ∨ ((k : Int) % 2 = 1 ∧ i8 = 39)) ∧ u5 = wI u i8 ((k : Int) / 2) (nwp (g_i g) k) := by
                    rcases p13 with ⟨q1, q2⟩ | ⟨q1, q2⟩
                    · exact ⟨38, Or.inl ⟨q1, rfl⟩, q2⟩
                    · exact ⟨39, Or.inr ⟨q1, rfl⟩, q2⟩
                  have hi2 : i8 = 38 ∨ i8 = 39 := by omega
                  have hL05 : L0 v u5 := by rw [hu5]; exact hL2.1.w8 hi2
                  have hRw5 : RwM g r u5 := (s3 r hrg).cg hL05
                  have e255 : u5.1 25 = v.1 25 := hL05.1 25 (by decide) (by decide) (by decide) (by decide)
                  have hlr5 : LHr (g_n g) u5 := by
                    intro x x0 x1
                    have q := hlru x x0 x1
                    have hnr : -32 ≤ nwp (g_i g) k ∧ nwp (g_i g) k ≤ 31 := by unfold nwp; split <;> omega
                    rw [hu5]
                    rcases hi2 with rfl | rfl
                    · rw [cell_u, wI_c (by decide)]
                      by_cases e : x = (k : Int) / 2
                      · subst e; rw [up_s]; omega
                      · rw [up_n e]; exact q
                    · rw [cell_u, wI_c (by decide)]
                      by_cases e : x = (k : Int) / 2
                      · subst e; rw [up_s]; omega
                      · rw [up_n e]; exact q
                  refine m_aload_n h dX8_take_237 rfl rfl ?_
                  refine m_get h fo_X8_45 (by decide) rfl rfl dX8_take_238 ?_
                  refine m_iload h dX8_take_241 rfl ?_
                  refine m_iload h dX8_take_243 rfl ?_
                  refine m_iadd h dX8_take_245 ?_
                  refine m_aload_n h dX8_take_246 rfl rfl ?_
                  refine m_iload_n h dX8_take_247 rfl rfl ?_
                  refine m_iload_n h dX8_take_248 rfl rfl ?_
                  refine m_iload_n h dX8_take_249 rfl rfl ?_
                  refine m_vI h (m_impossible _ hG _ g r hr12 hgr hRw5 c hcc (by rw [e255]; omega) (by omega) (by rw [← hcc]; exact hlr5) n z (by omega) hz) moX8_impossible voX8_impossible lk_X8_134 dX8_take_250 (by decide) (by decide) rfl rfl rfl (Nat.le_of_ble_eq_true rfl) (fun ri u15 p16 => ?_)
                  obtain ⟨hu4, hb⟩ := p16
                  rw [hu4]
                  have hbi2 := hb.in
                  refine m_if_ne h dX8_take_253 (tgt := 260) (by decide) (by omega) (fun c17 => ?_) (fun c17 => ?_)
                  · skip
                    refine m_iconst h dX8_take_260 ?_
                    refine m_zast h (ar_36 G) (by omega) (by omega) (by omega) dX8_take_261 ?_
                    refine m_aload_n h dX8_take_262 rfl rfl ?_
                    refine m_get h fo_X8_45 (by decide) rfl rfl dX8_take_263 ?_
                    refine m_iload h dX8_take_266 rfl ?_
                    refine m_iload h dX8_take_268 rfl ?_
                    refine m_iadd h dX8_take_270 ?_
                    refine m_zald h (ar_36 G) (by omega) (by omega) dX8_take_271 ?_
                    rw [wI_s]
                    show M X G 10 (wI u5 36 ((16 * v.1 25 10) + (k : Int)) 0) 272 [some (.ref (G.2.1 25)), some (.int (iI (r : Int))), some (.int (iI n)), some (.int (iI z)), some (.int (iI (16 * v.1 25 10))), some (.int (iI (k : Int))), some (.int (iI ((k : Int) / 2))), some (.int (iI (nwp (t_s t) k))), none, none] [.int (iI 0)]
                    refine m_if_eq h dX8_take_272 (tgt := 283) (by decide) (by omega) (fun c18 => ?_) (fun c18 => ?_)
                    · skip
                      refine m_iinc h dX8_take_283 rfl (by decide) rfl ?_
                      refine m_goto h dX8_take_286 (tgt := 171) (by decide) ?_
                      refine m_kill 6 ?_
                      refine m_kill 7 ?_
                      refine ih k _ (by omega) (by omega) ?_
                      rw [hu5]
                      exact L2_no hL2 (by omega) hg hgr hab hi8 (by rw [← hu5]; exact hb.yes (by omega))
                    · skip
                      omega
                  · skip
                    refine m_iconst h dX8_take_256 ?_
                    refine m_goto h dX8_take_257 (tgt := 261) (by decide) ?_
                    refine m_zast h (ar_36 G) (by omega) (by omega) (by omega) dX8_take_261 ?_
                    refine m_aload_n h dX8_take_262 rfl rfl ?_
                    refine m_get h fo_X8_45 (by decide) rfl rfl dX8_take_263 ?_
                    refine m_iload h dX8_take_266 rfl ?_
                    refine m_iload h dX8_take_268 rfl ?_
                    refine m_iadd h dX8_take_270 ?_
                    refine m_zald h (ar_36 G) (by omega) (by omega) dX8_take_271 ?_
                    rw [wI_s]
                    show M X G 10 (wI u5 36 ((16 * v.1 25 10) + (k : Int)) 1) 272 [some (.ref (G.2.1 25)), some (.int (iI (r : Int))), some (.int (iI n)), some (.int (iI z)), some (.int (iI (16 * v.1 25 10))), some (.int (iI (k : Int))), some (.int (iI ((k : Int) / 2))), some (.int (iI (nwp (t_s t) k))), none, none] [.int (iI 1)]
                    refine m_if_eq h dX8_take_272 (tgt := 283) (by decide) (by omega) (fun c19 => ?_) (fun c19 => ?_)
                    · skip
                      omega
                    · skip
                      refine m_aload_n h dX8_take_275 rfl rfl ?_
                      refine m_iload h dX8_take_276 rfl ?_
                      refine m_iload h dX8_take_278 rfl ?_
                      refine m_vV h (m_setBound _ hG _ (k : Int) (nwp (t_s t) k) (by omega)) moX8_setBound voX8_setBound lk_X8_130 dX8_take_280 (by decide) (by decide) rfl rfl rfl (Nat.le_of_ble_eq_true rfl) (fun u6 p22 => ?_)
                      have hu6 : u6 = wI (wI (wI u i8 ((k : Int) / 2) (nwp (g_i g) k)) 36 (16 * v.1 25 10 + (k : Int)) 1) i8 ((k : Int) / 2) (nwp (t_s t) k) := by
                        rw [← hu5]
                        rcases p22 with ⟨q1, q2⟩ | ⟨q1, q2⟩
                        · rw [q2, show i8 = 38 by omega]
                        · rw [q2, show i8 = 39 by omega]
                      refine m_iinc h dX8_take_283 rfl (by decide) rfl ?_
                      refine m_goto h dX8_take_286 (tgt := 171) (by decide) ?_
                      refine m_kill 6 ?_
                      refine m_kill 7 ?_
                      refine ih k _ (by omega) (by omega) ?_
                      rw [hu6]
                      exact L2_yes hL2 (by omega) hg hgr hab hi8 (by rw [← hu5]; exact Classical.byContradiction (fun q => hb.no (by omega) q))
                · skip
                  refine m_aload_n h dX8_take_217 rfl rfl ?_
                  refine m_iload h dX8_take_218 rfl ?_
                  refine m_iconst h dX8_take_220 ?_
                  refine m_vI h (m_least1 _ hG _ ((k : Int) / 2) (by omega) (g_i g ((k : Int) / 2)) f26) moX8_least voX8_least lk_X8_121 dX8_take_221 (by decide) (by decide) rfl rfl rfl (Nat.le_of_ble_eq_true rfl) (fun wl u24 p25 => ?_)
                  obtain ⟨hu7, er⟩ := p25
                  rw [hu7]
                  have er' : wl = nwp (g_i g) k := by
                    unfold nwp
                    rw [if_pos (by omega)]
                    exact er
                  rw [er']
                  refine m_goto h dX8_take_224 (tgt := 234) (by decide) ?_
                  refine m_vV h (m_setBound _ hG _ (k : Int) (nwp (g_i g) k) (by omega)) moX8_setBound voX8_setBound lk_X8_130 dX8_take_234 (by decide) (by decide) rfl rfl rfl (Nat.le_of_ble_eq_true rfl) (fun u5 p28 => ?_)
                  obtain ⟨i8, hi8, hu5⟩ : ∃ i8 : Nat, (((k : Int) % 2 = 0 ∧ i8 = 38) ∨ ((k : Int) % 2 = 1 ∧ i8 = 39)) ∧ u5 = wI u i8 ((k : Int) / 2) (nwp (g_i g) k) := by
                    rcases p28 with ⟨q1, q2⟩ | ⟨q1, q2⟩
                    · exact ⟨38, Or.inl ⟨q1, rfl⟩, q2⟩
                    · exact ⟨39, Or.inr ⟨q1, rfl⟩, q2⟩
                  have hi2 : i8 = 38 ∨ i8 = 39 := by omega
                  have hL05 : L0 v u5 := by rw [hu5]; exact hL2.1.w8 hi2
                  have hRw5 : RwM g r u5 := (s3 r hrg).cg hL05
                  have e255 : u5.1 25 = v.1 25 := hL05.1 25 (by decide) (by decide) (by decide) (by decide)
                  have hlr5 : LHr (g_n g) u5 := by
                    intro x x0 x1
                    have q := hlru x x0 x1
                    have hnr : -32 ≤ nwp (g_i g) k ∧ nwp (g_i g) k ≤ 31 := by unfold nwp; split <;> omega
                    rw [hu5]
                    rcases hi2 with rfl | rfl
                    · rw [cell_u, wI_c (by decide)]
                      by_cases e : x = (k : Int) / 2
                      · subst e; rw [up_s]; omega
                      · rw [up_n e]; exact q
                    · rw [cell_u, wI_c (by decide)]
                      by_cases e : x = (k : Int) / 2
                      · subst e; rw [up_s]; omega
                      · rw [up_n e]; exact q
                  refine m_aload_n h dX8_take_237 rfl rfl ?_
                  refine m_get h fo_X8_45 (by decide) rfl rfl dX8_take_238 ?_
                  refine m_iload h dX8_take_241 rfl ?_
                  refine m_iload h dX8_take_243 rfl ?_
                  refine m_iadd h dX8_take_245 ?_
                  refine m_aload_n h dX8_take_246 rfl rfl ?_
                  refine m_iload_n h dX8_take_247 rfl rfl ?_
                  refine m_iload_n h dX8_take_248 rfl rfl ?_
                  refine m_iload_n h dX8_take_249 rfl rfl ?_
                  refine m_vI h (m_impossible _ hG _ g r hr12 hgr hRw5 c hcc (by rw [e255]; omega) (by omega) (by rw [← hcc]; exact hlr5) n z (by omega) hz) moX8_impossible voX8_impossible lk_X8_134 dX8_take_250 (by decide) (by decide) rfl rfl rfl (Nat.le_of_ble_eq_true rfl) (fun ri u30 p31 => ?_)
                  obtain ⟨hu4, hb⟩ := p31
                  rw [hu4]
                  have hbi2 := hb.in
                  refine m_if_ne h dX8_take_253 (tgt := 260) (by decide) (by omega) (fun c32 => ?_) (fun c32 => ?_)
                  · skip
                    refine m_iconst h dX8_take_260 ?_
                    refine m_zast h (ar_36 G) (by omega) (by omega) (by omega) dX8_take_261 ?_
                    refine m_aload_n h dX8_take_262 rfl rfl ?_
                    refine m_get h fo_X8_45 (by decide) rfl rfl dX8_take_263 ?_
                    refine m_iload h dX8_take_266 rfl ?_
                    refine m_iload h dX8_take_268 rfl ?_
                    refine m_iadd h dX8_take_270 ?_
                    refine m_zald h (ar_36 G) (by omega) (by omega) dX8_take_271 ?_
                    rw [wI_s]
                    show M X G 10 (wI u5 36 ((16 * v.1 25 10) + (k : Int)) 0) 272 [some (.ref (G.2.1 25)), some (.int (iI (r : Int))), some (.int (iI n)), some (.int (iI z)), some (.int (iI (16 * v.1 25 10))), some (.int (iI (k : Int))), some (.int (iI ((k : Int) / 2))), some (.int (iI (nwp (t_s t) k))), none, none] [.int (iI 0)]
                    refine m_if_eq h dX8_take_272 (tgt := 283) (by decide) (by omega) (fun c33 => ?_) (fun c33 => ?_)
                    · skip
                      refine m_iinc h dX8_take_283 rfl (by decide) rfl ?_
                      refine m_goto h dX8_take_286 (tgt := 171) (by decide) ?_
                      refine m_kill 6 ?_
                      refine m_kill 7 ?_
                      refine ih k _ (by omega) (by omega) ?_
                      rw [hu5]
                      exact L2_no hL2 (by omega) hg hgr hab hi8 (by rw [← hu5]; exact hb.yes (by omega))
                    · skip
                      omega
                  · skip
                    refine m_iconst h dX8_take_256 ?_
                    refine m_goto h dX8_take_257 (tgt := 261) (by decide) ?_
                    refine m_zast h (ar_36 G) (by omega) (by omega) (by omega) dX8_take_261 ?_
                    refine m_aload_n h dX8_take_262 rfl rfl ?_
                    refine m_get h fo_X8_45 (by decide) rfl rfl dX8_take_263 ?_
                    refine m_iload h dX8_take_266 rfl ?_
                    refine m_iload h dX8_take_268 rfl ?_
                    refine m_iadd h dX8_take_270 ?_
                    refine m_zald h (ar_36 G) (by omega) (by omega) dX8_take_271 ?_
                    rw [wI_s]
                    show M X G 10 (wI u5 36 ((16 * v.1 25 10) + (k : Int)) 1) 272 [some (.ref (G.2.1 25)), some (.int (iI (r : Int))), some (.int (iI n)), some (.int (iI z)), some (.int (iI (16 * v.1 25 10))), some (.int (iI (k : Int))), some (.int (iI ((k : Int) / 2))), some (.int (iI (nwp (t_s t) k))), none, none] [.int (iI 1)]
                    refine m_if_eq h dX8_take_272 (tgt := 283) (by decide) (by omega) (fun c34 => ?_) (fun c34 => ?_)
                    · skip
                      omega
                    · skip
                      refine m_aload_n h dX8_take_275 rfl rfl ?_
                      refine m_iload h dX8_take_276 rfl ?_
                      refine m_iload h dX8_take_278 rfl ?_
                      refine m_vV h (m_setBound _ hG _ (k : Int) (nwp (t_s t) k) (by omega)) moX8_setBound voX8_setBound lk_X8_130 dX8_take_280 (by decide) (by decide) rfl rfl rfl (Nat.le_of_ble_eq_true rfl) (fun u6 p37 => ?_)
                      have hu6 : u6 = wI (wI (wI u i8 ((k : Int) / 2) (nwp (g_i g) k)) 36 (16 * v.1 25 10 + (k : Int)) 1) i8 ((k : Int) / 2) (nwp (t_s t) k) := by
                        rw [← hu5]
                        rcases p37 with ⟨q1, q2⟩ | ⟨q1, q2⟩
                        · rw [q2, show i8 = 38 by omega]
                        · rw [q2, show i8 = 39 by omega]
                      refine m_iinc h dX8_take_283 rfl (by decide) rfl ?_
                      refine m_goto h dX8_take_286 (tgt := 171) (by decide) ?_
                      refine m_kill 6 ?_
                      refine m_kill 7 ?_
                      refine ih k _ (by omega) (by omega) ?_
                      rw [hu6]
                      exact L2_yes hL2 (by omega) hg hgr hab hi8 (by rw [← hu5]; exact Classical.byContradiction (fun q => hb.no (by omega) q))
        have hk16 : k = 16 := by omega
        subst hk16
        exact lp171 100 16 _ (by omega) (by omega) (L2_init hL1 (by omega) hlh)
      · skip
        have hdv : (k : Int).tdiv 2 = (k : Int) / 2 := Int.tdiv_eq_ediv_of_nonneg (by omega)
        have hmd : (k : Int).tmod 2 = (k : Int) % 2 := Int.tmod_eq_emod_of_nonneg (by omega)
        have e25 : u.1 25 = v.1 25 := hL1.1.1 25 (by decide) (by decide) (by decide) (by decide)
        have e25p : u.1 25 0 = v.1 25 0 := by rw [e25]
        have hRw : RwM g r u := (s3 r hrg).cg hL1.1
        refine m_iload h dX8_take_19 rfl ?_
        refine m_iconst h dX8_take_21 ?_
        refine m_idiv h dX8_take_22 (by omega) (by omega) (by omega) ?_
        rw [hdv]
        show M X G 10 u 23 [some (.ref (G.2.1 25)), some (.int (iI (r : Int))), some (.int (iI n)), some (.int (iI z)), some (.int (iI (16 * v.1 25 10))), some (.int (iI (k : Int))), none, none, none, none] [.int (iI ((k : Int) / 2))]
        refine m_istore h dX8_take_23 (by decide) rfl ?_
        refine m_iload h dX8_take_25 rfl ?_
        refine m_aload_n h dX8_take_27 rfl rfl ?_
        refine m_get h fo_X8_57 (by decide) rfl rfl dX8_take_28 ?_
        refine m_icmp_ge h dX8_take_31 (tgt := 54) (by decide) (by omega) (by omega) (fun c38 => ?_) (fun c38 => ?_)
        · skip
          refine m_iconst h dX8_take_54 ?_
          refine m_istore h dX8_take_55 (by decide) rfl ?_
          refine m_iload h dX8_take_57 rfl ?_
          refine m_if_ne h dX8_take_59 (tgt := 66) (by decide) (by omega) (fun c39 => ?_) (fun c39 => ?_)
          · skip
            omega
          · skip
            refine m_iconst h dX8_take_62 ?_
            refine m_goto h dX8_take_63 (tgt := 90) (by decide) ?_
            refine m_istore h dX8_take_90 (by decide) rfl ?_
            refine m_iload h dX8_take_92 rfl ?_
            refine m_if_ne h dX8_take_94 (tgt := 101) (by decide) (by omega) (fun c40 => ?_) (fun c40 => ?_)
            · skip
              omega
            · skip
              refine m_iconst h dX8_take_97 ?_
              refine m_goto h dX8_take_98 (tgt := 125) (by decide) ?_
              refine m_istore h dX8_take_125 (by decide) rfl ?_
              refine m_aload_n h dX8_take_127 rfl rfl ?_
              refine m_get h fo_X8_45 (by decide) rfl rfl dX8_take_128 ?_
              refine m_iload h dX8_take_131 rfl ?_
              refine m_iload h dX8_take_133 rfl ?_
              refine m_iadd h dX8_take_135 ?_
              refine m_iload h dX8_take_136 rfl ?_
              refine m_iload h dX8_take_138 rfl ?_
              refine m_icmp_eq h dX8_take_140 (tgt := 147) (by decide) (by omega) (by omega) (fun c41 => ?_) (fun c41 => ?_)
              · skip
                refine m_iconst h dX8_take_147 ?_
                refine m_zast h (ar_36 G) (by omega) (by omega) (by omega) dX8_take_148 ?_
                refine m_aload_n h dX8_take_149 rfl rfl ?_
                refine m_get h fo_X8_48 (by decide) rfl rfl dX8_take_150 ?_
                refine m_iload h dX8_take_153 rfl ?_
                refine m_iload h dX8_take_155 rfl ?_
                refine m_iadd h dX8_take_157 ?_
                refine m_iload h dX8_take_158 rfl ?_
                refine m_iast h (ar_37 G) (by omega) (by omega) dX8_take_160 ?_
                refine m_iinc h dX8_take_161 rfl (by decide) rfl ?_
                refine m_goto h dX8_take_164 (tgt := 12) (by decide) ?_
                refine m_kill 6 ?_
                refine m_kill 7 ?_
                refine m_kill 8 ?_
                refine m_kill 9 ?_
                refine ih (k + 1) _ (by omega) (by omega) ?_
                rw [show ((k + 1 : Nat) : Int) = (k : Int) + 1 by omega]
                refine L1_step hL1 (by omega) (bz0 (fun q => ?_)) (fun q => ?_)
                · first | exact hb.no (by omega) q.1.2.2 | exact absurd q.1.2.1 (by omega) | exact absurd q.1.1 (by omega)
                · exfalso; first | exact hb.no (by omega) q.2.2 | exact absurd q.2.1 (by omega) | exact absurd q.1 (by omega)
              · skip
                omega
        · skip
          refine m_iload h dX8_take_34 rfl ?_
          refine m_iload_n h dX8_take_36 rfl rfl ?_
          refine m_icmp_eq h dX8_take_37 (tgt := 54) (by decide) (by omega) (by omega) (fun c42 => ?_) (fun c42 => ?_)
          · skip
            refine m_iconst h dX8_take_54 ?_
            refine m_istore h dX8_take_55 (by decide) rfl ?_
            refine m_iload h dX8_take_57 rfl ?_
            refine m_if_ne h dX8_take_59 (tgt := 66) (by decide) (by omega) (fun c43 => ?_) (fun c43 => ?_)
            · skip
              omega
            · skip
              refine m_iconst h dX8_take_62 ?_
              refine m_goto h dX8_take_63 (tgt := 90) (by decide) ?_
              refine m_istore h dX8_take_90 (by decide) rfl ?_
              refine m_iload h dX8_take_92 rfl ?_
              refine m_if_ne h dX8_take_94 (tgt := 101) (by decide) (by omega) (fun c44 => ?_) (fun c44 => ?_)
              · skip
                omega
              · skip
                refine m_iconst h dX8_take_97 ?_
                refine m_goto h dX8_take_98 (tgt := 125) (by decide) ?_
                refine m_istore h dX8_take_125 (by decide) rfl ?_
                refine m_aload_n h dX8_take_127 rfl rfl ?_
                refine m_get h fo_X8_45 (by decide) rfl rfl dX8_take_128 ?_
                refine m_iload h dX8_take_131 rfl ?_
                refine m_iload h dX8_take_133 rfl ?_
                refine m_iadd h dX8_take_135 ?_
                refine m_iload h dX8_take_136 rfl ?_
                refine m_iload h dX8_take_138 rfl ?_
                refine m_icmp_eq h dX8_take_140 (tgt := 147) (by decide) (by omega) (by omega) (fun c45 => ?_) (fun c45 => ?_)
                · skip
                  refine m_iconst h dX8_take_147 ?_
                  refine m_zast h (ar_36 G) (by omega) (by omega) (by omega) dX8_take_148 ?_
                  refine m_aload_n h dX8_take_149 rfl rfl ?_
                  refine m_get h fo_X8_48 (by decide) rfl rfl dX8_take_150 ?_
                  refine m_iload h dX8_take_153 rfl ?_
                  refine m_iload h dX8_take_155 rfl ?_
                  refine m_iadd h dX8_take_157 ?_
                  refine m_iload h dX8_take_158 rfl ?_
                  refine m_iast h (ar_37 G) (by omega) (by omega) dX8_take_160 ?_
                  refine m_iinc h dX8_take_161 rfl (by decide) rfl ?_
                  refine m_goto h dX8_take_164 (tgt := 12) (by decide) ?_
                  refine m_kill 6 ?_
                  refine m_kill 7 ?_
                  refine m_kill 8 ?_
                  refine m_kill 9 ?_
                  refine ih (k + 1) _ (by omega) (by omega) ?_
                  rw [show ((k + 1 : Nat) : Int) = (k : Int) + 1 by omega]
                  refine L1_step hL1 (by omega) (bz0 (fun q => ?_)) (fun q => ?_)
                  · first | exact hb.no (by omega) q.1.2.2 | exact absurd q.1.2.1 (by omega) | exact absurd q.1.1 (by omega)
                  · exfalso; first | exact hb.no (by omega) q.2.2 | exact absurd q.2.1 (by omega) | exact absurd q.1 (by omega)
                · skip
                  omega
          · skip
            refine m_aload_n h dX8_take_40 rfl rfl ?_
            refine m_iload_n h dX8_take_41 rfl rfl ?_
            refine m_iload h dX8_take_42 rfl ?_
            refine m_vI h (m_isAbout _ hG _ g r hr12 hgr hRw ((k : Int) / 2) (by omega)) moX8_isAbout voX8_isAbout lk_X8_127 dX8_take_44 (by decide) (by decide) rfl rfl rfl (Nat.le_of_ble_eq_true rfl) (fun r46 u47 p48 => ?_)
            obtain ⟨hu9, hb⟩ := p48
            rw [hu9]
            have hbi := hb.in
            refine m_if_eq h dX8_take_47 (tgt := 54) (by decide) (by omega) (fun c49 => ?_) (fun c49 => ?_)
            · skip
              refine m_iconst h dX8_take_54 ?_
              refine m_istore h dX8_take_55 (by decide) rfl ?_
              refine m_iload h dX8_take_57 rfl ?_
              refine m_if_ne h dX8_take_59 (tgt := 66) (by decide) (by omega) (fun c50 => ?_) (fun c50 => ?_)
              · skip
                omega
              · skip
                refine m_iconst h dX8_take_62 ?_
                refine m_goto h dX8_take_63 (tgt := 90) (by decide) ?_
                refine m_istore h dX8_take_90 (by decide) rfl ?_
                refine m_iload h dX8_take_92 rfl ?_
                refine m_if_ne h dX8_take_94 (tgt := 101) (by decide) (by omega) (fun c51 => ?_) (fun c51 => ?_)
                · skip
                  omega
                · skip
                  refine m_iconst h dX8_take_97 ?_
                  refine m_goto h dX8_take_98 (tgt := 125) (by decide) ?_
                  refine m_istore h dX8_take_125 (by decide) rfl ?_
                  refine m_aload_n h dX8_take_127 rfl rfl ?_
                  refine m_get h fo_X8_45 (by decide) rfl rfl dX8_take_128 ?_
                  refine m_iload h dX8_take_131 rfl ?_
                  refine m_iload h dX8_take_133 rfl ?_
                  refine m_iadd h dX8_take_135 ?_
                  refine m_iload h dX8_take_136 rfl ?_
                  refine m_iload h dX8_take_138 rfl ?_
                  refine m_icmp_eq h dX8_take_140 (tgt := 147) (by decide) (by omega) (by omega) (fun c52 => ?_) (fun c52 => ?_)
                  · skip
                    refine m_iconst h dX8_take_147 ?_
                    refine m_zast h (ar_36 G) (by omega) (by omega) (by omega) dX8_take_148 ?_
                    refine m_aload_n h dX8_take_149 rfl rfl ?_
                    refine m_get h fo_X8_48 (by decide) rfl rfl dX8_take_150 ?_
                    refine m_iload h dX8_take_153 rfl ?_
                    refine m_iload h dX8_take_155 rfl ?_
                    refine m_iadd h dX8_take_157 ?_
                    refine m_iload h dX8_take_158 rfl ?_
                    refine m_iast h (ar_37 G) (by omega) (by omega) dX8_take_160 ?_
                    refine m_iinc h dX8_take_161 rfl (by decide) rfl ?_
                    refine m_goto h dX8_take_164 (tgt := 12) (by decide) ?_
                    refine m_kill 6 ?_
                    refine m_kill 7 ?_
                    refine m_kill 8 ?_
                    refine m_kill 9 ?_
                    refine ih (k + 1) _ (by omega) (by omega) ?_
                    rw [show ((k + 1 : Nat) : Int) = (k : Int) + 1 by omega]
                    refine L1_step hL1 (by omega) (bz0 (fun q => ?_)) (fun q => ?_)
                    · first | exact hb.no (by omega) q.1.2.2 | exact absurd q.1.2.1 (by omega) | exact absurd q.1.1 (by omega)
                    · exfalso; first | exact hb.no (by omega) q.2.2 | exact absurd q.2.1 (by omega) | exact absurd q.1 (by omega)
                  · skip
                    omega
            · skip
              refine m_iconst h dX8_take_50 ?_
              refine m_goto h dX8_take_51 (tgt := 55) (by decide) ?_
              refine m_istore h dX8_take_55 (by decide) rfl ?_
              refine m_iload h dX8_take_57 rfl ?_
              refine m_if_ne h dX8_take_59 (tgt := 66) (by decide) (by omega) (fun c53 => ?_) (fun c53 => ?_)
              · skip
                have hab : Abp g r n (k : Int) := ⟨by omega, by omega, hb.yes (by omega)⟩
                have hlk := hlh ((k : Int) / 2) (by omega) hab.1
                have hrl := rgLS (hne _ (by omega) hab.1)
                have e38 : u.1 38 ((k : Int) / 2) = v.1 38 ((k : Int) / 2) := by rw [hL1.2.1]
                have e39 : u.1 39 ((k : Int) / 2) = v.1 39 ((k : Int) / 2) := by rw [hL1.2.2.1]
                have f26 : ∀ q, 0 ≤ q → q < 64 → bz (u.1 26 (64 * ((k : Int) / 2) + q)) (g_i g ((k : Int) / 2) q = true) := fun q q1 q2 => by rw [hL1.1.1 26 (by decide) (by decide) (by decide) (by decide)]; exact s2 _ q (by omega) (by omega) q1 q2
                refine m_iload h dX8_take_66 rfl ?_
                refine m_iconst h dX8_take_68 ?_
                refine m_irem h dX8_take_69 (by omega) (by omega) (by omega) ?_
                refine m_if_ne h dX8_take_70 (tgt := 83) (by decide) (by omega) (fun c54 => ?_) (fun c54 => ?_)
                · skip
                  refine m_aload_n h dX8_take_83 rfl rfl ?_
                  refine m_get h fo_X8_54 (by decide) rfl rfl dX8_take_84 ?_
                  refine m_iload h dX8_take_87 rfl ?_
                  refine m_iald h (ar_39 G) (by omega) (by omega) dX8_take_89 ?_
                  refine m_istore h dX8_take_90 (by decide) rfl ?_
                  refine m_iload h dX8_take_92 rfl ?_
                  refine m_if_ne h dX8_take_94 (tgt := 101) (by decide) (by omega) (fun c55 => ?_) (fun c55 => ?_)
                  · skip
                    refine m_iload h dX8_take_101 rfl ?_
                    refine m_iconst h dX8_take_103 ?_
                    refine m_irem h dX8_take_104 (by omega) (by omega) (by omega) ?_
                    refine m_if_ne h dX8_take_105 (tgt := 118) (by decide) (by omega) (fun c56 => ?_) (fun c56 => ?_)
                    · skip
                      refine m_aload_n h dX8_take_118 rfl rfl ?_
                      refine m_iload h dX8_take_119 rfl ?_
                      refine m_iconst h dX8_take_121 ?_
                      refine m_vI h (m_most1 _ hG _ ((k : Int) / 2) (by omega) (g_i g ((k : Int) / 2)) f26) moX8_most voX8_most lk_X8_124 dX8_take_122 (by decide) (by decide) rfl rfl rfl (Nat.le_of_ble_eq_true rfl) (fun ww u58 p59 => ?_)
                      obtain ⟨hu7, er⟩ := p59
                      rw [hu7]
                      have hrwo := rgLS (hg.2.2.2 ((k : Int) / 2) (by omega) hab.1)
                      have er' : ww = hS (g_i g) ((k : Int) / 2) := er
                      refine m_istore h dX8_take_125 (by decide) rfl ?_
                      refine m_aload_n h dX8_take_127 rfl rfl ?_
                      refine m_get h fo_X8_45 (by decide) rfl rfl dX8_take_128 ?_
                      refine m_iload h dX8_take_131 rfl ?_
                      refine m_iload h dX8_take_133 rfl ?_
                      refine m_iadd h dX8_take_135 ?_
                      refine m_iload h dX8_take_136 rfl ?_
                      refine m_iload h dX8_take_138 rfl ?_
                      refine m_icmp_eq h dX8_take_140 (tgt := 147) (by decide) (by omega) (by omega) (fun c60 => ?_) (fun c60 => ?_)
                      · skip
                        refine m_iconst h dX8_take_147 ?_
                        refine m_zast h (ar_36 G) (by omega) (by omega) (by omega) dX8_take_148 ?_
                        refine m_aload_n h dX8_take_149 rfl rfl ?_
                        refine m_get h fo_X8_48 (by decide) rfl rfl dX8_take_150 ?_
                        refine m_iload h dX8_take_153 rfl ?_
                        refine m_iload h dX8_take_155 rfl ?_
                        refine m_iadd h dX8_take_157 ?_
                        refine m_iload h dX8_take_158 rfl ?_
                        refine m_iast h (ar_37 G) (by omega) (by omega) dX8_take_160 ?_
                        refine m_iinc h dX8_take_161 rfl (by decide) rfl ?_
                        refine m_goto h dX8_take_164 (tgt := 12) (by decide) ?_
                        refine m_kill 6 ?_
                        refine m_kill 7 ?_
                        refine m_kill 8 ?_
                        refine m_kill 9 ?_
                        have en : nwp (t_s t) k = u.1 39 ((k : Int) / 2) := by
                          unfold nwp
                          rw [if_neg (by omega), ← (hlh _ (by omega) hab.1).2]
                          rw [hL1.2.2.1]
                        have ew : nwp (g_i g) k = ww := by
                          unfold nwp
                          rw [if_neg (by omega)]
                          exact er.symm
                        refine ih (k + 1) _ (by omega) (by omega) ?_
                        rw [show ((k + 1 : Nat) : Int) = (k : Int) + 1 by omega]
                        refine L1_step hL1 (by omega) (bz0 (fun q => q.2 (by rw [en, ew]; omega))) (fun _ => en.symm)
                      · skip
                        refine m_iconst h dX8_take_143 ?_
                        refine m_goto h dX8_take_144 (tgt := 148) (by decide) ?_
                        refine m_zast h (ar_36 G) (by omega) (by omega) (by omega) dX8_take_148 ?_
                        refine m_aload_n h dX8_take_149 rfl rfl ?_
                        refine m_get h fo_X8_48 (by decide) rfl rfl dX8_take_150 ?_
                        refine m_iload h dX8_take_153 rfl ?_
                        refine m_iload h dX8_take_155 rfl ?_
                        refine m_iadd h dX8_take_157 ?_
                        refine m_iload h dX8_take_158 rfl ?_
                        refine m_iast h (ar_37 G) (by omega) (by omega) dX8_take_160 ?_
                        refine m_iinc h dX8_take_161 rfl (by decide) rfl ?_
                        refine m_goto h dX8_take_164 (tgt := 12) (by decide) ?_
                        refine m_kill 6 ?_
                        refine m_kill 7 ?_
                        refine m_kill 8 ?_
                        refine m_kill 9 ?_
                        have en : nwp (t_s t) k = u.1 39 ((k : Int) / 2) := by
                          unfold nwp
                          rw [if_neg (by omega), ← (hlh _ (by omega) hab.1).2]
                          rw [hL1.2.2.1]
                        have ew : nwp (g_i g) k = ww := by
                          unfold nwp
                          rw [if_neg (by omega)]
                          exact er.symm
                        refine ih (k + 1) _ (by omega) (by omega) ?_
                        rw [show ((k + 1 : Nat) : Int) = (k : Int) + 1 by omega]
                        refine L1_step hL1 (by omega) (bz1 ⟨hab, by rw [en, ew]; omega⟩) (fun _ => en.symm)
                    · skip
                      omega
                  · skip
                    omega
                · skip
                  refine m_aload_n h dX8_take_73 rfl rfl ?_
                  refine m_get h fo_X8_51 (by decide) rfl rfl dX8_take_74 ?_
                  refine m_iload h dX8_take_77 rfl ?_
                  refine m_iald h (ar_38 G) (by omega) (by omega) dX8_take_79 ?_
                  refine m_goto h dX8_take_80 (tgt := 90) (by decide) ?_
                  refine m_istore h dX8_take_90 (by decide) rfl ?_
                  refine m_iload h dX8_take_92 rfl ?_
                  refine m_if_ne h dX8_take_94 (tgt := 101) (by decide) (by omega) (fun c61 => ?_) (fun c61 => ?_)
                  · skip
                    refine m_iload h dX8_take_101 rfl ?_
                    refine m_iconst h dX8_take_103 ?_
                    refine m_irem h dX8_take_104 (by omega) (by omega) (by omega) ?_
                    refine m_if_ne h dX8_take_105 (tgt := 118) (by decide) (by omega) (fun c62 => ?_) (fun c62 => ?_)
                    · skip
                      omega
                    · skip
                      refine m_aload_n h dX8_take_108 rfl rfl ?_
                      refine m_iload h dX8_take_109 rfl ?_
                      refine m_iconst h dX8_take_111 ?_
                      refine m_vI h (m_least1 _ hG _ ((k : Int) / 2) (by omega) (g_i g ((k : Int) / 2)) f26) moX8_least voX8_least lk_X8_121 dX8_take_112 (by decide) (by decide) rfl rfl rfl (Nat.le_of_ble_eq_true rfl) (fun ww u64 p65 => ?_)
                      obtain ⟨hu7, er⟩ := p65
                      rw [hu7]
                      have hrwo := rgLS (hg.2.2.2 ((k : Int) / 2) (by omega) hab.1)
                      have er' : ww = lS (g_i g) ((k : Int) / 2) := er
                      refine m_goto h dX8_take_115 (tgt := 125) (by decide) ?_
                      refine m_istore h dX8_take_125 (by decide) rfl ?_
                      refine m_aload_n h dX8_take_127 rfl rfl ?_
                      refine m_get h fo_X8_45 (by decide) rfl rfl dX8_take_128 ?_
                      refine m_iload h dX8_take_131 rfl ?_
                      refine m_iload h dX8_take_133 rfl ?_
                      refine m_iadd h dX8_take_135 ?_
                      refine m_iload h dX8_take_136 rfl ?_
                      refine m_iload h dX8_take_138 rfl ?_
                      refine m_icmp_eq h dX8_take_140 (tgt := 147) (by decide) (by omega) (by omega) (fun c66 => ?_) (fun c66 => ?_)
                      · skip
                        refine m_iconst h dX8_take_147 ?_
                        refine m_zast h (ar_36 G) (by omega) (by omega) (by omega) dX8_take_148 ?_
                        refine m_aload_n h dX8_take_149 rfl rfl ?_
                        refine m_get h fo_X8_48 (by decide) rfl rfl dX8_take_150 ?_
                        refine m_iload h dX8_take_153 rfl ?_
                        refine m_iload h dX8_take_155 rfl ?_
                        refine m_iadd h dX8_take_157 ?_
                        refine m_iload h dX8_take_158 rfl ?_
                        refine m_iast h (ar_37 G) (by omega) (by omega) dX8_take_160 ?_
                        refine m_iinc h dX8_take_161 rfl (by decide) rfl ?_
                        refine m_goto h dX8_take_164 (tgt := 12) (by decide) ?_
                        refine m_kill 6 ?_
                        refine m_kill 7 ?_
                        refine m_kill 8 ?_
                        refine m_kill 9 ?_
                        have en : nwp (t_s t) k = u.1 38 ((k : Int) / 2) := by
                          unfold nwp
                          rw [if_pos (by omega), ← (hlh _ (by omega) hab.1).1]
                          rw [hL1.2.1]
                        have ew : nwp (g_i g) k = ww := by
                          unfold nwp
                          rw [if_pos (by omega)]
                          exact er.symm
                        refine ih (k + 1) _ (by omega) (by omega) ?_
                        rw [show ((k + 1 : Nat) : Int) = (k : Int) + 1 by omega]
                        refine L1_step hL1 (by omega) (bz0 (fun q => q.2 (by rw [en, ew]; omega))) (fun _ => en.symm)
                      · skip
                        refine m_iconst h dX8_take_143 ?_
                        refine m_goto h dX8_take_144 (tgt := 148) (by decide) ?_
                        refine m_zast h (ar_36 G) (by omega) (by omega) (by omega) dX8_take_148 ?_
                        refine m_aload_n h dX8_take_149 rfl rfl ?_
                        refine m_get h fo_X8_48 (by decide) rfl rfl dX8_take_150 ?_
                        refine m_iload h dX8_take_153 rfl ?_
                        refine m_iload h dX8_take_155 rfl ?_
                        refine m_iadd h dX8_take_157 ?_
                        refine m_iload h dX8_take_158 rfl ?_
                        refine m_iast h (ar_37 G) (by omega) (by omega) dX8_take_160 ?_
                        refine m_iinc h dX8_take_161 rfl (by decide) rfl ?_
                        refine m_goto h dX8_take_164 (tgt := 12) (by decide) ?_
                        refine m_kill 6 ?_
                        refine m_kill 7 ?_
                        refine m_kill 8 ?_
                        refine m_kill 9 ?_
                        have en : nwp (t_s t) k = u.1 38 ((k : Int) / 2) := by
                          unfold nwp
                          rw [if_pos (by omega), ← (hlh _ (by omega) hab.1).1]
                          rw [hL1.2.1]
                        have ew : nwp (g_i g) k = ww := by
                          unfold nwp
                          rw [if_pos (by omega)]
                          exact er.symm
                        refine ih (k + 1) _ (by omega) (by omega) ?_
                        rw [show ((k + 1 : Nat) : Int) = (k : Int) + 1 by omega]
                        refine L1_step hL1 (by omega) (bz1 ⟨hab, by rw [en, ew]; omega⟩) (fun _ => en.symm)
                  · skip
                    omega
              · skip
                omega
  exact lp12 100 0 v (by omega) (by omega) ⟨⟨fun _ _ _ _ _ => rfl, rfl, fun _ _ => ⟨rfl, rfl⟩⟩, rfl, rfl, fun p q1 q2 => by omega⟩
