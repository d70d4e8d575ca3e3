/-! a number is TAKEN: the cells before and behind -/
theorem take_C {u u1 : Mem} {r : Nat} {n z p : Int} (hr : r < 12) (hJ : JC u) (hK : KC u) (hn : 0 ≤ n ∧ n < u.1 1 0) (hc8 : u.1 1 0 ≤ 8) (hz : -32 ≤ z ∧ z ≤ 31) (hb1 : hb (u.2 3 n) (z + 32) = true)
    (hnc : ¬ CnR (gC u) r (up (lS (t_s (tC u))) n z) (up (hS (t_s (tC u))) n z)) (hp : p = reaS (gC u) r n z (t_s (tC u))) (hp2 : 0 ≤ p ∧ p < 65536) (h2 : u1.2 = u.2) (h1 : ∀ i, i ≠ 20 → i ≠ 21 → u1.1 i = u.1 i) (h19 : SpOk u1 19)
    {u3 : Mem} (h3 : u3 = fitM (wL (adS u1 r n z (u.1 18 1) p) 3 n (clr (u1.2 3 n) (z + 32))) 7 n (clr (u1.2 3 n) (z + 32))) : tC u3 = tkS (gC u) r n z (tC u) ∧ Fr u u3 ∧ JC u3 ∧ KC u3 := by
  have hk : 0 ≤ z + 32 ∧ z + 32 < 64 := by omega
  rw [h2] at h3
  generalize hW : clr (u.2 3 n) (z + 32) = W at h3
  have e2 : u3.2 = (wL (adS u1 r n z (u.1 18 1) p) 3 n W).2 := by rw [h3, fit_2]
  have e2b : ∀ i, i ≠ 3 → u3.2 i = u.2 i := by
    intro i hi
    rw [e2]
    show u2 (adS u1 r n z (u.1 18 1) p).2 3 n W i = _
    rw [u2_r hi]
    show u1.2 i = u.2 i
    rw [h2]
  have e2c : ∀ a, u3.2 3 a = if a = n then W else u.2 3 a := by
    intro a
    rw [e2]
    show u2 (adS u1 r n z (u.1 18 1) p).2 3 n W 3 a = _
    by_cases e : a = n
    · subst e; rw [u2_s, if_pos rfl]
    · rw [u2_n (fun q => e q.2), if_neg e]
      show u1.2 3 a = u.2 3 a
      rw [h2]
  have e1 : ∀ i, i ≠ 8 → i ≠ 9 → u3.1 i = (adS u1 r n z (u.1 18 1) p).1 i := by
    intro i q1 q2
    rw [h3, fit_oth (by omega) (by omega)]
    rfl
  have hts : t_s (tC u3) = cS (t_s (tC u)) n (z + 32) := by
    funext a b
    show hbZ (u3.2 3 a) b = if a = n ∧ b = z + 32 then false else hbZ (u.2 3 a) b
    rw [e2c a]
    by_cases e : a = n
    · subst e
      rw [if_pos rfl, ← hW, hbZ_clr hk]
      by_cases e' : b = z + 32
      · rw [if_pos e', if_pos ⟨rfl, e'⟩]
      · rw [if_neg e', if_neg (fun q => e' q.2)]
    · rw [if_neg e, if_neg (fun q => e q.1)]
  have had := tC_ad (v := u1) (ro := r) (n := n) (z := z) (rd := u.1 18 1) (pt := p)
  unfold tC at had
  simp only [Prod.mk.injEq] at had
  obtain ⟨-, d12, d13, d14, d15, d16, d17, d18, d19⟩ := had
  rw [h1 12 (by decide) (by decide)] at d12 d13 d14 d15 d16 d17
  rw [h1 13 (by decide) (by decide)] at d13
  rw [h1 14 (by decide) (by decide)] at d14
  rw [h1 15 (by decide) (by decide)] at d15
  rw [h1 16 (by decide) (by decide)] at d16
  rw [h1 17 (by decide) (by decide)] at d17
  rw [h1 18 (by decide) (by decide)] at d18 d19
  have hset : t_s (tC u) n (z + 32) = true := by show hbZ _ _ = true; rw [hbZ_in hk]; exact hb1
  have hTC : tC u3 = tkS (gC u) r n z (tC u) := by
    unfold tkS
    rw [if_pos ⟨hset, tf_n hnc⟩, ← hp, ← hts]
    show (t_s (tC u3), u3.1 12 0, u3.1 13, u3.1 14, u3.1 15, u3.1 16, u3.1 17, u3.1 18 0, u3.1 18 1) = _
    rw [e1 12 (by decide) (by decide), e1 13 (by decide) (by decide), e1 14 (by decide) (by decide), e1 15 (by decide) (by decide), e1 16 (by decide) (by decide), e1 17 (by decide) (by decide), e1 18 (by decide) (by decide), d12, d13, d14, d15, d16, d17, d18, d19]
    rfl
  have hFr : Fr u u3 := by
    refine ⟨fun i hi => ?_, e2b⟩
    rw [e1 i (by omega) (by omega), ad_oth (by omega)]
    exact h1 i (by omega) (by omega)
  have hnn : 0 ≤ n ∧ n < 8 := by omega
  refine ⟨hTC, hFr, ?_, ?_⟩
  · obtain ⟨j1, j2, j3, j4⟩ := hJ
    refine ⟨?_, ?_, ?_, ?_⟩
    · rw [h3]
      apply fit_ok
      intro x
      show -32 ≤ (adS u1 r n z (u.1 18 1) p).1 8 x ∧ (adS u1 r n z (u.1 18 1) p).1 8 x ≤ (adS u1 r n z (u.1 18 1) p).1 9 x ∧ (adS u1 r n z (u.1 18 1) p).1 9 x ≤ 31
      rw [ad_oth (i := 8) (by omega), ad_oth (i := 9) (by omega), h1 8 (by decide) (by decide), h1 9 (by decide) (by decide)]
      exact j1 x
    · intro x
      show -32 ≤ u3.1 20 x ∧ u3.1 20 x ≤ u3.1 21 x ∧ u3.1 21 x ≤ 31
      rw [e1 20 (by decide) (by decide), e1 21 (by decide) (by decide), ad_oth (by omega), ad_oth (by omega)]
      exact h19 x
    · intro a a1 a2 a3
      rw [hFr.1 1 (by omega)] at a2
      by_cases e : a = n
      · subst e
        have hw0 : uW W ≠ 0 := by
          intro q
          apply a3
          show emp (fun k => hbZ (u3.2 3 a) k)
          rw [e2c a, if_pos rfl]
          exact emp_Z.mpr q
        have q := fit_lo (v := wL (adS u1 r a z (u.1 18 1) p) 3 a W) (si := 7) (n := a) hw0 (x := a)
        rw [← h3, if_pos rfl, if_pos rfl] at q
        have es : t_s (tC u3) a = hbZ W := by
          funext k
          show hbZ (u3.2 3 a) k = _
          rw [e2c a, if_pos rfl]
        rw [es, SL_Z, SM_Z]
        exact q
      · have es : t_s (tC u3) a = t_s (tC u) a := by rw [hts]; exact cS_o e
        rw [es] at a3 ⊢
        have q0 := j3 a a1 a2 a3
        have q1 : u3.1 8 a = u.1 8 a ∧ u3.1 9 a = u.1 9 a := by
          rw [h3]
          by_cases hw0 : uW W = 0
          · rw [show fitM (wL (adS u1 r n z (u.1 18 1) p) 3 n W) 7 n W = wL (adS u1 r n z (u.1 18 1) p) 3 n W from by unfold fitM; rw [if_pos hw0]]
            show (adS u1 r n z (u.1 18 1) p).1 8 a = _ ∧ (adS u1 r n z (u.1 18 1) p).1 9 a = _
            rw [ad_oth (by omega), ad_oth (by omega), h1 8 (by decide) (by decide), h1 9 (by decide) (by decide)]
            exact ⟨rfl, rfl⟩
          · have q := fit_lo (v := wL (adS u1 r n z (u.1 18 1) p) 3 n W) (si := 7) (n := n) hw0 (x := a)
            rw [if_neg e, if_neg e] at q
            have q8 : (wL (adS u1 r n z (u.1 18 1) p) 3 n W).1 (7 + 1) a = u.1 8 a := by
              show (adS u1 r n z (u.1 18 1) p).1 8 a = _
              rw [ad_oth (by omega), h1 8 (by decide) (by decide)]
            have q9 : (wL (adS u1 r n z (u.1 18 1) p) 3 n W).1 (7 + 2) a = u.1 9 a := by
              show (adS u1 r n z (u.1 18 1) p).1 9 a = _
              rw [ad_oth (by omega), h1 9 (by decide) (by decide)]
            exact ⟨q.1.trans q8, q.2.trans q9⟩
        rw [q1.1, q1.2]
        exact q0
    · intro a b qa qb q
      rw [hFr.g]
      rw [hts] at q
      rw [hFr.1 1 (by omega)] at qb
      refine j4 a b qa qb ?_
      by_cases e : a = n ∧ b = z + 32
      · rw [e.1, e.2, cS_s] at q; cases q
      · simpa [cS, e] using q
  · obtain ⟨k1, k2, k3, k4, k5⟩ := hK
    have hto := tot_clr (s := t_s (tC u)) hnn hk hset
    refine ⟨?_, ?_, ?_, ?_, ?_⟩
    · rw [hts, hto, e1 12 (by decide) (by decide), d12]; omega
    · intro x
      rw [e1 13 (by decide) (by decide), d13]
      have := k2 x
      unfold up
      split <;> omega
    · intro x
      rw [e1 14 (by decide) (by decide), d14]
      have := k3 x
      unfold up
      split <;> omega
    · intro x
      rw [e1 15 (by decide) (by decide), d15]
      have := k4 x
      unfold up
      split <;> omega
    · intro x
      rw [e1 17 (by decide) (by decide), d17]
      have := k5 x
      unfold up
      split <;> omega
theorem tC_x {u : Mem} {x : Int} : tC (wI u 18 0 x) = setX (tC u) x := by
  unfold tC setX
  rw [wI_c (i := 18) (j := 12) (by decide), wI_c (i := 18) (j := 13) (by decide), wI_c (i := 18) (j := 14) (by decide), wI_c (i := 18) (j := 15) (by decide), wI_c (i := 18) (j := 16) (by decide), wI_c (i := 18) (j := 17) (by decide), wI_s, wI_n (by decide)]
  rfl
theorem tC_d {u : Mem} {x : Int} : tC (wI u 18 1 x) = setD (tC u) x := by
  unfold tC setD
  rw [wI_c (i := 18) (j := 12) (by decide), wI_c (i := 18) (j := 13) (by decide), wI_c (i := 18) (j := 14) (by decide), wI_c (i := 18) (j := 15) (by decide), wI_c (i := 18) (j := 16) (by decide), wI_c (i := 18) (j := 17) (by decide), wI_s, wI_n (by decide)]
  rfl
theorem Fr_18 {u : Mem} {k x : Int} : Fr u (wI u 18 k x) := ⟨fun i hi => wI_c (by omega), fun _ _ => rfl⟩
theorem JC_18 {u : Mem} {k x : Int} (h : JC u) : JC (wI u 18 k x) := by
  have e : t_s (tC (wI u 18 k x)) = t_s (tC u) := rfl
  unfold JC SpOk at *
  rw [Fr_18.g, e, wI_c (i := 18) (j := 1) (by decide), wI_c (i := 18) (j := 7 + 1) (by decide), wI_c (i := 18) (j := 7 + 2) (by decide), wI_c (i := 18) (j := 19 + 1) (by decide), wI_c (i := 18) (j := 19 + 2) (by decide)]
  exact h
theorem KC_18 {u : Mem} {k x : Int} (h : KC u) : KC (wI u 18 k x) := by
  have e : t_s (tC (wI u 18 k x)) = t_s (tC u) := rfl
  unfold KC at *
  rw [e, wI_c (i := 18) (j := 12) (by decide), wI_c (i := 18) (j := 13) (by decide), wI_c (i := 18) (j := 14) (by decide), wI_c (i := 18) (j := 15) (by decide), wI_c (i := 18) (j := 17) (by decide)]
  exact h
theorem sfS_s {g : Cfg} {r : Nat} {n z : Int} {t : TT} (hz : -32 ≤ z) : sfS g r n t (z + 1 + 32).toNat = tkS g r n z (sfS g r n t (z + 32).toNat) := by
  rw [show (z + 1 + 32).toNat = (z + 32).toNat + 1 by omega]
  show tkS g r n (((z + 32).toNat : Int) - 32) _ = _
  rw [show ((z + 32).toNat : Int) - 32 = z by omega]
theorem tkS_no {g : Cfg} {r : Nat} {n z : Int} {t : TT} (h : ¬ (t_s t n (z + 32) = true ∧ ¬ CnR g r (up (lS (t_s t)) n z) (up (hS (t_s t)) n z))) : tkS g r n z t = t := by
  unfold tkS
  rw [if_neg]
  intro q
  apply h
  refine ⟨q.1, fun q2 => ?_⟩
  rw [tf_p q2] at q
  cases q.2
/-- what the rounds keep -/
def OK3 (v : Mem) : Prop := IC v ∧ JC v ∧ KC v ∧ NE (gC v) (tC v)
