/-! a step's parts, from the last place down -/
noncomputable def EJ (g : Cfg) (r : Nat) (n z : Int) (s : Int → Int → Bool) (j : Int) : Tr := elN g r n z (lS s) (hS s) (lS (g_i g)) (hS (g_i g)) (lS s, hS s, 0) (2 * g_n g - j).toNat
theorem EJ_hi {g : Cfg} {r : Nat} {n z : Int} {s : Int → Int → Bool} {j : Int} (h : 2 * g_n g ≤ j) : EJ g r n z s j = (lS s, hS s, 0) := by
  unfold EJ
  rw [show (2 * g_n g - j).toNat = 0 by omega]
  rfl
theorem EJ_step {g : Cfg} {r : Nat} {n z : Int} {s : Int → Int → Bool} {k : Int} (h0 : 0 ≤ k) (h : k < 2 * g_n g) : EJ g r n z s k = elS g r n z (lS s) (hS s) (lS (g_i g)) (hS (g_i g)) (k / 2) (decide (k % 2 = 1)) (2 ^ k.toNat) (EJ g r n z s (k + 1)) := by
  unfold EJ
  rw [show (2 * g_n g - k).toNat = (2 * g_n g - (k + 1)).toNat + 1 by omega]
  simp only [elN]
  rw [show 2 * g_n g - 1 - ((2 * g_n g - (k + 1)).toNat : Int) = k by omega]
theorem EJ_bits {g : Cfg} {r : Nat} {n z : Int} {s : Int → Int → Bool} {k : Int} (h0 : 0 ≤ k) : ∃ c : Int, 0 ≤ c ∧ (EJ g r n z s k).2.2 = 2 ^ k.toNat * c := by
  by_cases h : 2 * g_n g ≤ k
  · exact ⟨0, by omega, by rw [EJ_hi h, Int.mul_zero]⟩
  · obtain ⟨c, c0, c1, c2⟩ := elN_b (g := g) (r := r) (n := n) (z := z) (cl := lS s) (ch := hS s) (fl := lS (g_i g)) (fh := hS (g_i g)) (t := (lS s, hS s, 0)) rfl (T := (2 * g_n g).toNat) (by omega) (2 * g_n g - k).toNat (by omega)
    refine ⟨c, c0, ?_⟩
    rw [show (2 * g_n g).toNat - (2 * g_n g - k).toNat = k.toNat by omega] at c1
    exact c1
theorem EJ_0 {g : Cfg} {r : Nat} {n z : Int} {s : Int → Int → Bool} : (EJ g r n z s 0).2.2 = reaS g r n z s := by
  unfold EJ reaS
  rw [Int.sub_zero]
theorem pb_n {a q : Nat} : pb (a : Int) (q : Int) = a.testBit q := by
  unfold pb
  rw [Int.toNat_natCast, Int.toNat_natCast]
theorem pb_lo {p q : Nat} {c : Int} (hc : 0 ≤ c) (h : q ≤ p) : pb (2 ^ (p + 1) * c) (q : Int) = false := by
  obtain ⟨m, rfl⟩ : ∃ m : Nat, c = m := ⟨c.toNat, by omega⟩
  rw [show (2 : Int) ^ (p + 1) * (m : Int) = ((2 ^ (p + 1) * m : Nat) : Int) by rw [Int.natCast_mul, Int.natCast_pow]; rfl, pb_n, Nat.testBit_two_pow_mul]
  simp
  omega
theorem pb_ad {p : Nat} {c : Int} (hc : 0 ≤ c) : pb (2 ^ (p + 1) * c + 2 ^ p) (p : Int) = true := by
  obtain ⟨m, rfl⟩ : ∃ m : Nat, c = m := ⟨c.toNat, by omega⟩
  rw [show (2 : Int) ^ (p + 1) * (m : Int) + 2 ^ p = ((2 ^ p * (2 * m + 1) : Nat) : Int) by
    rw [Int.natCast_mul, Int.natCast_pow, Int.pow_succ, Int.natCast_add, Int.natCast_mul, Int.mul_add, Int.mul_assoc]
    show _ = 2 ^ p * (2 * (m : Int)) + 2 ^ p * 1
    rw [Int.mul_one], pb_n, Nat.testBit_two_pow_mul]
  simp
theorem pb_ot {p q : Nat} {c : Int} (hc : 0 ≤ c) (h : p < q) : pb (2 ^ (p + 1) * c + 2 ^ p) (q : Int) = pb (2 ^ (p + 1) * c) (q : Int) := by
  obtain ⟨m, rfl⟩ : ∃ m : Nat, c = m := ⟨c.toNat, by omega⟩
  rw [show (2 : Int) ^ (p + 1) * (m : Int) + 2 ^ p = ((2 ^ p * (2 * m + 1) : Nat) : Int) by
    rw [Int.natCast_mul, Int.natCast_pow, Int.pow_succ, Int.natCast_add, Int.natCast_mul, Int.mul_add, Int.mul_assoc]
    show _ = 2 ^ p * (2 * (m : Int)) + 2 ^ p * 1
    rw [Int.mul_one], show (2 : Int) ^ (p + 1) * (m : Int) = ((2 ^ p * (2 * m) : Nat) : Int) by
    rw [Int.natCast_mul, Int.natCast_pow, Int.pow_succ, Int.natCast_mul, Int.mul_assoc]
    rfl, pb_n, pb_n, Nat.testBit_two_pow_mul, Nat.testBit_two_pow_mul]
  obtain ⟨d, rfl⟩ : ∃ d, q = p + (d + 1) := ⟨q - p - 1, by omega⟩
  rw [show p + (d + 1) - p = d + 1 by omega, Nat.testBit_succ, Nat.testBit_succ, show (2 * m + 1) / 2 = m by omega, show 2 * m / 2 = m by omega]
theorem ipow_le {a b : Nat} (h : a ≤ b) : (2 : Int) ^ a ≤ 2 ^ b := by
  have q := Nat.pow_le_pow_right (n := 2) (by decide) h
  rw [show (2 : Int) ^ a = ((2 ^ a : Nat) : Int) by rw [Int.natCast_pow]; rfl, show (2 : Int) ^ b = ((2 ^ b : Nat) : Int) by rw [Int.natCast_pow]; rfl]
  exact Int.ofNat_le.mpr q
theorem up_id {f : Int → Int} {o a : Int} (h : f o = a) : up f o a = f := by
  funext x
  by_cases e : x = o
  · subst e; rw [up_s, h]
  · rw [up_n e]
theorem elS_skip {g : Cfg} {r : Nat} {n z : Int} {cl ch fl fh : Int → Int} {o : Int} {mo : Bool} {w : Int} {t : Tr} (h : ¬ (o ≠ n ∧ AbR g r o)) : elS g r n z cl ch fl fh o mo w t = t := by
  unfold elS
  rw [tf_n h, if_neg (by simp)]
theorem elS_hy {g : Cfg} {r : Nat} {n z : Int} {cl ch fl fh : Int → Int} {o : Int} {w : Int} {t : Tr} (h : o ≠ n ∧ AbR g r o) (hc : CnR g r (up t.1 n z) (up (up t.2.1 o (fh o)) n z)) : elS g r n z cl ch fl fh o true w t = (t.1, up (up t.2.1 o (fh o)) o (ch o), t.2.2 + w) := by
  unfold elS
  rw [tf_p h, if_pos rfl, if_pos rfl, tf_p hc, if_pos rfl]
theorem elS_hn {g : Cfg} {r : Nat} {n z : Int} {cl ch fl fh : Int → Int} {o : Int} {w : Int} {t : Tr} (h : o ≠ n ∧ AbR g r o) (hc : ¬ CnR g r (up t.1 n z) (up (up t.2.1 o (fh o)) n z)) : elS g r n z cl ch fl fh o true w t = (t.1, up t.2.1 o (fh o), t.2.2) := by
  unfold elS
  rw [tf_p h, if_pos rfl, if_pos rfl, tf_n hc, if_neg (by simp)]
theorem elS_ly {g : Cfg} {r : Nat} {n z : Int} {cl ch fl fh : Int → Int} {o : Int} {w : Int} {t : Tr} (h : o ≠ n ∧ AbR g r o) (hc : CnR g r (up (up t.1 o (fl o)) n z) (up t.2.1 n z)) : elS g r n z cl ch fl fh o false w t = (up (up t.1 o (fl o)) o (cl o), t.2.1, t.2.2 + w) := by
  unfold elS
  rw [tf_p h, if_pos rfl, if_neg (by simp), tf_p hc, if_pos rfl]
theorem elS_ln {g : Cfg} {r : Nat} {n z : Int} {cl ch fl fh : Int → Int} {o : Int} {w : Int} {t : Tr} (h : o ≠ n ∧ AbR g r o) (hc : ¬ CnR g r (up (up t.1 o (fl o)) n z) (up t.2.1 n z)) : elS g r n z cl ch fl fh o false w t = (up t.1 o (fl o), t.2.1, t.2.2) := by
  unfold elS
  rw [tf_p h, if_pos rfl, if_neg (by simp), tf_n hc, if_neg (by simp)]
theorem up_up {f : Int → Int} {o a b : Int} : up (up f o a) o b = up f o b := by
  funext x
  by_cases e : x = o
  · subst e; rw [up_s, up_s]
  · rw [up_n e, up_n e, up_n e]
/-- what is known of the trial -/
def EInv (g : Cfg) (r : Nat) (n z : Int) (s : Int → Int → Bool) (k : Int) : Prop := ¬ CnR g r (up (EJ g r n z s k).1 n z) (up (EJ g r n z s k).2.1 n z) ∧ (∀ p, 0 ≤ p → p < k → (p % 2 = 0 → (EJ g r n z s k).1 (p / 2) = lS s (p / 2)) ∧ (p % 2 = 1 → (EJ g r n z s k).2.1 (p / 2) = hS s (p / 2))) ∧ ∀ x, ((EJ g r n z s k).1 x = lS s x ∨ (EJ g r n z s k).1 x = lS (g_i g) x) ∧ ((EJ g r n z s k).2.1 x = hS s x ∨ (EJ g r n z s k).2.1 x = hS (g_i g) x)
theorem EInv_all {g : Cfg} {r : Nat} {n z : Int} {s : Int → Int → Bool} (h : ¬ CnR g r (up (lS s) n z) (up (hS s) n z)) : ∀ (d : Nat) (k : Int), 0 ≤ k → 2 * g_n g - k ≤ d → EInv g r n z s k
  | 0, k, hk, hd => by
    unfold EInv
    rw [EJ_hi (by omega)]
    exact ⟨h, fun p _ _ => ⟨fun _ => rfl, fun _ => rfl⟩, fun x => ⟨Or.inl rfl, Or.inl rfl⟩⟩
  | d + 1, k, hk, hd => by
    by_cases hT : 2 * g_n g ≤ k
    · unfold EInv
      rw [EJ_hi hT]
      exact ⟨h, fun p _ _ => ⟨fun _ => rfl, fun _ => rfl⟩, fun x => ⟨Or.inl rfl, Or.inl rfl⟩⟩
    · obtain ⟨i1, i2, i3⟩ := EInv_all h d (k + 1) (by omega) (by omega)
      have hst := EJ_step (g := g) (r := r) (n := n) (z := z) (s := s) hk (by omega)
      unfold EInv
      rw [hst]
      generalize EJ g r n z s (k + 1) = E at *
      have hk2 := i2 k hk (by omega)
      by_cases ha : k / 2 ≠ n ∧ AbR g r (k / 2)
      · by_cases hm : k % 2 = 1
        · rw [decide_eq_true hm]
          by_cases hc : CnR g r (up E.1 n z) (up (up E.2.1 (k / 2) (hS (g_i g) (k / 2))) n z)
          · rw [elS_hy ha hc]
            have e : up (up E.2.1 (k / 2) (hS (g_i g) (k / 2))) (k / 2) (hS s (k / 2)) = E.2.1 := by rw [up_up]; exact up_id (hk2.2 hm)
            rw [e]
            exact ⟨i1, fun p q1 q2 => i2 p q1 (by omega), i3⟩
          · rw [elS_hn ha hc]
            refine ⟨hc, fun p q1 q2 => ⟨(i2 p q1 (by omega)).1, fun q => ?_⟩, fun x => ⟨(i3 x).1, ?_⟩⟩
            · show up E.2.1 (k / 2) (hS (g_i g) (k / 2)) (p / 2) = _
              rw [up_n (by omega)]
              exact (i2 p q1 (by omega)).2 q
            · show up E.2.1 (k / 2) (hS (g_i g) (k / 2)) x = _ ∨ up E.2.1 (k / 2) (hS (g_i g) (k / 2)) x = _
              by_cases e : x = k / 2
              · subst e; rw [up_s]; exact Or.inr rfl
              · rw [up_n e]; exact (i3 x).2
        · rw [decide_eq_false hm]
          by_cases hc : CnR g r (up (up E.1 (k / 2) (lS (g_i g) (k / 2))) n z) (up E.2.1 n z)
          · rw [elS_ly ha hc]
            have e : up (up E.1 (k / 2) (lS (g_i g) (k / 2))) (k / 2) (lS s (k / 2)) = E.1 := by rw [up_up]; exact up_id (hk2.1 (by omega))
            rw [e]
            exact ⟨i1, fun p q1 q2 => i2 p q1 (by omega), i3⟩
          · rw [elS_ln ha hc]
            refine ⟨hc, fun p q1 q2 => ⟨fun q => ?_, (i2 p q1 (by omega)).2⟩, fun x => ⟨?_, (i3 x).2⟩⟩
            · show up E.1 (k / 2) (lS (g_i g) (k / 2)) (p / 2) = _
              rw [up_n (by omega)]
              exact (i2 p q1 (by omega)).1 q
            · show up E.1 (k / 2) (lS (g_i g) (k / 2)) x = _ ∨ up E.1 (k / 2) (lS (g_i g) (k / 2)) x = _
              by_cases e : x = k / 2
              · subst e; rw [up_s]; exact Or.inr rfl
              · rw [up_n e]; exact (i3 x).1
      · rw [elS_skip ha]
        exact ⟨i1, fun p q1 q2 => i2 p q1 (by omega), i3⟩
def Abp (g : Cfg) (r : Nat) (n p : Int) : Prop := p / 2 < g_n g ∧ p / 2 ≠ n ∧ AbR g r (p / 2)
noncomputable def nwp (s : Int → Int → Bool) (p : Int) : Int := if p % 2 = 0 then lS s (p / 2) else hS s (p / 2)
/-- a part that is skipped -/
theorem EJ_skip {g : Cfg} {r : Nat} {n z : Int} {s : Int → Int → Bool} {k : Int} (h0 : 0 ≤ k) (hI : EInv g r n z s (k + 1)) (h : ¬ (Abp g r n k ∧ nwp s k ≠ nwp (g_i g) k)) : EJ g r n z s k = EJ g r n z s (k + 1) := by
  by_cases hT : 2 * g_n g ≤ k
  · rw [EJ_hi hT, EJ_hi (by omega)]
  · rw [EJ_step h0 (by omega)]
    obtain ⟨i1, i2, i3⟩ := hI
    have hk2 := i2 k h0 (by omega)
    generalize EJ g r n z s (k + 1) = E at *
    by_cases ha : k / 2 ≠ n ∧ AbR g r (k / 2)
    · have hab : Abp g r n k := ⟨by omega, ha⟩
      have heq : nwp s k = nwp (g_i g) k := Classical.byContradiction (fun q => h ⟨hab, q⟩)
      unfold nwp at heq
      by_cases hm : k % 2 = 1
      · rw [decide_eq_true hm]
        rw [if_neg (by omega), if_neg (by omega)] at heq
        have e : up E.2.1 (k / 2) (hS (g_i g) (k / 2)) = E.2.1 := up_id (by rw [← heq]; exact hk2.2 hm)
        rw [elS_hn ha (by rw [e]; exact i1), e]
      · rw [decide_eq_false hm]
        rw [if_pos (by omega), if_pos (by omega)] at heq
        have e : up E.1 (k / 2) (lS (g_i g) (k / 2)) = E.1 := up_id (by rw [← heq]; exact hk2.1 (by omega))
        rw [elS_ln ha (by rw [e]; exact i1), e]
    · rw [elS_skip ha]
theorem EJ_pbs {g : Cfg} {r : Nat} {n z : Int} {s : Int → Int → Bool} {k : Int} (h0 : 0 ≤ k) : pb (EJ g r n z s (k + 1)).2.2 k = false := by
  obtain ⟨c, c0, c1⟩ := EJ_bits (g := g) (r := r) (n := n) (z := z) (s := s) (k := k + 1) (by omega)
  rw [c1, show (k + 1).toNat = k.toNat + 1 by omega]
  have := pb_lo (p := k.toNat) (q := k.toNat) c0 (Nat.le_refl _)
  rwa [Int.toNat_of_nonneg h0] at this
theorem EJ_pba {g : Cfg} {r : Nat} {n z : Int} {s : Int → Int → Bool} {k p : Int} (h0 : 0 ≤ k) (hp : k ≤ p) : pb ((EJ g r n z s (k + 1)).2.2 + 2 ^ k.toNat) p = if p = k then true else pb (EJ g r n z s (k + 1)).2.2 p := by
  obtain ⟨c, c0, c1⟩ := EJ_bits (g := g) (r := r) (n := n) (z := z) (s := s) (k := k + 1) (by omega)
  rw [c1, show (k + 1).toNat = k.toNat + 1 by omega]
  by_cases e : p = k
  · subst e
    rw [if_pos rfl]
    have := pb_ad (p := p.toNat) c0
    rwa [Int.toNat_of_nonneg h0] at this
  · rw [if_neg e]
    have := pb_ot (p := k.toNat) (q := p.toNat) c0 (by omega)
    rwa [Int.toNat_of_nonneg (by omega)] at this
/-- a part that is tried -/
theorem EJ_yes {g : Cfg} {r : Nat} {n z : Int} {s : Int → Int → Bool} {k : Int} (h0 : 0 ≤ k) (ha : Abp g r n k) {lo hi lo' hi' : Int → Int} (hg : GO g) (hr : RwG g r) (hlo : ∀ x, 0 ≤ x → x < g_n g → lo x = (EJ g r n z s (k + 1)).1 x ∧ hi x = (EJ g r n z s (k + 1)).2.1 x) (h1 : (k % 2 = 0 ∧ lo' = up lo (k / 2) (nwp (g_i g) k) ∧ hi' = hi) ∨ (k % 2 = 1 ∧ lo' = lo ∧ hi' = up hi (k / 2) (nwp (g_i g) k))) :
    (CnR g r (up lo' n z) (up hi' n z) → ((∀ p, k ≤ p → pb (EJ g r n z s k).2.2 p = if p = k then true else pb (EJ g r n z s (k + 1)).2.2 p) ∧ ∀ lo2 hi2 : Int → Int, ((k % 2 = 0 ∧ lo2 = up lo' (k / 2) (nwp s k) ∧ hi2 = hi') ∨ (k % 2 = 1 ∧ lo2 = lo' ∧ hi2 = up hi' (k / 2) (nwp s k))) → ∀ x, 0 ≤ x → x < g_n g → lo2 x = (EJ g r n z s k).1 x ∧ hi2 x = (EJ g r n z s k).2.1 x)) ∧
    (¬ CnR g r (up lo' n z) (up hi' n z) → ((EJ g r n z s k).2.2 = (EJ g r n z s (k + 1)).2.2 ∧ ∀ x, 0 ≤ x → x < g_n g → lo' x = (EJ g r n z s k).1 x ∧ hi' x = (EJ g r n z s k).2.1 x)) := by
  obtain ⟨ha1, ha2⟩ := ha
  have hst := EJ_step (g := g) (r := r) (n := n) (z := z) (s := s) h0 (by omega)
  have hpa := fun p => EJ_pba (g := g) (r := r) (n := n) (z := z) (s := s) (k := k) (p := p) h0
  rw [hst]
  generalize EJ g r n z s (k + 1) = E at *
  have hag : ∀ {a b a' b' : Int → Int}, (∀ x, 0 ≤ x → x < g_n g → a x = a' x ∧ b x = b' x) → (CnR g r (up a n z) (up b n z) ↔ CnR g r (up a' n z) (up b' n z)) := by
    intro a b a' b' q
    apply CnR_c hr.2.2.2.2.2.2.1
    intro x x0 hx
    have := q x x0 (hr.2.2.2.2.2.2.2 x hx x0)
    by_cases e : x = n
    · subst e; rw [up_s, up_s, up_s, up_s]; exact ⟨rfl, rfl⟩
    · rw [up_n e, up_n e, up_n e, up_n e]; exact this
  rcases h1 with ⟨hm, rfl, rfl⟩ | ⟨hm, rfl, rfl⟩
  · have en : ∀ q : Int → Int → Bool, nwp q k = lS q (k / 2) := fun q => by unfold nwp; rw [if_pos hm]
    rw [en, en]
    have hq : ∀ x, 0 ≤ x → x < g_n g → up lo (k / 2) (lS (g_i g) (k / 2)) x = up E.1 (k / 2) (lS (g_i g) (k / 2)) x ∧ hi' x = E.2.1 x := by
      intro x x0 x1
      have := hlo x x0 x1
      by_cases e : x = k / 2
      · subst e; rw [up_s, up_s]; exact ⟨rfl, this.2⟩
      · rw [up_n e, up_n e]; exact this
    rw [hag hq, decide_eq_false (by omega)]
    refine ⟨fun hc => ?_, fun hc => ?_⟩
    · rw [elS_ly ha2 hc]
      refine ⟨fun p hp => hpa p hp, ?_⟩
      rintro lo2 hi2 (⟨_, rfl, rfl⟩ | ⟨q, _⟩)
      · intro x x0 x1
        refine ⟨?_, (hq x x0 x1).2⟩
        show _ = up (up E.1 (k / 2) (lS (g_i g) (k / 2))) (k / 2) (lS s (k / 2)) x
        by_cases e : x = k / 2
        · subst e; rw [up_s, up_s]
        · rw [up_n e, up_n e, up_n e, up_n e]; exact (hlo x x0 x1).1
      · omega
    · rw [elS_ln ha2 hc]
      exact ⟨rfl, hq⟩
  · have en : ∀ q : Int → Int → Bool, nwp q k = hS q (k / 2) := fun q => by unfold nwp; rw [if_neg (by omega)]
    rw [en, en]
    have hq : ∀ x, 0 ≤ x → x < g_n g → lo' x = E.1 x ∧ up hi (k / 2) (hS (g_i g) (k / 2)) x = up E.2.1 (k / 2) (hS (g_i g) (k / 2)) x := by
      intro x x0 x1
      have := hlo x x0 x1
      by_cases e : x = k / 2
      · subst e; rw [up_s, up_s]; exact ⟨this.1, rfl⟩
      · rw [up_n e, up_n e]; exact this
    rw [hag hq, decide_eq_true hm]
    refine ⟨fun hc => ?_, fun hc => ?_⟩
    · rw [elS_hy ha2 hc]
      refine ⟨fun p hp => hpa p hp, ?_⟩
      rintro lo2 hi2 (⟨q, _⟩ | ⟨_, rfl, rfl⟩)
      · omega
      · intro x x0 x1
        refine ⟨(hq x x0 x1).1, ?_⟩
        show _ = up (up E.2.1 (k / 2) (hS (g_i g) (k / 2))) (k / 2) (hS s (k / 2)) x
        by_cases e : x = k / 2
        · subst e; rw [up_s, up_s]
        · rw [up_n e, up_n e, up_n e, up_n e]; exact (hlo x x0 x1).2
    · rw [elS_hn ha2 hc]
      exact ⟨rfl, hq⟩
/-- the step is written down -/
theorem RM_take {g : Cfg} {t : TT} {r : Nat} {n z : Int} {v U : Mem} (hg : GO g) (ht : TO g t) (hR : RMM g t v) (hn : 0 ≤ n ∧ n < g_n g) (hz : -32 ≤ z ∧ z ≤ 31) (hs : t_s t n (z + 32) = true) (hc : ¬ CnR g r (up (lS (t_s t)) n z) (up (hS (t_s t)) n z))
    (h25 : U.1 25 0 = v.1 25 0 ∧ U.1 25 1 = v.1 25 1 ∧ U.1 25 8 = v.1 25 8 ∧ U.1 25 9 = v.1 25 9 ∧ U.1 25 10 = v.1 25 10 + 1)
    (hi : ∀ i : Nat, (i = 26 ∨ (28 ≤ i ∧ i ≤ 31)) → U.1 i = v.1 i) (h27 : U.1 27 = up (v.1 27) (64 * n + z + 32) 0)
    (h32 : U.1 32 = up (v.1 32) (v.1 25 10) r) (h33 : U.1 33 = up (v.1 33) (v.1 25 10) n) (h34 : U.1 34 = up (v.1 34) (v.1 25 10) z) (h35 : U.1 35 = up (v.1 35) (v.1 25 10) (v.1 25 8))
    (ho : ∀ x, x < 16 * v.1 25 10 → U.1 36 x = v.1 36 x ∧ U.1 37 x = v.1 37 x)
    (hp : ∀ p, 0 ≤ p → p < 16 → bz (U.1 36 (16 * v.1 25 10 + p)) (pb (reaS g r n z (t_s t)) p = true) ∧ (pb (reaS g r n z (t_s t)) p = true → U.1 37 (16 * v.1 25 10 + p) = nwp (t_s t) p)) : RMM g (tkS g r n z t) U := by
  obtain ⟨hs0, t0, t1, t2, t3, t4⟩ := hR
  have htc := ht.c
  have hg8 := hg.1
  refine ⟨hs0.cg h25.1 h25.2.1 hi, ?_⟩
  unfold tkS
  rw [if_pos ⟨hs, tf_n hc⟩]
  refine ⟨?_, h25.2.2.1.trans t1, h25.2.2.2.1.trans t2, ?_, ?_⟩
  · intro a k a0 a8 k0 k64
    rw [h27]
    show bz _ (cS (t_s t) n (z + 32) a k = true)
    unfold cS
    by_cases e : a = n ∧ k = z + 32
    · rw [if_pos e, e.1, e.2, show 64 * n + (z + 32) = 64 * n + z + 32 by omega, up_s]
      exact bz0 (by simp)
    · rw [if_neg e, up_n (by omega)]
      exact t0 a k a0 a8 k0 k64
  · show U.1 25 10 = t_c t + 1
    omega
  · intro i i0 i1
    have i1' : i < t_c t + 1 := i1
    have key : ∀ (o : Int) (j : Nat), (j : Int) ≤ t_c t → woS (g_i g o) (up (t_n t) (t_c t) n) (up (t_z t) (t_c t) z) o j = woS (g_i g o) (t_n t) (t_z t) o j := by
      intro o j hj
      apply woS_c
      intro i hi
      rw [up_n (by omega), up_n (by omega)]
      exact ⟨rfl, rfl⟩
    unfold StM
    rw [h32, h33, h34, h35, t3]
    show up (v.1 32) (t_c t) r i = up (t_r t) (t_c t) r i ∧ up (v.1 33) (t_c t) n i = up (t_n t) (t_c t) n i ∧ up (v.1 34) (t_c t) z i = up (t_z t) (t_c t) z i ∧ up (v.1 35) (t_c t) (v.1 25 8) i = up (t_o t) (t_c t) (t_d t) i ∧ ∀ k, 0 ≤ k → k < 16 → bz (U.1 36 (16 * i + k)) (pb (up (t_p t) (t_c t) (reaS g r n z (t_s t)) i) k = true) ∧ (pb (up (t_p t) (t_c t) (reaS g r n z (t_s t)) i) k = true → U.1 37 (16 * i + k) = if k % 2 = 1 then SM (woS (g_i g (k / 2)) (up (t_n t) (t_c t) n) (up (t_z t) (t_c t) z) (k / 2) i.toNat) else SL (woS (g_i g (k / 2)) (up (t_n t) (t_c t) n) (up (t_z t) (t_c t) z) (k / 2) i.toNat))
    by_cases e : i = t_c t
    · subst e
      rw [up_s, up_s, up_s, up_s, up_s, up_s, up_s, up_s, up_s, t1]
      refine ⟨rfl, rfl, rfl, rfl, fun k k0 k1 => ?_⟩
      have hpk := hp k k0 k1
      rw [t3] at hpk
      refine ⟨hpk.1, fun q => ?_⟩
      rw [hpk.2 q]
      have hlt : k / 2 < g_n g := by
        have hb := reaS_b (g := g) (r := r) (n := n) (z := z) (s := t_s t) hg8.1
        apply Int.not_le.mp
        intro hle
        have hdv := pb_div (z := reaS g r n z (t_s t)) (k := k.toNat) hb.1
        rw [Int.toNat_of_nonneg k0] at hdv
        have h1 := hdv.mpr q
        have h2 : (2 : Int) ^ (2 * g_n g).toNat ≤ 2 ^ k.toNat := ipow_le (by omega)
        rw [Int.ediv_eq_zero_of_lt hb.1 (by omega)] at h1
        simp at h1
      have hw := ht.1.2.1 (k / 2) (by omega) hlt
      rw [key _ _ (by omega), ← hw]
      unfold nwp lS hS
      by_cases e2 : k % 2 = 1
      · rw [if_pos e2, if_neg (by omega)]
      · rw [if_neg e2, if_pos (by omega)]
    · rw [up_n e, up_n e, up_n e, up_n e, up_n e, up_n e, up_n e, up_n e, up_n e]
      obtain ⟨q1, q2, q3, q4, q5⟩ := t4 i i0 (by omega)
      refine ⟨q1, q2, q3, q4, fun k k0 k1 => ?_⟩
      have hok := ho (16 * i + k) (by omega)
      rw [hok.1, hok.2, key _ _ (by omega)]
      exact q5 k k0 k1
