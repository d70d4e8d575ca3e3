/-! the reason of a step: what the trial holds -/
theorem wI_n {v : Mem} {i : Nat} {x y z : Int} (h : y ≠ x) : (wI v i x z).1 i y = v.1 i y := u2_n (fun q => h q.2)
theorem wI_c {v : Mem} {i j : Nat} {x z : Int} (h : j ≠ i) : (wI v i x z).1 j = v.1 j := u2_r h
def SPF (v : Mem) : Prop := ∀ x, 0 ≤ x → x < v.1 1 0 → (v.1 5 x = lS (g_i (gC v)) x ∧ v.1 6 x = hS (g_i (gC v)) x ∧ v.1 8 x = lS (t_s (tC v)) x ∧ v.1 9 x = hS (t_s (tC v)) x) ∧ -32 ≤ v.1 5 x ∧ v.1 5 x ≤ v.1 8 x ∧ v.1 8 x ≤ v.1 9 x ∧ v.1 9 x ≤ v.1 6 x ∧ v.1 6 x ≤ 31
theorem SPF_of {v : Mem} (hi : IC v) (hj : JC v) (hne : ∀ n, 0 ≤ n → n < v.1 1 0 → ¬ emp (t_s (tC v) n)) : SPF v := by
  intro x h0 h1
  obtain ⟨i1, i2, i3, i4, i5, i6, i7⟩ := hi
  obtain ⟨j1, j2, j3, j4⟩ := hj
  have a := i6 x h0 h1
  have b := j3 x h0 h1 (hne x h0 h1)
  have m := SL_mono (nemp (hne x h0 h1)) (fun k => j4 x k h0 h1)
  rw [a.1, a.2, b.1, b.2]
  refine ⟨⟨rfl, rfl, rfl, rfl⟩, ?_⟩
  omega
noncomputable def elV (v : Mem) (r : Nat) (n z : Int) (j : Nat) : Tr := elN (gC v) r n z (lS (t_s (tC v))) (hS (t_s (tC v))) (lS (g_i (gC v))) (hS (g_i (gC v))) (lS (t_s (tC v)), hS (t_s (tC v)), 0) j
def FRa (v u : Mem) : Prop := u.2 = v.2 ∧ (∀ i, i ≠ 20 → i ≠ 21 → u.1 i = v.1 i) ∧ SpOk u 19 ∧ ∀ x, 0 ≤ x → x < v.1 1 0 → (u.1 20 x = v.1 8 x ∨ u.1 20 x = v.1 5 x) ∧ (u.1 21 x = v.1 9 x ∨ u.1 21 x = v.1 6 x)
def FRb (v : Mem) (r : Nat) (n : Int) (u : Mem) (lo hi : Int → Int) : Prop := ∀ x, 0 ≤ x → x < v.1 1 0 → AbR (gC v) r x → x ≠ n → u.1 20 x = lo x ∧ u.1 21 x = hi x
theorem FRa.put {v u : Mem} (hF : SPF v) (h : FRa v u) {o z : Int} (ho : 0 ≤ o ∧ o < v.1 1 0) (mo : Bool) (hz : (mo = true → z = v.1 9 o ∨ z = v.1 6 o) ∧ (mo = false → z = v.1 8 o ∨ z = v.1 5 o)) : FRa v (if mo = true then wI u 21 o z else wI u 20 o z) := by
  obtain ⟨h1, h2, h3, h4⟩ := h
  have f := (hF o ho.1 ho.2).2
  have g := h4 o ho.1 ho.2
  cases mo with
  | true =>
    have hz := hz.1 rfl
    rw [if_pos rfl]
    refine ⟨h1, fun i q1 q2 => ?_, fun x => ?_, fun x q1 q2 => ?_⟩
    · rw [show (wI u 21 o z).1 i = u.1 i from wI_c q2]; exact h2 i q1 q2
    · have q := h3 x
      show -32 ≤ (wI u 21 o z).1 20 x ∧ (wI u 21 o z).1 20 x ≤ (wI u 21 o z).1 21 x ∧ (wI u 21 o z).1 21 x ≤ 31
      rw [show (wI u 21 o z).1 20 x = u.1 20 x from rfl]
      by_cases e : x = o
      · subst e
        rw [wI_s]
        change -32 ≤ u.1 20 x ∧ u.1 20 x ≤ u.1 21 x ∧ u.1 21 x ≤ 31 at q
        omega
      · rw [show (wI u 21 o z).1 21 x = u.1 21 x from wI_n (by omega)]; exact q
    · rw [show (wI u 21 o z).1 20 x = u.1 20 x from rfl]
      by_cases e : x = o
      · subst e
        rw [wI_s]
        exact ⟨g.1, hz⟩
      · rw [show (wI u 21 o z).1 21 x = u.1 21 x from wI_n (by omega)]; exact h4 x q1 q2
  | false =>
    have hz := hz.2 rfl
    rw [if_neg (by simp)]
    refine ⟨h1, fun i q1 q2 => ?_, fun x => ?_, fun x q1 q2 => ?_⟩
    · rw [show (wI u 20 o z).1 i = u.1 i from wI_c q1]; exact h2 i q1 q2
    · have q := h3 x
      show -32 ≤ (wI u 20 o z).1 20 x ∧ (wI u 20 o z).1 20 x ≤ (wI u 20 o z).1 21 x ∧ (wI u 20 o z).1 21 x ≤ 31
      rw [show (wI u 20 o z).1 21 x = u.1 21 x from rfl]
      by_cases e : x = o
      · subst e
        rw [wI_s]
        change -32 ≤ u.1 20 x ∧ u.1 20 x ≤ u.1 21 x ∧ u.1 21 x ≤ 31 at q
        omega
      · rw [show (wI u 20 o z).1 20 x = u.1 20 x from wI_n (by omega)]; exact q
    · rw [show (wI u 20 o z).1 21 x = u.1 21 x from rfl]
      by_cases e : x = o
      · subst e
        rw [wI_s]
        exact ⟨hz, g.2⟩
      · rw [show (wI u 20 o z).1 20 x = u.1 20 x from wI_n (by omega)]; exact h4 x q1 q2
theorem FRb.put {v u : Mem} {r : Nat} {n : Int} {lo hi : Int → Int} (h : FRb v r n u lo hi) {o z : Int} (mo : Bool) : FRb v r n (if mo = true then wI u 21 o z else wI u 20 o z) (if mo = true then lo else up lo o z) (if mo = true then up hi o z else hi) := by
  intro x q1 q2 q3 q4
  have := h x q1 q2 q3 q4
  cases mo with
  | true =>
    simp only [if_true]
    rw [show (wI u 21 o z).1 20 x = u.1 20 x from rfl]
    refine ⟨this.1, ?_⟩
    by_cases e : x = o
    · subst e; rw [wI_s, up_s]
    · rw [show (wI u 21 o z).1 21 x = u.1 21 x from wI_n (by omega), up_n e]; exact this.2
  | false =>
    simp only [Bool.false_eq_true, if_false]
    rw [show (wI u 20 o z).1 21 x = u.1 21 x from rfl]
    refine ⟨?_, this.2⟩
    by_cases e : x = o
    · subst e; rw [wI_s, up_s]
    · rw [show (wI u 20 o z).1 20 x = u.1 20 x from wI_n (by omega), up_n e]; exact this.1
theorem FRb.cn {v u : Mem} {r : Nat} {n z : Int} {lo hi : Int → Int} (h : FRb v r n u lo hi) (hN : NmR (gC v) r) (hlt : ∀ x, AbR (gC v) r x → 0 ≤ x → x < v.1 1 0) : CnR (gC v) r (up (u.1 20) n z) (up (u.1 21) n z) ↔ CnR (gC v) r (up lo n z) (up hi n z) := by
  apply CnR_c hN
  intro x h0 hx
  by_cases e : x = n
  · subst e; exact ⟨by rw [up_s, up_s], by rw [up_s, up_s]⟩
  · simp only [up_n e]; exact h x h0 (hlt x hx h0) hx e
theorem elS_no {g : Cfg} {r : Nat} {n z : Int} {cl ch fl fh : Int → Int} {o : Int} {mo : Bool} {w : Int} {t : Tr} (h : ¬ (o ≠ n ∧ AbR g r o)) : elS g r n z cl ch fl fh o mo w t = t := by
  unfold elS
  rw [tf_n h, if_neg (by simp)]
theorem elS_keep {g : Cfg} {r : Nat} {n z : Int} {cl ch fl fh : Int → Int} {o : Int} {mo : Bool} {w : Int} {t : Tr} (h : o ≠ n ∧ AbR g r o) (hc : CnR g r (up (if mo = true then t.1 else up t.1 o (fl o)) n z) (up (if mo = true then up t.2.1 o (fh o) else t.2.1) n z)) : elS g r n z cl ch fl fh o mo w t = (if mo = true then t.1 else up (up t.1 o (fl o)) o (cl o), if mo = true then up (up t.2.1 o (fh o)) o (ch o) else t.2.1, t.2.2 + w) := by
  unfold elS
  rw [tf_p h, if_pos rfl]
  cases mo with
  | true =>
    simp only [if_true] at hc ⊢
    rw [tf_p hc, if_pos rfl]
  | false =>
    simp only [Bool.false_eq_true, if_false] at hc ⊢
    rw [tf_p hc, if_pos rfl]
theorem elS_out {g : Cfg} {r : Nat} {n z : Int} {cl ch fl fh : Int → Int} {o : Int} {mo : Bool} {w : Int} {t : Tr} (h : o ≠ n ∧ AbR g r o) (hc : ¬ CnR g r (up (if mo = true then t.1 else up t.1 o (fl o)) n z) (up (if mo = true then up t.2.1 o (fh o) else t.2.1) n z)) : elS g r n z cl ch fl fh o mo w t = (if mo = true then t.1 else up t.1 o (fl o), if mo = true then up t.2.1 o (fh o) else t.2.1, t.2.2) := by
  unfold elS
  rw [tf_p h, if_pos rfl]
  cases mo with
  | true =>
    simp only [if_true] at hc ⊢
    rw [tf_n hc, if_neg (by simp)]
  | false =>
    simp only [Bool.false_eq_true, if_false] at hc ⊢
    rw [tf_n hc, if_neg (by simp)]
theorem elS_w {g : Cfg} {r : Nat} {n z : Int} {cl ch fl fh : Int → Int} {o : Int} {mo : Bool} {w : Int} {t : Tr} : (elS g r n z cl ch fl fh o mo w t).2.2 = t.2.2 ∨ (elS g r n z cl ch fl fh o mo w t).2.2 = t.2.2 + w := by
  unfold elS
  (repeat' split) <;> simp
theorem elN_b {g : Cfg} {r : Nat} {n z : Int} {cl ch fl fh : Int → Int} {t : Tr} (h0 : t.2.2 = 0) {T : Nat} (hT : 2 * g_n g = T) : ∀ j : Nat, j ≤ T → ∃ c : Int, 0 ≤ c ∧ (elN g r n z cl ch fl fh t j).2.2 = 2 ^ (T - j) * c ∧ 2 ^ (T - j) * (c + 1) ≤ 2 ^ T
  | 0, _ => ⟨0, by omega, by simp [elN, h0], by simp⟩
  | j + 1, hj => by
    obtain ⟨c, c0, c1, c2⟩ := elN_b (r := r) (n := n) (z := z) (cl := cl) (ch := ch) (fl := fl) (fh := fh) h0 hT j (by omega)
    have ew : (2 * g_n g - 1 - (j : Int)).toNat = T - (j + 1) := by omega
    have e2 : (2 : Int) ^ (T - j) = 2 ^ (T - (j + 1)) * 2 := by rw [← Int.pow_succ]; congr 1; omega
    simp only [elN]
    rw [ew]
    rw [e2] at c1 c2
    rcases elS_w (g := g) (r := r) (n := n) (z := z) (cl := cl) (ch := ch) (fl := fl) (fh := fh) (o := (2 * g_n g - 1 - (j : Int)) / 2) (mo := decide ((2 * g_n g - 1 - (j : Int)) % 2 = 1)) (w := 2 ^ (T - (j + 1))) (t := elN g r n z cl ch fl fh t j) with e | e
    · refine ⟨2 * c, by omega, by rw [e, c1, Int.mul_assoc], ?_⟩
      refine Int.le_trans ?_ c2
      rw [Int.mul_assoc]
      exact Int.mul_le_mul_of_nonneg_left (by omega) (Int.le_of_lt (Int.pow_pos (by decide)))
    · refine ⟨2 * c + 1, by omega, by rw [e, c1, Int.mul_assoc, Int.mul_add, Int.mul_one], ?_⟩
      rw [show 2 * c + 1 + 1 = 2 * (c + 1) by omega, ← Int.mul_assoc]
      exact c2
theorem or_nI (a b : Nat) (ha : a < 2 ^ 32) (hb : b < 2 ^ 32) : nI a ||| nI b = nI (a ||| b) := by
  apply Int32.toBitVec_inj.mp
  apply BitVec.eq_of_toNat_eq
  rw [Int32.toBitVec_or, BitVec.toNat_or, pk_tn ha, pk_tn hb, pk_tn (Nat.or_lt_two_pow ha hb)]
theorem or_add {B c : Int} {p : Nat} (hc : 0 ≤ c) (hB : B = 2 ^ (p + 1) * c) (hlt : B < 65536) (hp : p < 16) : iI B ||| iI (2 ^ p) = iI (B + 2 ^ p) := by
  obtain ⟨m, rfl⟩ : ∃ m : Nat, c = m := ⟨c.toNat, by omega⟩
  have e1 : B = ((2 ^ (p + 1) * m : Nat) : Int) := by rw [hB, Int.natCast_mul, Int.natCast_pow]; rfl
  have e2 : (2 : Int) ^ p = ((2 ^ p : Nat) : Int) := by rw [Int.natCast_pow]; rfl
  have hp2 : 2 ^ p ≤ 2 ^ 15 := Nat.pow_le_pow_right (by decide) (by omega)
  have hpl : 2 ^ p < 2 ^ (p + 1) := wb_lt2 (by omega)
  rw [e1, e2, iI_nI, iI_nI, or_nI _ _ (by rw [e1] at hlt; omega) (by omega), ← Nat.two_pow_add_eq_or_of_lt hpl, ← iI_nI, Int.natCast_add]
theorem shl_p {p : Nat} (hp : p < 16) : iI 1 <<< (iI (p : Int) &&& 31) = iI (2 ^ p) := by
  rw [iI_nI]
  have : ∀ p, p < 16 → iI 1 <<< (nI p &&& 31) = iI (2 ^ p) := by decide +kernel
  exact this p hp
