/-! a number is TAKEN: the class's cells -/
theorem ad_u2 {f : Nat → Int → Int} {i : Nat} {x z : Int} : u2 f i x z i = up (f i) x z := by
  funext y
  by_cases e : y = x
  · subst e; rw [u2_s, up_s]
  · rw [up_n e]; exact u2_n (fun q => e q.2)
theorem tC_ad {v : Mem} {ro n z rd pt : Int} : tC (adS v ro n z rd pt) = (t_s (tC v), v.1 12 0 + 1, up (v.1 13) (v.1 12 0) ro, up (v.1 14) (v.1 12 0) n, up (v.1 15) (v.1 12 0) z, up (v.1 16) (v.1 12 0) rd, up (v.1 17) (v.1 12 0) pt, v.1 18 0, v.1 18 1) := by
  have e13 : (adS v ro n z rd pt).1 13 = up (v.1 13) (v.1 12 0) ro := by
    show u2 (u2 (u2 (u2 (u2 (u2 v.1 13 (v.1 12 0) ro) 14 (v.1 12 0) n) 15 (v.1 12 0) z) 16 (v.1 12 0) rd) 17 (v.1 12 0) pt) 12 0 (v.1 12 0 + 1) 13 = _
    rw [u2_r (by decide), u2_r (by decide), u2_r (by decide), u2_r (by decide), u2_r (by decide), ad_u2]
  have e14 : (adS v ro n z rd pt).1 14 = up (v.1 14) (v.1 12 0) n := by
    show u2 (u2 (u2 (u2 (u2 (u2 v.1 13 (v.1 12 0) ro) 14 (v.1 12 0) n) 15 (v.1 12 0) z) 16 (v.1 12 0) rd) 17 (v.1 12 0) pt) 12 0 (v.1 12 0 + 1) 14 = _
    rw [u2_r (by decide), u2_r (by decide), u2_r (by decide), u2_r (by decide), ad_u2, u2_r (by decide)]
  have e15 : (adS v ro n z rd pt).1 15 = up (v.1 15) (v.1 12 0) z := by
    show u2 (u2 (u2 (u2 (u2 (u2 v.1 13 (v.1 12 0) ro) 14 (v.1 12 0) n) 15 (v.1 12 0) z) 16 (v.1 12 0) rd) 17 (v.1 12 0) pt) 12 0 (v.1 12 0 + 1) 15 = _
    rw [u2_r (by decide), u2_r (by decide), u2_r (by decide), ad_u2, u2_r (by decide), u2_r (by decide)]
  have e16 : (adS v ro n z rd pt).1 16 = up (v.1 16) (v.1 12 0) rd := by
    show u2 (u2 (u2 (u2 (u2 (u2 v.1 13 (v.1 12 0) ro) 14 (v.1 12 0) n) 15 (v.1 12 0) z) 16 (v.1 12 0) rd) 17 (v.1 12 0) pt) 12 0 (v.1 12 0 + 1) 16 = _
    rw [u2_r (by decide), u2_r (by decide), ad_u2, u2_r (by decide), u2_r (by decide), u2_r (by decide)]
  have e17 : (adS v ro n z rd pt).1 17 = up (v.1 17) (v.1 12 0) pt := by
    show u2 (u2 (u2 (u2 (u2 (u2 v.1 13 (v.1 12 0) ro) 14 (v.1 12 0) n) 15 (v.1 12 0) z) 16 (v.1 12 0) rd) 17 (v.1 12 0) pt) 12 0 (v.1 12 0 + 1) 17 = _
    rw [u2_r (by decide), ad_u2, u2_r (by decide), u2_r (by decide), u2_r (by decide), u2_r (by decide)]
  unfold tC
  rw [e13, e14, e15, e16, e17]
  rfl
theorem ad_oth {v : Mem} {ro n z rd pt : Int} {i : Nat} (h : ¬ (12 ≤ i ∧ i ≤ 17)) : (adS v ro n z rd pt).1 i = v.1 i := by
  unfold adS
  rw [wI_c (by omega), wI_c (by omega), wI_c (by omega), wI_c (by omega), wI_c (by omega), wI_c (by omega)]
theorem fit_2 {v : Mem} {si : Nat} {n : Int} {w : Int64} : (fitM v si n w).2 = v.2 := by
  unfold fitM
  split <;> rfl
theorem fit_oth {v : Mem} {si : Nat} {n : Int} {w : Int64} {i : Nat} (h : i ≠ si + 1) (h2 : i ≠ si + 2) : (fitM v si n w).1 i = v.1 i := by
  unfold fitM
  split
  · rfl
  · rw [wI_c h2, wI_c h]
theorem fit_lo {v : Mem} {si : Nat} {n : Int} {w : Int64} (h : uW w ≠ 0) {x : Int} : (fitM v si n w).1 (si + 1) x = (if x = n then SL (hb w) else v.1 (si + 1) x) ∧ (fitM v si n w).1 (si + 2) x = (if x = n then SM (hb w) else v.1 (si + 2) x) := by
  unfold fitM
  rw [if_neg h]
  constructor
  · rw [wI_c (by omega)]
    by_cases e : x = n
    · subst e; rw [wI_s, if_pos rfl]
    · rw [wI_n e, if_neg e]
  · by_cases e : x = n
    · subst e; rw [wI_s, if_pos rfl]
    · rw [wI_n e, if_neg e, wI_c (by omega)]
theorem fit_ok {v : Mem} {si : Nat} {n : Int} {w : Int64} (h : SpOk v si) : SpOk (fitM v si n w) si := by
  intro x
  by_cases hw : uW w = 0
  · rw [show fitM v si n w = v from by unfold fitM; rw [if_pos hw]]; exact h x
  · have q := fit_lo (v := v) (si := si) (n := n) hw (x := x)
    rw [q.1, q.2]
    by_cases e : x = n
    · rw [if_pos e, if_pos e]
      have m := SL_mono (hb_ex hw) (T := hb w) (fun k hk => hk)
      omega
    · rw [if_neg e, if_neg e]; exact h x
theorem cS_s {s : Int → Int → Bool} {n k : Int} : cS s n k n k = false := by simp [cS]
theorem cS_o {s : Int → Int → Bool} {n k a : Int} (h : a ≠ n) : cS s n k a = s a := by
  funext b; simp [cS, h]
theorem tot_clr {s : Int → Int → Bool} {n k : Int} (hn : 0 ≤ n ∧ n < 8) (hk : 0 ≤ k ∧ k < 64) (h : s n k = true) : tot (cS s n k) = tot s - 1 := by
  unfold tot
  have e1 := sm_take (g := fun n => sm (fun k => if s n k = true then 1 else 0) 64) (n := n) 8 hn.1
  have e2 := sm_take (g := fun m => sm (fun j => if cS s n k m j = true then 1 else 0) 64) (n := n) 8 hn.1
  rw [if_pos (by omega)] at e1 e2
  have e3 : sm (fun i => if i = n then 0 else sm (fun j => if cS s n k i j = true then 1 else 0) 64) 8 = sm (fun i => if i = n then 0 else sm (fun j => if s i j = true then 1 else 0) 64) 8 := by
    apply sm_c
    intro j _
    by_cases e : (j : Int) = n
    · simp only [if_pos e]
    · simp only [if_neg e, cS_o e]
  have f1 := sm_take (g := fun j => if s n j = true then (1 : Int) else 0) (n := k) 64 hk.1
  have f2 := sm_take (g := fun j => if cS s n k n j = true then (1 : Int) else 0) (n := k) 64 hk.1
  rw [if_pos (by omega)] at f1 f2
  simp only [h, if_true] at f1
  simp only [cS_s, Bool.false_eq_true, if_false] at f2
  have f3 : sm (fun i => if i = k then 0 else if cS s n k n i = true then (1 : Int) else 0) 64 = sm (fun i => if i = k then 0 else if s n i = true then (1 : Int) else 0) 64 := by
    apply sm_c
    intro j _
    by_cases e : (j : Int) = k
    · simp only [if_pos e]
    · simp only [if_neg e]
      rw [show cS s n k n (j : Int) = s n j from by simp [cS, e]]
  omega
theorem sm_nn {g : Int → Int} (h : ∀ x, 0 ≤ g x) : ∀ k : Nat, 0 ≤ sm g k
  | 0 => Int.le_refl _
  | k + 1 => by
    have := sm_nn h k
    have := h k
    simp only [sm]
    omega
theorem tot_nn (s : Int → Int → Bool) : 0 ≤ tot s := sm_nn (fun n => sm_nn (fun k => by split <;> omega) 64) 8
theorem eoP_cg {k R : Int} {f lo hi lo' hi' : Int → Int} {n mb : Int} (h : ∀ x, 0 ≤ x → f x ≠ 0 → x ≠ n → lo x = lo' x ∧ hi x = hi' x) : sm (eoP k R f lo hi n mb) 8 = sm (eoP k R f lo' hi' n mb) 8 := by
  apply sm_zn
  intro x hx
  unfold eoP
  by_cases e : x = n ∨ f x = 0
  · rw [if_pos e, if_pos e]
  · have := h x hx (fun q => e (Or.inr q)) (fun q => e (Or.inl q))
    rw [if_neg e, if_neg e, this.1, this.2]
/-! what one name's numbers do not touch -/
theorem tkS_o {g : Cfg} {r : Nat} {n z : Int} {t : TT} : (∀ x, x ≠ n → t_s (tkS g r n z t) x = t_s t x) ∧ t_x (tkS g r n z t) = t_x t ∧ t_d (tkS g r n z t) = t_d t ∧ (∀ a b, t_s (tkS g r n z t) a b = true → t_s t a b = true) ∧ t_c t ≤ t_c (tkS g r n z t) := by
  unfold tkS
  split
  · refine ⟨fun x hx => cS_o hx, rfl, rfl, fun a b q => ?_, by show t_c t ≤ t_c t + 1; omega⟩
    have q : cS (t_s t) n (z + 32) a b = true := q
    by_cases e : a = n ∧ b = z + 32
    · rw [e.1, e.2, cS_s] at q; cases q
    · simpa [cS, e] using q
  · exact ⟨fun _ _ => rfl, rfl, rfl, fun _ _ q => q, Int.le_refl _⟩
theorem sfS_o {g : Cfg} {r : Nat} {n : Int} {t : TT} : ∀ j : Nat, (∀ x, x ≠ n → t_s (sfS g r n t j) x = t_s t x) ∧ t_x (sfS g r n t j) = t_x t ∧ t_d (sfS g r n t j) = t_d t ∧ (∀ a b, t_s (sfS g r n t j) a b = true → t_s t a b = true) ∧ t_c t ≤ t_c (sfS g r n t j)
  | 0 => ⟨fun _ _ => rfl, rfl, rfl, fun _ _ q => q, Int.le_refl _⟩
  | j + 1 => by
    obtain ⟨a1, a2, a3, a4, a5⟩ := sfS_o (g := g) (r := r) (n := n) (t := t) j
    obtain ⟨b1, b2, b3, b4, b5⟩ := tkS_o (g := g) (r := r) (n := n) (z := (j : Int) - 32) (t := sfS g r n t j)
    exact ⟨fun x hx => (b1 x hx).trans (a1 x hx), b2.trans a2, b3.trans a3, fun a b q => a4 a b (b4 a b q), Int.le_trans a5 b5⟩
theorem sfS_skip {g : Cfg} {r : Nat} {n : Int} {t : TT} {a : Nat} : ∀ b : Nat, a ≤ b → (∀ k : Nat, a ≤ k → k < b → t_s (sfS g r n t a) n (k : Int) = false) → sfS g r n t b = sfS g r n t a
  | 0, h, _ => by rw [show a = 0 by omega]
  | b + 1, h, hk => by
    by_cases e : a = b + 1
    · rw [e]
    · have ih := sfS_skip (g := g) (r := r) (n := n) (t := t) (a := a) b (by omega) (fun k q1 q2 => hk k q1 (by omega))
      show tkS g r n ((b : Int) - 32) (sfS g r n t b) = _
      rw [ih]
      unfold tkS
      rw [if_neg]
      intro q
      have := hk b (by omega) (by omega)
      rw [show (b : Int) - 32 + 32 = b by omega, this] at q
      cases q.1
theorem siS_o {g : Cfg} {r : Nat} {n : Int} {t : TT} : (∀ x, x ≠ n → t_s (siS g r n t) x = t_s t x) ∧ t_d (siS g r n t) = t_d t ∧ (t_x (siS g r n t) = -1000 → t_x t = -1000 ∧ ¬ emp (t_s (siS g r n t) n)) ∧ (∀ a b, t_s (siS g r n t) a b = true → t_s t a b = true) ∧ t_c t ≤ t_c (siS g r n t) := by
  obtain ⟨a1, a2, a3, a4, a5⟩ := sfS_o (g := g) (r := r) (n := n) (t := t) 64
  unfold siS
  generalize sfS g r n t 64 = y at *
  cases e : tf (emp (t_s y n)) with
  | true =>
    rw [if_pos rfl]
    refine ⟨a1, a3, fun q => ?_, a4, a5⟩
    have q2 : t_x (setX y (r : Int)) = (r : Int) := rfl
    rw [q2] at q
    omega
  | false =>
    rw [if_neg (by simp)]
    exact ⟨a1, a3, fun q => ⟨a2.symm.trans q, fun q2 => by rw [tf_p q2] at e; cases e⟩, a4, a5⟩
/-- no set is empty while there is no clash -/
def NE (g : Cfg) (t : TT) : Prop := t_x t = -1000 → ∀ n, 0 ≤ n → n < g_n g → ¬ emp (t_s t n)
theorem siS_ne {g : Cfg} {r : Nat} {n : Int} {t : TT} (h : NE g t) : NE g (siS g r n t) := by
  obtain ⟨a1, a2, a3, a4⟩ := siS_o (g := g) (r := r) (n := n) (t := t)
  intro q x h0 h1
  by_cases e : x = n
  · rw [e]; exact (a3 q).2
  · rw [a1 x e]; exact h (a3 q).1 x h0 h1
theorem rwS_ne {g : Cfg} {r : Nat} {t : TT} (h : NE g t) : ∀ j : Nat, NE g (rwS g r t j)
  | 0 => h
  | j + 1 => by
    have ih := rwS_ne (r := r) h j
    simp only [rwS]
    split
    · exact siS_ne ih
    · exact ih
theorem rdS_ne {g : Cfg} {ord : Int} {t : TT} (h : NE g t) : ∀ j : Nat, NE g (rdS g ord t j)
  | 0 => h
  | j + 1 => by
    have ih := rdS_ne (ord := ord) h j
    simp only [rdS]
    split
    · exact rwS_ne ih _
    · exact ih
theorem rwS_stop {g : Cfg} {r : Nat} {t : TT} {a : Nat} (h : t_x (rwS g r t a) ≠ -1000) : ∀ b : Nat, a ≤ b → rwS g r t b = rwS g r t a
  | 0, hb => by rw [show a = 0 by omega]
  | b + 1, hb => by
    by_cases e : a = b + 1
    · rw [e]
    · have ih := rwS_stop h b (by omega)
      simp only [rwS]
      rw [ih, if_neg (fun q => h q.1)]
theorem rdS_stop {g : Cfg} {ord : Int} {t : TT} {a : Nat} (h : t_x (rdS g ord t a) ≠ -1000) : ∀ b : Nat, a ≤ b → rdS g ord t b = rdS g ord t a
  | 0, hb => by rw [show a = 0 by omega]
  | b + 1, hb => by
    by_cases e : a = b + 1
    · rw [e]
    · have ih := rdS_stop h b (by omega)
      simp only [rdS]
      rw [ih, if_neg h]
