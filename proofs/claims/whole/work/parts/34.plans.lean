/-! plans counted -/
def AllH (g : Cfg) (ch : Int → Int) : Prop := ∀ r : Nat, (r : Int) < g_r g → CnR g r ch ch
/-- how many ways there are to choose for the last m names -/
noncomputable def cP (g : Cfg) (s : Int → Int → Bool) : Nat → (Int → Int) → Int
  | 0, ch => if tf (AllH g ch) = true then 1 else 0
  | m + 1, ch => sm (fun k => if s (g_n g - 1 - (m : Int)) k = true then cP g s m (up ch (g_n g - 1 - (m : Int)) (k - 32)) else 0) 64
def prS (g : Cfg) (s : Int → Int → Bool) : Nat → Int
  | 0 => 1
  | k + 1 => prS g s k * sm (ind (s (k : Int))) 64
noncomputable def A_plans (g : Cfg) (t : TT) : Int := if 4000 < prS g (t_s t) (g_n g).toNat then -1000 else cP g (t_s t) (g_n g).toNat (fun _ => 0)
/-- what is asked of the rows: their names are those of the kind, and below the names' number -/
def WFg (g : Cfg) : Prop := (0 ≤ g_n g ∧ g_n g ≤ 8) ∧ (0 ≤ g_r g ∧ g_r g ≤ 12) ∧ ∀ r : Nat, (r : Int) < g_r g → NmR g r ∧ ∀ x, AbR g r x → 0 ≤ x → x < g_n g
theorem cP_c {g : Cfg} (hw : WFg g) {s : Int → Int → Bool} : ∀ (m : Nat) (ch ch' : Int → Int), (m : Int) ≤ g_n g → (∀ x, 0 ≤ x → x < g_n g - m → ch x = ch' x) → cP g s m ch = cP g s m ch'
  | 0, ch, ch', _, h => by
    have e : AllH g ch ↔ AllH g ch' := by
      constructor
      · intro q r hr
        have := hw.2.2 r hr
        exact (CnR_c this.1 (fun x x0 hx => ⟨h x x0 (by have := this.2 x hx x0; omega), h x x0 (by have := this.2 x hx x0; omega)⟩)).mp (q r hr)
      · intro q r hr
        have := hw.2.2 r hr
        exact (CnR_c this.1 (fun x x0 hx => ⟨h x x0 (by have := this.2 x hx x0; omega), h x x0 (by have := this.2 x hx x0; omega)⟩)).mpr (q r hr)
    simp only [cP]
    by_cases q : AllH g ch
    · rw [tf_p q, tf_p (e.mp q)]
    · rw [tf_n q, tf_n (fun z => q (e.mpr z))]
  | m + 1, ch, ch', hm, h => by
    simp only [cP]
    apply sm_zn
    intro k _
    split
    · apply cP_c hw m _ _ (by omega)
      intro x x0 hx
      by_cases e : x = g_n g - 1 - (m : Int)
      · subst e; rw [up_s, up_s]
      · rw [up_n e, up_n e]; exact h x x0 (by omega)
    · rfl
/-- the class's way: rows are looked at when their last name is chosen -/
def RHl (g : Cfg) (la : Int → Int) (n : Int) (ch : Int → Int) : Prop := ∀ r : Nat, (r : Int) < g_r g → la r = n → CnR g r ch ch
noncomputable def cC (g : Cfg) (s : Int → Int → Bool) (la : Int → Int) : Nat → (Int → Int) → Int
  | 0, _ => 1
  | m + 1, ch => sm (fun k => if s (g_n g - 1 - (m : Int)) k = true then (if tf (RHl g la (g_n g - 1 - (m : Int)) (up ch (g_n g - 1 - (m : Int)) (k - 32))) = true then cC g s la m (up ch (g_n g - 1 - (m : Int)) (k - 32)) else 0) else 0) 64
def LaOk (g : Cfg) (la : Int → Int) : Prop := ∀ r : Nat, (r : Int) < g_r g → LastN (AbR g r) 8 (la r)
theorem cC_c {g : Cfg} (hw : WFg g) {s : Int → Int → Bool} {la : Int → Int} (hl : LaOk g la) : ∀ (m : Nat) (ch ch' : Int → Int), (m : Int) ≤ g_n g → (∀ x, 0 ≤ x → x < g_n g - m → ch x = ch' x) → cC g s la m ch = cC g s la m ch'
  | 0, ch, ch', _, h => rfl
  | m + 1, ch, ch', hm, h => by
    simp only [cC]
    apply sm_zn
    intro k _
    have hag : ∀ x, 0 ≤ x → x < g_n g - m → up ch (g_n g - 1 - (m : Int)) (k - 32) x = up ch' (g_n g - 1 - (m : Int)) (k - 32) x := by
      intro x x0 hx
      by_cases e : x = g_n g - 1 - (m : Int)
      · subst e; rw [up_s, up_s]
      · rw [up_n e, up_n e]; exact h x x0 (by omega)
    have e : RHl g la (g_n g - 1 - (m : Int)) (up ch (g_n g - 1 - (m : Int)) (k - 32)) ↔ RHl g la (g_n g - 1 - (m : Int)) (up ch' (g_n g - 1 - (m : Int)) (k - 32)) := by
      have key : ∀ r : Nat, (r : Int) < g_r g → la r = g_n g - 1 - (m : Int) → ∀ x, 0 ≤ x → AbR g r x → x < g_n g - m := by
        intro r hr q x x0 hx
        apply Int.not_le.mp
        intro hle
        have h8 := (hw.2.2 r hr).2 x hx x0
        have h9 := hw.1
        exact (hl r hr).2.2 x x0 (by omega) (by omega) hx
      constructor
      · intro q r hr hq
        exact (CnR_c (hw.2.2 r hr).1 (fun x x0 hx => ⟨hag x x0 (key r hr hq x x0 hx), hag x x0 (key r hr hq x x0 hx)⟩)).mp (q r hr hq)
      · intro q r hr hq
        exact (CnR_c (hw.2.2 r hr).1 (fun x x0 hx => ⟨hag x x0 (key r hr hq x x0 hx), hag x x0 (key r hr hq x x0 hx)⟩)).mpr (q r hr hq)
    have ih := cC_c hw (s := s) hl m _ _ (by omega) hag
    by_cases q : RHl g la (g_n g - 1 - (m : Int)) (up ch (g_n g - 1 - (m : Int)) (k - 32))
    · rw [tf_p q, tf_p (e.mp q), ih]
    · rw [tf_n q, tf_n (fun z => q (e.mpr z))]
      simp
theorem sm_0 {f : Int → Int} (h : ∀ x, 0 ≤ x → f x = 0) (k : Nat) : sm f k = 0 := by
  induction k with
  | zero => rfl
  | succ k ih => simp only [sm]; rw [ih, h _ (by omega)]; rfl
theorem cP_cC {g : Cfg} (hw : WFg g) {s : Int → Int → Bool} {la : Int → Int} (hl : LaOk g la) : ∀ (m : Nat) (ch : Int → Int), (m : Int) ≤ g_n g → cP g s m ch = if tf (∀ r : Nat, (r : Int) < g_r g → la r < g_n g - m → CnR g r ch ch) = true then cC g s la m ch else 0
  | 0, ch, _ => by
    have e : AllH g ch ↔ ∀ r : Nat, (r : Int) < g_r g → la r < g_n g - (0 : Nat) → CnR g r ch ch := by
      constructor
      · intro q r hr _; exact q r hr
      · intro q r hr
        apply q r hr
        have h1 := hl r hr
        by_cases h0 : 0 ≤ la r
        · have := (hw.2.2 r hr).2 (la r) (h1.2.1 h0) h0
          omega
        · have := hw.1; omega
    simp only [cP, cC]
    by_cases q : AllH g ch
    · rw [tf_p q, tf_p (e.mp q)]
    · rw [tf_n q, tf_n (fun z => q (e.mpr z))]
  | m + 1, ch, hm => by
    have hnn : 0 ≤ g_n g - 1 - (m : Int) := by omega
    have keep : ∀ r : Nat, (r : Int) < g_r g → la r < g_n g - ((m + 1 : Nat) : Int) → ∀ z, (CnR g r (up ch (g_n g - 1 - (m : Int)) z) (up ch (g_n g - 1 - (m : Int)) z) ↔ CnR g r ch ch) := by
      intro r hr q z
      apply CnR_c (hw.2.2 r hr).1
      intro x x0 hx
      have : x ≠ g_n g - 1 - (m : Int) := by
        intro e
        subst e
        exact (hl r hr).2.2 _ x0 (by omega) (by have := hw.1; omega) hx
      rw [up_n this]
      exact ⟨rfl, rfl⟩
    have step : ∀ k, cP g s m (up ch (g_n g - 1 - (m : Int)) (k - 32)) = if tf (∀ r : Nat, (r : Int) < g_r g → la r < g_n g - ((m + 1 : Nat) : Int) → CnR g r ch ch) = true then (if tf (RHl g la (g_n g - 1 - (m : Int)) (up ch (g_n g - 1 - (m : Int)) (k - 32))) = true then cC g s la m (up ch (g_n g - 1 - (m : Int)) (k - 32)) else 0) else 0 := by
      intro k
      rw [cP_cC hw hl m _ (by omega)]
      have e : (∀ r : Nat, (r : Int) < g_r g → la r < g_n g - m → CnR g r (up ch (g_n g - 1 - (m : Int)) (k - 32)) (up ch (g_n g - 1 - (m : Int)) (k - 32))) ↔ (∀ r : Nat, (r : Int) < g_r g → la r < g_n g - ((m + 1 : Nat) : Int) → CnR g r ch ch) ∧ RHl g la (g_n g - 1 - (m : Int)) (up ch (g_n g - 1 - (m : Int)) (k - 32)) := by
        constructor
        · intro q
          exact ⟨fun r hr hq => (keep r hr hq _).mp (q r hr (by omega)), fun r hr hq => q r hr (by omega)⟩
        · rintro ⟨q1, q2⟩ r hr hq
          by_cases e : la r = g_n g - 1 - (m : Int)
          · exact q2 r hr e
          · exact (keep r hr (by omega) _).mpr (q1 r hr (by omega))
      by_cases q1 : ∀ r : Nat, (r : Int) < g_r g → la r < g_n g - ((m + 1 : Nat) : Int) → CnR g r ch ch
      · rw [tf_p q1, if_pos rfl]
        by_cases q2 : RHl g la (g_n g - 1 - (m : Int)) (up ch (g_n g - 1 - (m : Int)) (k - 32))
        · rw [tf_p q2, tf_p (e.mpr ⟨q1, q2⟩)]
        · rw [tf_n q2, tf_n (fun z => q2 (e.mp z).2)]
      · rw [tf_n q1, tf_n (fun z => q1 (e.mp z).1)]
        simp
    simp only [cP, cC]
    by_cases q1 : ∀ r : Nat, (r : Int) < g_r g → la r < g_n g - ((m + 1 : Nat) : Int) → CnR g r ch ch
    · rw [tf_p q1, if_pos rfl]
      apply sm_zn
      intro k _
      split
      · rw [step k, tf_p q1, if_pos rfl]
      · rfl
    · rw [tf_n q1, if_neg (by simp)]
      apply sm_0
      intro k _
      split
      · rw [step k, tf_n q1, if_neg (by simp)]
      · rfl
theorem cP_e {g : Cfg} {s : Int → Int → Bool} {n : Int} (hn : emp (s n)) : ∀ (m : Nat) (ch : Int → Int), n < g_n g → g_n g - m ≤ n → cP g s m ch = 0
  | 0, ch, h1, h2 => by omega
  | m + 1, ch, h1, h2 => by
    simp only [cP]
    have key : ∀ j : Nat, j ≤ 64 → sm (fun k => if s (g_n g - 1 - (m : Int)) k = true then cP g s m (up ch (g_n g - 1 - (m : Int)) (k - 32)) else 0) j = 0 := by
      intro j hj
      induction j with
      | zero => rfl
      | succ j ih =>
        simp only [sm]
        rw [ih (by omega)]
        by_cases e : n = g_n g - 1 - (m : Int)
        · rw [← e, hn (j : Int) (by omega) (by omega)]
          simp
        · rw [cP_e hn m _ h1 (by omega)]
          simp
    exact key 64 (by omega)
theorem IC.wf {v : Mem} (h : IC v) : WFg (gC v) := ⟨h.1, h.2.1, fun r hr => ⟨(h.2.2.1 r (by have := h.2.1; have : (r : Int) < v.1 10 0 := hr; omega)).nm, fun x q1 q2 => h.2.2.2.1 r x hr q1 q2⟩⟩
