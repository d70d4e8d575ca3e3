/-! plans in their order -/
noncomputable def cQ (g : Cfg) (s : Int → Int → Bool) (P : (Int → Int) → Int) : Nat → (Int → Int) → Int
  | 0, ch => P ch
  | m + 1, ch => sm (fun k => if s (g_n g - 1 - (m : Int)) k = true then cQ g s P m (up ch (g_n g - 1 - (m : Int)) (k - 32)) else 0) 64
noncomputable def gdP (g : Cfg) : (Int → Int) → Int := fun ch => if tf (AllH g ch) = true then 1 else 0
theorem cP_cQ {g : Cfg} {s : Int → Int → Bool} : ∀ (m : Nat) (ch : Int → Int), cP g s m ch = cQ g s (gdP g) m ch
  | 0, ch => rfl
  | m + 1, ch => by
    simp only [cP, cQ]
    exact sm_zn (fun k _ => by rw [cP_cQ m]) 64
def PE (g : Cfg) (P : (Int → Int) → Int) : Prop := ∀ ch ch' : Int → Int, (∀ x, 0 ≤ x → x < g_n g → ch x = ch' x) → P ch = P ch'
theorem cQ_c {g : Cfg} {s : Int → Int → Bool} {P : (Int → Int) → Int} (hP : PE g P) : ∀ (m : Nat) (ch ch' : Int → Int), (m : Int) ≤ g_n g → (∀ x, 0 ≤ x → x < g_n g - m → ch x = ch' x) → cQ g s P m ch = cQ g s P m ch'
  | 0, ch, ch', _, h => hP ch ch' (fun x q1 q2 => h x q1 (by omega))
  | m + 1, ch, ch', hm, h => by
    simp only [cQ]
    apply sm_zn
    intro k _
    split
    · apply cQ_c hP m _ _ (by omega)
      intro x x0 hx
      by_cases e : x = g_n g - 1 - (m : Int)
      · subst e; rw [up_s, up_s]
      · rw [up_n e, up_n e]; exact h x x0 (by omega)
    · rfl
noncomputable def upr (g : Cfg) (s : Int → Int → Bool) (P : (Int → Int) → Int) (m : Nat) (ch : Int → Int) : Int := sm (fun k => if s (g_n g - 1 - (m : Int)) k = true ∧ ch (g_n g - 1 - (m : Int)) + 32 < k then cQ g s P m (up ch (g_n g - 1 - (m : Int)) (k - 32)) else 0) 64
noncomputable def aft (g : Cfg) (s : Int → Int → Bool) (P : (Int → Int) → Int) : Nat → (Int → Int) → Int
  | 0, _ => 0
  | m + 1, ch => aft g s P m ch + upr g s P m ch
theorem upr_c {g : Cfg} {s : Int → Int → Bool} {P : (Int → Int) → Int} (hP : PE g P) {m : Nat} {ch ch' : Int → Int} (hm : (m : Int) < g_n g) (h : ∀ x, 0 ≤ x → x < g_n g - m → ch x = ch' x) : upr g s P m ch = upr g s P m ch' := by
  unfold upr
  apply sm_zn
  intro k _
  rw [h (g_n g - 1 - (m : Int)) (by omega) (by omega)]
  split
  · apply cQ_c hP m _ _ (by omega)
    intro x x0 hx
    by_cases e : x = g_n g - 1 - (m : Int)
    · subst e; rw [up_s, up_s]
    · rw [up_n e, up_n e]; exact h x x0 (by omega)
  · rfl
theorem sm_at {f f' : Int → Int} {a : Int} (ha : 0 ≤ a ∧ a < 64) (h : ∀ x, 0 ≤ x → x ≠ a → f x = f' x) (h0 : f' a = 0) : sm f 64 = f a + sm f' 64 := by
  have e1 := sm_take (g := f) (n := a) 64 ha.1
  rw [if_pos (show a < ((64 : Nat) : Int) by omega)] at e1
  have e2 : sm (fun i => if i = a then 0 else f i) 64 = sm f' 64 := sm_zn (fun x x0 => by
    by_cases e : x = a
    · show (if x = a then 0 else f x) = _
      rw [if_pos e, e, h0]
    · show (if x = a then 0 else f x) = _
      rw [if_neg e]; exact h x x0 e) 64
  omega
theorem cQ_least {g : Cfg} {s : Int → Int → Bool} {P : (Int → Int) → Int} (hne : ∀ x, 0 ≤ x → x < g_n g → ¬ emp (s x)) : ∀ (m : Nat) (ch : Int → Int), (m : Int) ≤ g_n g → (∀ x, g_n g - m ≤ x → x < g_n g → ch x = lS s x) → cQ g s P m ch = P ch + aft g s P m ch
  | 0, ch, _, _ => by simp only [cQ, aft]; omega
  | m + 1, ch, hm, h => by
    have ih := cQ_least (P := P) hne m ch (by omega) (fun x q1 q2 => h x (by omega) q2)
    obtain ⟨a, a0, a1, a2, a3, a4⟩ := SL_sp (nemp (hne (g_n g - 1 - (m : Int)) (by omega) (by omega)))
    have hc : ch (g_n g - 1 - (m : Int)) = a - 32 := by rw [h _ (by omega) (by omega)]; exact a4
    simp only [cQ, aft]
    rw [sm_at (a := a) (f' := fun k => if s (g_n g - 1 - (m : Int)) k = true ∧ ch (g_n g - 1 - (m : Int)) + 32 < k then cQ g s P m (up ch (g_n g - 1 - (m : Int)) (k - 32)) else 0) ⟨a0, a1⟩ ?_ ?_]
    · rw [if_pos a2, up_id hc, ih]
      unfold upr
      omega
    · intro x x0 hx
      by_cases hl : x < a
      · rw [a3 x x0 hl, if_neg (by simp), if_neg (by simp)]
      · by_cases hs : s (g_n g - 1 - (m : Int)) x = true
        · rw [if_pos hs, if_pos ⟨hs, by omega⟩]
        · rw [if_neg hs, if_neg (fun q => hs q.1)]
    · rw [if_neg (fun q => by have := q.2; omega)]
theorem upr_next {g : Cfg} {s : Int → Int → Bool} {P : (Int → Int) → Int} {m : Nat} {ch : Int → Int} {w : Int} (hw : -32 ≤ w ∧ w ≤ 31) (hs : s (g_n g - 1 - (m : Int)) (w + 32) = true) (hl : ch (g_n g - 1 - (m : Int)) < w) (hb : ∀ k, ch (g_n g - 1 - (m : Int)) + 32 < k → k < w + 32 → s (g_n g - 1 - (m : Int)) k = false) : upr g s P m ch = cQ g s P m (up ch (g_n g - 1 - (m : Int)) w) + upr g s P m (up ch (g_n g - 1 - (m : Int)) w) := by
  unfold upr
  rw [sm_at (a := w + 32) (f' := fun k => if s (g_n g - 1 - (m : Int)) k = true ∧ up ch (g_n g - 1 - (m : Int)) w (g_n g - 1 - (m : Int)) + 32 < k then cQ g s P m (up (up ch (g_n g - 1 - (m : Int)) w) (g_n g - 1 - (m : Int)) (k - 32)) else 0) (by omega) ?_ ?_]
  · rw [if_pos ⟨hs, by omega⟩, show w + 32 - 32 = w by omega]
  · intro x x0 hx
    rw [up_s, up_up]
    by_cases h1 : s (g_n g - 1 - (m : Int)) x = true
    · by_cases h2 : w + 32 < x
      · rw [if_pos ⟨h1, by omega⟩, if_pos ⟨h1, h2⟩]
      · rw [if_neg (fun q => by have := hb x q.2 (by omega); rw [h1] at this; cases this), if_neg (fun q => h2 q.2)]
    · rw [if_neg (fun q => h1 q.1), if_neg (fun q => h1 q.1)]
  · rw [up_s, if_neg (fun q => by have := q.2; omega)]
theorem upr_none {g : Cfg} {s : Int → Int → Bool} {P : (Int → Int) → Int} {m : Nat} {ch : Int → Int} (hb : ∀ k, ch (g_n g - 1 - (m : Int)) + 32 < k → k < 64 → s (g_n g - 1 - (m : Int)) k = false) : upr g s P m ch = 0 := by
  unfold upr
  rw [sm_skip (a := 0) 64 (by omega) (fun k q1 q2 => ?_)]
  · rfl
  · rw [if_neg]
    intro q
    have := hb k q.2 (by omega)
    rw [q.1] at this; cases this
theorem cQ_nn {g : Cfg} {s : Int → Int → Bool} {P : (Int → Int) → Int} (h : ∀ ch, 0 ≤ P ch) : ∀ (m : Nat) (ch : Int → Int), 0 ≤ cQ g s P m ch
  | 0, ch => h ch
  | m + 1, ch => sm_nn (fun k => by
    show 0 ≤ if s (g_n g - 1 - (m : Int)) k = true then cQ g s P m (up ch (g_n g - 1 - (m : Int)) (k - 32)) else 0
    split
    · exact cQ_nn h m _
    · omega) 64
theorem aft_nn {g : Cfg} {s : Int → Int → Bool} {P : (Int → Int) → Int} (h : ∀ ch, 0 ≤ P ch) : ∀ (m : Nat) (ch : Int → Int), 0 ≤ aft g s P m ch
  | 0, ch => Int.le_refl _
  | m + 1, ch => by
    have := aft_nn (g := g) (s := s) h m ch
    have h2 : 0 ≤ upr g s P m ch := sm_nn (fun k => by
      show 0 ≤ if s (g_n g - 1 - (m : Int)) k = true ∧ ch (g_n g - 1 - (m : Int)) + 32 < k then cQ g s P m (up ch (g_n g - 1 - (m : Int)) (k - 32)) else 0
      split
      · exact cQ_nn h m _
      · omega) 64
    simp only [aft]
    omega
/-- the sums above place m are the same -/
theorem aft_hi {g : Cfg} {s : Int → Int → Bool} {P : (Int → Int) → Int} (hP : PE g P) {m : Nat} {ch ch' : Int → Int} (h : ∀ x, 0 ≤ x → x < g_n g - 1 - m → ch x = ch' x) : ∀ M : Nat, m + 1 ≤ M → (M : Int) ≤ g_n g → aft g s P M ch - aft g s P (m + 1) ch = aft g s P M ch' - aft g s P (m + 1) ch'
  | 0, hM, _ => by omega
  | M + 1, hM, hG => by
    by_cases e : m + 1 = M + 1
    · rw [e]; omega
    · have ih := aft_hi (s := s) hP h M (by omega) (by omega)
      have hu := upr_c (s := s) hP (m := M) (ch := ch) (ch' := ch') (by omega) (fun x q1 q2 => h x q1 (by omega))
      have e1 : aft g s P (M + 1) ch = aft g s P M ch + upr g s P M ch := rfl
      have e2 : aft g s P (M + 1) ch' = aft g s P M ch' + upr g s P M ch' := rfl
      omega
/-- one plan further -/
theorem aft_next {g : Cfg} {s : Int → Int → Bool} {P : (Int → Int) → Int} (hP : PE g P) (hne : ∀ x, 0 ≤ x → x < g_n g → ¬ emp (s x)) {m : Nat} {ch ch' : Int → Int} {w : Int} {c : Nat} (hc : g_n g = c) (hm : m < c) (hz : aft g s P m ch = 0)
    (hw : -32 ≤ w ∧ w ≤ 31) (hs : s (g_n g - 1 - (m : Int)) (w + 32) = true) (hl : ch (g_n g - 1 - (m : Int)) < w) (hb : ∀ k, ch (g_n g - 1 - (m : Int)) + 32 < k → k < w + 32 → s (g_n g - 1 - (m : Int)) k = false)
    (h1 : ∀ x, 0 ≤ x → x < g_n g - 1 - m → ch' x = ch x) (h2 : ch' (g_n g - 1 - (m : Int)) = w) (h3 : ∀ x, g_n g - m ≤ x → x < g_n g → ch' x = lS s x) : aft g s P c ch = P ch' + aft g s P c ch' := by
  have a1 := aft_hi (s := s) hP h1 c (by omega) (by omega)
  have e1 : aft g s P (m + 1) ch = aft g s P m ch + upr g s P m ch := rfl
  have e2 : aft g s P (m + 1) ch' = aft g s P m ch' + upr g s P m ch' := rfl
  have b1 := upr_next (P := P) hw hs hl hb
  have hag : ∀ x, 0 ≤ x → x < g_n g - m → up ch (g_n g - 1 - (m : Int)) w x = ch' x := fun x q1 q2 => by
    by_cases e : x = g_n g - 1 - (m : Int)
    · subst e; rw [up_s, h2]
    · rw [up_n e]; exact (h1 x q1 (by omega)).symm
  have b2 := cQ_c (s := s) hP m (up ch (g_n g - 1 - (m : Int)) w) ch' (by omega) hag
  have b3 := upr_c (s := s) hP (m := m) (by omega) hag
  have b4 := cQ_least (P := P) hne m ch' (by omega) h3
  omega
theorem PE_gd {g : Cfg} (hw : WFg g) : PE g (gdP g) := fun ch ch' h => by
  have := cP_c hw (s := fun _ _ => false) 0 ch ch' (by have := hw.1; omega) (fun x q1 q2 => h x q1 (by omega))
  exact this
theorem GO.wf {g : Cfg} (h : GO g) : WFg g := ⟨h.1, h.2.1, fun r hr => ⟨(h.2.2.1 r hr).2.2.2.2.2.2.1, (h.2.2.1 r hr).2.2.2.2.2.2.2⟩⟩
theorem prS_0 {g : Cfg} {s : Int → Int → Bool} : ∀ j : Nat, prS g s j = 0 ↔ ∃ n : Nat, n < j ∧ emp (s (n : Int))
  | 0 => by simp [prS]
  | j + 1 => by
    simp only [prS]
    rw [Int.mul_eq_zero, prS_0 j, emp_0]
    constructor
    · rintro (⟨n, a, b⟩ | q)
      · exact ⟨n, by omega, b⟩
      · exact ⟨j, by omega, q⟩
    · rintro ⟨n, a, b⟩
      by_cases e : n = j
      · subst e; exact Or.inr b
      · exact Or.inl ⟨n, by omega, b⟩
theorem prS_nn {g : Cfg} {s : Int → Int → Bool} : ∀ j : Nat, 0 ≤ prS g s j
  | 0 => by simp [prS]
  | j + 1 => Int.mul_nonneg (prS_nn j) (sm_nn (g := ind (s (j : Int))) ind_nn 64)
def ALL (P A : Int) : Prop := 0 ≤ P ∧ (P ≤ 4000 → A = P) ∧ (4000 < P → 4000 < A ∧ A ≤ 256000)
theorem ALL_0 {P A M : Int} (h : ALL P A) (hM : 0 ≤ M) (h0 : A = 0 ∨ M = 0) : ALL (P * M) 0 := by
  obtain ⟨h1, h2, h3⟩ := h
  have e : P * M = 0 := by
    rcases h0 with q | q
    · have : P = 0 := by omega
      rw [this, Int.zero_mul]
    · rw [q, Int.mul_zero]
  rw [e]
  exact ⟨by omega, fun _ => rfl, fun q => by omega⟩
theorem ALL_1 {P A M : Int} (h : ALL P A) (hM : 0 < M) (h0 : 4000 < A) : ALL (P * M) A := by
  obtain ⟨h1, h2, h3⟩ := h
  have hP : 4000 < P := by omega
  have : P * 1 ≤ P * M := Int.mul_le_mul_of_nonneg_left (by omega) h1
  exact ⟨by omega, fun q => by omega, fun _ => h3 hP⟩
theorem ALL_2 {P A M : Int} (h : ALL P A) (hM : 0 ≤ M ∧ M ≤ 64) (h0 : A ≤ 4000) : ALL (P * M) (A * M) := by
  obtain ⟨h1, h2, h3⟩ := h
  have hP : P ≤ 4000 := by omega
  rw [h2 hP]
  have e1 : 0 ≤ P * M := Int.mul_nonneg h1 hM.1
  have e2 : P * M ≤ 4000 * 64 := Int.mul_le_mul hP hM.2 hM.1 (by decide)
  exact ⟨e1, fun _ => rfl, fun q => ⟨q, by omega⟩⟩
