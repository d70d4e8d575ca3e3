/-! places of variables, by their numbers -/
def lvq : Nat → List (Option Value) → List (Nat × Value)
  | _, [] => []
  | i, none :: r => lvq (i + 1) r
  | i, some x :: r => (i, x) :: lvq (i + 1) r
def lvl (L : List (Option Value)) : List (Nat × Value) := lvq 0 L
theorem lvq_mem : ∀ (L : List (Option Value)) (i j : Nat) (x : Value), (j, x) ∈ lvq i L ↔ i ≤ j ∧ L[j - i]? = some (some x)
  | [], i, j, x => by simp [lvq]
  | o :: r, i, j, x => by
    have ih := lvq_mem r (i + 1) j x
    cases o with
    | none =>
      simp only [lvq]
      rw [ih]
      constructor
      · rintro ⟨h1, h2⟩
        refine ⟨by omega, ?_⟩
        rw [show j - i = (j - (i + 1)) + 1 by omega, List.getElem?_cons_succ]
        exact h2
      · rintro ⟨h1, h2⟩
        by_cases hij : j = i
        · subst hij
          rw [Nat.sub_self, List.getElem?_cons_zero] at h2
          cases h2
        · refine ⟨by omega, ?_⟩
          rw [show j - i = (j - (i + 1)) + 1 by omega, List.getElem?_cons_succ] at h2
          exact h2
    | some y =>
      simp only [lvq, List.mem_cons]
      rw [ih]
      constructor
      · rintro (h | ⟨h1, h2⟩)
        · cases h
          exact ⟨Nat.le_refl _, by rw [Nat.sub_self]; rfl⟩
        · refine ⟨by omega, ?_⟩
          rw [show j - i = (j - (i + 1)) + 1 by omega, List.getElem?_cons_succ]
          exact h2
      · rintro ⟨h1, h2⟩
        by_cases hij : j = i
        · subst hij
          rw [Nat.sub_self, List.getElem?_cons_zero] at h2
          cases h2
          exact Or.inl rfl
        · refine Or.inr ⟨by omega, ?_⟩
          rw [show j - i = (j - (i + 1)) + 1 by omega, List.getElem?_cons_succ] at h2
          exact h2
theorem lvl_mem {L : List (Option Value)} {j : Nat} {x : Value} : (j, x) ∈ lvl L ↔ L[j]? = some (some x) := by
  unfold lvl
  rw [lvq_mem]
  simp
def noL (L : List (Option Value)) (i : Nat) : Bool := match i with
  | 0 => true
  | k + 1 => match L[k]? with
    | some (some w) => w.category != 2
    | _ => true
theorem lv_set1 {ls : Array Slot} {nL : Nat} {L : List (Option Value)} {i : Nat} {x : Value} (hn : noL L i = true) (h : lv_has ls nL ((i, x) :: (lvl L).filter (fun q => !(q.1 == i) && !(q.1 + 1 == i && q.2.category == 2)))) : lv_has ls nL (lvl (L.set i (some x))) := by
  refine ⟨h.1, h.2.1, fun q hq => h.2.2 q ?_⟩
  obtain ⟨j, y⟩ := q
  rw [lvl_mem] at hq
  by_cases hji : j = i
  · subst hji
    have hl : j < (L.set j (some x)).length := (List.getElem?_eq_some_iff.mp hq).1
    rw [List.length_set] at hl
    rw [List.getElem?_set_self hl] at hq
    cases hq
    exact List.mem_cons_self
  · rw [List.getElem?_set_ne (Ne.symm hji)] at hq
    refine List.mem_cons_of_mem _ (List.mem_filter.mpr ⟨lvl_mem.mpr hq, ?_⟩)
    simp only [Bool.and_eq_true, Bool.not_eq_true', beq_eq_false_iff_ne, ne_eq, Bool.and_eq_false_imp, beq_iff_eq]
    refine ⟨hji, fun h1 => ?_⟩
    subst h1
    simp only [noL] at hn
    rw [hq] at hn
    simpa using hn
theorem lv_set2 {ls : Array Slot} {nL : Nat} {L : List (Option Value)} {i : Nat} {x : Value} (hn : noL L i = true) (h : lv_has ls nL ((i, x) :: (lvl L).filter (fun q => !(q.1 == i) && (!(q.1 == i + 1) && !(q.1 + 1 == i && q.2.category == 2))))) : lv_has ls nL (lvl ((L.set i (some x)).set (i + 1) none)) := by
  refine ⟨h.1, h.2.1, fun q hq => h.2.2 q ?_⟩
  obtain ⟨j, y⟩ := q
  rw [lvl_mem] at hq
  by_cases hj1 : j = i + 1
  · subst hj1
    have hl := (List.getElem?_eq_some_iff.mp hq).1
    rw [List.length_set] at hl
    rw [List.getElem?_set_self hl] at hq
    cases hq
  · rw [List.getElem?_set_ne (Ne.symm hj1)] at hq
    by_cases hji : j = i
    · subst hji
      have hl : j < (L.set j (some x)).length := (List.getElem?_eq_some_iff.mp hq).1
      rw [List.length_set] at hl
      rw [List.getElem?_set_self hl] at hq
      cases hq
      exact List.mem_cons_self
    · rw [List.getElem?_set_ne (Ne.symm hji)] at hq
      refine List.mem_cons_of_mem _ (List.mem_filter.mpr ⟨lvl_mem.mpr hq, ?_⟩)
      simp only [Bool.and_eq_true, Bool.not_eq_true', beq_eq_false_iff_ne, ne_eq, Bool.and_eq_false_imp, beq_iff_eq]
      refine ⟨hji, hj1, fun h1 => ?_⟩
      subst h1
      simp only [noL] at hn
      rw [hq] at hn
      simpa using hn
/-! the judgement: the machine stands at pc with the world v, variables lv, stack st -/
abbrev CX : Type := Program × Launch × Env × Room × State × MethodId × Array Value × List Frame × Method × Code × Nat × Nat × (State → Prop) × (Nat → Prop)
abbrev x_p (X : CX) : Program := X.1
abbrev x_l (X : CX) : Launch := X.2.1
abbrev x_e (X : CX) : Env := X.2.2.1
abbrev x_R (X : CX) : Room := X.2.2.2.1
abbrev x_s (X : CX) : State := X.2.2.2.2.1
abbrev x_m (X : CX) : MethodId := X.2.2.2.2.2.1
abbrev x_a (X : CX) : Array Value := X.2.2.2.2.2.2.1
abbrev x_b (X : CX) : List Frame := X.2.2.2.2.2.2.2.1
abbrev x_me (X : CX) : Method := X.2.2.2.2.2.2.2.2.1
abbrev x_c (X : CX) : Code := X.2.2.2.2.2.2.2.2.2.1
abbrev x_k (X : CX) : Nat := X.2.2.2.2.2.2.2.2.2.2.1
abbrev x_n (X : CX) : Nat := X.2.2.2.2.2.2.2.2.2.2.2.1
abbrev x_Q (X : CX) : State → Prop := X.2.2.2.2.2.2.2.2.2.2.2.2.1
abbrev x_A (X : CX) : Nat → Prop := X.2.2.2.2.2.2.2.2.2.2.2.2.2
abbrev x_W (X : CX) (H : Heap) (locs : List Loc) (g : JFrame) : Prop := W (x_p X) (x_l X) (x_e X) (x_R X) (x_s X) (x_m X) (x_a X) (x_b X) (x_me X) (x_c X) H locs (x_k X) (x_n X) (x_Q X) g
def M (X : CX) (G : GT) (nL : Nat) (v : Mem) (pc : Nat) (lv : List (Option Value)) (st : List Value) : Prop :=
  ∀ (H : Heap) (locs : List Loc) (ls : Array Slot), va_P G.1 vwCl (wd G v) H → va_S (x_A X) (x_s X).heap H locs → lv_has ls nL (lvl lv) → x_W X H locs (F0 (x_m X) pc ls st)
def Ok (X : CX) (G : GT) (nL : Nat) (cc : ByteArray) (own : String) (D : Nat) : Prop :=
  (x_p X).tables.exec = Jvm.exec ∧ (x_c X).code = cc ∧ (x_c X).maxLocals = nL ∧ (x_s X).vm.findClass own = some (x_m X).cls ∧ (∀ w ∈ gw, w.before (x_a X) (x_s X) = true) ∧ va_K G.1 vwCl (tysG G) (x_s X) ∧ Nst (x_s X) ∧ gok G ∧ (∀ i, i < 64 → x_A X (G.2.1 i)) ∧ (x_me X).locks = false ∧ (D ≤ (x_R X).frames ∧ 40 * D ≤ (x_R X).locals) ∧ (x_k X ≤ (x_R X).cells ∧ x_n X ≤ (x_R X).slots)
section Rules
variable {X : CX} {G : GT} {nL : Nat} {cc : ByteArray} {own : String} {D : Nat} {v : Mem} {pc : Nat} {lv : List (Option Value)} {st : List Value}
theorem lvl_at {ls : Array Slot} {L : List (Option Value)} (h : lv_has ls nL (lvl L)) {i : Nat} {x : Value} (hi : L[i]? = some (some x)) : ls[i]? = some (.val x) := h.2.2 (i, x) (lvl_mem.mpr hi)
theorem m_iconst (h : Ok X G nL cc own D) {n : Int} (hd : decode cc pc = .ok (.iconst n, 1)) (k : M X G nL v (pc + 1) lv (.int (iI n) :: st)) : M X G nL v pc lv st :=
  fun H locs ls hP hS hl => lv_iconst h.1 h.2.1 hd rfl (k H locs ls hP hS hl)
theorem m_bipush (h : Ok X G nL cc own D) {n : Int} (hd : decode cc pc = .ok (.bipush n, 2)) (hn : (Int8.ofInt n).toInt32 = iI n) (k : M X G nL v (pc + 2) lv (.int (iI n) :: st)) : M X G nL v pc lv st :=
  fun H locs ls hP hS hl => lv_bipush h.1 h.2.1 hd hn (k H locs ls hP hS hl)
theorem m_sipush (h : Ok X G nL cc own D) {n : Int} (hd : decode cc pc = .ok (.sipush n, 3)) (hn : (Int16.ofInt n).toInt32 = iI n) (k : M X G nL v (pc + 3) lv (.int (iI n) :: st)) : M X G nL v pc lv st :=
  fun H locs ls hP hS hl => lv_sipush h.1 h.2.1 hd hn (k H locs ls hP hS hl)
theorem m_lconst (h : Ok X G nL cc own D) {n : Fin 2} {z : Int64} (hd : decode cc pc = .ok (.lconst n, 1)) (hz : Int64.ofNat (n : Nat) = z) (k : M X G nL v (pc + 1) lv (.long z :: st)) : M X G nL v pc lv st :=
  fun H locs ls hP hS hl => lv_lconst h.1 h.2.1 hd hz (k H locs ls hP hS hl)
theorem m_iload_n (h : Ok X G nL cc own D) {q : Fin 4} {i : Nat} {x : Int32} (hd : decode cc pc = .ok (.iload_n q, 1)) (hi : (q : Nat) = i) (hx : lv[i]? = some (some (.int x))) (k : M X G nL v (pc + 1) lv (.int x :: st)) : M X G nL v pc lv st :=
  fun H locs ls hP hS hl => lv_iload_n h.1 h.2.1 hd hi (lvl_at hl hx) (k H locs ls hP hS hl)
theorem m_iload (h : Ok X G nL cc own D) {i : Nat} {x : Int32} (hd : decode cc pc = .ok (.iload i, 2)) (hx : lv[i]? = some (some (.int x))) (k : M X G nL v (pc + 2) lv (.int x :: st)) : M X G nL v pc lv st :=
  fun H locs ls hP hS hl => lv_iload h.1 h.2.1 hd (lvl_at hl hx) (k H locs ls hP hS hl)
theorem m_lload_n (h : Ok X G nL cc own D) {q : Fin 4} {i : Nat} {x : Int64} (hd : decode cc pc = .ok (.lload_n q, 1)) (hi : (q : Nat) = i) (hx : lv[i]? = some (some (.long x))) (k : M X G nL v (pc + 1) lv (.long x :: st)) : M X G nL v pc lv st :=
  fun H locs ls hP hS hl => lv_lload_n h.1 h.2.1 hd hi (lvl_at hl hx) (k H locs ls hP hS hl)
theorem m_lload (h : Ok X G nL cc own D) {i : Nat} {x : Int64} (hd : decode cc pc = .ok (.lload i, 2)) (hx : lv[i]? = some (some (.long x))) (k : M X G nL v (pc + 2) lv (.long x :: st)) : M X G nL v pc lv st :=
  fun H locs ls hP hS hl => lv_lload h.1 h.2.1 hd (lvl_at hl hx) (k H locs ls hP hS hl)
theorem m_aload_n (h : Ok X G nL cc own D) {q : Fin 4} {i : Nat} {x : Nat} (hd : decode cc pc = .ok (.aload_n q, 1)) (hi : (q : Nat) = i) (hx : lv[i]? = some (some (.ref x))) (k : M X G nL v (pc + 1) lv (.ref x :: st)) : M X G nL v pc lv st :=
  fun H locs ls hP hS hl => lv_aload_n h.1 h.2.1 hd hi (lvl_at hl hx) (k H locs ls hP hS hl)
theorem m_aload (h : Ok X G nL cc own D) {i : Nat} {x : Nat} (hd : decode cc pc = .ok (.aload i, 2)) (hx : lv[i]? = some (some (.ref x))) (k : M X G nL v (pc + 2) lv (.ref x :: st)) : M X G nL v pc lv st :=
  fun H locs ls hP hS hl => lv_aload h.1 h.2.1 hd (lvl_at hl hx) (k H locs ls hP hS hl)
theorem m_istore_n (h : Ok X G nL cc own D) {q : Fin 4} {i : Nat} {x : Int32} (hd : decode cc pc = .ok (.istore_n q, 1)) (hi : (q : Nat) = i) (hn : i < nL) (hg : noL lv i = true) (k : M X G nL v (pc + 1) (lv.set i (some (.int x))) st) : M X G nL v pc lv (.int x :: st) :=
  fun H locs ls hP hS hl => lv_istore_n h.1 h.2.1 hd hi hl hn rfl (fun ls' hl' => k H locs ls' hP hS (lv_set1 hg hl'))
theorem m_istore (h : Ok X G nL cc own D) {i : Nat} {x : Int32} (hd : decode cc pc = .ok (.istore i, 2)) (hn : i < nL) (hg : noL lv i = true) (k : M X G nL v (pc + 2) (lv.set i (some (.int x))) st) : M X G nL v pc lv (.int x :: st) :=
  fun H locs ls hP hS hl => lv_istore h.1 h.2.1 hd hl hn rfl (fun ls' hl' => k H locs ls' hP hS (lv_set1 hg hl'))
theorem m_astore_n (h : Ok X G nL cc own D) {q : Fin 4} {i : Nat} {x : Nat} (hd : decode cc pc = .ok (.astore_n q, 1)) (hi : (q : Nat) = i) (hn : i < nL) (hg : noL lv i = true) (k : M X G nL v (pc + 1) (lv.set i (some (.ref x))) st) : M X G nL v pc lv (.ref x :: st) :=
  fun H locs ls hP hS hl => lv_astore_n h.1 h.2.1 hd hi hl hn rfl (fun ls' hl' => k H locs ls' hP hS (lv_set1 hg hl'))
theorem m_astore (h : Ok X G nL cc own D) {i : Nat} {x : Nat} (hd : decode cc pc = .ok (.astore i, 2)) (hn : i < nL) (hg : noL lv i = true) (k : M X G nL v (pc + 2) (lv.set i (some (.ref x))) st) : M X G nL v pc lv (.ref x :: st) :=
  fun H locs ls hP hS hl => lv_astore h.1 h.2.1 hd hl hn rfl (fun ls' hl' => k H locs ls' hP hS (lv_set1 hg hl'))
theorem m_lstore_n (h : Ok X G nL cc own D) {q : Fin 4} {i : Nat} {x : Int64} (hd : decode cc pc = .ok (.lstore_n q, 1)) (hi : (q : Nat) = i) (hn : i + 1 < nL) (hg : noL lv i = true) (k : M X G nL v (pc + 1) ((lv.set i (some (.long x))).set (i + 1) none) st) : M X G nL v pc lv (.long x :: st) :=
  fun H locs ls hP hS hl => lv_lstore_n h.1 h.2.1 hd hi hl hn rfl (fun ls' hl' => k H locs ls' hP hS (lv_set2 hg hl'))
theorem m_lstore (h : Ok X G nL cc own D) {i : Nat} {x : Int64} (hd : decode cc pc = .ok (.lstore i, 2)) (hn : i + 1 < nL) (hg : noL lv i = true) (k : M X G nL v (pc + 2) ((lv.set i (some (.long x))).set (i + 1) none) st) : M X G nL v pc lv (.long x :: st) :=
  fun H locs ls hP hS hl => lv_lstore h.1 h.2.1 hd hl hn rfl (fun ls' hl' => k H locs ls' hP hS (lv_set2 hg hl'))
theorem m_iinc (h : Ok X G nL cc own D) {i : Nat} {n x : Int} (hd : decode cc pc = .ok (.iinc i n, 3)) (hx : lv[i]? = some (some (.int (iI x)))) (hn : i < nL) (hg : noL lv i = true) (k : M X G nL v (pc + 3) (lv.set i (some (.int (iI (x + n))))) st) : M X G nL v pc lv st := by
  intro H locs ls hP hS hl
  obtain ⟨q, hq⟩ := List.getElem?_of_mem (lvl_mem.mpr hx)
  exact lv_iinc (v := iI (x + n)) h.1 h.2.1 hd hl hq (iI_add x n) hn rfl (fun ls' hl' => k H locs ls' hP hS (lv_set1 hg hl'))
theorem m_dup (h : Ok X G nL cc own D) {a : Value} (hd : decode cc pc = .ok (.dup, 1)) (ha : a.category = 1) (k : M X G nL v (pc + 1) lv (a :: a :: st)) : M X G nL v pc lv (a :: st) :=
  fun H locs ls hP hS hl => lv_dup h.1 h.2.1 hd ha (k H locs ls hP hS hl)
theorem m_dup2 (h : Ok X G nL cc own D) {a b : Value} (hd : decode cc pc = .ok (.dup2, 1)) (ha : a.category = 1) (hb : b.category = 1) (k : M X G nL v (pc + 1) lv (a :: b :: a :: b :: st)) : M X G nL v pc lv (a :: b :: st) :=
  fun H locs ls hP hS hl => lv_dup2_11 h.1 h.2.1 hd ha hb (k H locs ls hP hS hl)
theorem m_iadd (h : Ok X G nL cc own D) {a b : Int} (hd : decode cc pc = .ok (.iadd, 1)) (k : M X G nL v (pc + 1) lv (.int (iI (a + b)) :: st)) : M X G nL v pc lv (.int (iI b) :: .int (iI a) :: st) :=
  fun H locs ls hP hS hl => lv_iadd h.1 h.2.1 hd (by rw [iI_add]; exact k H locs ls hP hS hl)
theorem m_isub (h : Ok X G nL cc own D) {a b : Int} (hd : decode cc pc = .ok (.isub, 1)) (k : M X G nL v (pc + 1) lv (.int (iI (a - b)) :: st)) : M X G nL v pc lv (.int (iI b) :: .int (iI a) :: st) :=
  fun H locs ls hP hS hl => lv_isub h.1 h.2.1 hd (by rw [iI_sub]; exact k H locs ls hP hS hl)
theorem m_imul (h : Ok X G nL cc own D) {a b : Int} (hd : decode cc pc = .ok (.imul, 1)) (k : M X G nL v (pc + 1) lv (.int (iI (a * b)) :: st)) : M X G nL v pc lv (.int (iI b) :: .int (iI a) :: st) :=
  fun H locs ls hP hS hl => lv_imul h.1 h.2.1 hd (by rw [iI_mul]; exact k H locs ls hP hS hl)
theorem m_ineg (h : Ok X G nL cc own D) {a : Int} (hd : decode cc pc = .ok (.ineg, 1)) (k : M X G nL v (pc + 1) lv (.int (iI (-a)) :: st)) : M X G nL v pc lv (.int (iI a) :: st) :=
  fun H locs ls hP hS hl => lv_ineg h.1 h.2.1 hd (by first | (rw [iI_neg]; exact k H locs ls hP hS hl) | (rw [iI_0, iI_sub, Int.zero_sub]; exact k H locs ls hP hS hl))
theorem m_idiv (h : Ok X G nL cc own D) {a b : Int} (hd : decode cc pc = .ok (.idiv, 1)) (ha : -2147483647 ≤ a ∧ a ≤ 2147483647) (hb : -2147483648 ≤ b ∧ b ≤ 2147483647) (h0 : b ≠ 0) (k : M X G nL v (pc + 1) lv (.int (iI (a.tdiv b)) :: st)) : M X G nL v pc lv (.int (iI b) :: .int (iI a) :: st) :=
  fun H locs ls hP hS hl => lv_idiv h.1 h.2.1 hd (fun q => h0 ((iI_eq hb ⟨by omega, by omega⟩).mp q)) (by rw [iI_div ha hb]; exact k H locs ls hP hS hl)
theorem m_irem (h : Ok X G nL cc own D) {a b : Int} (hd : decode cc pc = .ok (.irem, 1)) (ha : -2147483647 ≤ a ∧ a ≤ 2147483647) (hb : -2147483648 ≤ b ∧ b ≤ 2147483647) (h0 : b ≠ 0) (k : M X G nL v (pc + 1) lv (.int (iI (a.tmod b)) :: st)) : M X G nL v pc lv (.int (iI b) :: .int (iI a) :: st) :=
  fun H locs ls hP hS hl => lv_irem h.1 h.2.1 hd (fun q => h0 ((iI_eq hb ⟨by omega, by omega⟩).mp q)) (by
    rw [iI_rem ha hb, show a - a.tdiv b * b = a.tmod b by have := Int.tmod_def a b; rw [Int.mul_comm]; omega]; exact k H locs ls hP hS hl)
theorem m_goto (h : Ok X G nL cc own D) {off : Int} {tgt : Nat} (hd : decode cc pc = .ok (.goto off, 3)) (ht : (pc : Int) + off = (tgt : Int)) (k : M X G nL v tgt lv st) : M X G nL v pc lv st :=
  fun H locs ls hP hS hl => lv_goto h.1 h.2.1 hd ht (k H locs ls hP hS hl)
theorem m_if_eq (h : Ok X G nL cc own D) {a off : Int} {tgt : Nat} (hd : decode cc pc = .ok (.ifCond .eq off, 3)) (ht : (pc : Int) + off = (tgt : Int)) (ha : -2147483648 ≤ a ∧ a ≤ 2147483647) (kt : a = 0 → M X G nL v tgt lv st) (kf : a ≠ 0 → M X G nL v (pc + 3) lv st) : M X G nL v pc lv (.int (iI a) :: st) :=
  fun H locs ls hP hS hl => lv_if_eq h.1 h.2.1 hd ht (fun q => kt ((iI_eq ha ⟨by omega, by omega⟩).mp q) H locs ls hP hS hl) (fun q => kf (fun z => q ((iI_eq ha ⟨by omega, by omega⟩).mpr z)) H locs ls hP hS hl)
theorem m_if_ne (h : Ok X G nL cc own D) {a off : Int} {tgt : Nat} (hd : decode cc pc = .ok (.ifCond .ne off, 3)) (ht : (pc : Int) + off = (tgt : Int)) (ha : -2147483648 ≤ a ∧ a ≤ 2147483647) (kt : a ≠ 0 → M X G nL v tgt lv st) (kf : a = 0 → M X G nL v (pc + 3) lv st) : M X G nL v pc lv (.int (iI a) :: st) :=
  fun H locs ls hP hS hl => lv_if_ne h.1 h.2.1 hd ht (fun q => kt (fun z => q ((iI_eq ha ⟨by omega, by omega⟩).mpr z)) H locs ls hP hS hl) (fun q => kf ((iI_eq ha ⟨by omega, by omega⟩).mp (by first | exact q | exact Decidable.not_not.mp q)) H locs ls hP hS hl)
theorem m_if_lt (h : Ok X G nL cc own D) {a off : Int} {tgt : Nat} (hd : decode cc pc = .ok (.ifCond .lt off, 3)) (ht : (pc : Int) + off = (tgt : Int)) (ha : -2147483648 ≤ a ∧ a ≤ 2147483647) (kt : a < 0 → M X G nL v tgt lv st) (kf : 0 ≤ a → M X G nL v (pc + 3) lv st) : M X G nL v pc lv (.int (iI a) :: st) := by
  intro H locs ls hP hS hl
  have e1 := iI_lt ha (b := 0) ⟨by omega, by omega⟩
  have e2 := iI_le ha (b := 0) ⟨by omega, by omega⟩
  have e3 := iI_lt (a := 0) ⟨by omega, by omega⟩ ha
  have e4 := iI_le (a := 0) ⟨by omega, by omega⟩ ha
  rw [← iI_0] at e1 e2 e3 e4
  refine lv_if_lt h.1 h.2.1 hd ht (fun q => kt ?_ H locs ls hP hS hl) (fun q => kf ?_ H locs ls hP hS hl)
  · simp only [gt_iff_lt, ge_iff_le, e1, e2, e3, e4] at q; omega
  · simp only [gt_iff_lt, ge_iff_le, e1, e2, e3, e4] at q; omega
theorem m_if_ge (h : Ok X G nL cc own D) {a off : Int} {tgt : Nat} (hd : decode cc pc = .ok (.ifCond .ge off, 3)) (ht : (pc : Int) + off = (tgt : Int)) (ha : -2147483648 ≤ a ∧ a ≤ 2147483647) (kt : 0 ≤ a → M X G nL v tgt lv st) (kf : a < 0 → M X G nL v (pc + 3) lv st) : M X G nL v pc lv (.int (iI a) :: st) := by
  intro H locs ls hP hS hl
  have e1 := iI_lt ha (b := 0) ⟨by omega, by omega⟩
  have e2 := iI_le ha (b := 0) ⟨by omega, by omega⟩
  have e3 := iI_lt (a := 0) ⟨by omega, by omega⟩ ha
  have e4 := iI_le (a := 0) ⟨by omega, by omega⟩ ha
  rw [← iI_0] at e1 e2 e3 e4
  refine lv_if_ge h.1 h.2.1 hd ht (fun q => kt ?_ H locs ls hP hS hl) (fun q => kf ?_ H locs ls hP hS hl)
  · simp only [gt_iff_lt, ge_iff_le, e1, e2, e3, e4] at q; omega
  · simp only [gt_iff_lt, ge_iff_le, e1, e2, e3, e4] at q; omega
theorem m_if_gt (h : Ok X G nL cc own D) {a off : Int} {tgt : Nat} (hd : decode cc pc = .ok (.ifCond .gt off, 3)) (ht : (pc : Int) + off = (tgt : Int)) (ha : -2147483648 ≤ a ∧ a ≤ 2147483647) (kt : 0 < a → M X G nL v tgt lv st) (kf : a ≤ 0 → M X G nL v (pc + 3) lv st) : M X G nL v pc lv (.int (iI a) :: st) := by
  intro H locs ls hP hS hl
  have e1 := iI_lt ha (b := 0) ⟨by omega, by omega⟩
  have e2 := iI_le ha (b := 0) ⟨by omega, by omega⟩
  have e3 := iI_lt (a := 0) ⟨by omega, by omega⟩ ha
  have e4 := iI_le (a := 0) ⟨by omega, by omega⟩ ha
  rw [← iI_0] at e1 e2 e3 e4
  refine lv_if_gt h.1 h.2.1 hd ht (fun q => kt ?_ H locs ls hP hS hl) (fun q => kf ?_ H locs ls hP hS hl)
  · simp only [gt_iff_lt, ge_iff_le, e1, e2, e3, e4] at q; omega
  · simp only [gt_iff_lt, ge_iff_le, e1, e2, e3, e4] at q; omega
theorem m_if_le (h : Ok X G nL cc own D) {a off : Int} {tgt : Nat} (hd : decode cc pc = .ok (.ifCond .le off, 3)) (ht : (pc : Int) + off = (tgt : Int)) (ha : -2147483648 ≤ a ∧ a ≤ 2147483647) (kt : a ≤ 0 → M X G nL v tgt lv st) (kf : 0 < a → M X G nL v (pc + 3) lv st) : M X G nL v pc lv (.int (iI a) :: st) := by
  intro H locs ls hP hS hl
  have e1 := iI_lt ha (b := 0) ⟨by omega, by omega⟩
  have e2 := iI_le ha (b := 0) ⟨by omega, by omega⟩
  have e3 := iI_lt (a := 0) ⟨by omega, by omega⟩ ha
  have e4 := iI_le (a := 0) ⟨by omega, by omega⟩ ha
  rw [← iI_0] at e1 e2 e3 e4
  refine lv_if_le h.1 h.2.1 hd ht (fun q => kt ?_ H locs ls hP hS hl) (fun q => kf ?_ H locs ls hP hS hl)
  · simp only [gt_iff_lt, ge_iff_le, e1, e2, e3, e4] at q; omega
  · simp only [gt_iff_lt, ge_iff_le, e1, e2, e3, e4] at q; omega
theorem m_icmp_eq (h : Ok X G nL cc own D) {a b off : Int} {tgt : Nat} (hd : decode cc pc = .ok (.if_icmp .eq off, 3)) (ht : (pc : Int) + off = (tgt : Int)) (ha : -2147483648 ≤ a ∧ a ≤ 2147483647) (hb : -2147483648 ≤ b ∧ b ≤ 2147483647) (kt : a = b → M X G nL v tgt lv st) (kf : a ≠ b → M X G nL v (pc + 3) lv st) : M X G nL v pc lv (.int (iI b) :: .int (iI a) :: st) := by
  intro H locs ls hP hS hl
  have e1 := iI_lt ha hb
  have e2 := iI_le ha hb
  have e3 := iI_lt hb ha
  have e4 := iI_le hb ha
  have e5 := iI_eq ha hb
  refine lv_icmp_eq h.1 h.2.1 hd ht (fun q => kt ?_ H locs ls hP hS hl) (fun q => kf ?_ H locs ls hP hS hl)
  · simp only [gt_iff_lt, ge_iff_le, ne_eq, Decidable.not_not, e1, e2, e3, e4, e5] at q; omega
  · simp only [gt_iff_lt, ge_iff_le, ne_eq, Decidable.not_not, e1, e2, e3, e4, e5] at q; omega
theorem m_icmp_ne (h : Ok X G nL cc own D) {a b off : Int} {tgt : Nat} (hd : decode cc pc = .ok (.if_icmp .ne off, 3)) (ht : (pc : Int) + off = (tgt : Int)) (ha : -2147483648 ≤ a ∧ a ≤ 2147483647) (hb : -2147483648 ≤ b ∧ b ≤ 2147483647) (kt : a ≠ b → M X G nL v tgt lv st) (kf : a = b → M X G nL v (pc + 3) lv st) : M X G nL v pc lv (.int (iI b) :: .int (iI a) :: st) := by
  intro H locs ls hP hS hl
  have e1 := iI_lt ha hb
  have e2 := iI_le ha hb
  have e3 := iI_lt hb ha
  have e4 := iI_le hb ha
  have e5 := iI_eq ha hb
  refine lv_icmp_ne h.1 h.2.1 hd ht (fun q => kt ?_ H locs ls hP hS hl) (fun q => kf ?_ H locs ls hP hS hl)
  · simp only [gt_iff_lt, ge_iff_le, ne_eq, Decidable.not_not, e1, e2, e3, e4, e5] at q; omega
  · simp only [gt_iff_lt, ge_iff_le, ne_eq, Decidable.not_not, e1, e2, e3, e4, e5] at q; omega
theorem m_icmp_lt (h : Ok X G nL cc own D) {a b off : Int} {tgt : Nat} (hd : decode cc pc = .ok (.if_icmp .lt off, 3)) (ht : (pc : Int) + off = (tgt : Int)) (ha : -2147483648 ≤ a ∧ a ≤ 2147483647) (hb : -2147483648 ≤ b ∧ b ≤ 2147483647) (kt : a < b → M X G nL v tgt lv st) (kf : b ≤ a → M X G nL v (pc + 3) lv st) : M X G nL v pc lv (.int (iI b) :: .int (iI a) :: st) := by
  intro H locs ls hP hS hl
  have e1 := iI_lt ha hb
  have e2 := iI_le ha hb
  have e3 := iI_lt hb ha
  have e4 := iI_le hb ha
  have e5 := iI_eq ha hb
  refine lv_icmp_lt h.1 h.2.1 hd ht (fun q => kt ?_ H locs ls hP hS hl) (fun q => kf ?_ H locs ls hP hS hl)
  · simp only [gt_iff_lt, ge_iff_le, ne_eq, Decidable.not_not, e1, e2, e3, e4, e5] at q; omega
  · simp only [gt_iff_lt, ge_iff_le, ne_eq, Decidable.not_not, e1, e2, e3, e4, e5] at q; omega
theorem m_icmp_ge (h : Ok X G nL cc own D) {a b off : Int} {tgt : Nat} (hd : decode cc pc = .ok (.if_icmp .ge off, 3)) (ht : (pc : Int) + off = (tgt : Int)) (ha : -2147483648 ≤ a ∧ a ≤ 2147483647) (hb : -2147483648 ≤ b ∧ b ≤ 2147483647) (kt : b ≤ a → M X G nL v tgt lv st) (kf : a < b → M X G nL v (pc + 3) lv st) : M X G nL v pc lv (.int (iI b) :: .int (iI a) :: st) := by
  intro H locs ls hP hS hl
  have e1 := iI_lt ha hb
  have e2 := iI_le ha hb
  have e3 := iI_lt hb ha
  have e4 := iI_le hb ha
  have e5 := iI_eq ha hb
  refine lv_icmp_ge h.1 h.2.1 hd ht (fun q => kt ?_ H locs ls hP hS hl) (fun q => kf ?_ H locs ls hP hS hl)
  · simp only [gt_iff_lt, ge_iff_le, ne_eq, Decidable.not_not, e1, e2, e3, e4, e5] at q; omega
  · simp only [gt_iff_lt, ge_iff_le, ne_eq, Decidable.not_not, e1, e2, e3, e4, e5] at q; omega
theorem m_icmp_gt (h : Ok X G nL cc own D) {a b off : Int} {tgt : Nat} (hd : decode cc pc = .ok (.if_icmp .gt off, 3)) (ht : (pc : Int) + off = (tgt : Int)) (ha : -2147483648 ≤ a ∧ a ≤ 2147483647) (hb : -2147483648 ≤ b ∧ b ≤ 2147483647) (kt : b < a → M X G nL v tgt lv st) (kf : a ≤ b → M X G nL v (pc + 3) lv st) : M X G nL v pc lv (.int (iI b) :: .int (iI a) :: st) := by
  intro H locs ls hP hS hl
  have e1 := iI_lt ha hb
  have e2 := iI_le ha hb
  have e3 := iI_lt hb ha
  have e4 := iI_le hb ha
  have e5 := iI_eq ha hb
  refine lv_icmp_gt h.1 h.2.1 hd ht (fun q => kt ?_ H locs ls hP hS hl) (fun q => kf ?_ H locs ls hP hS hl)
  · simp only [gt_iff_lt, ge_iff_le, ne_eq, Decidable.not_not, e1, e2, e3, e4, e5] at q; omega
  · simp only [gt_iff_lt, ge_iff_le, ne_eq, Decidable.not_not, e1, e2, e3, e4, e5] at q; omega
theorem m_icmp_le (h : Ok X G nL cc own D) {a b off : Int} {tgt : Nat} (hd : decode cc pc = .ok (.if_icmp .le off, 3)) (ht : (pc : Int) + off = (tgt : Int)) (ha : -2147483648 ≤ a ∧ a ≤ 2147483647) (hb : -2147483648 ≤ b ∧ b ≤ 2147483647) (kt : a ≤ b → M X G nL v tgt lv st) (kf : b < a → M X G nL v (pc + 3) lv st) : M X G nL v pc lv (.int (iI b) :: .int (iI a) :: st) := by
  intro H locs ls hP hS hl
  have e1 := iI_lt ha hb
  have e2 := iI_le ha hb
  have e3 := iI_lt hb ha
  have e4 := iI_le hb ha
  have e5 := iI_eq ha hb
  refine lv_icmp_le h.1 h.2.1 hd ht (fun q => kt ?_ H locs ls hP hS hl) (fun q => kf ?_ H locs ls hP hS hl)
  · simp only [gt_iff_lt, ge_iff_le, ne_eq, Decidable.not_not, e1, e2, e3, e4, e5] at q; omega
  · simp only [gt_iff_lt, ge_iff_le, ne_eq, Decidable.not_not, e1, e2, e3, e4, e5] at q; omega
theorem m_tsIn (h : Ok X G nL cc own D) {a dflt lo hi off : Int} {offs : Array Int} {len tgt : Nat} (hd : decode cc pc = .ok (.tableswitch dflt lo hi offs, len)) (ha : -2147483648 ≤ a ∧ a ≤ 2147483647) (h1 : lo ≤ a) (h2 : a ≤ hi) (ho : offs[(a - lo).toNat]? = some off) (ht : (pc : Int) + off = (tgt : Int)) (k : M X G nL v tgt lv st) : M X G nL v pc lv (.int (iI a) :: st) :=
  fun H locs ls hP hS hl => lv_tableIn h.1 h.2.1 hd (by rw [iI_toInt ha]; omega) (by rw [iI_toInt ha]; omega) (by rw [iI_toInt ha]; exact ho) ht (k H locs ls hP hS hl)
theorem m_tsOut (h : Ok X G nL cc own D) {a dflt lo hi : Int} {offs : Array Int} {len tgt : Nat} (hd : decode cc pc = .ok (.tableswitch dflt lo hi offs, len)) (ha : -2147483648 ≤ a ∧ a ≤ 2147483647) (h1 : a < lo ∨ hi < a) (ht : (pc : Int) + dflt = (tgt : Int)) (k : M X G nL v tgt lv st) : M X G nL v pc lv (.int (iI a) :: st) :=
  fun H locs ls hP hS hl => lv_tableOut h.1 h.2.1 hd (by rw [iI_toInt ha]; exact h1) ht (k H locs ls hP hS hl)
theorem m_iand (h : Ok X G nL cc own D) {a b c : Int} (hd : decode cc pc = .ok (.iand, 1)) (hc : iI a &&& iI b = iI c) (k : M X G nL v (pc + 1) lv (.int (iI c) :: st)) : M X G nL v pc lv (.int (iI b) :: .int (iI a) :: st) :=
  fun H locs ls hP hS hl => lv_iand h.1 h.2.1 hd (by rw [hc]; exact k H locs ls hP hS hl)
theorem m_ior (h : Ok X G nL cc own D) {a b c : Int} (hd : decode cc pc = .ok (.ior, 1)) (hc : iI a ||| iI b = iI c) (k : M X G nL v (pc + 1) lv (.int (iI c) :: st)) : M X G nL v pc lv (.int (iI b) :: .int (iI a) :: st) :=
  fun H locs ls hP hS hl => lv_ior h.1 h.2.1 hd (by rw [hc]; exact k H locs ls hP hS hl)
theorem m_ixor (h : Ok X G nL cc own D) {a b c : Int} (hd : decode cc pc = .ok (.ixor, 1)) (hc : iI a ^^^ iI b = iI c) (k : M X G nL v (pc + 1) lv (.int (iI c) :: st)) : M X G nL v pc lv (.int (iI b) :: .int (iI a) :: st) :=
  fun H locs ls hP hS hl => lv_ixor h.1 h.2.1 hd (by rw [hc]; exact k H locs ls hP hS hl)
theorem m_ishl (h : Ok X G nL cc own D) {a b c : Int} (hd : decode cc pc = .ok (.ishl, 1)) (hc : iI a <<< (iI b &&& 31) = iI c) (k : M X G nL v (pc + 1) lv (.int (iI c) :: st)) : M X G nL v pc lv (.int (iI b) :: .int (iI a) :: st) :=
  fun H locs ls hP hS hl => lv_ishl h.1 h.2.1 hd (by rw [hc]; exact k H locs ls hP hS hl)
theorem m_ishr (h : Ok X G nL cc own D) {a b c : Int} (hd : decode cc pc = .ok (.ishr, 1)) (hc : iI a >>> (iI b &&& 31) = iI c) (k : M X G nL v (pc + 1) lv (.int (iI c) :: st)) : M X G nL v pc lv (.int (iI b) :: .int (iI a) :: st) :=
  fun H locs ls hP hS hl => lv_ishr h.1 h.2.1 hd (by rw [hc]; exact k H locs ls hP hS hl)
theorem m_iandR (h : Ok X G nL cc own D) {a b c : Int32} (hd : decode cc pc = .ok (.iand, 1)) (hc : a &&& b = c) (k : M X G nL v (pc + 1) lv (.int c :: st)) : M X G nL v pc lv (.int b :: .int a :: st) :=
  fun H locs ls hP hS hl => lv_iand h.1 h.2.1 hd (by rw [hc]; exact k H locs ls hP hS hl)
theorem m_ixorR (h : Ok X G nL cc own D) {a b c : Int32} (hd : decode cc pc = .ok (.ixor, 1)) (hc : a ^^^ b = c) (k : M X G nL v (pc + 1) lv (.int c :: st)) : M X G nL v pc lv (.int b :: .int a :: st) :=
  fun H locs ls hP hS hl => lv_ixor h.1 h.2.1 hd (by rw [hc]; exact k H locs ls hP hS hl)
theorem m_iaddR (h : Ok X G nL cc own D) {a b c : Int32} (hd : decode cc pc = .ok (.iadd, 1)) (hc : a + b = c) (k : M X G nL v (pc + 1) lv (.int c :: st)) : M X G nL v pc lv (.int b :: .int a :: st) :=
  fun H locs ls hP hS hl => lv_iadd h.1 h.2.1 hd (by rw [hc]; exact k H locs ls hP hS hl)
theorem m_isubR (h : Ok X G nL cc own D) {a b c : Int32} (hd : decode cc pc = .ok (.isub, 1)) (hc : a - b = c) (k : M X G nL v (pc + 1) lv (.int c :: st)) : M X G nL v pc lv (.int b :: .int a :: st) :=
  fun H locs ls hP hS hl => lv_isub h.1 h.2.1 hd (by rw [hc]; exact k H locs ls hP hS hl)
theorem m_iushrR (h : Ok X G nL cc own D) {a b c : Int32} (hd : decode cc pc = .ok (.iushr, 1)) (hc : (a.toUInt32 >>> (b.toUInt32 &&& Int32.toUInt32 31)).toInt32 = c) (k : M X G nL v (pc + 1) lv (.int c :: st)) : M X G nL v pc lv (.int b :: .int a :: st) :=
  fun H locs ls hP hS hl => lv_iushr h.1 h.2.1 hd hc (k H locs ls hP hS hl)
theorem m_ldcw (h : Ok X G nL cc own D) {index : Nat} {z : Int32} (hw : Cond.constant own index z ∈ gw) (hd : decode cc pc = .ok (.ldc_w index, 3)) (k : M X G nL v (pc + 3) lv (.int z :: st)) : M X G nL v pc lv st :=
  fun H locs ls hP hS hl => lv_ldcw h.1 h.2.1 h.2.2.2.1 (h.2.2.2.2.1 _ hw) hd (k H locs ls hP hS hl)
theorem m_ldc2 (h : Ok X G nL cc own D) {index : Nat} {z : Int64} (hw : Cond.constantLong own index z ∈ gw) (hd : decode cc pc = .ok (.ldc2_w index, 3)) (k : M X G nL v (pc + 3) lv (.long z :: st)) : M X G nL v pc lv st :=
  fun H locs ls hP hS hl => lv_ldc2 h.1 h.2.1 h.2.2.2.1 (h.2.2.2.2.1 _ hw) hd (k H locs ls hP hS hl)
theorem m_ladd (h : Ok X G nL cc own D) {a b c : Int64} (hd : decode cc pc = .ok (.ladd, 1)) (hc : a + b = c) (k : M X G nL v (pc + 1) lv (.long c :: st)) : M X G nL v pc lv (.long b :: .long a :: st) :=
  fun H locs ls hP hS hl => lv_ladd h.1 h.2.1 hd (by rw [hc]; exact k H locs ls hP hS hl)
theorem m_lsub (h : Ok X G nL cc own D) {a b c : Int64} (hd : decode cc pc = .ok (.lsub, 1)) (hc : a - b = c) (k : M X G nL v (pc + 1) lv (.long c :: st)) : M X G nL v pc lv (.long b :: .long a :: st) :=
  fun H locs ls hP hS hl => lv_lsub h.1 h.2.1 hd (by rw [hc]; exact k H locs ls hP hS hl)
theorem m_lmul (h : Ok X G nL cc own D) {a b c : Int64} (hd : decode cc pc = .ok (.lmul, 1)) (hc : a * b = c) (k : M X G nL v (pc + 1) lv (.long c :: st)) : M X G nL v pc lv (.long b :: .long a :: st) :=
  fun H locs ls hP hS hl => lv_lmul h.1 h.2.1 hd (by rw [hc]; exact k H locs ls hP hS hl)
theorem m_land (h : Ok X G nL cc own D) {a b c : Int64} (hd : decode cc pc = .ok (.land, 1)) (hc : a &&& b = c) (k : M X G nL v (pc + 1) lv (.long c :: st)) : M X G nL v pc lv (.long b :: .long a :: st) :=
  fun H locs ls hP hS hl => lv_land h.1 h.2.1 hd (by rw [hc]; exact k H locs ls hP hS hl)
theorem m_lxor (h : Ok X G nL cc own D) {a b c : Int64} (hd : decode cc pc = .ok (.lxor, 1)) (hc : a ^^^ b = c) (k : M X G nL v (pc + 1) lv (.long c :: st)) : M X G nL v pc lv (.long b :: .long a :: st) :=
  fun H locs ls hP hS hl => lv_lxor h.1 h.2.1 hd (by rw [hc]; exact k H locs ls hP hS hl)
theorem m_lushr (h : Ok X G nL cc own D) {a c : Int64} {b : Int32} (hd : decode cc pc = .ok (.lushr, 1)) (hc : (a.toUInt64 >>> (b.toInt64.toUInt64 &&& Int64.toUInt64 63)).toInt64 = c) (k : M X G nL v (pc + 1) lv (.long c :: st)) : M X G nL v pc lv (.int b :: .long a :: st) :=
  fun H locs ls hP hS hl => lv_lushr h.1 h.2.1 hd hc (k H locs ls hP hS hl)
theorem m_lshl (h : Ok X G nL cc own D) {a c : Int64} {b : Int32} (hd : decode cc pc = .ok (.lshl, 1)) (hc : a <<< (b.toInt64 &&& 63) = c) (k : M X G nL v (pc + 1) lv (.long c :: st)) : M X G nL v pc lv (.int b :: .long a :: st) :=
  fun H locs ls hP hS hl => lv_lshl h.1 h.2.1 hd hc (k H locs ls hP hS hl)
theorem m_i2l (h : Ok X G nL cc own D) {a : Int32} {c : Int64} (hd : decode cc pc = .ok (.i2l, 1)) (hc : a.toInt64 = c) (k : M X G nL v (pc + 1) lv (.long c :: st)) : M X G nL v pc lv (.int a :: st) :=
  fun H locs ls hP hS hl => lv_i2l h.1 h.2.1 hd hc (k H locs ls hP hS hl)
theorem m_l2i (h : Ok X G nL cc own D) {a : Int64} {c : Int32} (hd : decode cc pc = .ok (.l2i, 1)) (hc : a.toInt32 = c) (k : M X G nL v (pc + 1) lv (.int c :: st)) : M X G nL v pc lv (.long a :: st) :=
  fun H locs ls hP hS hl => lv_l2i h.1 h.2.1 hd hc (k H locs ls hP hS hl)
theorem m_lcmp (h : Ok X G nL cc own D) {a b : Int64} {c : Int} (hd : decode cc pc = .ok (.lcmp, 1)) (hc : lg_cmp a b = iI c) (k : M X G nL v (pc + 1) lv (.int (iI c) :: st)) : M X G nL v pc lv (.long b :: .long a :: st) :=
  fun H locs ls hP hS hl => W.lcmp h.1 h.2.1 hd (by rw [hc]; exact k H locs ls hP hS hl)
end Rules
