/-! machine ints as whole numbers -/
def iI (z : Int) : Int32 := Int32.ofInt z
theorem iI_add (a b : Int) : iI a + iI b = iI (a + b) := (Int32.ofInt_add a b).symm
theorem iI_sub (a b : Int) : iI a - iI b = iI (a - b) := (Int32.ofInt_sub a b).symm
theorem iI_mul (a b : Int) : iI a * iI b = iI (a * b) := (Int32.ofInt_mul a b).symm
theorem iI_neg (a : Int) : -iI a = iI (-a) := (Int32.ofInt_neg a).symm
theorem iI_toInt {z : Int} (h : -2147483648 ≤ z ∧ z ≤ 2147483647) : (iI z).toInt = z := Int32.toInt_ofInt_of_le (by omega) (by omega)
theorem iI_of (x : Int32) : x = iI x.toInt := (Int32.ofInt_toInt x).symm
theorem iI_rg (x : Int32) : -2147483648 ≤ x.toInt ∧ x.toInt ≤ 2147483647 := by
  have h1 := Int32.toInt_lt x
  have h2 := Int32.le_toInt x
  omega
theorem iI_lt {a b : Int} (ha : -2147483648 ≤ a ∧ a ≤ 2147483647) (hb : -2147483648 ≤ b ∧ b ≤ 2147483647) : iI a < iI b ↔ a < b := by
  rw [Int32.lt_iff_toInt_lt, iI_toInt ha, iI_toInt hb]
theorem iI_le {a b : Int} (ha : -2147483648 ≤ a ∧ a ≤ 2147483647) (hb : -2147483648 ≤ b ∧ b ≤ 2147483647) : iI a ≤ iI b ↔ a ≤ b := by
  rw [Int32.le_iff_toInt_le, iI_toInt ha, iI_toInt hb]
theorem iI_eq {a b : Int} (ha : -2147483648 ≤ a ∧ a ≤ 2147483647) (hb : -2147483648 ≤ b ∧ b ≤ 2147483647) : iI a = iI b ↔ a = b := by
  rw [← Int32.toInt_inj, iI_toInt ha, iI_toInt hb]
theorem iI_0 : (0 : Int32) = iI 0 := rfl
theorem iI_clamp {a : Int} (h0 : 0 ≤ a) (h1 : a ≤ 2147483647) : ((iI a).toNatClampNeg : Int) = a := by
  show (((iI a).toInt.toNat : Nat) : Int) = a
  rw [iI_toInt ⟨by omega, h1⟩]
  omega
theorem iI_in {a : Int} {n : Nat} (h0 : 0 ≤ a) (h1 : a < n) (hn : n ≤ 2147483647) : vp_in (iI a) n := by
  rw [vp_in_iff, iI_toInt ⟨by omega, by omega⟩]
  exact ⟨h0, h1⟩
theorem iI_div {a b : Int} (ha : -2147483647 ≤ a ∧ a ≤ 2147483647) (hb : -2147483648 ≤ b ∧ b ≤ 2147483647) : iI a / iI b = iI (a.tdiv b) := by
  have h1 : (iI a / iI b).toInt = (iI a).toInt.tdiv (iI b).toInt := Int32.toInt_div_of_ne_left _ _ (fun h => by
    have h2 := congrArg Int32.toInt h
    rw [iI_toInt ⟨by omega, by omega⟩] at h2
    have h3 : Int32.minValue.toInt = -2147483648 := by decide
    omega)
  rw [iI_of (iI a / iI b), h1, iI_toInt ⟨by omega, by omega⟩, iI_toInt hb]
theorem iI_rem {a b : Int} (ha : -2147483647 ≤ a ∧ a ≤ 2147483647) (hb : -2147483648 ≤ b ∧ b ≤ 2147483647) : iI a - iI a / iI b * iI b = iI (a - a.tdiv b * b) := by
  rw [iI_div ha hb, iI_mul, iI_sub]
/-! the words that all methods share -/
def gw : List Cond := lw_tbl.filter goodWord
def isNest : Cond → Bool
  | .methodLinkNest _ _ _ _ => true
  | _ => false
def nw : List Cond := lw_tbl.filter isNest
def Nst (U : State) : Prop := ∀ w ∈ nw, va_Nw w U
theorem gw_in {w : Cond} (h : w ∈ lw_tbl) (hg : goodWord w = true) : w ∈ gw := List.mem_filter.mpr ⟨h, hg⟩
theorem nw_in {w : Cond} (h : w ∈ lw_tbl) (hg : isNest w = true) : w ∈ nw := List.mem_filter.mpr ⟨h, hg⟩
theorem Nst.warm {s U : State} (hW : s.WarmedH U.vm) (h : Nst s) : Nst U := by
  intro w hw
  have h2 := h w hw
  have h3 := (List.mem_filter.mp hw).2
  cases w <;> first | exact va_Nw.warmM hW h2 | exact absurd h3 (by simp [isNest])
theorem Nst.same {u U : State} (he : u.vm = U.vm) (h : Nst u) : Nst U := by
  intro w hw
  have h2 := h w hw
  have h3 := (List.mem_filter.mp hw).2
  cases w <;> first | exact va_Nw.same rfl he h2 | exact absurd h3 (by simp [isNest])
def wM (y : MethodName) (cc : ByteArray) (n : Nat) (ret : Option FieldType) : List Cond := .code y cc n ret :: gw
theorem wM_good {y : MethodName} {cc : ByteArray} {n : Nat} {ret : Option FieldType} (h : Cond.code y cc n ret ∈ gw) : GoodIn gw (wM y cc n ret) := by
  intro w hw
  rcases List.mem_cons.mp hw with rfl | hw
  · exact ⟨h, good_of_word (List.mem_filter.mp h).2⟩
  · exact ⟨hw, good_of_word (List.mem_filter.mp hw).2⟩
/-! the world: 64 cells at fixed places; what they hold is a function of whole numbers -/
abbrev GT : Type := ((Nat → ClassId) × (Nat → Nat → Nat)) × (Nat → Nat) × (Nat → ClassId)
abbrev Mem : Type := (Nat → Int → Int) × (Nat → Int → Int64)
def tysG (G : GT) : List (ClassId × FieldType) := [(G.2.2 0, .int), (G.2.2 1, .long), (G.2.2 2, .boolean), (G.2.2 3, .object "LinearReach$Row")]
abbrev aI (G : GT) (n : Nat) (f : Int → Int) : va_E := .inl (G.2.2 0, n, .inl (fun j => iI (f (j : Int))))
abbrev aZ (G : GT) (n : Nat) (f : Int → Int) : va_E := .inl (G.2.2 2, n, .inl (fun j => iI (f (j : Int))))
abbrev aL (G : GT) (n : Nat) (f : Int → Int64) : va_E := .inl (G.2.2 1, n, .inr (.inl (fun j => f (j : Int))))
abbrev oI (f : Int → Int) (k : Int) : Value := .int (iI (f k))
def cE1 (G : GT) (v : Mem) (i : Nat) : va_E := match i with
  | 0 => .inr (7, [.ref (G.2.1 1), .ref (G.2.1 10), .ref (G.2.1 12), .ref (G.2.1 18), .ref (G.2.1 22)])
  | 1 => .inr (3, [oI (v.1 1) 0, .ref (G.2.1 2), .ref (G.2.1 3), .ref (G.2.1 4), .ref (G.2.1 7)])
  | 2 => aL G 8 (v.2 2)
  | 3 => aL G 8 (v.2 3)
  | 4 => .inr (5, [.ref (G.2.1 5), .ref (G.2.1 6)])
  | 5 => aI G 8 (v.1 5)
  | 6 => aI G 8 (v.1 6)
  | 7 => .inr (5, [.ref (G.2.1 8), .ref (G.2.1 9)])
  | 8 => aI G 8 (v.1 8)
  | 9 => aI G 8 (v.1 9)
  | 10 => .inr (2, [oI (v.1 10) 0, .ref (G.2.1 11)])
  | 11 => .inl (G.2.2 3, 12, .inr (.inr (.inr (.inr (fun j => some (G.2.1 (40 + j)))))))
  | 12 => .inr (6, [oI (v.1 12) 0, .ref (G.2.1 13), .ref (G.2.1 14), .ref (G.2.1 15), .ref (G.2.1 16), .ref (G.2.1 17)])
  | 13 => aI G 512 (v.1 13)
  | 14 => aI G 512 (v.1 14)
  | 15 => aI G 512 (v.1 15)
  | 16 => aI G 512 (v.1 16)
  | 17 => aI G 512 (v.1 17)
  | 18 => .inr (4, [oI (v.1 18) 0, oI (v.1 18) 1, .ref (G.2.1 1), .ref (G.2.1 10), .ref (G.2.1 12), .ref (G.2.1 19)])
  | 19 => .inr (5, [.ref (G.2.1 20), .ref (G.2.1 21)])
  | 20 => aI G 8 (v.1 20)
  | 21 => aI G 8 (v.1 21)
  | 22 => .inr (0, [.ref (G.2.1 1), .ref (G.2.1 10), .ref (G.2.1 23), .ref (G.2.1 24)])
  | 23 => aI G 8 (v.1 23)
  | 24 => aI G 12 (v.1 24)
  | 25 => .inr (8, [oI (v.1 25) 0, oI (v.1 25) 1, .ref (G.2.1 26), .ref (G.2.1 27), .ref (G.2.1 28), .ref (G.2.1 29), .ref (G.2.1 30), .ref (G.2.1 31), oI (v.1 25) 8, oI (v.1 25) 9, oI (v.1 25) 10, .ref (G.2.1 32), .ref (G.2.1 33), .ref (G.2.1 34), .ref (G.2.1 35), .ref (G.2.1 36), .ref (G.2.1 37), .ref (G.2.1 38), .ref (G.2.1 39)])
  | 26 => aZ G 512 (v.1 26)
  | 27 => aZ G 512 (v.1 27)
  | 28 => aI G 12 (v.1 28)
  | 29 => aI G 36 (v.1 29)
  | 30 => aI G 12 (v.1 30)
  | 31 => aI G 96 (v.1 31)
  | 32 => aI G 512 (v.1 32)
  | 33 => aI G 512 (v.1 33)
  | 34 => aI G 512 (v.1 34)
  | 35 => aI G 512 (v.1 35)
  | 36 => aZ G 8192 (v.1 36)
  | 37 => aI G 8192 (v.1 37)
  | 38 => aI G 8 (v.1 38)
  | _ => aI G 8 (v.1 39)
def cE (G : GT) (v : Mem) (i : Nat) : va_E :=
  if i < 40 then cE1 G v i
  else if i < 52 then .inr (1, [oI (v.1 i) 0, oI (v.1 i) 1, oI (v.1 i) 2, oI (v.1 i) 3, oI (v.1 i) 4, .ref (G.2.1 (i + 12))])
  else aI G 8 (v.1 i)
def wd (G : GT) (v : Mem) : va_W := (List.range 64).map (fun i => (G.2.1 i, cE G v i))
def gok (G : GT) : Prop := ∀ i j : Nat, i < 64 → j < 64 → G.2.1 i = G.2.1 j → i = j
def aW (G : GT) : Nat → Prop := fun q => ∃ i : Nat, i < 64 ∧ G.2.1 i = q
theorem wd_at {G : GT} {v : Mem} {i : Nat} (hi : i < 64) : (wd G v)[i]? = some (G.2.1 i, cE G v i) := by
  simp [wd, hi]
theorem wd_len {G : GT} {v : Mem} : (wd G v).length = 64 := by simp [wd]
theorem wd_lt {G : GT} {v : Mem} {i : Nat} {q : Nat × va_E} (h : (wd G v)[i]? = some q) : i < 64 := by
  have := (List.getElem?_eq_some_iff.mp h).1
  rwa [wd_len] at this
theorem wd_D {G : GT} {v : Mem} {A : Nat → Prop} (hG : gok G) (hA : ∀ i, i < 64 → A (G.2.1 i)) : va_D A (wd G v) := by
  refine ⟨fun i j x y hi hj hxy => ?_, fun k q hk => ?_⟩
  · have h1 := wd_lt hi
    have h2 := wd_lt hj
    rw [wd_at h1] at hi
    rw [wd_at h2] at hj
    cases hi; cases hj
    exact hG i j h1 h2 hxy
  · have h1 := wd_lt hk
    rw [wd_at h1] at hk
    cases hk
    exact hA k h1
theorem wd_set {G : GT} {v v' : Mem} {i : Nat} {e : va_E} (he : cE G v' i = e) (ho : ∀ j, j ≠ i → cE G v' j = cE G v j) : (wd G v).set i (G.2.1 i, e) = wd G v' := by
  apply List.ext_getElem?
  intro j
  by_cases hj : j < 64
  · rw [wd_at hj]
    by_cases hji : j = i
    · subst hji
      rw [List.getElem?_set_self (by rw [wd_len]; exact hj), he]
    · rw [List.getElem?_set_ne (Ne.symm hji), wd_at hj, ho j hji]
  · rw [List.getElem?_eq_none (by rw [List.length_set, wd_len]; omega), List.getElem?_eq_none (by rw [wd_len]; omega)]
theorem cE1_loc {G : GT} {v v' : Mem} : ∀ (j : Nat) (_ : j < 40) (_ : v'.1 j = v.1 j) (_ : v'.2 j = v.2 j), cE1 G v' j = cE1 G v j
  | 0, _, h1, h2 => by simp only [cE1, h1, h2]
  | 1, _, h1, h2 => by simp only [cE1, h1, h2]
  | 2, _, h1, h2 => by simp only [cE1, h1, h2]
  | 3, _, h1, h2 => by simp only [cE1, h1, h2]
  | 4, _, h1, h2 => by simp only [cE1, h1, h2]
  | 5, _, h1, h2 => by simp only [cE1, h1, h2]
  | 6, _, h1, h2 => by simp only [cE1, h1, h2]
  | 7, _, h1, h2 => by simp only [cE1, h1, h2]
  | 8, _, h1, h2 => by simp only [cE1, h1, h2]
  | 9, _, h1, h2 => by simp only [cE1, h1, h2]
  | 10, _, h1, h2 => by simp only [cE1, h1, h2]
  | 11, _, h1, h2 => by simp only [cE1, h1, h2]
  | 12, _, h1, h2 => by simp only [cE1, h1, h2]
  | 13, _, h1, h2 => by simp only [cE1, h1, h2]
  | 14, _, h1, h2 => by simp only [cE1, h1, h2]
  | 15, _, h1, h2 => by simp only [cE1, h1, h2]
  | 16, _, h1, h2 => by simp only [cE1, h1, h2]
  | 17, _, h1, h2 => by simp only [cE1, h1, h2]
  | 18, _, h1, h2 => by simp only [cE1, h1, h2]
  | 19, _, h1, h2 => by simp only [cE1, h1, h2]
  | 20, _, h1, h2 => by simp only [cE1, h1, h2]
  | 21, _, h1, h2 => by simp only [cE1, h1, h2]
  | 22, _, h1, h2 => by simp only [cE1, h1, h2]
  | 23, _, h1, h2 => by simp only [cE1, h1, h2]
  | 24, _, h1, h2 => by simp only [cE1, h1, h2]
  | 25, _, h1, h2 => by simp only [cE1, h1, h2]
  | 26, _, h1, h2 => by simp only [cE1, h1, h2]
  | 27, _, h1, h2 => by simp only [cE1, h1, h2]
  | 28, _, h1, h2 => by simp only [cE1, h1, h2]
  | 29, _, h1, h2 => by simp only [cE1, h1, h2]
  | 30, _, h1, h2 => by simp only [cE1, h1, h2]
  | 31, _, h1, h2 => by simp only [cE1, h1, h2]
  | 32, _, h1, h2 => by simp only [cE1, h1, h2]
  | 33, _, h1, h2 => by simp only [cE1, h1, h2]
  | 34, _, h1, h2 => by simp only [cE1, h1, h2]
  | 35, _, h1, h2 => by simp only [cE1, h1, h2]
  | 36, _, h1, h2 => by simp only [cE1, h1, h2]
  | 37, _, h1, h2 => by simp only [cE1, h1, h2]
  | 38, _, h1, h2 => by simp only [cE1, h1, h2]
  | 39, _, h1, h2 => by simp only [cE1, h1, h2]
  | j + 40, hj, _, _ => by omega
theorem cE_loc {G : GT} {v v' : Mem} {j : Nat} (h1 : v'.1 j = v.1 j) (h2 : v'.2 j = v.2 j) : cE G v' j = cE G v j := by
  unfold cE
  by_cases hj : j < 40
  · rw [if_pos hj, if_pos hj, cE1_loc j hj h1 h2]
  · rw [if_neg hj, if_neg hj]
    simp only [h1]
/-! memory: one place changed -/
def u2 {α : Type} (f : Nat → Int → α) (i : Nat) (x : Int) (z : α) : Nat → Int → α := fun a b => if a = i ∧ b = x then z else f a b
def wI (v : Mem) (i : Nat) (x z : Int) : Mem := (u2 v.1 i x z, v.2)
def wL (v : Mem) (i : Nat) (x : Int) (z : Int64) : Mem := (v.1, u2 v.2 i x z)
theorem u2_s {α : Type} {f : Nat → Int → α} {i : Nat} {x : Int} {z : α} : u2 f i x z i x = z := by simp [u2]
theorem u2_n {α : Type} {f : Nat → Int → α} {i j : Nat} {x y : Int} {z : α} (h : ¬ (j = i ∧ y = x)) : u2 f i x z j y = f j y := by simp [u2, h]
theorem u2_r {α : Type} {f : Nat → Int → α} {i j : Nat} {x : Int} {z : α} (h : j ≠ i) : u2 f i x z j = f j := by
  funext y; simp [u2, h]
theorem cE_wI {G : GT} {v : Mem} {i : Nat} {x z : Int} {j : Nat} (h : j ≠ i) : cE G (wI v i x z) j = cE G v j := cE_loc (u2_r h) rfl
theorem cE_wL {G : GT} {v : Mem} {i : Nat} {x : Int} {z : Int64} {j : Nat} (h : j ≠ i) : cE G (wL v i x z) j = cE G v j := cE_loc rfl (u2_r h)
