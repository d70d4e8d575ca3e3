/-! Math, arraycopy -/
def cpI (v : Mem) (i0 i1 : Nat) (n : Int) : Mem := (fun a b => if a = i1 ∧ 0 ≤ b ∧ b < n then v.1 i0 b else v.1 a b, v.2)
def cpL (v : Mem) (i0 i1 : Nat) (n : Int) : Mem := (v.1, fun a b => if a = i1 ∧ 0 ≤ b ∧ b < n then v.2 i0 b else v.2 a b)
section Lib
variable {X : CX} {G : GT} {nL : Nat} {cc : ByteArray} {own : String} {D : Nat} {v : Mem} {pc : Nat} {lv : List (Option Value)} {st : List Value}
theorem m_max (h : Ok X G nL cc own D) {a b : Int} {index : Nat} (hl : Cond.methodLink own index Lib.Math.max.name ∈ gw) (hd : decode cc pc = .ok (.invokestatic index, 3)) (hD : 1 ≤ D) (hW : (st.map fun v => v.category).sum ≤ 8) (ha : -2147483648 ≤ a ∧ a ≤ 2147483647) (hb : -2147483648 ≤ b ∧ b ≤ 2147483647) (k : M X G nL v (pc + 3) lv (.int (iI (max a b)) :: st)) : M X G nL v pc lv (.int (iI b) :: .int (iI a) :: st) := by
  intro H locs ls hP hS hlv
  have hts := h.2.2.2.2.1
  have hR := h.2.2.2.2.2.2.2.2.2.2.1
  have hc := h.2.2.2.2.2.2.2.2.2.2.2
  refine va_mmax h.1 h.2.1 (h.2.2.1.trans hlv.1.symm) h.2.2.2.1 (hts _ hl) (hts _ stM_max) (hts _ iniM) (hts _ cdM_max) (by omega) (by omega) hc.1 hc.2 hd ?_
  rw [show (if iI a < iI b then iI b else iI a) = iI (max a b) by
    simp only [iI_lt ha hb]
    by_cases hab : a < b
    · rw [if_pos hab, Int.max_eq_right (by omega)]
    · rw [if_neg hab, Int.max_eq_left (by omega)]]
  exact k H locs ls hP hS hlv
theorem m_min (h : Ok X G nL cc own D) {a b : Int} {index : Nat} (hl : Cond.methodLink own index Lib.Math.min.name ∈ gw) (hd : decode cc pc = .ok (.invokestatic index, 3)) (hD : 1 ≤ D) (hW : (st.map fun v => v.category).sum ≤ 8) (ha : -2147483648 ≤ a ∧ a ≤ 2147483647) (hb : -2147483648 ≤ b ∧ b ≤ 2147483647) (k : M X G nL v (pc + 3) lv (.int (iI (min a b)) :: st)) : M X G nL v pc lv (.int (iI b) :: .int (iI a) :: st) := by
  intro H locs ls hP hS hlv
  have hts := h.2.2.2.2.1
  have hR := h.2.2.2.2.2.2.2.2.2.2.1
  have hc := h.2.2.2.2.2.2.2.2.2.2.2
  refine va_mmin h.1 h.2.1 (h.2.2.1.trans hlv.1.symm) h.2.2.2.1 (hts _ hl) (hts _ stM_min) (hts _ iniM) (hts _ cdM_min) (by omega) (by omega) hc.1 hc.2 hd ?_
  rw [show (if iI b < iI a then iI b else iI a) = iI (min a b) by
    simp only [iI_lt hb ha]
    by_cases hab : b < a
    · rw [if_pos hab, Int.min_eq_right (by omega)]
    · rw [if_neg hab, Int.min_eq_left (by omega)]]
  exact k H locs ls hP hS hlv
theorem m_abs (h : Ok X G nL cc own D) {a : Int} {index : Nat} (hl : Cond.methodLink own index Lib.Math.abs.name ∈ gw) (hd : decode cc pc = .ok (.invokestatic index, 3)) (hD : 1 ≤ D) (hW : (st.map fun v => v.category).sum ≤ 8) (ha : -2147483648 ≤ a ∧ a ≤ 2147483647) (k : M X G nL v (pc + 3) lv (.int (iI (if 0 ≤ a then a else -a)) :: st)) : M X G nL v pc lv (.int (iI a) :: st) := by
  intro H locs ls hP hS hlv
  have hts := h.2.2.2.2.1
  have hR := h.2.2.2.2.2.2.2.2.2.2.1
  have hc := h.2.2.2.2.2.2.2.2.2.2.2
  refine va_mabs h.1 h.2.1 (h.2.2.1.trans hlv.1.symm) h.2.2.2.1 (hts _ hl) (hts _ stM_abs) (hts _ iniM) (hts _ cdM_abs) (by omega) (by omega) hc.1 hc.2 hd ?_
  rw [show (if 0 ≤ iI a then iI a else 0 - iI a) = iI (if 0 ≤ a then a else -a) by
    have e0 : (0 : Int32) ≤ iI a ↔ 0 ≤ a := iI_le (a := 0) ⟨by omega, by omega⟩ ha
    by_cases hab : 0 ≤ a
    · rw [if_pos (e0.mpr hab), if_pos hab]
    · rw [if_neg (fun q => hab (e0.mp q)), if_neg hab, iI_0, iI_sub, Int.zero_sub]]
  exact k H locs ls hP hS hlv
theorem cp_words : nativeFrameWords "java/lang/System" "arraycopy" 5 + 11 ≤ 32 := by decide +kernel
theorem m_copyI (h : Ok X G nL cc own D) {index i0 i1 n : Nat} {c : Int} (hl : Cond.methodLink own index arraycopyName ∈ gw) (hd : decode cc pc = .ok (.invokestatic index, 3)) (hD : 1 ≤ D) (hW : (st.map fun v => v.category).sum ≤ 8) (a0 : isAI G i0 n) (a1 : isAI G i1 n) (hc : c = n) (k : M X G nL (cpI v i0 i1 n) (pc + 3) lv st) : M X G nL v pc lv (.int (iI c) :: .int (iI 0) :: .ref (G.2.1 i1) :: .int (iI 0) :: .ref (G.2.1 i0) :: st) := by
  intro H locs ls hP hS hlv
  subst hc
  have hts := h.2.2.2.2.1
  have hR := h.2.2.2.2.2.2.2.2.2.2.1
  obtain ⟨hi0, hn, hE0⟩ := a0
  obtain ⟨hi1, -, hE1⟩ := a1
  have hcl : (iI (n : Int)).toNatClampNeg = n := by
    have := iI_clamp (a := (n : Int)) (by omega) (by omega)
    omega
  have hcl0 : (iI 0).toNatClampNeg = 0 := rfl
  have hneg : ¬ iI (n : Int) < 0 := by
    rw [iI_0, iI_lt ⟨by omega, by omega⟩ ⟨by omega, by omega⟩]; omega
  have hw := cp_words
  refine va_copyi (D := G.1) (ty := .int) h.1 h.2.1 (h.2.2.1.trans hlv.1.symm) h.2.2.2.1 (hts _ hl) (hts _ ntM_copy) (hts _ stM_copy) (hts _ iniS) h.2.2.2.2.2.1 hP (wd_D h.2.2.2.2.2.2.2.1 h.2.2.2.2.2.2.2.2.1) hS i0 i1 0 0 (by rw [wd_at hi0, hE0]) (by rw [wd_at hi1, hE1]) rfl rfl rfl (by decide) (by decide) hneg (by rw [hcl, hcl0]; omega) (by rw [hcl, hcl0]; omega) (fun _ _ => rfl) (by omega) (by omega) hd (fun H1 locs1 hP1 _ hS1 => ?_)
  rw [hcl, hcl0] at hP1
  have e : va_cpy (fun j : Nat => iI (v.1 i0 (j : Int))) (fun j : Nat => iI (v.1 i1 (j : Int))) 0 0 n = fun j : Nat => iI ((cpI v i0 i1 n).1 i1 (j : Int)) := by
    funext j
    by_cases hj : j < n
    · rw [pk_cpy_in (by omega) (by omega)]
      simp only [cpI]
      rw [if_pos ⟨trivial, by omega, by omega⟩]
      rw [show 0 + (j - 0) = j by omega]
    · rw [pk_cpy_out (by omega)]
      simp only [cpI]
      rw [if_neg (by omega)]
  rw [e, wd_set (v := v) (v' := cpI v i0 i1 n) (hE1 _) (fun j hj => cE_loc (by funext b; simp [cpI, hj]) rfl)] at hP1
  exact k H1 locs1 ls hP1 hS1 hlv
theorem m_copyL (h : Ok X G nL cc own D) {index i0 i1 n : Nat} {c : Int} (hl : Cond.methodLink own index arraycopyName ∈ gw) (hd : decode cc pc = .ok (.invokestatic index, 3)) (hD : 1 ≤ D) (hW : (st.map fun v => v.category).sum ≤ 8) (a0 : isAL G i0 n) (a1 : isAL G i1 n) (hc : c = n) (k : M X G nL (cpL v i0 i1 n) (pc + 3) lv st) : M X G nL v pc lv (.int (iI c) :: .int (iI 0) :: .ref (G.2.1 i1) :: .int (iI 0) :: .ref (G.2.1 i0) :: st) := by
  intro H locs ls hP hS hlv
  subst hc
  have hts := h.2.2.2.2.1
  have hR := h.2.2.2.2.2.2.2.2.2.2.1
  obtain ⟨hi0, hn, hE0⟩ := a0
  obtain ⟨hi1, -, hE1⟩ := a1
  have hcl : (iI (n : Int)).toNatClampNeg = n := by
    have := iI_clamp (a := (n : Int)) (by omega) (by omega)
    omega
  have hcl0 : (iI 0).toNatClampNeg = 0 := rfl
  have hneg : ¬ iI (n : Int) < 0 := by
    rw [iI_0, iI_lt ⟨by omega, by omega⟩ ⟨by omega, by omega⟩]; omega
  have hw := cp_words
  refine va_copyl (D := G.1) (ty := .long) h.1 h.2.1 (h.2.2.1.trans hlv.1.symm) h.2.2.2.1 (hts _ hl) (hts _ ntM_copy) (hts _ stM_copy) (hts _ iniS) h.2.2.2.2.2.1 hP (wd_D h.2.2.2.2.2.2.2.1 h.2.2.2.2.2.2.2.2.1) hS i0 i1 1 1 (by rw [wd_at hi0, hE0]) (by rw [wd_at hi1, hE1]) rfl rfl rfl (by decide) (by decide) hneg (by rw [hcl, hcl0]; omega) (by rw [hcl, hcl0]; omega) (fun _ _ => rfl) (by omega) (by omega) hd (fun H1 locs1 hP1 _ hS1 => ?_)
  rw [hcl, hcl0] at hP1
  have e : va_cpy (fun j : Nat => v.2 i0 (j : Int)) (fun j : Nat => v.2 i1 (j : Int)) 0 0 n = fun j : Nat => (cpL v i0 i1 n).2 i1 (j : Int) := by
    funext j
    by_cases hj : j < n
    · rw [pk_cpy_in (by omega) (by omega)]
      simp only [cpL]
      rw [if_pos ⟨trivial, by omega, by omega⟩]
      rw [show 0 + (j - 0) = j by omega]
    · rw [pk_cpy_out (by omega)]
      simp only [cpL]
      rw [if_neg (by omega)]
  rw [e, wd_set (v := v) (v' := cpL v i0 i1 n) (hE1 _) (fun j hj => cE_loc rfl (by funext b; simp [cpL, hj]))] at hP1
  exact k H1 locs1 ls hP1 hS1 hlv
end Lib
