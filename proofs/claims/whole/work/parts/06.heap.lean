/-! fields, rows of cells -/
def FldOk (ci k : Nat) (own : String) (index : Nat) : Prop := ∃ (C : String) (T : u_T) (N : Nat), vwCl[ci]? = some (C, T, N) ∧ k < N ∧ (∀ w ∈ u_ws C T N, w ∈ gw) ∧ Cond.fieldLink own index (T k).1 (T k).2.1 (T k).2.2.1 ∈ gw
def FldW (ci k : Nat) (own : String) (index : Nat) : Prop := ∃ (C : String) (T : u_T) (N : Nat) (ty0 : Nat → FieldType), vwCl[ci]? = some (C, T, N) ∧ k < N ∧ (∀ w ∈ u_ws C T N, w ∈ gw) ∧ Cond.fieldLink own index (T k).1 (T k).2.1 (T k).2.2.1 ∈ gw ∧ (∀ k, k < N → parseFieldDescriptor (T k).2.2.1 = some (ty0 k)) ∧ (∀ a, a < N → ∀ b, b < N → a ≠ b → (T a).2.1 ≠ (T b).2.1) ∧ (T k).2.2.2 = false ∧ parseFieldDescriptor (T k).2.2.1 = some .int
def isAI (G : GT) (i n : Nat) : Prop := i < 64 ∧ n ≤ 100000 ∧ ∀ u : Mem, cE G u i = aI G n (u.1 i)
def isAZ (G : GT) (i n : Nat) : Prop := i < 64 ∧ n ≤ 100000 ∧ ∀ u : Mem, cE G u i = aZ G n (u.1 i)
def isAL (G : GT) (i n : Nat) : Prop := i < 64 ∧ n ≤ 100000 ∧ ∀ u : Mem, cE G u i = aL G n (u.2 i)
section Heap
variable {X : CX} {G : GT} {nL : Nat} {cc : ByteArray} {own : String} {D : Nat} {v : Mem} {pc : Nat} {lv : List (Option Value)} {st : List Value}
theorem m_get (h : Ok X G nL cc own D) {ci k i index : Nat} {fs : List Value} {val : Value} (f : FldOk ci k own index) (hi : i < 64) (hE : cE G v i = .inr (ci, fs)) (hv : fs[k]? = some val) (hd : decode cc pc = .ok (.getfield index, 3)) (kk : M X G nL v (pc + 3) lv (val :: st)) : M X G nL v pc lv (.ref (G.2.1 i) :: st) := by
  intro H locs ls hP hS hl
  obtain ⟨C, T, N, hc, hk, hin, hlink⟩ := f
  exact va_get (D := G.1) h.1 h.2.1 h.2.2.2.2.1 hin h.2.2.2.1 h.2.2.2.2.2.1 hP i (by rw [wd_at hi, hE]) hc k hk (h.2.2.2.2.1 _ hlink) (fun _ h9 => h9) hv hd (kk H locs ls hP hS hl)
theorem m_putI (h : Ok X G nL cc own D) {ci k i index : Nat} {fs : List Value} {z : Int} (f : FldW ci k own index) (hi : i < 64) (hE : cE G v i = .inr (ci, fs)) (hl0 : k < fs.length) (hE' : cE G (wI v i (k : Int) z) i = .inr (ci, fs.set k (.int (iI z)))) (hd : decode cc pc = .ok (.putfield index, 3)) (kk : M X G nL (wI v i (k : Int) z) (pc + 3) lv st) : M X G nL v pc lv (.int (iI z) :: .ref (G.2.1 i) :: st) := by
  intro H locs ls hP hS hl
  obtain ⟨C, T, N, ty0, hc, hk, hin, hlink, hty, hnm, hfin, hint⟩ := f
  refine va_put (D := G.1) (ty := .int) (v := .int (iI z)) h.1 h.2.1 h.2.2.2.2.1 hin ty0 hty hnm h.2.2.2.1 h.2.2.2.2.2.1 hP (wd_D h.2.2.2.2.2.2.2.1 h.2.2.2.2.2.2.2.2.1) hS i (by rw [wd_at hi, hE]) hc k hk (h.2.2.2.2.1 _ hlink) (fun _ h9 => h9) hfin hint rfl rfl hl0 hd (fun H1 locs1 hP1 _ hS1 => ?_)
  rw [wd_set hE' (fun j hj => cE_wI hj)] at hP1
  exact kk H1 locs1 ls hP1 hS1 hl
theorem m_iald (h : Ok X G nL cc own D) {i n : Nat} {x : Int} (ha : isAI G i n) (hx : 0 ≤ x) (hxn : x < n) (hd : decode cc pc = .ok (.iaload, 1)) (kk : M X G nL v (pc + 1) lv (.int (iI (v.1 i x)) :: st)) : M X G nL v pc lv (.int (iI x) :: .ref (G.2.1 i) :: st) := by
  intro H locs ls hP hS hl
  obtain ⟨hi, hn, hE⟩ := ha
  refine va_iald (D := G.1) h.1 h.2.1 h.2.2.2.2.2.1 hP i 0 (by rw [wd_at hi, hE]) rfl (iI_in hx hxn (by omega)) hd ?_
  rw [iI_clamp hx (by omega)]
  exact kk H locs ls hP hS hl
theorem m_zald (h : Ok X G nL cc own D) {i n : Nat} {x : Int} (ha : isAZ G i n) (hx : 0 ≤ x) (hxn : x < n) (hd : decode cc pc = .ok (.baload, 1)) (kk : M X G nL v (pc + 1) lv (.int (iI (v.1 i x)) :: st)) : M X G nL v pc lv (.int (iI x) :: .ref (G.2.1 i) :: st) := by
  intro H locs ls hP hS hl
  obtain ⟨hi, hn, hE⟩ := ha
  refine va_zald (D := G.1) h.1 h.2.1 h.2.2.2.2.2.1 hP i 2 (by rw [wd_at hi, hE]) rfl (iI_in hx hxn (by omega)) hd ?_
  rw [iI_clamp hx (by omega)]
  exact kk H locs ls hP hS hl
theorem m_lald (h : Ok X G nL cc own D) {i n : Nat} {x : Int} (ha : isAL G i n) (hx : 0 ≤ x) (hxn : x < n) (hd : decode cc pc = .ok (.laload, 1)) (kk : M X G nL v (pc + 1) lv (.long (v.2 i x) :: st)) : M X G nL v pc lv (.int (iI x) :: .ref (G.2.1 i) :: st) := by
  intro H locs ls hP hS hl
  obtain ⟨hi, hn, hE⟩ := ha
  refine va_lald (D := G.1) h.1 h.2.1 h.2.2.2.2.2.1 hP i 1 (by rw [wd_at hi, hE]) rfl (iI_in hx hxn (by omega)) hd ?_
  rw [iI_clamp hx (by omega)]
  exact kk H locs ls hP hS hl
theorem m_aald (h : Ok X G nL cc own D) {x : Int} (j : Nat) (hx : x = (j : Int)) (hj : j < 12) (hd : decode cc pc = .ok (.aaload, 1)) (kk : M X G nL v (pc + 1) lv (.ref (G.2.1 (40 + j)) :: st)) : M X G nL v pc lv (.int (iI x) :: .ref (G.2.1 11) :: st) := by
  intro H locs ls hP hS hl
  subst hx
  refine va_aldq (D := G.1) h.1 h.2.1 h.2.2.2.2.2.1 hP 11 3 (wd_at (by omega)) rfl (iI_in (by omega) (by omega) (by omega)) hd ?_
  have e : (iI (j : Int)).toNatClampNeg = j := by
    have := iI_clamp (a := (j : Int)) (by omega) (by omega)
    omega
  rw [e]
  exact kk H locs ls hP hS hl
theorem upd_wI {v : Mem} {i : Nat} {x z : Int} (hx : 0 ≤ x) (hx2 : x ≤ 2147483647) : upd (fun j : Nat => iI (v.1 i (j : Int))) (iI x).toNatClampNeg (iI z) = fun j : Nat => iI ((wI v i x z).1 i (j : Int)) := by
  funext j
  have hc := iI_clamp hx hx2
  unfold upd
  by_cases hj : j = (iI x).toNatClampNeg
  · rw [if_pos hj, show (j : Int) = x by rw [hj]; exact hc]
    show iI z = iI (u2 v.1 i x z i x)
    rw [u2_s]
  · rw [if_neg hj]
    show iI (v.1 i j) = iI (u2 v.1 i x z i j)
    rw [u2_n (by rintro ⟨-, q⟩; exact hj (by omega))]
theorem m_iast (h : Ok X G nL cc own D) {i n : Nat} {x z : Int} (ha : isAI G i n) (hx : 0 ≤ x) (hxn : x < n) (hd : decode cc pc = .ok (.iastore, 1)) (kk : M X G nL (wI v i x z) (pc + 1) lv st) : M X G nL v pc lv (.int (iI z) :: .int (iI x) :: .ref (G.2.1 i) :: st) := by
  intro H locs ls hP hS hl
  obtain ⟨hi, hn, hE⟩ := ha
  refine va_iast (D := G.1) h.1 h.2.1 h.2.2.2.2.2.1 hP (wd_D h.2.2.2.2.2.2.2.1 h.2.2.2.2.2.2.2.2.1) hS i 0 (by rw [wd_at hi, hE]) rfl (iI_in hx hxn (by omega)) hd (fun H1 locs1 hP1 _ hS1 => ?_)
  rw [upd_wI hx (by omega), wd_set (v' := wI v i x z) (hE _) (fun j hj => cE_wI hj)] at hP1
  exact kk H1 locs1 ls hP1 hS1 hl
theorem m_zast (h : Ok X G nL cc own D) {i n : Nat} {x z : Int} (ha : isAZ G i n) (hx : 0 ≤ x) (hxn : x < n) (hz : z = 0 ∨ z = 1) (hd : decode cc pc = .ok (.bastore, 1)) (kk : M X G nL (wI v i x z) (pc + 1) lv st) : M X G nL v pc lv (.int (iI z) :: .int (iI x) :: .ref (G.2.1 i) :: st) := by
  intro H locs ls hP hS hl
  obtain ⟨hi, hn, hE⟩ := ha
  have hzn : vp_nar .boolean (iI z) = iI z := by rcases hz with rfl | rfl <;> decide
  refine va_zast (D := G.1) h.1 h.2.1 h.2.2.2.2.2.1 hP (wd_D h.2.2.2.2.2.2.2.1 h.2.2.2.2.2.2.2.2.1) hS i 2 (by rw [wd_at hi, hE]) rfl (iI_in hx hxn (by omega)) hd (fun H1 locs1 hP1 _ hS1 => ?_)
  rw [hzn, upd_wI hx (by omega), wd_set (v' := wI v i x z) (hE _) (fun j hj => cE_wI hj)] at hP1
  exact kk H1 locs1 ls hP1 hS1 hl
theorem m_last (h : Ok X G nL cc own D) {i n : Nat} {x : Int} {z : Int64} (ha : isAL G i n) (hx : 0 ≤ x) (hxn : x < n) (hd : decode cc pc = .ok (.lastore, 1)) (kk : M X G nL (wL v i x z) (pc + 1) lv st) : M X G nL v pc lv (.long z :: .int (iI x) :: .ref (G.2.1 i) :: st) := by
  intro H locs ls hP hS hl
  obtain ⟨hi, hn, hE⟩ := ha
  refine va_last (D := G.1) h.1 h.2.1 h.2.2.2.2.2.1 hP (wd_D h.2.2.2.2.2.2.2.1 h.2.2.2.2.2.2.2.2.1) hS i 1 (by rw [wd_at hi, hE]) rfl (iI_in hx hxn (by omega)) hd (fun H1 locs1 hP1 _ hS1 => ?_)
  have e : vp_updL (fun j : Nat => v.2 i (j : Int)) (iI x).toNatClampNeg z = fun j : Nat => (wL v i x z).2 i (j : Int) := by
    funext j
    have hc := iI_clamp hx (show x ≤ 2147483647 by omega)
    unfold vp_updL
    by_cases hj : j = (iI x).toNatClampNeg
    · rw [if_pos hj, show (j : Int) = x by rw [hj]; exact hc]
      show z = u2 v.2 i x z i x
      rw [u2_s]
    · rw [if_neg hj]
      show v.2 i j = u2 v.2 i x z i j
      rw [u2_n (by rintro ⟨-, q⟩; exact hj (by omega))]
  rw [e, wd_set (v' := wL v i x z) (hE _) (fun j hj => cE_wL hj)] at hP1
  exact kk H1 locs1 ls hP1 hS1 hl
end Heap
/-! contracts, calls, ends -/
def Pw (G : GT) (v : Mem) (U : State) : Prop := va_P G.1 vwCl (wd G v) U.heap ∧ va_K G.1 vwCl (tysG G) U ∧ Nst U
def Bw (G : GT) (v : Mem) (t : State) : Prop := va_P G.1 vwCl (wd G v) t.heap
def rmL (d : Nat) : Room := { frames := d, cells := 0, slots := 0, locals := 40 * d }
def qI (G : GT) (post : Int → Mem → Prop) : Array Value → State → Outcome → State → Prop := va_Qi (fun (x : Int32) (u : Mem) => ∃ r : Int, x = iI r ∧ post r u) (Bw G) (aW G)
def qL (G : GT) (post : Int64 → Mem → Prop) : Array Value → State → Outcome → State → Prop := va_Ql post (Bw G) (aW G)
def qV (G : GT) (post : Mem → Prop) : Array Value → State → Outcome → State → Prop := va_Qv post (Bw G) (aW G)
abbrev MN : Type := MethodName × ByteArray × Nat × Option FieldType
def CC (l : Launch) (G : GT) (y : MN) (d : Nat) (As : List Value) (v : Mem) (Q : Array Value → State → Outcome → State → Prop) : Prop := Met l y.1 (wM y.1 y.2.1 y.2.2.1 y.2.2.2) (rmL d) (va_Pc As (Pw G v)) Q 0 0 (aW G)
def Ret (X : CX) (G : GT) (y : MN) (Q : Array Value → State → Outcome → State → Prop) : Prop := (x_me X).sig.returnType = y.2.2.2 ∧ x_A X = aW G ∧ x_Q X = MQ (x_b X) Q (x_a X) (x_s X) (x_k X) (x_n X) (aW G)
def MOk (y : MN) (n : Nat) : Prop := Cond.initialized y.1.cls ∈ gw ∧ Cond.code y.1 y.2.1 y.2.2.1 y.2.2.2 ∈ gw ∧ (y.1.cls ≠ "java/lang/invoke/MethodHandle" ∧ y.1.cls ≠ "java/lang/invoke/VarHandle" ∧ (parseMethodDescriptor y.1.desc).map (fun d => d.parameters.length) = some n) ∧ y.2.2.1 ≤ 21
def VOk (y : MN) (ci : Nat) : Prop := Cond.instanceMethod y.1 ∈ gw ∧ Cond.selects y.1.cls y.1 y.1 ∈ gw ∧ ∃ q : vw_C, vwCl[ci]? = some q ∧ q.1 = y.1.cls
section Call
variable {X : CX} {G : GT} {nL : Nat} {cc : ByteArray} {own : String} {D : Nat} {v : Mem} {pc : Nat} {lv : List (Option Value)} {st : List Value}
theorem pw_blind {As : List Value} : FrameBlind (va_Pc As (Pw G v)) := by
  intro a U g mk q
  obtain ⟨q0, qP, qK, qN⟩ := q
  exact ⟨q0, qP, va_K.moved (u := U) (U := U.calling g mk a) (Vm.Alike.refl U.vm) qK, Nst.same (u := U) rfl qN⟩
theorem m_cb (h : Ok X G nL cc own D) {y : MN} {d n index : Nat} (mo : MOk y n) (hD : d + 1 ≤ D) (hl : Cond.methodLink own index y.1 ∈ gw) : CallB (x_R X) (x_s X) (x_a X) own index y.1 y.2.1 y.2.2.1 y.2.2.2 (wM y.1 y.2.1 y.2.2.1 y.2.2.2) (rmL d) 0 0 n := by
  obtain ⟨hini, hcode, hdd, hm⟩ := mo
  have hts := h.2.2.2.2.1
  have hR := h.2.2.2.2.2.2.2.2.2.2.1
  exact callB_of n hts (wM_good hcode) rfl rfl rfl (hts _ hini) (hts _ hl) hdd ⟨by show d + 1 ≤ _; omega, by show 8 + (y.2.2.1 + 11) + 40 * d ≤ _; omega⟩
theorem m_run (h : Ok X G nL cc own D) {y : MN} {d n index ci i : Nat} {As rest : List Value} {fs : List Value} {Q : Array Value → State → Outcome → State → Prop} (hM : CC (x_l X) G y d (.ref (G.2.1 i) :: As) v Q) (mo : MOk y n) (vo : VOk y ci) (hD : d + 1 ≤ D) (hl : Cond.methodLink own index y.1 ∈ gw) (hi : i < 64) (hE : cE G v i = .inr (ci, fs)) (hn : As.length = n) (hW : (rest.map fun v => v.category).sum ≤ 8) (hd : decode cc pc = .ok (.invokevirtual index, 3)) {H : Heap} {locs : List Loc} {ls : Array Slot} (hP : va_P G.1 vwCl (wd G v) H) (hsz : ls.size = nL) : va_Run (x_p X) (x_l X) (x_e X) (x_R X) (x_s X) (x_m X) (x_a X) (x_b X) (x_me X) (x_c X) H locs (x_k X) (x_n X) 0 0 (F0 (x_m X) pc ls (As.reverse ++ .ref (G.2.1 i) :: rest)) rest (Q (Value.ref (G.2.1 i) :: As).toArray) (aW G) := by
  have hts := h.2.2.2.2.1
  obtain ⟨h1, h2, q, hq, hqc⟩ := vo
  refine va_runV (C := y.1.cls) (As := As) (rest := rest) ⟨h.1, h.2.1, h.2.2.1, h.2.2.2.1, hts⟩ hM ⟨m_cb h mo hD hl, hts _ h1, hts _ h2⟩ ⟨pw_blind, ?_, fun U hU hWm => ⟨rfl, by rw [hU]; exact hP, va_K.moved hWm.alike h.2.2.2.2.2.1, Nst.warm hWm h.2.2.2.2.2.2.1⟩⟩ rfl hn hsz rfl (lv_room hW) hd h.2.2.2.2.2.2.2.2.2.2.2
  rw [← hqc]
  exact va_recv h.2.2.2.2.2.1 hP hq (by rw [wd_at hi, hE])
theorem m_runS (h : Ok X G nL cc own D) {y : MN} {d n index : Nat} {As rest : List Value} {Q : Array Value → State → Outcome → State → Prop} (hM : CC (x_l X) G y d As v Q) (mo : MOk y n) (hst : Cond.static y.1 ∈ gw) (hD : d + 1 ≤ D) (hl : Cond.methodLink own index y.1 ∈ gw) (hn : As.length = n) (hW : (rest.map fun v => v.category).sum ≤ 8) (hd : decode cc pc = .ok (.invokestatic index, 3)) {H : Heap} {locs : List Loc} {ls : Array Slot} (hP : va_P G.1 vwCl (wd G v) H) (hsz : ls.size = nL) : va_Run (x_p X) (x_l X) (x_e X) (x_R X) (x_s X) (x_m X) (x_a X) (x_b X) (x_me X) (x_c X) H locs (x_k X) (x_n X) 0 0 (F0 (x_m X) pc ls (As.reverse ++ rest)) rest (Q As.toArray) (aW G) := by
  have hts := h.2.2.2.2.1
  exact va_runS (As := As) (rest := rest) ⟨h.1, h.2.1, h.2.2.1, h.2.2.2.1, hts⟩ hM ⟨m_cb h mo hD hl, hts _ hst⟩ ⟨pw_blind, fun U hU hWm => ⟨rfl, by rw [hU]; exact hP, va_K.moved hWm.alike h.2.2.2.2.2.1, Nst.warm hWm h.2.2.2.2.2.2.1⟩⟩ rfl hn hsz rfl (lv_room hW) hd h.2.2.2.2.2.2.2.2.2.2.2
theorem m_runSN (h : Ok X G nL cc own D) {y : MN} {d n index : Nat} {host : String} {As rest : List Value} {Q : Array Value → State → Outcome → State → Prop} (hM : CC (x_l X) G y d As v Q) (mo : MOk y n) (hst : Cond.static y.1 ∈ gw) (hD : d + 1 ≤ D) (hl : Cond.methodLinkNest own index y.1 host ∈ nw) (hn : As.length = n) (hW : (rest.map fun v => v.category).sum ≤ 8) (hd : decode cc pc = .ok (.invokestatic index, 3)) {H : Heap} {locs : List Loc} {ls : Array Slot} (hP : va_P G.1 vwCl (wd G v) H) (hsz : ls.size = nL) : va_Run (x_p X) (x_l X) (x_e X) (x_R X) (x_s X) (x_m X) (x_a X) (x_b X) (x_me X) (x_c X) H locs (x_k X) (x_n X) 0 0 (F0 (x_m X) pc ls (As.reverse ++ rest)) rest (Q As.toArray) (aW G) := by
  have hts := h.2.2.2.2.1
  have hR := h.2.2.2.2.2.2.2.2.2.2.1
  obtain ⟨hini, hcode, hdd, hm⟩ := mo
  exact va_runSN (host := host) (As := As) (rest := rest) ⟨h.1, h.2.1, h.2.2.1, h.2.2.2.1, hts⟩ hM ⟨va_cnB n hts (wM_good hcode) rfl rfl rfl (h.2.2.2.2.2.2.1 _ hl) (hts _ hini) hdd ⟨by show d + 1 ≤ _; omega, by show 8 + (y.2.2.1 + 11) + 40 * d ≤ _; omega⟩, hts _ hst, trivial⟩ ⟨pw_blind, fun U hU hWm => ⟨rfl, by rw [hU]; exact hP, va_K.moved hWm.alike h.2.2.2.2.2.1, Nst.warm hWm h.2.2.2.2.2.2.1⟩⟩ rfl hn hsz rfl (lv_room hW) hd h.2.2.2.2.2.2.2.2.2.2.2
theorem aW_A (h : Ok X G nL cc own D) : ∀ q, aW G q → x_A X q := fun q ⟨i, hi, e⟩ => e ▸ h.2.2.2.2.2.2.2.2.1 i hi
theorem m_backI (h : Ok X G nL cc own D) {post : Int → Mem → Prop} {a : Array Value} {st0 rest : List Value} {H : Heap} {locs : List Loc} {ls : Array Slot} (hr : va_Run (x_p X) (x_l X) (x_e X) (x_R X) (x_s X) (x_m X) (x_a X) (x_b X) (x_me X) (x_c X) H locs (x_k X) (x_n X) 0 0 (F0 (x_m X) pc ls st0) rest (qI G post a) (aW G)) (hS : va_S (x_A X) (x_s X).heap H locs) (hl : lv_has ls nL (lvl lv)) (k : ∀ (r : Int) (u : Mem), post r u → M X G nL u (pc + 3) lv (.int (iI r) :: rest)) : x_W X H locs (F0 (x_m X) pc ls st0) := by
  refine va_calli hr hS (fun q _ => aW_A h q) (aW_A h) (fun r u t H1 locs1 ht hvm hp hB hz hk hS1 => ?_)
  obtain ⟨r', rfl, hp'⟩ := hp
  exact k r' u hp' H1 locs1 ls (by rw [← ht]; exact hB) hS1 hl
theorem m_backL (h : Ok X G nL cc own D) {post : Int64 → Mem → Prop} {a : Array Value} {st0 rest : List Value} {H : Heap} {locs : List Loc} {ls : Array Slot} (hr : va_Run (x_p X) (x_l X) (x_e X) (x_R X) (x_s X) (x_m X) (x_a X) (x_b X) (x_me X) (x_c X) H locs (x_k X) (x_n X) 0 0 (F0 (x_m X) pc ls st0) rest (qL G post a) (aW G)) (hS : va_S (x_A X) (x_s X).heap H locs) (hl : lv_has ls nL (lvl lv)) (k : ∀ (r : Int64) (u : Mem), post r u → M X G nL u (pc + 3) lv (.long r :: rest)) : x_W X H locs (F0 (x_m X) pc ls st0) := by
  refine va_calll hr hS (fun q _ => aW_A h q) (aW_A h) (fun r u t H1 locs1 ht hvm hp hB hz hk hS1 => ?_)
  exact k r u hp H1 locs1 ls (by rw [← ht]; exact hB) hS1 hl
theorem m_backV (h : Ok X G nL cc own D) {post : Mem → Prop} {a : Array Value} {st0 rest : List Value} {H : Heap} {locs : List Loc} {ls : Array Slot} (hr : va_Run (x_p X) (x_l X) (x_e X) (x_R X) (x_s X) (x_m X) (x_a X) (x_b X) (x_me X) (x_c X) H locs (x_k X) (x_n X) 0 0 (F0 (x_m X) pc ls st0) rest (qV G post a) (aW G)) (hS : va_S (x_A X) (x_s X).heap H locs) (hl : lv_has ls nL (lvl lv)) (k : ∀ (u : Mem), post u → M X G nL u (pc + 3) lv rest) : x_W X H locs (F0 (x_m X) pc ls st0) := by
  refine va_callv hr hS (fun q _ => aW_A h q) (aW_A h) (fun u t H1 locs1 ht hvm hp hB hz hk hS1 => ?_)
  exact k u hp H1 locs1 ls (by rw [← ht]; exact hB) hS1 hl
theorem m_vI (h : Ok X G nL cc own D) {y : MN} {d n index ci i : Nat} {As rest stk fs : List Value} {post : Int → Mem → Prop} (hM : CC (x_l X) G y d (.ref (G.2.1 i) :: As) v (qI G post)) (mo : MOk y n) (vo : VOk y ci) (hl : Cond.methodLink own index y.1 ∈ gw) (hd : decode cc pc = .ok (.invokevirtual index, 3)) (hD : d + 1 ≤ D) (hi : i < 64) (hE : cE G v i = .inr (ci, fs)) (hs : stk = As.reverse ++ .ref (G.2.1 i) :: rest) (hn : As.length = n) (hW : (rest.map fun v => v.category).sum ≤ 8) (k : ∀ (r : Int) (u : Mem), post r u → M X G nL u (pc + 3) lv (.int (iI r) :: rest)) : M X G nL v pc lv stk := by
  intro H locs ls hP hS hlv
  subst hs
  exact m_backI h (m_run h hM mo vo hD hl hi hE hn hW hd hP hlv.1) hS hlv k
theorem m_vL (h : Ok X G nL cc own D) {y : MN} {d n index ci i : Nat} {As rest stk fs : List Value} {post : Int64 → Mem → Prop} (hM : CC (x_l X) G y d (.ref (G.2.1 i) :: As) v (qL G post)) (mo : MOk y n) (vo : VOk y ci) (hl : Cond.methodLink own index y.1 ∈ gw) (hd : decode cc pc = .ok (.invokevirtual index, 3)) (hD : d + 1 ≤ D) (hi : i < 64) (hE : cE G v i = .inr (ci, fs)) (hs : stk = As.reverse ++ .ref (G.2.1 i) :: rest) (hn : As.length = n) (hW : (rest.map fun v => v.category).sum ≤ 8) (k : ∀ (r : Int64) (u : Mem), post r u → M X G nL u (pc + 3) lv (.long r :: rest)) : M X G nL v pc lv stk := by
  intro H locs ls hP hS hlv
  subst hs
  exact m_backL h (m_run h hM mo vo hD hl hi hE hn hW hd hP hlv.1) hS hlv k
theorem m_vV (h : Ok X G nL cc own D) {y : MN} {d n index ci i : Nat} {As rest stk fs : List Value} {post : Mem → Prop} (hM : CC (x_l X) G y d (.ref (G.2.1 i) :: As) v (qV G post)) (mo : MOk y n) (vo : VOk y ci) (hl : Cond.methodLink own index y.1 ∈ gw) (hd : decode cc pc = .ok (.invokevirtual index, 3)) (hD : d + 1 ≤ D) (hi : i < 64) (hE : cE G v i = .inr (ci, fs)) (hs : stk = As.reverse ++ .ref (G.2.1 i) :: rest) (hn : As.length = n) (hW : (rest.map fun v => v.category).sum ≤ 8) (k : ∀ (u : Mem), post u → M X G nL u (pc + 3) lv rest) : M X G nL v pc lv stk := by
  intro H locs ls hP hS hlv
  subst hs
  exact m_backV h (m_run h hM mo vo hD hl hi hE hn hW hd hP hlv.1) hS hlv k
theorem m_sI (h : Ok X G nL cc own D) {y : MN} {d n index : Nat} {As rest stk : List Value} {post : Int → Mem → Prop} (hM : CC (x_l X) G y d As v (qI G post)) (mo : MOk y n) (hst : Cond.static y.1 ∈ gw) (hl : Cond.methodLink own index y.1 ∈ gw) (hd : decode cc pc = .ok (.invokestatic index, 3)) (hD : d + 1 ≤ D) (hs : stk = As.reverse ++ rest) (hn : As.length = n) (hW : (rest.map fun v => v.category).sum ≤ 8) (k : ∀ (r : Int) (u : Mem), post r u → M X G nL u (pc + 3) lv (.int (iI r) :: rest)) : M X G nL v pc lv stk := by
  intro H locs ls hP hS hlv
  subst hs
  exact m_backI h (m_runS h hM mo hst hD hl hn hW hd hP hlv.1) hS hlv k
theorem m_sL (h : Ok X G nL cc own D) {y : MN} {d n index : Nat} {As rest stk : List Value} {post : Int64 → Mem → Prop} (hM : CC (x_l X) G y d As v (qL G post)) (mo : MOk y n) (hst : Cond.static y.1 ∈ gw) (hl : Cond.methodLink own index y.1 ∈ gw) (hd : decode cc pc = .ok (.invokestatic index, 3)) (hD : d + 1 ≤ D) (hs : stk = As.reverse ++ rest) (hn : As.length = n) (hW : (rest.map fun v => v.category).sum ≤ 8) (k : ∀ (r : Int64) (u : Mem), post r u → M X G nL u (pc + 3) lv (.long r :: rest)) : M X G nL v pc lv stk := by
  intro H locs ls hP hS hlv
  subst hs
  exact m_backL h (m_runS h hM mo hst hD hl hn hW hd hP hlv.1) hS hlv k
theorem m_nI (h : Ok X G nL cc own D) {y : MN} {d n index : Nat} {host : String} {As rest stk : List Value} {post : Int → Mem → Prop} (hM : CC (x_l X) G y d As v (qI G post)) (mo : MOk y n) (hst : Cond.static y.1 ∈ gw) (hl : Cond.methodLinkNest own index y.1 host ∈ nw) (hd : decode cc pc = .ok (.invokestatic index, 3)) (hD : d + 1 ≤ D) (hs : stk = As.reverse ++ rest) (hn : As.length = n) (hW : (rest.map fun v => v.category).sum ≤ 8) (k : ∀ (r : Int) (u : Mem), post r u → M X G nL u (pc + 3) lv (.int (iI r) :: rest)) : M X G nL v pc lv stk := by
  intro H locs ls hP hS hlv
  subst hs
  exact m_backI h (m_runSN h hM mo hst hD hl hn hW hd hP hlv.1) hS hlv k
theorem m_nL (h : Ok X G nL cc own D) {y : MN} {d n index : Nat} {host : String} {As rest stk : List Value} {post : Int64 → Mem → Prop} (hM : CC (x_l X) G y d As v (qL G post)) (mo : MOk y n) (hst : Cond.static y.1 ∈ gw) (hl : Cond.methodLinkNest own index y.1 host ∈ nw) (hd : decode cc pc = .ok (.invokestatic index, 3)) (hD : d + 1 ≤ D) (hs : stk = As.reverse ++ rest) (hn : As.length = n) (hW : (rest.map fun v => v.category).sum ≤ 8) (k : ∀ (r : Int64) (u : Mem), post r u → M X G nL u (pc + 3) lv (.long r :: rest)) : M X G nL v pc lv stk := by
  intro H locs ls hP hS hlv
  subst hs
  exact m_backL h (m_runSN h hM mo hst hD hl hn hW hd hP hlv.1) hS hlv k
theorem m_iret (h : Ok X G nL cc own D) {y : MN} {post : Int → Mem → Prop} (hR : Ret X G y (qI G post)) (hy : y.2.2.2 = some .int) {z : Int} (hd : decode cc pc = .ok (.ireturn, 1)) (hp : post z v) : M X G nL v pc lv [.int (iI z)] := by
  intro H locs ls hP hS hl
  obtain ⟨hr, hA, hQ⟩ := hR
  rw [hy] at hr
  rw [hA] at hS
  show W _ _ _ _ _ _ _ _ _ _ _ _ _ _ (x_Q X) _
  rw [hQ]
  exact W.iret h.1 h.2.1 hr (fun t ht hW => ⟨⟨iI z, v, rfl, ⟨z, rfl, hp⟩, by show va_P _ _ _ _; rw [ht]; exact hP⟩, hS.F ht⟩) hS.2.2 hd h.2.2.2.2.2.2.2.2.2.1
theorem m_zret (h : Ok X G nL cc own D) {y : MN} {post : Int → Mem → Prop} (hR : Ret X G y (qI G post)) (hy : y.2.2.2 = some .boolean) {z : Int} (hd : decode cc pc = .ok (.ireturn, 1)) (hz : z = 0 ∨ z = 1) (hp : post z v) : M X G nL v pc lv [.int (iI z)] := by
  intro H locs ls hP hS hl
  obtain ⟨hr, hA, hQ⟩ := hR
  rw [hy] at hr
  rw [hA] at hS
  show W _ _ _ _ _ _ _ _ _ _ _ _ _ _ (x_Q X) _
  rw [hQ]
  exact W.zret h.1 h.2.1 hr (by rcases hz with rfl | rfl <;> decide) (fun t ht hW => ⟨⟨iI z, v, rfl, ⟨z, rfl, hp⟩, by show va_P _ _ _ _; rw [ht]; exact hP⟩, hS.F ht⟩) hS.2.2 hd h.2.2.2.2.2.2.2.2.2.1
theorem m_lret (h : Ok X G nL cc own D) {y : MN} {post : Int64 → Mem → Prop} (hR : Ret X G y (qL G post)) (hy : y.2.2.2 = some .long) {z : Int64} (hd : decode cc pc = .ok (.lreturn, 1)) (hp : post z v) : M X G nL v pc lv [.long z] := by
  intro H locs ls hP hS hl
  obtain ⟨hr, hA, hQ⟩ := hR
  rw [hy] at hr
  rw [hA] at hS
  show W _ _ _ _ _ _ _ _ _ _ _ _ _ _ (x_Q X) _
  rw [hQ]
  exact W.lret h.1 h.2.1 hr (fun t ht hW => ⟨⟨z, v, rfl, hp, by show va_P _ _ _ _; rw [ht]; exact hP⟩, hS.F ht⟩) hS.2.2 hd h.2.2.2.2.2.2.2.2.2.1
theorem m_vret (h : Ok X G nL cc own D) {y : MN} {post : Mem → Prop} (hR : Ret X G y (qV G post)) (hy : y.2.2.2 = none) (hd : decode cc pc = .ok (.return_, 1)) (hp : post v) : M X G nL v pc lv [] := by
  intro H locs ls hP hS hl
  obtain ⟨hr, hA, hQ⟩ := hR
  rw [hy] at hr
  rw [hA] at hS
  show W _ _ _ _ _ _ _ _ _ _ _ _ _ _ (x_Q X) _
  rw [hQ]
  exact W.vret h.1 h.2.1 hr (fun t ht hW => ⟨⟨v, rfl, hp, by show va_P _ _ _ _; rw [ht]; exact hP⟩, hS.F ht⟩) hS.2.2 hd h.2.2.2.2.2.2.2.2.2.1
theorem m_start {l : Launch} {y : MN} {d : Nat} {As : List Value} {Q : Array Value → State → Outcome → State → Prop} (hG : gok G) (hy : plainName y.1.cls = true) (hlv : lvl lv = lv_args 0 As) (hln : (lg_sl As).length ≤ y.2.2.1) (body : ∀ X : CX, x_l X = l → Ok X G y.2.2.1 y.2.1 y.1.cls d → Ret X G y Q → M X G y.2.2.1 v 0 lv []) : CC l G y d As v Q := by
  refine Met.ofW (cc := y.2.1) (maxL := y.2.2.1) (ret := y.2.2.2) hy rfl ?_
  intro p e s m args below meth c s₁ B hml hv
  obtain ⟨rfl, hP, hK, hN⟩ := hv
  have hts := atoms_spec (ws := wM y.1 y.2.1 y.2.2.1 y.2.2.2) B.pre
  have hb := body (p, l, e, rmL d, s, m, As.toArray, below, meth, c, 0, 0, MQ below Q As.toArray s 0 0 (aW G), aW G) rfl ⟨B.exec, B.bytes, hml, findClass_of_methodNamed B.named, fun w hw => hts w (List.mem_cons_of_mem _ hw), hK, hN, hG, fun i hi => ⟨i, hi, rfl⟩, B.notSynchronized, ⟨Nat.le_refl _, Nat.le_refl _⟩, ⟨Nat.le_refl _, Nat.le_refl _⟩⟩ ⟨B.returns, rfl, rfl⟩ s.heap [] _ hP va_S.rf (by rw [hlv]; exact lv_entry As hln)
  rw [lg_entry_eq]
  exact hb
end Call
