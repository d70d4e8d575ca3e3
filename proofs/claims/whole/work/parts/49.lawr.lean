def R_law : String := "LinearReachLaw"
def lw_P (b : Addr) (xs : List Int32) (args : Array Value) (s : State) : Prop := args = #[.ref b] ∧ s.IntsAt b xs ∧ xs.length ≤ 3072 ∧ (Jvm.Cond.and given_1 narrow_1).before args s = true
def lw_Q (_ : Array Value) (s : State) (o : Outcome) (t : State) : Prop := o = .returned (some (.int 1)) ∧ Framed s o t [] 600000 7302250
def lw_Z (below : List Frame) (a : Array Value) (s : State) : State → Prop := fun t => ∃ o, t.status = .running ∧ Ended t below o ∧ lw_Q a s o t
/-- the law's own end, with 1 on the stack, nothing written that was there before, its room as the claim has it -/
theorem lw_ret {p : Program} {l : Launch} {e : Env} {s : State} {m : MethodId} {below : List Frame} {meth : Method} {c : Code} {b : Nat} (hx : p.tables.exec = Jvm.exec) (hb : c.code = code) (hr : meth.sig.returnType = ret) (hlocks : meth.locks = false) {pc : Nat} {H : Heap} {ls : Array Slot} (hdg : decode code pc = .ok (.ireturn, 1)) : W p l e room_1 s m #[Value.ref b] below meth c H [] 600000 7302250 (lw_Z below #[Value.ref b] s) (F0 m pc ls [.int 1]) := by
  intro T hT X
  obtain ⟨fs, hret, hrun, hended, hW, hframe⟩ := X.leave (v := some (.int 1)) (hlocks := hlocks) (fun h => by rw [hr] at h; cases h)
  have hmeth' : T.vm.method? m = some meth := X.method'
  refine ⟨T.setFrames fs, ?_, .returned (some (.int 1)), hrun, hended, rfl, ⟨_, rfl⟩, hW, hframe⟩
  jvm_step X.here [X.here.top, hx, hb, hdg, hmeth', hr, ret, narrow_b1]
  (try refine ⟨rfl, ?_⟩); (try refine ⟨rfl, ?_⟩)
  first | (intro acts; rw [hret _ acts rfl rfl rfl]) | rw [hret _ _ rfl rfl rfl]
  exact Steps.refl _
/-- what holds at the law's entry: the machine, the code, the tables' words (any of lw_tbl by 'hts w (by decide +kernel)'), the script of L ints xs at the cell b, what the Statement gives of the start (any of its parts by flat_of_before) -/
def lw_At (p : Program) (s : State) (m : MethodId) (meth : Method) (c : Code) (b L : Nat) (xs : Nat → Int32) : Prop :=
  p.tables.exec = Jvm.exec ∧ c.code = code ∧ meth.sig.returnType = ret ∧ c.maxLocals = 4 ∧ s.vm.findClass R_law = some m.cls ∧ (∀ w ∈ lw_tbl, w.before #[Value.ref b] s = true) ∧ va_X b L xs s s.heap ∧ b < s.heap.size ∧ meth.locks = false ∧ (Jvm.Cond.and given_1 narrow_1).before #[Value.ref b] s = true
/-! rules of the law's own -/
abbrev XL (p : Program) (l : Launch) (e : Env) (s : State) (m : MethodId) (b : Nat) (below : List Frame) (meth : Method) (c : Code) : CX := (p, l, e, room_1, s, m, #[Value.ref b], below, meth, c, 600000, 7302250, lw_Z below #[Value.ref b] s, fun q : Nat => s.heap.size ≤ q)
theorem and15 (x : Int32) : ∃ c : Int, (0 ≤ c ∧ c ≤ 15) ∧ x &&& iI 15 = iI c := by
  refine ⟨(x &&& iI 15).toInt, ?_, iI_of _⟩
  have h : (x &&& iI 15).toBitVec.toNat = x.toBitVec.toNat &&& 15 := by rw [Int32.toBitVec_and, BitVec.toNat_and]; rfl
  have h2 : x.toBitVec.toNat &&& 15 ≤ 15 := Nat.and_le_right
  have h3 : (x &&& iI 15).toInt = ((x &&& iI 15).toBitVec.toNat : Int) := by
    show (x &&& iI 15).toBitVec.toInt = _
    exact BitVec.toInt_eq_toNat_of_lt (by omega)
  omega
section Law
variable {X : CX} {G : GT} {nL : Nat} {cc : ByteArray} {own : String} {D : Nat} {v : Mem} {pc : Nat} {lv : List (Option Value)} {st : List Value}
theorem m_slen (h : Ok X G nL cc own D) {b L : Nat} {xs : Nat → Int32} (hX : va_X b L xs (x_s X) (x_s X).heap) (hbl : b < (x_s X).heap.size) (hbA : ¬ x_A X b) (hd : decode cc pc = .ok (.arraylength, 1)) (k : M X G nL v (pc + 1) lv (.int (iI (L : Int)) :: st)) : M X G nL v pc lv (.ref b :: st) := by
  intro H locs ls hP hS hl
  refine va_slen h.1 h.2.1 hX hbl hbA hS hd ?_
  rw [show Int32.ofNat L = iI (L : Int) from (iI_nI L).symm]
  exact k H locs ls hP hS hl
theorem m_sld (h : Ok X G nL cc own D) {b L : Nat} {xs : Nat → Int32} (hX : va_X b L xs (x_s X) (x_s X).heap) (hbl : b < (x_s X).heap.size) (hbA : ¬ x_A X b) (hL : L ≤ 3072) {x : Int} (hx : 0 ≤ x) (hxL : x < L) (hd : decode cc pc = .ok (.iaload, 1)) (k : M X G nL v (pc + 1) lv (.int (iI (xs x.toNat).toInt) :: st)) : M X G nL v pc lv (.int (iI x) :: .ref b :: st) := by
  intro H locs ls hP hS hl
  have e : (iI x).toNatClampNeg = x.toNat := by
    have := iI_clamp hx (by omega)
    omega
  refine va_sld h.1 h.2.1 hX hbl hbA hS (iI_in hx hxL (by omega)) hd ?_
  rw [e, iI_of (xs x.toNat)]
  exact k H locs ls hP hS hl
theorem m_eqT (h : Ok X G nL cc own D) {a b off : Int} {tgt : Nat} (hd : decode cc pc = .ok (.if_icmp .eq off, 3)) (ht : (pc : Int) + off = (tgt : Int)) (hab : a = b) (k : M X G nL v tgt lv st) : M X G nL v pc lv (.int (iI b) :: .int (iI a) :: st) :=
  fun H locs ls hP hS hl => lv_icmp_eq h.1 h.2.1 hd ht (fun _ => k H locs ls hP hS hl) (fun q => absurd (by rw [hab]) q)
theorem pz_blind {As : List Value} : FrameBlind (va_Pc As (fun U => Pw G v U ∧ Zs (aW G) U U.heap)) := by
  intro a U g mk q
  obtain ⟨q0, ⟨qP, qK, qN⟩, ts, qz, qt⟩ := q
  exact ⟨q0, ⟨qP, va_K.moved (u := U) (U := U.calling g mk a) (Vm.Alike.refl U.vm) qK, Nst.same (u := U) rfl qN⟩, ts, va_Z.moved (u := U) (U := U.calling g mk a) (Vm.Alike.refl U.vm) qz, va_T.moved (u := U) (U := U.calling g mk a) (Vm.Alike.refl U.vm) qt⟩
theorem m_vIz (h : Ok X G nL cc own D) (hZ : Zs (x_A X) (x_s X) (x_s X).heap) {y : MN} {d n index ci i : Nat} {As rest stk fs : List Value} {post : Int → Mem → Prop} (hM : CCz (x_l X) G y d (.ref (G.2.1 i) :: As) v (qI G post)) (mo : MOk y n) (vo : VOk y ci) (hl : Cond.methodLink own index y.1 ∈ gw) (hd : decode cc pc = .ok (.invokevirtual index, 3)) (hD : d + 1 ≤ D) (hi : i < 64) (hE : cE G v i = .inr (ci, fs)) (hs : stk = As.reverse ++ .ref (G.2.1 i) :: rest) (hn : As.length = n) (hW : (rest.map fun v => v.category).sum ≤ 8) (k : ∀ (r : Int) (u : Mem), post r u → M X G nL u (pc + 3) lv (.int (iI r) :: rest)) : M X G nL v pc lv stk := by
  intro H locs ls hP hS hlv
  subst hs
  have hts := h.2.2.2.2.1
  obtain ⟨h1, h2, q, hq, hqc⟩ := vo
  obtain ⟨ts, hz, hT⟩ := hZ
  have hz1 := (hz.kept (H1 := H) (fun a ha hna => hS.2.1 a ha hna)).narrow (aW_A h)
  have hT1 := (hT.kept (H1 := H) (fun a ha hna => hS.2.1 a ha hna)).narrow (aW_A h)
  refine m_backI h (va_runV (C := y.1.cls) (As := As) (rest := rest) ⟨h.1, h.2.1, h.2.2.1, h.2.2.2.1, hts⟩ hM ⟨m_cb h mo hD hl, hts _ h1, hts _ h2⟩ ⟨pz_blind, ?_, fun U hU hWm => ⟨rfl, ⟨by rw [hU]; exact hP, va_K.moved hWm.alike h.2.2.2.2.2.1, Nst.warm hWm h.2.2.2.2.2.2.1⟩, ts, by rw [hU]; exact hz1.moved hWm.alike, by rw [hU]; exact hT1.moved hWm.alike⟩⟩ rfl hn hlv.1 rfl (lv_room hW) hd h.2.2.2.2.2.2.2.2.2.2.2) hS hlv k
  rw [← hqc]
  exact va_recv h.2.2.2.2.2.1 hP hq (by rw [wd_at hi, hE])
end Law
theorem m_wret {p : Program} {l : Launch} {e : Env} {s : State} {m : MethodId} {b : Nat} {below : List Frame} {meth : Method} {c : Code} {G : GT} {nL : Nat} {v : Mem} {pc : Nat} {lv : List (Option Value)} (hx : p.tables.exec = Jvm.exec) (hb : c.code = code) (hr : meth.sig.returnType = ret) (hlocks : meth.locks = false) (hd : decode code pc = .ok (.ireturn, 1)) : M (XL p l e s m b below meth c) G nL v pc lv [.int (iI 1)] := by
  intro H locs ls hP hS hl
  refine va_forget (fun q hq => hS.2.2 q hq) ?_
  exact lw_ret hx hb hr hlocks hd
