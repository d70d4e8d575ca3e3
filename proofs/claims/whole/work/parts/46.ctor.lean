/-! making cells: the world is a list -/
abbrev WK (X : CX) (k n : Nat) (H : Heap) (locs : List Loc) (g : JFrame) : Prop := W (x_p X) (x_l X) (x_e X) (x_R X) (x_s X) (x_m X) (x_a X) (x_b X) (x_me X) (x_c X) H locs k n (x_Q X) g
def MC (X : CX) (G : GT) (nL k n : Nat) (ws : va_W) (pc : Nat) (lv : List (Option Value)) (st : List Value) : Prop :=
  ∀ (H : Heap) (locs : List Loc) (ls : Array Slot), va_P G.1 vwCl ws H → va_D (x_A X) ws → va_S (x_A X) (x_s X).heap H locs → lv_has ls nL (lvl lv) → WK X k n H locs (F0 (x_m X) pc ls st)
def OkC (X : CX) (G : GT) (nL : Nat) (cc : ByteArray) (own : String) (D K N : Nat) : Prop :=
  (x_p X).tables.exec = Jvm.exec ∧ (x_c X).code = cc ∧ (x_c X).maxLocals = nL ∧ (x_s X).vm.findClass own = some (x_m X).cls ∧ (∀ w ∈ gw, w.before (x_a X) (x_s X) = true) ∧ va_K G.1 vwCl (tysG G) (x_s X) ∧ Nst (x_s X) ∧ va_AO "LinearReach$Row" (x_s X) ∧ (∀ q, (x_s X).heap.size ≤ q → x_A X q) ∧ (x_me X).locks = false ∧ (D ≤ (x_R X).frames ∧ 40 * D ≤ (x_R X).locals) ∧ (K ≤ (x_R X).cells ∧ N ≤ (x_R X).slots)
def PwC (G : GT) (sz : Nat) (ws : va_W) (U : State) : Prop := U.heap.size = sz ∧ va_P G.1 vwCl ws U.heap ∧ va_K G.1 vwCl (tysG G) U ∧ Nst U ∧ va_AO "LinearReach$Row" U ∧ va_D (fun _ => True) ws
def BwC (G : GT) (A : Nat → Prop) (w1 : (Nat → Nat) → va_W) (a : Nat → Nat) (t : State) : Prop := va_P G.1 vwCl (w1 a) t.heap ∧ va_D A (w1 a)
def qC (G : GT) (sz : Nat) (ws : va_W) (w1 : (Nat → Nat) → va_W) : Array Value → State → Outcome → State → Prop := va_Qv (fun _ : Nat → Nat => True) (BwC G (va_A ws sz) w1) (va_A ws sz)
/-- a constructor's contract: from the cells ws it comes to the cells w1 at some addresses, with mc new cells of ms slots -/
def CI (l : Launch) (G : GT) (y : MN) (d mc ms : Nat) (As : List Value) (ws : va_W) (w1 : (Nat → Nat) → va_W) : Prop :=
  ∀ sz : Nat, Met l y.1 (wM y.1 y.2.1 y.2.2.1 y.2.2.2) ({ frames := d, cells := mc, slots := ms, locals := 40 * d } : Room) (va_Pc As (PwC G sz ws)) (qC G sz ws w1) mc ms (va_A ws sz)
def RetC (X : CX) (G : GT) (mc ms : Nat) (w1 : (Nat → Nat) → va_W) : Prop := (x_me X).sig.returnType = none ∧ (x_me X).name = "<init>" ∧ ∃ (sz : Nat) (ws : va_W), x_A X = va_A ws sz ∧ x_Q X = MQ (x_b X) (qC G sz ws w1) (x_a X) (x_s X) mc ms (va_A ws sz)
theorem pwC_blind {G : GT} {sz : Nat} {ws : va_W} {As : List Value} : FrameBlind (va_Pc As (PwC G sz ws)) := by
  intro a U g mk q
  obtain ⟨q0, q1, qP, qK, qN, qA, qD⟩ := q
  exact ⟨q0, q1, qP, va_K.moved (u := U) (U := U.calling g mk a) (Vm.Alike.refl U.vm) qK, Nst.same (u := U) rfl qN, va_AO.moved (u := U) (U := U.calling g mk a) (Vm.Alike.refl U.vm) qA, qD⟩
section Ctor
variable {X : CX} {G : GT} {nL : Nat} {cc : ByteArray} {own : String} {D K N k n : Nat} {ws : va_W} {pc : Nat} {lv : List (Option Value)} {st : List Value}
theorem c_iconst (h : OkC X G nL cc own D K N) {z : Int} (hd : decode cc pc = .ok (.iconst z, 1)) (kk : MC X G nL k n ws (pc + 1) lv (.int (iI z) :: st)) : MC X G nL k n ws pc lv st :=
  fun H locs ls hP hD hS hl => lv_iconst h.1 h.2.1 hd rfl (kk H locs ls hP hD hS hl)
theorem c_bipush (h : OkC X G nL cc own D K N) {z : Int} (hd : decode cc pc = .ok (.bipush z, 2)) (hn : (Int8.ofInt z).toInt32 = iI z) (kk : MC X G nL k n ws (pc + 2) lv (.int (iI z) :: st)) : MC X G nL k n ws pc lv st :=
  fun H locs ls hP hD hS hl => lv_bipush h.1 h.2.1 hd hn (kk H locs ls hP hD hS hl)
theorem c_sipush (h : OkC X G nL cc own D K N) {z : Int} (hd : decode cc pc = .ok (.sipush z, 3)) (hn : (Int16.ofInt z).toInt32 = iI z) (kk : MC X G nL k n ws (pc + 3) lv (.int (iI z) :: st)) : MC X G nL k n ws pc lv st :=
  fun H locs ls hP hD hS hl => lv_sipush h.1 h.2.1 hd hn (kk H locs ls hP hD hS hl)
theorem c_aload_n (h : OkC X G nL cc own D K N) {q : Fin 4} {i : Nat} {x : Nat} (hd : decode cc pc = .ok (.aload_n q, 1)) (hi : (q : Nat) = i) (hx : lv[i]? = some (some (.ref x))) (kk : MC X G nL k n ws (pc + 1) lv (.ref x :: st)) : MC X G nL k n ws pc lv st :=
  fun H locs ls hP hD hS hl => lv_aload_n h.1 h.2.1 hd hi (lvl_at hl hx) (kk H locs ls hP hD hS hl)
theorem c_iload_n (h : OkC X G nL cc own D K N) {q : Fin 4} {i : Nat} {x : Int32} (hd : decode cc pc = .ok (.iload_n q, 1)) (hi : (q : Nat) = i) (hx : lv[i]? = some (some (.int x))) (kk : MC X G nL k n ws (pc + 1) lv (.int x :: st)) : MC X G nL k n ws pc lv st :=
  fun H locs ls hP hD hS hl => lv_iload_n h.1 h.2.1 hd hi (lvl_at hl hx) (kk H locs ls hP hD hS hl)
theorem c_istore_n (h : OkC X G nL cc own D K N) {q : Fin 4} {i : Nat} {x : Int32} (hd : decode cc pc = .ok (.istore_n q, 1)) (hi : (q : Nat) = i) (hn : i < nL) (hg : noL lv i = true) (kk : MC X G nL k n ws (pc + 1) (lv.set i (some (.int x))) st) : MC X G nL k n ws pc lv (.int x :: st) :=
  fun H locs ls hP hD hS hl => lv_istore_n h.1 h.2.1 hd hi hl hn rfl (fun ls' hl' => kk H locs ls' hP hD hS (lv_set1 hg hl'))
theorem c_astore_n (h : OkC X G nL cc own D K N) {q : Fin 4} {i : Nat} {x : Nat} (hd : decode cc pc = .ok (.astore_n q, 1)) (hi : (q : Nat) = i) (hn : i < nL) (hg : noL lv i = true) (kk : MC X G nL k n ws (pc + 1) (lv.set i (some (.ref x))) st) : MC X G nL k n ws pc lv (.ref x :: st) :=
  fun H locs ls hP hD hS hl => lv_astore_n h.1 h.2.1 hd hi hl hn rfl (fun ls' hl' => kk H locs ls' hP hD hS (lv_set1 hg hl'))
theorem c_iinc (h : OkC X G nL cc own D K N) {i : Nat} {z x : Int} (hd : decode cc pc = .ok (.iinc i z, 3)) (hx : lv[i]? = some (some (.int (iI x)))) (hn : i < nL) (hg : noL lv i = true) (kk : MC X G nL k n ws (pc + 3) (lv.set i (some (.int (iI (x + z))))) st) : MC X G nL k n ws pc lv st := by
  intro H locs ls hP hD hS hl
  obtain ⟨q, hq⟩ := List.getElem?_of_mem (lvl_mem.mpr hx)
  exact lv_iinc (v := iI (x + z)) h.1 h.2.1 hd hl hq (iI_add x z) hn rfl (fun ls' hl' => kk H locs ls' hP hD hS (lv_set1 hg hl'))
theorem c_dup (h : OkC X G nL cc own D K N) {a : Value} (hd : decode cc pc = .ok (.dup, 1)) (ha : a.category = 1) (kk : MC X G nL k n ws (pc + 1) lv (a :: a :: st)) : MC X G nL k n ws pc lv (a :: st) :=
  fun H locs ls hP hD hS hl => lv_dup h.1 h.2.1 hd ha (kk H locs ls hP hD hS hl)
theorem c_goto (h : OkC X G nL cc own D K N) {off : Int} {tgt : Nat} (hd : decode cc pc = .ok (.goto off, 3)) (ht : (pc : Int) + off = (tgt : Int)) (kk : MC X G nL k n ws tgt lv st) : MC X G nL k n ws pc lv st :=
  fun H locs ls hP hD hS hl => lv_goto h.1 h.2.1 hd ht (kk H locs ls hP hD hS hl)
theorem c_geT (h : OkC X G nL cc own D K N) {a b : Int32} {off : Int} {tgt : Nat} (hd : decode cc pc = .ok (.if_icmp .ge off, 3)) (ht : (pc : Int) + off = (tgt : Int)) (hab : b ≤ a) (kk : MC X G nL k n ws tgt lv st) : MC X G nL k n ws pc lv (.int b :: .int a :: st) :=
  fun H locs ls hP hD hS hl => lv_icmp_ge h.1 h.2.1 hd ht (fun _ => kk H locs ls hP hD hS hl) (fun q => absurd hab q)
theorem c_geF (h : OkC X G nL cc own D K N) {a b : Int32} {off : Int} {tgt : Nat} (hd : decode cc pc = .ok (.if_icmp .ge off, 3)) (ht : (pc : Int) + off = (tgt : Int)) (hab : ¬ b ≤ a) (kk : MC X G nL k n ws (pc + 3) lv st) : MC X G nL k n ws pc lv (.int b :: .int a :: st) :=
  fun H locs ls hP hD hS hl => lv_icmp_ge h.1 h.2.1 hd ht (fun q => absurd q hab) (fun _ => kk H locs ls hP hD hS hl)
theorem oi_in : Cond.instanceMethod Lib.objectInit ∈ gw := tb_in (i := 20) (by decide +kernel) (by decide +kernel)
theorem oi_code : Cond.code Lib.objectInit ⟨#[0xb1]⟩ 1 none ∈ gw := tb_in (i := 21) (by decide +kernel) (by decide +kernel)
theorem c_objInit (h : OkC X G nL cc own D K N) {idx a : Nat} (hl0 : Cond.methodLink own idx Lib.objectInit ∈ gw) (hd : decode cc pc = .ok (.invokespecial idx, 3)) (hD1 : 1 ≤ D) (hst : (st.map fun v => v.category).sum ≤ 8) (kk : MC X G nL k n ws (pc + 3) lv st) : MC X G nL k n ws pc lv (.ref a :: st) := by
  intro H locs ls hP hD hS hl
  have hts := h.2.2.2.2.1
  have hR := h.2.2.2.2.2.2.2.2.2.2.1
  refine W.objInit h.1 h.2.1 h.2.2.2.1 (hts _ hl0) (hts _ oi_in) (hts _ oi_code) rfl (by rw [h.2.2.1]; exact hl.1) rfl hd (by omega) (by have h8 : 2 * (F0 (x_m X) pc ls (.ref a :: st)).monitorRoom + (st.map fun v => v.category).sum ≤ 8 := lv_room hst; omega) ?_
  exact kk H locs ls hP hD hS hl
def NewOk (ci : Nat) (own : String) (index : Nat) (fs : List Value) : Prop := ∃ (C : String) (T : u_T) (M : Nat) (ty : Nat → FieldType), vwCl[ci]? = some (C, T, M) ∧ (∀ w ∈ u_ws C T M, w ∈ gw) ∧ (∀ k, k < M → parseFieldDescriptor (T k).2.2.1 = some (ty k)) ∧ Cond.classLink own index C ∈ gw ∧ Cond.instantiable C M ∈ gw ∧ Cond.initialized C ∈ gw ∧ (∀ j, j < M → defaultValue (ty j) = vp_V fs j) ∧ M = fs.length
theorem c_new (h : OkC X G nL cc own D K N) {ci index : Nat} {fs : List Value} (o : NewOk ci own index fs) (hk : k + 1 ≤ K) (hn : n + fs.length ≤ N) (hd : decode cc pc = .ok (.new index, 3)) (kk : ∀ q : Nat, MC X G nL (k + 1) (n + fs.length) (ws ++ [(q, .inr (ci, fs))]) (pc + 3) lv (.ref q :: st)) : MC X G nL k n ws pc lv st := by
  intro H locs ls hP hD hS hl
  have hts := h.2.2.2.2.1
  have hR := h.2.2.2.2.2.2.2.2.2.2.2
  obtain ⟨C, T, M, ty, hc, hin, hty, h1, h2, h3, hfs, rfl⟩ := o
  exact va_new (ci := ci) (fs := fs) h.1 h.2.1 hts hin ty hty h.2.2.2.1 (hts _ h1) (hts _ h2) (hts _ h3) h.2.2.2.2.2.1 hP hD hS h.2.2.2.2.2.2.2.2.1 hc hfs (by omega) (by omega) hd (fun q H1 hP1 hD1 hS1 => kk q H1 locs ls hP1 hD1 hS1 hl)
theorem ra_u {s : State} {c c' : ClassId} {ty : FieldType} (hp : ∀ C, ty ≠ .object C) (h1 : va_RA s c ty) (h2 : va_RA s c' ty) : c = c' := by
  cases ty with
  | object C => exact absurd rfl (hp C)
  | _ => exact Option.some.inj (Eq.trans (Eq.symm h1) h2)
theorem ra_uo {s : State} {c c' : ClassId} {C : String} (h1 : va_RA s c (.object C)) (h2 : va_RA s c' (.object C)) : c = c' := by
  obtain ⟨_, _, _, _, _, a⟩ := h1
  obtain ⟨_, _, _, _, _, b⟩ := h2
  exact Option.some.inj (a.symm.trans b)
theorem ac_I : Cond.arrayClass .int ∈ gw := tb_in (i := 48) (by decide +kernel) (by decide +kernel)
theorem ac_L : Cond.arrayClass .long ∈ gw := tb_in (i := 47) (by decide +kernel) (by decide +kernel)
theorem ac_Z : Cond.arrayClass .boolean ∈ gw := tb_in (i := 599) (by decide +kernel) (by decide +kernel)
theorem ty_new {U : State} {cA : ClassId} {ty : FieldType} (hK : va_K G.1 vwCl (tysG G ++ [(cA, ty)]) U) : va_RA U cA ty := (hK.2 4 (cA, ty) rfl).2
theorem c_newI (h : OkC X G nL cc own D K N) {M : Nat} (hM : M ≤ 100000) (hk : k + 1 ≤ K) (hn : n + M ≤ N) (hd : decode cc pc = .ok (.newarray .int, 2)) (kk : ∀ q : Nat, MC X G nL (k + 1) (n + M) (ws ++ [(q, aI G M (fun _ => 0))]) (pc + 2) lv (.ref q :: st)) : MC X G nL k n ws pc lv (.int (iI (M : Int)) :: st) := by
  intro H locs ls hP hD hS hl
  have hts := h.2.2.2.2.1
  have hK := h.2.2.2.2.2.1
  have hR := h.2.2.2.2.2.2.2.2.2.2.2
  have hcl : ((iI (M : Int)).toNatClampNeg : Int) = M := iI_clamp (by omega) (by omega)
  refine va_newa (atype := .int) (ty := .int) (N' := M) (a0 := (M, .inl (fun _ => iI 0))) h.1 h.2.1 (hts _ ac_I) rfl hK hP hD hS h.2.2.2.2.2.2.2.2.1 (fun cA => rfl) (fun q => by have := (iI_lt (a := (M : Int)) (b := 0) (by omega) (by omega)).mp q; omega) (by omega) (by show M * 4 ≤ _; omega) (by omega) (by omega) hd (fun q cA H1 hK1 hP1 hD1 hS1 => ?_)
  have e : cA = G.2.2 0 := ra_u (by intro C q; cases q) (ty_new hK1) (hK.2 0 _ rfl).2
  subst e
  exact kk q H1 locs ls hP1 hD1 hS1 hl
theorem c_newZ (h : OkC X G nL cc own D K N) {M : Nat} (hM : M ≤ 100000) (hk : k + 1 ≤ K) (hn : n + M ≤ N) (hd : decode cc pc = .ok (.newarray .boolean, 2)) (kk : ∀ q : Nat, MC X G nL (k + 1) (n + M) (ws ++ [(q, aZ G M (fun _ => 0))]) (pc + 2) lv (.ref q :: st)) : MC X G nL k n ws pc lv (.int (iI (M : Int)) :: st) := by
  intro H locs ls hP hD hS hl
  have hts := h.2.2.2.2.1
  have hK := h.2.2.2.2.2.1
  have hR := h.2.2.2.2.2.2.2.2.2.2.2
  have hcl : ((iI (M : Int)).toNatClampNeg : Int) = M := iI_clamp (by omega) (by omega)
  refine va_newa (atype := .boolean) (ty := .boolean) (N' := M) (a0 := (M, .inl (fun _ => iI 0))) h.1 h.2.1 (hts _ ac_Z) rfl hK hP hD hS h.2.2.2.2.2.2.2.2.1 (fun cA => rfl) (fun q => by have := (iI_lt (a := (M : Int)) (b := 0) (by omega) (by omega)).mp q; omega) (by omega) (by show M * 1 ≤ _; omega) (by omega) (by omega) hd (fun q cA H1 hK1 hP1 hD1 hS1 => ?_)
  have e : cA = G.2.2 2 := ra_u (by intro C q; cases q) (ty_new hK1) (hK.2 2 _ rfl).2
  subst e
  exact kk q H1 locs ls hP1 hD1 hS1 hl
theorem c_newL (h : OkC X G nL cc own D K N) {M : Nat} (hM : M ≤ 100000) (hk : k + 1 ≤ K) (hn : n + M ≤ N) (hd : decode cc pc = .ok (.newarray .long, 2)) (kk : ∀ q : Nat, MC X G nL (k + 1) (n + M) (ws ++ [(q, aL G M (fun _ => 0))]) (pc + 2) lv (.ref q :: st)) : MC X G nL k n ws pc lv (.int (iI (M : Int)) :: st) := by
  intro H locs ls hP hD hS hl
  have hts := h.2.2.2.2.1
  have hK := h.2.2.2.2.2.1
  have hR := h.2.2.2.2.2.2.2.2.2.2.2
  have hcl : ((iI (M : Int)).toNatClampNeg : Int) = M := iI_clamp (by omega) (by omega)
  refine va_newa (atype := .long) (ty := .long) (N' := M) (a0 := (M, .inr (.inl (fun _ => 0)))) h.1 h.2.1 (hts _ ac_L) rfl hK hP hD hS h.2.2.2.2.2.2.2.2.1 (fun cA => rfl) (fun q => by have := (iI_lt (a := (M : Int)) (b := 0) (by omega) (by omega)).mp q; omega) (by omega) (by show M * 8 ≤ _; omega) (by omega) (by omega) hd (fun q cA H1 hK1 hP1 hD1 hS1 => ?_)
  have e : cA = G.2.2 1 := ra_u (by intro C q; cases q) (ty_new hK1) (hK.2 1 _ rfl).2
  subst e
  exact kk q H1 locs ls hP1 hD1 hS1 hl
abbrev aR (G : GT) (f : Nat → Option Nat) : va_E := .inl (G.2.2 3, 12, .inr (.inr (.inr (.inr f))))
theorem c_newR (h : OkC X G nL cc own D K N) {index : Nat} (hcl : Cond.classLink own index "LinearReach$Row" ∈ gw) (hk : k + 1 ≤ K) (hn : n + 12 ≤ N) (hd : decode cc pc = .ok (.anewarray index, 3)) (kk : ∀ q : Nat, MC X G nL (k + 1) (n + 12) (ws ++ [(q, aR G (fun _ => none))]) (pc + 3) lv (.ref q :: st)) : MC X G nL k n ws pc lv (.int (iI 12) :: st) := by
  intro H locs ls hP hD hS hl
  have hts := h.2.2.2.2.1
  have hK := h.2.2.2.2.2.1
  have hR := h.2.2.2.2.2.2.2.2.2.2.2
  refine va_newq (N' := 12) h.1 h.2.1 h.2.2.2.1 (hts _ hcl) h.2.2.2.2.2.2.2.1 hK hP hD hS h.2.2.2.2.2.2.2.2.1 (by decide) (by decide) (by decide) (by omega) (by omega) hd (fun q cA H1 hK1 hP1 hD1 hS1 => ?_)
  have e : cA = G.2.2 3 := ra_uo (ty_new hK1) (hK.2 3 _ rfl).2
  subst e
  exact kk q H1 locs ls hP1 hD1 hS1 hl
theorem c_astR (h : OkC X G nL cc own D K N) {a v i : Nat} {vs : List Value} {f : Nat → Option Nat} (hi : i < 12) (q0 qk : Nat) (ha : ws[q0]? = some (a, aR G f)) (hv : ws[qk]? = some (v, .inr (1, vs))) (hd : decode cc pc = .ok (.aastore, 1)) (kk : MC X G nL k n (ws.set q0 (a, aR G (va_up f i (some v)))) (pc + 1) lv st) : MC X G nL k n ws pc lv (.ref v :: .int (iI (i : Int)) :: .ref a :: st) := by
  intro H locs ls hP hD hS hl
  have e : (iI (i : Int)).toNatClampNeg = i := by
    have := iI_clamp (a := (i : Int)) (by omega) (by omega)
    omega
  refine va_astq h.1 h.2.1 h.2.2.2.2.2.1 hP hD hS q0 3 qk 1 (r := (RX1, TX1, 6)) ha rfl hv rfl (iI_in (by omega) (by omega) (by omega)) hd (fun H1 locs1 hP1 hD1 hS1 => ?_)
  rw [e] at hP1 hD1
  exact kk H1 locs1 ls hP1 hD1 hS1 hl
theorem c_get (h : OkC X G nL cc own D K N) {ci j index a : Nat} {fs : List Value} {val : Value} (f : FldOk ci j own index) (q0 : Nat) (he : ws[q0]? = some (a, .inr (ci, fs))) (hv : fs[j]? = some val) (hd : decode cc pc = .ok (.getfield index, 3)) (kk : MC X G nL k n ws (pc + 3) lv (val :: st)) : MC X G nL k n ws pc lv (.ref a :: st) := by
  intro H locs ls hP hD hS hl
  obtain ⟨C, T, N, hc, hk, hin, hlink⟩ := f
  exact va_get (D := G.1) h.1 h.2.1 h.2.2.2.2.1 hin h.2.2.2.1 h.2.2.2.2.2.1 hP q0 he hc j hk (h.2.2.2.2.1 _ hlink) (fun _ h9 => h9) hv hd (kk H locs ls hP hD hS hl)
theorem c_putI (h : OkC X G nL cc own D K N) {ci j index a : Nat} {fs : List Value} {z : Int} (f : FldW ci j own index) (q0 : Nat) (he : ws[q0]? = some (a, .inr (ci, fs))) (hl0 : j < fs.length) (hd : decode cc pc = .ok (.putfield index, 3)) (kk : MC X G nL k n (ws.set q0 (a, .inr (ci, fs.set j (.int (iI z))))) (pc + 3) lv st) : MC X G nL k n ws pc lv (.int (iI z) :: .ref a :: st) := by
  intro H locs ls hP hD hS hl
  obtain ⟨C, T, N, ty0, hc, hk, hin, hlink, hty, hnm, hfin, hint⟩ := f
  exact va_put (D := G.1) (ty := .int) (v := .int (iI z)) h.1 h.2.1 h.2.2.2.2.1 hin ty0 hty hnm h.2.2.2.1 h.2.2.2.2.2.1 hP hD hS q0 he hc j hk (h.2.2.2.2.1 _ hlink) (fun _ h9 => h9) hfin hint rfl rfl hl0 hd (fun H1 locs1 hP1 hD1 hS1 => kk H1 locs1 ls hP1 hD1 hS1 hl)
/-- a field of references, final or not -/
def FldR (ci j : Nat) (own : String) (index : Nat) : Prop := ∃ (C : String) (T : u_T) (N : Nat) (ty0 : Nat → FieldType) (ty : FieldType), vwCl[ci]? = some (C, T, N) ∧ j < N ∧ (∀ w ∈ u_ws C T N, w ∈ gw) ∧ Cond.fieldLink own index (T j).1 (T j).2.1 (T j).2.2.1 ∈ gw ∧ (∀ k, k < N → parseFieldDescriptor (T k).2.2.1 = some (ty0 k)) ∧ (∀ a, a < N → ∀ b, b < N → a ≠ b → (T a).2.1 ≠ (T b).2.1) ∧ (T j).1 = own ∧ parseFieldDescriptor (T j).2.2.1 = some ty ∧ ∀ q : Nat, narrow ty (.ref q) = .ref q ∧ fits ty (.ref q) = true
theorem c_putR (h : OkC X G nL cc own D K N) {mc ms : Nat} {w1 : (Nat → Nat) → va_W} (hr : RetC X G mc ms w1) {ci j index a b : Nat} {fs : List Value} (f : FldR ci j own index) (q0 : Nat) (he : ws[q0]? = some (a, .inr (ci, fs))) (hl0 : j < fs.length) (hd : decode cc pc = .ok (.putfield index, 3)) (kk : MC X G nL k n (ws.set q0 (a, .inr (ci, fs.set j (.ref b)))) (pc + 3) lv st) : MC X G nL k n ws pc lv (.ref b :: .ref a :: st) := by
  intro H locs ls hP hD hS hl
  obtain ⟨C, T, N, ty0, ty, hc, hk, hin, hlink, hty, hnm, hdecl, hint, hnf⟩ := f
  cases hfin : (T j).2.2.2 with
  | false => exact va_put (D := G.1) (ty := ty) (v := .ref b) h.1 h.2.1 h.2.2.2.2.1 hin ty0 hty hnm h.2.2.2.1 h.2.2.2.2.2.1 hP hD hS q0 he hc j hk (h.2.2.2.2.1 _ hlink) (fun _ h9 => h9) hfin hint (hnf b).1 (hnf b).2 hl0 hd (fun H1 locs1 hP1 hD1 hS1 => kk H1 locs1 ls hP1 hD1 hS1 hl)
  | true => exact va_putF (D := G.1) (ty := ty) (v := .ref b) h.1 h.2.1 h.2.2.2.2.1 hin ty0 hty hnm h.2.2.2.1 h.2.2.2.2.2.1 hP hD hS q0 he hc j hk (h.2.2.2.2.1 _ hlink) (fun _ h9 => h9) hfin hr.2.1 hdecl hint (hnf b).1 (hnf b).2 hl0 hd (fun H1 locs1 hP1 hD1 hS1 => kk H1 locs1 ls hP1 hD1 hS1 hl)
theorem c_ret (h : OkC X G nL cc own D K N) {mc ms : Nat} {w1 : (Nat → Nat) → va_W} (hr : RetC X G mc ms w1) (a : Nat → Nat) (hw : w1 a = ws) (hk : k ≤ mc) (hn : n ≤ ms) (hd : decode cc pc = .ok (.return_, 1)) : MC X G nL k n ws pc lv [] := by
  intro H locs ls hP hD hS hl
  obtain ⟨hr, -, sz, ws0, hA, hQ⟩ := hr
  rw [hA] at hS hD
  subst hw
  show W _ _ _ _ _ _ _ _ _ _ _ _ _ _ (x_Q X) _
  rw [hQ]
  refine W.widen hk hn ?_
  exact W.vret h.1 h.2.1 hr (fun t ht hW => ⟨⟨a, rfl, trivial, by rw [ht]; exact hP, hD⟩, hS.F ht⟩) hS.2.2 hd h.2.2.2.2.2.2.2.2.2.1
theorem c_back (h : OkC X G nL cc own D K N) {wc wr : va_W} {w1 : (Nat → Nat) → va_W} {mc ms : Nat} {a : Array Value} {st0 rest : List Value} {H : Heap} {locs : List Loc} {ls : Array Slot} (isC isR : List Nat) (hC : isC.map (fun i => ws[i]?) = wc.map some) (hRr : isR.map (fun i => ws[i]?) = wr.map some) (hnd : va_nd isR = true) (hdis : ∀ i ∈ isR, i ∉ isC) (hP : va_P G.1 vwCl ws H) (hD : va_D (x_A X) ws) (hS : va_S (x_A X) (x_s X).heap H locs) (hl : lv_has ls nL (lvl lv))
    (hr : va_Run (x_p X) (x_l X) (x_e X) (x_R X) (x_s X) (x_m X) (x_a X) (x_b X) (x_me X) (x_c X) H locs k n mc ms (F0 (x_m X) pc ls st0) rest (qC G H.size wc w1 a) (va_A wc H.size)) (kk : ∀ a : Nat → Nat, MC X G nL (k + mc) (n + ms) (wr ++ w1 a) (pc + 3) lv rest) : WK X k n H locs (F0 (x_m X) pc ls st0) := by
  have hF := va_free (wc := wc) hD hS h.2.2.2.2.2.2.2.2.1 isC hC
  refine va_callv hr hS (fun q _ q2 => hF q q2) hF (fun u t H1 locs1 ht hvm hp hB hz hk1 hS1 => ?_)
  obtain ⟨hP1, hD1⟩ := hB
  rw [ht] at hP1
  obtain ⟨hP2, hD2⟩ := va_join hP hD isC isR hC hRr hnd hdis hk1 hF hP1 hD1
  exact kk u H1 locs1 ls hP2 hD2 hS1 hl
theorem c_pre (h : OkC X G nL cc own D K N) {wc : va_W} {H : Heap} {As : List Value} (isC : List Nat) (hsub : isC.filterMap (fun i => ws[i]?) = wc) (hnd : va_nd isC = true) (hC : isC.map (fun i => ws[i]?) = wc.map some) (hP : va_P G.1 vwCl ws H) (hD : va_D (x_A X) ws) : PreS (x_s X) H (va_Pc As (PwC G H.size wc)) As :=
  ⟨pwC_blind, fun U hU hWm => ⟨rfl, by rw [hU], by rw [hU]; exact hP.sub isC hsub, va_K.moved hWm.alike h.2.2.2.2.2.1, Nst.warm hWm h.2.2.2.2.2.2.1, va_AO.moved hWm.alike h.2.2.2.2.2.2.2.1, (hD.sub isC hnd hC).weaken (fun _ _ _ _ => trivial)⟩⟩
theorem c_call (h : OkC X G nL cc own D K N) {y : MN} {d mc ms np index b : Nat} {As rest stk : List Value} {wc wr : va_W} {w1 : (Nat → Nat) → va_W} (hM : CI (x_l X) G y d mc ms (.ref b :: As) wc w1) (mo : MOk y np) (hin : Cond.instanceMethod y.1 ∈ gw) (hnm : y.1.name = "<init>") (hret : y.2.2.2 = none) (hl0 : Cond.methodLink own index y.1 ∈ gw) (hd : decode cc pc = .ok (.invokespecial index, 3)) (hD1 : d + 1 ≤ D) (hs : stk = As.reverse ++ .ref b :: rest) (hnp : As.length = np) (hW : (rest.map fun v => v.category).sum ≤ 8)
    (isC isR : List Nat) (hsub : isC.filterMap (fun i => ws[i]?) = wc) (hndC : va_nd isC = true) (hC : isC.map (fun i => ws[i]?) = wc.map some) (hRr : isR.map (fun i => ws[i]?) = wr.map some) (hnd : va_nd isR = true) (hdis : ∀ i ∈ isR, i ∉ isC) (hk : k + mc ≤ K) (hn : n + ms ≤ N) (kk : ∀ a : Nat → Nat, MC X G nL (k + mc) (n + ms) (wr ++ w1 a) (pc + 3) lv rest) : MC X G nL k n ws pc lv stk := by
  intro H locs ls hP hD hS hl
  subst hs
  have hts := h.2.2.2.2.1
  have hR1 := h.2.2.2.2.2.2.2.2.2.2.1
  have hR2 := h.2.2.2.2.2.2.2.2.2.2.2
  obtain ⟨hini, hcode, hdd, hm⟩ := id mo
  obtain ⟨y0, yc, ym, yr⟩ := y
  have hret : yr = none := hret
  subst hret
  exact c_back h isC isR hC hRr hnd hdis hP hD hS hl (va_runI (As := As) (rest := rest) ⟨h.1, h.2.1, h.2.2.1, h.2.2.2.1, hts⟩ (hM H.size) ⟨callB_of np hts (wM_good hcode) rfl rfl rfl (hts _ hini) (hts _ hl0) hdd ⟨by show d + 1 ≤ _; omega, by show 8 + (ym + 11) + 40 * d ≤ _; have hm : ym ≤ 21 := hm; omega⟩, hnm, hts _ hin⟩ (c_pre h isC hsub hndC hC hP hD) rfl hnp hl.1 rfl (lv_room hW) hd ⟨by omega, by omega⟩) kk
theorem c_callN (h : OkC X G nL cc own D K N) {y : MN} {d mc ms np index b : Nat} {host : String} {As rest stk : List Value} {wc wr : va_W} {w1 : (Nat → Nat) → va_W} (hM : CI (x_l X) G y d mc ms (.ref b :: As) wc w1) (mo : MOk y np) (hin : Cond.instanceMethod y.1 ∈ gw) (hnm : y.1.name = "<init>") (hret : y.2.2.2 = none) (hl0 : Cond.methodLinkNest own index y.1 host ∈ nw) (hd : decode cc pc = .ok (.invokespecial index, 3)) (hD1 : d + 1 ≤ D) (hs : stk = As.reverse ++ .ref b :: rest) (hnp : As.length = np) (hW : (rest.map fun v => v.category).sum ≤ 8)
    (isC isR : List Nat) (hsub : isC.filterMap (fun i => ws[i]?) = wc) (hndC : va_nd isC = true) (hC : isC.map (fun i => ws[i]?) = wc.map some) (hRr : isR.map (fun i => ws[i]?) = wr.map some) (hnd : va_nd isR = true) (hdis : ∀ i ∈ isR, i ∉ isC) (hk : k + mc ≤ K) (hn : n + ms ≤ N) (kk : ∀ a : Nat → Nat, MC X G nL (k + mc) (n + ms) (wr ++ w1 a) (pc + 3) lv rest) : MC X G nL k n ws pc lv stk := by
  intro H locs ls hP hD hS hl
  subst hs
  have hts := h.2.2.2.2.1
  have hR1 := h.2.2.2.2.2.2.2.2.2.2.1
  have hR2 := h.2.2.2.2.2.2.2.2.2.2.2
  obtain ⟨hini, hcode, hdd, hm⟩ := id mo
  obtain ⟨y0, yc, ym, yr⟩ := y
  have hret : yr = none := hret
  subst hret
  exact c_back h isC isR hC hRr hnd hdis hP hD hS hl (va_runIN (host := host) (As := As) (rest := rest) ⟨h.1, h.2.1, h.2.2.1, h.2.2.2.1, hts⟩ (hM H.size) ⟨va_cnB np hts (wM_good hcode) rfl rfl rfl (h.2.2.2.2.2.2.1 _ hl0) (hts _ hini) hdd ⟨by show d + 1 ≤ _; omega, by show 8 + (ym + 11) + 40 * d ≤ _; have hm : ym ≤ 21 := hm; omega⟩, hnm, hts _ hin⟩ (c_pre h isC hsub hndC hC hP hD) rfl hnp hl.1 rfl (lv_room hW) hd ⟨by omega, by omega⟩) kk
theorem c_start {l : Launch} {y : MN} {d mc ms : Nat} {As : List Value} {w1 : (Nat → Nat) → va_W} (hy : plainName y.1.cls = true) (hnm : y.1.name = "<init>") (hret : y.2.2.2 = none) (hlv : lvl lv = lv_args 0 As) (hln : (lg_sl As).length ≤ y.2.2.1) (body : ∀ X : CX, x_l X = l → OkC X G y.2.2.1 y.2.1 y.1.cls d mc ms → RetC X G mc ms w1 → MC X G y.2.2.1 0 0 ws 0 lv []) : CI l G y d mc ms As ws w1 := by
  intro sz
  refine Met.ofW (cc := y.2.1) (maxL := y.2.2.1) (ret := y.2.2.2) hy rfl ?_
  intro p e s m args below meth c s₁ B hml hv
  obtain ⟨rfl, hsz, hP, hK, hN, hAO, hD⟩ := hv
  subst hsz
  have hts := atoms_spec (ws := wM y.1 y.2.1 y.2.2.1 y.2.2.2) B.pre
  have hb := body (p, l, e, ({ frames := d, cells := mc, slots := ms, locals := 40 * d } : Room), s, m, As.toArray, below, meth, c, 0, 0, MQ below (qC G s.heap.size ws w1) As.toArray s mc ms (va_A ws s.heap.size), va_A ws s.heap.size) rfl ⟨B.exec, B.bytes, hml, findClass_of_methodNamed B.named, fun w hw => hts w (List.mem_cons_of_mem _ hw), hK, hN, hAO, fun q hq => Or.inr hq, B.notSynchronized, ⟨Nat.le_refl _, Nat.le_refl _⟩, ⟨Nat.le_refl _, Nat.le_refl _⟩⟩ ⟨by rw [← hret]; exact B.returns, by rw [← hnm]; exact (name_of_methodNamed B.named B.method).1, s.heap.size, ws, rfl, rfl⟩ s.heap [] _ hP (hD.self (sz := s.heap.size)) va_S.rf (by rw [hlv]; exact lv_entry As hln)
  rw [lg_entry_eq]
  exact hb
end Ctor
